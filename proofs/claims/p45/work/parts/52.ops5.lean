/-! CALLS, 4: likeness, days to come, the wall -/
def likeR (S : ST) (i x o : Int32) (S' : ST) : Prop := (¬ (ibB i S.d.nA = true ∧ ibB x 16 = true) ∧ o = -(nI 1) ∧ S' = S) ∨ (∃ a m, i = nI a ∧ a < S.d.nA ∧ x = nI m ∧ m < 16 ∧ o = nI (lkN (kdN S.d a) (meN S.D.X a) m) ∧ S' = S)
def csX10_like : xCs := [(mX5_isAss, sX5_isAss), (mX10_isSet, sX10_isSet), (mX5_likeness, sX5_likeness)]
theorem okX10_like : xOkM mX10_like csX10_like := ⟨dX10_like, by decide +kernel, by decide +kernel, ⟨wdX10_31, wdX10_148, wdX10_230, wdX10_31, wdX10_38, wdX10_169, wdX10_233, trivial⟩⟩
theorem hhX10_like : ∀ q ∈ csX10_like, xHd q.1 := xall1 hX5_isAss (xall1 hX10_isSet (xall1 hX5_likeness (xall0)))
theorem kkX10_like : ∀ q ∈ csX10_like, ∀ l, xCon l q.1 q.2 := xall1 kX5_isAss (xall1 kX10_isSet (xall1 kX5_likeness (xall0)))
def sX10_like : xSpec := xReg fun as I L Q => ∃ (S : ST) (l k : Int32), as = [.ref 1, .int l, .int k] ∧ Cls S I L ∧ (∀ o S' I' L', likeR S l k o S' → frC I L I' L' → Cls S' I' L' → Q (some (.int o)) I' L')
set_option maxRecDepth 100000 in
theorem kX10_like : ∀ l, xCon l mX10_like sX10_like := by
  refine xcon_of okX10_like hX10_like rfl hhX10_like kkX10_like ?_
  rintro as n0 I L P Q ⟨hn9, rfl, S, l, k, rfl, hC, hQ⟩
  obtain ⟨e9, rfl⟩ := xe9 hn9
  refine ⟨Nat.le_of_ble_eq_true rfl, ?_⟩
  refine xrun okX10_like hhX10_like [] 60 ?_
  have h5 := hC.ok.d.a4
  refine ⟨rfl, rfl, S.d, l, hC.pl, rfl, ?_⟩
  cases hb : ibB l S.d.nA
  · (first | refine xbr_t (by decide) ?_ | refine xbr_f (by decide) ?_)
    exact hQ _ _ _ _ (Or.inl ⟨fun q => by rw [hb] at q; exact absurd q.1 (by decide), rfl, rfl⟩) (frC_0 _ _) hC
  · (first | refine xbr_t (by decide) ?_ | refine xbr_f (by decide) ?_)
    refine ⟨rfl, rfl, k, rfl, ?_⟩
    cases hw : ibB k 16
    · (first | refine xbr_t (by decide) ?_ | refine xbr_f (by decide) ?_)
      exact hQ _ _ _ _ (Or.inl ⟨fun q => by rw [hw] at q; exact absurd q.2 (by decide), rfl, rfl⟩) (frC_0 _ _) hC
    · obtain ⟨a, ha, rfl⟩ := ibB_t hb (by omega)
      obtain ⟨m, hm, rfl⟩ := ibB_t hw (by decide)
      (first | refine xbr_t (by decide) ?_ | refine xbr_f (by decide) ?_)
      have eX := hC.X
      refine ⟨rfl, rfl, S.d, S.D.X, a, m, hC.pl, by rw [eX], hC.ok.X.1, by omega, hm, ?_⟩
      exact hQ _ _ _ _ (Or.inr ⟨a, m, rfl, ha, rfl, hm, rfl, rfl⟩) (frC_0 _ _) hC
def whoR (S : ST) (x o : Int32) (S' : ST) : Prop := (ibB x 16 = false ∧ o = -(nI 1) ∧ S' = S) ∨ (∃ m, x = nI m ∧ m < 16 ∧ o = nI (bsN (fun i => wtB S.d S.D.X i m) S.d.nA) ∧ S' = S)
def csX10_who : xCs := [(mX10_isSet, sX10_isSet), (mX5_takersOf, sX5_takersOf)]
theorem okX10_who : xOkM mX10_who csX10_who := ⟨dX10_who, by decide +kernel, by decide +kernel, ⟨wdX10_230, wdX10_31, wdX10_38, wdX10_169, wdX10_237, trivial⟩⟩
theorem hhX10_who : ∀ q ∈ csX10_who, xHd q.1 := xall1 hX10_isSet (xall1 hX5_takersOf (xall0))
theorem kkX10_who : ∀ q ∈ csX10_who, ∀ l, xCon l q.1 q.2 := xall1 kX10_isSet (xall1 kX5_takersOf (xall0))
def sX10_who : xSpec := xReg fun as I L Q => ∃ (S : ST) (k : Int32), as = [.ref 1, .int k] ∧ Cls S I L ∧ (∀ o S' I' L', whoR S k o S' → frC I L I' L' → Cls S' I' L' → Q (some (.int o)) I' L')
set_option maxRecDepth 100000 in
theorem kX10_who : ∀ l, xCon l mX10_who sX10_who := by
  refine xcon_of okX10_who hX10_who rfl hhX10_who kkX10_who ?_
  rintro as n0 I L P Q ⟨hn9, rfl, S, k, rfl, hC, hQ⟩
  obtain ⟨e9, rfl⟩ := xe9 hn9
  refine ⟨Nat.le_of_ble_eq_true rfl, ?_⟩
  refine xrun okX10_who hhX10_who [] 60 ?_
  refine ⟨rfl, rfl, k, rfl, ?_⟩
  cases hw : ibB k 16
  · (first | refine xbr_t (by decide) ?_ | refine xbr_f (by decide) ?_)
    exact hQ _ _ _ _ (Or.inl ⟨hw, rfl, rfl⟩) (frC_0 _ _) hC
  · obtain ⟨m, hm, rfl⟩ := ibB_t hw (by decide)
    (first | refine xbr_t (by decide) ?_ | refine xbr_f (by decide) ?_)
    have eX := hC.X
    refine ⟨rfl, rfl, S.d, S.D.X, m, hC.pl, by rw [eX], hC.ok.X.1, hm, ?_⟩
    exact hQ _ _ _ _ (Or.inr ⟨m, rfl, hm, rfl, rfl⟩) (frC_0 _ _) hC
def whereR (S : ST) (l n o : Int32) (S' : ST) : Prop := (¬ (ibB l S.d.nL = true ∧ ibB n 61 = true) ∧ o = -(nI 1) ∧ S' = S) ∨ (∃ a m, l = nI a ∧ a < S.d.nL ∧ n = nI m ∧ m < 61 ∧ o = nI (plN (dyN S.d S.D.X m) a) ∧ S' = S)
def marksR (S : ST) (l n o : Int32) (S' : ST) : Prop := (¬ (ibB l S.d.nL = true ∧ ibB n 21 = true) ∧ o = -(nI 1) ∧ S' = S) ∨ (∃ a m, l = nI a ∧ a < S.d.nL ∧ n = nI m ∧ m < 21 ∧ (((mhN S.d S.D.X a m 16).1 = 0 ∧ o = -(nI 9) ∧ S' = S) ∨ (∃ v, (mhN S.d S.D.X a m 16).1 = v + 1 ∧ o = nI (pcf 32 (v ^^^ mkN S.D.X a)) ∧ S' = S.wT (nI v))))
def duelR (S : ST) (l n o : Int32) (S' : ST) : Prop := (¬ (ibB l S.d.nL = true ∧ ibB n 3 = true) ∧ o = -(nI 1) ∧ S' = S) ∨ (∃ a m, l = nI a ∧ a < S.d.nL ∧ n = nI m ∧ m < 3 ∧ o = nI (tuN (wrN S.d S.D.X) m (mkN S.D.X a)) ∧ S' = S)
def otS (S : ST) (a p : Nat) : ST := S.wC (lN (otN S.d S.D.X a p (2 ^ S.d.nA) / Nat.gcd (otN S.d S.D.X a p (2 ^ S.d.nA)) (12 ^ S.d.nA))) (lN (12 ^ S.d.nA / Nat.gcd (otN S.d S.D.X a p (2 ^ S.d.nA)) (12 ^ S.d.nA)))
def ohS (S : ST) (p : Nat) : ST := S.wC (lN (ohN S.d S.D.X p (2 ^ S.d.nA) / Nat.gcd (ohN S.d S.D.X p (2 ^ S.d.nA)) (12 ^ S.d.nA))) (lN (12 ^ S.d.nA / Nat.gcd (ohN S.d S.D.X p (2 ^ S.d.nA)) (12 ^ S.d.nA)))
def oddsR (S : ST) (l n o : Int32) (S' : ST) : Prop := (¬ (ibB l S.d.nL = true ∧ ibB n 13 = true) ∧ o = -(nI 1) ∧ S' = S) ∨ (∃ a m, l = nI a ∧ a < S.d.nL ∧ n = nI m ∧ m < 13 ∧ o = nI 1 ∧ S' = otS S a m)
def csX10_where : xCs := [(mX5_isLoad, sX5_isLoad), (mX2_behindDays, sX2_behindDays), (mX7_placeOf, sX7_placeOf)]
theorem okX10_where : xOkM mX10_where csX10_where := ⟨dX10_where, by decide +kernel, by decide +kernel, ⟨wdX10_31, wdX10_154, wdX10_31, wdX10_38, wdX10_169, wdX10_240, wdX10_244, trivial⟩⟩
theorem hhX10_where : ∀ q ∈ csX10_where, xHd q.1 := xall1 hX5_isLoad (xall1 hX2_behindDays (xall1 hX7_placeOf (xall0)))
theorem kkX10_where : ∀ q ∈ csX10_where, ∀ l, xCon l q.1 q.2 := xall1 kX5_isLoad (xall1 kX2_behindDays (xall1 kX7_placeOf (xall0)))
def sX10_where : xSpec := xReg fun as I L Q => ∃ (S : ST) (l k : Int32), as = [.ref 1, .int l, .int k] ∧ Cls S I L ∧ (∀ o S' I' L', whereR S l k o S' → frC I L I' L' → Cls S' I' L' → Q (some (.int o)) I' L')
set_option maxRecDepth 100000 in
theorem kX10_where : ∀ l, xCon l mX10_where sX10_where := by
  refine xcon_of okX10_where hX10_where rfl hhX10_where kkX10_where ?_
  rintro as n0 I L P Q ⟨hn9, rfl, S, l, k, rfl, hC, hQ⟩
  obtain ⟨e9, rfl⟩ := xe9 hn9
  refine ⟨Nat.le_of_ble_eq_true rfl, ?_⟩
  refine xrun okX10_where hhX10_where [] 60 ?_
  have h5 := hC.ok.d.l5
  refine ⟨rfl, rfl, S.d, l, hC.pl, rfl, ?_⟩
  cases hb : ibB l S.d.nL
  · (first | refine xbr_t (by decide) ?_ | refine xbr_f (by decide) ?_)
    exact hQ _ _ _ _ (Or.inl ⟨fun q => by rw [hb] at q; exact absurd q.1 (by decide), rfl, rfl⟩) (frC_0 _ _) hC
  · (first | refine xbr_t (by decide) ?_ | refine xbr_f (by decide) ?_)
    cases hw : ibB k 61
    · have hk := ib_f hw
      have done := hQ _ _ _ _ (Or.inl ⟨fun q => by rw [hw] at q; exact absurd q.2 (by decide), rfl, rfl⟩) (frC_0 _ _) hC
      by_cases hn : k.toInt < 0
      · repeat (first | (refine xbr_f ?_ ?_; (focus ((simp (disch := omega) only [ix_lt, ix_le, ix_eq, ix_0, nI_clamp, nI_toInt, ng_T, nI_add, nI_mul, nI_sub', Int.neg_zero, not_false_eq_true, not_true_eq_false] <;> omega); done))) | (refine xbr_t ?_ ?_; (focus ((simp (disch := omega) only [ix_lt, ix_le, ix_eq, ix_0, nI_clamp, nI_toInt, ng_T, nI_add, nI_mul, nI_sub', Int.neg_zero, not_false_eq_true, not_true_eq_false] <;> omega); done))) | refine ⟨Or.inl rfl, ?_⟩ | refine ⟨Or.inr rfl, ?_⟩ | (refine ⟨?_, ?_⟩; (focus (exact in_nI (by omega) (by omega)))))
        exact done
      · repeat (first | (refine xbr_f ?_ ?_; (focus ((simp (disch := omega) only [ix_lt, ix_le, ix_eq, ix_0, nI_clamp, nI_toInt, ng_T, nI_add, nI_mul, nI_sub', Int.neg_zero, not_false_eq_true, not_true_eq_false] <;> omega); done))) | (refine xbr_t ?_ ?_; (focus ((simp (disch := omega) only [ix_lt, ix_le, ix_eq, ix_0, nI_clamp, nI_toInt, ng_T, nI_add, nI_mul, nI_sub', Int.neg_zero, not_false_eq_true, not_true_eq_false] <;> omega); done))) | refine ⟨Or.inl rfl, ?_⟩ | refine ⟨Or.inr rfl, ?_⟩ | (refine ⟨?_, ?_⟩; (focus (exact in_nI (by omega) (by omega)))))
        exact done
    · obtain ⟨a, ha, rfl⟩ := ibB_t hb (by omega)
      obtain ⟨m, hm, rfl⟩ := ibB_t hw (by decide)
      have hQ := fun o S' I' L' h => hQ o S' I' L' (Or.inr ⟨a, m, rfl, ha, rfl, hm, h⟩)
      have eX := hC.X
      have hX : S.D.X < 2 ^ 63 := hC.ok.X.1
      repeat (first | (refine xbr_f ?_ ?_; (focus ((simp (disch := omega) only [ix_lt, ix_le, ix_eq, ix_0, nI_clamp, nI_toInt, ng_T, nI_add, nI_mul, nI_sub', Int.neg_zero, not_false_eq_true, not_true_eq_false] <;> omega); done))) | (refine xbr_t ?_ ?_; (focus ((simp (disch := omega) only [ix_lt, ix_le, ix_eq, ix_0, nI_clamp, nI_toInt, ng_T, nI_add, nI_mul, nI_sub', Int.neg_zero, not_false_eq_true, not_true_eq_false] <;> omega); done))) | refine ⟨Or.inl rfl, ?_⟩ | refine ⟨Or.inr rfl, ?_⟩ | (refine ⟨?_, ?_⟩; (focus (exact in_nI (by omega) (by omega)))))
      refine ⟨rfl, rfl, S.d, S.D.X, m, hC.pl, by rw [eX], hX, by omega, ?_⟩
      have hY := dyN_lt hC.ok.d hX m
      refine ⟨rfl, rfl, dyN S.d S.D.X m, a, rfl, by omega, by omega, ?_⟩
      exact hQ _ _ _ _ ⟨rfl, rfl⟩ (frC_0 _ _) hC
def csX10_marks : xCs := [(mX5_isLoad, sX5_isLoad), (mX2_marksToHome, sX2_marksToHome), (mX10_tell, sX10_tell), (mX7_marksOf, sX7_marksOf), (mJ6_bitCount_0f7a4, sJ6_bitCount_0f7a4)]
theorem okX10_marks : xOkM mX10_marks csX10_marks := ⟨dX10_marks, by decide +kernel, by decide +kernel, ⟨wdX10_31, wdX10_154, wdX10_38, wdX10_169, wdX10_31, wdX10_257, wdX10_95, wdX10_208, wdX10_178, trivial⟩⟩
theorem hhX10_marks : ∀ q ∈ csX10_marks, xHd q.1 := xall1 hX5_isLoad (xall1 hX2_marksToHome (xall1 hX10_tell (xall1 hX7_marksOf (xall1 hJ6_bitCount_0f7a4 (xall0)))))
theorem kkX10_marks : ∀ q ∈ csX10_marks, ∀ l, xCon l q.1 q.2 := xall1 kX5_isLoad (xall1 kX2_marksToHome (xall1 kX10_tell (xall1 kX7_marksOf (xall1 kJ6_bitCount_0f7a4 (xall0)))))
def sX10_marks : xSpec := xReg fun as I L Q => ∃ (S : ST) (l k : Int32), as = [.ref 1, .int l, .int k] ∧ Cls S I L ∧ (∀ o S' I' L', marksR S l k o S' → frC I L I' L' → Cls S' I' L' → Q (some (.int o)) I' L')
set_option maxRecDepth 100000 in
theorem kX10_marks : ∀ l, xCon l mX10_marks sX10_marks := by
  refine xcon_of okX10_marks hX10_marks rfl hhX10_marks kkX10_marks ?_
  rintro as n0 I L P Q ⟨hn9, rfl, S, l, k, rfl, hC, hQ⟩
  obtain ⟨e9, rfl⟩ := xe9 hn9
  refine ⟨Nat.le_of_ble_eq_true rfl, ?_⟩
  refine xrun okX10_marks hhX10_marks [] 60 ?_
  have h5 := hC.ok.d.l5
  refine ⟨rfl, rfl, S.d, l, hC.pl, rfl, ?_⟩
  cases hb : ibB l S.d.nL
  · (first | refine xbr_t (by decide) ?_ | refine xbr_f (by decide) ?_)
    exact hQ _ _ _ _ (Or.inl ⟨fun q => by rw [hb] at q; exact absurd q.1 (by decide), rfl, rfl⟩) (frC_0 _ _) hC
  · (first | refine xbr_t (by decide) ?_ | refine xbr_f (by decide) ?_)
    cases hw : ibB k 21
    · have hk := ib_f hw
      have done := hQ _ _ _ _ (Or.inl ⟨fun q => by rw [hw] at q; exact absurd q.2 (by decide), rfl, rfl⟩) (frC_0 _ _) hC
      by_cases hn : k.toInt < 0
      · repeat (first | (refine xbr_f ?_ ?_; (focus ((simp (disch := omega) only [ix_lt, ix_le, ix_eq, ix_0, nI_clamp, nI_toInt, ng_T, nI_add, nI_mul, nI_sub', Int.neg_zero, not_false_eq_true, not_true_eq_false] <;> omega); done))) | (refine xbr_t ?_ ?_; (focus ((simp (disch := omega) only [ix_lt, ix_le, ix_eq, ix_0, nI_clamp, nI_toInt, ng_T, nI_add, nI_mul, nI_sub', Int.neg_zero, not_false_eq_true, not_true_eq_false] <;> omega); done))) | refine ⟨Or.inl rfl, ?_⟩ | refine ⟨Or.inr rfl, ?_⟩ | (refine ⟨?_, ?_⟩; (focus (exact in_nI (by omega) (by omega)))))
        exact done
      · repeat (first | (refine xbr_f ?_ ?_; (focus ((simp (disch := omega) only [ix_lt, ix_le, ix_eq, ix_0, nI_clamp, nI_toInt, ng_T, nI_add, nI_mul, nI_sub', Int.neg_zero, not_false_eq_true, not_true_eq_false] <;> omega); done))) | (refine xbr_t ?_ ?_; (focus ((simp (disch := omega) only [ix_lt, ix_le, ix_eq, ix_0, nI_clamp, nI_toInt, ng_T, nI_add, nI_mul, nI_sub', Int.neg_zero, not_false_eq_true, not_true_eq_false] <;> omega); done))) | refine ⟨Or.inl rfl, ?_⟩ | refine ⟨Or.inr rfl, ?_⟩ | (refine ⟨?_, ?_⟩; (focus (exact in_nI (by omega) (by omega)))))
        exact done
    · obtain ⟨a, ha, rfl⟩ := ibB_t hb (by omega)
      obtain ⟨m, hm, rfl⟩ := ibB_t hw (by decide)
      have hQ := fun o S' I' L' h => hQ o S' I' L' (Or.inr ⟨a, m, rfl, ha, rfl, hm, h⟩)
      have eX := hC.X
      have hX : S.D.X < 2 ^ 63 := hC.ok.X.1
      repeat (first | (refine xbr_f ?_ ?_; (focus ((simp (disch := omega) only [ix_lt, ix_le, ix_eq, ix_0, nI_clamp, nI_toInt, ng_T, nI_add, nI_mul, nI_sub', Int.neg_zero, not_false_eq_true, not_true_eq_false] <;> omega); done))) | (refine xbr_t ?_ ?_; (focus ((simp (disch := omega) only [ix_lt, ix_le, ix_eq, ix_0, nI_clamp, nI_toInt, ng_T, nI_add, nI_mul, nI_sub', Int.neg_zero, not_false_eq_true, not_true_eq_false] <;> omega); done))) | refine ⟨Or.inl rfl, ?_⟩ | refine ⟨Or.inr rfl, ?_⟩ | (refine ⟨?_, ?_⟩; (focus (exact in_nI (by omega) (by omega)))))
      refine ⟨rfl, rfl, S.d, S.D.X, a, m, hC.pl, by rw [eX], hX, by omega, by omega, ?_⟩
      have hle := (mhN_le S.d S.D.X a m 16).1
      by_cases h0 : (mhN S.d S.D.X a m 16).1 = 0
      · rw [h0]
        (first | refine xbr_t (by decide) ?_ | refine xbr_f (by decide) ?_)
        exact hQ _ _ _ _ (Or.inl ⟨h0, rfl, rfl⟩) (frC_0 _ _) hC
      · obtain ⟨v, hv⟩ : ∃ v, (mhN S.d S.D.X a m 16).1 = v + 1 := ⟨(mhN S.d S.D.X a m 16).1 - 1, by omega⟩
        rw [hv, cI_s]
        (first | (refine xbr_f ?_ ?_; (focus ((simp (disch := omega) only [ix_lt, ix_le, ix_eq, ix_0, nI_clamp, nI_toInt, ng_T, nI_add, nI_mul, nI_sub', Int.neg_zero, not_false_eq_true, not_true_eq_false] <;> omega); done))) | (refine xbr_t ?_ ?_; (focus ((simp (disch := omega) only [ix_lt, ix_le, ix_eq, ix_0, nI_clamp, nI_toInt, ng_T, nI_add, nI_mul, nI_sub', Int.neg_zero, not_false_eq_true, not_true_eq_false] <;> omega); done))) | refine ⟨Or.inl rfl, ?_⟩ | refine ⟨Or.inr rfl, ?_⟩ | (refine ⟨?_, ?_⟩; (focus (exact in_nI (by omega) (by omega)))))
        refine ⟨rfl, rfl, S, _, rfl, hC, fun I' hf hC' => ?_⟩
        refine ⟨rfl, rfl, S.D.X, a, by rw [eX], by omega, by omega, ?_⟩
        have x16 := xor_16 (show v < 16 by omega) (mkN_16 S.D.X a)
        refine ⟨rfl, rfl, v ^^^ mkN S.D.X a, by rw [nx_xor], by omega, ?_⟩
        exact hQ _ _ _ _ (Or.inr ⟨v, hv, rfl, rfl⟩) hf hC'
def csX10_duel : xCs := [(mX5_isLoad, sX5_isLoad), (mX9_takersByTurns, sX9_takersByTurns)]
theorem okX10_duel : xOkM mX10_duel csX10_duel := ⟨dX10_duel, by decide +kernel, by decide +kernel, ⟨wdX10_31, wdX10_154, wdX10_31, wdX10_38, wdX10_169, wdX10_302, trivial⟩⟩
theorem hhX10_duel : ∀ q ∈ csX10_duel, xHd q.1 := xall1 hX5_isLoad (xall1 hX9_takersByTurns (xall0))
theorem kkX10_duel : ∀ q ∈ csX10_duel, ∀ l, xCon l q.1 q.2 := xall1 kX5_isLoad (xall1 kX9_takersByTurns (xall0))
def sX10_duel : xSpec := xReg fun as I L Q => ∃ (S : ST) (l k : Int32), as = [.ref 1, .int l, .int k] ∧ Cls S I L ∧ (∀ o S' I' L', duelR S l k o S' → frC I L I' L' → Cls S' I' L' → Q (some (.int o)) I' L')
set_option maxRecDepth 100000 in
theorem kX10_duel : ∀ l, xCon l mX10_duel sX10_duel := by
  refine xcon_of okX10_duel hX10_duel rfl hhX10_duel kkX10_duel ?_
  rintro as n0 I L P Q ⟨hn9, rfl, S, l, k, rfl, hC, hQ⟩
  obtain ⟨e9, rfl⟩ := xe9 hn9
  refine ⟨Nat.le_of_ble_eq_true rfl, ?_⟩
  refine xrun okX10_duel hhX10_duel [] 60 ?_
  have h5 := hC.ok.d.l5
  refine ⟨rfl, rfl, S.d, l, hC.pl, rfl, ?_⟩
  cases hb : ibB l S.d.nL
  · (first | refine xbr_t (by decide) ?_ | refine xbr_f (by decide) ?_)
    exact hQ _ _ _ _ (Or.inl ⟨fun q => by rw [hb] at q; exact absurd q.1 (by decide), rfl, rfl⟩) (frC_0 _ _) hC
  · (first | refine xbr_t (by decide) ?_ | refine xbr_f (by decide) ?_)
    cases hw : ibB k 3
    · have hk := ib_f hw
      have done := hQ _ _ _ _ (Or.inl ⟨fun q => by rw [hw] at q; exact absurd q.2 (by decide), rfl, rfl⟩) (frC_0 _ _) hC
      by_cases hn : k.toInt < 0
      · repeat (first | (refine xbr_f ?_ ?_; (focus ((simp (disch := omega) only [ix_lt, ix_le, ix_eq, ix_0, nI_clamp, nI_toInt, ng_T, nI_add, nI_mul, nI_sub', Int.neg_zero, not_false_eq_true, not_true_eq_false] <;> omega); done))) | (refine xbr_t ?_ ?_; (focus ((simp (disch := omega) only [ix_lt, ix_le, ix_eq, ix_0, nI_clamp, nI_toInt, ng_T, nI_add, nI_mul, nI_sub', Int.neg_zero, not_false_eq_true, not_true_eq_false] <;> omega); done))) | refine ⟨Or.inl rfl, ?_⟩ | refine ⟨Or.inr rfl, ?_⟩ | (refine ⟨?_, ?_⟩; (focus (exact in_nI (by omega) (by omega)))))
        exact done
      · repeat (first | (refine xbr_f ?_ ?_; (focus ((simp (disch := omega) only [ix_lt, ix_le, ix_eq, ix_0, nI_clamp, nI_toInt, ng_T, nI_add, nI_mul, nI_sub', Int.neg_zero, not_false_eq_true, not_true_eq_false] <;> omega); done))) | (refine xbr_t ?_ ?_; (focus ((simp (disch := omega) only [ix_lt, ix_le, ix_eq, ix_0, nI_clamp, nI_toInt, ng_T, nI_add, nI_mul, nI_sub', Int.neg_zero, not_false_eq_true, not_true_eq_false] <;> omega); done))) | refine ⟨Or.inl rfl, ?_⟩ | refine ⟨Or.inr rfl, ?_⟩ | (refine ⟨?_, ?_⟩; (focus (exact in_nI (by omega) (by omega)))))
        exact done
    · obtain ⟨a, ha, rfl⟩ := ibB_t hb (by omega)
      obtain ⟨m, hm, rfl⟩ := ibB_t hw (by decide)
      have hQ := fun o S' I' L' h => hQ o S' I' L' (Or.inr ⟨a, m, rfl, ha, rfl, hm, h⟩)
      have eX := hC.X
      have hX : S.D.X < 2 ^ 63 := hC.ok.X.1
      repeat (first | (refine xbr_f ?_ ?_; (focus ((simp (disch := omega) only [ix_lt, ix_le, ix_eq, ix_0, nI_clamp, nI_toInt, ng_T, nI_add, nI_mul, nI_sub', Int.neg_zero, not_false_eq_true, not_true_eq_false] <;> omega); done))) | (refine xbr_t ?_ ?_; (focus ((simp (disch := omega) only [ix_lt, ix_le, ix_eq, ix_0, nI_clamp, nI_toInt, ng_T, nI_add, nI_mul, nI_sub', Int.neg_zero, not_false_eq_true, not_true_eq_false] <;> omega); done))) | refine ⟨Or.inl rfl, ?_⟩ | refine ⟨Or.inr rfl, ?_⟩ | (refine ⟨?_, ?_⟩; (focus (exact in_nI (by omega) (by omega)))))
      refine ⟨rfl, rfl, S.d, S.D.X, a, m, hC.pl, by rw [eX], hX, by omega, by omega, ?_⟩
      exact hQ _ _ _ _ ⟨rfl, rfl⟩ (frC_0 _ _) hC
def csX10_odds : xCs := [(mX5_isLoad, sX5_isLoad), (mX0_ofTaking, sX0_ofTaking)]
theorem okX10_odds : xOkM mX10_odds csX10_odds := ⟨dX10_odds, by decide +kernel, by decide +kernel, ⟨wdX10_31, wdX10_154, wdX10_63, wdX10_31, wdX10_38, wdX10_169, wdX10_305, trivial⟩⟩
theorem hhX10_odds : ∀ q ∈ csX10_odds, xHd q.1 := xall1 hX5_isLoad (xall1 hX0_ofTaking (xall0))
theorem kkX10_odds : ∀ q ∈ csX10_odds, ∀ l, xCon l q.1 q.2 := xall1 kX5_isLoad (xall1 kX0_ofTaking (xall0))
def sX10_odds : xSpec := xReg fun as I L Q => ∃ (S : ST) (l k : Int32), as = [.ref 1, .int l, .int k] ∧ Cls S I L ∧ (∀ o S' I' L', oddsR S l k o S' → frC I L I' L' → Cls S' I' L' → Q (some (.int o)) I' L')
set_option maxRecDepth 100000 in
theorem kX10_odds : ∀ l, xCon l mX10_odds sX10_odds := by
  refine xcon_of okX10_odds hX10_odds rfl hhX10_odds kkX10_odds ?_
  rintro as n0 I L P Q ⟨hn9, rfl, S, l, k, rfl, hC, hQ⟩
  obtain ⟨e9, rfl⟩ := xe9 hn9
  refine ⟨Nat.le_of_ble_eq_true rfl, ?_⟩
  refine xrun okX10_odds hhX10_odds [] 60 ?_
  have h5 := hC.ok.d.l5
  refine ⟨rfl, rfl, S.d, l, hC.pl, rfl, ?_⟩
  cases hb : ibB l S.d.nL
  · (first | refine xbr_t (by decide) ?_ | refine xbr_f (by decide) ?_)
    exact hQ _ _ _ _ (Or.inl ⟨fun q => by rw [hb] at q; exact absurd q.1 (by decide), rfl, rfl⟩) (frC_0 _ _) hC
  · (first | refine xbr_t (by decide) ?_ | refine xbr_f (by decide) ?_)
    cases hw : ibB k 13
    · have hk := ib_f hw
      have done := hQ _ _ _ _ (Or.inl ⟨fun q => by rw [hw] at q; exact absurd q.2 (by decide), rfl, rfl⟩) (frC_0 _ _) hC
      by_cases hn : k.toInt < 0
      · repeat (first | (refine xbr_f ?_ ?_; (focus ((simp (disch := omega) only [ix_lt, ix_le, ix_eq, ix_0, nI_clamp, nI_toInt, ng_T, nI_add, nI_mul, nI_sub', Int.neg_zero, not_false_eq_true, not_true_eq_false] <;> omega); done))) | (refine xbr_t ?_ ?_; (focus ((simp (disch := omega) only [ix_lt, ix_le, ix_eq, ix_0, nI_clamp, nI_toInt, ng_T, nI_add, nI_mul, nI_sub', Int.neg_zero, not_false_eq_true, not_true_eq_false] <;> omega); done))) | refine ⟨Or.inl rfl, ?_⟩ | refine ⟨Or.inr rfl, ?_⟩ | (refine ⟨?_, ?_⟩; (focus (exact in_nI (by omega) (by omega)))))
        exact done
      · repeat (first | (refine xbr_f ?_ ?_; (focus ((simp (disch := omega) only [ix_lt, ix_le, ix_eq, ix_0, nI_clamp, nI_toInt, ng_T, nI_add, nI_mul, nI_sub', Int.neg_zero, not_false_eq_true, not_true_eq_false] <;> omega); done))) | (refine xbr_t ?_ ?_; (focus ((simp (disch := omega) only [ix_lt, ix_le, ix_eq, ix_0, nI_clamp, nI_toInt, ng_T, nI_add, nI_mul, nI_sub', Int.neg_zero, not_false_eq_true, not_true_eq_false] <;> omega); done))) | refine ⟨Or.inl rfl, ?_⟩ | refine ⟨Or.inr rfl, ?_⟩ | (refine ⟨?_, ?_⟩; (focus (exact in_nI (by omega) (by omega)))))
        exact done
    · obtain ⟨a, ha, rfl⟩ := ibB_t hb (by omega)
      obtain ⟨m, hm, rfl⟩ := ibB_t hw (by decide)
      have hQ := fun o S' I' L' h => hQ o S' I' L' (Or.inr ⟨a, m, rfl, ha, rfl, hm, h⟩)
      have eX := hC.X
      have hX : S.D.X < 2 ^ 63 := hC.ok.X.1
      repeat (first | (refine xbr_f ?_ ?_; (focus ((simp (disch := omega) only [ix_lt, ix_le, ix_eq, ix_0, nI_clamp, nI_toInt, ng_T, nI_add, nI_mul, nI_sub', Int.neg_zero, not_false_eq_true, not_true_eq_false] <;> omega); done))) | (refine xbr_t ?_ ?_; (focus ((simp (disch := omega) only [ix_lt, ix_le, ix_eq, ix_0, nI_clamp, nI_toInt, ng_T, nI_add, nI_mul, nI_sub', Int.neg_zero, not_false_eq_true, not_true_eq_false] <;> omega); done))) | refine ⟨Or.inl rfl, ?_⟩ | refine ⟨Or.inr rfl, ?_⟩ | (refine ⟨?_, ?_⟩; (focus (exact in_nI (by omega) (by omega)))))
      refine ⟨rfl, rfl, S.d, S.D.X, a, m, hC.pl, by rw [eX], hX, by omega, by omega, ?_⟩
      exact hQ _ _ _ _ ⟨rfl, rfl⟩ (frC_t (frC_L (by decide) _ _ _ _) (frC_L (by decide) _ _ _ _)) (Cls_C hC _ _)
def homeR (S : ST) (o : Int32) (S' : ST) : Prop := (S.d.nA = 0 ∧ o = -(nI 4) ∧ S' = S) ∨ (0 < S.d.nA ∧ o = cI (ffN (fun k => ahB S.d (dyN S.d S.D.X k)) 61) ∧ S' = S)
def roundR (S : ST) (o : Int32) (S' : ST) : Prop := (S.d.nA = 0 ∧ o = -(nI 4) ∧ S' = S) ∨ (0 < S.d.nA ∧ ((ffN (agB S.d S.D.X) 61 = 0 ∧ o = -(nI 9) ∧ S' = S) ∨ (∃ k, k < 61 ∧ ffN (agB S.d S.D.X) 61 = k + 1 ∧ o = nI k ∧ S' = S.wT (nI (dsN (dyN S.d S.D.X) k)))))
def coverR (S : ST) (o : Int32) (S' : ST) : Prop := (S.d.nA = 0 ∧ o = -(nI 4) ∧ S' = S) ∨ (0 < S.d.nA ∧ (((fsN S.d S.D.X (2 ^ S.d.nA)).1 = 0 ∧ o = -(nI 9) ∧ S' = S) ∨ (∃ v, (fsN S.d S.D.X (2 ^ S.d.nA)).1 = v + 1 ∧ o = nI (pcf 32 v) ∧ S' = S.wT (nI v))))
def midR (S : ST) (p o : Int32) (S' : ST) : Prop := (ibB p 13 = false ∧ o = -(nI 1) ∧ S' = S) ∨ (∃ m, p = nI m ∧ m < 13 ∧ ((S.d.nA = 0 ∧ o = -(nI 4) ∧ S' = S) ∨ (0 < S.d.nA ∧ o = nI 1 ∧ S' = ohS S m)))
def csX10_home : xCs := [(mX2_daysToHomes, sX2_daysToHomes)]
theorem okX10_home : xOkM mX10_home csX10_home := ⟨dX10_home, by decide +kernel, by decide +kernel, ⟨wdX10_31, wdX10_195, wdX10_31, wdX10_38, wdX10_169, wdX10_247, trivial⟩⟩
theorem hhX10_home : ∀ q ∈ csX10_home, xHd q.1 := xall1 hX2_daysToHomes (xall0)
theorem kkX10_home : ∀ q ∈ csX10_home, ∀ l, xCon l q.1 q.2 := xall1 kX2_daysToHomes (xall0)
def sX10_home : xSpec := xReg fun as I L Q => ∃ (S : ST), as = [.ref 1] ∧ Cls S I L ∧ (∀ o S' I' L', homeR S o S' → frC I L I' L' → Cls S' I' L' → Q (some (.int o)) I' L')
set_option maxRecDepth 100000 in
theorem kX10_home : ∀ l, xCon l mX10_home sX10_home := by
  refine xcon_of okX10_home hX10_home rfl hhX10_home kkX10_home ?_
  rintro as n0 I L P Q ⟨hn9, rfl, S, rfl, hC, hQ⟩
  obtain ⟨e9, rfl⟩ := xe9 hn9
  refine ⟨Nat.le_of_ble_eq_true rfl, ?_⟩
  refine xrun okX10_home hhX10_home [] 60 ?_
  have hA := hC.pl.a
  have h4 := hC.ok.d.a4
  have eX := hC.X
  by_cases h : S.d.nA = 0
  · rw [h] at hA
    (first | (refine xbr_f ?_ ?_; (focus ((simp (disch := omega) only [ix_lt, ix_le, ix_eq, ix_0, nI_clamp, nI_toInt, ng_T, nI_add, nI_mul, nI_sub', Int.neg_zero, not_false_eq_true, not_true_eq_false, hA] <;> omega); done))) | (refine xbr_t ?_ ?_; (focus ((simp (disch := omega) only [ix_lt, ix_le, ix_eq, ix_0, nI_clamp, nI_toInt, ng_T, nI_add, nI_mul, nI_sub', Int.neg_zero, not_false_eq_true, not_true_eq_false, hA] <;> omega); done))) | refine ⟨Or.inl rfl, ?_⟩ | refine ⟨Or.inr rfl, ?_⟩ | (refine ⟨?_, ?_⟩; (focus ((try simp (disch := omega) only [hA, nI_mul, nI_add, nI_sub']); exact in_nI (by omega) (by omega)))))
    exact hQ _ _ _ _ (Or.inl ⟨h, rfl, rfl⟩) (frC_0 _ _) hC
  · (first | (refine xbr_f ?_ ?_; (focus ((simp (disch := omega) only [ix_lt, ix_le, ix_eq, ix_0, nI_clamp, nI_toInt, ng_T, nI_add, nI_mul, nI_sub', Int.neg_zero, not_false_eq_true, not_true_eq_false, hA] <;> omega); done))) | (refine xbr_t ?_ ?_; (focus ((simp (disch := omega) only [ix_lt, ix_le, ix_eq, ix_0, nI_clamp, nI_toInt, ng_T, nI_add, nI_mul, nI_sub', Int.neg_zero, not_false_eq_true, not_true_eq_false, hA] <;> omega); done))) | refine ⟨Or.inl rfl, ?_⟩ | refine ⟨Or.inr rfl, ?_⟩ | (refine ⟨?_, ?_⟩; (focus ((try simp (disch := omega) only [hA, nI_mul, nI_add, nI_sub']); exact in_nI (by omega) (by omega)))))
    refine ⟨rfl, rfl, S.d, S.D.X, hC.pl, by rw [eX], hC.ok.X.1, ?_⟩
    exact hQ _ _ _ _ (Or.inr ⟨by omega, rfl, rfl⟩) (frC_0 _ _) hC
def csX10_round : xCs := [(mX2_firstAgain, sX2_firstAgain), (mX2_daysSince, sX2_daysSince), (mX10_tell, sX10_tell)]
theorem okX10_round : xOkM mX10_round csX10_round := ⟨dX10_round, by decide +kernel, by decide +kernel, ⟨wdX10_31, wdX10_195, wdX10_49, wdX10_31, wdX10_38, wdX10_169, wdX10_251, wdX10_49, wdX10_254, wdX10_95, trivial⟩⟩
theorem hhX10_round : ∀ q ∈ csX10_round, xHd q.1 := xall1 hX2_firstAgain (xall1 hX2_daysSince (xall1 hX10_tell (xall0)))
theorem kkX10_round : ∀ q ∈ csX10_round, ∀ l, xCon l q.1 q.2 := xall1 kX2_firstAgain (xall1 kX2_daysSince (xall1 kX10_tell (xall0)))
def sX10_round : xSpec := xReg fun as I L Q => ∃ (S : ST), as = [.ref 1] ∧ Cls S I L ∧ (∀ o S' I' L', roundR S o S' → frC I L I' L' → Cls S' I' L' → Q (some (.int o)) I' L')
set_option maxRecDepth 100000 in
theorem kX10_round : ∀ l, xCon l mX10_round sX10_round := by
  refine xcon_of okX10_round hX10_round rfl hhX10_round kkX10_round ?_
  rintro as n0 I L P Q ⟨hn9, rfl, S, rfl, hC, hQ⟩
  obtain ⟨e9, rfl⟩ := xe9 hn9
  refine ⟨Nat.le_of_ble_eq_true rfl, ?_⟩
  refine xrun okX10_round hhX10_round [] 60 ?_
  have hA := hC.pl.a
  have h4 := hC.ok.d.a4
  have eX := hC.X
  have hX : S.D.X < 2 ^ 63 := hC.ok.X.1
  by_cases h : S.d.nA = 0
  · rw [h] at hA
    (first | (refine xbr_f ?_ ?_; (focus ((simp (disch := omega) only [ix_lt, ix_le, ix_eq, ix_0, nI_clamp, nI_toInt, ng_T, nI_add, nI_mul, nI_sub', Int.neg_zero, not_false_eq_true, not_true_eq_false, hA] <;> omega); done))) | (refine xbr_t ?_ ?_; (focus ((simp (disch := omega) only [ix_lt, ix_le, ix_eq, ix_0, nI_clamp, nI_toInt, ng_T, nI_add, nI_mul, nI_sub', Int.neg_zero, not_false_eq_true, not_true_eq_false, hA] <;> omega); done))) | refine ⟨Or.inl rfl, ?_⟩ | refine ⟨Or.inr rfl, ?_⟩ | (refine ⟨?_, ?_⟩; (focus ((try simp (disch := omega) only [hA, nI_mul, nI_add, nI_sub']); exact in_nI (by omega) (by omega)))))
    exact hQ _ _ _ _ (Or.inl ⟨h, rfl, rfl⟩) (frC_0 _ _) hC
  · (first | (refine xbr_f ?_ ?_; (focus ((simp (disch := omega) only [ix_lt, ix_le, ix_eq, ix_0, nI_clamp, nI_toInt, ng_T, nI_add, nI_mul, nI_sub', Int.neg_zero, not_false_eq_true, not_true_eq_false, hA] <;> omega); done))) | (refine xbr_t ?_ ?_; (focus ((simp (disch := omega) only [ix_lt, ix_le, ix_eq, ix_0, nI_clamp, nI_toInt, ng_T, nI_add, nI_mul, nI_sub', Int.neg_zero, not_false_eq_true, not_true_eq_false, hA] <;> omega); done))) | refine ⟨Or.inl rfl, ?_⟩ | refine ⟨Or.inr rfl, ?_⟩ | (refine ⟨?_, ?_⟩; (focus ((try simp (disch := omega) only [hA, nI_mul, nI_add, nI_sub']); exact in_nI (by omega) (by omega)))))
    refine ⟨rfl, rfl, S.d, S.D.X, hC.pl, by rw [eX], hX, fun k hk e => ?_, fun e => ?_⟩
    · have hC2 : Cls S I (xrw L 16 (fa_fill (fun j => lN (dyN S.d S.D.X j)) (L 16) (k + 1))) := Cls_s hC (fun _ _ _ _ _ => rfl) (fun c _ a => xrw_c _ _ _ a)
      (first | (refine xbr_f ?_ ?_; (focus ((simp (disch := omega) only [ix_lt, ix_le, ix_eq, ix_0, nI_clamp, nI_toInt, ng_T, nI_add, nI_mul, nI_sub', Int.neg_zero, not_false_eq_true, not_true_eq_false] <;> omega); done))) | (refine xbr_t ?_ ?_; (focus ((simp (disch := omega) only [ix_lt, ix_le, ix_eq, ix_0, nI_clamp, nI_toInt, ng_T, nI_add, nI_mul, nI_sub', Int.neg_zero, not_false_eq_true, not_true_eq_false] <;> omega); done))) | refine ⟨Or.inl rfl, ?_⟩ | refine ⟨Or.inr rfl, ?_⟩ | (refine ⟨?_, ?_⟩; (focus (exact in_nI (by omega) (by omega)))))
      refine ⟨rfl, rfl, dyN S.d S.D.X, k, rfl, by omega, fun j hj => ?_, dyN_lt hC.ok.d hX, ?_⟩
      · rw [xrw_s, fa_fill_in (by omega)]
      refine ⟨rfl, rfl, S, _, rfl, hC2, fun I' hf hC' => ?_⟩
      exact hQ _ _ _ _ (Or.inr ⟨by omega, Or.inr ⟨k, hk, e, rfl, rfl⟩⟩) (frC_t (frC_M (by decide) _ _ _) hf) hC'
    · have hC2 : Cls S I (xrw L 16 (fa_fill (fun j => lN (dyN S.d S.D.X j)) (L 16) 61)) := Cls_s hC (fun _ _ _ _ _ => rfl) (fun c _ a => xrw_c _ _ _ a)
      (first | (refine xbr_f ?_ ?_; (focus ((simp (disch := omega) only [ix_lt, ix_le, ix_eq, ix_0, nI_clamp, nI_toInt, ng_T, nI_add, nI_mul, nI_sub', Int.neg_zero, not_false_eq_true, not_true_eq_false] <;> omega); done))) | (refine xbr_t ?_ ?_; (focus ((simp (disch := omega) only [ix_lt, ix_le, ix_eq, ix_0, nI_clamp, nI_toInt, ng_T, nI_add, nI_mul, nI_sub', Int.neg_zero, not_false_eq_true, not_true_eq_false] <;> omega); done))) | refine ⟨Or.inl rfl, ?_⟩ | refine ⟨Or.inr rfl, ?_⟩ | (refine ⟨?_, ?_⟩; (focus (exact in_nI (by omega) (by omega)))))
      exact hQ _ _ _ _ (Or.inr ⟨by omega, Or.inl ⟨e, rfl, rfl⟩⟩) (frC_M (by decide) _ _ _) hC2
def csX10_cover : xCs := [(mX9_fewestForAll, sX9_fewestForAll), (mX10_tell, sX10_tell), (mJ6_bitCount_0f7a4, sJ6_bitCount_0f7a4)]
theorem okX10_cover : xOkM mX10_cover csX10_cover := ⟨dX10_cover, by decide +kernel, by decide +kernel, ⟨wdX10_31, wdX10_195, wdX10_31, wdX10_38, wdX10_169, wdX10_281, wdX10_95, wdX10_178, trivial⟩⟩
theorem hhX10_cover : ∀ q ∈ csX10_cover, xHd q.1 := xall1 hX9_fewestForAll (xall1 hX10_tell (xall1 hJ6_bitCount_0f7a4 (xall0)))
theorem kkX10_cover : ∀ q ∈ csX10_cover, ∀ l, xCon l q.1 q.2 := xall1 kX9_fewestForAll (xall1 kX10_tell (xall1 kJ6_bitCount_0f7a4 (xall0)))
def sX10_cover : xSpec := xReg fun as I L Q => ∃ (S : ST), as = [.ref 1] ∧ Cls S I L ∧ (∀ o S' I' L', coverR S o S' → frC I L I' L' → Cls S' I' L' → Q (some (.int o)) I' L')
set_option maxRecDepth 100000 in
theorem kX10_cover : ∀ l, xCon l mX10_cover sX10_cover := by
  refine xcon_of okX10_cover hX10_cover rfl hhX10_cover kkX10_cover ?_
  rintro as n0 I L P Q ⟨hn9, rfl, S, rfl, hC, hQ⟩
  obtain ⟨e9, rfl⟩ := xe9 hn9
  refine ⟨Nat.le_of_ble_eq_true rfl, ?_⟩
  refine xrun okX10_cover hhX10_cover [] 60 ?_
  have hA := hC.pl.a
  have h4 := hC.ok.d.a4
  have eX := hC.X
  have hX : S.D.X < 2 ^ 63 := hC.ok.X.1
  by_cases h : S.d.nA = 0
  · rw [h] at hA
    (first | (refine xbr_f ?_ ?_; (focus ((simp (disch := omega) only [ix_lt, ix_le, ix_eq, ix_0, nI_clamp, nI_toInt, ng_T, nI_add, nI_mul, nI_sub', Int.neg_zero, not_false_eq_true, not_true_eq_false, hA] <;> omega); done))) | (refine xbr_t ?_ ?_; (focus ((simp (disch := omega) only [ix_lt, ix_le, ix_eq, ix_0, nI_clamp, nI_toInt, ng_T, nI_add, nI_mul, nI_sub', Int.neg_zero, not_false_eq_true, not_true_eq_false, hA] <;> omega); done))) | refine ⟨Or.inl rfl, ?_⟩ | refine ⟨Or.inr rfl, ?_⟩ | (refine ⟨?_, ?_⟩; (focus ((try simp (disch := omega) only [hA, nI_mul, nI_add, nI_sub']); exact in_nI (by omega) (by omega)))))
    exact hQ _ _ _ _ (Or.inl ⟨h, rfl, rfl⟩) (frC_0 _ _) hC
  · (first | (refine xbr_f ?_ ?_; (focus ((simp (disch := omega) only [ix_lt, ix_le, ix_eq, ix_0, nI_clamp, nI_toInt, ng_T, nI_add, nI_mul, nI_sub', Int.neg_zero, not_false_eq_true, not_true_eq_false, hA] <;> omega); done))) | (refine xbr_t ?_ ?_; (focus ((simp (disch := omega) only [ix_lt, ix_le, ix_eq, ix_0, nI_clamp, nI_toInt, ng_T, nI_add, nI_mul, nI_sub', Int.neg_zero, not_false_eq_true, not_true_eq_false, hA] <;> omega); done))) | refine ⟨Or.inl rfl, ?_⟩ | refine ⟨Or.inr rfl, ?_⟩ | (refine ⟨?_, ?_⟩; (focus ((try simp (disch := omega) only [hA, nI_mul, nI_add, nI_sub']); exact in_nI (by omega) (by omega)))))
    refine ⟨rfl, rfl, S.d, S.D.X, hC.pl, by rw [eX], hX, ?_⟩
    have hle := (fsN_le S.d S.D.X (2 ^ S.d.nA)).1
    have h16 := p16_le h4
    by_cases h0 : (fsN S.d S.D.X (2 ^ S.d.nA)).1 = 0
    · rw [h0]
      (first | refine xbr_t (by decide) ?_ | refine xbr_f (by decide) ?_)
      exact hQ _ _ _ _ (Or.inr ⟨by omega, Or.inl ⟨h0, rfl, rfl⟩⟩) (frC_0 _ _) hC
    · obtain ⟨v, hv⟩ : ∃ v, (fsN S.d S.D.X (2 ^ S.d.nA)).1 = v + 1 := ⟨(fsN S.d S.D.X (2 ^ S.d.nA)).1 - 1, by omega⟩
      rw [hv, cI_s]
      (first | (refine xbr_f ?_ ?_; (focus ((simp (disch := omega) only [ix_lt, ix_le, ix_eq, ix_0, nI_clamp, nI_toInt, ng_T, nI_add, nI_mul, nI_sub', Int.neg_zero, not_false_eq_true, not_true_eq_false] <;> omega); done))) | (refine xbr_t ?_ ?_; (focus ((simp (disch := omega) only [ix_lt, ix_le, ix_eq, ix_0, nI_clamp, nI_toInt, ng_T, nI_add, nI_mul, nI_sub', Int.neg_zero, not_false_eq_true, not_true_eq_false] <;> omega); done))) | refine ⟨Or.inl rfl, ?_⟩ | refine ⟨Or.inr rfl, ?_⟩ | (refine ⟨?_, ?_⟩; (focus (exact in_nI (by omega) (by omega)))))
      refine ⟨rfl, rfl, S, _, rfl, hC, fun I' hf hC' => ?_⟩
      refine ⟨rfl, rfl, v, rfl, by omega, ?_⟩
      exact hQ _ _ _ _ (Or.inr ⟨by omega, Or.inr ⟨v, hv, rfl, rfl⟩⟩) hf hC'
def csX10_mid : xCs := [(mX0_ofHomes, sX0_ofHomes)]
theorem okX10_mid : xOkM mX10_mid csX10_mid := ⟨dX10_mid, by decide +kernel, by decide +kernel, ⟨wdX10_31, wdX10_195, wdX10_63, wdX10_31, wdX10_38, wdX10_169, wdX10_309, trivial⟩⟩
theorem hhX10_mid : ∀ q ∈ csX10_mid, xHd q.1 := xall1 hX0_ofHomes (xall0)
theorem kkX10_mid : ∀ q ∈ csX10_mid, ∀ l, xCon l q.1 q.2 := xall1 kX0_ofHomes (xall0)
def sX10_mid : xSpec := xReg fun as I L Q => ∃ (S : ST) (p : Int32), as = [.ref 1, .int p] ∧ Cls S I L ∧ (∀ o S' I' L', midR S p o S' → frC I L I' L' → Cls S' I' L' → Q (some (.int o)) I' L')
set_option maxRecDepth 100000 in
theorem kX10_mid : ∀ l, xCon l mX10_mid sX10_mid := by
  refine xcon_of okX10_mid hX10_mid rfl hhX10_mid kkX10_mid ?_
  rintro as n0 I L P Q ⟨hn9, rfl, S, p, rfl, hC, hQ⟩
  obtain ⟨e9, rfl⟩ := xe9 hn9
  refine ⟨Nat.le_of_ble_eq_true rfl, ?_⟩
  refine xrun okX10_mid hhX10_mid [] 60 ?_
  have hA := hC.pl.a
  have h4 := hC.ok.d.a4
  have eX := hC.X
  cases hw : ibB p 13
  · have hk := ib_f hw
    have done := hQ _ _ _ _ (Or.inl ⟨hw, rfl, rfl⟩) (frC_0 _ _) hC
    by_cases hn : p.toInt < 0
    · repeat (first | (refine xbr_f ?_ ?_; (focus ((simp (disch := omega) only [ix_lt, ix_le, ix_eq, ix_0, nI_clamp, nI_toInt, ng_T, nI_add, nI_mul, nI_sub', Int.neg_zero, not_false_eq_true, not_true_eq_false] <;> omega); done))) | (refine xbr_t ?_ ?_; (focus ((simp (disch := omega) only [ix_lt, ix_le, ix_eq, ix_0, nI_clamp, nI_toInt, ng_T, nI_add, nI_mul, nI_sub', Int.neg_zero, not_false_eq_true, not_true_eq_false] <;> omega); done))) | refine ⟨Or.inl rfl, ?_⟩ | refine ⟨Or.inr rfl, ?_⟩ | (refine ⟨?_, ?_⟩; (focus (exact in_nI (by omega) (by omega)))))
      exact done
    · repeat (first | (refine xbr_f ?_ ?_; (focus ((simp (disch := omega) only [ix_lt, ix_le, ix_eq, ix_0, nI_clamp, nI_toInt, ng_T, nI_add, nI_mul, nI_sub', Int.neg_zero, not_false_eq_true, not_true_eq_false] <;> omega); done))) | (refine xbr_t ?_ ?_; (focus ((simp (disch := omega) only [ix_lt, ix_le, ix_eq, ix_0, nI_clamp, nI_toInt, ng_T, nI_add, nI_mul, nI_sub', Int.neg_zero, not_false_eq_true, not_true_eq_false] <;> omega); done))) | refine ⟨Or.inl rfl, ?_⟩ | refine ⟨Or.inr rfl, ?_⟩ | (refine ⟨?_, ?_⟩; (focus (exact in_nI (by omega) (by omega)))))
      exact done
  · obtain ⟨m, hm, rfl⟩ := ibB_t hw (by decide)
    have hQ := fun o S' I' L' h => hQ o S' I' L' (Or.inr ⟨m, rfl, hm, h⟩)
    by_cases h : S.d.nA = 0
    · rw [h] at hA
      repeat (first | (refine xbr_f ?_ ?_; (focus ((simp (disch := omega) only [ix_lt, ix_le, ix_eq, ix_0, nI_clamp, nI_toInt, ng_T, nI_add, nI_mul, nI_sub', Int.neg_zero, not_false_eq_true, not_true_eq_false, hA] <;> omega); done))) | (refine xbr_t ?_ ?_; (focus ((simp (disch := omega) only [ix_lt, ix_le, ix_eq, ix_0, nI_clamp, nI_toInt, ng_T, nI_add, nI_mul, nI_sub', Int.neg_zero, not_false_eq_true, not_true_eq_false, hA] <;> omega); done))) | refine ⟨Or.inl rfl, ?_⟩ | refine ⟨Or.inr rfl, ?_⟩ | (refine ⟨?_, ?_⟩; (focus ((try simp (disch := omega) only [hA, nI_mul, nI_add, nI_sub']); exact in_nI (by omega) (by omega)))))
      exact hQ _ _ _ _ (Or.inl ⟨h, rfl, rfl⟩) (frC_0 _ _) hC
    · repeat (first | (refine xbr_f ?_ ?_; (focus ((simp (disch := omega) only [ix_lt, ix_le, ix_eq, ix_0, nI_clamp, nI_toInt, ng_T, nI_add, nI_mul, nI_sub', Int.neg_zero, not_false_eq_true, not_true_eq_false, hA] <;> omega); done))) | (refine xbr_t ?_ ?_; (focus ((simp (disch := omega) only [ix_lt, ix_le, ix_eq, ix_0, nI_clamp, nI_toInt, ng_T, nI_add, nI_mul, nI_sub', Int.neg_zero, not_false_eq_true, not_true_eq_false, hA] <;> omega); done))) | refine ⟨Or.inl rfl, ?_⟩ | refine ⟨Or.inr rfl, ?_⟩ | (refine ⟨?_, ?_⟩; (focus ((try simp (disch := omega) only [hA, nI_mul, nI_add, nI_sub']); exact in_nI (by omega) (by omega)))))
      refine ⟨rfl, rfl, S.d, S.D.X, m, hC.pl, by rw [eX], hC.ok.X.1, by omega, ?_⟩
      exact hQ _ _ _ _ (Or.inr ⟨by omega, rfl, rfl⟩) (frC_t (frC_L (by decide) _ _ _ _) (frC_L (by decide) _ _ _ _)) (Cls_C hC _ _)
theorem Cls_eq {S : ST} {I I' : xI} {L : xL} (h : Cls S I L) (e : I' = I) : Cls S I' L := by
  rw [e]
  exact h
def mtV (S : ST) (j : Nat) : Nat → Int32 := fun t => if j * 40 ≤ t ∧ t < j * 40 + S.d.nA then cI (gcN S.d S.D.X (t - j * 40) (gvN S.d S.D.X (t - j * 40))) else S.rv t
def matchR (S : ST) (r o : Int32) (S' : ST) : Prop := (ibB r 6 = false ∧ o = -(nI 1) ∧ S' = S) ∨ (∃ j, r = nI j ∧ j < 6 ∧ ((S.d.nA = 0 ∧ o = -(nI 4) ∧ S' = S) ∨ (0 < S.d.nA ∧ o = nI (vN S.d S.D.X S.d.nA 0) ∧ S' = S.wR (fun t => if t = j then S.d.nA + 1 else S.rz t) (mtV S j))))
def csX10_match : xCs := [(mX8_isNumber, sX8_isNumber), (mX9_weigh, sX9_weigh), (mX8_renew, sX8_renew), (mX9_giveOut, sX9_giveOut), (mX9_most, sX9_most)]
theorem okX10_match : xOkM mX10_match csX10_match := ⟨dX10_match, by decide +kernel, by decide +kernel, ⟨wdX10_14, wdX10_75, wdX10_31, wdX10_195, wdX10_56, wdX10_31, wdX10_38, wdX10_169, wdX10_261, wdX10_14, wdX10_31, wdX10_195, wdX10_83, wdX10_56, wdX10_31, wdX10_38, wdX10_169, wdX10_14, wdX10_265, wdX10_56, wdX10_269, trivial⟩⟩
theorem hhX10_match : ∀ q ∈ csX10_match, xHd q.1 := xall1 hX8_isNumber (xall1 hX9_weigh (xall1 hX8_renew (xall1 hX9_giveOut (xall1 hX9_most (xall0)))))
theorem kkX10_match : ∀ q ∈ csX10_match, ∀ l, xCon l q.1 q.2 := xall1 kX8_isNumber (xall1 kX9_weigh (xall1 kX8_renew (xall1 kX9_giveOut (xall1 kX9_most (xall0)))))
def sX10_match : xSpec := xReg fun as I L Q => ∃ (S : ST) (r : Int32), as = [.ref 1, .int r] ∧ Cls S I L ∧ (∀ o S' I' L', matchR S r o S' → frC I L I' L' → Cls S' I' L' → Q (some (.int o)) I' L')
set_option maxRecDepth 100000 in
theorem kX10_match : ∀ l, xCon l mX10_match sX10_match := by
  refine xcon_of okX10_match hX10_match rfl hhX10_match kkX10_match ?_
  rintro as n0 I L P Q ⟨hn9, rfl, S, r, rfl, hC, hQ⟩
  obtain ⟨e9, rfl⟩ := xe9 hn9
  refine ⟨Nat.le_of_ble_eq_true rfl, ?_⟩
  refine xrun okX10_match hhX10_match [] 80 ?_
  have hA := hC.pl.a
  have h4 := hC.ok.d.a4
  have eX := hC.X
  have hX : S.D.X < 2 ^ 63 := hC.ok.X.1
  refine ⟨rfl, rfl, 2, 3, 4, 6, 40, r, Or.inl ⟨rfl, rfl, rfl, rfl, rfl⟩, rfl, fun hr => ?_, fun hr => ?_⟩
  · have hb := (in_ib (by decide)).mp hr
    obtain ⟨j, hj, rfl⟩ := ibB_t hb (by decide)
    have hQ := fun o S' I' L' h => hQ o S' I' L' (Or.inr ⟨j, rfl, hj, h⟩)
    (first | refine xbr_t (by decide) ?_ | refine xbr_f (by decide) ?_)
    by_cases h : S.d.nA = 0
    · rw [h] at hA
      (first | (refine xbr_f ?_ ?_; (focus ((simp (disch := omega) only [ix_lt, ix_le, ix_eq, ix_0, nI_clamp, nI_toInt, ng_T, nI_add, nI_mul, nI_sub', Int.neg_zero, not_false_eq_true, not_true_eq_false, hA] <;> omega); done))) | (refine xbr_t ?_ ?_; (focus ((simp (disch := omega) only [ix_lt, ix_le, ix_eq, ix_0, nI_clamp, nI_toInt, ng_T, nI_add, nI_mul, nI_sub', Int.neg_zero, not_false_eq_true, not_true_eq_false, hA] <;> omega); done))) | refine ⟨Or.inl rfl, ?_⟩ | refine ⟨Or.inr rfl, ?_⟩ | (refine ⟨?_, ?_⟩; (focus ((try simp (disch := omega) only [hA, nI_mul, nI_add, nI_sub']); exact in_nI (by omega) (by omega)))))
      exact hQ _ _ _ _ (Or.inl ⟨h, rfl, rfl⟩) (frC_0 _ _) hC
    · (first | (refine xbr_f ?_ ?_; (focus ((simp (disch := omega) only [ix_lt, ix_le, ix_eq, ix_0, nI_clamp, nI_toInt, ng_T, nI_add, nI_mul, nI_sub', Int.neg_zero, not_false_eq_true, not_true_eq_false, hA] <;> omega); done))) | (refine xbr_t ?_ ?_; (focus ((simp (disch := omega) only [ix_lt, ix_le, ix_eq, ix_0, nI_clamp, nI_toInt, ng_T, nI_add, nI_mul, nI_sub', Int.neg_zero, not_false_eq_true, not_true_eq_false, hA] <;> omega); done))) | refine ⟨Or.inl rfl, ?_⟩ | refine ⟨Or.inr rfl, ?_⟩ | (refine ⟨?_, ?_⟩; (focus ((try simp (disch := omega) only [hA, nI_mul, nI_add, nI_sub']); exact in_nI (by omega) (by omega)))))
      refine ⟨rfl, rfl, S.d, S.D.X, hC.pl, by rw [eX], hX, fun g hg => ?_⟩
      refine ⟨rfl, rfl, 2, 3, 4, 6, 40, j, S.d.nA, -(nI 9), Or.inl ⟨rfl, rfl, rfl, rfl, rfl⟩, ?_, hj, by omega, hC.m2, ?_⟩
      · show [Value.ref 2, .int (nI j), .int (I 11 0), .int (-(nI 9))] = _
        rw [hA]
      have hC1 : Cls S (xrw I 18 g) L := Cls_s hC (fun c _ _ _ a => xrw_c _ _ _ a) (fun _ _ _ => rfl)
      have hC2 := Cls_new hC1 j (m := S.d.nA) (by omega) (-(nI 9))
      have eX2 := hC2.X
      refine ⟨rfl, rfl, S.d, S.D.X, j, hC2.pl, by rw [eX], hX, hj, ?_, hC.m2, hg, ?_, fun f hf1 hf2 => ?_⟩
      · show (if j = j then nI S.d.nA else _) = _
        rw [if_pos rfl]
      · intro t ht
        show (if j * 40 ≤ 40 * j + t ∧ 40 * j + t < j * 40 + S.d.nA then -(nI 9) else _) = _
        rw [if_pos ⟨by omega, by omega⟩]
      have ev : f = mtV S j := by
        funext t
        unfold mtV
        by_cases ht : j * 40 ≤ t ∧ t < j * 40 + S.d.nA
        · rw [if_pos ht]
          have e := hf1 (t - j * 40) (by omega)
          rw [show 40 * j + (t - j * 40) = t by omega] at e
          exact e
        · rw [if_neg ht, hf2 t (by omega)]
          show (if j * 40 ≤ t ∧ t < j * 40 + S.d.nA then -(nI 9) else I 4 t) = _
          rw [if_neg ht, hC.rv]
      have hC3 := Cls_R hC2 (g := fun r => if r = j then nI S.d.nA else xrw I 18 g 3 r) (z := fun t => if t = j then S.d.nA + 1 else S.rz t) (v := mtV S j) (rz_up hC1 j S.d.nA) (rz_le hC.ok (by omega))
      refine ⟨rfl, rfl, rfl, ?_⟩
      have e0 := hg 0 (Nat.zero_le _) 0 (by decide)
      refine hQ _ _ _ _ (Or.inr ⟨by omega, e0, rfl⟩) ?_ ?_
      · exact frC_t (frC_W (k := 18) (by decide) _ _ g) (frC_t (frC_I (k := 3) (by decide) _ _ _ _) (frC_t (frC_W (k := 4) (by decide) _ _ _) (frC_W (k := 4) (by decide) _ _ _)))
      rw [ev]
      refine Cls_eq hC3 ?_
      funext c t
      simp only [xrw, xup]
      by_cases c4 : c = 4
      · simp [c4]
      · by_cases c3 : c = 3
        · simp [c3]
        · simp [c4, c3]
  · have hb := ib_no (by decide) hr
    (first | refine xbr_t (by decide) ?_ | refine xbr_f (by decide) ?_)
    exact hQ _ _ _ _ (Or.inl ⟨hb, rfl, rfl⟩) (frC_0 _ _) hC
