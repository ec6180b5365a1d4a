/-! CALLS, 3: deeds; likeness; days to come -/
def adD (D : DD) (X : Nat) (c : Bool) : DD := mkD X (if c then D.b ||| 2 ^ (D.z - 1) else D.b) (D.z + 1) (fun n => if n = D.z - 1 then D.X else D.be n)
theorem adD_ok {D : DD} {X : Nat} {c : Bool} (h : DOk D) (h0 : 0 < D.z) (hz : D.z - 1 < 40) (hX : XOk X) : DOk (adD D X c) := by
  obtain ⟨h1, h2⟩ := h
  obtain ⟨h3, h4, h5⟩ := h2 h0
  refine ⟨show D.z + 1 ≤ 41 by omega, fun _ => ⟨hX, ?_, fun n hn => ?_⟩⟩
  · show (if c then D.b ||| 2 ^ (D.z - 1) else D.b) < 2 ^ (D.z + 1 - 1)
    have hb : D.b < 2 ^ D.z := Nat.lt_of_lt_of_le h4 (Nat.pow_le_pow_right (by decide) (by omega))
    rw [Nat.add_sub_cancel]
    split
    · exact Nat.or_lt_two_pow hb (Nat.pow_lt_pow_right (by decide) (by omega))
    · exact hb
  · show XOk (if n = D.z - 1 then D.X else D.be n)
    have hn' : n < D.z + 1 - 1 := hn
    by_cases e : n = D.z - 1
    · rw [if_pos e]
      exact h3
    · rw [if_neg e]
      exact h5 n (by omega)
theorem Cls_D {S : ST} {I : xI} {L : xL} (h : Cls S I L) {X : Nat} {c : Bool} (hz : S.D.z - 1 < 40) (hX : XOk X) : Cls (S.wD (adD S.D X c)) (xup I 12 3 (nI (S.D.z - 1 + 1))) (xup (xup (xup L 13 (S.D.z - 1) (lN S.D.X)) 12 2 (lN (if c then S.D.b ||| 2 ^ (S.D.z - 1) else S.D.b))) 12 1 (lN X)) := by
  have h0 := h.ok.z
  refine ⟨⟨h.ok.d, adD_ok h.ok.D h0 hz hX, Nat.succ_pos _, h.ok.2.2.2⟩, h.pl, ⟨?_, fun _ => ⟨rfl, rfl, fun n hn => ?_⟩⟩, ⟨h.k0, h.k1, h.k2⟩, ⟨h.m2, h.rz, h.rv⟩, ⟨h.m5, h.tz, h.tv⟩, h.fc, h.lf, h.to, h.ov, h.un⟩
  · show nI (S.D.z - 1 + 1) = szI (S.D.z + 1)
    rw [szI_s, show S.D.z - 1 + 1 = S.D.z by omega]
  · show (if n = S.D.z - 1 then lN S.D.X else L 13 n) = lN (if n = S.D.z - 1 then S.D.X else S.D.be n)
    have hn' : n < S.D.z + 1 - 1 := hn
    by_cases e : n = S.D.z - 1
    · rw [if_pos e, if_pos e]
    · rw [if_neg e, if_neg e]
      exact h.be n (by omega)
theorem frC_A (I : xI) (L : xL) (a : Nat) (x : Int32) (u v w : Int64) : frC I L (xup I 12 3 x) (xup (xup (xup L 13 a u) 12 2 v) 12 1 w) :=
  frC_t (frC_I (by decide) _ _ 3 x) (frC_t (frC_L (by decide) _ _ a u) (frC_t (frC_L (by decide) _ _ 2 v) (frC_L (by decide) _ _ 1 w)))
def T0 (S : ST) : Nat := (tkN S.d S.D.X 27 15 S.d.nA).1
def dyS (S : ST) : ST := S.wD (adD S.D (dayN S.d S.D.X) true)
def smS (S : ST) (a m : Nat) : ST := S.wD (adD S.D (seMk S.D.X a (mkN S.D.X a ^^^ 2 ^ m)) false)
def ldS (S : ST) (a m : Nat) : ST := S.wD (adD S.D (seIn S.D.X a m) false)
def csX10_doDay : xCs := [(mX5_takesOf, sX5_takesOf), (mX5_gone, sX5_gone), (mX1_add, sX1_add), (mX5_howManyTaken, sX5_howManyTaken)]
theorem okX10_doDay : xOkM mX10_doDay csX10_doDay := ⟨dX10_doDay, by decide +kernel, by decide +kernel, ⟨wdX10_31, wdX10_38, wdX10_169, wdX10_365, wdX10_38, wdX10_31, wdX10_38, wdX10_169, wdX10_381, wdX10_385, wdX10_389, trivial⟩⟩
theorem hhX10_doDay : ∀ q ∈ csX10_doDay, xHd q.1 := xall1 hX5_takesOf (xall1 hX5_gone (xall1 hX1_add (xall1 hX5_howManyTaken (xall0))))
theorem kkX10_doDay : ∀ q ∈ csX10_doDay, ∀ l, xCon l q.1 q.2 := xall1 kX5_takesOf (xall1 kX5_gone (xall1 kX1_add (xall1 kX5_howManyTaken (xall0))))
def sX10_doDay : xSpec := xReg fun as I L Q => ∃ (S : ST), as = [.ref 1] ∧ S.D.z - 1 < 40 ∧ Cls S I L ∧ (∀ I' L', frC I L I' L' → Cls (dyS S) I' L' → Q (some (.int (nI (hmtN (T0 S))))) I' L')
set_option maxRecDepth 100000 in
theorem kX10_doDay : ∀ l, xCon l mX10_doDay sX10_doDay := by
  refine xcon_of okX10_doDay hX10_doDay rfl hhX10_doDay kkX10_doDay ?_
  rintro as n0 I L P Q ⟨hn9, rfl, S, rfl, hz, hC, hQ⟩
  obtain ⟨e9, rfl⟩ := xe9 hn9
  refine ⟨Nat.le_of_ble_eq_true rfl, ?_⟩
  refine xrun okX10_doDay hhX10_doDay [] 60 ?_
  have hX : S.D.X < 2 ^ 63 := hC.ok.X.1
  have hT := tkN_lt hC.ok.d S.D.X 27 15 S.d.nA
  have eX := hC.X
  refine ⟨rfl, rfl, S.d, S.D.X, 27, 15, hC.pl, by rw [eX], hX, by decide, by decide, ?_⟩
  refine ⟨rfl, rfl, S.d, S.D.X, T0 S, hC.pl, by rw [eX]; rfl, hX, by show (tkN S.d S.D.X 27 15 S.d.nA).1 < _; omega, tk27_5 hC.ok.d _ _, ?_⟩
  refine ⟨rfl, rfl, dayN S.d S.D.X, S.D.X, S.D.b, S.D.z - 1, true, rfl, hC.sz, hz, hC.X, hC.b, hC.ok.D.b63 hC.ok.z, ?_⟩
  refine ⟨rfl, rfl, T0 S, rfl, by show (tkN S.d S.D.X 27 15 S.d.nA).1 < _; omega, ?_⟩
  exact hQ _ _ (frC_A _ _ _ _ _ _ _) (Cls_D hC hz (XOk_day hC.ok.d hC.ok.X))
def csX10_doSmear : xCs := [(mX7_marksOf, sX7_marksOf), (mX7_withMarks, sX7_withMarks), (mX1_add, sX1_add)]
theorem okX10_doSmear : xOkM mX10_doSmear csX10_doSmear := ⟨dX10_doSmear, by decide +kernel, by decide +kernel, ⟨wdX10_38, wdX10_169, wdX10_38, wdX10_208, wdX10_392, wdX10_385, trivial⟩⟩
theorem hhX10_doSmear : ∀ q ∈ csX10_doSmear, xHd q.1 := xall1 hX7_marksOf (xall1 hX7_withMarks (xall1 hX1_add (xall0)))
theorem kkX10_doSmear : ∀ q ∈ csX10_doSmear, ∀ l, xCon l q.1 q.2 := xall1 kX7_marksOf (xall1 kX7_withMarks (xall1 kX1_add (xall0)))
def sX10_doSmear : xSpec := xReg fun as I L Q => ∃ (S : ST) (a m : Nat), as = [.ref 1, .int (nI a), .int (nI m)] ∧ a < 5 ∧ m < 4 ∧ S.D.z - 1 < 40 ∧ Cls S I L ∧ (∀ I' L', frC I L I' L' → Cls (smS S a m) I' L' → Q none I' L')
theorem xm_16 {a m : Nat} (ha : a < 16) (hm : m < 4) : a ^^^ 2 ^ m < 16 := Nat.xor_lt_two_pow (n := 4) ha (Nat.pow_lt_pow_right (n := 4) (by decide) hm)
set_option maxRecDepth 100000 in
theorem kX10_doSmear : ∀ l, xCon l mX10_doSmear sX10_doSmear := by
  refine xcon_of okX10_doSmear hX10_doSmear rfl hhX10_doSmear kkX10_doSmear ?_
  rintro as n0 I L P Q ⟨hn9, rfl, S, a, m, rfl, ha, hm, hz, hC, hQ⟩
  obtain ⟨e9, rfl⟩ := xe9 hn9
  refine ⟨Nat.le_of_ble_eq_true rfl, ?_⟩
  refine xrun okX10_doSmear hhX10_doSmear [] 60 ?_
  have hX : S.D.X < 2 ^ 63 := hC.ok.X.1
  have eX := hC.X
  have h16 := xm_16 (mkN_16 S.D.X a) hm
  refine ⟨rfl, rfl, S.D.X, a, by rw [eX], by omega, ha, ?_⟩
  refine ⟨rfl, rfl, S.D.X, a, mkN S.D.X a ^^^ 2 ^ m, ?_, by omega, ha, h16, ?_⟩
  · rw [eX, shl_n _ (by omega), Nat.one_mul, nx_xor]
  refine ⟨rfl, rfl, seMk S.D.X a (mkN S.D.X a ^^^ 2 ^ m), S.D.X, S.D.b, S.D.z - 1, false, rfl, hC.sz, hz, hC.X, hC.b, hC.ok.D.b63 hC.ok.z, ?_⟩
  exact hQ _ _ (frC_A _ _ _ _ _ _ _) (Cls_D (c := false) hC hz (XOk_mk hC.ok.X ha h16))
def csX10_doLead : xCs := [(mX7_withInn, sX7_withInn), (mX1_add, sX1_add)]
theorem okX10_doLead : xOkM mX10_doLead csX10_doLead := ⟨dX10_doLead, by decide +kernel, by decide +kernel, ⟨wdX10_38, wdX10_38, wdX10_169, wdX10_396, wdX10_385, trivial⟩⟩
theorem hhX10_doLead : ∀ q ∈ csX10_doLead, xHd q.1 := xall1 hX7_withInn (xall1 hX1_add (xall0))
theorem kkX10_doLead : ∀ q ∈ csX10_doLead, ∀ l, xCon l q.1 q.2 := xall1 kX7_withInn (xall1 kX1_add (xall0))
def sX10_doLead : xSpec := xReg fun as I L Q => ∃ (S : ST) (a m : Nat), as = [.ref 1, .int (nI a), .int (nI m)] ∧ a < 4 ∧ m < 5 ∧ S.D.z - 1 < 40 ∧ Cls S I L ∧ (∀ I' L', frC I L I' L' → Cls (ldS S a m) I' L' → Q none I' L')
set_option maxRecDepth 100000 in
theorem kX10_doLead : ∀ l, xCon l mX10_doLead sX10_doLead := by
  refine xcon_of okX10_doLead hX10_doLead rfl hhX10_doLead kkX10_doLead ?_
  rintro as n0 I L P Q ⟨hn9, rfl, S, a, m, rfl, ha, hm, hz, hC, hQ⟩
  obtain ⟨e9, rfl⟩ := xe9 hn9
  refine ⟨Nat.le_of_ble_eq_true rfl, ?_⟩
  refine xrun okX10_doLead hhX10_doLead [] 60 ?_
  have hX : S.D.X < 2 ^ 63 := hC.ok.X.1
  have eX := hC.X
  refine ⟨rfl, rfl, S.D.X, a, m, by rw [eX], by omega, ha, by omega, ?_⟩
  refine ⟨rfl, rfl, seIn S.D.X a m, S.D.X, S.D.b, S.D.z - 1, false, rfl, hC.sz, hz, hC.X, hC.b, hC.ok.D.b63 hC.ok.z, ?_⟩
  exact hQ _ _ (frC_A _ _ _ _ _ _ _) (Cls_D (c := false) hC hz (XOk_in hC.ok.X ha hm))
def dayR (S : ST) (o : Int32) (S' : ST) : Prop := (S.d.nA = 0 ∧ o = -(nI 4) ∧ S' = S) ∨ (0 < S.d.nA ∧ S.D.z = 41 ∧ o = -(nI 2) ∧ S' = S) ∨ (0 < S.d.nA ∧ S.D.z < 41 ∧ o = nI (hmtN (T0 S)) ∧ S' = dyS S)
def csX10_day : xCs := [(mX1_hasRoomFor, sX1_hasRoomFor), (mX10_doDay, sX10_doDay)]
theorem okX10_day : xOkM mX10_day csX10_day := ⟨dX10_day, by decide +kernel, by decide +kernel, ⟨wdX10_31, wdX10_195, wdX10_38, wdX10_198, wdX10_201, trivial⟩⟩
theorem hhX10_day : ∀ q ∈ csX10_day, xHd q.1 := xall1 hX1_hasRoomFor (xall1 hX10_doDay (xall0))
theorem kkX10_day : ∀ q ∈ csX10_day, ∀ l, xCon l q.1 q.2 := xall1 kX1_hasRoomFor (xall1 kX10_doDay (xall0))
def sX10_day : xSpec := xReg fun as I L Q => ∃ (S : ST), as = [.ref 1] ∧ Cls S I L ∧ (∀ o S' I' L', dayR S o S' → frC I L I' L' → Cls S' I' L' → Q (some (.int o)) I' L')
set_option maxRecDepth 100000 in
theorem kX10_day : ∀ l, xCon l mX10_day sX10_day := by
  refine xcon_of okX10_day hX10_day rfl hhX10_day kkX10_day ?_
  rintro as n0 I L P Q ⟨hn9, rfl, S, rfl, hC, hQ⟩
  obtain ⟨e9, rfl⟩ := xe9 hn9
  refine ⟨Nat.le_of_ble_eq_true rfl, ?_⟩
  refine xrun okX10_day hhX10_day [] 60 ?_
  have hA := hC.pl.a
  have h4 := hC.ok.d.a4
  have hz := hC.ok.D.1
  have h0 := hC.ok.z
  by_cases h : S.d.nA = 0
  · rw [h] at hA
    (first | (refine xbr_f ?_ ?_; (focus ((simp (disch := omega) only [ix_lt, ix_le, ix_eq, ix_0, nI_clamp, nI_toInt, ng_T, nI_add, nI_mul, nI_sub', Int.neg_zero, not_false_eq_true, not_true_eq_false, hA] <;> omega); done))) | (refine xbr_t ?_ ?_; (focus ((simp (disch := omega) only [ix_lt, ix_le, ix_eq, ix_0, nI_clamp, nI_toInt, ng_T, nI_add, nI_mul, nI_sub', Int.neg_zero, not_false_eq_true, not_true_eq_false, hA] <;> omega); done))) | refine ⟨Or.inl rfl, ?_⟩ | refine ⟨Or.inr rfl, ?_⟩ | (refine ⟨?_, ?_⟩; (focus ((try simp (disch := omega) only [hA, nI_mul, nI_add, nI_sub']); exact in_nI (by omega) (by omega)))))
    exact hQ _ _ _ _ (Or.inl ⟨h, rfl, rfl⟩) (frC_0 _ _) hC
  · (first | (refine xbr_f ?_ ?_; (focus ((simp (disch := omega) only [ix_lt, ix_le, ix_eq, ix_0, nI_clamp, nI_toInt, ng_T, nI_add, nI_mul, nI_sub', Int.neg_zero, not_false_eq_true, not_true_eq_false, hA] <;> omega); done))) | (refine xbr_t ?_ ?_; (focus ((simp (disch := omega) only [ix_lt, ix_le, ix_eq, ix_0, nI_clamp, nI_toInt, ng_T, nI_add, nI_mul, nI_sub', Int.neg_zero, not_false_eq_true, not_true_eq_false, hA] <;> omega); done))) | refine ⟨Or.inl rfl, ?_⟩ | refine ⟨Or.inr rfl, ?_⟩ | (refine ⟨?_, ?_⟩; (focus ((try simp (disch := omega) only [hA, nI_mul, nI_add, nI_sub']); exact in_nI (by omega) (by omega)))))
    refine ⟨rfl, rfl, S.D.z - 1, 1, rfl, hC.sz, by omega, by decide, ?_⟩
    by_cases h1 : S.D.z = 41
    · rw [decide_eq_false (by omega)]
      (first | refine xbr_t (by decide) ?_ | refine xbr_f (by decide) ?_)
      exact hQ _ _ _ _ (Or.inr (Or.inl ⟨by omega, h1, rfl, rfl⟩)) (frC_0 _ _) hC
    · rw [decide_eq_true (by omega)]
      (first | refine xbr_t (by decide) ?_ | refine xbr_f (by decide) ?_)
      exact ⟨rfl, rfl, S, rfl, by omega, hC, fun I' L' hf hC' => hQ _ _ _ _ (Or.inr (Or.inr ⟨by omega, by omega, rfl, rfl⟩)) hf hC'⟩
def smearR (S : ST) (l k o : Int32) (S' : ST) : Prop := (¬ (ibB l S.d.nL = true ∧ ibB k 4 = true) ∧ o = -(nI 1) ∧ S' = S) ∨ (∃ a m, l = nI a ∧ a < S.d.nL ∧ k = nI m ∧ m < 4 ∧ ((S.D.z = 41 ∧ o = -(nI 2) ∧ S' = S) ∨ (S.D.z < 41 ∧ o = nI (mkN S.D.X a ^^^ 2 ^ m) ∧ S' = smS S a m)))
def csX10_smear : xCs := [(mX5_isLoad, sX5_isLoad), (mX1_hasRoomFor, sX1_hasRoomFor), (mX10_doSmear, sX10_doSmear), (mX7_marksOf, sX7_marksOf)]
theorem okX10_smear : xOkM mX10_smear csX10_smear := ⟨dX10_smear, by decide +kernel, by decide +kernel, ⟨wdX10_31, wdX10_154, wdX10_38, wdX10_198, wdX10_205, wdX10_38, wdX10_169, wdX10_208, trivial⟩⟩
theorem hhX10_smear : ∀ q ∈ csX10_smear, xHd q.1 := xall1 hX5_isLoad (xall1 hX1_hasRoomFor (xall1 hX10_doSmear (xall1 hX7_marksOf (xall0))))
theorem kkX10_smear : ∀ q ∈ csX10_smear, ∀ l, xCon l q.1 q.2 := xall1 kX5_isLoad (xall1 kX1_hasRoomFor (xall1 kX10_doSmear (xall1 kX7_marksOf (xall0))))
def sX10_smear : xSpec := xReg fun as I L Q => ∃ (S : ST) (l k : Int32), as = [.ref 1, .int l, .int k] ∧ Cls S I L ∧ (∀ o S' I' L', smearR S l k o S' → frC I L I' L' → Cls S' I' L' → Q (some (.int o)) I' L')
set_option maxRecDepth 100000 in
theorem kX10_smear : ∀ l, xCon l mX10_smear sX10_smear := by
  refine xcon_of okX10_smear hX10_smear rfl hhX10_smear kkX10_smear ?_
  rintro as n0 I L P Q ⟨hn9, rfl, S, l, k, rfl, hC, hQ⟩
  obtain ⟨e9, rfl⟩ := xe9 hn9
  refine ⟨Nat.le_of_ble_eq_true rfl, ?_⟩
  refine xrun okX10_smear hhX10_smear [] 60 ?_
  have h5 := hC.ok.d.l5
  have hz := hC.ok.D.1
  have h0 := hC.ok.z
  refine ⟨rfl, rfl, S.d, l, hC.pl, rfl, ?_⟩
  cases hb : ibB l S.d.nL
  · (first | refine xbr_t (by decide) ?_ | refine xbr_f (by decide) ?_)
    exact hQ _ _ _ _ (Or.inl ⟨fun q => by rw [hb] at q; exact absurd q.1 (by decide), rfl, rfl⟩) (frC_0 _ _) hC
  · (first | refine xbr_t (by decide) ?_ | refine xbr_f (by decide) ?_)
    cases hw : ibB k 4
    · have hk := ib_f hw
      have done := hQ _ _ _ _ (Or.inl ⟨fun q => by rw [hw] at q; exact absurd q.2 (by decide), rfl, rfl⟩) (frC_0 _ _) hC
      by_cases hn : k.toInt < 0
      · repeat (first | (refine xbr_f ?_ ?_; (focus ((simp (disch := omega) only [ix_lt, ix_le, ix_eq, ix_0, nI_clamp, nI_toInt, ng_T, nI_add, nI_mul, nI_sub', Int.neg_zero, not_false_eq_true, not_true_eq_false] <;> omega); done))) | (refine xbr_t ?_ ?_; (focus ((simp (disch := omega) only [ix_lt, ix_le, ix_eq, ix_0, nI_clamp, nI_toInt, ng_T, nI_add, nI_mul, nI_sub', Int.neg_zero, not_false_eq_true, not_true_eq_false] <;> omega); done))) | refine ⟨Or.inl rfl, ?_⟩ | refine ⟨Or.inr rfl, ?_⟩ | (refine ⟨?_, ?_⟩; (focus (exact in_nI (by omega) (by omega)))))
        exact done
      · repeat (first | (refine xbr_f ?_ ?_; (focus ((simp (disch := omega) only [ix_lt, ix_le, ix_eq, ix_0, nI_clamp, nI_toInt, ng_T, nI_add, nI_mul, nI_sub', Int.neg_zero, not_false_eq_true, not_true_eq_false] <;> omega); done))) | (refine xbr_t ?_ ?_; (focus ((simp (disch := omega) only [ix_lt, ix_le, ix_eq, ix_0, nI_clamp, nI_toInt, ng_T, nI_add, nI_mul, nI_sub', Int.neg_zero, not_false_eq_true, not_true_eq_false] <;> omega); done))) | refine ⟨Or.inl rfl, ?_⟩ | refine ⟨Or.inr rfl, ?_⟩ | (refine ⟨?_, ?_⟩; (focus (exact in_nI (by omega) (by omega)))))
        exact done
    · obtain ⟨a, ha, rfl⟩ := ibB_t hb (by omega)
      obtain ⟨m, hm, rfl⟩ := ibB_t hw (by decide)
      have hQ := fun o S' I' L' h => hQ o S' I' L' (Or.inr ⟨a, m, rfl, ha, rfl, hm, h⟩)
      repeat (first | (refine xbr_f ?_ ?_; (focus ((simp (disch := omega) only [ix_lt, ix_le, ix_eq, ix_0, nI_clamp, nI_toInt, ng_T, nI_add, nI_mul, nI_sub', Int.neg_zero, not_false_eq_true, not_true_eq_false] <;> omega); done))) | (refine xbr_t ?_ ?_; (focus ((simp (disch := omega) only [ix_lt, ix_le, ix_eq, ix_0, nI_clamp, nI_toInt, ng_T, nI_add, nI_mul, nI_sub', Int.neg_zero, not_false_eq_true, not_true_eq_false] <;> omega); done))) | refine ⟨Or.inl rfl, ?_⟩ | refine ⟨Or.inr rfl, ?_⟩ | (refine ⟨?_, ?_⟩; (focus (exact in_nI (by omega) (by omega)))))
      refine ⟨rfl, rfl, S.D.z - 1, 1, rfl, hC.sz, by omega, by decide, ?_⟩
      by_cases h1 : S.D.z = 41
      · rw [decide_eq_false (by omega)]
        (first | refine xbr_t (by decide) ?_ | refine xbr_f (by decide) ?_)
        exact hQ _ _ _ _ (Or.inl ⟨h1, rfl, rfl⟩) (frC_0 _ _) hC
      · rw [decide_eq_true (by omega)]
        (first | refine xbr_t (by decide) ?_ | refine xbr_f (by decide) ?_)
        refine ⟨rfl, rfl, S, a, m, rfl, by omega, hm, by omega, hC, fun I' L' hf hC' => ?_⟩
        have eX := hC'.X
        have h16 := xm_16 (mkN_16 S.D.X a) hm
        have e : mkN (seMk S.D.X a (mkN S.D.X a ^^^ 2 ^ m)) a = mkN S.D.X a ^^^ 2 ^ m := by rw [mk_mk h16, if_pos rfl]
        refine ⟨rfl, rfl, (smS S a m).D.X, a, by rw [eX], Nat.lt_of_lt_of_le hC'.ok.X.1 (by decide), by omega, ?_⟩
        exact hQ _ _ _ _ (Or.inr ⟨by omega, by rw [show mkN (smS S a m).D.X a = _ from e], rfl⟩) hf hC'
def leadR (S : ST) (i n o : Int32) (S' : ST) : Prop := (¬ (ibB i S.d.nA = true ∧ ibB n 5 = true) ∧ o = -(nI 1) ∧ S' = S) ∨ (∃ a m, i = nI a ∧ a < S.d.nA ∧ n = nI m ∧ m < 5 ∧ ((inN S.D.X a = m ∧ o = -(nI 4) ∧ S' = S) ∨ (¬ inN S.D.X a = m ∧ S.D.z = 41 ∧ o = -(nI 2) ∧ S' = S) ∨ (¬ inN S.D.X a = m ∧ S.D.z < 41 ∧ o = nI (inN S.D.X a) ∧ S' = ldS S a m)))
def csX10_lead : xCs := [(mX5_isAss, sX5_isAss), (mX7_innOf, sX7_innOf), (mX1_hasRoomFor, sX1_hasRoomFor), (mX10_doLead, sX10_doLead)]
theorem okX10_lead : xOkM mX10_lead csX10_lead := ⟨dX10_lead, by decide +kernel, by decide +kernel, ⟨wdX10_31, wdX10_148, wdX10_38, wdX10_169, wdX10_211, wdX10_38, wdX10_198, wdX10_214, trivial⟩⟩
theorem hhX10_lead : ∀ q ∈ csX10_lead, xHd q.1 := xall1 hX5_isAss (xall1 hX7_innOf (xall1 hX1_hasRoomFor (xall1 hX10_doLead (xall0))))
theorem kkX10_lead : ∀ q ∈ csX10_lead, ∀ l, xCon l q.1 q.2 := xall1 kX5_isAss (xall1 kX7_innOf (xall1 kX1_hasRoomFor (xall1 kX10_doLead (xall0))))
def sX10_lead : xSpec := xReg fun as I L Q => ∃ (S : ST) (l k : Int32), as = [.ref 1, .int l, .int k] ∧ Cls S I L ∧ (∀ o S' I' L', leadR S l k o S' → frC I L I' L' → Cls S' I' L' → Q (some (.int o)) I' L')
set_option maxRecDepth 100000 in
theorem kX10_lead : ∀ l, xCon l mX10_lead sX10_lead := by
  refine xcon_of okX10_lead hX10_lead rfl hhX10_lead kkX10_lead ?_
  rintro as n0 I L P Q ⟨hn9, rfl, S, l, k, rfl, hC, hQ⟩
  obtain ⟨e9, rfl⟩ := xe9 hn9
  refine ⟨Nat.le_of_ble_eq_true rfl, ?_⟩
  refine xrun okX10_lead hhX10_lead [] 60 ?_
  have h5 := hC.ok.d.a4
  have hz := hC.ok.D.1
  have h0 := hC.ok.z
  refine ⟨rfl, rfl, S.d, l, hC.pl, rfl, ?_⟩
  cases hb : ibB l S.d.nA
  · (first | refine xbr_t (by decide) ?_ | refine xbr_f (by decide) ?_)
    exact hQ _ _ _ _ (Or.inl ⟨fun q => by rw [hb] at q; exact absurd q.1 (by decide), rfl, rfl⟩) (frC_0 _ _) hC
  · (first | refine xbr_t (by decide) ?_ | refine xbr_f (by decide) ?_)
    cases hw : ibB k 5
    · have hk := ib_f hw
      have done := hQ _ _ _ _ (Or.inl ⟨fun q => by rw [hw] at q; exact absurd q.2 (by decide), rfl, rfl⟩) (frC_0 _ _) hC
      by_cases hn : k.toInt < 0
      · repeat (first | (refine xbr_f ?_ ?_; (focus ((simp (disch := omega) only [ix_lt, ix_le, ix_eq, ix_0, nI_clamp, nI_toInt, ng_T, nI_add, nI_mul, nI_sub', Int.neg_zero, not_false_eq_true, not_true_eq_false] <;> omega); done))) | (refine xbr_t ?_ ?_; (focus ((simp (disch := omega) only [ix_lt, ix_le, ix_eq, ix_0, nI_clamp, nI_toInt, ng_T, nI_add, nI_mul, nI_sub', Int.neg_zero, not_false_eq_true, not_true_eq_false] <;> omega); done))) | refine ⟨Or.inl rfl, ?_⟩ | refine ⟨Or.inr rfl, ?_⟩ | (refine ⟨?_, ?_⟩; (focus (exact in_nI (by omega) (by omega)))))
        exact done
      · repeat (first | (refine xbr_f ?_ ?_; (focus ((simp (disch := omega) only [ix_lt, ix_le, ix_eq, ix_0, nI_clamp, nI_toInt, ng_T, nI_add, nI_mul, nI_sub', Int.neg_zero, not_false_eq_true, not_true_eq_false] <;> omega); done))) | (refine xbr_t ?_ ?_; (focus ((simp (disch := omega) only [ix_lt, ix_le, ix_eq, ix_0, nI_clamp, nI_toInt, ng_T, nI_add, nI_mul, nI_sub', Int.neg_zero, not_false_eq_true, not_true_eq_false] <;> omega); done))) | refine ⟨Or.inl rfl, ?_⟩ | refine ⟨Or.inr rfl, ?_⟩ | (refine ⟨?_, ?_⟩; (focus (exact in_nI (by omega) (by omega)))))
        exact done
    · obtain ⟨a, ha, rfl⟩ := ibB_t hb (by omega)
      obtain ⟨m, hm, rfl⟩ := ibB_t hw (by decide)
      have hQ := fun o S' I' L' h => hQ o S' I' L' (Or.inr ⟨a, m, rfl, ha, rfl, hm, h⟩)
      repeat (first | (refine xbr_f ?_ ?_; (focus ((simp (disch := omega) only [ix_lt, ix_le, ix_eq, ix_0, nI_clamp, nI_toInt, ng_T, nI_add, nI_mul, nI_sub', Int.neg_zero, not_false_eq_true, not_true_eq_false] <;> omega); done))) | (refine xbr_t ?_ ?_; (focus ((simp (disch := omega) only [ix_lt, ix_le, ix_eq, ix_0, nI_clamp, nI_toInt, ng_T, nI_add, nI_mul, nI_sub', Int.neg_zero, not_false_eq_true, not_true_eq_false] <;> omega); done))) | refine ⟨Or.inl rfl, ?_⟩ | refine ⟨Or.inr rfl, ?_⟩ | (refine ⟨?_, ?_⟩; (focus (exact in_nI (by omega) (by omega)))))
      have eX := hC.X
      have h8 := inN_8 S.D.X a
      refine ⟨rfl, rfl, S.D.X, a, by rw [eX], Nat.lt_of_lt_of_le hC.ok.X.1 (by decide), by omega, ?_⟩
      by_cases he : inN S.D.X a = m
      · (first | (refine xbr_f ?_ ?_; (focus ((simp (disch := omega) only [ix_lt, ix_le, ix_eq, ix_0, nI_clamp, nI_toInt, ng_T, nI_add, nI_mul, nI_sub', Int.neg_zero, not_false_eq_true, not_true_eq_false] <;> omega); done))) | (refine xbr_t ?_ ?_; (focus ((simp (disch := omega) only [ix_lt, ix_le, ix_eq, ix_0, nI_clamp, nI_toInt, ng_T, nI_add, nI_mul, nI_sub', Int.neg_zero, not_false_eq_true, not_true_eq_false] <;> omega); done))) | refine ⟨Or.inl rfl, ?_⟩ | refine ⟨Or.inr rfl, ?_⟩ | (refine ⟨?_, ?_⟩; (focus (exact in_nI (by omega) (by omega)))))
        exact hQ _ _ _ _ (Or.inl ⟨he, rfl, rfl⟩) (frC_0 _ _) hC
      · (first | (refine xbr_f ?_ ?_; (focus ((simp (disch := omega) only [ix_lt, ix_le, ix_eq, ix_0, nI_clamp, nI_toInt, ng_T, nI_add, nI_mul, nI_sub', Int.neg_zero, not_false_eq_true, not_true_eq_false] <;> omega); done))) | (refine xbr_t ?_ ?_; (focus ((simp (disch := omega) only [ix_lt, ix_le, ix_eq, ix_0, nI_clamp, nI_toInt, ng_T, nI_add, nI_mul, nI_sub', Int.neg_zero, not_false_eq_true, not_true_eq_false] <;> omega); done))) | refine ⟨Or.inl rfl, ?_⟩ | refine ⟨Or.inr rfl, ?_⟩ | (refine ⟨?_, ?_⟩; (focus (exact in_nI (by omega) (by omega)))))
        refine ⟨rfl, rfl, S.D.z - 1, 1, rfl, hC.sz, by omega, by decide, ?_⟩
        by_cases h1 : S.D.z = 41
        · rw [decide_eq_false (by omega)]
          (first | refine xbr_t (by decide) ?_ | refine xbr_f (by decide) ?_)
          exact hQ _ _ _ _ (Or.inr (Or.inl ⟨he, h1, rfl, rfl⟩)) (frC_0 _ _) hC
        · rw [decide_eq_true (by omega)]
          (first | refine xbr_t (by decide) ?_ | refine xbr_f (by decide) ?_)
          refine ⟨rfl, rfl, S, a, m, rfl, by omega, hm, by omega, hC, fun I' L' hf hC' => ?_⟩
          exact hQ _ _ _ _ (Or.inr (Or.inr ⟨he, by omega, rfl, rfl⟩)) hf hC'
def unD (D : DD) (m : Nat) : DD := mkD (D.be m) (D.b % 2 ^ m) (m + 1) D.be
theorem unD_ok {D : DD} {m : Nat} (h : DOk D) (hm : m < D.z - 1) : DOk (unD D m) := ⟨show m + 1 ≤ 41 by have := h.1; omega, fun _ => ⟨(h.2 (by omega)).2.2 m hm, Nat.mod_lt _ (Nat.two_pow_pos _), fun n hn => (h.2 (by omega)).2.2 n (by have : n < m + 1 - 1 := hn; omega)⟩⟩
theorem Cls_U {S : ST} {I : xI} {L : xL} (h : Cls S I L) {m : Nat} (hm : m < S.D.z - 1) : Cls (S.wD (unD S.D m)) (xup I 12 3 (nI m)) (xup (xup L 12 1 (lN (S.D.be m))) 12 2 (lN (S.D.b % 2 ^ m))) :=
  ⟨⟨h.ok.d, unD_ok h.ok.D hm, Nat.succ_pos _, h.ok.2.2.2⟩, h.pl, ⟨rfl, fun _ => ⟨rfl, rfl, fun n hn => h.be n (by have : n < m + 1 - 1 := hn; omega)⟩⟩, ⟨h.k0, h.k1, h.k2⟩, ⟨h.m2, h.rz, h.rv⟩, ⟨h.m5, h.tz, h.tv⟩, h.fc, h.lf, h.to, h.ov, h.un⟩
def undoR (S : ST) (n o : Int32) (S' : ST) : Prop := (ibB n S.D.z = false ∧ o = -(nI 1) ∧ S' = S) ∨ (∃ m, n = nI m ∧ m < S.D.z ∧ ((m = S.D.z - 1 ∧ o = nI 0 ∧ S' = S) ∨ (m < S.D.z - 1 ∧ o = nI (S.D.z - 1 - m) ∧ S' = S.wD (unD S.D m))))
def csX10_undo : xCs := [(mX1_takeBack, sX1_takeBack)]
theorem okX10_undo : xOkM mX10_undo csX10_undo := ⟨dX10_undo, by decide +kernel, by decide +kernel, ⟨wdX10_38, wdX10_217, wdX10_38, wdX10_220, trivial⟩⟩
theorem hhX10_undo : ∀ q ∈ csX10_undo, xHd q.1 := xall1 hX1_takeBack (xall0)
theorem kkX10_undo : ∀ q ∈ csX10_undo, ∀ l, xCon l q.1 q.2 := xall1 kX1_takeBack (xall0)
def sX10_undo : xSpec := xReg fun as I L Q => ∃ (S : ST) (n : Int32), as = [.ref 1, .int n] ∧ Cls S I L ∧ (∀ o S' I' L', undoR S n o S' → frC I L I' L' → Cls S' I' L' → Q (some (.int o)) I' L')
set_option maxRecDepth 100000 in
theorem kX10_undo : ∀ l, xCon l mX10_undo sX10_undo := by
  refine xcon_of okX10_undo hX10_undo rfl hhX10_undo kkX10_undo ?_
  rintro as n0 I L P Q ⟨hn9, rfl, S, n, rfl, hC, hQ⟩
  obtain ⟨e9, rfl⟩ := xe9 hn9
  refine ⟨Nat.le_of_ble_eq_true rfl, ?_⟩
  refine xrun okX10_undo hhX10_undo [] 60 ?_
  have hz := hC.ok.D.1
  have h0 := hC.ok.z
  have hs := hC.sz
  cases hb : ibB n S.D.z
  · have hk := ib_f hb
    have done := hQ _ _ _ _ (Or.inl ⟨hb, rfl, rfl⟩) (frC_0 _ _) hC
    by_cases hn : n.toInt < 0
    · repeat (first | (refine xbr_f ?_ ?_; (focus ((simp (disch := omega) only [ix_lt, ix_le, ix_eq, ix_0, nI_clamp, nI_toInt, ng_T, nI_add, nI_mul, nI_sub', Int.neg_zero, not_false_eq_true, not_true_eq_false, hs] <;> omega); done))) | (refine xbr_t ?_ ?_; (focus ((simp (disch := omega) only [ix_lt, ix_le, ix_eq, ix_0, nI_clamp, nI_toInt, ng_T, nI_add, nI_mul, nI_sub', Int.neg_zero, not_false_eq_true, not_true_eq_false, hs] <;> omega); done))) | refine ⟨Or.inl rfl, ?_⟩ | refine ⟨Or.inr rfl, ?_⟩ | (refine ⟨?_, ?_⟩; (focus ((try simp (disch := omega) only [hs, nI_mul, nI_add, nI_sub']); exact in_nI (by omega) (by omega)))))
      exact done
    · repeat (first | (refine xbr_f ?_ ?_; (focus ((simp (disch := omega) only [ix_lt, ix_le, ix_eq, ix_0, nI_clamp, nI_toInt, ng_T, nI_add, nI_mul, nI_sub', Int.neg_zero, not_false_eq_true, not_true_eq_false, hs] <;> omega); done))) | (refine xbr_t ?_ ?_; (focus ((simp (disch := omega) only [ix_lt, ix_le, ix_eq, ix_0, nI_clamp, nI_toInt, ng_T, nI_add, nI_mul, nI_sub', Int.neg_zero, not_false_eq_true, not_true_eq_false, hs] <;> omega); done))) | refine ⟨Or.inl rfl, ?_⟩ | refine ⟨Or.inr rfl, ?_⟩ | (refine ⟨?_, ?_⟩; (focus ((try simp (disch := omega) only [hs, nI_mul, nI_add, nI_sub']); exact in_nI (by omega) (by omega)))))
      exact done
  · obtain ⟨m, hm, rfl⟩ := ibB_t hb (by omega)
    repeat (first | (refine xbr_f ?_ ?_; (focus ((simp (disch := omega) only [ix_lt, ix_le, ix_eq, ix_0, nI_clamp, nI_toInt, ng_T, nI_add, nI_mul, nI_sub', Int.neg_zero, not_false_eq_true, not_true_eq_false, hs] <;> omega); done))) | (refine xbr_t ?_ ?_; (focus ((simp (disch := omega) only [ix_lt, ix_le, ix_eq, ix_0, nI_clamp, nI_toInt, ng_T, nI_add, nI_mul, nI_sub', Int.neg_zero, not_false_eq_true, not_true_eq_false, hs] <;> omega); done))) | refine ⟨Or.inl rfl, ?_⟩ | refine ⟨Or.inr rfl, ?_⟩ | (refine ⟨?_, ?_⟩; (focus ((try simp (disch := omega) only [hs, nI_mul, nI_add, nI_sub']); exact in_nI (by omega) (by omega)))))
    refine ⟨rfl, rfl, m, S.D.z - 1, S.D.b, S.D.be m, rfl, hs, by omega, by omega, hC.b, hC.ok.D.b63 h0, fun e => ?_, fun e => ⟨hC.be m e, ?_⟩⟩
    · exact hQ _ _ _ _ (Or.inr ⟨m, rfl, hm, Or.inl ⟨e, rfl, rfl⟩⟩) (frC_0 _ _) hC
    · exact hQ _ _ _ _ (Or.inr ⟨m, rfl, hm, Or.inr ⟨e, rfl, rfl⟩⟩) (frC_t (frC_I (by decide) _ _ _ _) (frC_t (frC_L (by decide) _ _ _ _) (frC_L (by decide) _ _ _ _))) (Cls_U hC e)
theorem c_0 : (nI 0).toNatClampNeg = 0 := nI_clamp (by decide)
theorem c_40 : (nI 40).toNatClampNeg = 40 := nI_clamp (by decide)
theorem cp_40 (f g : Nat → Int64) (n : Nat) (hn : n < 40) : va_cpy f g (nI 0).toNatClampNeg (nI 0).toNatClampNeg (nI 40).toNatClampNeg n = f n := by
  rw [c_0, c_40, pk_cpy_in (by omega) (by omega)]
  rw [Nat.zero_add, Nat.sub_zero]
def kpS (S : ST) (j : Nat) : ST := S.wK (fun t => if t = j then S.D else S.kp t)
theorem kp_ok {S : ST} (h : SOk S) (j : Nat) : SOk (kpS S j) := ⟨h.d, h.D, h.z, fun t ht => by
  show DOk (if t = j then S.D else S.kp t)
  split
  · exact h.D
  · exact h.kp t ht, h.rz, h.tz, h.tv, h.nl⟩
def keepR (S : ST) (k o : Int32) (S' : ST) : Prop := (ibB k 3 = false ∧ o = -(nI 1) ∧ S' = S) ∨ (∃ j, k = nI j ∧ j < 3 ∧ ((S.d.nA = 0 ∧ o = -(nI 4) ∧ S' = S) ∨ (0 < S.d.nA ∧ o = nI (S.D.z - 1) ∧ S' = kpS S j)))
def onR (S : ST) (k o : Int32) (S' : ST) : Prop := (ibB k 3 = false ∧ o = -(nI 1) ∧ S' = S) ∨ (∃ j, k = nI j ∧ j < 3 ∧ (((S.kp j).z = 0 ∧ fin S 1 o S') ∨ (0 < (S.kp j).z ∧ o = nI ((S.kp j).z - 1) ∧ S' = S.wD (S.kp j))))
theorem Cls_K0 {S : ST} {I : xI} {L : xL} (h : Cls S I L) {f : Nat → Int64} (hf : ∀ n, n < 40 → f n = L 13 n) : Cls (kpS S 0) (xup I 21 3 (I 12 3)) (xup (xup (xrw L 22 f) 21 1 (L 12 1)) 21 2 (L 12 2)) := by
  have hz := h.ok.D.1
  refine ⟨kp_ok h.ok 0, h.pl, h.D, ⟨⟨?_, fun h0 => ⟨(h.D.2 h0).1, (h.D.2 h0).2.1, fun n hn => ?_⟩⟩, h.k1, h.k2⟩, ⟨h.m2, h.rz, h.rv⟩, ⟨h.m5, h.tz, h.tv⟩, h.fc, h.lf, h.to, h.ov, h.un⟩
  · exact h.D.1
  · show f n = lN (S.D.be n)
    have hn' : n < S.D.z - 1 := hn
    rw [hf n (by omega)]
    exact h.be n hn'
theorem Cls_O0 {S : ST} {I : xI} {L : xL} (h : Cls S I L) (h0 : 0 < (S.kp 0).z) {f : Nat → Int64} (hf : ∀ n, n < 40 → f n = L 22 n) : Cls (S.wD (S.kp 0)) (xup I 12 3 (I 21 3)) (xup (xup (xrw L 13 f) 12 1 (L 21 1)) 12 2 (L 21 2)) := by
  have hz := (h.ok.kp 0 (by decide)).1
  refine ⟨⟨h.ok.d, h.ok.kp 0 (by decide), h0, h.ok.2.2.2⟩, h.pl, ⟨h.k0.1, fun h0 => ⟨(h.k0.2 h0).1, (h.k0.2 h0).2.1, fun n hn => ?_⟩⟩, ⟨h.k0, h.k1, h.k2⟩, ⟨h.m2, h.rz, h.rv⟩, ⟨h.m5, h.tz, h.tv⟩, h.fc, h.lf, h.to, h.ov, h.un⟩
  show f n = lN ((S.kp 0).be n)
  have hn' : n < (S.kp 0).z - 1 := hn
  rw [hf n (by omega)]
  exact (h.k0.2 h0).2.2 n hn'
theorem Cls_K1 {S : ST} {I : xI} {L : xL} (h : Cls S I L) {f : Nat → Int64} (hf : ∀ n, n < 40 → f n = L 13 n) : Cls (kpS S 1) (xup I 23 3 (I 12 3)) (xup (xup (xrw L 24 f) 23 1 (L 12 1)) 23 2 (L 12 2)) := by
  have hz := h.ok.D.1
  refine ⟨kp_ok h.ok 1, h.pl, h.D, ⟨h.k0, ⟨?_, fun h0 => ⟨(h.D.2 h0).1, (h.D.2 h0).2.1, fun n hn => ?_⟩⟩, h.k2⟩, ⟨h.m2, h.rz, h.rv⟩, ⟨h.m5, h.tz, h.tv⟩, h.fc, h.lf, h.to, h.ov, h.un⟩
  · exact h.D.1
  · show f n = lN (S.D.be n)
    have hn' : n < S.D.z - 1 := hn
    rw [hf n (by omega)]
    exact h.be n hn'
theorem Cls_O1 {S : ST} {I : xI} {L : xL} (h : Cls S I L) (h0 : 0 < (S.kp 1).z) {f : Nat → Int64} (hf : ∀ n, n < 40 → f n = L 24 n) : Cls (S.wD (S.kp 1)) (xup I 12 3 (I 23 3)) (xup (xup (xrw L 13 f) 12 1 (L 23 1)) 12 2 (L 23 2)) := by
  have hz := (h.ok.kp 1 (by decide)).1
  refine ⟨⟨h.ok.d, h.ok.kp 1 (by decide), h0, h.ok.2.2.2⟩, h.pl, ⟨h.k1.1, fun h0 => ⟨(h.k1.2 h0).1, (h.k1.2 h0).2.1, fun n hn => ?_⟩⟩, ⟨h.k0, h.k1, h.k2⟩, ⟨h.m2, h.rz, h.rv⟩, ⟨h.m5, h.tz, h.tv⟩, h.fc, h.lf, h.to, h.ov, h.un⟩
  show f n = lN ((S.kp 1).be n)
  have hn' : n < (S.kp 1).z - 1 := hn
  rw [hf n (by omega)]
  exact (h.k1.2 h0).2.2 n hn'
theorem Cls_K2 {S : ST} {I : xI} {L : xL} (h : Cls S I L) {f : Nat → Int64} (hf : ∀ n, n < 40 → f n = L 13 n) : Cls (kpS S 2) (xup I 25 3 (I 12 3)) (xup (xup (xrw L 26 f) 25 1 (L 12 1)) 25 2 (L 12 2)) := by
  have hz := h.ok.D.1
  refine ⟨kp_ok h.ok 2, h.pl, h.D, ⟨h.k0, h.k1, ⟨?_, fun h0 => ⟨(h.D.2 h0).1, (h.D.2 h0).2.1, fun n hn => ?_⟩⟩⟩, ⟨h.m2, h.rz, h.rv⟩, ⟨h.m5, h.tz, h.tv⟩, h.fc, h.lf, h.to, h.ov, h.un⟩
  · exact h.D.1
  · show f n = lN (S.D.be n)
    have hn' : n < S.D.z - 1 := hn
    rw [hf n (by omega)]
    exact h.be n hn'
theorem Cls_O2 {S : ST} {I : xI} {L : xL} (h : Cls S I L) (h0 : 0 < (S.kp 2).z) {f : Nat → Int64} (hf : ∀ n, n < 40 → f n = L 26 n) : Cls (S.wD (S.kp 2)) (xup I 12 3 (I 25 3)) (xup (xup (xrw L 13 f) 12 1 (L 25 1)) 12 2 (L 25 2)) := by
  have hz := (h.ok.kp 2 (by decide)).1
  refine ⟨⟨h.ok.d, h.ok.kp 2 (by decide), h0, h.ok.2.2.2⟩, h.pl, ⟨h.k2.1, fun h0 => ⟨(h.k2.2 h0).1, (h.k2.2 h0).2.1, fun n hn => ?_⟩⟩, ⟨h.k0, h.k1, h.k2⟩, ⟨h.m2, h.rz, h.rv⟩, ⟨h.m5, h.tz, h.tv⟩, h.fc, h.lf, h.to, h.ov, h.un⟩
  show f n = lN ((S.kp 2).be n)
  have hn' : n < (S.kp 2).z - 1 := hn
  rw [hf n (by omega)]
  exact (h.k2.2 h0).2.2 n hn'
def csX10_keep : xCs := [(mX10_keptAt, sX10_keptAt), (mX1_become, sX1_become)]
theorem okX10_keep : xOkM mX10_keep csX10_keep := ⟨dX10_keep, by decide +kernel, by decide +kernel, ⟨wdX10_138, wdX10_31, wdX10_195, wdX10_38, wdX10_223, wdX10_217, trivial⟩⟩
theorem hhX10_keep : ∀ q ∈ csX10_keep, xHd q.1 := xall1 hX10_keptAt (xall1 hX1_become (xall0))
theorem kkX10_keep : ∀ q ∈ csX10_keep, ∀ l, xCon l q.1 q.2 := xall1 kX10_keptAt (xall1 kX1_become (xall0))
def sX10_keep : xSpec := xReg fun as I L Q => ∃ (S : ST) (k : Int32), as = [.ref 1, .int k] ∧ Cls S I L ∧ (∀ o S' I' L', keepR S k o S' → frC I L I' L' → Cls S' I' L' → Q (some (.int o)) I' L')
set_option maxRecDepth 100000 in
theorem kX10_keep : ∀ l, xCon l mX10_keep sX10_keep := by
  refine xcon_of okX10_keep hX10_keep rfl hhX10_keep kkX10_keep ?_
  rintro as n0 I L P Q ⟨hn9, rfl, S, k, rfl, hC, hQ⟩
  obtain ⟨e9, rfl⟩ := xe9 hn9
  refine ⟨Nat.le_of_ble_eq_true rfl, ?_⟩
  refine xrun okX10_keep hhX10_keep [] 80 ?_
  have hA := hC.pl.a
  have h4 := hC.ok.d.a4
  refine ⟨rfl, rfl, k, rfl, ?_, ?_, ?_, ?_⟩
  · intro e
    subst e
    by_cases h : S.d.nA = 0
    · rw [h] at hA
      (first | (refine xbr_f ?_ ?_; (focus ((simp (disch := omega) only [ix_lt, ix_le, ix_eq, ix_0, nI_clamp, nI_toInt, ng_T, nI_add, nI_mul, nI_sub', Int.neg_zero, not_false_eq_true, not_true_eq_false, hA] <;> omega); done))) | (refine xbr_t ?_ ?_; (focus ((simp (disch := omega) only [ix_lt, ix_le, ix_eq, ix_0, nI_clamp, nI_toInt, ng_T, nI_add, nI_mul, nI_sub', Int.neg_zero, not_false_eq_true, not_true_eq_false, hA] <;> omega); done))) | refine ⟨Or.inl rfl, ?_⟩ | refine ⟨Or.inr rfl, ?_⟩ | (refine ⟨?_, ?_⟩; (focus ((try simp (disch := omega) only [hA, nI_mul, nI_add, nI_sub']); exact in_nI (by omega) (by omega)))))
      exact hQ _ _ _ _ (Or.inr ⟨0, rfl, by decide, Or.inl ⟨h, rfl, rfl⟩⟩) (frC_0 _ _) hC
    · (first | (refine xbr_f ?_ ?_; (focus ((simp (disch := omega) only [ix_lt, ix_le, ix_eq, ix_0, nI_clamp, nI_toInt, ng_T, nI_add, nI_mul, nI_sub', Int.neg_zero, not_false_eq_true, not_true_eq_false, hA] <;> omega); done))) | (refine xbr_t ?_ ?_; (focus ((simp (disch := omega) only [ix_lt, ix_le, ix_eq, ix_0, nI_clamp, nI_toInt, ng_T, nI_add, nI_mul, nI_sub', Int.neg_zero, not_false_eq_true, not_true_eq_false, hA] <;> omega); done))) | refine ⟨Or.inl rfl, ?_⟩ | refine ⟨Or.inr rfl, ?_⟩ | (refine ⟨?_, ?_⟩; (focus ((try simp (disch := omega) only [hA, nI_mul, nI_add, nI_sub']); exact in_nI (by omega) (by omega)))))
      refine ⟨by decide, by decide, by decide, by decide, by decide, ?_⟩
      refine hQ _ _ _ _ (Or.inr ⟨0, rfl, by decide, Or.inr ⟨by omega, hC.sz, rfl⟩⟩) ?_ (Cls_K0 hC (cp_40 _ _))
      exact frC_t (frC_I (by decide) _ _ _ _) (frC_t (frC_M (by decide) _ _ _) (frC_t (frC_L (by decide) _ _ _ _) (frC_L (by decide) _ _ _ _)))
  · intro e
    subst e
    by_cases h : S.d.nA = 0
    · rw [h] at hA
      (first | (refine xbr_f ?_ ?_; (focus ((simp (disch := omega) only [ix_lt, ix_le, ix_eq, ix_0, nI_clamp, nI_toInt, ng_T, nI_add, nI_mul, nI_sub', Int.neg_zero, not_false_eq_true, not_true_eq_false, hA] <;> omega); done))) | (refine xbr_t ?_ ?_; (focus ((simp (disch := omega) only [ix_lt, ix_le, ix_eq, ix_0, nI_clamp, nI_toInt, ng_T, nI_add, nI_mul, nI_sub', Int.neg_zero, not_false_eq_true, not_true_eq_false, hA] <;> omega); done))) | refine ⟨Or.inl rfl, ?_⟩ | refine ⟨Or.inr rfl, ?_⟩ | (refine ⟨?_, ?_⟩; (focus ((try simp (disch := omega) only [hA, nI_mul, nI_add, nI_sub']); exact in_nI (by omega) (by omega)))))
      exact hQ _ _ _ _ (Or.inr ⟨1, rfl, by decide, Or.inl ⟨h, rfl, rfl⟩⟩) (frC_0 _ _) hC
    · (first | (refine xbr_f ?_ ?_; (focus ((simp (disch := omega) only [ix_lt, ix_le, ix_eq, ix_0, nI_clamp, nI_toInt, ng_T, nI_add, nI_mul, nI_sub', Int.neg_zero, not_false_eq_true, not_true_eq_false, hA] <;> omega); done))) | (refine xbr_t ?_ ?_; (focus ((simp (disch := omega) only [ix_lt, ix_le, ix_eq, ix_0, nI_clamp, nI_toInt, ng_T, nI_add, nI_mul, nI_sub', Int.neg_zero, not_false_eq_true, not_true_eq_false, hA] <;> omega); done))) | refine ⟨Or.inl rfl, ?_⟩ | refine ⟨Or.inr rfl, ?_⟩ | (refine ⟨?_, ?_⟩; (focus ((try simp (disch := omega) only [hA, nI_mul, nI_add, nI_sub']); exact in_nI (by omega) (by omega)))))
      refine ⟨by decide, by decide, by decide, by decide, by decide, ?_⟩
      refine hQ _ _ _ _ (Or.inr ⟨1, rfl, by decide, Or.inr ⟨by omega, hC.sz, rfl⟩⟩) ?_ (Cls_K1 hC (cp_40 _ _))
      exact frC_t (frC_I (by decide) _ _ _ _) (frC_t (frC_M (by decide) _ _ _) (frC_t (frC_L (by decide) _ _ _ _) (frC_L (by decide) _ _ _ _)))
  · intro e
    subst e
    by_cases h : S.d.nA = 0
    · rw [h] at hA
      (first | (refine xbr_f ?_ ?_; (focus ((simp (disch := omega) only [ix_lt, ix_le, ix_eq, ix_0, nI_clamp, nI_toInt, ng_T, nI_add, nI_mul, nI_sub', Int.neg_zero, not_false_eq_true, not_true_eq_false, hA] <;> omega); done))) | (refine xbr_t ?_ ?_; (focus ((simp (disch := omega) only [ix_lt, ix_le, ix_eq, ix_0, nI_clamp, nI_toInt, ng_T, nI_add, nI_mul, nI_sub', Int.neg_zero, not_false_eq_true, not_true_eq_false, hA] <;> omega); done))) | refine ⟨Or.inl rfl, ?_⟩ | refine ⟨Or.inr rfl, ?_⟩ | (refine ⟨?_, ?_⟩; (focus ((try simp (disch := omega) only [hA, nI_mul, nI_add, nI_sub']); exact in_nI (by omega) (by omega)))))
      exact hQ _ _ _ _ (Or.inr ⟨2, rfl, by decide, Or.inl ⟨h, rfl, rfl⟩⟩) (frC_0 _ _) hC
    · (first | (refine xbr_f ?_ ?_; (focus ((simp (disch := omega) only [ix_lt, ix_le, ix_eq, ix_0, nI_clamp, nI_toInt, ng_T, nI_add, nI_mul, nI_sub', Int.neg_zero, not_false_eq_true, not_true_eq_false, hA] <;> omega); done))) | (refine xbr_t ?_ ?_; (focus ((simp (disch := omega) only [ix_lt, ix_le, ix_eq, ix_0, nI_clamp, nI_toInt, ng_T, nI_add, nI_mul, nI_sub', Int.neg_zero, not_false_eq_true, not_true_eq_false, hA] <;> omega); done))) | refine ⟨Or.inl rfl, ?_⟩ | refine ⟨Or.inr rfl, ?_⟩ | (refine ⟨?_, ?_⟩; (focus ((try simp (disch := omega) only [hA, nI_mul, nI_add, nI_sub']); exact in_nI (by omega) (by omega)))))
      refine ⟨by decide, by decide, by decide, by decide, by decide, ?_⟩
      refine hQ _ _ _ _ (Or.inr ⟨2, rfl, by decide, Or.inr ⟨by omega, hC.sz, rfl⟩⟩) ?_ (Cls_K2 hC (cp_40 _ _))
      exact frC_t (frC_I (by decide) _ _ _ _) (frC_t (frC_M (by decide) _ _ _) (frC_t (frC_L (by decide) _ _ _ _) (frC_L (by decide) _ _ _ _)))
  · intro e
    exact hQ _ _ _ _ (Or.inl ⟨e, rfl, rfl⟩) (frC_0 _ _) hC
def csX10_on : xCs := [(mX10_keptAt, sX10_keptAt), (mX1_isMissing, sX1_isMissing), (mX10_refuse, sX10_refuse), (mX1_become, sX1_become)]
theorem okX10_on : xOkM mX10_on csX10_on := ⟨dX10_on, by decide +kernel, by decide +kernel, ⟨wdX10_138, wdX10_226, wdX10_79, wdX10_38, wdX10_223, wdX10_38, wdX10_217, trivial⟩⟩
theorem hhX10_on : ∀ q ∈ csX10_on, xHd q.1 := xall1 hX10_keptAt (xall1 hX1_isMissing (xall1 hX10_refuse (xall1 hX1_become (xall0))))
theorem kkX10_on : ∀ q ∈ csX10_on, ∀ l, xCon l q.1 q.2 := xall1 kX10_keptAt (xall1 kX1_isMissing (xall1 kX10_refuse (xall1 kX1_become (xall0))))
def sX10_on : xSpec := xReg fun as I L Q => ∃ (S : ST) (k : Int32), as = [.ref 1, .int k] ∧ Cls S I L ∧ (∀ o S' I' L', onR S k o S' → frC I L I' L' → Cls S' I' L' → Q (some (.int o)) I' L')
set_option maxRecDepth 100000 in
theorem kX10_on : ∀ l, xCon l mX10_on sX10_on := by
  refine xcon_of okX10_on hX10_on rfl hhX10_on kkX10_on ?_
  rintro as n0 I L P Q ⟨hn9, rfl, S, k, rfl, hC, hQ⟩
  obtain ⟨e9, rfl⟩ := xe9 hn9
  refine ⟨Nat.le_of_ble_eq_true rfl, ?_⟩
  refine xrun okX10_on hhX10_on [] 80 ?_
  refine ⟨rfl, rfl, k, rfl, ?_, ?_, ?_, ?_⟩
  · intro e
    subst e
    have hz := hC.k0.1
    have hz41 := (hC.ok.kp 0 (by decide)).1
    by_cases h : (S.kp 0).z = 0
    · rw [h, szI_0] at hz
      repeat (first | (refine xbr_f ?_ ?_; (focus ((simp (disch := omega) only [ix_lt, ix_le, ix_eq, ix_0, nI_clamp, nI_toInt, ng_T, nI_add, nI_mul, nI_sub', Int.neg_zero, not_false_eq_true, not_true_eq_false, hz] <;> omega); done))) | (refine xbr_t ?_ ?_; (focus ((simp (disch := omega) only [ix_lt, ix_le, ix_eq, ix_0, nI_clamp, nI_toInt, ng_T, nI_add, nI_mul, nI_sub', Int.neg_zero, not_false_eq_true, not_true_eq_false, hz] <;> omega); done))) | refine ⟨Or.inl rfl, ?_⟩ | refine ⟨Or.inr rfl, ?_⟩ | (refine ⟨?_, ?_⟩; (focus ((try simp (disch := omega) only [hz, nI_mul, nI_add, nI_sub']); exact in_nI (by omega) (by omega)))))
      refine ⟨rfl, rfl, S, 1, rfl, by decide, hC, fun I' hf hC' => ?_⟩
      exact hQ _ _ _ _ (Or.inr ⟨0, rfl, by decide, Or.inl ⟨h, rfl, rfl⟩⟩) hf hC'
    · obtain ⟨s, hs⟩ : ∃ s, (S.kp 0).z = s + 1 := ⟨(S.kp 0).z - 1, by omega⟩
      rw [hs, szI_s] at hz
      repeat (first | (refine xbr_f ?_ ?_; (focus ((simp (disch := omega) only [ix_lt, ix_le, ix_eq, ix_0, nI_clamp, nI_toInt, ng_T, nI_add, nI_mul, nI_sub', Int.neg_zero, not_false_eq_true, not_true_eq_false, hz] <;> omega); done))) | (refine xbr_t ?_ ?_; (focus ((simp (disch := omega) only [ix_lt, ix_le, ix_eq, ix_0, nI_clamp, nI_toInt, ng_T, nI_add, nI_mul, nI_sub', Int.neg_zero, not_false_eq_true, not_true_eq_false, hz] <;> omega); done))) | refine ⟨Or.inl rfl, ?_⟩ | refine ⟨Or.inr rfl, ?_⟩ | (refine ⟨?_, ?_⟩; (focus ((try simp (disch := omega) only [hz, nI_mul, nI_add, nI_sub']); exact in_nI (by omega) (by omega)))))
      refine ⟨by decide, by decide, by decide, by decide, by decide, ?_⟩
      refine hQ _ _ _ _ (Or.inr ⟨0, rfl, by decide, Or.inr ⟨by omega, ?_, rfl⟩⟩) ?_ (Cls_O0 hC (by omega) (cp_40 _ _))
      · rw [hs]
        exact hz
      exact frC_t (frC_I (by decide) _ _ _ _) (frC_t (frC_M (by decide) _ _ _) (frC_t (frC_L (by decide) _ _ _ _) (frC_L (by decide) _ _ _ _)))
  · intro e
    subst e
    have hz := hC.k1.1
    have hz41 := (hC.ok.kp 1 (by decide)).1
    by_cases h : (S.kp 1).z = 0
    · rw [h, szI_0] at hz
      repeat (first | (refine xbr_f ?_ ?_; (focus ((simp (disch := omega) only [ix_lt, ix_le, ix_eq, ix_0, nI_clamp, nI_toInt, ng_T, nI_add, nI_mul, nI_sub', Int.neg_zero, not_false_eq_true, not_true_eq_false, hz] <;> omega); done))) | (refine xbr_t ?_ ?_; (focus ((simp (disch := omega) only [ix_lt, ix_le, ix_eq, ix_0, nI_clamp, nI_toInt, ng_T, nI_add, nI_mul, nI_sub', Int.neg_zero, not_false_eq_true, not_true_eq_false, hz] <;> omega); done))) | refine ⟨Or.inl rfl, ?_⟩ | refine ⟨Or.inr rfl, ?_⟩ | (refine ⟨?_, ?_⟩; (focus ((try simp (disch := omega) only [hz, nI_mul, nI_add, nI_sub']); exact in_nI (by omega) (by omega)))))
      refine ⟨rfl, rfl, S, 1, rfl, by decide, hC, fun I' hf hC' => ?_⟩
      exact hQ _ _ _ _ (Or.inr ⟨1, rfl, by decide, Or.inl ⟨h, rfl, rfl⟩⟩) hf hC'
    · obtain ⟨s, hs⟩ : ∃ s, (S.kp 1).z = s + 1 := ⟨(S.kp 1).z - 1, by omega⟩
      rw [hs, szI_s] at hz
      repeat (first | (refine xbr_f ?_ ?_; (focus ((simp (disch := omega) only [ix_lt, ix_le, ix_eq, ix_0, nI_clamp, nI_toInt, ng_T, nI_add, nI_mul, nI_sub', Int.neg_zero, not_false_eq_true, not_true_eq_false, hz] <;> omega); done))) | (refine xbr_t ?_ ?_; (focus ((simp (disch := omega) only [ix_lt, ix_le, ix_eq, ix_0, nI_clamp, nI_toInt, ng_T, nI_add, nI_mul, nI_sub', Int.neg_zero, not_false_eq_true, not_true_eq_false, hz] <;> omega); done))) | refine ⟨Or.inl rfl, ?_⟩ | refine ⟨Or.inr rfl, ?_⟩ | (refine ⟨?_, ?_⟩; (focus ((try simp (disch := omega) only [hz, nI_mul, nI_add, nI_sub']); exact in_nI (by omega) (by omega)))))
      refine ⟨by decide, by decide, by decide, by decide, by decide, ?_⟩
      refine hQ _ _ _ _ (Or.inr ⟨1, rfl, by decide, Or.inr ⟨by omega, ?_, rfl⟩⟩) ?_ (Cls_O1 hC (by omega) (cp_40 _ _))
      · rw [hs]
        exact hz
      exact frC_t (frC_I (by decide) _ _ _ _) (frC_t (frC_M (by decide) _ _ _) (frC_t (frC_L (by decide) _ _ _ _) (frC_L (by decide) _ _ _ _)))
  · intro e
    subst e
    have hz := hC.k2.1
    have hz41 := (hC.ok.kp 2 (by decide)).1
    by_cases h : (S.kp 2).z = 0
    · rw [h, szI_0] at hz
      repeat (first | (refine xbr_f ?_ ?_; (focus ((simp (disch := omega) only [ix_lt, ix_le, ix_eq, ix_0, nI_clamp, nI_toInt, ng_T, nI_add, nI_mul, nI_sub', Int.neg_zero, not_false_eq_true, not_true_eq_false, hz] <;> omega); done))) | (refine xbr_t ?_ ?_; (focus ((simp (disch := omega) only [ix_lt, ix_le, ix_eq, ix_0, nI_clamp, nI_toInt, ng_T, nI_add, nI_mul, nI_sub', Int.neg_zero, not_false_eq_true, not_true_eq_false, hz] <;> omega); done))) | refine ⟨Or.inl rfl, ?_⟩ | refine ⟨Or.inr rfl, ?_⟩ | (refine ⟨?_, ?_⟩; (focus ((try simp (disch := omega) only [hz, nI_mul, nI_add, nI_sub']); exact in_nI (by omega) (by omega)))))
      refine ⟨rfl, rfl, S, 1, rfl, by decide, hC, fun I' hf hC' => ?_⟩
      exact hQ _ _ _ _ (Or.inr ⟨2, rfl, by decide, Or.inl ⟨h, rfl, rfl⟩⟩) hf hC'
    · obtain ⟨s, hs⟩ : ∃ s, (S.kp 2).z = s + 1 := ⟨(S.kp 2).z - 1, by omega⟩
      rw [hs, szI_s] at hz
      repeat (first | (refine xbr_f ?_ ?_; (focus ((simp (disch := omega) only [ix_lt, ix_le, ix_eq, ix_0, nI_clamp, nI_toInt, ng_T, nI_add, nI_mul, nI_sub', Int.neg_zero, not_false_eq_true, not_true_eq_false, hz] <;> omega); done))) | (refine xbr_t ?_ ?_; (focus ((simp (disch := omega) only [ix_lt, ix_le, ix_eq, ix_0, nI_clamp, nI_toInt, ng_T, nI_add, nI_mul, nI_sub', Int.neg_zero, not_false_eq_true, not_true_eq_false, hz] <;> omega); done))) | refine ⟨Or.inl rfl, ?_⟩ | refine ⟨Or.inr rfl, ?_⟩ | (refine ⟨?_, ?_⟩; (focus ((try simp (disch := omega) only [hz, nI_mul, nI_add, nI_sub']); exact in_nI (by omega) (by omega)))))
      refine ⟨by decide, by decide, by decide, by decide, by decide, ?_⟩
      refine hQ _ _ _ _ (Or.inr ⟨2, rfl, by decide, Or.inr ⟨by omega, ?_, rfl⟩⟩) ?_ (Cls_O2 hC (by omega) (cp_40 _ _))
      · rw [hs]
        exact hz
      exact frC_t (frC_I (by decide) _ _ _ _) (frC_t (frC_M (by decide) _ _ _) (frC_t (frC_L (by decide) _ _ _ _) (frC_L (by decide) _ _ _ _)))
  · intro e
    exact hQ _ _ _ _ (Or.inl ⟨e, rfl, rfl⟩) (frC_0 _ _) hC
