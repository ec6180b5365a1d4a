/-! marks -/
def csX11_marksOf : xCs := [(mX11_likeTo, sX11_likeTo), (mX11_refuses, sX11_refuses), (mX11_many, sX11_many)]
theorem okX11_marksOf : xOkM mX11_marksOf csX11_marksOf := ⟨dX11_marksOf, by decide +kernel, by decide +kernel, ⟨wdX11_121, wdX11_136, wdX11_136, wdX11_37, wdX11_37, wdX11_142, wdX11_37, wdX11_126, trivial⟩⟩
theorem hhX11_marksOf : ∀ q ∈ csX11_marksOf, xHd q.1 := xall1 hX11_likeTo (xall1 hX11_refuses (xall1 hX11_many (xall0)))
theorem kkX11_marksOf : ∀ q ∈ csX11_marksOf, ∀ l, xCon l q.1 q.2 := xall1 kX11_likeTo (xall1 kX11_refuses (xall1 kX11_many (xall0)))
def sX11_marksOf : xSpec := xReg fun as I L Q => ∃ (d : PD) (X c a k : Nat), as = [.ref 27, .int (nI a), .int (nI k)] ∧ pdR d I ∧ nwR d X c (I 37) ∧ a < d.nA ∧ 0 < k ∧ k < 6 ∧ Q (some (.int (nI (mqN d X a k)))) I L
set_option maxRecDepth 100000 in
theorem kX11_marksOf : ∀ l, xCon l mX11_marksOf sX11_marksOf := by
  refine xcon_of okX11_marksOf hX11_marksOf rfl (by decide) hhX11_marksOf kkX11_marksOf ?_
  rintro as n0 I L P Q ⟨rfl, rfl, d, X, c, a, k, rfl, hP, hN, ha, hk0, hk, hQ⟩
  refine ⟨Nat.le_of_ble_eq_true rfl, ?_⟩
  have hl := hP.l
  have h4 := hP.ok.a4
  have h5 := hP.ok.l5
  have e0 := hN.m ha
  have m16 := meN_16 X a
  refine xrun okX11_marksOf hhX11_marksOf [(11, [true, true, true, true, true, true, true])] 60 ?_
  refine xlp (M := mX11_marksOf) (cs := csX11_marksOf) (pc := 11) d.nL (fun l => [some (.ref 27), some (.int (nI a)), some (.int (nI k)), some (.int (nI (mxN (fun l => lkN (kdN d a) (meN X a) (mkN X l)) l))), some (.int (nI (cnN (fun l => decide (mkN X l = meN X a)) l))), some (.int (nI (cnN (fun l => !wtB d X a (mkN X l)) l))), some (.int (nI l))]) (fun _ => I) (fun _ => L) ?_ ?_
  · intro l hl2 ih
    refine xrun okX11_marksOf hhX11_marksOf [(11, [true, true, true, true, true, true, true])] 90 ?_
    have e1 := hN.k hl2
    have k16 := mkN_16 X l
    have h1 := lkN_le (k := kdN d a) (x := mkN X l) (meN_16 X a)
    have h2 := mxN_le (f := fun l => lkN (kdN d a) (meN X a) (mkN X l)) (b := 8) (fun l => lkN_le (meN_16 X a)) l
    have hm : mxN (fun l => lkN (kdN d a) (meN X a) (mkN X l)) (l + 1) = if mxN (fun l => lkN (kdN d a) (meN X a) (mkN X l)) l < lkN (kdN d a) (meN X a) (mkN X l) then lkN (kdN d a) (meN X a) (mkN X l) else mxN (fun l => lkN (kdN d a) (meN X a) (mkN X l)) l := rfl
    (first | (refine xbr_f ?_ ?_; (focus ((simp (disch := omega) only [ix_lt, ix_le, ix_eq, ix_0, nI_clamp, nI_toInt, ng_T, nI_add, nI_mul, nI_sub', Int.neg_zero, not_false_eq_true, not_true_eq_false, hl] <;> omega); done))) | (refine xbr_t ?_ ?_; (focus ((simp (disch := omega) only [ix_lt, ix_le, ix_eq, ix_0, nI_clamp, nI_toInt, ng_T, nI_add, nI_mul, nI_sub', Int.neg_zero, not_false_eq_true, not_true_eq_false, hl] <;> omega); done))) | refine ⟨Or.inl rfl, ?_⟩ | refine ⟨Or.inr rfl, ?_⟩ | (refine ⟨?_, ?_⟩; (focus ((try simp (disch := omega) only [hl, nI_mul, nI_add, nI_sub']); exact in_nI (by omega) (by omega)))))
    refine ⟨rfl, rfl, d, X, c, a, l, rfl, hP, hN, ha, hl2, ?_⟩
    by_cases hlt : mxN (fun l => lkN (kdN d a) (meN X a) (mkN X l)) l < lkN (kdN d a) (meN X a) (mkN X l)
    · rw [if_pos hlt] at hm
      (first | (refine xbr_f ?_ ?_; (focus ((simp (disch := omega) only [ix_lt, ix_le, ix_eq, ix_0, nI_clamp, nI_toInt, ng_T, nI_add, nI_mul, nI_sub', Int.neg_zero, not_false_eq_true, not_true_eq_false] <;> omega); done))) | (refine xbr_t ?_ ?_; (focus ((simp (disch := omega) only [ix_lt, ix_le, ix_eq, ix_0, nI_clamp, nI_toInt, ng_T, nI_add, nI_mul, nI_sub', Int.neg_zero, not_false_eq_true, not_true_eq_false] <;> omega); done))) | refine ⟨Or.inl rfl, ?_⟩ | refine ⟨Or.inr rfl, ?_⟩ | (refine ⟨?_, ?_⟩; (focus (exact in_nI (by omega) (by omega)))))
      refine ⟨rfl, rfl, d, X, c, a, l, rfl, hP, hN, ha, hl2, ?_⟩
      repeat (first | (refine xbr_f ?_ ?_; (focus ((simp (disch := omega) only [ix_lt, ix_le, ix_eq, ix_0, nI_clamp, nI_toInt, ng_T, nI_add, nI_mul, nI_sub', Int.neg_zero, not_false_eq_true, not_true_eq_false, nI_add] <;> omega); done))) | (refine xbr_t ?_ ?_; (focus ((simp (disch := omega) only [ix_lt, ix_le, ix_eq, ix_0, nI_clamp, nI_toInt, ng_T, nI_add, nI_mul, nI_sub', Int.neg_zero, not_false_eq_true, not_true_eq_false, nI_add] <;> omega); done))) | refine ⟨Or.inl rfl, ?_⟩ | refine ⟨Or.inr rfl, ?_⟩ | (refine ⟨?_, ?_⟩; (focus ((try simp (disch := omega) only [nI_add, nI_mul, nI_add, nI_sub']); exact in_nI (by omega) (by omega)))))
      by_cases hd : mkN X l = meN X a
      · have hdd := decide_eq_true hd
        (first | (refine xbr_f ?_ ?_; (focus ((simp (disch := omega) only [ix_lt, ix_le, ix_eq, ix_0, nI_clamp, nI_toInt, ng_T, nI_add, nI_mul, nI_sub', Int.neg_zero, not_false_eq_true, not_true_eq_false, e0, e1, nI_add] <;> omega); done))) | (refine xbr_t ?_ ?_; (focus ((simp (disch := omega) only [ix_lt, ix_le, ix_eq, ix_0, nI_clamp, nI_toInt, ng_T, nI_add, nI_mul, nI_sub', Int.neg_zero, not_false_eq_true, not_true_eq_false, e0, e1, nI_add] <;> omega); done))) | refine ⟨Or.inl rfl, ?_⟩ | refine ⟨Or.inr rfl, ?_⟩ | (refine ⟨?_, ?_⟩; (focus ((try simp (disch := omega) only [e0, e1, nI_add, nI_mul, nI_add, nI_sub']); exact in_nI (by omega) (by omega)))))
        refine ⟨rfl, rfl, d, X, c, a, l, rfl, hP, hN, ha, hl2, ?_⟩
        cases hw : wtB d X a (mkN X l) <;> (
          (first | refine xbr_t (by decide) ?_ | refine xbr_f (by decide) ?_)
          refine xgo_eq ih ?_ rfl rfl
          rw [hm]
          ((repeat' (first | (with_reducible rfl) | exact xv_nil | refine xv_cons ?_ ?_ | refine xv_i ?_ | refine xv_l ?_)) <;> (simp (disch := omega) only [↓reduceIte, Bool.false_eq_true, Nat.one_mul, Nat.zero_mul, Nat.or_zero, Nat.add_zero, Nat.zero_add, Bool.toNat_true, Bool.toNat_false, shl_n, shr_n, fa_and, fa_or, nx_xor, nI_add, nI_mul, nI_sub', and_1, and_7, and_3', and_15, cnN, hdd, hw, Bool.not_true, Bool.not_false])))
      · have hdd := decide_eq_false hd
        (first | (refine xbr_f ?_ ?_; (focus ((simp (disch := omega) only [ix_lt, ix_le, ix_eq, ix_0, nI_clamp, nI_toInt, ng_T, nI_add, nI_mul, nI_sub', Int.neg_zero, not_false_eq_true, not_true_eq_false, e0, e1, nI_add] <;> omega); done))) | (refine xbr_t ?_ ?_; (focus ((simp (disch := omega) only [ix_lt, ix_le, ix_eq, ix_0, nI_clamp, nI_toInt, ng_T, nI_add, nI_mul, nI_sub', Int.neg_zero, not_false_eq_true, not_true_eq_false, e0, e1, nI_add] <;> omega); done))) | refine ⟨Or.inl rfl, ?_⟩ | refine ⟨Or.inr rfl, ?_⟩ | (refine ⟨?_, ?_⟩; (focus ((try simp (disch := omega) only [e0, e1, nI_add, nI_mul, nI_add, nI_sub']); exact in_nI (by omega) (by omega)))))
        refine ⟨rfl, rfl, d, X, c, a, l, rfl, hP, hN, ha, hl2, ?_⟩
        cases hw : wtB d X a (mkN X l) <;> (
          (first | refine xbr_t (by decide) ?_ | refine xbr_f (by decide) ?_)
          refine xgo_eq ih ?_ rfl rfl
          rw [hm]
          ((repeat' (first | (with_reducible rfl) | exact xv_nil | refine xv_cons ?_ ?_ | refine xv_i ?_ | refine xv_l ?_)) <;> (simp (disch := omega) only [↓reduceIte, Bool.false_eq_true, Nat.one_mul, Nat.zero_mul, Nat.or_zero, Nat.add_zero, Nat.zero_add, Bool.toNat_true, Bool.toNat_false, shl_n, shr_n, fa_and, fa_or, nx_xor, nI_add, nI_mul, nI_sub', and_1, and_7, and_3', and_15, cnN, hdd, hw, Bool.not_true, Bool.not_false])))
    · rw [if_neg hlt] at hm
      (first | (refine xbr_f ?_ ?_; (focus ((simp (disch := omega) only [ix_lt, ix_le, ix_eq, ix_0, nI_clamp, nI_toInt, ng_T, nI_add, nI_mul, nI_sub', Int.neg_zero, not_false_eq_true, not_true_eq_false] <;> omega); done))) | (refine xbr_t ?_ ?_; (focus ((simp (disch := omega) only [ix_lt, ix_le, ix_eq, ix_0, nI_clamp, nI_toInt, ng_T, nI_add, nI_mul, nI_sub', Int.neg_zero, not_false_eq_true, not_true_eq_false] <;> omega); done))) | refine ⟨Or.inl rfl, ?_⟩ | refine ⟨Or.inr rfl, ?_⟩ | (refine ⟨?_, ?_⟩; (focus (exact in_nI (by omega) (by omega)))))
      repeat (first | (refine xbr_f ?_ ?_; (focus ((simp (disch := omega) only [ix_lt, ix_le, ix_eq, ix_0, nI_clamp, nI_toInt, ng_T, nI_add, nI_mul, nI_sub', Int.neg_zero, not_false_eq_true, not_true_eq_false, nI_add] <;> omega); done))) | (refine xbr_t ?_ ?_; (focus ((simp (disch := omega) only [ix_lt, ix_le, ix_eq, ix_0, nI_clamp, nI_toInt, ng_T, nI_add, nI_mul, nI_sub', Int.neg_zero, not_false_eq_true, not_true_eq_false, nI_add] <;> omega); done))) | refine ⟨Or.inl rfl, ?_⟩ | refine ⟨Or.inr rfl, ?_⟩ | (refine ⟨?_, ?_⟩; (focus ((try simp (disch := omega) only [nI_add, nI_mul, nI_add, nI_sub']); exact in_nI (by omega) (by omega)))))
      by_cases hd : mkN X l = meN X a
      · have hdd := decide_eq_true hd
        (first | (refine xbr_f ?_ ?_; (focus ((simp (disch := omega) only [ix_lt, ix_le, ix_eq, ix_0, nI_clamp, nI_toInt, ng_T, nI_add, nI_mul, nI_sub', Int.neg_zero, not_false_eq_true, not_true_eq_false, e0, e1, nI_add] <;> omega); done))) | (refine xbr_t ?_ ?_; (focus ((simp (disch := omega) only [ix_lt, ix_le, ix_eq, ix_0, nI_clamp, nI_toInt, ng_T, nI_add, nI_mul, nI_sub', Int.neg_zero, not_false_eq_true, not_true_eq_false, e0, e1, nI_add] <;> omega); done))) | refine ⟨Or.inl rfl, ?_⟩ | refine ⟨Or.inr rfl, ?_⟩ | (refine ⟨?_, ?_⟩; (focus ((try simp (disch := omega) only [e0, e1, nI_add, nI_mul, nI_add, nI_sub']); exact in_nI (by omega) (by omega)))))
        refine ⟨rfl, rfl, d, X, c, a, l, rfl, hP, hN, ha, hl2, ?_⟩
        cases hw : wtB d X a (mkN X l) <;> (
          (first | refine xbr_t (by decide) ?_ | refine xbr_f (by decide) ?_)
          refine xgo_eq ih ?_ rfl rfl
          rw [hm]
          ((repeat' (first | (with_reducible rfl) | exact xv_nil | refine xv_cons ?_ ?_ | refine xv_i ?_ | refine xv_l ?_)) <;> (simp (disch := omega) only [↓reduceIte, Bool.false_eq_true, Nat.one_mul, Nat.zero_mul, Nat.or_zero, Nat.add_zero, Nat.zero_add, Bool.toNat_true, Bool.toNat_false, shl_n, shr_n, fa_and, fa_or, nx_xor, nI_add, nI_mul, nI_sub', and_1, and_7, and_3', and_15, cnN, hdd, hw, Bool.not_true, Bool.not_false])))
      · have hdd := decide_eq_false hd
        (first | (refine xbr_f ?_ ?_; (focus ((simp (disch := omega) only [ix_lt, ix_le, ix_eq, ix_0, nI_clamp, nI_toInt, ng_T, nI_add, nI_mul, nI_sub', Int.neg_zero, not_false_eq_true, not_true_eq_false, e0, e1, nI_add] <;> omega); done))) | (refine xbr_t ?_ ?_; (focus ((simp (disch := omega) only [ix_lt, ix_le, ix_eq, ix_0, nI_clamp, nI_toInt, ng_T, nI_add, nI_mul, nI_sub', Int.neg_zero, not_false_eq_true, not_true_eq_false, e0, e1, nI_add] <;> omega); done))) | refine ⟨Or.inl rfl, ?_⟩ | refine ⟨Or.inr rfl, ?_⟩ | (refine ⟨?_, ?_⟩; (focus ((try simp (disch := omega) only [e0, e1, nI_add, nI_mul, nI_add, nI_sub']); exact in_nI (by omega) (by omega)))))
        refine ⟨rfl, rfl, d, X, c, a, l, rfl, hP, hN, ha, hl2, ?_⟩
        cases hw : wtB d X a (mkN X l) <;> (
          (first | refine xbr_t (by decide) ?_ | refine xbr_f (by decide) ?_)
          refine xgo_eq ih ?_ rfl rfl
          rw [hm]
          ((repeat' (first | (with_reducible rfl) | exact xv_nil | refine xv_cons ?_ ?_ | refine xv_i ?_ | refine xv_l ?_)) <;> (simp (disch := omega) only [↓reduceIte, Bool.false_eq_true, Nat.one_mul, Nat.zero_mul, Nat.or_zero, Nat.add_zero, Nat.zero_add, Bool.toNat_true, Bool.toNat_false, shl_n, shr_n, fa_and, fa_or, nx_xor, nI_add, nI_mul, nI_sub', and_1, and_7, and_3', and_15, cnN, hdd, hw, Bool.not_true, Bool.not_false])))
  · refine xrun okX11_marksOf hhX11_marksOf [] 90 ?_
    rcases (by omega : k = 1 ∨ k = 2 ∨ k = 3 ∨ k = 4 ∨ k = 5) with rfl | rfl | rfl | rfl | rfl
    · repeat (first | (refine xbr_f ?_ ?_; (focus ((simp (disch := omega) only [ix_lt, ix_le, ix_eq, ix_0, nI_clamp, nI_toInt, ng_T, nI_add, nI_mul, nI_sub', Int.neg_zero, not_false_eq_true, not_true_eq_false, hl, nI_add] <;> omega); done))) | (refine xbr_t ?_ ?_; (focus ((simp (disch := omega) only [ix_lt, ix_le, ix_eq, ix_0, nI_clamp, nI_toInt, ng_T, nI_add, nI_mul, nI_sub', Int.neg_zero, not_false_eq_true, not_true_eq_false, hl, nI_add] <;> omega); done))) | refine ⟨Or.inl rfl, ?_⟩ | refine ⟨Or.inr rfl, ?_⟩ | (refine ⟨?_, ?_⟩; (focus ((try simp (disch := omega) only [hl, nI_add, nI_mul, nI_add, nI_sub']); exact in_nI (by omega) (by omega)))))
      refine ⟨rfl, rfl, meN X a, ?_, by omega, hQ⟩
      simp (disch := omega) only [e0, nI_mul, nI_add, nI_clamp, nI_sub']
    · repeat (first | (refine xbr_f ?_ ?_; (focus ((simp (disch := omega) only [ix_lt, ix_le, ix_eq, ix_0, nI_clamp, nI_toInt, ng_T, nI_add, nI_mul, nI_sub', Int.neg_zero, not_false_eq_true, not_true_eq_false, hl, nI_add] <;> omega); done))) | (refine xbr_t ?_ ?_; (focus ((simp (disch := omega) only [ix_lt, ix_le, ix_eq, ix_0, nI_clamp, nI_toInt, ng_T, nI_add, nI_mul, nI_sub', Int.neg_zero, not_false_eq_true, not_true_eq_false, hl, nI_add] <;> omega); done))) | refine ⟨Or.inl rfl, ?_⟩ | refine ⟨Or.inr rfl, ?_⟩ | (refine ⟨?_, ?_⟩; (focus ((try simp (disch := omega) only [hl, nI_add, nI_mul, nI_add, nI_sub']); exact in_nI (by omega) (by omega)))))
      exact hQ
    · repeat (first | (refine xbr_f ?_ ?_; (focus ((simp (disch := omega) only [ix_lt, ix_le, ix_eq, ix_0, nI_clamp, nI_toInt, ng_T, nI_add, nI_mul, nI_sub', Int.neg_zero, not_false_eq_true, not_true_eq_false, hl, nI_add] <;> omega); done))) | (refine xbr_t ?_ ?_; (focus ((simp (disch := omega) only [ix_lt, ix_le, ix_eq, ix_0, nI_clamp, nI_toInt, ng_T, nI_add, nI_mul, nI_sub', Int.neg_zero, not_false_eq_true, not_true_eq_false, hl, nI_add] <;> omega); done))) | refine ⟨Or.inl rfl, ?_⟩ | refine ⟨Or.inr rfl, ?_⟩ | (refine ⟨?_, ?_⟩; (focus ((try simp (disch := omega) only [hl, nI_add, nI_mul, nI_add, nI_sub']); exact in_nI (by omega) (by omega)))))
      exact hQ
    · repeat (first | (refine xbr_f ?_ ?_; (focus ((simp (disch := omega) only [ix_lt, ix_le, ix_eq, ix_0, nI_clamp, nI_toInt, ng_T, nI_add, nI_mul, nI_sub', Int.neg_zero, not_false_eq_true, not_true_eq_false, hl, nI_add] <;> omega); done))) | (refine xbr_t ?_ ?_; (focus ((simp (disch := omega) only [ix_lt, ix_le, ix_eq, ix_0, nI_clamp, nI_toInt, ng_T, nI_add, nI_mul, nI_sub', Int.neg_zero, not_false_eq_true, not_true_eq_false, hl, nI_add] <;> omega); done))) | refine ⟨Or.inl rfl, ?_⟩ | refine ⟨Or.inr rfl, ?_⟩ | (refine ⟨?_, ?_⟩; (focus ((try simp (disch := omega) only [hl, nI_add, nI_mul, nI_add, nI_sub']); exact in_nI (by omega) (by omega)))))
      exact hQ
    · repeat (first | (refine xbr_f ?_ ?_; (focus ((simp (disch := omega) only [ix_lt, ix_le, ix_eq, ix_0, nI_clamp, nI_toInt, ng_T, nI_add, nI_mul, nI_sub', Int.neg_zero, not_false_eq_true, not_true_eq_false, hl, nI_add] <;> omega); done))) | (refine xbr_t ?_ ?_; (focus ((simp (disch := omega) only [ix_lt, ix_le, ix_eq, ix_0, nI_clamp, nI_toInt, ng_T, nI_add, nI_mul, nI_sub', Int.neg_zero, not_false_eq_true, not_true_eq_false, hl, nI_add] <;> omega); done))) | refine ⟨Or.inl rfl, ?_⟩ | refine ⟨Or.inr rfl, ?_⟩ | (refine ⟨?_, ?_⟩; (focus ((try simp (disch := omega) only [hl, nI_add, nI_mul, nI_add, nI_sub']); exact in_nI (by omega) (by omega)))))
      exact hQ
def csX11_mark : xCs := [(mX11_isAss, sX11_isAss), (mX11_in, sX11_in), (mX11_isA, sX11_isA), (mX11_marksOf, sX11_marksOf), (mX11_finds, sX11_finds)]
theorem okX11_mark : xOkM mX11_mark csX11_mark := ⟨dX11_mark, by decide +kernel, by decide +kernel, ⟨wdX11_205, wdX11_88, wdX11_90, wdX11_31, wdX11_219, wdX11_222, wdX11_100, trivial⟩⟩
theorem hhX11_mark : ∀ q ∈ csX11_mark, xHd q.1 := xall1 hX11_isAss (xall1 hX11_in (xall1 hX11_isA (xall1 hX11_marksOf (xall1 hX11_finds (xall0)))))
theorem kkX11_mark : ∀ q ∈ csX11_mark, ∀ l, xCon l q.1 q.2 := xall1 kX11_isAss (xall1 kX11_in (xall1 kX11_isA (xall1 kX11_marksOf (xall1 kX11_finds (xall0)))))
def sX11_mark : xSpec := xReg fun as I L Q => ∃ (S : ST) (i w o : Int32) (S' : ST), as = [.ref 27, .int i, .int w] ∧ markR S i w o S' ∧ Ref S I L ∧ (∀ I' L', frM I L I' L' → Ref S' I' L' → Q (some (.int o)) I' L')
set_option maxRecDepth 100000 in
theorem kX11_mark : ∀ l, xCon l mX11_mark sX11_mark := by
  refine xcon_of okX11_mark hX11_mark rfl (by decide) hhX11_mark kkX11_mark ?_
  rintro as n0 I L P Q ⟨rfl, rfl, S, i, w, o, S', rfl, hR, hC, hQ⟩
  refine ⟨Nat.le_of_ble_eq_true rfl, ?_⟩
  have h4 := hC.pd.ok.a4
  refine xrun okX11_mark hhX11_mark [] 60 ?_
  refine ⟨rfl, rfl, S.d, i, rfl, hC.pd, ?_⟩
  have t1 : (nI 1).toInt = 1 := rfl
  have t5 : (nI 5).toInt = 5 := rfl
  rcases hR with ⟨h, rfl, rfl⟩ | ⟨a, k, rfl, ha, rfl, h0, hk, hR⟩
  · obtain ⟨S, rfl⟩ : ∃ S, S = S' := ⟨S', rfl⟩
    have done := hQ _ _ (frM_0 _ _) hC
    cases hb : ibB i S.d.nA
    · (first | refine xbr_t (by decide) ?_ | refine xbr_f (by decide) ?_)
      exact done
    · (first | refine xbr_t (by decide) ?_ | refine xbr_f (by decide) ?_)
      refine ⟨rfl, rfl, _, _, _, w, nI 1, nI 5, rfl, rfl, by decide, by decide, ?_⟩
      rw [t1, t5, decide_eq_false (fun q => h ⟨hb, by omega, by omega⟩)]
      (first | refine xbr_t (by decide) ?_ | refine xbr_f (by decide) ?_)
      exact done
  · rw [ib_tt ha (by omega)]
    (first | refine xbr_t (by decide) ?_ | refine xbr_f (by decide) ?_)
    refine ⟨rfl, rfl, _, _, _, nI k, nI 1, nI 5, rfl, rfl, by decide, by decide, ?_⟩
    rw [t1, t5, nI_toInt (show k < 2 ^ 31 by omega), decide_eq_true (by omega)]
    (first | refine xbr_t (by decide) ?_ | refine xbr_f (by decide) ?_)
    repeat (first | (refine xbr_f ?_ ?_; (focus ((simp (disch := omega) only [ix_lt, ix_le, ix_eq, ix_0, nI_clamp, nI_toInt, ng_T, nI_add, nI_mul, nI_sub', Int.neg_zero, not_false_eq_true, not_true_eq_false, nI_add] <;> omega); done))) | (refine xbr_t ?_ ?_; (focus ((simp (disch := omega) only [ix_lt, ix_le, ix_eq, ix_0, nI_clamp, nI_toInt, ng_T, nI_add, nI_mul, nI_sub', Int.neg_zero, not_false_eq_true, not_true_eq_false, nI_add] <;> omega); done))) | refine ⟨Or.inl rfl, ?_⟩ | refine ⟨Or.inr rfl, ?_⟩ | (refine ⟨?_, ?_⟩; (focus ((try simp (disch := omega) only [nI_add, nI_mul, nI_add, nI_sub']); exact in_nI (by omega) (by omega)))))
    refine ⟨rfl, rfl, kdN S.d a, k, by rw [nI_clamp (by omega), hC.pd.k a ha], kdN_8 _ _, by omega, h0, ?_⟩
    rcases hR with ⟨hA, rfl, rfl⟩ | ⟨hA, rfl, rfl⟩
    · rw [hA]
      (first | refine xbr_t (by decide) ?_ | refine xbr_f (by decide) ?_)
      exact ⟨rfl, rfl, S, 3, rfl, by decide, hC, fun I' hf hC' => hQ _ _ hf hC'⟩
    · obtain ⟨S, rfl⟩ : ∃ S, S = S' := ⟨S', rfl⟩
      rw [hA]
      (first | refine xbr_t (by decide) ?_ | refine xbr_f (by decide) ?_)
      exact ⟨rfl, rfl, S.d, S.D.X, _, a, k, rfl, hC.pd, hC.nw, ha, h0, hk, hQ _ _ (frM_0 _ _) hC⟩
