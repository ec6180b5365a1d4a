/-! takers -/
def csX11_takerOf : xCs := [(mX11_takesAll, sX11_takesAll)]
theorem okX11_takerOf : xOkM mX11_takerOf csX11_takerOf := ⟨dX11_takerOf, by decide +kernel, by decide +kernel, ⟨wdX11_149, wdX11_118, wdX11_40, trivial⟩⟩
theorem hhX11_takerOf : ∀ q ∈ csX11_takerOf, xHd q.1 := xall1 hX11_takesAll (xall0)
theorem kkX11_takerOf : ∀ q ∈ csX11_takerOf, ∀ l, xCon l q.1 q.2 := xall1 kX11_takesAll (xall0)
def sX11_takerOf : xSpec := xReg fun as I L Q => ∃ (d : PD) (X c l : Nat), as = [.ref 27, .int (nI l)] ∧ pdR d I ∧ nwR d X c (I 37) ∧ l < 8 ∧ (∀ f, Q (some (.int (cI (tkrN (tkN d X 27 15 d.nA).1 l)))) (xrw I 38 f) L)
set_option maxRecDepth 100000 in
theorem kX11_takerOf : ∀ l, xCon l mX11_takerOf sX11_takerOf := by
  refine xcon_of okX11_takerOf hX11_takerOf rfl (by decide) hhX11_takerOf kkX11_takerOf ?_
  rintro as n0 I L P Q ⟨rfl, rfl, d, X, c, l, rfl, hP, hN, hl, hQ⟩
  refine ⟨Nat.le_of_ble_eq_true rfl, ?_⟩
  have ha := hP.a
  have h4 := hP.ok.a4
  refine xrun okX11_takerOf hhX11_takerOf [(11, [true, true, true, true])] 60 ?_
  refine ⟨rfl, rfl, d, X, c, 0, 15, rfl, hP, hN, by decide, fun i hi => tb15 i (by omega), fun f hf => ?_⟩
  have ha2 : xrw I 38 f 27 10 = nI d.nA := ha
  repeat (first | (refine xbr_f ?_ ?_; (focus ((simp (disch := omega) only [ix_lt, ix_le, ix_eq, ix_0, nI_clamp, nI_toInt, ng_T, nI_add, nI_mul, nI_sub', Int.neg_zero, not_false_eq_true, not_true_eq_false] <;> omega); done))) | (refine xbr_t ?_ ?_; (focus ((simp (disch := omega) only [ix_lt, ix_le, ix_eq, ix_0, nI_clamp, nI_toInt, ng_T, nI_add, nI_mul, nI_sub', Int.neg_zero, not_false_eq_true, not_true_eq_false] <;> omega); done))) | refine ⟨Or.inl rfl, ?_⟩ | refine ⟨Or.inr rfl, ?_⟩ | (refine ⟨?_, ?_⟩; (focus (exact in_nI (by omega) (by omega)))))
  refine xlp (M := mX11_takerOf) (cs := csX11_takerOf) (pc := 11) d.nA (fun k => [some (.ref 27), some (.int (nI l)), some (.int (cI (ffN (tkC d X 15 l) k))), some (.int (nI k))]) (fun _ => xrw I 38 f) (fun _ => L) ?_ ?_
  · intro k hk ih
    refine xrun okX11_takerOf hhX11_takerOf [(11, [true, true, true, true])] 60 ?_
    have hs := ffN_s (tkC d X 15 l) k
    have hT : xrw I 38 f 38 k = cI (coN d X 15 k) := by rw [xrw_s, hf k hk]
    have hcl := coN_le d X 15 k
    have h5 := hP.ok.l5
    repeat (first | (refine xbr_f ?_ ?_; (focus ((simp (disch := omega) only [ix_lt, ix_le, ix_eq, ix_0, nI_clamp, nI_toInt, ng_T, nI_add, nI_mul, nI_sub', Int.neg_zero, not_false_eq_true, not_true_eq_false, ha2, nI_add] <;> omega); done))) | (refine xbr_t ?_ ?_; (focus ((simp (disch := omega) only [ix_lt, ix_le, ix_eq, ix_0, nI_clamp, nI_toInt, ng_T, nI_add, nI_mul, nI_sub', Int.neg_zero, not_false_eq_true, not_true_eq_false, ha2, nI_add] <;> omega); done))) | refine ⟨Or.inl rfl, ?_⟩ | refine ⟨Or.inr rfl, ?_⟩ | (refine ⟨?_, ?_⟩; (focus ((try simp (disch := omega) only [ha2, nI_add, nI_mul, nI_add, nI_sub']); exact in_nI (by omega) (by omega)))))
    by_cases h : coN d X 15 k = l + 1
    · rw [tkC_0 hP.ok (by omega) h, if_pos rfl, if_pos (show tkC d X 15 l k = true from decide_eq_true h)] at hs
      rw [h, cI_s] at hT
      repeat (first | (refine xbr_f ?_ ?_; (focus ((simp (disch := omega) only [ix_lt, ix_le, ix_eq, ix_0, nI_clamp, nI_toInt, ng_T, nI_add, nI_mul, nI_sub', Int.neg_zero, not_false_eq_true, not_true_eq_false, hT] <;> omega); done))) | (refine xbr_t ?_ ?_; (focus ((simp (disch := omega) only [ix_lt, ix_le, ix_eq, ix_0, nI_clamp, nI_toInt, ng_T, nI_add, nI_mul, nI_sub', Int.neg_zero, not_false_eq_true, not_true_eq_false, hT] <;> omega); done))) | refine ⟨Or.inl rfl, ?_⟩ | refine ⟨Or.inr rfl, ?_⟩ | (refine ⟨?_, ?_⟩; (focus ((try simp (disch := omega) only [hT, nI_mul, nI_add, nI_sub']); exact in_nI (by omega) (by omega)))))
      refine xgo_eq ih ?_ rfl rfl
      rw [hs, cI_s]
      ((repeat' (first | (with_reducible rfl) | exact xv_nil | refine xv_cons ?_ ?_ | refine xv_i ?_ | refine xv_l ?_)) <;> (simp (disch := omega) only [↓reduceIte, Bool.false_eq_true, Nat.one_mul, Nat.zero_mul, Nat.or_zero, Nat.add_zero, Nat.zero_add, Bool.toNat_true, Bool.toNat_false, shl_n, shr_n, fa_and, fa_or, nx_xor, nI_add, nI_mul, nI_sub', and_1, and_7, and_3', and_15]))
    · have e : ffN (tkC d X 15 l) (k + 1) = ffN (tkC d X 15 l) k := by
        rw [hs, if_neg (show ¬ tkC d X 15 l k = true from fun q => h (of_decide_eq_true q))]
        split
        · rename_i h0
          exact h0.symm
        · rfl
      have hne : ¬ xrw I 38 f 38 (nI k).toNatClampNeg = nI l := by
        rw [nI_clamp (by omega), hT]
        rcases hco : coN d X 15 k with _ | m
        · rw [cI_0, ix_eq, ng_T (by decide), nI_toInt (by omega)]
          omega
        · rw [cI_s, ix_eq, nI_toInt (by omega), nI_toInt (by omega)]
          omega
      (first | refine xbr_t hne ?_ | refine xbr_f hne ?_)
      refine xgo_eq ih ?_ rfl rfl
      rw [e]
      ((repeat' (first | (with_reducible rfl) | exact xv_nil | refine xv_cons ?_ ?_ | refine xv_i ?_ | refine xv_l ?_)) <;> (simp (disch := omega) only [↓reduceIte, Bool.false_eq_true, Nat.one_mul, Nat.zero_mul, Nat.or_zero, Nat.add_zero, Nat.zero_add, Bool.toNat_true, Bool.toNat_false, shl_n, shr_n, fa_and, fa_or, nx_xor, nI_add, nI_mul, nI_sub', and_1, and_7, and_3', and_15]))
  · refine xrun okX11_takerOf hhX11_takerOf [] 60 ?_
    repeat (first | (refine xbr_f ?_ ?_; (focus ((simp (disch := omega) only [ix_lt, ix_le, ix_eq, ix_0, nI_clamp, nI_toInt, ng_T, nI_add, nI_mul, nI_sub', Int.neg_zero, not_false_eq_true, not_true_eq_false, ha2] <;> omega); done))) | (refine xbr_t ?_ ?_; (focus ((simp (disch := omega) only [ix_lt, ix_le, ix_eq, ix_0, nI_clamp, nI_toInt, ng_T, nI_add, nI_mul, nI_sub', Int.neg_zero, not_false_eq_true, not_true_eq_false, ha2] <;> omega); done))) | refine ⟨Or.inl rfl, ?_⟩ | refine ⟨Or.inr rfl, ?_⟩ | (refine ⟨?_, ?_⟩; (focus ((try simp (disch := omega) only [ha2, nI_mul, nI_add, nI_sub']); exact in_nI (by omega) (by omega)))))
    have hq := hQ f
    rw [tkr_ok hP.ok] at hq
    exact hq
