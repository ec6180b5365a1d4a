/-! THE REFERENCE, 10: pairs -/
def csX11_isSo : xCs := [(mX11_isTaken, sX11_isTaken)]
theorem okX11_isSo : xOkM mX11_isSo csX11_isSo := ⟨dX11_isSo, by decide +kernel, by decide +kernel, ⟨wdX11_13, wdX11_16, wdX11_236, wdX11_16, trivial⟩⟩
theorem hhX11_isSo : ∀ q ∈ csX11_isSo, xHd q.1 := xall1 hX11_isTaken (xall0)
theorem kkX11_isSo : ∀ q ∈ csX11_isSo, ∀ l, xCon l q.1 q.2 := xall1 kX11_isTaken (xall0)
def sX11_isSo : xSpec := xReg fun as I L Q => ∃ (v : Nat → Int32) (r k m n : Nat), as = [.ref 27, .int (nI r), .int (nI k), .int (nI m)] ∧ r < 6 ∧ k < 8 ∧ m < 16 ∧ n ≤ 8 ∧ I 29 r = nI (2 * n) ∧ prOk v r n ∧ (∀ t, t < 2 * n → I 30 (40 * r + t) = v (40 * r + t)) ∧ Q (some (.int (bI (ftB v r k m n)))) I L
set_option maxRecDepth 100000 in
theorem kX11_isSo : ∀ l, xCon l mX11_isSo sX11_isSo := by
  refine xcon_of okX11_isSo hX11_isSo rfl (by decide) hhX11_isSo kkX11_isSo ?_
  rintro as n0 I L P Q ⟨rfl, rfl, v, r, k, m, n, rfl, hr, hk, hm, hn, hz, hp, hv, hQ⟩
  refine ⟨Nat.le_of_ble_eq_true rfl, ?_⟩
  refine xrun okX11_isSo hhX11_isSo [(6, [true, true, true, true, true, true])] 60 ?_
  refine xlp (M := mX11_isSo) (cs := csX11_isSo) (pc := 6) n (fun j => [some (.ref 27), some (.int (nI r)), some (.int (nI k)), some (.int (nI m)), some (.int (bI (ftB v r k m j))), some (.int (nI (2 * j)))]) (fun _ => I) (fun _ => L) ?_ ?_
  · intro j hj ih
    refine xrun okX11_isSo hhX11_isSo [(6, [true, true, true, true, true, true])] 90 ?_
    have hfs := ffN_s (ftF v r k m) j
    obtain ⟨hp1, hp2⟩ := hp j hj
    have e1 := hv (2 * j) (by omega)
    have e2 := hv (2 * j + 1) (by omega)
    rw [hp1] at e1
    have e4 : 2 * j + 2 = 2 * (j + 1) := by omega
    (first | (refine xbr_f ?_ ?_; (focus ((simp (disch := omega) only [ix_lt, ix_le, ix_eq, ix_0, nI_clamp, nI_toInt, ng_T, nI_add, nI_mul, nI_sub', Int.neg_zero, not_false_eq_true, not_true_eq_false, hz] <;> omega); done))) | (refine xbr_t ?_ ?_; (focus ((simp (disch := omega) only [ix_lt, ix_le, ix_eq, ix_0, nI_clamp, nI_toInt, ng_T, nI_add, nI_mul, nI_sub', Int.neg_zero, not_false_eq_true, not_true_eq_false, hz] <;> omega); done))) | refine ⟨Or.inl rfl, ?_⟩ | refine ⟨Or.inr rfl, ?_⟩ | (refine ⟨?_, ?_⟩; (focus ((try simp (disch := omega) only [hz, nI_mul, nI_add, nI_sub']); exact in_nI (by omega) (by omega)))))
    (first | (refine xbr_f ?_ ?_; (focus ((simp (disch := omega) only [ix_lt, ix_le, ix_eq, ix_0, nI_clamp, nI_toInt, ng_T, nI_add, nI_mul, nI_sub', Int.neg_zero, not_false_eq_true, not_true_eq_false, hz] <;> omega); done))) | (refine xbr_t ?_ ?_; (focus ((simp (disch := omega) only [ix_lt, ix_le, ix_eq, ix_0, nI_clamp, nI_toInt, ng_T, nI_add, nI_mul, nI_sub', Int.neg_zero, not_false_eq_true, not_true_eq_false, hz] <;> omega); done))) | refine ⟨Or.inl rfl, ?_⟩ | refine ⟨Or.inr rfl, ?_⟩ | (refine ⟨?_, ?_⟩; (focus ((try simp (disch := omega) only [hz, nI_mul, nI_add, nI_sub']); exact in_nI (by omega) (by omega)))))
    have eF : ftF v r k m j = (wtN k m (prA v r j) != prB v r j) := rfl
    unfold ftB
    by_cases h0 : ffN (ftF v r k m) j = 0
    · rw [decide_eq_true h0]
      rw [if_pos h0] at hfs
      (first | refine xbr_t (by decide) ?_ | refine xbr_f (by decide) ?_)
      (first | (refine xbr_f ?_ ?_; (focus ((simp (disch := omega) only [ix_lt, ix_le, ix_eq, ix_0, nI_clamp, nI_toInt, ng_T, nI_add, nI_mul, nI_sub', Int.neg_zero, not_false_eq_true, not_true_eq_false, nI_add] <;> omega); done))) | (refine xbr_t ?_ ?_; (focus ((simp (disch := omega) only [ix_lt, ix_le, ix_eq, ix_0, nI_clamp, nI_toInt, ng_T, nI_add, nI_mul, nI_sub', Int.neg_zero, not_false_eq_true, not_true_eq_false, nI_add] <;> omega); done))) | refine ⟨Or.inl rfl, ?_⟩ | refine ⟨Or.inr rfl, ?_⟩ | (refine ⟨?_, ?_⟩; (focus ((try simp (disch := omega) only [nI_add, nI_mul, nI_add, nI_sub']); exact in_nI (by omega) (by omega)))))
      refine ⟨rfl, rfl, k, m, prA v r j, ?_, hk, hm, hp2, ?_⟩
      · simp (disch := omega) only [e1, nI_mul, nI_add, nI_clamp, nI_sub']
      (first | (refine xbr_f ?_ ?_; (focus ((simp (disch := omega) only [ix_lt, ix_le, ix_eq, ix_0, nI_clamp, nI_toInt, ng_T, nI_add, nI_mul, nI_sub', Int.neg_zero, not_false_eq_true, not_true_eq_false, nI_add] <;> omega); done))) | (refine xbr_t ?_ ?_; (focus ((simp (disch := omega) only [ix_lt, ix_le, ix_eq, ix_0, nI_clamp, nI_toInt, ng_T, nI_add, nI_mul, nI_sub', Int.neg_zero, not_false_eq_true, not_true_eq_false, nI_add] <;> omega); done))) | refine ⟨Or.inl rfl, ?_⟩ | refine ⟨Or.inr rfl, ?_⟩ | (refine ⟨?_, ?_⟩; (focus ((try simp (disch := omega) only [nI_add, nI_mul, nI_add, nI_sub']); exact in_nI (by omega) (by omega)))))
      have eB : prB v r j = decide (v (40 * r + (2 * j + 1)) = nI 1) := rfl
      have e3 : I 30 (40 * r + 2 * j + 1) = v (40 * r + (2 * j + 1)) := by rw [← e2, Nat.add_assoc]
      by_cases hB : v (40 * r + (2 * j + 1)) = nI 1
      · rw [decide_eq_true hB] at eB
        rw [hB] at e3
        (first | (refine xbr_f ?_ ?_; (focus ((simp (disch := omega) only [ix_lt, ix_le, ix_eq, ix_0, nI_clamp, nI_toInt, ng_T, nI_add, nI_mul, nI_sub', Int.neg_zero, not_false_eq_true, not_true_eq_false, e3] <;> omega); done))) | (refine xbr_t ?_ ?_; (focus ((simp (disch := omega) only [ix_lt, ix_le, ix_eq, ix_0, nI_clamp, nI_toInt, ng_T, nI_add, nI_mul, nI_sub', Int.neg_zero, not_false_eq_true, not_true_eq_false, e3] <;> omega); done))) | refine ⟨Or.inl rfl, ?_⟩ | refine ⟨Or.inr rfl, ?_⟩ | (refine ⟨?_, ?_⟩; (focus ((try simp (disch := omega) only [e3, nI_mul, nI_add, nI_sub']); exact in_nI (by omega) (by omega)))))
        cases hw : wtN k m (prA v r j)
        · have hF : ftF v r k m j = true := by rw [eF, hw, eB]; rfl
          rw [if_pos hF] at hfs
          (first | refine xbr_t (by decide) ?_ | refine xbr_f (by decide) ?_)
          refine xgo_eq ih ?_ rfl rfl
          unfold ftB
          rw [hfs, decide_eq_false (by omega)]
          ((repeat' (first | (with_reducible rfl) | exact xv_nil | refine xv_cons ?_ ?_ | refine xv_i ?_ | refine xv_l ?_)) <;> (simp (disch := omega) only [↓reduceIte, Bool.false_eq_true, Nat.one_mul, Nat.zero_mul, Nat.or_zero, Nat.add_zero, Nat.zero_add, Bool.toNat_true, Bool.toNat_false, shl_n, shr_n, fa_and, fa_or, nx_xor, nI_add, nI_mul, nI_sub', and_1, and_7, and_3', and_15, e4, bI_f]))
        · have hF : ¬ ftF v r k m j = true := by rw [eF, hw, eB]; decide
          rw [if_neg hF] at hfs
          (first | refine xbr_t (by decide) ?_ | refine xbr_f (by decide) ?_)
          refine xgo_eq ih ?_ rfl rfl
          unfold ftB
          rw [hfs, decide_eq_true rfl]
          ((repeat' (first | (with_reducible rfl) | exact xv_nil | refine xv_cons ?_ ?_ | refine xv_i ?_ | refine xv_l ?_)) <;> (simp (disch := omega) only [↓reduceIte, Bool.false_eq_true, Nat.one_mul, Nat.zero_mul, Nat.or_zero, Nat.add_zero, Nat.zero_add, Bool.toNat_true, Bool.toNat_false, shl_n, shr_n, fa_and, fa_or, nx_xor, nI_add, nI_mul, nI_sub', and_1, and_7, and_3', and_15, e4, bI_t]))
      · rw [decide_eq_false hB] at eB
        have hne : ¬ I 30 (nI 40 * nI r + nI (2 * j) + nI 1).toNatClampNeg = nI 1 := by
          rw [nI_mul, nI_add, nI_add, nI_clamp (by omega), e3]
          exact hB
        (first | refine xbr_t hne ?_ | refine xbr_f hne ?_)
        cases hw : wtN k m (prA v r j)
        · have hF : ¬ ftF v r k m j = true := by rw [eF, hw, eB]; decide
          rw [if_neg hF] at hfs
          (first | refine xbr_t (by decide) ?_ | refine xbr_f (by decide) ?_)
          refine xgo_eq ih ?_ rfl rfl
          unfold ftB
          rw [hfs, decide_eq_true rfl]
          ((repeat' (first | (with_reducible rfl) | exact xv_nil | refine xv_cons ?_ ?_ | refine xv_i ?_ | refine xv_l ?_)) <;> (simp (disch := omega) only [↓reduceIte, Bool.false_eq_true, Nat.one_mul, Nat.zero_mul, Nat.or_zero, Nat.add_zero, Nat.zero_add, Bool.toNat_true, Bool.toNat_false, shl_n, shr_n, fa_and, fa_or, nx_xor, nI_add, nI_mul, nI_sub', and_1, and_7, and_3', and_15, e4, bI_t]))
        · have hF : ftF v r k m j = true := by rw [eF, hw, eB]; rfl
          rw [if_pos hF] at hfs
          (first | refine xbr_t (by decide) ?_ | refine xbr_f (by decide) ?_)
          refine xgo_eq ih ?_ rfl rfl
          unfold ftB
          rw [hfs, decide_eq_false (by omega)]
          ((repeat' (first | (with_reducible rfl) | exact xv_nil | refine xv_cons ?_ ?_ | refine xv_i ?_ | refine xv_l ?_)) <;> (simp (disch := omega) only [↓reduceIte, Bool.false_eq_true, Nat.one_mul, Nat.zero_mul, Nat.or_zero, Nat.add_zero, Nat.zero_add, Bool.toNat_true, Bool.toNat_false, shl_n, shr_n, fa_and, fa_or, nx_xor, nI_add, nI_mul, nI_sub', and_1, and_7, and_3', and_15, e4, bI_f]))
    · rw [decide_eq_false h0]
      rw [if_neg h0] at hfs
      (first | refine xbr_t (by decide) ?_ | refine xbr_f (by decide) ?_)
      refine xgo_eq ih ?_ rfl rfl
      unfold ftB
      rw [hfs, decide_eq_false h0]
      ((repeat' (first | (with_reducible rfl) | exact xv_nil | refine xv_cons ?_ ?_ | refine xv_i ?_ | refine xv_l ?_)) <;> (simp (disch := omega) only [↓reduceIte, Bool.false_eq_true, Nat.one_mul, Nat.zero_mul, Nat.or_zero, Nat.add_zero, Nat.zero_add, Bool.toNat_true, Bool.toNat_false, shl_n, shr_n, fa_and, fa_or, nx_xor, nI_add, nI_mul, nI_sub', and_1, and_7, and_3', and_15, e4, bI_f]))
  · refine xrun okX11_isSo hhX11_isSo [] 60 ?_
    (first | (refine xbr_f ?_ ?_; (focus ((simp (disch := omega) only [ix_lt, ix_le, ix_eq, ix_0, nI_clamp, nI_toInt, ng_T, nI_add, nI_mul, nI_sub', Int.neg_zero, not_false_eq_true, not_true_eq_false, hz] <;> omega); done))) | (refine xbr_t ?_ ?_; (focus ((simp (disch := omega) only [ix_lt, ix_le, ix_eq, ix_0, nI_clamp, nI_toInt, ng_T, nI_add, nI_mul, nI_sub', Int.neg_zero, not_false_eq_true, not_true_eq_false, hz] <;> omega); done))) | refine ⟨Or.inl rfl, ?_⟩ | refine ⟨Or.inr rfl, ?_⟩ | (refine ⟨?_, ?_⟩; (focus ((try simp (disch := omega) only [hz, nI_mul, nI_add, nI_sub']); exact in_nI (by omega) (by omega)))))
    (first | (refine xbr_f ?_ ?_; (focus ((simp (disch := omega) only [ix_lt, ix_le, ix_eq, ix_0, nI_clamp, nI_toInt, ng_T, nI_add, nI_mul, nI_sub', Int.neg_zero, not_false_eq_true, not_true_eq_false, hz] <;> omega); done))) | (refine xbr_t ?_ ?_; (focus ((simp (disch := omega) only [ix_lt, ix_le, ix_eq, ix_0, nI_clamp, nI_toInt, ng_T, nI_add, nI_mul, nI_sub', Int.neg_zero, not_false_eq_true, not_true_eq_false, hz] <;> omega); done))) | refine ⟨Or.inl rfl, ?_⟩ | refine ⟨Or.inr rfl, ?_⟩ | (refine ⟨?_, ?_⟩; (focus ((try simp (disch := omega) only [hz, nI_mul, nI_add, nI_sub']); exact in_nI (by omega) (by omega)))))
    exact ⟨bI_01 _, hQ⟩
def csX11_memoriesBy : xCs := [(mX11_isSo, sX11_isSo)]
theorem okX11_memoriesBy : xOkM mX11_memoriesBy csX11_memoriesBy := ⟨dX11_memoriesBy, by decide +kernel, by decide +kernel, ⟨wdX11_31, wdX11_269, trivial⟩⟩
theorem hhX11_memoriesBy : ∀ q ∈ csX11_memoriesBy, xHd q.1 := xall1 hX11_isSo (xall0)
theorem kkX11_memoriesBy : ∀ q ∈ csX11_memoriesBy, ∀ l, xCon l q.1 q.2 := xall1 kX11_isSo (xall0)
def sX11_memoriesBy : xSpec := xReg fun as I L Q => ∃ (d : PD) (v : Nat → Int32) (a r n : Nat), as = [.ref 27, .int (nI a), .int (nI r)] ∧ pdR d I ∧ a < d.nA ∧ r < 6 ∧ n ≤ 8 ∧ I 29 r = nI (2 * n) ∧ prOk v r n ∧ (∀ t, t < 2 * n → I 30 (40 * r + t) = v (40 * r + t)) ∧ Q (some (.int (nI (bsN (fun m => ftB v r (kdN d a) m n) 16)))) I L
set_option maxRecDepth 100000 in
theorem kX11_memoriesBy : ∀ l, xCon l mX11_memoriesBy sX11_memoriesBy := by
  refine xcon_of okX11_memoriesBy hX11_memoriesBy rfl (by decide) hhX11_memoriesBy kkX11_memoriesBy ?_
  rintro as n0 I L P Q ⟨rfl, rfl, d, v, a, r, n, rfl, hP, ha, hr, hn, hz, hp, hv, hQ⟩
  refine ⟨Nat.le_of_ble_eq_true rfl, ?_⟩
  have h4 := hP.ok.a4
  refine xrun okX11_memoriesBy hhX11_memoriesBy [(5, [true, true, true, true, true])] 60 ?_
  refine xlp (M := mX11_memoriesBy) (cs := csX11_memoriesBy) (pc := 5) 16 (fun m => [some (.ref 27), some (.int (nI a)), some (.int (nI r)), some (.int (nI (bsN (fun m => ftB v r (kdN d a) m n) m))), some (.int (nI m))]) (fun _ => I) (fun _ => L) ?_ ?_
  · intro m hm ih
    refine xrun okX11_memoriesBy hhX11_memoriesBy [(5, [true, true, true, true, true])] 60 ?_
    (first | (refine xbr_f ?_ ?_; (focus ((simp (disch := omega) only [ix_lt, ix_le, ix_eq, ix_0, nI_clamp, nI_toInt, ng_T, nI_add, nI_mul, nI_sub', Int.neg_zero, not_false_eq_true, not_true_eq_false] <;> omega); done))) | (refine xbr_t ?_ ?_; (focus ((simp (disch := omega) only [ix_lt, ix_le, ix_eq, ix_0, nI_clamp, nI_toInt, ng_T, nI_add, nI_mul, nI_sub', Int.neg_zero, not_false_eq_true, not_true_eq_false] <;> omega); done))) | refine ⟨Or.inl rfl, ?_⟩ | refine ⟨Or.inr rfl, ?_⟩ | (refine ⟨?_, ?_⟩; (focus (exact in_nI (by omega) (by omega)))))
    (first | (refine xbr_f ?_ ?_; (focus ((simp (disch := omega) only [ix_lt, ix_le, ix_eq, ix_0, nI_clamp, nI_toInt, ng_T, nI_add, nI_mul, nI_sub', Int.neg_zero, not_false_eq_true, not_true_eq_false, nI_add] <;> omega); done))) | (refine xbr_t ?_ ?_; (focus ((simp (disch := omega) only [ix_lt, ix_le, ix_eq, ix_0, nI_clamp, nI_toInt, ng_T, nI_add, nI_mul, nI_sub', Int.neg_zero, not_false_eq_true, not_true_eq_false, nI_add] <;> omega); done))) | refine ⟨Or.inl rfl, ?_⟩ | refine ⟨Or.inr rfl, ?_⟩ | (refine ⟨?_, ?_⟩; (focus ((try simp (disch := omega) only [nI_add, nI_mul, nI_add, nI_sub']); exact in_nI (by omega) (by omega)))))
    refine ⟨rfl, rfl, v, r, kdN d a, m, n, ?_, hr, kdN_8 _ _, hm, hn, hz, hp, hv, ?_⟩
    · simp (disch := omega) only [hP.k a ha, nI_mul, nI_add, nI_clamp, nI_sub']
    cases hb : ftB v r (kdN d a) m n
    · (first | refine xbr_t (by decide) ?_ | refine xbr_f (by decide) ?_)
      refine xgo_eq ih ?_ rfl rfl
      ((repeat' (first | (with_reducible rfl) | exact xv_nil | refine xv_cons ?_ ?_ | refine xv_i ?_ | refine xv_l ?_)) <;> (simp (disch := omega) only [↓reduceIte, Bool.false_eq_true, Nat.one_mul, Nat.zero_mul, Nat.or_zero, Nat.add_zero, Nat.zero_add, Bool.toNat_true, Bool.toNat_false, shl_n, shr_n, fa_and, fa_or, nx_xor, nI_add, nI_mul, nI_sub', and_1, and_7, and_3', and_15, bsN, hb]))
    · (first | refine xbr_t (by decide) ?_ | refine xbr_f (by decide) ?_)
      refine xgo_eq ih ?_ rfl rfl
      ((repeat' (first | (with_reducible rfl) | exact xv_nil | refine xv_cons ?_ ?_ | refine xv_i ?_ | refine xv_l ?_)) <;> (simp (disch := omega) only [↓reduceIte, Bool.false_eq_true, Nat.one_mul, Nat.zero_mul, Nat.or_zero, Nat.add_zero, Nat.zero_add, Bool.toNat_true, Bool.toNat_false, shl_n, shr_n, fa_and, fa_or, nx_xor, nI_add, nI_mul, nI_sub', and_1, and_7, and_3', and_15, bsN, hb]))
  · refine xrun okX11_memoriesBy hhX11_memoriesBy [] 60 ?_
    repeat (first | (refine xbr_f ?_ ?_; (focus ((simp (disch := omega) only [ix_lt, ix_le, ix_eq, ix_0, nI_clamp, nI_toInt, ng_T, nI_add, nI_mul, nI_sub', Int.neg_zero, not_false_eq_true, not_true_eq_false] <;> omega); done))) | (refine xbr_t ?_ ?_; (focus ((simp (disch := omega) only [ix_lt, ix_le, ix_eq, ix_0, nI_clamp, nI_toInt, ng_T, nI_add, nI_mul, nI_sub', Int.neg_zero, not_false_eq_true, not_true_eq_false] <;> omega); done))) | refine ⟨Or.inl rfl, ?_⟩ | refine ⟨Or.inr rfl, ?_⟩ | (refine ⟨?_, ?_⟩; (focus (exact in_nI (by omega) (by omega)))))
    exact hQ
theorem rem2 {n : Nat} (h : n < 2 ^ 31) : nI n - nI n / nI 2 * nI 2 = nI (n % 2) := pk_rem h (by decide) (by decide)
theorem ib_eq {a b : Int32} {n : Nat} (h : a = b) : ibB a n = ibB b n := by rw [h]
def csX11_whyPairs : xCs := [(mX11_finds, sX11_finds), (mX11_in, sX11_in)]
theorem okX11_whyPairs : xOkM mX11_whyPairs csX11_whyPairs := ⟨dX11_whyPairs, by decide +kernel, by decide +kernel, ⟨wdX11_13, wdX11_100, wdX11_13, wdX11_13, wdX11_100, wdX11_13, wdX11_16, wdX11_124, wdX11_90, wdX11_100, trivial⟩⟩
theorem hhX11_whyPairs : ∀ q ∈ csX11_whyPairs, xHd q.1 := xall1 hX11_finds (xall1 hX11_in (xall0))
theorem kkX11_whyPairs : ∀ q ∈ csX11_whyPairs, ∀ l, xCon l q.1 q.2 := xall1 kX11_finds (xall1 kX11_in (xall0))
def sX11_whyPairs : xSpec := xReg fun as I L Q => ∃ (S : ST) (j : Nat), as = [.ref 27, .int (nI j)] ∧ j < 6 ∧ Ref S I L ∧ (0 < wpS S j → ∀ I', frM I L I' L → Ref (S.wF (wpS S j)) I' L → Q (some (.int (-(nI 3)))) I' L) ∧ (wpS S j = 0 → Q (some (.int (nI 0))) I L)
set_option maxRecDepth 100000 in
theorem kX11_whyPairs : ∀ l, xCon l mX11_whyPairs sX11_whyPairs := by
  refine xcon_of okX11_whyPairs hX11_whyPairs rfl (by decide) hhX11_whyPairs kkX11_whyPairs ?_
  rintro as n0 I L P Q ⟨rfl, rfl, S, j, rfl, hj, hC, hQ1, hQ2⟩
  refine ⟨Nat.le_of_ble_eq_true rfl, ?_⟩
  have hz := hC.rz hj
  have hz41 := hC.ok.rz j hj
  have two0 : ¬ nI 2 = 0 := by decide
  refine xrun okX11_whyPairs hhX11_whyPairs [(46, [true, true, true])] 60 ?_
  have hw : wpS S j = if S.rz j = 0 then 1 else if 16 < S.rz j - 1 ∨ (S.rz j - 1) % 2 = 1 then 5 else if ffN (bpF S.rv j) ((S.rz j - 1) / 2) = 0 then 0 else 3 := rfl
  by_cases h0 : S.rz j = 0
  · rw [if_pos h0] at hw
    rw [hw] at hQ1
    rw [h0, szI_0] at hz
    repeat (first | (refine xbr_f ?_ ?_; (focus ((simp (disch := omega) only [ix_lt, ix_le, ix_eq, ix_0, nI_clamp, nI_toInt, ng_T, nI_add, nI_mul, nI_sub', Int.neg_zero, not_false_eq_true, not_true_eq_false, hz] <;> omega); done))) | (refine xbr_t ?_ ?_; (focus ((simp (disch := omega) only [ix_lt, ix_le, ix_eq, ix_0, nI_clamp, nI_toInt, ng_T, nI_add, nI_mul, nI_sub', Int.neg_zero, not_false_eq_true, not_true_eq_false, hz] <;> omega); done))) | refine ⟨Or.inl rfl, ?_⟩ | refine ⟨Or.inr rfl, ?_⟩ | (refine ⟨?_, ?_⟩; (focus ((try simp (disch := omega) only [hz, nI_mul, nI_add, nI_sub']); exact in_nI (by omega) (by omega)))))
    exact ⟨rfl, rfl, S, 1, rfl, by decide, hC, hQ1 (by decide)⟩
  · rw [if_neg h0] at hw
    obtain ⟨s, hs⟩ : ∃ s, S.rz j = s + 1 := ⟨S.rz j - 1, by omega⟩
    have hrv : ∀ t, t < s → I 30 (40 * j + t) = S.rv (40 * j + t) := fun t ht => by
      have := hC.rv (r := j) (k := t) hj (by omega)
      rw [Nat.mul_comm j 40] at this
      exact this
    rw [hs, szI_s] at hz
    rw [hs, Nat.add_sub_cancel] at hw
    have er := rem2 (n := s) (by omega)
    repeat (first | (refine xbr_f ?_ ?_; (focus ((simp (disch := omega) only [ix_lt, ix_le, ix_eq, ix_0, nI_clamp, nI_toInt, ng_T, nI_add, nI_mul, nI_sub', Int.neg_zero, not_false_eq_true, not_true_eq_false, hz] <;> omega); done))) | (refine xbr_t ?_ ?_; (focus ((simp (disch := omega) only [ix_lt, ix_le, ix_eq, ix_0, nI_clamp, nI_toInt, ng_T, nI_add, nI_mul, nI_sub', Int.neg_zero, not_false_eq_true, not_true_eq_false, hz] <;> omega); done))) | refine ⟨Or.inl rfl, ?_⟩ | refine ⟨Or.inr rfl, ?_⟩ | (refine ⟨?_, ?_⟩; (focus ((try simp (disch := omega) only [hz, nI_mul, nI_add, nI_sub']); exact in_nI (by omega) (by omega)))))
    refine ⟨two0, ?_⟩
    by_cases h1 : 16 < s ∨ s % 2 = 1
    · rw [if_pos h1] at hw
      rw [hw] at hQ1
      by_cases h2 : s % 2 = 1
      · (first | (refine xbr_f ?_ ?_; (focus ((simp (disch := omega) only [ix_lt, ix_le, ix_eq, ix_0, nI_clamp, nI_toInt, ng_T, nI_add, nI_mul, nI_sub', Int.neg_zero, not_false_eq_true, not_true_eq_false, hz, er] <;> omega); done))) | (refine xbr_t ?_ ?_; (focus ((simp (disch := omega) only [ix_lt, ix_le, ix_eq, ix_0, nI_clamp, nI_toInt, ng_T, nI_add, nI_mul, nI_sub', Int.neg_zero, not_false_eq_true, not_true_eq_false, hz, er] <;> omega); done))) | refine ⟨Or.inl rfl, ?_⟩ | refine ⟨Or.inr rfl, ?_⟩ | (refine ⟨?_, ?_⟩; (focus ((try simp (disch := omega) only [hz, er, nI_mul, nI_add, nI_sub']); exact in_nI (by omega) (by omega)))))
        exact ⟨rfl, rfl, S, 5, rfl, by decide, hC, hQ1 (by decide)⟩
      · (first | (refine xbr_f ?_ ?_; (focus ((simp (disch := omega) only [ix_lt, ix_le, ix_eq, ix_0, nI_clamp, nI_toInt, ng_T, nI_add, nI_mul, nI_sub', Int.neg_zero, not_false_eq_true, not_true_eq_false, hz, er] <;> omega); done))) | (refine xbr_t ?_ ?_; (focus ((simp (disch := omega) only [ix_lt, ix_le, ix_eq, ix_0, nI_clamp, nI_toInt, ng_T, nI_add, nI_mul, nI_sub', Int.neg_zero, not_false_eq_true, not_true_eq_false, hz, er] <;> omega); done))) | refine ⟨Or.inl rfl, ?_⟩ | refine ⟨Or.inr rfl, ?_⟩ | (refine ⟨?_, ?_⟩; (focus ((try simp (disch := omega) only [hz, er, nI_mul, nI_add, nI_sub']); exact in_nI (by omega) (by omega)))))
        repeat (first | (refine xbr_f ?_ ?_; (focus ((simp (disch := omega) only [ix_lt, ix_le, ix_eq, ix_0, nI_clamp, nI_toInt, ng_T, nI_add, nI_mul, nI_sub', Int.neg_zero, not_false_eq_true, not_true_eq_false, hz] <;> omega); done))) | (refine xbr_t ?_ ?_; (focus ((simp (disch := omega) only [ix_lt, ix_le, ix_eq, ix_0, nI_clamp, nI_toInt, ng_T, nI_add, nI_mul, nI_sub', Int.neg_zero, not_false_eq_true, not_true_eq_false, hz] <;> omega); done))) | refine ⟨Or.inl rfl, ?_⟩ | refine ⟨Or.inr rfl, ?_⟩ | (refine ⟨?_, ?_⟩; (focus ((try simp (disch := omega) only [hz, nI_mul, nI_add, nI_sub']); exact in_nI (by omega) (by omega)))))
        exact ⟨rfl, rfl, S, 5, rfl, by decide, hC, hQ1 (by decide)⟩
    · rw [if_neg h1] at hw
      (first | (refine xbr_f ?_ ?_; (focus ((simp (disch := omega) only [ix_lt, ix_le, ix_eq, ix_0, nI_clamp, nI_toInt, ng_T, nI_add, nI_mul, nI_sub', Int.neg_zero, not_false_eq_true, not_true_eq_false, hz, er] <;> omega); done))) | (refine xbr_t ?_ ?_; (focus ((simp (disch := omega) only [ix_lt, ix_le, ix_eq, ix_0, nI_clamp, nI_toInt, ng_T, nI_add, nI_mul, nI_sub', Int.neg_zero, not_false_eq_true, not_true_eq_false, hz, er] <;> omega); done))) | refine ⟨Or.inl rfl, ?_⟩ | refine ⟨Or.inr rfl, ?_⟩ | (refine ⟨?_, ?_⟩; (focus ((try simp (disch := omega) only [hz, er, nI_mul, nI_add, nI_sub']); exact in_nI (by omega) (by omega)))))
      repeat (first | (refine xbr_f ?_ ?_; (focus ((simp (disch := omega) only [ix_lt, ix_le, ix_eq, ix_0, nI_clamp, nI_toInt, ng_T, nI_add, nI_mul, nI_sub', Int.neg_zero, not_false_eq_true, not_true_eq_false, hz] <;> omega); done))) | (refine xbr_t ?_ ?_; (focus ((simp (disch := omega) only [ix_lt, ix_le, ix_eq, ix_0, nI_clamp, nI_toInt, ng_T, nI_add, nI_mul, nI_sub', Int.neg_zero, not_false_eq_true, not_true_eq_false, hz] <;> omega); done))) | refine ⟨Or.inl rfl, ?_⟩ | refine ⟨Or.inr rfl, ?_⟩ | (refine ⟨?_, ?_⟩; (focus ((try simp (disch := omega) only [hz, nI_mul, nI_add, nI_sub']); exact in_nI (by omega) (by omega)))))
      have done3 : ∀ t, t < s → ibB (S.rv (40 * j + t)) (if t % 2 = 0 then 16 else 2) = false → ∀ I', frM I L I' L → Ref (S.wF 3) I' L → Q (some (.int (-(nI 3)))) xN I' L xP0 := by
        intro t ht hbad
        have hne : ¬ ffN (bpF S.rv j) (s / 2) = 0 := by
          intro q
          have h3 := ffN_none q (i := t / 2) (by omega)
          unfold bpF at h3
          by_cases ev : t % 2 = 0
          · rw [if_pos ev, show t = 2 * (t / 2) by omega] at hbad
            rw [hbad] at h3
            exact absurd h3 (by simp)
          · rw [if_neg ev, show t = 2 * (t / 2) + 1 by omega] at hbad
            rw [hbad] at h3
            exact absurd h3 (by simp)
        rw [if_neg hne] at hw
        rw [hw] at hQ1
        exact hQ1 (by decide)
      refine xlpI (M := mX11_whyPairs) (cs := csX11_whyPairs) (pc := 46) (fun t => ∀ i, i < t → ibB (S.rv (40 * j + i)) (if i % 2 = 0 then 16 else 2) = true) s (fun t => [some (.ref 27), some (.int (nI j)), some (.int (nI t))]) (fun _ => I) (fun _ => L) ?_ ?_ (fun i h => absurd h (by omega))
      · intro t ht hinv ih
        refine xrun okX11_whyPairs hhX11_whyPairs [(46, [true, true, true])] 60 ?_
        have et := rem2 (n := t) (by omega)
        have e1 := hrv t ht
        (first | (refine xbr_f ?_ ?_; (focus ((simp (disch := omega) only [ix_lt, ix_le, ix_eq, ix_0, nI_clamp, nI_toInt, ng_T, nI_add, nI_mul, nI_sub', Int.neg_zero, not_false_eq_true, not_true_eq_false, hz] <;> omega); done))) | (refine xbr_t ?_ ?_; (focus ((simp (disch := omega) only [ix_lt, ix_le, ix_eq, ix_0, nI_clamp, nI_toInt, ng_T, nI_add, nI_mul, nI_sub', Int.neg_zero, not_false_eq_true, not_true_eq_false, hz] <;> omega); done))) | refine ⟨Or.inl rfl, ?_⟩ | refine ⟨Or.inr rfl, ?_⟩ | (refine ⟨?_, ?_⟩; (focus ((try simp (disch := omega) only [hz, nI_mul, nI_add, nI_sub']); exact in_nI (by omega) (by omega)))))
        (first | (refine xbr_f ?_ ?_; (focus ((simp (disch := omega) only [ix_lt, ix_le, ix_eq, ix_0, nI_clamp, nI_toInt, ng_T, nI_add, nI_mul, nI_sub', Int.neg_zero, not_false_eq_true, not_true_eq_false, hz] <;> omega); done))) | (refine xbr_t ?_ ?_; (focus ((simp (disch := omega) only [ix_lt, ix_le, ix_eq, ix_0, nI_clamp, nI_toInt, ng_T, nI_add, nI_mul, nI_sub', Int.neg_zero, not_false_eq_true, not_true_eq_false, hz] <;> omega); done))) | refine ⟨Or.inl rfl, ?_⟩ | refine ⟨Or.inr rfl, ?_⟩ | (refine ⟨?_, ?_⟩; (focus ((try simp (disch := omega) only [hz, nI_mul, nI_add, nI_sub']); exact in_nI (by omega) (by omega)))))
        (first | (refine xbr_f ?_ ?_; (focus ((simp (disch := omega) only [ix_lt, ix_le, ix_eq, ix_0, nI_clamp, nI_toInt, ng_T, nI_add, nI_mul, nI_sub', Int.neg_zero, not_false_eq_true, not_true_eq_false, nI_add] <;> omega); done))) | (refine xbr_t ?_ ?_; (focus ((simp (disch := omega) only [ix_lt, ix_le, ix_eq, ix_0, nI_clamp, nI_toInt, ng_T, nI_add, nI_mul, nI_sub', Int.neg_zero, not_false_eq_true, not_true_eq_false, nI_add] <;> omega); done))) | refine ⟨Or.inl rfl, ?_⟩ | refine ⟨Or.inr rfl, ?_⟩ | (refine ⟨?_, ?_⟩; (focus ((try simp (disch := omega) only [nI_add, nI_mul, nI_add, nI_sub']); exact in_nI (by omega) (by omega)))))
        refine ⟨two0, ?_⟩
        have next : ibB (S.rv (40 * j + t)) (if t % 2 = 0 then 16 else 2) = true → xGo mX11_whyPairs csX11_whyPairs 46 Q [some (.ref 27), some (.int (nI j)), some (.int (nI (t + 1)))] [] 0 xN I L xP0 := fun hb => ih (fun i hi => by
          by_cases e : i = t
          · rw [e]
            exact hb
          · exact hinv i (by omega))
        have ein : I 30 (nI 40 * nI j + nI t).toNatClampNeg = S.rv (40 * j + t) := by rw [nI_mul, nI_add, nI_clamp (by omega), e1]
        by_cases ev : t % 2 = 0
        · rw [ev] at et
          (first | (refine xbr_f ?_ ?_; (focus ((simp (disch := omega) only [ix_lt, ix_le, ix_eq, ix_0, nI_clamp, nI_toInt, ng_T, nI_add, nI_mul, nI_sub', Int.neg_zero, not_false_eq_true, not_true_eq_false, et] <;> omega); done))) | (refine xbr_t ?_ ?_; (focus ((simp (disch := omega) only [ix_lt, ix_le, ix_eq, ix_0, nI_clamp, nI_toInt, ng_T, nI_add, nI_mul, nI_sub', Int.neg_zero, not_false_eq_true, not_true_eq_false, et] <;> omega); done))) | refine ⟨Or.inl rfl, ?_⟩ | refine ⟨Or.inr rfl, ?_⟩ | (refine ⟨?_, ?_⟩; (focus ((try simp (disch := omega) only [et, nI_mul, nI_add, nI_sub']); exact in_nI (by omega) (by omega)))))
          refine ⟨rfl, rfl, _, _, _, S.rv (40 * j + t), nI 0, nI 15, rfl, by rw [ein], by decide, by decide, ?_⟩
          rw [in_c (by decide)]
          cases hb : ibB (S.rv (40 * j + t)) 16
          · (first | refine xbr_t (by decide) ?_ | refine xbr_f (by decide) ?_)
            exact ⟨rfl, rfl, S, 3, rfl, by decide, hC, done3 t ht (by rw [if_pos ev]; exact hb)⟩
          · (first | refine xbr_t (by decide) ?_ | refine xbr_f (by decide) ?_)
            refine xgo_eq (next (by rw [if_pos ev]; exact hb)) ?_ rfl rfl
            ((repeat' (first | (with_reducible rfl) | exact xv_nil | refine xv_cons ?_ ?_ | refine xv_i ?_ | refine xv_l ?_)) <;> (simp (disch := omega) only [↓reduceIte, Bool.false_eq_true, Nat.one_mul, Nat.zero_mul, Nat.or_zero, Nat.add_zero, Nat.zero_add, Bool.toNat_true, Bool.toNat_false, shl_n, shr_n, fa_and, fa_or, nx_xor, nI_add, nI_mul, nI_sub', and_1, and_7, and_3', and_15]))
        · have et : nI t - nI t / nI 2 * nI 2 = nI 1 := by rw [et, show t % 2 = 1 by omega]
          (first | (refine xbr_f ?_ ?_; (focus ((simp (disch := omega) only [ix_lt, ix_le, ix_eq, ix_0, nI_clamp, nI_toInt, ng_T, nI_add, nI_mul, nI_sub', Int.neg_zero, not_false_eq_true, not_true_eq_false, et] <;> omega); done))) | (refine xbr_t ?_ ?_; (focus ((simp (disch := omega) only [ix_lt, ix_le, ix_eq, ix_0, nI_clamp, nI_toInt, ng_T, nI_add, nI_mul, nI_sub', Int.neg_zero, not_false_eq_true, not_true_eq_false, et] <;> omega); done))) | refine ⟨Or.inl rfl, ?_⟩ | refine ⟨Or.inr rfl, ?_⟩ | (refine ⟨?_, ?_⟩; (focus ((try simp (disch := omega) only [et, nI_mul, nI_add, nI_sub']); exact in_nI (by omega) (by omega)))))
          refine ⟨rfl, rfl, _, _, _, S.rv (40 * j + t), nI 0, nI 1, rfl, by rw [ein], by decide, by decide, ?_⟩
          rw [in_c (by decide)]
          cases hb : ibB (S.rv (40 * j + t)) 2
          · (first | refine xbr_t (by decide) ?_ | refine xbr_f (by decide) ?_)
            exact ⟨rfl, rfl, S, 3, rfl, by decide, hC, done3 t ht (by rw [if_neg ev]; exact hb)⟩
          · (first | refine xbr_t (by decide) ?_ | refine xbr_f (by decide) ?_)
            refine xgo_eq (next (by rw [if_neg ev]; exact hb)) ?_ rfl rfl
            ((repeat' (first | (with_reducible rfl) | exact xv_nil | refine xv_cons ?_ ?_ | refine xv_i ?_ | refine xv_l ?_)) <;> (simp (disch := omega) only [↓reduceIte, Bool.false_eq_true, Nat.one_mul, Nat.zero_mul, Nat.or_zero, Nat.add_zero, Nat.zero_add, Bool.toNat_true, Bool.toNat_false, shl_n, shr_n, fa_and, fa_or, nx_xor, nI_add, nI_mul, nI_sub', and_1, and_7, and_3', and_15]))
      · intro hinv
        refine xrun okX11_whyPairs hhX11_whyPairs [] 60 ?_
        have hz0 : ffN (bpF S.rv j) (s / 2) = 0 := ffN_all (fun i hi => by
          have a1 := hinv (2 * i) (by omega)
          have a2 := hinv (2 * i + 1) (by omega)
          rw [if_pos (by omega)] at a1
          rw [if_neg (by omega)] at a2
          unfold bpF
          rw [a1, a2]
          rfl)
        rw [if_pos hz0] at hw
        (first | (refine xbr_f ?_ ?_; (focus ((simp (disch := omega) only [ix_lt, ix_le, ix_eq, ix_0, nI_clamp, nI_toInt, ng_T, nI_add, nI_mul, nI_sub', Int.neg_zero, not_false_eq_true, not_true_eq_false, hz] <;> omega); done))) | (refine xbr_t ?_ ?_; (focus ((simp (disch := omega) only [ix_lt, ix_le, ix_eq, ix_0, nI_clamp, nI_toInt, ng_T, nI_add, nI_mul, nI_sub', Int.neg_zero, not_false_eq_true, not_true_eq_false, hz] <;> omega); done))) | refine ⟨Or.inl rfl, ?_⟩ | refine ⟨Or.inr rfl, ?_⟩ | (refine ⟨?_, ?_⟩; (focus ((try simp (disch := omega) only [hz, nI_mul, nI_add, nI_sub']); exact in_nI (by omega) (by omega)))))
        (first | (refine xbr_f ?_ ?_; (focus ((simp (disch := omega) only [ix_lt, ix_le, ix_eq, ix_0, nI_clamp, nI_toInt, ng_T, nI_add, nI_mul, nI_sub', Int.neg_zero, not_false_eq_true, not_true_eq_false, hz] <;> omega); done))) | (refine xbr_t ?_ ?_; (focus ((simp (disch := omega) only [ix_lt, ix_le, ix_eq, ix_0, nI_clamp, nI_toInt, ng_T, nI_add, nI_mul, nI_sub', Int.neg_zero, not_false_eq_true, not_true_eq_false, hz] <;> omega); done))) | refine ⟨Or.inl rfl, ?_⟩ | refine ⟨Or.inr rfl, ?_⟩ | (refine ⟨?_, ?_⟩; (focus ((try simp (disch := omega) only [hz, nI_mul, nI_add, nI_sub']); exact in_nI (by omega) (by omega)))))
        exact hQ2 hw
theorem pr_rv {S : ST} {I : xI} {L : xL} (h : Ref S I L) {j n : Nat} (hj : j < 6) (hn : S.rz j = 2 * n + 1) : I 29 j = nI (2 * n) ∧ ∀ t, t < 2 * n → I 30 (40 * j + t) = S.rv (40 * j + t) := by
  have hz := h.rz hj
  rw [hn, szI_s] at hz
  refine ⟨hz, fun t ht => ?_⟩
  have := h.rv (r := j) (k := t) hj (by omega)
  rw [Nat.mul_comm j 40] at this
  exact this
def csX11_memories : xCs := [(mX11_isAss, sX11_isAss), (mX11_isRow, sX11_isRow), (mX11_whyPairs, sX11_whyPairs), (mX11_memoriesBy, sX11_memoriesBy)]
theorem okX11_memories : xOkM mX11_memories csX11_memories := ⟨dX11_memories, by decide +kernel, by decide +kernel, ⟨wdX11_205, wdX11_96, wdX11_272, wdX11_275, trivial⟩⟩
theorem hhX11_memories : ∀ q ∈ csX11_memories, xHd q.1 := xall1 hX11_isAss (xall1 hX11_isRow (xall1 hX11_whyPairs (xall1 hX11_memoriesBy (xall0))))
theorem kkX11_memories : ∀ q ∈ csX11_memories, ∀ l, xCon l q.1 q.2 := xall1 kX11_isAss (xall1 kX11_isRow (xall1 kX11_whyPairs (xall1 kX11_memoriesBy (xall0))))
def sX11_memories : xSpec := xReg fun as I L Q => ∃ (S : ST) (i r o : Int32) (S' : ST), as = [.ref 27, .int i, .int r] ∧ memR S i r o S' ∧ Ref S I L ∧ (∀ I' L', frM I L I' L' → Ref S' I' L' → Q (some (.int o)) I' L')
set_option maxRecDepth 100000 in
theorem kX11_memories : ∀ l, xCon l mX11_memories sX11_memories := by
  refine xcon_of okX11_memories hX11_memories rfl (by decide) hhX11_memories kkX11_memories ?_
  rintro as n0 I L P Q ⟨rfl, rfl, S, i, r, o, S', rfl, hR, hC, hQ⟩
  refine ⟨Nat.le_of_ble_eq_true rfl, ?_⟩
  have h4 := hC.pd.ok.a4
  refine xrun okX11_memories hhX11_memories [] 60 ?_
  refine ⟨rfl, rfl, S.d, i, rfl, hC.pd, ?_⟩
  rcases hR with ⟨h, rfl, rfl⟩ | ⟨a, j, rfl, ha, rfl, hj, hR⟩
  · obtain ⟨S, rfl⟩ : ∃ S, S = S' := ⟨S', rfl⟩
    have done := hQ _ _ (frM_0 _ _) hC
    cases hb : ibB i S.d.nA
    · (first | refine xbr_t (by decide) ?_ | refine xbr_f (by decide) ?_)
      exact done
    · (first | refine xbr_t (by decide) ?_ | refine xbr_f (by decide) ?_)
      refine ⟨rfl, rfl, r, rfl, ?_⟩
      cases hw : ibB r 6
      · (first | refine xbr_t (by decide) ?_ | refine xbr_f (by decide) ?_)
        exact done
      · exact absurd ⟨hb, hw⟩ h
  · rw [ib_tt ha (by omega)]
    (first | refine xbr_t (by decide) ?_ | refine xbr_f (by decide) ?_)
    refine ⟨rfl, rfl, _, rfl, ?_⟩
    rw [ib_tt hj (by decide)]
    (first | refine xbr_t (by decide) ?_ | refine xbr_f (by decide) ?_)
    refine ⟨rfl, rfl, S, j, rfl, hj, hC, ?_⟩
    rcases hR with ⟨h0, rfl, rfl⟩ | ⟨n, h0, hn, hR⟩
    · refine ⟨fun _ I' hf hC' => ?_, fun q => absurd q (by omega)⟩
      repeat (first | (refine xbr_f ?_ ?_; (focus ((simp (disch := omega) only [ix_lt, ix_le, ix_eq, ix_0, nI_clamp, nI_toInt, ng_T, nI_add, nI_mul, nI_sub', Int.neg_zero, not_false_eq_true, not_true_eq_false] <;> omega); done))) | (refine xbr_t ?_ ?_; (focus ((simp (disch := omega) only [ix_lt, ix_le, ix_eq, ix_0, nI_clamp, nI_toInt, ng_T, nI_add, nI_mul, nI_sub', Int.neg_zero, not_false_eq_true, not_true_eq_false] <;> omega); done))) | refine ⟨Or.inl rfl, ?_⟩ | refine ⟨Or.inr rfl, ?_⟩ | (refine ⟨?_, ?_⟩; (focus (exact in_nI (by omega) (by omega)))))
      exact hQ _ _ hf hC'
    · refine ⟨fun q => absurd q (by omega), fun _ => ?_⟩
      obtain ⟨hz, hv⟩ := pr_rv hC hj hn
      have hp : prOk S.rv j n ∧ n ≤ 8 := by
        obtain ⟨n', e, b, c⟩ := wp_0 h0
        obtain rfl : n' = n := by omega
        exact ⟨c, b⟩
      repeat (first | (refine xbr_f ?_ ?_; (focus ((simp (disch := omega) only [ix_lt, ix_le, ix_eq, ix_0, nI_clamp, nI_toInt, ng_T, nI_add, nI_mul, nI_sub', Int.neg_zero, not_false_eq_true, not_true_eq_false] <;> omega); done))) | (refine xbr_t ?_ ?_; (focus ((simp (disch := omega) only [ix_lt, ix_le, ix_eq, ix_0, nI_clamp, nI_toInt, ng_T, nI_add, nI_mul, nI_sub', Int.neg_zero, not_false_eq_true, not_true_eq_false] <;> omega); done))) | refine ⟨Or.inl rfl, ?_⟩ | refine ⟨Or.inr rfl, ?_⟩ | (refine ⟨?_, ?_⟩; (focus (exact in_nI (by omega) (by omega)))))
      obtain ⟨rfl, rfl⟩ := hR
      obtain ⟨S, rfl⟩ : ∃ S, S = S' := ⟨S', rfl⟩
      exact ⟨rfl, rfl, S.d, S.rv, a, j, n, rfl, hC.pd, ha, hj, hp.2, hz, hp.1, hv, hQ _ _ (frM_0 _ _) hC⟩
def csX11_kinds : xCs := [(mX11_isAss, sX11_isAss), (mX11_isRow, sX11_isRow), (mX11_whyPairs, sX11_whyPairs), (mX11_isSo, sX11_isSo)]
theorem okX11_kinds : xOkM mX11_kinds csX11_kinds := ⟨dX11_kinds, by decide +kernel, by decide +kernel, ⟨wdX11_205, wdX11_96, wdX11_272, wdX11_37, wdX11_269, trivial⟩⟩
theorem hhX11_kinds : ∀ q ∈ csX11_kinds, xHd q.1 := xall1 hX11_isAss (xall1 hX11_isRow (xall1 hX11_whyPairs (xall1 hX11_isSo (xall0))))
theorem kkX11_kinds : ∀ q ∈ csX11_kinds, ∀ l, xCon l q.1 q.2 := xall1 kX11_isAss (xall1 kX11_isRow (xall1 kX11_whyPairs (xall1 kX11_isSo (xall0))))
def sX11_kinds : xSpec := xReg fun as I L Q => ∃ (S : ST) (i r o : Int32) (S' : ST), as = [.ref 27, .int i, .int r] ∧ kinR S i r o S' ∧ Ref S I L ∧ (∀ I' L', frM I L I' L' → Ref S' I' L' → Q (some (.int o)) I' L')
set_option maxRecDepth 100000 in
theorem kX11_kinds : ∀ l, xCon l mX11_kinds sX11_kinds := by
  refine xcon_of okX11_kinds hX11_kinds rfl (by decide) hhX11_kinds kkX11_kinds ?_
  rintro as n0 I L P Q ⟨rfl, rfl, S, i, r, o, S', rfl, hR, hC, hQ⟩
  refine ⟨Nat.le_of_ble_eq_true rfl, ?_⟩
  have h4 := hC.pd.ok.a4
  refine xrun okX11_kinds hhX11_kinds [(35, [true, true, true, true, true, true])] 60 ?_
  refine ⟨rfl, rfl, S.d, i, rfl, hC.pd, ?_⟩
  rcases hR with ⟨h, rfl, rfl⟩ | ⟨a, j, rfl, ha, rfl, hj, hR⟩
  · obtain ⟨S, rfl⟩ : ∃ S, S = S' := ⟨S', rfl⟩
    have done := hQ _ _ (frM_0 _ _) hC
    cases hb : ibB i S.d.nA
    · (first | refine xbr_t (by decide) ?_ | refine xbr_f (by decide) ?_)
      exact done
    · (first | refine xbr_t (by decide) ?_ | refine xbr_f (by decide) ?_)
      refine ⟨rfl, rfl, r, rfl, ?_⟩
      cases hw : ibB r 6
      · (first | refine xbr_t (by decide) ?_ | refine xbr_f (by decide) ?_)
        exact done
      · exact absurd ⟨hb, hw⟩ h
  · rw [ib_tt ha (by omega)]
    (first | refine xbr_t (by decide) ?_ | refine xbr_f (by decide) ?_)
    refine ⟨rfl, rfl, _, rfl, ?_⟩
    rw [ib_tt hj (by decide)]
    (first | refine xbr_t (by decide) ?_ | refine xbr_f (by decide) ?_)
    refine ⟨rfl, rfl, S, j, rfl, hj, hC, ?_⟩
    rcases hR with ⟨h0, rfl, rfl⟩ | ⟨n, h0, hn, hR⟩
    · refine ⟨fun _ I' hf hC' => ?_, fun q => absurd q (by omega)⟩
      repeat (first | (refine xbr_f ?_ ?_; (focus ((simp (disch := omega) only [ix_lt, ix_le, ix_eq, ix_0, nI_clamp, nI_toInt, ng_T, nI_add, nI_mul, nI_sub', Int.neg_zero, not_false_eq_true, not_true_eq_false] <;> omega); done))) | (refine xbr_t ?_ ?_; (focus ((simp (disch := omega) only [ix_lt, ix_le, ix_eq, ix_0, nI_clamp, nI_toInt, ng_T, nI_add, nI_mul, nI_sub', Int.neg_zero, not_false_eq_true, not_true_eq_false] <;> omega); done))) | refine ⟨Or.inl rfl, ?_⟩ | refine ⟨Or.inr rfl, ?_⟩ | (refine ⟨?_, ?_⟩; (focus (exact in_nI (by omega) (by omega)))))
      exact hQ _ _ hf hC'
    · refine ⟨fun q => absurd q (by omega), fun _ => ?_⟩
      obtain ⟨hz, hv⟩ := pr_rv hC hj hn
      have hp : prOk S.rv j n ∧ n ≤ 8 := by
        obtain ⟨n', e, b, c⟩ := wp_0 h0
        obtain rfl : n' = n := by omega
        exact ⟨c, b⟩
      repeat (first | (refine xbr_f ?_ ?_; (focus ((simp (disch := omega) only [ix_lt, ix_le, ix_eq, ix_0, nI_clamp, nI_toInt, ng_T, nI_add, nI_mul, nI_sub', Int.neg_zero, not_false_eq_true, not_true_eq_false] <;> omega); done))) | (refine xbr_t ?_ ?_; (focus ((simp (disch := omega) only [ix_lt, ix_le, ix_eq, ix_0, nI_clamp, nI_toInt, ng_T, nI_add, nI_mul, nI_sub', Int.neg_zero, not_false_eq_true, not_true_eq_false] <;> omega); done))) | refine ⟨Or.inl rfl, ?_⟩ | refine ⟨Or.inr rfl, ?_⟩ | (refine ⟨?_, ?_⟩; (focus (exact in_nI (by omega) (by omega)))))
      obtain ⟨rfl, rfl⟩ := hR
      obtain ⟨S, rfl⟩ : ∃ S, S = S' := ⟨S', rfl⟩
      refine xlp (M := mX11_kinds) (cs := csX11_kinds) (pc := 35) 6 (fun k => [some (.ref 27), some (.int (nI a)), some (.int (nI j)), some (.int (nI 0)), some (.int (nI (bsN (fun k => ftB S.rv j k (meN S.D.X a) n) k))), some (.int (nI k))]) (fun _ => I) (fun _ => L) ?_ ?_
      · intro k hk ih
        refine xrun okX11_kinds hhX11_kinds [(35, [true, true, true, true, true, true])] 60 ?_
        (first | (refine xbr_f ?_ ?_; (focus ((simp (disch := omega) only [ix_lt, ix_le, ix_eq, ix_0, nI_clamp, nI_toInt, ng_T, nI_add, nI_mul, nI_sub', Int.neg_zero, not_false_eq_true, not_true_eq_false] <;> omega); done))) | (refine xbr_t ?_ ?_; (focus ((simp (disch := omega) only [ix_lt, ix_le, ix_eq, ix_0, nI_clamp, nI_toInt, ng_T, nI_add, nI_mul, nI_sub', Int.neg_zero, not_false_eq_true, not_true_eq_false] <;> omega); done))) | refine ⟨Or.inl rfl, ?_⟩ | refine ⟨Or.inr rfl, ?_⟩ | (refine ⟨?_, ?_⟩; (focus (exact in_nI (by omega) (by omega)))))
        (first | (refine xbr_f ?_ ?_; (focus ((simp (disch := omega) only [ix_lt, ix_le, ix_eq, ix_0, nI_clamp, nI_toInt, ng_T, nI_add, nI_mul, nI_sub', Int.neg_zero, not_false_eq_true, not_true_eq_false, nI_add] <;> omega); done))) | (refine xbr_t ?_ ?_; (focus ((simp (disch := omega) only [ix_lt, ix_le, ix_eq, ix_0, nI_clamp, nI_toInt, ng_T, nI_add, nI_mul, nI_sub', Int.neg_zero, not_false_eq_true, not_true_eq_false, nI_add] <;> omega); done))) | refine ⟨Or.inl rfl, ?_⟩ | refine ⟨Or.inr rfl, ?_⟩ | (refine ⟨?_, ?_⟩; (focus ((try simp (disch := omega) only [nI_add, nI_mul, nI_add, nI_sub']); exact in_nI (by omega) (by omega)))))
        refine ⟨rfl, rfl, S.rv, j, k, meN S.D.X a, n, ?_, hj, by omega, meN_16 _ _, hp.2, hz, hp.1, hv, ?_⟩
        · simp (disch := omega) only [hC.nw.m ha, nI_mul, nI_add, nI_clamp, nI_sub']
        cases hb : ftB S.rv j k (meN S.D.X a) n
        · (first | refine xbr_t (by decide) ?_ | refine xbr_f (by decide) ?_)
          refine xgo_eq ih ?_ rfl rfl
          ((repeat' (first | (with_reducible rfl) | exact xv_nil | refine xv_cons ?_ ?_ | refine xv_i ?_ | refine xv_l ?_)) <;> (simp (disch := omega) only [↓reduceIte, Bool.false_eq_true, Nat.one_mul, Nat.zero_mul, Nat.or_zero, Nat.add_zero, Nat.zero_add, Bool.toNat_true, Bool.toNat_false, shl_n, shr_n, fa_and, fa_or, nx_xor, nI_add, nI_mul, nI_sub', and_1, and_7, and_3', and_15, bsN, hb]))
        · (first | refine xbr_t (by decide) ?_ | refine xbr_f (by decide) ?_)
          refine xgo_eq ih ?_ rfl rfl
          ((repeat' (first | (with_reducible rfl) | exact xv_nil | refine xv_cons ?_ ?_ | refine xv_i ?_ | refine xv_l ?_)) <;> (simp (disch := omega) only [↓reduceIte, Bool.false_eq_true, Nat.one_mul, Nat.zero_mul, Nat.or_zero, Nat.add_zero, Nat.zero_add, Bool.toNat_true, Bool.toNat_false, shl_n, shr_n, fa_and, fa_or, nx_xor, nI_add, nI_mul, nI_sub', and_1, and_7, and_3', and_15, bsN, hb]))
      · refine xrun okX11_kinds hhX11_kinds [] 60 ?_
        repeat (first | (refine xbr_f ?_ ?_; (focus ((simp (disch := omega) only [ix_lt, ix_le, ix_eq, ix_0, nI_clamp, nI_toInt, ng_T, nI_add, nI_mul, nI_sub', Int.neg_zero, not_false_eq_true, not_true_eq_false] <;> omega); done))) | (refine xbr_t ?_ ?_; (focus ((simp (disch := omega) only [ix_lt, ix_le, ix_eq, ix_0, nI_clamp, nI_toInt, ng_T, nI_add, nI_mul, nI_sub', Int.neg_zero, not_false_eq_true, not_true_eq_false] <;> omega); done))) | refine ⟨Or.inl rfl, ?_⟩ | refine ⟨Or.inr rfl, ?_⟩ | (refine ⟨?_, ?_⟩; (focus (exact in_nI (by omega) (by omega)))))
        exact hQ _ _ (frM_0 _ _) hC
