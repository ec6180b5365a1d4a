def blN (x : Int32) : Nat := if x = nI 97 then 1 else if x = nI 103 then 2 else if x = nI 121 then 3 else if x = nI 115 then 4 else if x = nI 111 then 5 else if x = nI 109 then 6 else 0
theorem blN_le (x : Int32) : blN x ≤ 6 := by
  unfold blN
  repeat' split
  all_goals omega
def csX4_byLetter : xCs := []
theorem okX4_byLetter : xOkM mX4_byLetter csX4_byLetter := ⟨dX4_byLetter, by decide +kernel, by decide +kernel, trivial⟩
theorem hhX4_byLetter : ∀ q ∈ csX4_byLetter, xHd q.1 := xall0
theorem kkX4_byLetter : ∀ q ∈ csX4_byLetter, ∀ l, xCon l q.1 q.2 := xall0
def sX4_byLetter : xSpec := xReg fun as I L Q => ∃ (x : Int32), as = [.int x] ∧ Q (some (.int (cI (blN x)))) I L
set_option maxRecDepth 100000 in
theorem kX4_byLetter : ∀ l, xCon l mX4_byLetter sX4_byLetter := by
  refine xcon_of okX4_byLetter hX4_byLetter rfl hhX4_byLetter kkX4_byLetter ?_
  rintro as n0 I L P Q ⟨hn9, rfl, x, rfl, hQ⟩
  obtain ⟨e9, rfl⟩ := xe9 hn9
  refine ⟨Nat.le_of_ble_eq_true rfl, ?_⟩
  refine xrun okX4_byLetter hhX4_byLetter [] 60 ?_
  by_cases h1 : x = nI 97
  · subst h1
    repeat (first | (refine xbr_f ?_ ?_; (focus ((simp (disch := omega) only [ix_lt, ix_le, ix_eq, ix_0, nI_clamp, nI_toInt, ng_T, nI_add, nI_mul, nI_sub', Int.neg_zero, not_false_eq_true, not_true_eq_false] <;> omega); done))) | (refine xbr_t ?_ ?_; (focus ((simp (disch := omega) only [ix_lt, ix_le, ix_eq, ix_0, nI_clamp, nI_toInt, ng_T, nI_add, nI_mul, nI_sub', Int.neg_zero, not_false_eq_true, not_true_eq_false] <;> omega); done))) | refine ⟨Or.inl rfl, ?_⟩ | refine ⟨Or.inr rfl, ?_⟩ | (refine ⟨?_, ?_⟩; (focus (exact in_nI (by omega) (by omega)))))
    exact hQ
  by_cases h2 : x = nI 103
  · subst h2
    repeat (first | (refine xbr_f ?_ ?_; (focus ((simp (disch := omega) only [ix_lt, ix_le, ix_eq, ix_0, nI_clamp, nI_toInt, ng_T, nI_add, nI_mul, nI_sub', Int.neg_zero, not_false_eq_true, not_true_eq_false] <;> omega); done))) | (refine xbr_t ?_ ?_; (focus ((simp (disch := omega) only [ix_lt, ix_le, ix_eq, ix_0, nI_clamp, nI_toInt, ng_T, nI_add, nI_mul, nI_sub', Int.neg_zero, not_false_eq_true, not_true_eq_false] <;> omega); done))) | refine ⟨Or.inl rfl, ?_⟩ | refine ⟨Or.inr rfl, ?_⟩ | (refine ⟨?_, ?_⟩; (focus (exact in_nI (by omega) (by omega)))))
    exact hQ
  by_cases h3 : x = nI 109
  · subst h3
    repeat (first | (refine xbr_f ?_ ?_; (focus ((simp (disch := omega) only [ix_lt, ix_le, ix_eq, ix_0, nI_clamp, nI_toInt, ng_T, nI_add, nI_mul, nI_sub', Int.neg_zero, not_false_eq_true, not_true_eq_false] <;> omega); done))) | (refine xbr_t ?_ ?_; (focus ((simp (disch := omega) only [ix_lt, ix_le, ix_eq, ix_0, nI_clamp, nI_toInt, ng_T, nI_add, nI_mul, nI_sub', Int.neg_zero, not_false_eq_true, not_true_eq_false] <;> omega); done))) | refine ⟨Or.inl rfl, ?_⟩ | refine ⟨Or.inr rfl, ?_⟩ | (refine ⟨?_, ?_⟩; (focus (exact in_nI (by omega) (by omega)))))
    exact hQ
  by_cases h4 : x = nI 111
  · subst h4
    repeat (first | (refine xbr_f ?_ ?_; (focus ((simp (disch := omega) only [ix_lt, ix_le, ix_eq, ix_0, nI_clamp, nI_toInt, ng_T, nI_add, nI_mul, nI_sub', Int.neg_zero, not_false_eq_true, not_true_eq_false] <;> omega); done))) | (refine xbr_t ?_ ?_; (focus ((simp (disch := omega) only [ix_lt, ix_le, ix_eq, ix_0, nI_clamp, nI_toInt, ng_T, nI_add, nI_mul, nI_sub', Int.neg_zero, not_false_eq_true, not_true_eq_false] <;> omega); done))) | refine ⟨Or.inl rfl, ?_⟩ | refine ⟨Or.inr rfl, ?_⟩ | (refine ⟨?_, ?_⟩; (focus (exact in_nI (by omega) (by omega)))))
    exact hQ
  by_cases h5 : x = nI 115
  · subst h5
    repeat (first | (refine xbr_f ?_ ?_; (focus ((simp (disch := omega) only [ix_lt, ix_le, ix_eq, ix_0, nI_clamp, nI_toInt, ng_T, nI_add, nI_mul, nI_sub', Int.neg_zero, not_false_eq_true, not_true_eq_false] <;> omega); done))) | (refine xbr_t ?_ ?_; (focus ((simp (disch := omega) only [ix_lt, ix_le, ix_eq, ix_0, nI_clamp, nI_toInt, ng_T, nI_add, nI_mul, nI_sub', Int.neg_zero, not_false_eq_true, not_true_eq_false] <;> omega); done))) | refine ⟨Or.inl rfl, ?_⟩ | refine ⟨Or.inr rfl, ?_⟩ | (refine ⟨?_, ?_⟩; (focus (exact in_nI (by omega) (by omega)))))
    exact hQ
  by_cases h6 : x = nI 121
  · subst h6
    repeat (first | (refine xbr_f ?_ ?_; (focus ((simp (disch := omega) only [ix_lt, ix_le, ix_eq, ix_0, nI_clamp, nI_toInt, ng_T, nI_add, nI_mul, nI_sub', Int.neg_zero, not_false_eq_true, not_true_eq_false] <;> omega); done))) | (refine xbr_t ?_ ?_; (focus ((simp (disch := omega) only [ix_lt, ix_le, ix_eq, ix_0, nI_clamp, nI_toInt, ng_T, nI_add, nI_mul, nI_sub', Int.neg_zero, not_false_eq_true, not_true_eq_false] <;> omega); done))) | refine ⟨Or.inl rfl, ?_⟩ | refine ⟨Or.inr rfl, ?_⟩ | (refine ⟨?_, ?_⟩; (focus (exact in_nI (by omega) (by omega)))))
    exact hQ
  have e : blN x = 0 := by unfold blN; rw [if_neg h1, if_neg h2, if_neg h6, if_neg h5, if_neg h4, if_neg h3]
  rw [e, cI_0] at hQ
  (first | refine xbr_t h1 ?_ | refine xbr_f h1 ?_)
  (first | refine xbr_t h2 ?_ | refine xbr_f h2 ?_)
  (first | refine xbr_t h3 ?_ | refine xbr_f h3 ?_)
  (first | refine xbr_t h4 ?_ | refine xbr_f h4 ?_)
  (first | refine xbr_t h5 ?_ | refine xbr_f h5 ?_)
  (first | refine xbr_t h6 ?_ | refine xbr_f h6 ?_)
  exact hQ
theorem rdW_inc {v : Nat → Int32} {n : Nat} {q : RS} {I : xI} {L : xL} (h : rdW v n q I L) (hp : q.sp < n) : rdW v n (mkR (q.sp + 1) q.X q.d) (xup I 8 4 (I 8 4 + nI 1)) L := by
  have h4 : I 8 4 = nI q.sp := h.2.2.2.1
  rw [h4, nI_add]
  exact rdW_sp h hp
def adA (d : PD) (k : Nat) : PD := mkP (d.nA + 1) d.nL (d.K ||| k * 2 ^ (3 * d.nA)) d.R d.H
def adL (d : PD) (h : Nat) : PD := mkP d.nA (d.nL + 1) d.K d.R (d.H ||| h * 2 ^ (3 * d.nL))
def adR (d : PD) (k v : Nat) : PD := mkP d.nA d.nL d.K (d.R ||| v * 2 ^ (3 * k)) d.H
def raN (v : Nat → Int32) (n : Nat) (q : RS) : RS × Bool :=
  if blN (sgN v n q.sp) = 0 ∨ q.d.nA = 4 ∨ 0 < q.d.nL then (q, false)
  else if (stN v n (q.sp + 1)).2 = 0 then (mkR (stN v n (q.sp + 1)).1 q.X q.d, false)
  else if fgN v n (q.sp + 3) 4 = 0 then (mkR (q.sp + 3) q.X q.d, false)
  else (mkR (q.sp + 4) (seIn (seMe q.X q.d.nA ((stN v n (q.sp + 1)).2 - 1)) q.d.nA (fgN v n (q.sp + 3) 4 - 1)) (adA q.d (blN (sgN v n q.sp) - 1)), true)
def csX6_readAss : xCs := [(mX6_sign, sX6_sign), (mX4_byLetter, sX4_byLetter), (mX6_readSet, sX6_readSet), (mX6_readFigure, sX6_readFigure), (mX7_withMemory, sX7_withMemory), (mX7_withInn, sX7_withInn), (mX5_addAss, sX5_addAss)]
theorem okX6_readAss : xOkM mX6_readAss csX6_readAss := ⟨dX6_readAss, by decide +kernel, by decide +kernel, ⟨wdX6_53, wdX6_76, wdX6_18, wdX6_81, wdX6_18, wdX6_67, wdX6_36, ⟨wdX6_36, fun h => Bool.noConfusion h⟩, wdX6_84, wdX6_60, wdX6_39, wdX6_18, wdX6_81, wdX6_87, ⟨wdX6_39, fun h => Bool.noConfusion h⟩, wdX6_39, wdX6_18, wdX6_81, wdX6_93, ⟨wdX6_39, fun h => Bool.noConfusion h⟩, wdX6_18, wdX6_96, trivial⟩⟩
theorem hhX6_readAss : ∀ q ∈ csX6_readAss, xHd q.1 := xall1 hX6_sign (xall1 hX4_byLetter (xall1 hX6_readSet (xall1 hX6_readFigure (xall1 hX7_withMemory (xall1 hX7_withInn (xall1 hX5_addAss (xall0)))))))
theorem kkX6_readAss : ∀ q ∈ csX6_readAss, ∀ l, xCon l q.1 q.2 := xall1 kX6_sign (xall1 kX4_byLetter (xall1 kX6_readSet (xall1 kX6_readFigure (xall1 kX7_withMemory (xall1 kX7_withInn (xall1 kX5_addAss (xall0)))))))
def sX6_readAss : xSpec := xReg fun as I L Q => ∃ (v : Nat → Int32) (n : Nat) (q : RS), as = [.ref 8] ∧ rdW v n q I L ∧ (∀ I' L', rdW v n (raN v n q).1 I' L' → frR I L I' L' → Q (some (.int (bI (raN v n q).2))) I' L')
set_option maxRecDepth 100000 in
theorem kX6_readAss : ∀ l, xCon l mX6_readAss sX6_readAss := by
  refine xcon_of okX6_readAss hX6_readAss rfl hhX6_readAss kkX6_readAss ?_
  rintro as n0 I L P Q ⟨hn9, rfl, v, n, q, rfl, hW, hQ⟩
  obtain ⟨e9, rfl⟩ := xe9 hn9
  refine ⟨Nat.le_of_ble_eq_true rfl, ?_⟩
  refine xrun okX6_readAss hhX6_readAss [] 90 ?_
  refine ⟨rfl, rfl, v, n, q, rfl, hW, ?_⟩
  refine ⟨rfl, rfl, _, rfl, ?_⟩
  have hA : I 10 0 = nI q.d.nA := hW.2.2.2.2.2.2.2.1.1
  have hL : I 10 1 = nI q.d.nL := hW.2.2.2.2.2.2.2.1.2.1
  have h4 := hW.2.2.2.2.2.2.2.2.1
  have h5 := hW.2.2.2.2.2.2.2.2.2
  have hsp : I 8 4 = nI q.sp := hW.2.2.2.1
  have h60 := hW.2.1
  have hsn := hW.2.2.2.2.1
  have hbl := blN_le (sgN v n q.sp)
  by_cases hc : blN (sgN v n q.sp) = 0 ∨ q.d.nA = 4 ∨ 0 < q.d.nL
  · have e : raN v n q = (q, false) := if_pos hc
    rw [e] at hQ
    have hQ := hQ I L hW (frR_0 I L)
    by_cases h0 : blN (sgN v n q.sp) = 0
    · rw [h0, cI_0]
      repeat (first | (refine xbr_f ?_ ?_; (focus ((simp (disch := omega) only [ix_lt, ix_le, ix_eq, ix_0, nI_clamp, nI_toInt, ng_T, nI_add, nI_mul, nI_sub', Int.neg_zero, not_false_eq_true, not_true_eq_false] <;> omega); done))) | (refine xbr_t ?_ ?_; (focus ((simp (disch := omega) only [ix_lt, ix_le, ix_eq, ix_0, nI_clamp, nI_toInt, ng_T, nI_add, nI_mul, nI_sub', Int.neg_zero, not_false_eq_true, not_true_eq_false] <;> omega); done))) | refine ⟨Or.inl rfl, ?_⟩ | refine ⟨Or.inr rfl, ?_⟩ | (refine ⟨?_, ?_⟩; (focus (exact in_nI (by omega) (by omega)))))
      exact hQ
    · obtain ⟨k, hk⟩ : ∃ k, blN (sgN v n q.sp) = k + 1 := ⟨blN (sgN v n q.sp) - 1, by omega⟩
      rw [hk, cI_s]
      by_cases h1 : q.d.nA = 4
      · repeat (first | (refine xbr_f ?_ ?_; (focus ((simp (disch := omega) only [ix_lt, ix_le, ix_eq, ix_0, nI_clamp, nI_toInt, ng_T, nI_add, nI_mul, nI_sub', Int.neg_zero, not_false_eq_true, not_true_eq_false, hA] <;> omega); done))) | (refine xbr_t ?_ ?_; (focus ((simp (disch := omega) only [ix_lt, ix_le, ix_eq, ix_0, nI_clamp, nI_toInt, ng_T, nI_add, nI_mul, nI_sub', Int.neg_zero, not_false_eq_true, not_true_eq_false, hA] <;> omega); done))) | refine ⟨Or.inl rfl, ?_⟩ | refine ⟨Or.inr rfl, ?_⟩ | (refine ⟨?_, ?_⟩; (focus ((try simp (disch := omega) only [hA, nI_mul, nI_add, nI_sub']); exact in_nI (by omega) (by omega)))))
        exact hQ
      · repeat (first | (refine xbr_f ?_ ?_; (focus ((simp (disch := omega) only [ix_lt, ix_le, ix_eq, ix_0, nI_clamp, nI_toInt, ng_T, nI_add, nI_mul, nI_sub', Int.neg_zero, not_false_eq_true, not_true_eq_false, hA, hL] <;> omega); done))) | (refine xbr_t ?_ ?_; (focus ((simp (disch := omega) only [ix_lt, ix_le, ix_eq, ix_0, nI_clamp, nI_toInt, ng_T, nI_add, nI_mul, nI_sub', Int.neg_zero, not_false_eq_true, not_true_eq_false, hA, hL] <;> omega); done))) | refine ⟨Or.inl rfl, ?_⟩ | refine ⟨Or.inr rfl, ?_⟩ | (refine ⟨?_, ?_⟩; (focus ((try simp (disch := omega) only [hA, hL, nI_mul, nI_add, nI_sub']); exact in_nI (by omega) (by omega)))))
        exact hQ
  · obtain ⟨k, hk⟩ : ∃ k, blN (sgN v n q.sp) = k + 1 := ⟨blN (sgN v n q.sp) - 1, by omega⟩
    have hra : raN v n q = if (stN v n (q.sp + 1)).2 = 0 then (mkR (stN v n (q.sp + 1)).1 q.X q.d, false) else if fgN v n (q.sp + 3) 4 = 0 then (mkR (q.sp + 3) q.X q.d, false) else (mkR (q.sp + 4) (seIn (seMe q.X q.d.nA ((stN v n (q.sp + 1)).2 - 1)) q.d.nA (fgN v n (q.sp + 3) 4 - 1)) (adA q.d (blN (sgN v n q.sp) - 1)), true) := if_neg hc
    have hin : q.sp < n := by
      by_cases hp : q.sp < n
      · exact hp
      · rw [sgN_out (by omega)] at hk
        have e0 : blN (-(nI 1000)) = 0 := by decide
        rw [e0] at hk
        omega
    rw [hk] at hra
    rw [hk, cI_s]
    have c1 : ¬ q.d.nA = 4 := fun h => hc (Or.inr (Or.inl h))
    have c2 : q.d.nL = 0 := by omega
    repeat (first | (refine xbr_f ?_ ?_; (focus ((simp (disch := omega) only [ix_lt, ix_le, ix_eq, ix_0, nI_clamp, nI_toInt, ng_T, nI_add, nI_mul, nI_sub', Int.neg_zero, not_false_eq_true, not_true_eq_false, hA, hL] <;> omega); done))) | (refine xbr_t ?_ ?_; (focus ((simp (disch := omega) only [ix_lt, ix_le, ix_eq, ix_0, nI_clamp, nI_toInt, ng_T, nI_add, nI_mul, nI_sub', Int.neg_zero, not_false_eq_true, not_true_eq_false, hA, hL] <;> omega); done))) | refine ⟨Or.inl rfl, ?_⟩ | refine ⟨Or.inr rfl, ?_⟩ | (refine ⟨?_, ?_⟩; (focus ((try simp (disch := omega) only [hA, hL, nI_mul, nI_add, nI_sub']); exact in_nI (by omega) (by omega)))))
    refine ⟨rfl, rfl, v, n, _, rfl, rdW_inc hW hin, ?_, ?_⟩
    · intro p I1 hst hW1 hf1
      have hst : stN v n (q.sp + 1) = (p, 0) := hst
      rw [hst, if_pos rfl] at hra
      rw [hra] at hQ
      repeat (first | (refine xbr_f ?_ ?_; (focus ((simp (disch := omega) only [ix_lt, ix_le, ix_eq, ix_0, nI_clamp, nI_toInt, ng_T, nI_add, nI_mul, nI_sub', Int.neg_zero, not_false_eq_true, not_true_eq_false] <;> omega); done))) | (refine xbr_t ?_ ?_; (focus ((simp (disch := omega) only [ix_lt, ix_le, ix_eq, ix_0, nI_clamp, nI_toInt, ng_T, nI_add, nI_mul, nI_sub', Int.neg_zero, not_false_eq_true, not_true_eq_false] <;> omega); done))) | refine ⟨Or.inl rfl, ?_⟩ | refine ⟨Or.inr rfl, ?_⟩ | (refine ⟨?_, ?_⟩; (focus (exact in_nI (by omega) (by omega)))))
      exact hQ I1 L hW1 (frR_t (frR_8 _ _ _ _) hf1)
    · intro s I1 hst hs16 hW1 hf1
      have hst : stN v n (q.sp + 1) = (q.sp + 1 + 2, s + 1) := hst
      rw [hst, if_neg (by omega)] at hra
      (first | (refine xbr_f ?_ ?_; (focus ((simp (disch := omega) only [ix_lt, ix_le, ix_eq, ix_0, nI_clamp, nI_toInt, ng_T, nI_add, nI_mul, nI_sub', Int.neg_zero, not_false_eq_true, not_true_eq_false] <;> omega); done))) | (refine xbr_t ?_ ?_; (focus ((simp (disch := omega) only [ix_lt, ix_le, ix_eq, ix_0, nI_clamp, nI_toInt, ng_T, nI_add, nI_mul, nI_sub', Int.neg_zero, not_false_eq_true, not_true_eq_false] <;> omega); done))) | refine ⟨Or.inl rfl, ?_⟩ | refine ⟨Or.inr rfl, ?_⟩ | (refine ⟨?_, ?_⟩; (focus (exact in_nI (by omega) (by omega)))))
      refine ⟨rfl, rfl, v, n, _, 4, rfl, by decide, hW1, ?_, ?_⟩
      · intro h0
        have h0 : fgN v n (q.sp + 3) 4 = 0 := h0
        rw [if_pos h0] at hra
        rw [hra] at hQ
        repeat (first | (refine xbr_f ?_ ?_; (focus ((simp (disch := omega) only [ix_lt, ix_le, ix_eq, ix_0, nI_clamp, nI_toInt, ng_T, nI_add, nI_mul, nI_sub', Int.neg_zero, not_false_eq_true, not_true_eq_false] <;> omega); done))) | (refine xbr_t ?_ ?_; (focus ((simp (disch := omega) only [ix_lt, ix_le, ix_eq, ix_0, nI_clamp, nI_toInt, ng_T, nI_add, nI_mul, nI_sub', Int.neg_zero, not_false_eq_true, not_true_eq_false] <;> omega); done))) | refine ⟨Or.inl rfl, ?_⟩ | refine ⟨Or.inr rfl, ?_⟩ | (refine ⟨?_, ?_⟩; (focus (exact in_nI (by omega) (by omega)))))
        exact hQ I1 L hW1 (frR_t (frR_8 _ _ _ _) hf1)
      · intro b I2 hb hb9 hW2 hf2
        have hb : fgN v n (q.sp + 3) 4 = b + 1 := hb
        rw [if_neg (by omega), hb] at hra
        rw [hra] at hQ
        (first | (refine xbr_f ?_ ?_; (focus ((simp (disch := omega) only [ix_lt, ix_le, ix_eq, ix_0, nI_clamp, nI_toInt, ng_T, nI_add, nI_mul, nI_sub', Int.neg_zero, not_false_eq_true, not_true_eq_false] <;> omega); done))) | (refine xbr_t ?_ ?_; (focus ((simp (disch := omega) only [ix_lt, ix_le, ix_eq, ix_0, nI_clamp, nI_toInt, ng_T, nI_add, nI_mul, nI_sub', Int.neg_zero, not_false_eq_true, not_true_eq_false] <;> omega); done))) | refine ⟨Or.inl rfl, ?_⟩ | refine ⟨Or.inr rfl, ?_⟩ | (refine ⟨?_, ?_⟩; (focus (exact in_nI (by omega) (by omega)))))
        have hA2 : I2 10 0 = nI q.d.nA := hW2.2.2.2.2.2.2.2.1.1
        have hX2 : L 8 2 = lN q.X := hW2.2.2.2.2.2.1
        have hX63 : q.X < 2 ^ 63 := hW.2.2.2.2.2.2.1
        refine ⟨rfl, rfl, q.X, q.d.nA, s, by rw [hX2, hA2], by omega, by omega, hs16, ?_⟩
        have y1 := seMe_lt hX63 (show q.d.nA < 4 by omega) hs16
        refine ⟨rfl, rfl, seMe q.X q.d.nA s, q.d.nA, b, by rw [hA2]; rfl, by omega, by omega, by omega, ?_⟩
        have y2 := seIn_lt y1 (show q.d.nA < 4 by omega) (show b < 8 by omega)
        refine ⟨rfl, rfl, q.d, k, hW2.2.2.2.2.2.2.2.1, rfl, by omega, ?_⟩
        intro f hf
        have W3 := rdW_d (rdW_X (rdW_X hW2 y1) y2) (d := adA q.d k) hf (show q.d.nA + 1 ≤ 4 by omega) (show q.d.nL ≤ 5 by omega)
        repeat (first | (refine xbr_f ?_ ?_; (focus ((simp (disch := omega) only [ix_lt, ix_le, ix_eq, ix_0, nI_clamp, nI_toInt, ng_T, nI_add, nI_mul, nI_sub', Int.neg_zero, not_false_eq_true, not_true_eq_false] <;> omega); done))) | (refine xbr_t ?_ ?_; (focus ((simp (disch := omega) only [ix_lt, ix_le, ix_eq, ix_0, nI_clamp, nI_toInt, ng_T, nI_add, nI_mul, nI_sub', Int.neg_zero, not_false_eq_true, not_true_eq_false] <;> omega); done))) | refine ⟨Or.inl rfl, ?_⟩ | refine ⟨Or.inr rfl, ?_⟩ | (refine ⟨?_, ?_⟩; (focus (exact in_nI (by omega) (by omega)))))
        exact hQ _ _ W3 (frR_t (frR_8 _ _ _ _) (frR_t hf1 (frR_t hf2 (frR_t (frR_L _ _ _ _) (frR_t (frR_L _ _ _ _) (frR_10 _ _ _))))))
def rlN (v : Nat → Int32) (n : Nat) (q : RS) : RS × Bool :=
  if q.d.nA = 0 ∨ q.d.nL = 5 then (q, false)
  else if (stN v n (q.sp + 1)).2 = 0 then (mkR (stN v n (q.sp + 1)).1 q.X q.d, false)
  else if fgN v n (q.sp + 3) 4 = 0 then (mkR (q.sp + 3) q.X q.d, false)
  else if fgN v n (q.sp + 4) 4 = 0 then (mkR (q.sp + 4) q.X q.d, false)
  else (mkR (q.sp + 5) (sePl (seMk q.X q.d.nL ((stN v n (q.sp + 1)).2 - 1)) q.d.nL (fgN v n (q.sp + 3) 4 - 1)) (adL q.d (fgN v n (q.sp + 4) 4 - 1)), true)
def csX6_readLoad : xCs := [(mX6_readSet, sX6_readSet), (mX6_readFigure, sX6_readFigure), (mX7_withMarks, sX7_withMarks), (mX7_withPlace, sX7_withPlace), (mX5_addLoad, sX5_addLoad)]
theorem okX6_readLoad : xOkM mX6_readLoad csX6_readLoad := ⟨dX6_readLoad, by decide +kernel, by decide +kernel, ⟨wdX6_18, wdX6_81, wdX6_18, wdX6_67, wdX6_36, ⟨wdX6_36, fun h => Bool.noConfusion h⟩, wdX6_84, wdX6_60, wdX6_60, wdX6_39, wdX6_18, wdX6_67, wdX6_100, ⟨wdX6_39, fun h => Bool.noConfusion h⟩, wdX6_39, wdX6_18, wdX6_67, wdX6_103, ⟨wdX6_39, fun h => Bool.noConfusion h⟩, wdX6_18, wdX6_106, trivial⟩⟩
theorem hhX6_readLoad : ∀ q ∈ csX6_readLoad, xHd q.1 := xall1 hX6_readSet (xall1 hX6_readFigure (xall1 hX7_withMarks (xall1 hX7_withPlace (xall1 hX5_addLoad (xall0)))))
theorem kkX6_readLoad : ∀ q ∈ csX6_readLoad, ∀ l, xCon l q.1 q.2 := xall1 kX6_readSet (xall1 kX6_readFigure (xall1 kX7_withMarks (xall1 kX7_withPlace (xall1 kX5_addLoad (xall0)))))
def sX6_readLoad : xSpec := xReg fun as I L Q => ∃ (v : Nat → Int32) (n : Nat) (q : RS), as = [.ref 8] ∧ rdW v n q I L ∧ q.sp < n ∧ (∀ I' L', rdW v n (rlN v n q).1 I' L' → frR I L I' L' → Q (some (.int (bI (rlN v n q).2))) I' L')
set_option maxRecDepth 100000 in
theorem kX6_readLoad : ∀ l, xCon l mX6_readLoad sX6_readLoad := by
  refine xcon_of okX6_readLoad hX6_readLoad rfl hhX6_readLoad kkX6_readLoad ?_
  rintro as n0 I L P Q ⟨hn9, rfl, v, n, q, rfl, hW, hin, hQ⟩
  obtain ⟨e9, rfl⟩ := xe9 hn9
  refine ⟨Nat.le_of_ble_eq_true rfl, ?_⟩
  refine xrun okX6_readLoad hhX6_readLoad [] 90 ?_
  have hA : I 10 0 = nI q.d.nA := hW.2.2.2.2.2.2.2.1.1
  have hL : I 10 1 = nI q.d.nL := hW.2.2.2.2.2.2.2.1.2.1
  have h4 := hW.2.2.2.2.2.2.2.2.1
  have h5 := hW.2.2.2.2.2.2.2.2.2
  have hsp : I 8 4 = nI q.sp := hW.2.2.2.1
  have h60 := hW.2.1
  by_cases hc : q.d.nA = 0 ∨ q.d.nL = 5
  · have e : rlN v n q = (q, false) := if_pos hc
    rw [e] at hQ
    have hQ := hQ I L hW (frR_0 I L)
    by_cases h0 : q.d.nA = 0
    · repeat (first | (refine xbr_f ?_ ?_; (focus ((simp (disch := omega) only [ix_lt, ix_le, ix_eq, ix_0, nI_clamp, nI_toInt, ng_T, nI_add, nI_mul, nI_sub', Int.neg_zero, not_false_eq_true, not_true_eq_false, hA] <;> omega); done))) | (refine xbr_t ?_ ?_; (focus ((simp (disch := omega) only [ix_lt, ix_le, ix_eq, ix_0, nI_clamp, nI_toInt, ng_T, nI_add, nI_mul, nI_sub', Int.neg_zero, not_false_eq_true, not_true_eq_false, hA] <;> omega); done))) | refine ⟨Or.inl rfl, ?_⟩ | refine ⟨Or.inr rfl, ?_⟩ | (refine ⟨?_, ?_⟩; (focus ((try simp (disch := omega) only [hA, nI_mul, nI_add, nI_sub']); exact in_nI (by omega) (by omega)))))
      exact hQ
    · repeat (first | (refine xbr_f ?_ ?_; (focus ((simp (disch := omega) only [ix_lt, ix_le, ix_eq, ix_0, nI_clamp, nI_toInt, ng_T, nI_add, nI_mul, nI_sub', Int.neg_zero, not_false_eq_true, not_true_eq_false, hA, hL] <;> omega); done))) | (refine xbr_t ?_ ?_; (focus ((simp (disch := omega) only [ix_lt, ix_le, ix_eq, ix_0, nI_clamp, nI_toInt, ng_T, nI_add, nI_mul, nI_sub', Int.neg_zero, not_false_eq_true, not_true_eq_false, hA, hL] <;> omega); done))) | refine ⟨Or.inl rfl, ?_⟩ | refine ⟨Or.inr rfl, ?_⟩ | (refine ⟨?_, ?_⟩; (focus ((try simp (disch := omega) only [hA, hL, nI_mul, nI_add, nI_sub']); exact in_nI (by omega) (by omega)))))
      exact hQ
  · have hra : rlN v n q = if (stN v n (q.sp + 1)).2 = 0 then (mkR (stN v n (q.sp + 1)).1 q.X q.d, false) else if fgN v n (q.sp + 3) 4 = 0 then (mkR (q.sp + 3) q.X q.d, false) else if fgN v n (q.sp + 4) 4 = 0 then (mkR (q.sp + 4) q.X q.d, false) else (mkR (q.sp + 5) (sePl (seMk q.X q.d.nL ((stN v n (q.sp + 1)).2 - 1)) q.d.nL (fgN v n (q.sp + 3) 4 - 1)) (adL q.d (fgN v n (q.sp + 4) 4 - 1)), true) := if_neg hc
    have c1 : ¬ q.d.nA = 0 := fun h => hc (Or.inl h)
    have c2 : ¬ q.d.nL = 5 := fun h => hc (Or.inr h)
    repeat (first | (refine xbr_f ?_ ?_; (focus ((simp (disch := omega) only [ix_lt, ix_le, ix_eq, ix_0, nI_clamp, nI_toInt, ng_T, nI_add, nI_mul, nI_sub', Int.neg_zero, not_false_eq_true, not_true_eq_false, hA, hL] <;> omega); done))) | (refine xbr_t ?_ ?_; (focus ((simp (disch := omega) only [ix_lt, ix_le, ix_eq, ix_0, nI_clamp, nI_toInt, ng_T, nI_add, nI_mul, nI_sub', Int.neg_zero, not_false_eq_true, not_true_eq_false, hA, hL] <;> omega); done))) | refine ⟨Or.inl rfl, ?_⟩ | refine ⟨Or.inr rfl, ?_⟩ | (refine ⟨?_, ?_⟩; (focus ((try simp (disch := omega) only [hA, hL, nI_mul, nI_add, nI_sub']); exact in_nI (by omega) (by omega)))))
    refine ⟨rfl, rfl, v, n, _, rfl, rdW_inc hW hin, ?_, ?_⟩
    · intro p I1 hst hW1 hf1
      have hst : stN v n (q.sp + 1) = (p, 0) := hst
      rw [hst, if_pos rfl] at hra
      rw [hra] at hQ
      repeat (first | (refine xbr_f ?_ ?_; (focus ((simp (disch := omega) only [ix_lt, ix_le, ix_eq, ix_0, nI_clamp, nI_toInt, ng_T, nI_add, nI_mul, nI_sub', Int.neg_zero, not_false_eq_true, not_true_eq_false] <;> omega); done))) | (refine xbr_t ?_ ?_; (focus ((simp (disch := omega) only [ix_lt, ix_le, ix_eq, ix_0, nI_clamp, nI_toInt, ng_T, nI_add, nI_mul, nI_sub', Int.neg_zero, not_false_eq_true, not_true_eq_false] <;> omega); done))) | refine ⟨Or.inl rfl, ?_⟩ | refine ⟨Or.inr rfl, ?_⟩ | (refine ⟨?_, ?_⟩; (focus (exact in_nI (by omega) (by omega)))))
      exact hQ I1 L hW1 (frR_t (frR_8 _ _ _ _) hf1)
    · intro s I1 hst hs16 hW1 hf1
      have hst : stN v n (q.sp + 1) = (q.sp + 1 + 2, s + 1) := hst
      rw [hst, if_neg (by omega)] at hra
      (first | (refine xbr_f ?_ ?_; (focus ((simp (disch := omega) only [ix_lt, ix_le, ix_eq, ix_0, nI_clamp, nI_toInt, ng_T, nI_add, nI_mul, nI_sub', Int.neg_zero, not_false_eq_true, not_true_eq_false] <;> omega); done))) | (refine xbr_t ?_ ?_; (focus ((simp (disch := omega) only [ix_lt, ix_le, ix_eq, ix_0, nI_clamp, nI_toInt, ng_T, nI_add, nI_mul, nI_sub', Int.neg_zero, not_false_eq_true, not_true_eq_false] <;> omega); done))) | refine ⟨Or.inl rfl, ?_⟩ | refine ⟨Or.inr rfl, ?_⟩ | (refine ⟨?_, ?_⟩; (focus (exact in_nI (by omega) (by omega)))))
      refine ⟨rfl, rfl, v, n, _, 4, rfl, by decide, hW1, ?_, ?_⟩
      · intro h0
        have h0 : fgN v n (q.sp + 3) 4 = 0 := h0
        rw [if_pos h0] at hra
        rw [hra] at hQ
        repeat (first | (refine xbr_f ?_ ?_; (focus ((simp (disch := omega) only [ix_lt, ix_le, ix_eq, ix_0, nI_clamp, nI_toInt, ng_T, nI_add, nI_mul, nI_sub', Int.neg_zero, not_false_eq_true, not_true_eq_false] <;> omega); done))) | (refine xbr_t ?_ ?_; (focus ((simp (disch := omega) only [ix_lt, ix_le, ix_eq, ix_0, nI_clamp, nI_toInt, ng_T, nI_add, nI_mul, nI_sub', Int.neg_zero, not_false_eq_true, not_true_eq_false] <;> omega); done))) | refine ⟨Or.inl rfl, ?_⟩ | refine ⟨Or.inr rfl, ?_⟩ | (refine ⟨?_, ?_⟩; (focus (exact in_nI (by omega) (by omega)))))
        exact hQ I1 L hW1 (frR_t (frR_8 _ _ _ _) hf1)
      · intro b I2 hb hb9 hW2 hf2
        have hb : fgN v n (q.sp + 3) 4 = b + 1 := hb
        rw [if_neg (by omega), hb] at hra
        (first | (refine xbr_f ?_ ?_; (focus ((simp (disch := omega) only [ix_lt, ix_le, ix_eq, ix_0, nI_clamp, nI_toInt, ng_T, nI_add, nI_mul, nI_sub', Int.neg_zero, not_false_eq_true, not_true_eq_false] <;> omega); done))) | (refine xbr_t ?_ ?_; (focus ((simp (disch := omega) only [ix_lt, ix_le, ix_eq, ix_0, nI_clamp, nI_toInt, ng_T, nI_add, nI_mul, nI_sub', Int.neg_zero, not_false_eq_true, not_true_eq_false] <;> omega); done))) | refine ⟨Or.inl rfl, ?_⟩ | refine ⟨Or.inr rfl, ?_⟩ | (refine ⟨?_, ?_⟩; (focus (exact in_nI (by omega) (by omega)))))
        refine ⟨rfl, rfl, v, n, _, 4, rfl, by decide, hW2, ?_, ?_⟩
        · intro h0
          have h0 : fgN v n (q.sp + 4) 4 = 0 := h0
          rw [if_pos h0] at hra
          rw [hra] at hQ
          repeat (first | (refine xbr_f ?_ ?_; (focus ((simp (disch := omega) only [ix_lt, ix_le, ix_eq, ix_0, nI_clamp, nI_toInt, ng_T, nI_add, nI_mul, nI_sub', Int.neg_zero, not_false_eq_true, not_true_eq_false] <;> omega); done))) | (refine xbr_t ?_ ?_; (focus ((simp (disch := omega) only [ix_lt, ix_le, ix_eq, ix_0, nI_clamp, nI_toInt, ng_T, nI_add, nI_mul, nI_sub', Int.neg_zero, not_false_eq_true, not_true_eq_false] <;> omega); done))) | refine ⟨Or.inl rfl, ?_⟩ | refine ⟨Or.inr rfl, ?_⟩ | (refine ⟨?_, ?_⟩; (focus (exact in_nI (by omega) (by omega)))))
          exact hQ I2 L hW2 (frR_t (frR_8 _ _ _ _) (frR_t hf1 hf2))
        · intro c I3 hc3 hc9 hW3 hf3
          have hc3 : fgN v n (q.sp + 4) 4 = c + 1 := hc3
          rw [if_neg (by omega), hc3] at hra
          rw [hra] at hQ
          (first | (refine xbr_f ?_ ?_; (focus ((simp (disch := omega) only [ix_lt, ix_le, ix_eq, ix_0, nI_clamp, nI_toInt, ng_T, nI_add, nI_mul, nI_sub', Int.neg_zero, not_false_eq_true, not_true_eq_false] <;> omega); done))) | (refine xbr_t ?_ ?_; (focus ((simp (disch := omega) only [ix_lt, ix_le, ix_eq, ix_0, nI_clamp, nI_toInt, ng_T, nI_add, nI_mul, nI_sub', Int.neg_zero, not_false_eq_true, not_true_eq_false] <;> omega); done))) | refine ⟨Or.inl rfl, ?_⟩ | refine ⟨Or.inr rfl, ?_⟩ | (refine ⟨?_, ?_⟩; (focus (exact in_nI (by omega) (by omega)))))
          have hL3 : I3 10 1 = nI q.d.nL := hW3.2.2.2.2.2.2.2.1.2.1
          have hX3 : L 8 2 = lN q.X := hW3.2.2.2.2.2.1
          have hX63 : q.X < 2 ^ 63 := hW.2.2.2.2.2.2.1
          refine ⟨rfl, rfl, q.X, q.d.nL, s, by rw [hX3, hL3], by omega, by omega, hs16, ?_⟩
          have y1 := seMk_lt hX63 (show q.d.nL < 5 by omega) hs16
          refine ⟨rfl, rfl, seMk q.X q.d.nL s, q.d.nL, b, by rw [hL3]; rfl, by omega, by omega, by omega, ?_⟩
          have y2 := sePl_lt y1 (show q.d.nL < 5 by omega) (show b < 8 by omega)
          refine ⟨rfl, rfl, q.d, c, hW3.2.2.2.2.2.2.2.1, rfl, by omega, ?_⟩
          intro f hf
          have W4 := rdW_d (rdW_X (rdW_X hW3 y1) y2) (d := adL q.d c) hf (show q.d.nA ≤ 4 by omega) (show q.d.nL + 1 ≤ 5 by omega)
          repeat (first | (refine xbr_f ?_ ?_; (focus ((simp (disch := omega) only [ix_lt, ix_le, ix_eq, ix_0, nI_clamp, nI_toInt, ng_T, nI_add, nI_mul, nI_sub', Int.neg_zero, not_false_eq_true, not_true_eq_false] <;> omega); done))) | (refine xbr_t ?_ ?_; (focus ((simp (disch := omega) only [ix_lt, ix_le, ix_eq, ix_0, nI_clamp, nI_toInt, ng_T, nI_add, nI_mul, nI_sub', Int.neg_zero, not_false_eq_true, not_true_eq_false] <;> omega); done))) | refine ⟨Or.inl rfl, ?_⟩ | refine ⟨Or.inr rfl, ?_⟩ | (refine ⟨?_, ?_⟩; (focus (exact in_nI (by omega) (by omega)))))
          exact hQ _ _ W4 (frR_t (frR_8 _ _ _ _) (frR_t hf1 (frR_t hf2 (frR_t hf3 (frR_t (frR_L _ _ _ _) (frR_t (frR_L _ _ _ _) (frR_10 _ _ _)))))))
def rgN (v : Nat → Int32) (n : Nat) (q : RS) : Nat → RS × Bool
  | 0 => (q, true)
  | k + 1 => if (rgN v n q k).2 = false then rgN v n q k else if fgN v n (rgN v n q k).1.sp 4 = 0 then ((rgN v n q k).1, false) else (mkR ((rgN v n q k).1.sp + 1) (rgN v n q k).1.X (adR (rgN v n q k).1.d k (fgN v n (rgN v n q k).1.sp 4 - 1)), true)
theorem rgN_s (v : Nat → Int32) (n : Nat) (q : RS) (k : Nat) : rgN v n q (k + 1) = if (rgN v n q k).2 = false then rgN v n q k else if fgN v n (rgN v n q k).1.sp 4 = 0 then ((rgN v n q k).1, false) else (mkR ((rgN v n q k).1.sp + 1) (rgN v n q k).1.X (adR (rgN v n q k).1.d k (fgN v n (rgN v n q k).1.sp 4 - 1)), true) := rfl
theorem rgN_f {v : Nat → Int32} {n : Nat} {q : RS} {k : Nat} {r : RS} (h : rgN v n q k = (r, false)) : ∀ j, rgN v n q (k + j) = (r, false)
  | 0 => h
  | j + 1 => by
    have ih := rgN_f h j
    rw [show k + (j + 1) = k + j + 1 by omega, rgN_s, ih, if_pos rfl]
def rrN (v : Nat → Int32) (n : Nat) (q : RS) : RS × Bool := if sgN v n (skN v n 60 q.sp) = nI 110 then rgN v n (mkR (skN v n 60 q.sp + 1) q.X q.d) 5 else (mkR (skN v n 60 q.sp) q.X q.d, false)
def csX6_readRoads : xCs := [(mX6_skipBlanks, sX6_skipBlanks), (mX6_sign, sX6_sign), (mX6_readFigure, sX6_readFigure), (mX5_addRoad, sX5_addRoad)]
theorem okX6_readRoads : xOkM mX6_readRoads csX6_readRoads := ⟨dX6_readRoads, by decide +kernel, by decide +kernel, ⟨wdX6_57, wdX6_53, wdX6_36, ⟨wdX6_36, fun h => Bool.noConfusion h⟩, wdX6_60, wdX6_18, wdX6_63, trivial⟩⟩
theorem hhX6_readRoads : ∀ q ∈ csX6_readRoads, xHd q.1 := xall1 hX6_skipBlanks (xall1 hX6_sign (xall1 hX6_readFigure (xall1 hX5_addRoad (xall0))))
theorem kkX6_readRoads : ∀ q ∈ csX6_readRoads, ∀ l, xCon l q.1 q.2 := xall1 kX6_skipBlanks (xall1 kX6_sign (xall1 kX6_readFigure (xall1 kX5_addRoad (xall0))))
def sX6_readRoads : xSpec := xReg fun as I L Q => ∃ (v : Nat → Int32) (n : Nat) (q : RS), as = [.ref 8] ∧ rdW v n q I L ∧ (∀ I' L', rdW v n (rrN v n q).1 I' L' → frR I L I' L' → Q (some (.int (bI (rrN v n q).2))) I' L')
set_option maxRecDepth 100000 in
theorem kX6_readRoads : ∀ l, xCon l mX6_readRoads sX6_readRoads := by
  refine xcon_of okX6_readRoads hX6_readRoads rfl hhX6_readRoads kkX6_readRoads ?_
  rintro as n0 I L P Q ⟨hn9, rfl, v, n, q, rfl, hW, hQ⟩
  obtain ⟨e9, rfl⟩ := xe9 hn9
  refine ⟨Nat.le_of_ble_eq_true rfl, ?_⟩
  refine xrun okX6_readRoads hhX6_readRoads [(27, [true, true, false])] 60 ?_
  refine ⟨rfl, rfl, v, n, q, rfl, hW, ?_⟩
  intro I1 hW1 hf1
  refine ⟨rfl, rfl, v, n, _, rfl, hW1, ?_⟩
  have hrr : rrN v n q = if sgN v n (skN v n 60 q.sp) = nI 110 then rgN v n (mkR (skN v n 60 q.sp + 1) q.X q.d) 5 else (mkR (skN v n 60 q.sp) q.X q.d, false) := rfl
  by_cases hc : sgN v n (skN v n 60 q.sp) = nI 110
  · rw [if_pos hc] at hrr
    (first | refine xbr_t hc ?_ | refine xbr_f hc ?_)
    have h4 : I1 8 4 = nI (skN v n 60 q.sp) := hW1.2.2.2.1
    have hp := sg_lt hc (by decide)
    refine xlpW (M := mX6_readRoads) (cs := csX6_readRoads) (pc := 27) 5 (fun k => [some (.ref 8), some (.int (nI k)), none]) (fun k I' L' => ∃ r, rgN v n (mkR (skN v n 60 q.sp + 1) q.X q.d) k = (r, true) ∧ rdW v n r I' L' ∧ frR I L I' L') ?_ ?_ ⟨_, rfl, rdW_inc hW1 hp, frR_t hf1 (frR_8 _ _ _ _)⟩
    · rintro k hk I2 L2 ⟨r, hr, hW2, hf2⟩ ih
      refine xrun okX6_readRoads hhX6_readRoads [(27, [true, true, false])] 60 ?_
      (first | (refine xbr_f ?_ ?_; (focus ((simp (disch := omega) only [ix_lt, ix_le, ix_eq, ix_0, nI_clamp, nI_toInt, ng_T, nI_add, nI_mul, nI_sub', Int.neg_zero, not_false_eq_true, not_true_eq_false] <;> omega); done))) | (refine xbr_t ?_ ?_; (focus ((simp (disch := omega) only [ix_lt, ix_le, ix_eq, ix_0, nI_clamp, nI_toInt, ng_T, nI_add, nI_mul, nI_sub', Int.neg_zero, not_false_eq_true, not_true_eq_false] <;> omega); done))) | refine ⟨Or.inl rfl, ?_⟩ | refine ⟨Or.inr rfl, ?_⟩ | (refine ⟨?_, ?_⟩; (focus (exact in_nI (by omega) (by omega)))))
      have hs := rgN_s v n (mkR (skN v n 60 q.sp + 1) q.X q.d) k
      rw [hr, if_neg (by simp)] at hs
      refine ⟨rfl, rfl, v, n, r, 4, rfl, by decide, hW2, ?_, ?_⟩
      · intro h0
        have hs2 : rgN v n (mkR (skN v n 60 q.sp + 1) q.X q.d) (k + 1) = (r, false) := by rw [hs]; exact if_pos h0
        have hall := rgN_f hs2 (5 - (k + 1))
        rw [show k + 1 + (5 - (k + 1)) = 5 by omega] at hall
        rw [hall] at hrr
        rw [hrr] at hQ
        repeat (first | (refine xbr_f ?_ ?_; (focus ((simp (disch := omega) only [ix_lt, ix_le, ix_eq, ix_0, nI_clamp, nI_toInt, ng_T, nI_add, nI_mul, nI_sub', Int.neg_zero, not_false_eq_true, not_true_eq_false] <;> omega); done))) | (refine xbr_t ?_ ?_; (focus ((simp (disch := omega) only [ix_lt, ix_le, ix_eq, ix_0, nI_clamp, nI_toInt, ng_T, nI_add, nI_mul, nI_sub', Int.neg_zero, not_false_eq_true, not_true_eq_false] <;> omega); done))) | refine ⟨Or.inl rfl, ?_⟩ | refine ⟨Or.inr rfl, ?_⟩ | (refine ⟨?_, ?_⟩; (focus (exact in_nI (by omega) (by omega)))))
        exact hQ I2 L2 hW2 hf2
      · intro b I3 hb hb9 hW3 hf3
        have hs2 : rgN v n (mkR (skN v n 60 q.sp + 1) q.X q.d) (k + 1) = (mkR (r.sp + 1) r.X (adR r.d k b), true) := by
          rw [hs]
          show (if fgN v n r.sp 4 = 0 then (r, false) else (mkR (r.sp + 1) r.X (adR r.d k (fgN v n r.sp 4 - 1)), true)) = _
          rw [if_neg (by omega), hb]
          rfl
        (first | (refine xbr_f ?_ ?_; (focus ((simp (disch := omega) only [ix_lt, ix_le, ix_eq, ix_0, nI_clamp, nI_toInt, ng_T, nI_add, nI_mul, nI_sub', Int.neg_zero, not_false_eq_true, not_true_eq_false] <;> omega); done))) | (refine xbr_t ?_ ?_; (focus ((simp (disch := omega) only [ix_lt, ix_le, ix_eq, ix_0, nI_clamp, nI_toInt, ng_T, nI_add, nI_mul, nI_sub', Int.neg_zero, not_false_eq_true, not_true_eq_false] <;> omega); done))) | refine ⟨Or.inl rfl, ?_⟩ | refine ⟨Or.inr rfl, ?_⟩ | (refine ⟨?_, ?_⟩; (focus (exact in_nI (by omega) (by omega)))))
        refine ⟨rfl, rfl, r.d, k, b, hW3.2.2.2.2.2.2.2.1, rfl, by omega, ?_⟩
        intro f hf
        refine xgo_eq (ih _ _ ⟨_, hs2, rdW_d hW3 (d := adR r.d k b) hf hW2.2.2.2.2.2.2.2.2.1 hW2.2.2.2.2.2.2.2.2.2, frR_t hf2 (frR_t hf3 (frR_10 _ _ _))⟩) ?_ rfl rfl
        ((repeat' (first | (with_reducible rfl) | exact xv_nil | refine xv_cons ?_ ?_ | refine xv_i ?_ | refine xv_l ?_)) <;> (simp (disch := omega) only [↓reduceIte, Bool.false_eq_true, Nat.one_mul, Nat.zero_mul, Nat.or_zero, Nat.add_zero, Nat.zero_add, Bool.toNat_true, Bool.toNat_false, shl_n, shr_n, fa_and, fa_or, nx_xor, nI_add, nI_mul, nI_sub', and_1, and_7, and_3', and_15]))
    · rintro I2 L2 ⟨r, hr, hW2, hf2⟩
      refine xrun okX6_readRoads hhX6_readRoads [] 60 ?_
      repeat (first | (refine xbr_f ?_ ?_; (focus ((simp (disch := omega) only [ix_lt, ix_le, ix_eq, ix_0, nI_clamp, nI_toInt, ng_T, nI_add, nI_mul, nI_sub', Int.neg_zero, not_false_eq_true, not_true_eq_false] <;> omega); done))) | (refine xbr_t ?_ ?_; (focus ((simp (disch := omega) only [ix_lt, ix_le, ix_eq, ix_0, nI_clamp, nI_toInt, ng_T, nI_add, nI_mul, nI_sub', Int.neg_zero, not_false_eq_true, not_true_eq_false] <;> omega); done))) | refine ⟨Or.inl rfl, ?_⟩ | refine ⟨Or.inr rfl, ?_⟩ | (refine ⟨?_, ?_⟩; (focus (exact in_nI (by omega) (by omega)))))
      rw [hr] at hrr
      rw [hrr] at hQ
      exact hQ I2 L2 hW2 hf2
  · rw [if_neg hc] at hrr
    rw [hrr] at hQ
    (first | refine xbr_t hc ?_ | refine xbr_f hc ?_)
    repeat (first | (refine xbr_f ?_ ?_; (focus ((simp (disch := omega) only [ix_lt, ix_le, ix_eq, ix_0, nI_clamp, nI_toInt, ng_T, nI_add, nI_mul, nI_sub', Int.neg_zero, not_false_eq_true, not_true_eq_false] <;> omega); done))) | (refine xbr_t ?_ ?_; (focus ((simp (disch := omega) only [ix_lt, ix_le, ix_eq, ix_0, nI_clamp, nI_toInt, ng_T, nI_add, nI_mul, nI_sub', Int.neg_zero, not_false_eq_true, not_true_eq_false] <;> omega); done))) | refine ⟨Or.inl rfl, ?_⟩ | refine ⟨Or.inr rfl, ?_⟩ | (refine ⟨?_, ?_⟩; (focus (exact in_nI (by omega) (by omega)))))
    exact hQ I1 L hW1 hf1
def riN (v : Nat → Int32) (n : Nat) : Nat → RS → RS × Bool
  | 0, q => (q, false)
  | f + 1, q => if n ≤ skN v n 60 q.sp then (mkR (skN v n 60 q.sp) q.X q.d, decide (0 < q.d.nL)) else
      if sgN v n (skN v n 60 q.sp) = nI 108 then (if (rlN v n (mkR (skN v n 60 q.sp) q.X q.d)).2 then riN v n f (rlN v n (mkR (skN v n 60 q.sp) q.X q.d)).1 else rlN v n (mkR (skN v n 60 q.sp) q.X q.d))
      else (if (raN v n (mkR (skN v n 60 q.sp) q.X q.d)).2 then riN v n f (raN v n (mkR (skN v n 60 q.sp) q.X q.d)).1 else raN v n (mkR (skN v n 60 q.sp) q.X q.d))
theorem riN_s (v : Nat → Int32) (n f : Nat) (q : RS) : riN v n (f + 1) q = if n ≤ skN v n 60 q.sp then (mkR (skN v n 60 q.sp) q.X q.d, decide (0 < q.d.nL)) else
      if sgN v n (skN v n 60 q.sp) = nI 108 then (if (rlN v n (mkR (skN v n 60 q.sp) q.X q.d)).2 then riN v n f (rlN v n (mkR (skN v n 60 q.sp) q.X q.d)).1 else rlN v n (mkR (skN v n 60 q.sp) q.X q.d))
      else (if (raN v n (mkR (skN v n 60 q.sp) q.X q.d)).2 then riN v n f (raN v n (mkR (skN v n 60 q.sp) q.X q.d)).1 else raN v n (mkR (skN v n 60 q.sp) q.X q.d)) := rfl
theorem pair_t {α : Type} {r : α × Bool} (h : r.2 = true) : r = (r.1, true) := by rw [← h]
theorem pair_f {α : Type} {r : α × Bool} (h : r.2 = false) : r = (r.1, false) := by rw [← h]
def csX6_readItems : xCs := [(mX6_skipBlanks, sX6_skipBlanks), (mX6_sign, sX6_sign), (mX6_readLoad, sX6_readLoad), (mX6_readAss, sX6_readAss)]
theorem okX6_readItems : xOkM mX6_readItems csX6_readItems := ⟨dX6_readItems, by decide +kernel, by decide +kernel, ⟨wdX6_57, wdX6_53, wdX6_18, wdX6_67, wdX6_53, wdX6_70, wdX6_73, trivial⟩⟩
theorem hhX6_readItems : ∀ q ∈ csX6_readItems, xHd q.1 := xall1 hX6_skipBlanks (xall1 hX6_sign (xall1 hX6_readLoad (xall1 hX6_readAss (xall0))))
theorem kkX6_readItems : ∀ q ∈ csX6_readItems, ∀ l, xCon l q.1 q.2 := xall1 kX6_skipBlanks (xall1 kX6_sign (xall1 kX6_readLoad (xall1 kX6_readAss (xall0))))
def sX6_readItems : xSpec := xReg fun as I L Q => ∃ (v : Nat → Int32) (n : Nat) (q : RS), as = [.ref 8] ∧ rdW v n q I L ∧ (∀ I' L', rdW v n (riN v n 61 q).1 I' L' → frR I L I' L' → Q (some (.int (bI (riN v n 61 q).2))) I' L')
set_option maxRecDepth 100000 in
theorem kX6_readItems : ∀ l, xCon l mX6_readItems sX6_readItems := by
  refine xcon_of okX6_readItems hX6_readItems rfl hhX6_readItems kkX6_readItems ?_
  rintro as n0 I L P Q ⟨hn9, rfl, v, n, q0, rfl, hW0, hQ⟩
  obtain ⟨e9, rfl⟩ := xe9 hn9
  refine ⟨Nat.le_of_ble_eq_true rfl, ?_⟩
  have loop : ∀ f q I1 L1, f ≤ 61 → riN v n f q = riN v n 61 q0 → rdW v n q I1 L1 → frR I L I1 L1 → xGo mX6_readItems csX6_readItems 2 Q [some (.ref 8), some (.int (nI (61 - f))), none] [] 0 (e9 + 26) I1 L1 xP0 := by
    intro f
    induction f with
    | zero =>
      intro q I1 L1 _ e hw hf1
      refine xrun okX6_readItems hhX6_readItems [] 60 ?_
      repeat (first | (refine xbr_f ?_ ?_; (focus ((simp (disch := omega) only [ix_lt, ix_le, ix_eq, ix_0, nI_clamp, nI_toInt, ng_T, nI_add, nI_mul, nI_sub', Int.neg_zero, not_false_eq_true, not_true_eq_false] <;> omega); done))) | (refine xbr_t ?_ ?_; (focus ((simp (disch := omega) only [ix_lt, ix_le, ix_eq, ix_0, nI_clamp, nI_toInt, ng_T, nI_add, nI_mul, nI_sub', Int.neg_zero, not_false_eq_true, not_true_eq_false] <;> omega); done))) | refine ⟨Or.inl rfl, ?_⟩ | refine ⟨Or.inr rfl, ?_⟩ | (refine ⟨?_, ?_⟩; (focus (exact in_nI (by omega) (by omega)))))
      rw [← e] at hQ
      exact hQ I1 L1 hw hf1
    | succ f ih =>
      intro q I1 L1 hf e hw hf1
      refine xrun okX6_readItems hhX6_readItems [(2, [true, true, false])] 60 ?_
      (first | (refine xbr_f ?_ ?_; (focus ((simp (disch := omega) only [ix_lt, ix_le, ix_eq, ix_0, nI_clamp, nI_toInt, ng_T, nI_add, nI_mul, nI_sub', Int.neg_zero, not_false_eq_true, not_true_eq_false] <;> omega); done))) | (refine xbr_t ?_ ?_; (focus ((simp (disch := omega) only [ix_lt, ix_le, ix_eq, ix_0, nI_clamp, nI_toInt, ng_T, nI_add, nI_mul, nI_sub', Int.neg_zero, not_false_eq_true, not_true_eq_false] <;> omega); done))) | refine ⟨Or.inl rfl, ?_⟩ | refine ⟨Or.inr rfl, ?_⟩ | (refine ⟨?_, ?_⟩; (focus (exact in_nI (by omega) (by omega)))))
      refine ⟨rfl, rfl, v, n, q, rfl, hw, ?_⟩
      intro I2 hW2 hf2
      refine ⟨rfl, rfl, v, n, _, rfl, hW2, ?_⟩
      have hs := riN_s v n f q
      rw [e] at hs
      have hf12 := frR_t hf1 hf2
      by_cases hn : n ≤ skN v n 60 q.sp
      · rw [if_pos hn] at hs
        have e1 : sgN v n (skN v n 60 q.sp) = -(nI 1000) := sgN_out hn
        (first | refine xbr_t e1 ?_ | refine xbr_f e1 ?_)
        have hL : I2 10 1 = nI q.d.nL := hW2.2.2.2.2.2.2.2.1.2.1
        have h5 : q.d.nL ≤ 5 := hW2.2.2.2.2.2.2.2.2.2
        rw [hs] at hQ
        by_cases h0 : 0 < q.d.nL
        · rw [decide_eq_true h0] at hQ
          repeat (first | (refine xbr_f ?_ ?_; (focus ((simp (disch := omega) only [ix_lt, ix_le, ix_eq, ix_0, nI_clamp, nI_toInt, ng_T, nI_add, nI_mul, nI_sub', Int.neg_zero, not_false_eq_true, not_true_eq_false, hL] <;> omega); done))) | (refine xbr_t ?_ ?_; (focus ((simp (disch := omega) only [ix_lt, ix_le, ix_eq, ix_0, nI_clamp, nI_toInt, ng_T, nI_add, nI_mul, nI_sub', Int.neg_zero, not_false_eq_true, not_true_eq_false, hL] <;> omega); done))) | refine ⟨Or.inl rfl, ?_⟩ | refine ⟨Or.inr rfl, ?_⟩ | (refine ⟨?_, ?_⟩; (focus ((try simp (disch := omega) only [hL, nI_mul, nI_add, nI_sub']); exact in_nI (by omega) (by omega)))))
          exact hQ I2 L1 hW2 hf12
        · rw [decide_eq_false h0] at hQ
          repeat (first | (refine xbr_f ?_ ?_; (focus ((simp (disch := omega) only [ix_lt, ix_le, ix_eq, ix_0, nI_clamp, nI_toInt, ng_T, nI_add, nI_mul, nI_sub', Int.neg_zero, not_false_eq_true, not_true_eq_false, hL] <;> omega); done))) | (refine xbr_t ?_ ?_; (focus ((simp (disch := omega) only [ix_lt, ix_le, ix_eq, ix_0, nI_clamp, nI_toInt, ng_T, nI_add, nI_mul, nI_sub', Int.neg_zero, not_false_eq_true, not_true_eq_false, hL] <;> omega); done))) | refine ⟨Or.inl rfl, ?_⟩ | refine ⟨Or.inr rfl, ?_⟩ | (refine ⟨?_, ?_⟩; (focus ((try simp (disch := omega) only [hL, nI_mul, nI_add, nI_sub']); exact in_nI (by omega) (by omega)))))
          exact hQ I2 L1 hW2 hf12
      · rw [if_neg hn] at hs
        have e1 : ¬ sgN v n (skN v n 60 q.sp) = -(nI 1000) := by
          rw [sgN_in (by omega)]
          exact (hW2.2.2.1 _ (by omega)).2
        (first | refine xbr_t e1 ?_ | refine xbr_f e1 ?_)
        refine ⟨rfl, rfl, v, n, _, rfl, hW2, ?_⟩
        by_cases hc : sgN v n (skN v n 60 q.sp) = nI 108
        · rw [if_pos hc] at hs
          (first | refine xbr_t hc ?_ | refine xbr_f hc ?_)
          refine ⟨rfl, rfl, v, n, _, rfl, hW2, by show skN v n 60 q.sp < n; omega, ?_⟩
          intro I3 L3 hW3 hf3
          cases hb : (rlN v n (mkR (skN v n 60 q.sp) q.X q.d)).2
          · rw [hb, if_neg (by decide)] at hs
            rw [hs, hb] at hQ
            (first | refine xbr_t (by decide) ?_ | refine xbr_f (by decide) ?_)
            repeat (first | (refine xbr_f ?_ ?_; (focus ((simp (disch := omega) only [ix_lt, ix_le, ix_eq, ix_0, nI_clamp, nI_toInt, ng_T, nI_add, nI_mul, nI_sub', Int.neg_zero, not_false_eq_true, not_true_eq_false] <;> omega); done))) | (refine xbr_t ?_ ?_; (focus ((simp (disch := omega) only [ix_lt, ix_le, ix_eq, ix_0, nI_clamp, nI_toInt, ng_T, nI_add, nI_mul, nI_sub', Int.neg_zero, not_false_eq_true, not_true_eq_false] <;> omega); done))) | refine ⟨Or.inl rfl, ?_⟩ | refine ⟨Or.inr rfl, ?_⟩ | (refine ⟨?_, ?_⟩; (focus (exact in_nI (by omega) (by omega)))))
            exact hQ I3 L3 hW3 (frR_t hf12 hf3)
          · rw [hb, if_pos rfl] at hs
            (first | refine xbr_t (by decide) ?_ | refine xbr_f (by decide) ?_)
            refine xgo_eq (ih _ _ _ (by omega) hs.symm hW3 (frR_t hf12 hf3)) ?_ rfl rfl
            have e4 : 61 - (f + 1) + 1 = 61 - f := by omega
            ((repeat' (first | (with_reducible rfl) | exact xv_nil | refine xv_cons ?_ ?_ | refine xv_i ?_ | refine xv_l ?_)) <;> (simp (disch := omega) only [↓reduceIte, Bool.false_eq_true, Nat.one_mul, Nat.zero_mul, Nat.or_zero, Nat.add_zero, Nat.zero_add, Bool.toNat_true, Bool.toNat_false, shl_n, shr_n, fa_and, fa_or, nx_xor, nI_add, nI_mul, nI_sub', and_1, and_7, and_3', and_15, e4]))
        · rw [if_neg hc] at hs
          (first | refine xbr_t hc ?_ | refine xbr_f hc ?_)
          refine ⟨rfl, rfl, v, n, _, rfl, hW2, ?_⟩
          intro I3 L3 hW3 hf3
          cases hb : (raN v n (mkR (skN v n 60 q.sp) q.X q.d)).2
          · rw [hb, if_neg (by decide)] at hs
            rw [hs, hb] at hQ
            (first | refine xbr_t (by decide) ?_ | refine xbr_f (by decide) ?_)
            repeat (first | (refine xbr_f ?_ ?_; (focus ((simp (disch := omega) only [ix_lt, ix_le, ix_eq, ix_0, nI_clamp, nI_toInt, ng_T, nI_add, nI_mul, nI_sub', Int.neg_zero, not_false_eq_true, not_true_eq_false] <;> omega); done))) | (refine xbr_t ?_ ?_; (focus ((simp (disch := omega) only [ix_lt, ix_le, ix_eq, ix_0, nI_clamp, nI_toInt, ng_T, nI_add, nI_mul, nI_sub', Int.neg_zero, not_false_eq_true, not_true_eq_false] <;> omega); done))) | refine ⟨Or.inl rfl, ?_⟩ | refine ⟨Or.inr rfl, ?_⟩ | (refine ⟨?_, ?_⟩; (focus (exact in_nI (by omega) (by omega)))))
            exact hQ I3 L3 hW3 (frR_t hf12 hf3)
          · rw [hb, if_pos rfl] at hs
            (first | refine xbr_t (by decide) ?_ | refine xbr_f (by decide) ?_)
            refine xgo_eq (ih _ _ _ (by omega) hs.symm hW3 (frR_t hf12 hf3)) ?_ rfl rfl
            have e4 : 61 - (f + 1) + 1 = 61 - f := by omega
            ((repeat' (first | (with_reducible rfl) | exact xv_nil | refine xv_cons ?_ ?_ | refine xv_i ?_ | refine xv_l ?_)) <;> (simp (disch := omega) only [↓reduceIte, Bool.false_eq_true, Nat.one_mul, Nat.zero_mul, Nat.or_zero, Nat.add_zero, Nat.zero_add, Bool.toNat_true, Bool.toNat_false, shl_n, shr_n, fa_and, fa_or, nx_xor, nI_add, nI_mul, nI_sub', and_1, and_7, and_3', and_15, e4]))
  refine xrun okX6_readItems hhX6_readItems [(2, [true, true, false])] 60 ?_
  exact loop 61 q0 I L (Nat.le_refl _) rfl hW0 (frR_0 I L)
def r0 : RS := mkR 0 0 (mkP 0 0 0 0 0)
def rdF (v : Nat → Int32) (n : Nat) : RS × Bool := if (rrN v n r0).2 then riN v n 61 (rrN v n r0).1 else rrN v n r0
def frD (I : xI) (L : xL) (I' : xI) (L' : xL) : Prop := (∀ c, c ≠ 8 → c ≠ 9 → c ≠ 10 → I' c = I c) ∧ (∀ c, c ≠ 8 → L' c = L c)
def csX6_read : xCs := [(mX8_sizeOf, sX8_sizeOf), (mX8_get, sX8_get), (mX5_clear, sX5_clear), (mX6_readRoads, sX6_readRoads), (mX6_readItems, sX6_readItems)]
theorem okX6_read : xOkM mX6_read csX6_read := ⟨dX6_read, by decide +kernel, by decide +kernel, ⟨wdX6_22, ⟨wdX6_28, fun h => Bool.noConfusion h⟩, wdX6_28, wdX6_9, wdX6_9, wdX6_32, ⟨wdX6_36, fun h => Bool.noConfusion h⟩, ⟨wdX6_39, fun h => Bool.noConfusion h⟩, wdX6_18, wdX6_43, wdX6_46, wdX6_50, wdX6_36, trivial⟩⟩
theorem hhX6_read : ∀ q ∈ csX6_read, xHd q.1 := xall1 hX8_sizeOf (xall1 hX8_get (xall1 hX5_clear (xall1 hX6_readRoads (xall1 hX6_readItems (xall0)))))
theorem kkX6_read : ∀ q ∈ csX6_read, ∀ l, xCon l q.1 q.2 := xall1 kX8_sizeOf (xall1 kX8_get (xall1 kX5_clear (xall1 kX6_readRoads (xall1 kX6_readItems (xall0)))))
def sX6_read : xSpec := xReg fun as I L Q => ∃ (v : Nat → Int32) (n t : Nat), as = [.ref 8, .ref 5, .int (nI t)] ∧ t < 4 ∧ n ≤ 60 ∧ I 6 t = nI n ∧ I 5 0 = nI 60 ∧ (∀ k, k < n → I 7 (60 * t + k) = v k ∧ ¬ v k = -(nI 1000)) ∧ (∀ I' L', rdW v n (rdF v n).1 I' L' → frD I L I' L' → Q (some (.int (if (rdF v n).2 then -(nI 9) else nI (rdF v n).1.sp))) I' L')
set_option maxRecDepth 100000 in
theorem kX6_read : ∀ l, xCon l mX6_read sX6_read := by
  refine xcon_of okX6_read hX6_read rfl hhX6_read kkX6_read ?_
  rintro as n0 I L P Q ⟨hn9, rfl, v, n, t, rfl, ht, hn, hz, hmo, hv, hQ⟩
  obtain ⟨e9, rfl⟩ := xe9 hn9
  refine ⟨Nat.le_of_ble_eq_true rfl, ?_⟩
  refine xrun okX6_read hhX6_read [(11, [true, true, true, true])] 60 ?_
  repeat (first | (refine xbr_f ?_ ?_; (focus ((simp (disch := omega) only [ix_lt, ix_le, ix_eq, ix_0, nI_clamp, nI_toInt, ng_T, nI_add, nI_mul, nI_sub', Int.neg_zero, not_false_eq_true, not_true_eq_false] <;> omega); done))) | (refine xbr_t ?_ ?_; (focus ((simp (disch := omega) only [ix_lt, ix_le, ix_eq, ix_0, nI_clamp, nI_toInt, ng_T, nI_add, nI_mul, nI_sub', Int.neg_zero, not_false_eq_true, not_true_eq_false] <;> omega); done))) | refine ⟨Or.inl rfl, ?_⟩ | refine ⟨Or.inr rfl, ?_⟩ | (refine ⟨?_, ?_⟩; (focus (exact in_nI (by omega) (by omega)))))
  simp (disch := omega) only [hz, nI_mul, nI_add, nI_clamp, nI_sub']
  refine xlpW (M := mX6_read) (cs := csX6_read) (pc := 11) n (fun k => [some (.ref 8), some (.ref 5), some (.int (nI t)), some (.int (nI k))]) (fun k I' L' => L = L' ∧ ∃ f, I' = xrw (xup I 8 3 (nI n)) 9 f ∧ ∀ j, j < k → f j = v j) ?_ ?_ ⟨rfl, I 9, (xrw_self (xup I 8 3 (nI n)) 9).symm, fun j h => absurd h (by omega)⟩
  · rintro k hk I1 L1 ⟨rfl, f, rfl, hf⟩ ih
    refine xrun okX6_read hhX6_read [(11, [true, true, true, true])] 60 ?_
    have h8 : xrw (xup I 8 3 (nI n)) 9 f 8 3 = nI n := rfl
    repeat (first | (refine xbr_f ?_ ?_; (focus ((simp (disch := omega) only [ix_lt, ix_le, ix_eq, ix_0, nI_clamp, nI_toInt, ng_T, nI_add, nI_mul, nI_sub', Int.neg_zero, not_false_eq_true, not_true_eq_false, h8] <;> omega); done))) | (refine xbr_t ?_ ?_; (focus ((simp (disch := omega) only [ix_lt, ix_le, ix_eq, ix_0, nI_clamp, nI_toInt, ng_T, nI_add, nI_mul, nI_sub', Int.neg_zero, not_false_eq_true, not_true_eq_false, h8] <;> omega); done))) | refine ⟨Or.inl rfl, ?_⟩ | refine ⟨Or.inr rfl, ?_⟩ | (refine ⟨?_, ?_⟩; (focus ((try simp (disch := omega) only [h8, nI_mul, nI_add, nI_sub']); exact in_nI (by omega) (by omega)))))
    refine ⟨rfl, rfl, 5, 6, 7, 4, 60, t, k, n, Or.inr ⟨rfl, rfl, rfl, rfl, rfl⟩, rfl, ht, hz, hk, hn, hmo, ?_⟩
    repeat (first | (refine xbr_f ?_ ?_; (focus ((simp (disch := omega) only [ix_lt, ix_le, ix_eq, ix_0, nI_clamp, nI_toInt, ng_T, nI_add, nI_mul, nI_sub', Int.neg_zero, not_false_eq_true, not_true_eq_false] <;> omega); done))) | (refine xbr_t ?_ ?_; (focus ((simp (disch := omega) only [ix_lt, ix_le, ix_eq, ix_0, nI_clamp, nI_toInt, ng_T, nI_add, nI_mul, nI_sub', Int.neg_zero, not_false_eq_true, not_true_eq_false] <;> omega); done))) | refine ⟨Or.inl rfl, ?_⟩ | refine ⟨Or.inr rfl, ?_⟩ | (refine ⟨?_, ?_⟩; (focus (exact in_nI (by omega) (by omega)))))
    simp (disch := omega) only [nI_mul, nI_add, nI_clamp, nI_sub']
    rw [xrw_up]
    refine xgo_eq (ih _ _ ⟨rfl, _, rfl, ?_⟩) ?_ rfl rfl
    · intro j hj
      by_cases h : j = k
      · subst h
        rw [if_pos rfl, show t * 60 + j = 60 * t + j by omega]
        exact (hv j hk).1
      · rw [if_neg h]
        exact hf j (by omega)
    · ((repeat' (first | (with_reducible rfl) | exact xv_nil | refine xv_cons ?_ ?_ | refine xv_i ?_ | refine xv_l ?_)) <;> (simp (disch := omega) only [↓reduceIte, Bool.false_eq_true, Nat.one_mul, Nat.zero_mul, Nat.or_zero, Nat.add_zero, Nat.zero_add, Bool.toNat_true, Bool.toNat_false, shl_n, shr_n, fa_and, fa_or, nx_xor, nI_add, nI_mul, nI_sub', and_1, and_7, and_3', and_15]))
  · rintro I1 L1 ⟨rfl, f, rfl, hf⟩
    refine xrun okX6_read hhX6_read [] 60 ?_
    have h8 : xrw (xup I 8 3 (nI n)) 9 f 8 3 = nI n := rfl
    repeat (first | (refine xbr_f ?_ ?_; (focus ((simp (disch := omega) only [ix_lt, ix_le, ix_eq, ix_0, nI_clamp, nI_toInt, ng_T, nI_add, nI_mul, nI_sub', Int.neg_zero, not_false_eq_true, not_true_eq_false, h8] <;> omega); done))) | (refine xbr_t ?_ ?_; (focus ((simp (disch := omega) only [ix_lt, ix_le, ix_eq, ix_0, nI_clamp, nI_toInt, ng_T, nI_add, nI_mul, nI_sub', Int.neg_zero, not_false_eq_true, not_true_eq_false, h8] <;> omega); done))) | refine ⟨Or.inl rfl, ?_⟩ | refine ⟨Or.inr rfl, ?_⟩ | (refine ⟨?_, ?_⟩; (focus ((try simp (disch := omega) only [h8, nI_mul, nI_add, nI_sub']); exact in_nI (by omega) (by omega)))))
    refine ⟨rfl, rfl, rfl, ?_⟩
    intro g hg
    have hW : rdW v n r0 (xrw (xup (xrw (xup I 8 3 (nI n)) 9 f) 8 4 (nI 0)) 10 g) (xup L 8 2 (lN 0)) := ⟨rfl, hn, fun k hk => ⟨hf k hk, (hv k hk).2⟩, rfl, Nat.zero_le n, rfl, by decide, hg, by decide, by decide⟩
    have hF : ∀ I' L', frR (xrw (xup (xrw (xup I 8 3 (nI n)) 9 f) 8 4 (nI 0)) 10 g) (xup L 8 2 (lN 0)) I' L' → frD I L I' L' := by
      intro I' L' h
      refine ⟨fun c a b d => ?_, fun c a => ?_⟩
      · rw [h.1 c a d, xrw_c _ _ _ d, xup_c _ _ _ _ a, xrw_c _ _ _ b, xup_c _ _ _ _ a]
      · rw [h.2 c a, xup_c _ _ _ _ a]
    have hrd : rdF v n = if (rrN v n r0).2 then riN v n 61 (rrN v n r0).1 else rrN v n r0 := rfl
    refine ⟨rfl, rfl, v, n, r0, rfl, hW, ?_⟩
    intro I2 L2 hW2 hf2
    cases hb : (rrN v n r0).2
    · rw [hb, if_neg (by decide)] at hrd
      rw [hrd, hb, if_neg (by decide)] at hQ
      (first | refine xbr_t (by decide) ?_ | refine xbr_f (by decide) ?_)
      have h4 : I2 8 4 = nI (rrN v n r0).1.sp := hW2.2.2.2.1
      have hq := hQ I2 L2 hW2 (hF _ _ hf2)
      rw [← h4] at hq
      exact hq
    · rw [hb, if_pos rfl] at hrd
      (first | refine xbr_t (by decide) ?_ | refine xbr_f (by decide) ?_)
      refine ⟨rfl, rfl, v, n, _, rfl, hW2, ?_⟩
      intro I3 L3 hW3 hf3
      rw [hrd] at hQ
      cases hb3 : (riN v n 61 (rrN v n r0).1).2
      · rw [hb3, if_neg (by decide)] at hQ
        (first | refine xbr_t (by decide) ?_ | refine xbr_f (by decide) ?_)
        have h4 : I3 8 4 = nI (riN v n 61 (rrN v n r0).1).1.sp := hW3.2.2.2.1
        have hq := hQ I3 L3 hW3 (hF _ _ (frR_t hf2 hf3))
        rw [← h4] at hq
        exact hq
      · rw [hb3, if_pos rfl] at hQ
        (first | refine xbr_t (by decide) ?_ | refine xbr_f (by decide) ?_)
        exact hQ I3 L3 hW3 (hF _ _ (frR_t hf2 hf3))
