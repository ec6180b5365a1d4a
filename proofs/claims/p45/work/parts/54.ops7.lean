/-! CALLS, 6: what is told; lots -/
theorem nI_inj2 {a b : Nat} (h : nI a = nI b) (ha : a < 2 ^ 31) (hb : b < 2 ^ 31) : a = b := by
  rw [ix_eq, nI_toInt ha, nI_toInt hb] at h
  omega
def csX10_keptSize : xCs := [(mX10_keptAt, sX10_keptAt)]
theorem okX10_keptSize : xOkM mX10_keptSize csX10_keptSize := ⟨dX10_keptSize, by decide +kernel, by decide +kernel, ⟨wdX10_138, wdX10_217, trivial⟩⟩
theorem hhX10_keptSize : ∀ q ∈ csX10_keptSize, xHd q.1 := xall1 hX10_keptAt (xall0)
theorem kkX10_keptSize : ∀ q ∈ csX10_keptSize, ∀ l, xCon l q.1 q.2 := xall1 kX10_keptAt (xall0)
def sX10_keptSize : xSpec := xReg fun as I L Q => ∃ (S : ST) (k : Nat), as = [.ref 1, .int (nI k)] ∧ k < 3 ∧ Cls S I L ∧ Q (some (.int (szI (S.kp k).z))) I L
set_option maxRecDepth 100000 in
theorem kX10_keptSize : ∀ l, xCon l mX10_keptSize sX10_keptSize := by
  refine xcon_of okX10_keptSize hX10_keptSize rfl hhX10_keptSize kkX10_keptSize ?_
  rintro as n0 I L P Q ⟨hn9, rfl, S, k, rfl, hk, hC, hQ⟩
  obtain ⟨e9, rfl⟩ := xe9 hn9
  refine ⟨Nat.le_of_ble_eq_true rfl, ?_⟩
  refine xrun okX10_keptSize hhX10_keptSize [] 60 ?_
  rcases (by omega : k = 0 ∨ k = 1 ∨ k = 2) with rfl | rfl | rfl
  · refine ⟨rfl, rfl, _, rfl, fun _ => ?_, fun q => absurd q (by decide), fun q => absurd q (by decide), fun q => absurd q (by decide)⟩
    rw [← hC.k0.1] at hQ
    exact hQ
  · refine ⟨rfl, rfl, _, rfl, fun q => absurd q (by decide), fun _ => ?_, fun q => absurd q (by decide), fun q => absurd q (by decide)⟩
    rw [← hC.k1.1] at hQ
    exact hQ
  · refine ⟨rfl, rfl, _, rfl, fun q => absurd q (by decide), fun q => absurd q (by decide), fun _ => ?_, fun q => absurd q (by decide)⟩
    rw [← hC.k2.1] at hQ
    exact hQ
def kzN (S : ST) : Nat → Nat := fun t => (S.kp t).z
def csX10_howManyKept : xCs := [(mX10_keptSize, sX10_keptSize)]
theorem okX10_howManyKept : xOkM mX10_howManyKept csX10_howManyKept := ⟨dX10_howManyKept, by decide +kernel, by decide +kernel, ⟨wdX10_358, trivial⟩⟩
theorem hhX10_howManyKept : ∀ q ∈ csX10_howManyKept, xHd q.1 := xall1 hX10_keptSize (xall0)
theorem kkX10_howManyKept : ∀ q ∈ csX10_howManyKept, ∀ l, xCon l q.1 q.2 := xall1 kX10_keptSize (xall0)
def sX10_howManyKept : xSpec := xReg fun as I L Q => ∃ (S : ST), as = [.ref 1] ∧ Cls S I L ∧ Q (some (.int (nI (cnN (thB (kzN S)) 3)))) I L
set_option maxRecDepth 100000 in
theorem kX10_howManyKept : ∀ l, xCon l mX10_howManyKept sX10_howManyKept := by
  refine xcon_of okX10_howManyKept hX10_howManyKept rfl hhX10_howManyKept kkX10_howManyKept ?_
  rintro as n0 I L P Q ⟨hn9, rfl, S, rfl, hC, hQ⟩
  obtain ⟨e9, rfl⟩ := xe9 hn9
  refine ⟨Nat.le_of_ble_eq_true rfl, ?_⟩
  refine xrun okX10_howManyKept hhX10_howManyKept [(4, [true, true, true])] 20 ?_
  refine xlp (M := mX10_howManyKept) (cs := csX10_howManyKept) (pc := 4) 3 (fun k => [some (.ref 1), some (.int (nI (cnN (thB (kzN S)) k))), some (.int (nI k))]) (fun _ => I) (fun _ => L) ?_ ?_
  · intro k hk ih
    refine xrun okX10_howManyKept hhX10_howManyKept [(4, [true, true, true])] 90 ?_
    have hz := (hC.ok.kp k hk).1
    have hcl := cnN_le (thB (kzN S)) k
    have e : thB (kzN S) k = decide (¬ (S.kp k).z = 0) := rfl
    (first | (refine xbr_f ?_ ?_; (focus ((simp (disch := omega) only [ix_lt, ix_le, ix_eq, ix_0, nI_clamp, nI_toInt, ng_T, nI_add, nI_mul, nI_sub', Int.neg_zero, not_false_eq_true, not_true_eq_false] <;> omega); done))) | (refine xbr_t ?_ ?_; (focus ((simp (disch := omega) only [ix_lt, ix_le, ix_eq, ix_0, nI_clamp, nI_toInt, ng_T, nI_add, nI_mul, nI_sub', Int.neg_zero, not_false_eq_true, not_true_eq_false] <;> omega); done))) | refine ⟨Or.inl rfl, ?_⟩ | refine ⟨Or.inr rfl, ?_⟩ | (refine ⟨?_, ?_⟩; (focus (exact in_nI (by omega) (by omega)))))
    refine ⟨rfl, rfl, S, k, rfl, hk, hC, ?_⟩
    by_cases h0 : (S.kp k).z = 0
    · rw [decide_eq_false (fun q => q h0)] at e
      rw [h0, szI_0]
      repeat (first | (refine xbr_f ?_ ?_; (focus ((simp (disch := omega) only [ix_lt, ix_le, ix_eq, ix_0, nI_clamp, nI_toInt, ng_T, nI_add, nI_mul, nI_sub', Int.neg_zero, not_false_eq_true, not_true_eq_false] <;> omega); done))) | (refine xbr_t ?_ ?_; (focus ((simp (disch := omega) only [ix_lt, ix_le, ix_eq, ix_0, nI_clamp, nI_toInt, ng_T, nI_add, nI_mul, nI_sub', Int.neg_zero, not_false_eq_true, not_true_eq_false] <;> omega); done))) | refine ⟨Or.inl rfl, ?_⟩ | refine ⟨Or.inr rfl, ?_⟩ | (refine ⟨?_, ?_⟩; (focus (exact in_nI (by omega) (by omega)))))
      refine xgo_eq ih ?_ rfl rfl
      ((repeat' (first | (with_reducible rfl) | exact xv_nil | refine xv_cons ?_ ?_ | refine xv_i ?_ | refine xv_l ?_)) <;> (simp (disch := omega) only [↓reduceIte, Bool.false_eq_true, Nat.one_mul, Nat.zero_mul, Nat.or_zero, Nat.add_zero, Nat.zero_add, Bool.toNat_true, Bool.toNat_false, shl_n, shr_n, fa_and, fa_or, nx_xor, nI_add, nI_mul, nI_sub', and_1, and_7, and_3', and_15, cnN, e]))
    · rw [decide_eq_true h0] at e
      obtain ⟨s, hs⟩ : ∃ s, (S.kp k).z = s + 1 := ⟨(S.kp k).z - 1, by omega⟩
      rw [hs, szI_s]
      repeat (first | (refine xbr_f ?_ ?_; (focus ((simp (disch := omega) only [ix_lt, ix_le, ix_eq, ix_0, nI_clamp, nI_toInt, ng_T, nI_add, nI_mul, nI_sub', Int.neg_zero, not_false_eq_true, not_true_eq_false] <;> omega); done))) | (refine xbr_t ?_ ?_; (focus ((simp (disch := omega) only [ix_lt, ix_le, ix_eq, ix_0, nI_clamp, nI_toInt, ng_T, nI_add, nI_mul, nI_sub', Int.neg_zero, not_false_eq_true, not_true_eq_false] <;> omega); done))) | refine ⟨Or.inl rfl, ?_⟩ | refine ⟨Or.inr rfl, ?_⟩ | (refine ⟨?_, ?_⟩; (focus (exact in_nI (by omega) (by omega)))))
      refine xgo_eq ih ?_ rfl rfl
      ((repeat' (first | (with_reducible rfl) | exact xv_nil | refine xv_cons ?_ ?_ | refine xv_i ?_ | refine xv_l ?_)) <;> (simp (disch := omega) only [↓reduceIte, Bool.false_eq_true, Nat.one_mul, Nat.zero_mul, Nat.or_zero, Nat.add_zero, Nat.zero_add, Bool.toNat_true, Bool.toNat_false, shl_n, shr_n, fa_and, fa_or, nx_xor, nI_add, nI_mul, nI_sub', and_1, and_7, and_3', and_15, cnN, e]))
  · refine xrun okX10_howManyKept hhX10_howManyKept [] 60 ?_
    repeat (first | (refine xbr_f ?_ ?_; (focus ((simp (disch := omega) only [ix_lt, ix_le, ix_eq, ix_0, nI_clamp, nI_toInt, ng_T, nI_add, nI_mul, nI_sub', Int.neg_zero, not_false_eq_true, not_true_eq_false] <;> omega); done))) | (refine xbr_t ?_ ?_; (focus ((simp (disch := omega) only [ix_lt, ix_le, ix_eq, ix_0, nI_clamp, nI_toInt, ng_T, nI_add, nI_mul, nI_sub', Int.neg_zero, not_false_eq_true, not_true_eq_false] <;> omega); done))) | refine ⟨Or.inl rfl, ?_⟩ | refine ⟨Or.inr rfl, ?_⟩ | (refine ⟨?_, ?_⟩; (focus (exact in_nI (by omega) (by omega)))))
    exact hQ
def cntI (S : ST) : Nat → Int32
  | 0 => nI S.d.nA
  | 1 => nI S.d.nL
  | 2 => nI (pcf 64 S.D.b)
  | 3 => nI (S.D.z - 1)
  | 4 => nI (bsN (hmB S.d S.D.X) S.d.nL)
  | 5 => nI (roN S.d 5)
  | 6 => nI (cnN (fun i => isN (kdN S.d i) 1) S.d.nA)
  | 7 => nI (cnN (fun i => isN (kdN S.d i) 3) S.d.nA)
  | 8 => nI (cnN (thB S.rz) 6)
  | 9 => nI (cnN (thB S.tz) 4)
  | _ => nI (cnN (thB (kzN S)) 3)
def csX10_count : xCs := [(mX1_howManyDays, sX1_howManyDays), (mX5_atHomes, sX5_atHomes), (mX5_roadsAsNumber, sX5_roadsAsNumber), (mX5_howManyAre, sX5_howManyAre), (mX8_howManyThere, sX8_howManyThere), (mX10_howManyKept, sX10_howManyKept)]
theorem okX10_count : xOkM mX10_count csX10_count := ⟨dX10_count, by decide +kernel, by decide +kernel, ⟨wdX10_31, wdX10_195, wdX10_31, wdX10_144, wdX10_38, wdX10_333, wdX10_38, wdX10_217, wdX10_31, wdX10_38, wdX10_169, wdX10_320, wdX10_31, wdX10_336, wdX10_31, wdX10_339, wdX10_31, wdX10_339, wdX10_14, wdX10_342, wdX10_18, wdX10_342, wdX10_345, trivial⟩⟩
theorem hhX10_count : ∀ q ∈ csX10_count, xHd q.1 := xall1 hX1_howManyDays (xall1 hX5_atHomes (xall1 hX5_roadsAsNumber (xall1 hX5_howManyAre (xall1 hX8_howManyThere (xall1 hX10_howManyKept (xall0))))))
theorem kkX10_count : ∀ q ∈ csX10_count, ∀ l, xCon l q.1 q.2 := xall1 kX1_howManyDays (xall1 kX5_atHomes (xall1 kX5_roadsAsNumber (xall1 kX5_howManyAre (xall1 kX8_howManyThere (xall1 kX10_howManyKept (xall0))))))
def sX10_count : xSpec := xReg fun as I L Q => ∃ (S : ST) (w : Int32), as = [.ref 1, .int w] ∧ Cls S I L ∧ (ibB w 11 = false → Q (some (.int (-(nI 1)))) I L) ∧ (∀ k, w = nI k → k < 11 → Q (some (.int (cntI S k))) I L)
set_option maxRecDepth 100000 in
theorem kX10_count : ∀ l, xCon l mX10_count sX10_count := by
  refine xcon_of okX10_count hX10_count rfl hhX10_count kkX10_count ?_
  rintro as n0 I L P Q ⟨hn9, rfl, S, w, rfl, hC, hQ1, hQ2⟩
  obtain ⟨e9, rfl⟩ := xe9 hn9
  refine ⟨Nat.le_of_ble_eq_true rfl, ?_⟩
  refine xrun okX10_count hhX10_count [] 60 ?_
  have eX := hC.X
  have hX : S.D.X < 2 ^ 63 := hC.ok.X.1
  cases hb : ibB w 11
  · have hk := ib_f hb
    have done := hQ1 hb
    repeat (first | (refine xbr_f ?_ ?_; (focus ((simp (disch := omega) only [ix_lt, ix_le, ix_eq, ix_0, nI_clamp, nI_toInt, ng_T, nI_add, nI_mul, nI_sub', Int.neg_zero, not_false_eq_true, not_true_eq_false] <;> omega); done))) | (refine xbr_t ?_ ?_; (focus ((simp (disch := omega) only [ix_lt, ix_le, ix_eq, ix_0, nI_clamp, nI_toInt, ng_T, nI_add, nI_mul, nI_sub', Int.neg_zero, not_false_eq_true, not_true_eq_false] <;> omega); done))) | refine ⟨Or.inl rfl, ?_⟩ | refine ⟨Or.inr rfl, ?_⟩ | (refine ⟨?_, ?_⟩; (focus (exact in_nI (by omega) (by omega)))))
    exact done
  · obtain ⟨k, hk, rfl⟩ := ibB_t hb (by decide)
    have hQ := hQ2 k rfl hk
    rcases (by omega : k = 0 ∨ k = 1 ∨ k = 2 ∨ k = 3 ∨ k = 4 ∨ k = 5 ∨ k = 6 ∨ k = 7 ∨ k = 8 ∨ k = 9 ∨ k = 10) with rfl | rfl | rfl | rfl | rfl | rfl | rfl | rfl | rfl | rfl | rfl
    · repeat (first | (refine xbr_f ?_ ?_; (focus ((simp (disch := omega) only [ix_lt, ix_le, ix_eq, ix_0, nI_clamp, nI_toInt, ng_T, nI_add, nI_mul, nI_sub', Int.neg_zero, not_false_eq_true, not_true_eq_false] <;> omega); done))) | (refine xbr_t ?_ ?_; (focus ((simp (disch := omega) only [ix_lt, ix_le, ix_eq, ix_0, nI_clamp, nI_toInt, ng_T, nI_add, nI_mul, nI_sub', Int.neg_zero, not_false_eq_true, not_true_eq_false] <;> omega); done))) | refine ⟨Or.inl rfl, ?_⟩ | refine ⟨Or.inr rfl, ?_⟩ | (refine ⟨?_, ?_⟩; (focus (exact in_nI (by omega) (by omega)))))
      have e := hC.pl.a
      unfold cntI at hQ
      rw [← e] at hQ
      exact hQ
    · repeat (first | (refine xbr_f ?_ ?_; (focus ((simp (disch := omega) only [ix_lt, ix_le, ix_eq, ix_0, nI_clamp, nI_toInt, ng_T, nI_add, nI_mul, nI_sub', Int.neg_zero, not_false_eq_true, not_true_eq_false] <;> omega); done))) | (refine xbr_t ?_ ?_; (focus ((simp (disch := omega) only [ix_lt, ix_le, ix_eq, ix_0, nI_clamp, nI_toInt, ng_T, nI_add, nI_mul, nI_sub', Int.neg_zero, not_false_eq_true, not_true_eq_false] <;> omega); done))) | refine ⟨Or.inl rfl, ?_⟩ | refine ⟨Or.inr rfl, ?_⟩ | (refine ⟨?_, ?_⟩; (focus (exact in_nI (by omega) (by omega)))))
      have e := hC.pl.l
      unfold cntI at hQ
      rw [← e] at hQ
      exact hQ
    · repeat (first | (refine xbr_f ?_ ?_; (focus ((simp (disch := omega) only [ix_lt, ix_le, ix_eq, ix_0, nI_clamp, nI_toInt, ng_T, nI_add, nI_mul, nI_sub', Int.neg_zero, not_false_eq_true, not_true_eq_false] <;> omega); done))) | (refine xbr_t ?_ ?_; (focus ((simp (disch := omega) only [ix_lt, ix_le, ix_eq, ix_0, nI_clamp, nI_toInt, ng_T, nI_add, nI_mul, nI_sub', Int.neg_zero, not_false_eq_true, not_true_eq_false] <;> omega); done))) | refine ⟨Or.inl rfl, ?_⟩ | refine ⟨Or.inr rfl, ?_⟩ | (refine ⟨?_, ?_⟩; (focus (exact in_nI (by omega) (by omega)))))
      exact ⟨rfl, rfl, S.D.b, rfl, hC.b, hC.ok.D.b63 hC.ok.z, hQ⟩
    · repeat (first | (refine xbr_f ?_ ?_; (focus ((simp (disch := omega) only [ix_lt, ix_le, ix_eq, ix_0, nI_clamp, nI_toInt, ng_T, nI_add, nI_mul, nI_sub', Int.neg_zero, not_false_eq_true, not_true_eq_false] <;> omega); done))) | (refine xbr_t ?_ ?_; (focus ((simp (disch := omega) only [ix_lt, ix_le, ix_eq, ix_0, nI_clamp, nI_toInt, ng_T, nI_add, nI_mul, nI_sub', Int.neg_zero, not_false_eq_true, not_true_eq_false] <;> omega); done))) | refine ⟨Or.inl rfl, ?_⟩ | refine ⟨Or.inr rfl, ?_⟩ | (refine ⟨?_, ?_⟩; (focus (exact in_nI (by omega) (by omega)))))
      have e := hC.sz
      unfold cntI at hQ
      rw [← e] at hQ
      exact hQ
    · repeat (first | (refine xbr_f ?_ ?_; (focus ((simp (disch := omega) only [ix_lt, ix_le, ix_eq, ix_0, nI_clamp, nI_toInt, ng_T, nI_add, nI_mul, nI_sub', Int.neg_zero, not_false_eq_true, not_true_eq_false] <;> omega); done))) | (refine xbr_t ?_ ?_; (focus ((simp (disch := omega) only [ix_lt, ix_le, ix_eq, ix_0, nI_clamp, nI_toInt, ng_T, nI_add, nI_mul, nI_sub', Int.neg_zero, not_false_eq_true, not_true_eq_false] <;> omega); done))) | refine ⟨Or.inl rfl, ?_⟩ | refine ⟨Or.inr rfl, ?_⟩ | (refine ⟨?_, ?_⟩; (focus (exact in_nI (by omega) (by omega)))))
      exact ⟨rfl, rfl, S.d, S.D.X, hC.pl, by rw [eX], hX, hQ⟩
    · repeat (first | (refine xbr_f ?_ ?_; (focus ((simp (disch := omega) only [ix_lt, ix_le, ix_eq, ix_0, nI_clamp, nI_toInt, ng_T, nI_add, nI_mul, nI_sub', Int.neg_zero, not_false_eq_true, not_true_eq_false] <;> omega); done))) | (refine xbr_t ?_ ?_; (focus ((simp (disch := omega) only [ix_lt, ix_le, ix_eq, ix_0, nI_clamp, nI_toInt, ng_T, nI_add, nI_mul, nI_sub', Int.neg_zero, not_false_eq_true, not_true_eq_false] <;> omega); done))) | refine ⟨Or.inl rfl, ?_⟩ | refine ⟨Or.inr rfl, ?_⟩ | (refine ⟨?_, ?_⟩; (focus (exact in_nI (by omega) (by omega)))))
      exact ⟨rfl, rfl, S.d, hC.pl, rfl, hQ⟩
    · repeat (first | (refine xbr_f ?_ ?_; (focus ((simp (disch := omega) only [ix_lt, ix_le, ix_eq, ix_0, nI_clamp, nI_toInt, ng_T, nI_add, nI_mul, nI_sub', Int.neg_zero, not_false_eq_true, not_true_eq_false] <;> omega); done))) | (refine xbr_t ?_ ?_; (focus ((simp (disch := omega) only [ix_lt, ix_le, ix_eq, ix_0, nI_clamp, nI_toInt, ng_T, nI_add, nI_mul, nI_sub', Int.neg_zero, not_false_eq_true, not_true_eq_false] <;> omega); done))) | refine ⟨Or.inl rfl, ?_⟩ | refine ⟨Or.inr rfl, ?_⟩ | (refine ⟨?_, ?_⟩; (focus (exact in_nI (by omega) (by omega)))))
      exact ⟨rfl, rfl, S.d, 1, hC.pl, rfl, by decide, hQ⟩
    · repeat (first | (refine xbr_f ?_ ?_; (focus ((simp (disch := omega) only [ix_lt, ix_le, ix_eq, ix_0, nI_clamp, nI_toInt, ng_T, nI_add, nI_mul, nI_sub', Int.neg_zero, not_false_eq_true, not_true_eq_false] <;> omega); done))) | (refine xbr_t ?_ ?_; (focus ((simp (disch := omega) only [ix_lt, ix_le, ix_eq, ix_0, nI_clamp, nI_toInt, ng_T, nI_add, nI_mul, nI_sub', Int.neg_zero, not_false_eq_true, not_true_eq_false] <;> omega); done))) | refine ⟨Or.inl rfl, ?_⟩ | refine ⟨Or.inr rfl, ?_⟩ | (refine ⟨?_, ?_⟩; (focus (exact in_nI (by omega) (by omega)))))
      exact ⟨rfl, rfl, S.d, 3, hC.pl, rfl, by decide, hQ⟩
    · repeat (first | (refine xbr_f ?_ ?_; (focus ((simp (disch := omega) only [ix_lt, ix_le, ix_eq, ix_0, nI_clamp, nI_toInt, ng_T, nI_add, nI_mul, nI_sub', Int.neg_zero, not_false_eq_true, not_true_eq_false] <;> omega); done))) | (refine xbr_t ?_ ?_; (focus ((simp (disch := omega) only [ix_lt, ix_le, ix_eq, ix_0, nI_clamp, nI_toInt, ng_T, nI_add, nI_mul, nI_sub', Int.neg_zero, not_false_eq_true, not_true_eq_false] <;> omega); done))) | refine ⟨Or.inl rfl, ?_⟩ | refine ⟨Or.inr rfl, ?_⟩ | (refine ⟨?_, ?_⟩; (focus (exact in_nI (by omega) (by omega)))))
      exact ⟨rfl, rfl, 2, 3, 4, 6, 40, S.rz, Or.inl ⟨rfl, rfl, rfl, rfl, rfl⟩, rfl, fun r hr => ⟨hC.rz r hr, hC.ok.rz r hr⟩, hQ⟩
    · repeat (first | (refine xbr_f ?_ ?_; (focus ((simp (disch := omega) only [ix_lt, ix_le, ix_eq, ix_0, nI_clamp, nI_toInt, ng_T, nI_add, nI_mul, nI_sub', Int.neg_zero, not_false_eq_true, not_true_eq_false] <;> omega); done))) | (refine xbr_t ?_ ?_; (focus ((simp (disch := omega) only [ix_lt, ix_le, ix_eq, ix_0, nI_clamp, nI_toInt, ng_T, nI_add, nI_mul, nI_sub', Int.neg_zero, not_false_eq_true, not_true_eq_false] <;> omega); done))) | refine ⟨Or.inl rfl, ?_⟩ | refine ⟨Or.inr rfl, ?_⟩ | (refine ⟨?_, ?_⟩; (focus (exact in_nI (by omega) (by omega)))))
      exact ⟨rfl, rfl, 5, 6, 7, 4, 60, S.tz, Or.inr ⟨rfl, rfl, rfl, rfl, rfl⟩, rfl, fun r hr => ⟨hC.tz r hr, hC.ok.tz r hr⟩, hQ⟩
    · repeat (first | (refine xbr_f ?_ ?_; (focus ((simp (disch := omega) only [ix_lt, ix_le, ix_eq, ix_0, nI_clamp, nI_toInt, ng_T, nI_add, nI_mul, nI_sub', Int.neg_zero, not_false_eq_true, not_true_eq_false] <;> omega); done))) | (refine xbr_t ?_ ?_; (focus ((simp (disch := omega) only [ix_lt, ix_le, ix_eq, ix_0, nI_clamp, nI_toInt, ng_T, nI_add, nI_mul, nI_sub', Int.neg_zero, not_false_eq_true, not_true_eq_false] <;> omega); done))) | refine ⟨Or.inl rfl, ?_⟩ | refine ⟨Or.inr rfl, ?_⟩ | (refine ⟨?_, ?_⟩; (focus (exact in_nI (by omega) (by omega)))))
      exact ⟨rfl, rfl, S, rfl, hC, hQ⟩
def csX10_asked : xCs := []
theorem okX10_asked : xOkM mX10_asked csX10_asked := ⟨dX10_asked, by decide +kernel, by decide +kernel, ⟨wdX10_324, trivial⟩⟩
theorem hhX10_asked : ∀ q ∈ csX10_asked, xHd q.1 := xall0
theorem kkX10_asked : ∀ q ∈ csX10_asked, ∀ l, xCon l q.1 q.2 := xall0
def sX10_asked : xSpec := xReg fun as I L Q => ∃ (S : ST), as = [.ref 1] ∧ Cls S I L ∧ Q (some (.int S.to)) I L
set_option maxRecDepth 100000 in
theorem kX10_asked : ∀ l, xCon l mX10_asked sX10_asked := by
  refine xcon_of okX10_asked hX10_asked rfl hhX10_asked kkX10_asked ?_
  rintro as n0 I L P Q ⟨hn9, rfl, S, rfl, hC, hQ⟩
  obtain ⟨e9, rfl⟩ := xe9 hn9
  refine ⟨Nat.le_of_ble_eq_true rfl, ?_⟩
  refine xrun okX10_asked hhX10_asked [] 60 ?_
  rw [← hC.to] at hQ
  exact hQ
def csX10_upper : xCs := []
theorem okX10_upper : xOkM mX10_upper csX10_upper := ⟨dX10_upper, by decide +kernel, by decide +kernel, ⟨wdX10_63, wdX10_327, trivial⟩⟩
theorem hhX10_upper : ∀ q ∈ csX10_upper, xHd q.1 := xall0
theorem kkX10_upper : ∀ q ∈ csX10_upper, ∀ l, xCon l q.1 q.2 := xall0
def sX10_upper : xSpec := xReg fun as I L Q => ∃ (S : ST), as = [.ref 1] ∧ Cls S I L ∧ Q (some (.long S.ov)) I L
set_option maxRecDepth 100000 in
theorem kX10_upper : ∀ l, xCon l mX10_upper sX10_upper := by
  refine xcon_of okX10_upper hX10_upper rfl hhX10_upper kkX10_upper ?_
  rintro as n0 I L P Q ⟨hn9, rfl, S, rfl, hC, hQ⟩
  obtain ⟨e9, rfl⟩ := xe9 hn9
  refine ⟨Nat.le_of_ble_eq_true rfl, ?_⟩
  refine xrun okX10_upper hhX10_upper [] 60 ?_
  rw [← hC.ov] at hQ
  exact hQ
def csX10_lower : xCs := []
theorem okX10_lower : xOkM mX10_lower csX10_lower := ⟨dX10_lower, by decide +kernel, by decide +kernel, ⟨wdX10_63, wdX10_330, trivial⟩⟩
theorem hhX10_lower : ∀ q ∈ csX10_lower, xHd q.1 := xall0
theorem kkX10_lower : ∀ q ∈ csX10_lower, ∀ l, xCon l q.1 q.2 := xall0
def sX10_lower : xSpec := xReg fun as I L Q => ∃ (S : ST), as = [.ref 1] ∧ Cls S I L ∧ Q (some (.long S.un)) I L
set_option maxRecDepth 100000 in
theorem kX10_lower : ∀ l, xCon l mX10_lower sX10_lower := by
  refine xcon_of okX10_lower hX10_lower rfl hhX10_lower kkX10_lower ?_
  rintro as n0 I L P Q ⟨hn9, rfl, S, rfl, hC, hQ⟩
  obtain ⟨e9, rfl⟩ := xe9 hn9
  refine ⟨Nat.le_of_ble_eq_true rfl, ?_⟩
  refine xrun okX10_lower hhX10_lower [] 60 ?_
  rw [← hC.un] at hQ
  exact hQ
def fdgR (S : ST) (f o : Int32) : Prop := (¬ (1 ≤ f.toInt ∧ f.toInt < 6) ∧ o = -(nI 1)) ∨ (∃ k, f = nI k ∧ 0 < k ∧ k < 6 ∧ o = S.fc k)
def fdN (h : Int64) (f : Nat → Int32) : Nat → Int64
  | 0 => h
  | n + 1 => lN 31 * fdN h f n + (f n).toInt64
def fd2 (h : Int64) (g : Nat → Nat → Int32) (m : Nat) : Nat → Int64
  | 0 => h
  | i + 1 => fdN (fd2 h g m i) (g i) m
def dg1 (S : ST) : Int64 := fdN (lN 17) (cntI S) 11
def dg2 (S : ST) : Int64 := fd2 (dg1 S) (oaI S.d S.D.X) 4 S.d.nA
def dg3 (S : ST) : Int64 := fd2 (dg2 S) (olI S.d S.D.X) 5 S.d.nL
def dg4 (S : ST) : Int64 := fdN (dg3 S) (fun k => szI (S.kp k).z) 3
def dgL (S : ST) : Int64 := mxS S.tv S.tz 60 (mxS S.rv S.rz 40 (dg4 S) 6) 4
def lotS (S : ST) (x : Nat) : ST := if x / 8 % 4 = 0 then smS S (x % S.d.nL) (x / 64 % 4) else if x / 8 % 4 = 1 then ldS S (x % S.d.nA) (x / 64 % 5) else dyS S
def xkN (x : Nat) : Nat → Nat
  | 0 => x
  | k + 1 => xkN x k * 48271 % 2147483647
def ltN (S : ST) (x : Nat) : Nat → ST
  | 0 => S
  | k + 1 => lotS (ltN S x k) (xkN x (k + 1))
theorem lotS_dz (S : ST) (x : Nat) : (lotS S x).d = S.d ∧ (lotS S x).D.z = S.D.z + 1 := by
  unfold lotS
  split
  · exact ⟨rfl, rfl⟩
  · split
    · exact ⟨rfl, rfl⟩
    · exact ⟨rfl, rfl⟩
theorem ltN_dz (S : ST) (x : Nat) : ∀ k, (ltN S x k).d = S.d ∧ (ltN S x k).D.z = S.D.z + k
  | 0 => ⟨rfl, rfl⟩
  | k + 1 => by
    obtain ⟨h1, h2⟩ := ltN_dz S x k
    obtain ⟨h3, h4⟩ := lotS_dz (ltN S x k) (xkN x (k + 1))
    exact ⟨h3.trans h1, by show (lotS (ltN S x k) (xkN x (k + 1))).D.z = _; rw [h4, h2]; omega⟩
theorem xkN_lt {x : Nat} (h : x < 2147483647) : ∀ k, xkN x k < 2147483647
  | 0 => h
  | _ + 1 => Nat.mod_lt _ (by decide)
theorem lr_64 {x b : Nat} (hx : x < 2 ^ 31) (h0 : 0 < b) (hb : b < 2 ^ 31) : (lN x / lN 64 - lN x / lN 64 / lN b * lN b).toInt32 = nI (x / 64 % b) := by
  rw [pk_lDiv (by omega) (by decide) (by decide), pk_lRem (by omega) h0 (by omega), lN_i]
theorem lr_8 {x : Nat} (hx : x < 2 ^ 31) : lN x / lN 8 - lN x / lN 8 / lN 4 * lN 4 = lN (x / 8 % 4) := by
  rw [pk_lDiv (by omega) (by decide) (by decide), pk_lRem (by omega) (by decide) (by decide)]
theorem lr_n {x n : Nat} (hx : x < 2 ^ 31) (h0 : 0 < n) (hn : n < 2 ^ 31) : (lN x - lN x / (nI n).toInt64 * (nI n).toInt64).toInt32 = nI (x % n) := by
  rw [nI_l hn, pk_lRem (by omega) h0 (by omega), lN_i]
theorem ln_0 {n : Nat} (h0 : 0 < n) (hn : n < 2 ^ 31) : ¬ (nI n).toInt64 = 0 := by
  rw [nI_l hn, show (0 : Int64) = lN 0 from rfl, pk_lEQ (by omega) (by omega)]
  omega
def csX10_doByLot : xCs := [(mX10_doSmear, sX10_doSmear), (mX10_doLead, sX10_doLead), (mX10_doDay, sX10_doDay)]
theorem okX10_doByLot : xOkM mX10_doByLot csX10_doByLot := ⟨dX10_doByLot, by decide +kernel, by decide +kernel, ⟨wdX10_31, wdX10_195, wdX10_31, wdX10_144, wdX10_399, wdX10_401, wdX10_31, wdX10_144, wdX10_403, wdX10_401, wdX10_205, wdX10_31, wdX10_195, wdX10_403, wdX10_405, wdX10_214, wdX10_201, trivial⟩⟩
theorem hhX10_doByLot : ∀ q ∈ csX10_doByLot, xHd q.1 := xall1 hX10_doSmear (xall1 hX10_doLead (xall1 hX10_doDay (xall0)))
theorem kkX10_doByLot : ∀ q ∈ csX10_doByLot, ∀ l, xCon l q.1 q.2 := xall1 kX10_doSmear (xall1 kX10_doLead (xall1 kX10_doDay (xall0)))
def sX10_doByLot : xSpec := xReg fun as I L Q => ∃ (S : ST) (x : Nat), as = [.ref 1, .long (lN x)] ∧ x < 2 ^ 31 ∧ 0 < S.d.nA ∧ 0 < S.d.nL ∧ S.D.z - 1 < 40 ∧ Cls S I L ∧ (∀ I' L', frC I L I' L' → Cls (lotS S x) I' L' → Q none I' L')
set_option maxRecDepth 100000 in
theorem kX10_doByLot : ∀ l, xCon l mX10_doByLot sX10_doByLot := by
  refine xcon_of okX10_doByLot hX10_doByLot rfl hhX10_doByLot kkX10_doByLot ?_
  rintro as n0 I L P Q ⟨hn9, rfl, S, x, rfl, hx, ha, hl, hz, hC, hQ⟩
  obtain ⟨e9, rfl⟩ := xe9 hn9
  refine ⟨Nat.le_of_ble_eq_true rfl, ?_⟩
  have hA := hC.pl.a
  have hL := hC.pl.l
  have h4 := hC.ok.d.a4
  have h5 := hC.ok.d.l5
  refine xrun okX10_doByLot hhX10_doByLot [] 80 ?_
  repeat (first | (refine xbr_f ?_ ?_; (focus ((simp (disch := omega) only [ix_lt, ix_le, ix_eq, ix_0, nI_clamp, nI_toInt, ng_T, nI_add, nI_mul, nI_sub', Int.neg_zero, not_false_eq_true, not_true_eq_false, hA, hL] <;> omega); done))) | (refine xbr_t ?_ ?_; (focus ((simp (disch := omega) only [ix_lt, ix_le, ix_eq, ix_0, nI_clamp, nI_toInt, ng_T, nI_add, nI_mul, nI_sub', Int.neg_zero, not_false_eq_true, not_true_eq_false, hA, hL] <;> omega); done))) | refine ⟨Or.inl rfl, ?_⟩ | refine ⟨Or.inr rfl, ?_⟩ | (refine ⟨?_, ?_⟩; (focus ((try simp (disch := omega) only [hA, hL, nI_mul, nI_add, nI_sub']); exact in_nI (by omega) (by omega)))))
  refine ⟨by decide, by decide, ?_⟩
  rw [lr_8 hx]
  by_cases h0 : x / 8 % 4 = 0
  · have e : lotS S x = smS S (x % S.d.nL) (x / 64 % 4) := if_pos h0
    rw [e] at hQ
    rw [h0]
    (first | refine xbr_t (by decide) ?_ | refine xbr_f (by decide) ?_)
    refine ⟨by rw [hL]; exact ln_0 hl (by omega), by decide, by decide, ?_⟩
    refine ⟨rfl, rfl, S, x % S.d.nL, x / 64 % 4, ?_, by have := Nat.mod_lt x hl; omega, Nat.mod_lt _ (by decide), hz, hC, ?_⟩
    · rw [hL, lr_n hx hl (by omega), lr_64 hx (by decide) (by decide)]
    · exact hQ
  · by_cases h1 : x / 8 % 4 = 1
    · have e : lotS S x = ldS S (x % S.d.nA) (x / 64 % 5) := (if_neg h0).trans (if_pos h1)
      rw [e] at hQ
      rw [h1]
      (first | refine xbr_t (by decide) ?_ | refine xbr_f (by decide) ?_)
      (first | refine xbr_t (by decide) ?_ | refine xbr_f (by decide) ?_)
      refine ⟨by rw [hA]; exact ln_0 ha (by omega), by decide, by decide, ?_⟩
      refine ⟨rfl, rfl, S, x % S.d.nA, x / 64 % 5, ?_, by have := Nat.mod_lt x ha; omega, Nat.mod_lt _ (by decide), hz, hC, ?_⟩
      · rw [hA, lr_n hx ha (by omega), lr_64 hx (by decide) (by decide)]
      · exact hQ
    · have e : lotS S x = dyS S := (if_neg h0).trans (if_neg h1)
      rw [e] at hQ
      repeat (first | (refine xbr_f ?_ ?_; (focus ((simp (disch := omega) only [ix_lt, ix_le, ix_eq, ix_0, nI_clamp, nI_toInt, ng_T, nI_add, nI_mul, nI_sub', Int.neg_zero, not_false_eq_true, not_true_eq_false, lN_i] <;> omega); done))) | (refine xbr_t ?_ ?_; (focus ((simp (disch := omega) only [ix_lt, ix_le, ix_eq, ix_0, nI_clamp, nI_toInt, ng_T, nI_add, nI_mul, nI_sub', Int.neg_zero, not_false_eq_true, not_true_eq_false, lN_i] <;> omega); done))) | refine ⟨Or.inl rfl, ?_⟩ | refine ⟨Or.inr rfl, ?_⟩ | (refine ⟨?_, ?_⟩; (focus ((try simp (disch := omega) only [lN_i, nI_mul, nI_add, nI_sub']); exact in_nI (by omega) (by omega)))))
      refine ⟨rfl, rfl, S, rfl, hz, hC, ?_⟩
      exact hQ
def lotsR (S : ST) (n s o : Int32) (S' : ST) : Prop := (¬ (1 ≤ n.toInt ∧ n.toInt ≤ 20 ∧ 1 ≤ s.toInt ∧ s.toInt < 2147483647) ∧ o = -(nI 1) ∧ S' = S) ∨ (∃ m x, n = nI m ∧ 1 ≤ m ∧ m ≤ 20 ∧ s = nI x ∧ 1 ≤ x ∧ x < 2147483647 ∧ ((S.d.nA = 0 ∧ o = -(nI 4) ∧ S' = S) ∨ (0 < S.d.nA ∧ 41 < S.D.z + m ∧ o = -(nI 2) ∧ S' = S) ∨ (0 < S.d.nA ∧ S.D.z + m ≤ 41 ∧ o = nI (pcf 32 (bsN (hmB (ltN S x m).d (ltN S x m).D.X) (ltN S x m).d.nL)) ∧ S' = ltN S x m)))
def csX10_lots : xCs := [(mX1_hasRoomFor, sX1_hasRoomFor), (mX10_doByLot, sX10_doByLot), (mX5_atHomes, sX5_atHomes), (mJ6_bitCount_0f7a4, sJ6_bitCount_0f7a4)]
theorem okX10_lots : xOkM mX10_lots csX10_lots := ⟨dX10_lots, by decide +kernel, by decide +kernel, ⟨wdX10_313, wdX10_31, wdX10_195, wdX10_38, wdX10_198, wdX10_315, wdX10_313, wdX10_317, wdX10_31, wdX10_38, wdX10_169, wdX10_320, wdX10_178, trivial⟩⟩
theorem hhX10_lots : ∀ q ∈ csX10_lots, xHd q.1 := xall1 hX1_hasRoomFor (xall1 hX10_doByLot (xall1 hX5_atHomes (xall1 hJ6_bitCount_0f7a4 (xall0))))
theorem kkX10_lots : ∀ q ∈ csX10_lots, ∀ l, xCon l q.1 q.2 := xall1 kX1_hasRoomFor (xall1 kX10_doByLot (xall1 kX5_atHomes (xall1 kJ6_bitCount_0f7a4 (xall0))))
def sX10_lots : xSpec := xReg fun as I L Q => ∃ (S : ST) (n s : Int32), as = [.ref 1, .int n, .int s] ∧ Cls S I L ∧ (∀ o S' I' L', lotsR S n s o S' → frC I L I' L' → Cls S' I' L' → Q (some (.int o)) I' L')
theorem nn_of {s : Int32} (h : 0 ≤ s.toInt) : ∃ x, x < 2 ^ 31 ∧ s = nI x := ⟨s.toInt.toNat, by have := Int32.toInt_lt s; omega, by
  have := Int32.toInt_lt s
  rw [ix_eq, nI_toInt (by omega)]
  omega⟩
theorem lot_lt {s : Nat} (hs : s < 2 ^ 31) : lg_cmp (nI s).toInt64 (lN 2147483647) < 0 ↔ s < 2147483647 := by
  rw [nI_l hs, lg_cmp_lt, pk_lLT (by omega) (by decide)]
set_option maxRecDepth 100000 in
theorem kX10_lots : ∀ l, xCon l mX10_lots sX10_lots := by
  refine xcon_of okX10_lots hX10_lots rfl hhX10_lots kkX10_lots ?_
  rintro as n0 I L P Q ⟨hn9, rfl, S, n, s, rfl, hC, hQ⟩
  obtain ⟨e9, rfl⟩ := xe9 hn9
  refine ⟨Nat.le_of_ble_eq_true rfl, ?_⟩
  have hA := hC.pl.a
  have h4 := hC.ok.d.a4
  have hz := hC.ok.D.1
  have h0 := hC.ok.z
  refine xrun okX10_lots hhX10_lots [(60, [true, true, true, true, false, true])] 60 ?_
  by_cases hn : 1 ≤ n.toInt ∧ n.toInt ≤ 20
  · obtain ⟨m, hm, rfl⟩ := ibB_t (x := n) (n := 21) (decide_eq_true ⟨by omega, by omega⟩) (by decide)
    have hm1 : 1 ≤ m := by
      have := hn.1
      rw [nI_toInt (by omega)] at this
      omega
    by_cases hs : 1 ≤ s.toInt
    · obtain ⟨x, hx, rfl⟩ := nn_of (s := s) (by omega)
      have hx1 : 1 ≤ x := by
        rw [nI_toInt hx] at hs
        omega
      have e := lot_lt hx
      repeat (first | (refine xbr_f ?_ ?_; (focus ((simp (disch := omega) only [ix_lt, ix_le, ix_eq, ix_0, nI_clamp, nI_toInt, ng_T, nI_add, nI_mul, nI_sub', Int.neg_zero, not_false_eq_true, not_true_eq_false] <;> omega); done))) | (refine xbr_t ?_ ?_; (focus ((simp (disch := omega) only [ix_lt, ix_le, ix_eq, ix_0, nI_clamp, nI_toInt, ng_T, nI_add, nI_mul, nI_sub', Int.neg_zero, not_false_eq_true, not_true_eq_false] <;> omega); done))) | refine ⟨Or.inl rfl, ?_⟩ | refine ⟨Or.inr rfl, ?_⟩ | (refine ⟨?_, ?_⟩; (focus (exact in_nI (by omega) (by omega)))))
      by_cases hx2 : x < 2147483647
      · have e2 := e.mpr hx2
        have hQ := fun o S' I' L' h => hQ o S' I' L' (Or.inr ⟨m, x, rfl, hm1, by omega, rfl, hx1, hx2, h⟩)
        (first | refine xbr_t e2 ?_ | refine xbr_f e2 ?_)
        by_cases hA0 : S.d.nA = 0
        · rw [hA0] at hA
          (first | (refine xbr_f ?_ ?_; (focus ((simp (disch := omega) only [ix_lt, ix_le, ix_eq, ix_0, nI_clamp, nI_toInt, ng_T, nI_add, nI_mul, nI_sub', Int.neg_zero, not_false_eq_true, not_true_eq_false, hA] <;> omega); done))) | (refine xbr_t ?_ ?_; (focus ((simp (disch := omega) only [ix_lt, ix_le, ix_eq, ix_0, nI_clamp, nI_toInt, ng_T, nI_add, nI_mul, nI_sub', Int.neg_zero, not_false_eq_true, not_true_eq_false, hA] <;> omega); done))) | refine ⟨Or.inl rfl, ?_⟩ | refine ⟨Or.inr rfl, ?_⟩ | (refine ⟨?_, ?_⟩; (focus ((try simp (disch := omega) only [hA, nI_mul, nI_add, nI_sub']); exact in_nI (by omega) (by omega)))))
          exact hQ _ _ _ _ (Or.inl ⟨hA0, rfl, rfl⟩) (frC_0 _ _) hC
        · (first | (refine xbr_f ?_ ?_; (focus ((simp (disch := omega) only [ix_lt, ix_le, ix_eq, ix_0, nI_clamp, nI_toInt, ng_T, nI_add, nI_mul, nI_sub', Int.neg_zero, not_false_eq_true, not_true_eq_false, hA] <;> omega); done))) | (refine xbr_t ?_ ?_; (focus ((simp (disch := omega) only [ix_lt, ix_le, ix_eq, ix_0, nI_clamp, nI_toInt, ng_T, nI_add, nI_mul, nI_sub', Int.neg_zero, not_false_eq_true, not_true_eq_false, hA] <;> omega); done))) | refine ⟨Or.inl rfl, ?_⟩ | refine ⟨Or.inr rfl, ?_⟩ | (refine ⟨?_, ?_⟩; (focus ((try simp (disch := omega) only [hA, nI_mul, nI_add, nI_sub']); exact in_nI (by omega) (by omega)))))
          have hL0 : 0 < S.d.nL := by
            have := hC.ok.nl
            omega
          refine ⟨rfl, rfl, S.D.z - 1, m, rfl, hC.sz, by omega, by omega, ?_⟩
          by_cases h41 : S.D.z + m ≤ 41
          · rw [decide_eq_true (by omega)]
            (first | refine xbr_t (by decide) ?_ | refine xbr_f (by decide) ?_)
            refine xgo_eq (xlpW (M := mX10_lots) (cs := csX10_lots) (pc := 60) m (fun k => [some (.ref 1), some (.int (nI m)), some (.int (nI x)), some (.long (lN (xkN x k))), none, some (.int (nI k))]) (fun k I' L' => Cls (ltN S x k) I' L' ∧ frC I L I' L') ?_ ?_ ⟨hC, frC_0 _ _⟩) ?_ rfl rfl
            · rintro k hk I2 L2 ⟨hC2, hf2⟩ ih
              refine xrun okX10_lots hhX10_lots [(60, [true, true, true, true, false, true])] 60 ?_
              (first | (refine xbr_f ?_ ?_; (focus ((simp (disch := omega) only [ix_lt, ix_le, ix_eq, ix_0, nI_clamp, nI_toInt, ng_T, nI_add, nI_mul, nI_sub', Int.neg_zero, not_false_eq_true, not_true_eq_false] <;> omega); done))) | (refine xbr_t ?_ ?_; (focus ((simp (disch := omega) only [ix_lt, ix_le, ix_eq, ix_0, nI_clamp, nI_toInt, ng_T, nI_add, nI_mul, nI_sub', Int.neg_zero, not_false_eq_true, not_true_eq_false] <;> omega); done))) | refine ⟨Or.inl rfl, ?_⟩ | refine ⟨Or.inr rfl, ?_⟩ | (refine ⟨?_, ?_⟩; (focus (exact in_nI (by omega) (by omega)))))
              refine ⟨by decide, ?_⟩
              have hl := xkN_lt hx2 k
              have hl2 := xkN_lt hx2 (k + 1)
              have e3 : lN (xkN x k) * lN 48271 - lN (xkN x k) * lN 48271 / lN 2147483647 * lN 2147483647 = lN (xkN x (k + 1)) := by
                rw [lN_mul, pk_lRem (by omega) (by decide) (by decide)]
                rfl
              rw [e3]
              obtain ⟨d1, d2⟩ := ltN_dz S x k
              refine ⟨rfl, rfl, ltN S x k, xkN x (k + 1), rfl, by omega, by rw [d1]; omega, by rw [d1]; exact hL0, by rw [d2]; omega, hC2, fun I' L' hf hC' => ?_⟩
              refine xgo_eq (ih _ _ ⟨hC', frC_t hf2 hf⟩) ?_ rfl rfl
              ((repeat' (first | (with_reducible rfl) | exact xv_nil | refine xv_cons ?_ ?_ | refine xv_i ?_ | refine xv_l ?_)) <;> (simp (disch := omega) only [↓reduceIte, Bool.false_eq_true, Nat.one_mul, Nat.zero_mul, Nat.or_zero, Nat.add_zero, Nat.zero_add, Bool.toNat_true, Bool.toNat_false, shl_n, shr_n, fa_and, fa_or, nx_xor, nI_add, nI_mul, nI_sub', and_1, and_7, and_3', and_15]))
            · rintro I2 L2 ⟨hC2, hf2⟩
              refine xrun okX10_lots hhX10_lots [] 60 ?_
              repeat (first | (refine xbr_f ?_ ?_; (focus ((simp (disch := omega) only [ix_lt, ix_le, ix_eq, ix_0, nI_clamp, nI_toInt, ng_T, nI_add, nI_mul, nI_sub', Int.neg_zero, not_false_eq_true, not_true_eq_false] <;> omega); done))) | (refine xbr_t ?_ ?_; (focus ((simp (disch := omega) only [ix_lt, ix_le, ix_eq, ix_0, nI_clamp, nI_toInt, ng_T, nI_add, nI_mul, nI_sub', Int.neg_zero, not_false_eq_true, not_true_eq_false] <;> omega); done))) | refine ⟨Or.inl rfl, ?_⟩ | refine ⟨Or.inr rfl, ?_⟩ | (refine ⟨?_, ?_⟩; (focus (exact in_nI (by omega) (by omega)))))
              have hlt := bsN_lt (hmB (ltN S x m).d (ltN S x m).D.X) (ltN S x m).d.nL
              have h32 := p2_32 hC2.ok.d.l5
              refine ⟨rfl, rfl, (ltN S x m).d, (ltN S x m).D.X, hC2.pl, by rw [hC2.X], hC2.ok.X.1, ?_⟩
              refine ⟨rfl, rfl, _, rfl, by omega, ?_⟩
              exact hQ _ _ _ _ (Or.inr (Or.inr ⟨by omega, h41, rfl, rfl⟩)) hf2 hC2
            · rw [nI_l hx]
              rfl
          · rw [decide_eq_false (by omega)]
            (first | refine xbr_t (by decide) ?_ | refine xbr_f (by decide) ?_)
            exact hQ _ _ _ _ (Or.inr (Or.inl ⟨by omega, by omega, rfl, rfl⟩)) (frC_0 _ _) hC
      · have e2 : ¬ lg_cmp (nI x).toInt64 (lN 2147483647) < 0 := fun q => hx2 (e.mp q)
        (first | refine xbr_t e2 ?_ | refine xbr_f e2 ?_)
        exact hQ _ _ _ _ (Or.inl ⟨fun q => by
          have := q.2.2.2
          rw [nI_toInt hx] at this
          omega, rfl, rfl⟩) (frC_0 _ _) hC
    · have done := hQ _ _ _ _ (Or.inl ⟨fun q => hs q.2.2.1, rfl, rfl⟩) (frC_0 _ _) hC
      repeat (first | (refine xbr_f ?_ ?_; (focus ((simp (disch := omega) only [ix_lt, ix_le, ix_eq, ix_0, nI_clamp, nI_toInt, ng_T, nI_add, nI_mul, nI_sub', Int.neg_zero, not_false_eq_true, not_true_eq_false] <;> omega); done))) | (refine xbr_t ?_ ?_; (focus ((simp (disch := omega) only [ix_lt, ix_le, ix_eq, ix_0, nI_clamp, nI_toInt, ng_T, nI_add, nI_mul, nI_sub', Int.neg_zero, not_false_eq_true, not_true_eq_false] <;> omega); done))) | refine ⟨Or.inl rfl, ?_⟩ | refine ⟨Or.inr rfl, ?_⟩ | (refine ⟨?_, ?_⟩; (focus (exact in_nI (by omega) (by omega)))))
      exact done
  · have done := hQ _ _ _ _ (Or.inl ⟨fun q => hn ⟨q.1, q.2.1⟩, rfl, rfl⟩) (frC_0 _ _) hC
    by_cases h1 : n.toInt < 1
    · repeat (first | (refine xbr_f ?_ ?_; (focus ((simp (disch := omega) only [ix_lt, ix_le, ix_eq, ix_0, nI_clamp, nI_toInt, ng_T, nI_add, nI_mul, nI_sub', Int.neg_zero, not_false_eq_true, not_true_eq_false] <;> omega); done))) | (refine xbr_t ?_ ?_; (focus ((simp (disch := omega) only [ix_lt, ix_le, ix_eq, ix_0, nI_clamp, nI_toInt, ng_T, nI_add, nI_mul, nI_sub', Int.neg_zero, not_false_eq_true, not_true_eq_false] <;> omega); done))) | refine ⟨Or.inl rfl, ?_⟩ | refine ⟨Or.inr rfl, ?_⟩ | (refine ⟨?_, ?_⟩; (focus (exact in_nI (by omega) (by omega)))))
      exact done
    · repeat (first | (refine xbr_f ?_ ?_; (focus ((simp (disch := omega) only [ix_lt, ix_le, ix_eq, ix_0, nI_clamp, nI_toInt, ng_T, nI_add, nI_mul, nI_sub', Int.neg_zero, not_false_eq_true, not_true_eq_false] <;> omega); done))) | (refine xbr_t ?_ ?_; (focus ((simp (disch := omega) only [ix_lt, ix_le, ix_eq, ix_0, nI_clamp, nI_toInt, ng_T, nI_add, nI_mul, nI_sub', Int.neg_zero, not_false_eq_true, not_true_eq_false] <;> omega); done))) | refine ⟨Or.inl rfl, ?_⟩ | refine ⟨Or.inr rfl, ?_⟩ | (refine ⟨?_, ?_⟩; (focus (exact in_nI (by omega) (by omega)))))
      exact done
