theorem xfl_0 {α : Type} (J : Nat → Nat → α) (d : Nat) (f : Nat → α) : xrw J d (fa_fill f (J d) 0) = J := by
  rw [fa_fill_0, xrw_self]
theorem xfl_s {α : Type} (J : Nat → Nat → α) (d : Nat) (f g : Nat → α) (i : Nat) {v : α} (hv : v = f i) : xup (xrw J d (fa_fill f g i)) d i v = xrw J d (fa_fill f g (i + 1)) := by
  subst hv
  funext k j
  rw [xup_at]
  by_cases hk : k = d
  · subst hk
    rw [xrw_s, xrw_s]
    unfold fa_fill
    by_cases hj : j = i
    · subst hj
      simp
    · rw [if_neg (by omega)]
      by_cases h2 : j < i
      · rw [if_pos h2, if_pos (by omega)]
      · rw [if_neg h2, if_neg (by omega)]
  · rw [if_neg (by omega), xrw_c _ _ _ hk, xrw_c _ _ _ hk]
def agB (d : PD) (X k : Nat) : Bool := decide (0 < k ∧ 0 < dsN (dyN d X) k)
theorem dsN_le (s : Nat → Nat) (k : Nat) : dsN s k ≤ k := ffN_le _ k
def csX2_firstAgain : xCs := [(mX2_daysSince, sX2_daysSince), (mX2_behindDays, sX2_behindDays)]
theorem okX2_firstAgain : xOkM mX2_firstAgain csX2_firstAgain := ⟨dX2_firstAgain, by decide +kernel, by decide +kernel, ⟨wdX2_9, wdX2_9, wdX2_41, wdX2_37, trivial⟩⟩
theorem hhX2_firstAgain : ∀ q ∈ csX2_firstAgain, xHd q.1 := xall1 hX2_daysSince (xall1 hX2_behindDays (xall0))
theorem kkX2_firstAgain : ∀ q ∈ csX2_firstAgain, ∀ l, xCon l q.1 q.2 := xall1 kX2_daysSince (xall1 kX2_behindDays (xall0))
def sX2_firstAgain : xSpec := xReg fun as I L Q => ∃ (d : PD) (X : Nat), xPl d I ∧ as = [.ref 15, .ref 11, .long (lN X)] ∧ X < 2 ^ 63 ∧
  (∀ k, k < 61 → ffN (agB d X) 61 = k + 1 → Q (some (.int (nI k))) I (xrw L 16 (fa_fill (fun j => lN (dyN d X j)) (L 16) (k + 1)))) ∧
  (ffN (agB d X) 61 = 0 → Q (some (.int (-(nI 9)))) I (xrw L 16 (fa_fill (fun j => lN (dyN d X j)) (L 16) 61)))
set_option maxRecDepth 100000 in
theorem kX2_firstAgain : ∀ l, xCon l mX2_firstAgain sX2_firstAgain := by
  refine xcon_of okX2_firstAgain hX2_firstAgain rfl hhX2_firstAgain kkX2_firstAgain ?_
  rintro as n0 I L P Q ⟨hn9, rfl, d, X, hP, rfl, hX, hQ1, hQ2⟩
  obtain ⟨e9, rfl⟩ := xe9 hn9
  refine ⟨Nat.le_of_ble_eq_true rfl, ?_⟩
  refine xrun okX2_firstAgain hhX2_firstAgain [(6, [true, true, true, false, true, false, true])] 40 ?_
  have loop : xGo mX2_firstAgain csX2_firstAgain 6 Q [some (.ref 15), some (.ref 11), some (.long (lN X)), none, some (.long (lN (dyN d X 0))), none, some (.int (nI 0))] [] 0 (e9 + 26) I (xrw L 16 (fa_fill (fun j => lN (dyN d X j)) (L 16) 0)) xP0 := by
    refine xlpI (M := mX2_firstAgain) (cs := csX2_firstAgain) (pc := 6) (fun a => ffN (agB d X) a = 0) 61 (fun a => [some (.ref 15), some (.ref 11), some (.long (lN X)), none, some (.long (lN (dyN d X a))), none, some (.int (nI a))]) (fun _ => I) (fun a => xrw L 16 (fa_fill (fun j => lN (dyN d X j)) (L 16) a)) ?_ ?_ rfl
    · intro a ha hI ih
      refine xrun okX2_firstAgain hhX2_firstAgain [(6, [true, true, true, false, true, false, true])] 60 ?_
      (first | (refine xbr_f ?_ ?_; (focus ((simp (disch := omega) only [ix_lt, ix_le, ix_eq, ix_0, nI_clamp, nI_toInt, ng_T, nI_add, nI_mul, nI_sub', Int.neg_zero, not_false_eq_true, not_true_eq_false] <;> omega); done))) | (refine xbr_t ?_ ?_; (focus ((simp (disch := omega) only [ix_lt, ix_le, ix_eq, ix_0, nI_clamp, nI_toInt, ng_T, nI_add, nI_mul, nI_sub', Int.neg_zero, not_false_eq_true, not_true_eq_false] <;> omega); done))) | refine ⟨Or.inl rfl, ?_⟩ | refine ⟨Or.inr rfl, ?_⟩ | (refine ⟨?_, ?_⟩; (focus (exact in_nI (by omega) (by omega)))))
      have e2 : (nI a).toNatClampNeg = a := nI_clamp (by omega)
      have hY := dyN_lt hP.ok hX a
      have ex := xfl_s L 16 (fun j => lN (dyN d X j)) (L 16) a (v := lN (dyN d X a)) rfl
      refine ⟨in_nI (by omega) (by omega), rfl, rfl, dyN d X, a, rfl, by omega, ?_, dyN_lt hP.ok hX, ?_⟩
      · intro j hj
        rw [e2, ex, xrw_s, fa_fill_in (by omega)]
      have hle := dsN_le (dyN d X) a
      rw [e2, ex]
      by_cases hb : dsN (dyN d X) a = 0
      · have e : agB d X a = false := decide_eq_false (fun q => by omega)
        (first | (refine xbr_f ?_ ?_; (focus ((simp (disch := omega) only [ix_lt, ix_le, ix_eq, ix_0, nI_clamp, nI_toInt, ng_T, nI_add, nI_mul, nI_sub', Int.neg_zero, not_false_eq_true, not_true_eq_false, hb] <;> omega); done))) | (refine xbr_t ?_ ?_; (focus ((simp (disch := omega) only [ix_lt, ix_le, ix_eq, ix_0, nI_clamp, nI_toInt, ng_T, nI_add, nI_mul, nI_sub', Int.neg_zero, not_false_eq_true, not_true_eq_false, hb] <;> omega); done))) | refine ⟨Or.inl rfl, ?_⟩ | refine ⟨Or.inr rfl, ?_⟩ | (refine ⟨?_, ?_⟩; (focus ((try simp (disch := omega) only [hb, nI_mul, nI_add, nI_sub']); exact in_nI (by omega) (by omega)))))
        refine ⟨rfl, rfl, d, dyN d X a, 1, hP, rfl, hY, by decide, ?_⟩
        refine xgo_eq (ih (ffN_miss hI e)) ?_ rfl rfl
        ((repeat' (first | (with_reducible rfl) | exact xv_nil | refine xv_cons ?_ ?_ | refine xv_i ?_ | refine xv_l ?_)) <;> (simp (disch := omega) only [↓reduceIte, Bool.false_eq_true, Nat.one_mul, Nat.zero_mul, Nat.or_zero, Nat.add_zero, Nat.zero_add, Bool.toNat_true, Bool.toNat_false, shl_n, shr_n, fa_and, fa_or, nx_xor, nI_add, nI_mul, nI_sub', and_1, and_7, and_3', and_15, dyN]))
      · have e : agB d X a = true := decide_eq_true ⟨by omega, by omega⟩
        (first | (refine xbr_f ?_ ?_; (focus ((simp (disch := omega) only [ix_lt, ix_le, ix_eq, ix_0, nI_clamp, nI_toInt, ng_T, nI_add, nI_mul, nI_sub', Int.neg_zero, not_false_eq_true, not_true_eq_false] <;> omega); done))) | (refine xbr_t ?_ ?_; (focus ((simp (disch := omega) only [ix_lt, ix_le, ix_eq, ix_0, nI_clamp, nI_toInt, ng_T, nI_add, nI_mul, nI_sub', Int.neg_zero, not_false_eq_true, not_true_eq_false] <;> omega); done))) | refine ⟨Or.inl rfl, ?_⟩ | refine ⟨Or.inr rfl, ?_⟩ | (refine ⟨?_, ?_⟩; (focus (exact in_nI (by omega) (by omega)))))
        exact hQ1 a (by omega) (ffN_hit hI e (by omega))
    · intro hI
      refine xrun okX2_firstAgain hhX2_firstAgain [] 60 ?_
      repeat (first | (refine xbr_f ?_ ?_; (focus ((simp (disch := omega) only [ix_lt, ix_le, ix_eq, ix_0, nI_clamp, nI_toInt, ng_T, nI_add, nI_mul, nI_sub', Int.neg_zero, not_false_eq_true, not_true_eq_false] <;> omega); done))) | (refine xbr_t ?_ ?_; (focus ((simp (disch := omega) only [ix_lt, ix_le, ix_eq, ix_0, nI_clamp, nI_toInt, ng_T, nI_add, nI_mul, nI_sub', Int.neg_zero, not_false_eq_true, not_true_eq_false] <;> omega); done))) | refine ⟨Or.inl rfl, ?_⟩ | refine ⟨Or.inr rfl, ?_⟩ | (refine ⟨?_, ?_⟩; (focus (exact in_nI (by omega) (by omega)))))
      exact hQ2 hI
  refine xgo_eq loop rfl rfl ?_
  exact (xfl_0 L 16 _).symm
/-- marks that bring home: which (and 1 more; 0 none), by how many changes -/
def mhN (d : PD) (X l n : Nat) : Nat → Nat × Nat
  | 0 => (0, 5)
  | m + 1 => if pcf 32 (m ^^^ mkN X l) < (mhN d X l n m).2 ∧ hmB d (dyN d (seMk X l m) n) l = true then (m + 1, pcf 32 (m ^^^ mkN X l)) else mhN d X l n m
theorem mhN_s (d : PD) (X l n m : Nat) : mhN d X l n (m + 1) = if pcf 32 (m ^^^ mkN X l) < (mhN d X l n m).2 ∧ hmB d (dyN d (seMk X l m) n) l = true then (m + 1, pcf 32 (m ^^^ mkN X l)) else mhN d X l n m := rfl
theorem mhN_le (d : PD) (X l n : Nat) : ∀ m, (mhN d X l n m).1 ≤ m ∧ (mhN d X l n m).2 ≤ 5
  | 0 => ⟨Nat.le_refl 0, Nat.le_refl 5⟩
  | m + 1 => by
    have h := mhN_le d X l n m
    rw [mhN_s]
    by_cases hc : pcf 32 (m ^^^ mkN X l) < (mhN d X l n m).2 ∧ hmB d (dyN d (seMk X l m) n) l = true
    · rw [if_pos hc]
      exact ⟨Nat.le_refl _, by show pcf 32 (m ^^^ mkN X l) ≤ 5; omega⟩
    · rw [if_neg hc]
      exact ⟨by omega, h.2⟩
def csX2_marksToHome : xCs := [(mX7_marksOf, sX7_marksOf), (mJ6_bitCount_0f7a4, sJ6_bitCount_0f7a4), (mX7_withMarks, sX7_withMarks), (mX2_behindDays, sX2_behindDays), (mX5_isHome, sX5_isHome)]
theorem okX2_marksToHome : xOkM mX2_marksToHome csX2_marksToHome := ⟨dX2_marksToHome, by decide +kernel, by decide +kernel, ⟨wdX2_45, wdX2_51, wdX2_56, wdX2_37, wdX2_60, trivial⟩⟩
theorem hhX2_marksToHome : ∀ q ∈ csX2_marksToHome, xHd q.1 := xall1 hX7_marksOf (xall1 hJ6_bitCount_0f7a4 (xall1 hX7_withMarks (xall1 hX2_behindDays (xall1 hX5_isHome (xall0)))))
theorem kkX2_marksToHome : ∀ q ∈ csX2_marksToHome, ∀ l, xCon l q.1 q.2 := xall1 kX7_marksOf (xall1 kJ6_bitCount_0f7a4 (xall1 kX7_withMarks (xall1 kX2_behindDays (xall1 kX5_isHome (xall0)))))
def sX2_marksToHome : xSpec := xReg fun as I L Q => ∃ (d : PD) (X l n : Nat), xPl d I ∧ as = [.ref 11, .long (lN X), .int (nI l), .int (nI n)] ∧ X < 2 ^ 63 ∧ l < 5 ∧ n ≤ 60 ∧ Q (some (.int (cI (mhN d X l n 16).1))) I L
set_option maxRecDepth 100000 in
theorem kX2_marksToHome : ∀ l, xCon l mX2_marksToHome sX2_marksToHome := by
  refine xcon_of okX2_marksToHome hX2_marksToHome rfl hhX2_marksToHome kkX2_marksToHome ?_
  rintro as n0 I L P Q ⟨hn9, rfl, d, X, l, n, hP, rfl, hX, hl, hn, hQ⟩
  obtain ⟨e9, rfl⟩ := xe9 hn9
  refine ⟨Nat.le_of_ble_eq_true rfl, ?_⟩
  refine xrun okX2_marksToHome hhX2_marksToHome [(17, [true, true, false, true, true, true, true, true, true, false, false, false])] 30 ?_
  refine ⟨rfl, rfl, X, l, rfl, by omega, hl, ?_⟩
  refine xlp (M := mX2_marksToHome) (cs := csX2_marksToHome) (pc := 17) 16 (fun m => [some (.ref 11), some (.long (lN X)), none, some (.int (nI l)), some (.int (nI n)), some (.int (nI (mkN X l))), some (.int (cI (mhN d X l n m).1)), some (.int (nI (mhN d X l n m).2)), some (.int (nI m)), none, none, none]) (fun _ => I) (fun _ => L) ?_ ?_
  · intro m hm ih
    refine xrun okX2_marksToHome hhX2_marksToHome [(17, [true, true, false, true, true, true, true, true, true, false, false, false])] 80 ?_
    (first | (refine xbr_f ?_ ?_; (focus ((simp (disch := omega) only [ix_lt, ix_le, ix_eq, ix_0, nI_clamp, nI_toInt, ng_T, nI_add, nI_mul, nI_sub', Int.neg_zero, not_false_eq_true, not_true_eq_false] <;> omega); done))) | (refine xbr_t ?_ ?_; (focus ((simp (disch := omega) only [ix_lt, ix_le, ix_eq, ix_0, nI_clamp, nI_toInt, ng_T, nI_add, nI_mul, nI_sub', Int.neg_zero, not_false_eq_true, not_true_eq_false] <;> omega); done))) | refine ⟨Or.inl rfl, ?_⟩ | refine ⟨Or.inr rfl, ?_⟩ | (refine ⟨?_, ?_⟩; (focus (exact in_nI (by omega) (by omega)))))
    have hs := mhN_s d X l n m
    have hx := xor_16 hm (mkN_16 X l)
    have h4 := pc_4 _ hx
    have h5 := (mhN_le d X l n m).2
    have hY := seMk_lt hX hl hm
    refine ⟨rfl, rfl, m ^^^ mkN X l, by rw [nx_xor], by omega, ?_⟩
    by_cases hc : pcf 32 (m ^^^ mkN X l) < (mhN d X l n m).2
    · (first | (refine xbr_f ?_ ?_; (focus ((simp (disch := omega) only [ix_lt, ix_le, ix_eq, ix_0, nI_clamp, nI_toInt, ng_T, nI_add, nI_mul, nI_sub', Int.neg_zero, not_false_eq_true, not_true_eq_false] <;> omega); done))) | (refine xbr_t ?_ ?_; (focus ((simp (disch := omega) only [ix_lt, ix_le, ix_eq, ix_0, nI_clamp, nI_toInt, ng_T, nI_add, nI_mul, nI_sub', Int.neg_zero, not_false_eq_true, not_true_eq_false] <;> omega); done))) | refine ⟨Or.inl rfl, ?_⟩ | refine ⟨Or.inr rfl, ?_⟩ | (refine ⟨?_, ?_⟩; (focus (exact in_nI (by omega) (by omega)))))
      refine ⟨rfl, rfl, X, l, m, rfl, by omega, hl, hm, rfl, rfl, d, seMk X l m, n, hP, rfl, hY, hn, rfl, rfl, d, dyN d (seMk X l m) n, l, hP, rfl, dyN_lt hP.ok hY n, hl, ?_⟩
      cases hb : hmB d (dyN d (seMk X l m) n) l
      · (first | refine xbr_t (by decide) ?_ | refine xbr_f (by decide) ?_)
        rw [if_neg (fun q => by rw [hb] at q; cases q.2)] at hs
        refine xgo_eq ih ?_ rfl rfl
        ((repeat' (first | (with_reducible rfl) | exact xv_nil | refine xv_cons ?_ ?_ | refine xv_i ?_ | refine xv_l ?_)) <;> (simp (disch := omega) only [↓reduceIte, Bool.false_eq_true, Nat.one_mul, Nat.zero_mul, Nat.or_zero, Nat.add_zero, Nat.zero_add, Bool.toNat_true, Bool.toNat_false, shl_n, shr_n, fa_and, fa_or, nx_xor, nI_add, nI_mul, nI_sub', and_1, and_7, and_3', and_15, hs]))
      · (first | refine xbr_t (by decide) ?_ | refine xbr_f (by decide) ?_)
        rw [if_pos ⟨hc, hb⟩] at hs
        refine xgo_eq ih ?_ rfl rfl
        ((repeat' (first | (with_reducible rfl) | exact xv_nil | refine xv_cons ?_ ?_ | refine xv_i ?_ | refine xv_l ?_)) <;> (simp (disch := omega) only [↓reduceIte, Bool.false_eq_true, Nat.one_mul, Nat.zero_mul, Nat.or_zero, Nat.add_zero, Nat.zero_add, Bool.toNat_true, Bool.toNat_false, shl_n, shr_n, fa_and, fa_or, nx_xor, nI_add, nI_mul, nI_sub', and_1, and_7, and_3', and_15, hs, cI_s]))
    · rw [if_neg (fun q => hc q.1)] at hs
      (first | (refine xbr_f ?_ ?_; (focus ((simp (disch := omega) only [ix_lt, ix_le, ix_eq, ix_0, nI_clamp, nI_toInt, ng_T, nI_add, nI_mul, nI_sub', Int.neg_zero, not_false_eq_true, not_true_eq_false] <;> omega); done))) | (refine xbr_t ?_ ?_; (focus ((simp (disch := omega) only [ix_lt, ix_le, ix_eq, ix_0, nI_clamp, nI_toInt, ng_T, nI_add, nI_mul, nI_sub', Int.neg_zero, not_false_eq_true, not_true_eq_false] <;> omega); done))) | refine ⟨Or.inl rfl, ?_⟩ | refine ⟨Or.inr rfl, ?_⟩ | (refine ⟨?_, ?_⟩; (focus (exact in_nI (by omega) (by omega)))))
      refine xgo_eq ih ?_ rfl rfl
      ((repeat' (first | (with_reducible rfl) | exact xv_nil | refine xv_cons ?_ ?_ | refine xv_i ?_ | refine xv_l ?_)) <;> (simp (disch := omega) only [↓reduceIte, Bool.false_eq_true, Nat.one_mul, Nat.zero_mul, Nat.or_zero, Nat.add_zero, Nat.zero_add, Bool.toNat_true, Bool.toNat_false, shl_n, shr_n, fa_and, fa_or, nx_xor, nI_add, nI_mul, nI_sub', and_1, and_7, and_3', and_15, hs]))
  · refine xrun okX2_marksToHome hhX2_marksToHome [] 60 ?_
    repeat (first | (refine xbr_f ?_ ?_; (focus ((simp (disch := omega) only [ix_lt, ix_le, ix_eq, ix_0, nI_clamp, nI_toInt, ng_T, nI_add, nI_mul, nI_sub', Int.neg_zero, not_false_eq_true, not_true_eq_false] <;> omega); done))) | (refine xbr_t ?_ ?_; (focus ((simp (disch := omega) only [ix_lt, ix_le, ix_eq, ix_0, nI_clamp, nI_toInt, ng_T, nI_add, nI_mul, nI_sub', Int.neg_zero, not_false_eq_true, not_true_eq_false] <;> omega); done))) | refine ⟨Or.inl rfl, ?_⟩ | refine ⟨Or.inr rfl, ?_⟩ | (refine ⟨?_, ?_⟩; (focus (exact in_nI (by omega) (by omega)))))
    exact hQ
