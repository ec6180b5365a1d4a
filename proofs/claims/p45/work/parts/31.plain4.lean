def csX5_takesOf : xCs := [(mX5_assInLine, sX5_assInLine), (mX5_choiceOf, sX5_choiceOf)]
theorem okX5_takesOf : xOkM mX5_takesOf csX5_takesOf := ⟨dX5_takesOf, by decide +kernel, by decide +kernel, ⟨wdX5_9, wdX5_85, wdX5_88, trivial⟩⟩
theorem hhX5_takesOf : ∀ q ∈ csX5_takesOf, xHd q.1 := xall1 hX5_assInLine (xall1 hX5_choiceOf (xall0))
theorem kkX5_takesOf : ∀ q ∈ csX5_takesOf, ∀ l, xCon l q.1 q.2 := xall1 kX5_assInLine (xall1 kX5_choiceOf (xall0))
def sX5_takesOf : xSpec := xReg fun as I L Q => ∃ (d : PD) (X o w : Nat), xPl d I ∧ as = [.ref 11, .long (lN X), .int (nI o), .int (nI w)] ∧ X < 2 ^ 63 ∧ o < 256 ∧ w < 2 ^ 31 ∧ Q (some (.int (nI (tkN d X o w d.nA).1))) I L
set_option maxRecDepth 100000 in
theorem kX5_takesOf : ∀ l, xCon l mX5_takesOf sX5_takesOf := by
  refine xcon_of okX5_takesOf hX5_takesOf rfl hhX5_takesOf kkX5_takesOf ?_
  rintro as n0 I L P Q ⟨hn9, rfl, d, X, o, w, hP, rfl, hX, ho, hw, hQ⟩
  obtain ⟨e9, rfl⟩ := xe9 hn9
  refine ⟨Nat.le_of_ble_eq_true rfl, ?_⟩
  refine xrun okX5_takesOf hhX5_takesOf [(9, [true, true, false, true, true, true, true, true, false, false])] 20 ?_
  have hl := hP.a
  have h5 := hP.ok.a4
  have hl5 := hP.ok.l5
  refine xlp (M := mX5_takesOf) (cs := csX5_takesOf) (pc := 9) d.nA (fun p => [some (.ref 11), some (.long (lN X)), none, some (.int (nI o)), some (.int (nI w)), some (.int (nI (tkN d X o w p).1)), some (.int (nI (tkN d X o w p).2)), some (.int (nI p)), none, none]) (fun _ => I) (fun _ => L) ?_ ?_
  · intro p hp ih
    refine xrun okX5_takesOf hhX5_takesOf [(9, [true, true, false, true, true, true, true, true, false, false]), (53, [true, true, false, true, true, true, true, true, true, true])] 90 ?_
    have hs := tkN_s d X o w p
    have hb := tkN_lt hP.ok X o w p
    have hi := orN_4 o p
    have h53 : ∀ c : Nat, c ≤ 5 → (tkN d X o w (p + 1) = if c = 0 then tkN d X o w p else ((tkN d X o w p).1 ||| c * 2 ^ (3 * orN o p), (tkN d X o w p).2 ||| 2 ^ (c - 1))) → xGo mX5_takesOf csX5_takesOf 53 Q [some (.ref 11), some (.long (lN X)), none, some (.int (nI o)), some (.int (nI w)), some (.int (nI (tkN d X o w p).1)), some (.int (nI (tkN d X o w p).2)), some (.int (nI p)), some (.int (nI (orN o p))), some (.int (cI c))] [] 0 (e9 + 26) I L xP0 := by
      intro c hc he
      refine xrun okX5_takesOf hhX5_takesOf [(9, [true, true, false, true, true, true, true, true, false, false])] 90 ?_
      rcases c with _ | c
      · rw [if_pos rfl] at he
        rw [cI_0]
        (first | (refine xbr_f ?_ ?_; (focus ((simp (disch := omega) only [ix_lt, ix_le, ix_eq, ix_0, nI_clamp, nI_toInt, ng_T, nI_add, nI_mul, nI_sub', Int.neg_zero, not_false_eq_true, not_true_eq_false] <;> omega); done))) | (refine xbr_t ?_ ?_; (focus ((simp (disch := omega) only [ix_lt, ix_le, ix_eq, ix_0, nI_clamp, nI_toInt, ng_T, nI_add, nI_mul, nI_sub', Int.neg_zero, not_false_eq_true, not_true_eq_false] <;> omega); done))) | refine ⟨Or.inl rfl, ?_⟩ | refine ⟨Or.inr rfl, ?_⟩ | (refine ⟨?_, ?_⟩; (focus (exact in_nI (by omega) (by omega)))))
        refine xgo_eq ih ?_ rfl rfl
        ((repeat' (first | (with_reducible rfl) | exact xv_nil | refine xv_cons ?_ ?_ | refine xv_i ?_ | refine xv_l ?_)) <;> (simp (disch := omega) only [↓reduceIte, Bool.false_eq_true, Nat.one_mul, Nat.zero_mul, Nat.or_zero, Nat.add_zero, Nat.zero_add, Bool.toNat_true, Bool.toNat_false, shl_n, shr_n, fa_and, fa_or, nx_xor, nI_add, nI_mul, nI_sub', and_1, and_7, and_3', and_15, he]))
      · rw [if_neg (by omega)] at he
        rw [cI_s]
        (first | (refine xbr_f ?_ ?_; (focus ((simp (disch := omega) only [ix_lt, ix_le, ix_eq, ix_0, nI_clamp, nI_toInt, ng_T, nI_add, nI_mul, nI_sub', Int.neg_zero, not_false_eq_true, not_true_eq_false] <;> omega); done))) | (refine xbr_t ?_ ?_; (focus ((simp (disch := omega) only [ix_lt, ix_le, ix_eq, ix_0, nI_clamp, nI_toInt, ng_T, nI_add, nI_mul, nI_sub', Int.neg_zero, not_false_eq_true, not_true_eq_false] <;> omega); done))) | refine ⟨Or.inl rfl, ?_⟩ | refine ⟨Or.inr rfl, ?_⟩ | (refine ⟨?_, ?_⟩; (focus (exact in_nI (by omega) (by omega)))))
        refine xgo_eq ih ?_ rfl rfl
        ((repeat' (first | (with_reducible rfl) | exact xv_nil | refine xv_cons ?_ ?_ | refine xv_i ?_ | refine xv_l ?_)) <;> (simp (disch := omega) only [↓reduceIte, Bool.false_eq_true, Nat.one_mul, Nat.zero_mul, Nat.or_zero, Nat.add_zero, Nat.zero_add, Bool.toNat_true, Bool.toNat_false, shl_n, shr_n, fa_and, fa_or, nx_xor, nI_add, nI_mul, nI_sub', and_1, and_7, and_3', and_15, he, Nat.add_sub_cancel]))
    (first | (refine xbr_f ?_ ?_; (focus ((simp (disch := omega) only [ix_lt, ix_le, ix_eq, ix_0, nI_clamp, nI_toInt, ng_T, nI_add, nI_mul, nI_sub', Int.neg_zero, not_false_eq_true, not_true_eq_false, hl] <;> omega); done))) | (refine xbr_t ?_ ?_; (focus ((simp (disch := omega) only [ix_lt, ix_le, ix_eq, ix_0, nI_clamp, nI_toInt, ng_T, nI_add, nI_mul, nI_sub', Int.neg_zero, not_false_eq_true, not_true_eq_false, hl] <;> omega); done))) | refine ⟨Or.inl rfl, ?_⟩ | refine ⟨Or.inr rfl, ?_⟩ | (refine ⟨?_, ?_⟩; (focus ((try simp (disch := omega) only [hl, nI_mul, nI_add, nI_sub']); exact in_nI (by omega) (by omega)))))
    refine ⟨rfl, rfl, o, p, rfl, ho, by omega, ?_⟩
    cases hc : tbB w (orN o p)
    · have e : ¬ (nI w >>> (nI (orN o p) &&& 31)) &&& nI 1 = nI 1 := by rw [bit_i hw (by omega), hc]; decide
      (first | refine xbr_t e ?_ | refine xbr_f e ?_)
      simp only [hc, Bool.false_eq_true, ↓reduceIte] at hs
      exact h53 0 (by omega) (by rw [if_pos rfl]; exact hs)
    · have e : (nI w >>> (nI (orN o p) &&& 31)) &&& nI 1 = nI 1 := by rw [bit_i hw (by omega), hc]; decide
      (first | refine xbr_t e ?_ | refine xbr_f e ?_)
      simp only [hc, ↓reduceIte] at hs
      refine ⟨rfl, rfl, d, X, orN o p, (tkN d X o w p).2, hP, rfl, hX, hi, by omega, ?_⟩
      have := (chN_le d X (orN o p) (tkN d X o w p).2 d.nL).1
      exact h53 _ (by omega) hs
  · refine xrun okX5_takesOf hhX5_takesOf [] 60 ?_
    repeat (first | (refine xbr_f ?_ ?_; (focus ((simp (disch := omega) only [ix_lt, ix_le, ix_eq, ix_0, nI_clamp, nI_toInt, ng_T, nI_add, nI_mul, nI_sub', Int.neg_zero, not_false_eq_true, not_true_eq_false, hl] <;> omega); done))) | (refine xbr_t ?_ ?_; (focus ((simp (disch := omega) only [ix_lt, ix_le, ix_eq, ix_0, nI_clamp, nI_toInt, ng_T, nI_add, nI_mul, nI_sub', Int.neg_zero, not_false_eq_true, not_true_eq_false, hl] <;> omega); done))) | refine ⟨Or.inl rfl, ?_⟩ | refine ⟨Or.inr rfl, ?_⟩ | (refine ⟨?_, ?_⟩; (focus ((try simp (disch := omega) only [hl, nI_mul, nI_add, nI_sub']); exact in_nI (by omega) (by omega)))))
    exact hQ
def csX5_gone : xCs := [(mX5_loadTaken, sX5_loadTaken), (mX7_innOf, sX7_innOf), (mX5_roadFrom, sX5_roadFrom), (mX7_withInn, sX7_withInn), (mX7_withPlace, sX7_withPlace), (mX5_kindOf, sX5_kindOf), (mX7_marksOf, sX7_marksOf), (mX7_withMemory, sX7_withMemory)]
theorem okX5_gone : xOkM mX5_gone csX5_gone := ⟨dX5_gone, by decide +kernel, by decide +kernel, ⟨wdX5_9, wdX5_94, wdX5_79, wdX5_27, wdX5_97, wdX5_101, wdX5_31, wdX5_67, wdX5_104, trivial⟩⟩
theorem hhX5_gone : ∀ q ∈ csX5_gone, xHd q.1 := xall1 hX5_loadTaken (xall1 hX7_innOf (xall1 hX5_roadFrom (xall1 hX7_withInn (xall1 hX7_withPlace (xall1 hX5_kindOf (xall1 hX7_marksOf (xall1 hX7_withMemory (xall0))))))))
theorem kkX5_gone : ∀ q ∈ csX5_gone, ∀ l, xCon l q.1 q.2 := xall1 kX5_loadTaken (xall1 kX7_innOf (xall1 kX5_roadFrom (xall1 kX7_withInn (xall1 kX7_withPlace (xall1 kX5_kindOf (xall1 kX7_marksOf (xall1 kX7_withMemory (xall0))))))))
def sX5_gone : xSpec := xReg fun as I L Q => ∃ (d : PD) (X T : Nat), xPl d I ∧ as = [.ref 11, .long (lN X), .int (nI T)] ∧ X < 2 ^ 63 ∧ T < 2 ^ 31 ∧ (∀ i, i < 4 → getN T (3 * i) 3 ≤ 5) ∧ Q (some (.long (lN (goN d X T d.nA)))) I L
set_option maxRecDepth 100000 in
theorem kX5_gone : ∀ l, xCon l mX5_gone sX5_gone := by
  refine xcon_of okX5_gone hX5_gone rfl hhX5_gone kkX5_gone ?_
  rintro as n0 I L P Q ⟨hn9, rfl, d, X, T, hP, rfl, hX, hT, hT5, hQ⟩
  obtain ⟨e9, rfl⟩ := xe9 hn9
  refine ⟨Nat.le_of_ble_eq_true rfl, ?_⟩
  refine xrun okX5_gone hhX5_gone [(6, [true, true, false, true, true, false, true, false, false])] 20 ?_
  have hl := hP.a
  have h5 := hP.ok.a4
  refine xlp (M := mX5_gone) (cs := csX5_gone) (pc := 6) d.nA (fun i => [some (.ref 11), some (.long (lN X)), none, some (.int (nI T)), some (.long (lN (goN d X T i))), none, some (.int (nI i)), none, none]) (fun _ => I) (fun _ => L) ?_ ?_
  · intro i hi ih
    refine xrun okX5_gone hhX5_gone [(6, [true, true, false, true, true, false, true, false, false])] 90 ?_
    have hs := goN_s d X T i
    have hb := goN_lt (d := d) hX hT5 i (by omega)
    have hc5 := hT5 i (by omega)
    have hk := kdN_8 d i
    have hr := rdN_8 d (inN X i)
    (first | (refine xbr_f ?_ ?_; (focus ((simp (disch := omega) only [ix_lt, ix_le, ix_eq, ix_0, nI_clamp, nI_toInt, ng_T, nI_add, nI_mul, nI_sub', Int.neg_zero, not_false_eq_true, not_true_eq_false, hl] <;> omega); done))) | (refine xbr_t ?_ ?_; (focus ((simp (disch := omega) only [ix_lt, ix_le, ix_eq, ix_0, nI_clamp, nI_toInt, ng_T, nI_add, nI_mul, nI_sub', Int.neg_zero, not_false_eq_true, not_true_eq_false, hl] <;> omega); done))) | refine ⟨Or.inl rfl, ?_⟩ | refine ⟨Or.inr rfl, ?_⟩ | (refine ⟨?_, ?_⟩; (focus ((try simp (disch := omega) only [hl, nI_mul, nI_add, nI_sub']); exact in_nI (by omega) (by omega)))))
    refine ⟨rfl, rfl, T, i, rfl, hT, by omega, ?_⟩
    generalize getN T (3 * i) 3 = c at *
    rcases c with _ | c
    · rw [if_pos rfl] at hs
      rw [cI_0]
      (first | (refine xbr_f ?_ ?_; (focus ((simp (disch := omega) only [ix_lt, ix_le, ix_eq, ix_0, nI_clamp, nI_toInt, ng_T, nI_add, nI_mul, nI_sub', Int.neg_zero, not_false_eq_true, not_true_eq_false] <;> omega); done))) | (refine xbr_t ?_ ?_; (focus ((simp (disch := omega) only [ix_lt, ix_le, ix_eq, ix_0, nI_clamp, nI_toInt, ng_T, nI_add, nI_mul, nI_sub', Int.neg_zero, not_false_eq_true, not_true_eq_false] <;> omega); done))) | refine ⟨Or.inl rfl, ?_⟩ | refine ⟨Or.inr rfl, ?_⟩ | (refine ⟨?_, ?_⟩; (focus (exact in_nI (by omega) (by omega)))))
      refine xgo_eq ih ?_ rfl rfl
      ((repeat' (first | (with_reducible rfl) | exact xv_nil | refine xv_cons ?_ ?_ | refine xv_i ?_ | refine xv_l ?_)) <;> (simp (disch := omega) only [↓reduceIte, Bool.false_eq_true, Nat.one_mul, Nat.zero_mul, Nat.or_zero, Nat.add_zero, Nat.zero_add, Bool.toNat_true, Bool.toNat_false, shl_n, shr_n, fa_and, fa_or, nx_xor, nI_add, nI_mul, nI_sub', and_1, and_7, and_3', and_15, hs]))
    · rw [if_neg (by omega)] at hs
      rw [cI_s]
      (first | (refine xbr_f ?_ ?_; (focus ((simp (disch := omega) only [ix_lt, ix_le, ix_eq, ix_0, nI_clamp, nI_toInt, ng_T, nI_add, nI_mul, nI_sub', Int.neg_zero, not_false_eq_true, not_true_eq_false] <;> omega); done))) | (refine xbr_t ?_ ?_; (focus ((simp (disch := omega) only [ix_lt, ix_le, ix_eq, ix_0, nI_clamp, nI_toInt, ng_T, nI_add, nI_mul, nI_sub', Int.neg_zero, not_false_eq_true, not_true_eq_false] <;> omega); done))) | refine ⟨Or.inl rfl, ?_⟩ | refine ⟨Or.inr rfl, ?_⟩ | (refine ⟨?_, ?_⟩; (focus (exact in_nI (by omega) (by omega)))))
      refine ⟨rfl, rfl, X, i, rfl, by omega, by omega, rfl, rfl, d, inN X i, hP, rfl, inN_8 X i, rfl, rfl, goN d X T i, i, rdN d (inN X i), rfl, by omega, by omega, hr, rfl, rfl, seIn (goN d X T i) i (rdN d (inN X i)), c, rdN d (inN X i), rfl, ?_, by omega, hr, rfl, rfl, d, i, hP, rfl, by omega, ?_⟩
      · have := seIn_lt hb (show i < 4 by omega) hr
        omega
      by_cases h2 : kdN d i = 2
      · rw [if_pos h2] at hs
        (first | (refine xbr_f ?_ ?_; (focus ((simp (disch := omega) only [ix_lt, ix_le, ix_eq, ix_0, nI_clamp, nI_toInt, ng_T, nI_add, nI_mul, nI_sub', Int.neg_zero, not_false_eq_true, not_true_eq_false] <;> omega); done))) | (refine xbr_t ?_ ?_; (focus ((simp (disch := omega) only [ix_lt, ix_le, ix_eq, ix_0, nI_clamp, nI_toInt, ng_T, nI_add, nI_mul, nI_sub', Int.neg_zero, not_false_eq_true, not_true_eq_false] <;> omega); done))) | refine ⟨Or.inl rfl, ?_⟩ | refine ⟨Or.inr rfl, ?_⟩ | (refine ⟨?_, ?_⟩; (focus (exact in_nI (by omega) (by omega)))))
        refine ⟨rfl, rfl, X, c, rfl, by omega, by omega, rfl, rfl, sePl (seIn (goN d X T i) i (rdN d (inN X i))) c (rdN d (inN X i)), i, mkN X c, rfl, ?_, by omega, mkN_16 X c, ?_⟩
        · have := sePl_lt (i := c) (seIn_lt hb (show i < 4 by omega) hr) (by omega) hr
          omega
        refine xgo_eq ih ?_ rfl rfl
        ((repeat' (first | (with_reducible rfl) | exact xv_nil | refine xv_cons ?_ ?_ | refine xv_i ?_ | refine xv_l ?_)) <;> (simp (disch := omega) only [↓reduceIte, Bool.false_eq_true, Nat.one_mul, Nat.zero_mul, Nat.or_zero, Nat.add_zero, Nat.zero_add, Bool.toNat_true, Bool.toNat_false, shl_n, shr_n, fa_and, fa_or, nx_xor, nI_add, nI_mul, nI_sub', and_1, and_7, and_3', and_15, hs, Nat.add_sub_cancel]))
      · rw [if_neg h2] at hs
        (first | (refine xbr_f ?_ ?_; (focus ((simp (disch := omega) only [ix_lt, ix_le, ix_eq, ix_0, nI_clamp, nI_toInt, ng_T, nI_add, nI_mul, nI_sub', Int.neg_zero, not_false_eq_true, not_true_eq_false] <;> omega); done))) | (refine xbr_t ?_ ?_; (focus ((simp (disch := omega) only [ix_lt, ix_le, ix_eq, ix_0, nI_clamp, nI_toInt, ng_T, nI_add, nI_mul, nI_sub', Int.neg_zero, not_false_eq_true, not_true_eq_false] <;> omega); done))) | refine ⟨Or.inl rfl, ?_⟩ | refine ⟨Or.inr rfl, ?_⟩ | (refine ⟨?_, ?_⟩; (focus (exact in_nI (by omega) (by omega)))))
        refine xgo_eq ih ?_ rfl rfl
        ((repeat' (first | (with_reducible rfl) | exact xv_nil | refine xv_cons ?_ ?_ | refine xv_i ?_ | refine xv_l ?_)) <;> (simp (disch := omega) only [↓reduceIte, Bool.false_eq_true, Nat.one_mul, Nat.zero_mul, Nat.or_zero, Nat.add_zero, Nat.zero_add, Bool.toNat_true, Bool.toNat_false, shl_n, shr_n, fa_and, fa_or, nx_xor, nI_add, nI_mul, nI_sub', and_1, and_7, and_3', and_15, hs, Nat.add_sub_cancel]))
  · refine xrun okX5_gone hhX5_gone [] 60 ?_
    repeat (first | (refine xbr_f ?_ ?_; (focus ((simp (disch := omega) only [ix_lt, ix_le, ix_eq, ix_0, nI_clamp, nI_toInt, ng_T, nI_add, nI_mul, nI_sub', Int.neg_zero, not_false_eq_true, not_true_eq_false, hl] <;> omega); done))) | (refine xbr_t ?_ ?_; (focus ((simp (disch := omega) only [ix_lt, ix_le, ix_eq, ix_0, nI_clamp, nI_toInt, ng_T, nI_add, nI_mul, nI_sub', Int.neg_zero, not_false_eq_true, not_true_eq_false, hl] <;> omega); done))) | refine ⟨Or.inl rfl, ?_⟩ | refine ⟨Or.inr rfl, ?_⟩ | (refine ⟨?_, ?_⟩; (focus ((try simp (disch := omega) only [hl, nI_mul, nI_add, nI_sub']); exact in_nI (by omega) (by omega)))))
    exact hQ
-- the writers
def plv (d : PD) (f : Nat → Int32) : Prop := f 0 = nI d.nA ∧ f 1 = nI d.nL ∧ f 2 = nI d.K ∧ f 3 = nI d.R ∧ f 4 = nI d.H
theorem xrw_of {α : Type} {W I : Nat → Nat → α} {k : Nat} (h : ∀ c, c ≠ k → W c = I c) : W = xrw I k (W k) := by
  funext c
  by_cases hc : c = k
  · subst hc
    rw [xrw_s]
  · rw [xrw_c _ _ _ hc, h c hc]
theorem xq_rw {α : Type} {R : (Nat → Nat → α) → Prop} {I W : Nat → Nat → α} {k : Nat} {p : (Nat → α) → Prop} (h : ∀ f, p f → R (xrw I k f)) (hw : ∀ c, c ≠ k → W c = I c) (hp : p (W k)) : R W := by
  rw [xrw_of hw]
  exact h _ hp
theorem xq_eq {R : xI → xL → Prop} {I I' : xI} {L L' : xL} (h : R I L) (e1 : I' = I) (e2 : L' = L) : R I' L' := by
  subst e1; subst e2; exact h
def mkP (a b c e f : Nat) : PD := (a, b, c, e, f)
def csX5_clear : xCs := []
theorem okX5_clear : xOkM mX5_clear csX5_clear := ⟨dX5_clear, by decide +kernel, by decide +kernel, ⟨⟨wdX5_9, fun h => Bool.noConfusion h⟩, ⟨wdX5_15, fun h => Bool.noConfusion h⟩, ⟨wdX5_18, fun h => Bool.noConfusion h⟩, ⟨wdX5_21, fun h => Bool.noConfusion h⟩, ⟨wdX5_24, fun h => Bool.noConfusion h⟩, trivial⟩⟩
theorem hhX5_clear : ∀ q ∈ csX5_clear, xHd q.1 := xall0
theorem kkX5_clear : ∀ q ∈ csX5_clear, ∀ l, xCon l q.1 q.2 := xall0
def sX5_clear : xSpec := xReg fun as I L Q => as = [.ref 10] ∧ (∀ f, plv (mkP 0 0 0 0 0) f → Q none (xrw I 10 f) L)
set_option maxRecDepth 100000 in
theorem kX5_clear : ∀ l, xCon l mX5_clear sX5_clear := by
  refine xcon_of okX5_clear hX5_clear rfl hhX5_clear kkX5_clear ?_
  rintro as n0 I L P Q ⟨hn9, rfl, rfl, hQ⟩
  obtain ⟨e9, rfl⟩ := xe9 hn9
  refine ⟨Nat.le_of_ble_eq_true rfl, ?_⟩
  refine xrun okX5_clear hhX5_clear [] 60 ?_
  refine xq_rw (R := fun W => Q none (e9 + 26) W L xP0) hQ ?_ ?_
  · intro c hc
    simp [xup, hc]
  · simp [plv, xup, mkP, PD.nA, PD.nL, PD.K, PD.R, PD.H]
def csX5_become : xCs := []
theorem okX5_become : xOkM mX5_become csX5_become := ⟨dX5_become, by decide +kernel, by decide +kernel, ⟨wdX5_9, ⟨wdX5_9, fun h => Bool.noConfusion h⟩, wdX5_15, ⟨wdX5_15, fun h => Bool.noConfusion h⟩, wdX5_18, ⟨wdX5_18, fun h => Bool.noConfusion h⟩, wdX5_21, ⟨wdX5_21, fun h => Bool.noConfusion h⟩, wdX5_24, ⟨wdX5_24, fun h => Bool.noConfusion h⟩, trivial⟩⟩
theorem hhX5_become : ∀ q ∈ csX5_become, xHd q.1 := xall0
theorem kkX5_become : ∀ q ∈ csX5_become, ∀ l, xCon l q.1 q.2 := xall0
def sX5_become : xSpec := xReg fun as I L Q => ∃ d, plv d (I 10) ∧ as = [.ref 11, .ref 10] ∧ (∀ f, plv d f → Q none (xrw I 11 f) L)
set_option maxRecDepth 100000 in
theorem kX5_become : ∀ l, xCon l mX5_become sX5_become := by
  refine xcon_of okX5_become hX5_become rfl hhX5_become kkX5_become ?_
  rintro as n0 I L P Q ⟨hn9, rfl, d, hd, rfl, hQ⟩
  obtain ⟨e9, rfl⟩ := xe9 hn9
  refine ⟨Nat.le_of_ble_eq_true rfl, ?_⟩
  refine xrun okX5_become hhX5_become [] 60 ?_
  refine xq_rw (R := fun W => Q none (e9 + 26) W L xP0) hQ ?_ ?_
  · intro c hc
    simp [xup, hc]
  · simpa [plv, xup] using hd
def csX5_addRoad : xCs := []
theorem okX5_addRoad : xOkM mX5_addRoad csX5_addRoad := ⟨dX5_addRoad, by decide +kernel, by decide +kernel, ⟨wdX5_21, ⟨wdX5_21, fun h => Bool.noConfusion h⟩, trivial⟩⟩
theorem hhX5_addRoad : ∀ q ∈ csX5_addRoad, xHd q.1 := xall0
theorem kkX5_addRoad : ∀ q ∈ csX5_addRoad, ∀ l, xCon l q.1 q.2 := xall0
def sX5_addRoad : xSpec := xReg fun as I L Q => ∃ d k v, plv d (I 10) ∧ as = [.ref 10, .int (nI k), .int (nI v)] ∧ k < 8 ∧ (∀ f, plv (mkP d.nA d.nL d.K (d.R ||| v * 2 ^ (3 * k)) d.H) f → Q none (xrw I 10 f) L)
set_option maxRecDepth 100000 in
theorem kX5_addRoad : ∀ l, xCon l mX5_addRoad sX5_addRoad := by
  refine xcon_of okX5_addRoad hX5_addRoad rfl hhX5_addRoad kkX5_addRoad ?_
  rintro as n0 I L P Q ⟨hn9, rfl, d, k, v, hd, rfl, hk, hQ⟩
  obtain ⟨e9, rfl⟩ := xe9 hn9
  refine ⟨Nat.le_of_ble_eq_true rfl, ?_⟩
  refine xrun okX5_addRoad hhX5_addRoad [] 60 ?_
  refine xq_rw (R := fun W => Q none (e9 + 26) W L xP0) hQ ?_ ?_
  · intro c hc
    simp [xup, hc]
  · obtain ⟨h0, h1, h2, h3, h4⟩ := hd
    have e : I 10 3 ||| (nI v <<< ((nI 3 * nI k) &&& 31)) = nI (d.R ||| v * 2 ^ (3 * k)) := by rw [h3, nI_mul, shl_n _ (by omega), fa_or]
    simp [plv, xup, mkP, PD.nA, PD.nL, PD.K, PD.R, PD.H] at *
    simp [h0, h1, h2, h4, e]
def csX5_addAss : xCs := []
theorem okX5_addAss : xOkM mX5_addAss csX5_addAss := ⟨dX5_addAss, by decide +kernel, by decide +kernel, ⟨wdX5_18, wdX5_9, ⟨wdX5_18, fun h => Bool.noConfusion h⟩, wdX5_9, ⟨wdX5_9, fun h => Bool.noConfusion h⟩, trivial⟩⟩
theorem hhX5_addAss : ∀ q ∈ csX5_addAss, xHd q.1 := xall0
theorem kkX5_addAss : ∀ q ∈ csX5_addAss, ∀ l, xCon l q.1 q.2 := xall0
def sX5_addAss : xSpec := xReg fun as I L Q => ∃ d v, plv d (I 10) ∧ as = [.ref 10, .int (nI v)] ∧ d.nA < 8 ∧ (∀ f, plv (mkP (d.nA + 1) d.nL (d.K ||| v * 2 ^ (3 * d.nA)) d.R d.H) f → Q none (xrw I 10 f) L)
set_option maxRecDepth 100000 in
theorem kX5_addAss : ∀ l, xCon l mX5_addAss sX5_addAss := by
  refine xcon_of okX5_addAss hX5_addAss rfl hhX5_addAss kkX5_addAss ?_
  rintro as n0 I L P Q ⟨hn9, rfl, d, v, hd, rfl, hk, hQ⟩
  obtain ⟨e9, rfl⟩ := xe9 hn9
  refine ⟨Nat.le_of_ble_eq_true rfl, ?_⟩
  refine xrun okX5_addAss hhX5_addAss [] 60 ?_
  refine xq_rw (R := fun W => Q none (e9 + 26) W L xP0) hQ ?_ ?_
  · intro c hc
    simp [xup, hc]
  · obtain ⟨h0, h1, h2, h3, h4⟩ := hd
    have e : I 10 2 ||| (nI v <<< ((nI 3 * I 10 0) &&& 31)) = nI (d.K ||| v * 2 ^ (3 * d.nA)) := by rw [h0, h2, nI_mul, shl_n _ (by omega), fa_or]
    have e2 : I 10 0 + nI 1 = nI (d.nA + 1) := by rw [h0, nI_add]
    simp [plv, xup, mkP, PD.nA, PD.nL, PD.K, PD.R, PD.H] at *
    simp [h1, h3, h4, e, e2]
def csX5_addLoad : xCs := []
theorem okX5_addLoad : xOkM mX5_addLoad csX5_addLoad := ⟨dX5_addLoad, by decide +kernel, by decide +kernel, ⟨wdX5_24, wdX5_15, ⟨wdX5_24, fun h => Bool.noConfusion h⟩, wdX5_15, ⟨wdX5_15, fun h => Bool.noConfusion h⟩, trivial⟩⟩
theorem hhX5_addLoad : ∀ q ∈ csX5_addLoad, xHd q.1 := xall0
theorem kkX5_addLoad : ∀ q ∈ csX5_addLoad, ∀ l, xCon l q.1 q.2 := xall0
def sX5_addLoad : xSpec := xReg fun as I L Q => ∃ d v, plv d (I 10) ∧ as = [.ref 10, .int (nI v)] ∧ d.nL < 8 ∧ (∀ f, plv (mkP d.nA (d.nL + 1) d.K d.R (d.H ||| v * 2 ^ (3 * d.nL))) f → Q none (xrw I 10 f) L)
set_option maxRecDepth 100000 in
theorem kX5_addLoad : ∀ l, xCon l mX5_addLoad sX5_addLoad := by
  refine xcon_of okX5_addLoad hX5_addLoad rfl hhX5_addLoad kkX5_addLoad ?_
  rintro as n0 I L P Q ⟨hn9, rfl, d, v, hd, rfl, hk, hQ⟩
  obtain ⟨e9, rfl⟩ := xe9 hn9
  refine ⟨Nat.le_of_ble_eq_true rfl, ?_⟩
  refine xrun okX5_addLoad hhX5_addLoad [] 60 ?_
  refine xq_rw (R := fun W => Q none (e9 + 26) W L xP0) hQ ?_ ?_
  · intro c hc
    simp [xup, hc]
  · obtain ⟨h0, h1, h2, h3, h4⟩ := hd
    have e : I 10 4 ||| (nI v <<< ((nI 3 * I 10 1) &&& 31)) = nI (d.H ||| v * 2 ^ (3 * d.nL)) := by rw [h1, h4, nI_mul, shl_n _ (by omega), fa_or]
    have e2 : I 10 1 + nI 1 = nI (d.nL + 1) := by rw [h1, nI_add]
    simp [plv, xup, mkP, PD.nA, PD.nL, PD.K, PD.R, PD.H] at *
    simp [h0, h2, h3, e, e2]
