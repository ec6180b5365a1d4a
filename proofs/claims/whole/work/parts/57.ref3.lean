/-! THE REFERENCE, 3: who takes what, a day -/
theorem wt_dec {d : PD} {X i x : Nat} : wtB d X i x = decide (lsN (kdN d i) ≤ lkN (kdN d i) (meN X i) x) := rfl
def csX11_isAss : xCs := [(mX11_in, sX11_in)]
theorem okX11_isAss : xOkM mX11_isAss csX11_isAss := ⟨dX11_isAss, by decide +kernel, by decide +kernel, ⟨wdX11_118, wdX11_90, trivial⟩⟩
theorem hhX11_isAss : ∀ q ∈ csX11_isAss, xHd q.1 := xall1 hX11_in (xall0)
theorem kkX11_isAss : ∀ q ∈ csX11_isAss, ∀ l, xCon l q.1 q.2 := xall1 kX11_in (xall0)
def sX11_isAss : xSpec := xReg fun as I L Q => ∃ (d : PD) (x : Int32), as = [.ref 27, .int x] ∧ pdR d I ∧ Q (some (.int (bI (ibB x d.nA)))) I L
set_option maxRecDepth 100000 in
theorem kX11_isAss : ∀ l, xCon l mX11_isAss sX11_isAss := by
  refine xcon_of okX11_isAss hX11_isAss rfl (by decide) hhX11_isAss kkX11_isAss ?_
  rintro as n0 I L P Q ⟨rfl, rfl, d, x, rfl, hP, hQ⟩
  refine ⟨Nat.le_of_ble_eq_true rfl, ?_⟩
  have h4 := hP.ok.a4
  refine xrun okX11_isAss hhX11_isAss [] 60 ?_
  refine ⟨rfl, rfl, _, _, _, x, nI 0, nI d.nA - nI 1, rfl, rfl, by decide, by rw [hP.a], ?_⟩
  rw [in_s (by omega)]
  exact ⟨bI_01 _, hQ⟩
def csX11_isLoad : xCs := [(mX11_in, sX11_in)]
theorem okX11_isLoad : xOkM mX11_isLoad csX11_isLoad := ⟨dX11_isLoad, by decide +kernel, by decide +kernel, ⟨wdX11_121, wdX11_90, trivial⟩⟩
theorem hhX11_isLoad : ∀ q ∈ csX11_isLoad, xHd q.1 := xall1 hX11_in (xall0)
theorem kkX11_isLoad : ∀ q ∈ csX11_isLoad, ∀ l, xCon l q.1 q.2 := xall1 kX11_in (xall0)
def sX11_isLoad : xSpec := xReg fun as I L Q => ∃ (d : PD) (x : Int32), as = [.ref 27, .int x] ∧ pdR d I ∧ Q (some (.int (bI (ibB x d.nL)))) I L
set_option maxRecDepth 100000 in
theorem kX11_isLoad : ∀ l, xCon l mX11_isLoad sX11_isLoad := by
  refine xcon_of okX11_isLoad hX11_isLoad rfl (by decide) hhX11_isLoad kkX11_isLoad ?_
  rintro as n0 I L P Q ⟨rfl, rfl, d, x, rfl, hP, hQ⟩
  refine ⟨Nat.le_of_ble_eq_true rfl, ?_⟩
  have h5 := hP.ok.l5
  refine xrun okX11_isLoad hhX11_isLoad [] 60 ?_
  refine ⟨rfl, rfl, _, _, _, x, nI 0, nI d.nL - nI 1, rfl, rfl, by decide, by rw [hP.l], ?_⟩
  rw [in_s (by omega)]
  exact ⟨bI_01 _, hQ⟩
def csX11_likeTo : xCs := [(mX11_likeBy, sX11_likeBy)]
theorem okX11_likeTo : xOkM mX11_likeTo csX11_likeTo := ⟨dX11_likeTo, by decide +kernel, by decide +kernel, ⟨wdX11_31, wdX11_37, wdX11_37, wdX11_129, trivial⟩⟩
theorem hhX11_likeTo : ∀ q ∈ csX11_likeTo, xHd q.1 := xall1 hX11_likeBy (xall0)
theorem kkX11_likeTo : ∀ q ∈ csX11_likeTo, ∀ l, xCon l q.1 q.2 := xall1 kX11_likeBy (xall0)
def sX11_likeTo : xSpec := xReg fun as I L Q => ∃ (d : PD) (X c i l : Nat), as = [.ref 27, .int (nI i), .int (nI l)] ∧ pdR d I ∧ nwR d X c (I 37) ∧ i < d.nA ∧ l < d.nL ∧ Q (some (.int (nI (lkN (kdN d i) (meN X i) (mkN X l))))) I L
set_option maxRecDepth 100000 in
theorem kX11_likeTo : ∀ l, xCon l mX11_likeTo sX11_likeTo := by
  refine xcon_of okX11_likeTo hX11_likeTo rfl (by decide) hhX11_likeTo kkX11_likeTo ?_
  rintro as n0 I L P Q ⟨rfl, rfl, d, X, c, i, l, rfl, hP, hN, hi, hl, hQ⟩
  refine ⟨Nat.le_of_ble_eq_true rfl, ?_⟩
  have h4 := hP.ok.a4
  have h5 := hP.ok.l5
  refine xrun okX11_likeTo hhX11_likeTo [] 60 ?_
  repeat (first | (refine xbr_f ?_ ?_; (focus ((simp (disch := omega) only [ix_lt, ix_le, ix_eq, ix_0, nI_clamp, nI_toInt, ng_T, nI_add, nI_mul, nI_sub', Int.neg_zero, not_false_eq_true, not_true_eq_false, nI_add] <;> omega); done))) | (refine xbr_t ?_ ?_; (focus ((simp (disch := omega) only [ix_lt, ix_le, ix_eq, ix_0, nI_clamp, nI_toInt, ng_T, nI_add, nI_mul, nI_sub', Int.neg_zero, not_false_eq_true, not_true_eq_false, nI_add] <;> omega); done))) | refine ⟨Or.inl rfl, ?_⟩ | refine ⟨Or.inr rfl, ?_⟩ | (refine ⟨?_, ?_⟩; (focus ((try simp (disch := omega) only [nI_add, nI_mul, nI_add, nI_sub']); exact in_nI (by omega) (by omega)))))
  refine ⟨rfl, rfl, kdN d i, meN X i, mkN X l, ?_, kdN_8 _ _, meN_16 _ _, mkN_16 _ _, hQ⟩
  simp (disch := omega) only [hP.k i hi, hN.m hi, hN.k hl, nI_mul, nI_add, nI_clamp, nI_sub']
def csX11_refuses : xCs := [(mX11_likeTo, sX11_likeTo), (mX11_least, sX11_least)]
theorem okX11_refuses : xOkM mX11_refuses csX11_refuses := ⟨dX11_refuses, by decide +kernel, by decide +kernel, ⟨wdX11_136, wdX11_31, wdX11_133, trivial⟩⟩
theorem hhX11_refuses : ∀ q ∈ csX11_refuses, xHd q.1 := xall1 hX11_likeTo (xall1 hX11_least (xall0))
theorem kkX11_refuses : ∀ q ∈ csX11_refuses, ∀ l, xCon l q.1 q.2 := xall1 kX11_likeTo (xall1 kX11_least (xall0))
def sX11_refuses : xSpec := xReg fun as I L Q => ∃ (d : PD) (X c i l : Nat), as = [.ref 27, .int (nI i), .int (nI l)] ∧ pdR d I ∧ nwR d X c (I 37) ∧ i < d.nA ∧ l < d.nL ∧ Q (some (.int (bI (!wtB d X i (mkN X l))))) I L
set_option maxRecDepth 100000 in
theorem kX11_refuses : ∀ l, xCon l mX11_refuses sX11_refuses := by
  refine xcon_of okX11_refuses hX11_refuses rfl (by decide) hhX11_refuses kkX11_refuses ?_
  rintro as n0 I L P Q ⟨rfl, rfl, d, X, c, i, l, rfl, hP, hN, hi, hl, hQ⟩
  refine ⟨Nat.le_of_ble_eq_true rfl, ?_⟩
  have h4 := hP.ok.a4
  have h5 := hP.ok.l5
  have h1 := lkN_le (k := kdN d i) (x := mkN X l) (meN_16 X i)
  have h2 := lsN_le (kdN d i)
  refine xrun okX11_refuses hhX11_refuses [] 60 ?_
  refine ⟨rfl, rfl, d, X, c, i, l, rfl, hP, hN, hi, hl, ?_⟩
  repeat (first | (refine xbr_f ?_ ?_; (focus ((simp (disch := omega) only [ix_lt, ix_le, ix_eq, ix_0, nI_clamp, nI_toInt, ng_T, nI_add, nI_mul, nI_sub', Int.neg_zero, not_false_eq_true, not_true_eq_false, nI_add] <;> omega); done))) | (refine xbr_t ?_ ?_; (focus ((simp (disch := omega) only [ix_lt, ix_le, ix_eq, ix_0, nI_clamp, nI_toInt, ng_T, nI_add, nI_mul, nI_sub', Int.neg_zero, not_false_eq_true, not_true_eq_false, nI_add] <;> omega); done))) | refine ⟨Or.inl rfl, ?_⟩ | refine ⟨Or.inr rfl, ?_⟩ | (refine ⟨?_, ?_⟩; (focus ((try simp (disch := omega) only [nI_add, nI_mul, nI_add, nI_sub']); exact in_nI (by omega) (by omega)))))
  refine ⟨rfl, rfl, kdN d i, ?_, kdN_8 _ _, ?_⟩
  · simp (disch := omega) only [hP.k i hi, nI_mul, nI_add, nI_clamp, nI_sub']
  rw [wt_dec] at hQ
  by_cases h : lsN (kdN d i) ≤ lkN (kdN d i) (meN X i) (mkN X l)
  · rw [decide_eq_true h] at hQ
    repeat (first | (refine xbr_f ?_ ?_; (focus ((simp (disch := omega) only [ix_lt, ix_le, ix_eq, ix_0, nI_clamp, nI_toInt, ng_T, nI_add, nI_mul, nI_sub', Int.neg_zero, not_false_eq_true, not_true_eq_false] <;> omega); done))) | (refine xbr_t ?_ ?_; (focus ((simp (disch := omega) only [ix_lt, ix_le, ix_eq, ix_0, nI_clamp, nI_toInt, ng_T, nI_add, nI_mul, nI_sub', Int.neg_zero, not_false_eq_true, not_true_eq_false] <;> omega); done))) | refine ⟨Or.inl rfl, ?_⟩ | refine ⟨Or.inr rfl, ?_⟩ | (refine ⟨?_, ?_⟩; (focus (exact in_nI (by omega) (by omega)))))
    exact hQ
  · rw [decide_eq_false h] at hQ
    repeat (first | (refine xbr_f ?_ ?_; (focus ((simp (disch := omega) only [ix_lt, ix_le, ix_eq, ix_0, nI_clamp, nI_toInt, ng_T, nI_add, nI_mul, nI_sub', Int.neg_zero, not_false_eq_true, not_true_eq_false] <;> omega); done))) | (refine xbr_t ?_ ?_; (focus ((simp (disch := omega) only [ix_lt, ix_le, ix_eq, ix_0, nI_clamp, nI_toInt, ng_T, nI_add, nI_mul, nI_sub', Int.neg_zero, not_false_eq_true, not_true_eq_false] <;> omega); done))) | refine ⟨Or.inl rfl, ?_⟩ | refine ⟨Or.inr rfl, ?_⟩ | (refine ⟨?_, ?_⟩; (focus (exact in_nI (by omega) (by omega)))))
    exact hQ
def csX11_isHome : xCs := []
theorem okX11_isHome : xOkM mX11_isHome csX11_isHome := ⟨dX11_isHome, by decide +kernel, by decide +kernel, ⟨wdX11_37, wdX11_34, trivial⟩⟩
theorem hhX11_isHome : ∀ q ∈ csX11_isHome, xHd q.1 := xall0
theorem kkX11_isHome : ∀ q ∈ csX11_isHome, ∀ l, xCon l q.1 q.2 := xall0
def sX11_isHome : xSpec := xReg fun as I L Q => ∃ (d : PD) (X c l : Nat), as = [.ref 27, .int (nI l)] ∧ pdR d I ∧ nwR d X c (I 37) ∧ l < d.nL ∧ Q (some (.int (bI (hmB d X l)))) I L
set_option maxRecDepth 100000 in
theorem kX11_isHome : ∀ l, xCon l mX11_isHome sX11_isHome := by
  refine xcon_of okX11_isHome hX11_isHome rfl (by decide) hhX11_isHome kkX11_isHome ?_
  rintro as n0 I L P Q ⟨rfl, rfl, d, X, c, l, rfl, hP, hN, hl, hQ⟩
  refine ⟨Nat.le_of_ble_eq_true rfl, ?_⟩
  have h5 := hP.ok.l5
  have h1 := plN_8 X l
  have h2 := hmN_8 d l
  have e1 := hN.p hl
  have e2 := hP.h l hl
  refine xrun okX11_isHome hhX11_isHome [] 60 ?_
  repeat (first | (refine xbr_f ?_ ?_; (focus ((simp (disch := omega) only [ix_lt, ix_le, ix_eq, ix_0, nI_clamp, nI_toInt, ng_T, nI_add, nI_mul, nI_sub', Int.neg_zero, not_false_eq_true, not_true_eq_false, nI_add] <;> omega); done))) | (refine xbr_t ?_ ?_; (focus ((simp (disch := omega) only [ix_lt, ix_le, ix_eq, ix_0, nI_clamp, nI_toInt, ng_T, nI_add, nI_mul, nI_sub', Int.neg_zero, not_false_eq_true, not_true_eq_false, nI_add] <;> omega); done))) | refine ⟨Or.inl rfl, ?_⟩ | refine ⟨Or.inr rfl, ?_⟩ | (refine ⟨?_, ?_⟩; (focus ((try simp (disch := omega) only [nI_add, nI_mul, nI_add, nI_sub']); exact in_nI (by omega) (by omega)))))
  unfold hmB at hQ
  by_cases h : plN X l = hmN d l
  · rw [decide_eq_true h] at hQ
    repeat (first | (refine xbr_f ?_ ?_; (focus ((simp (disch := omega) only [ix_lt, ix_le, ix_eq, ix_0, nI_clamp, nI_toInt, ng_T, nI_add, nI_mul, nI_sub', Int.neg_zero, not_false_eq_true, not_true_eq_false, e1, e2] <;> omega); done))) | (refine xbr_t ?_ ?_; (focus ((simp (disch := omega) only [ix_lt, ix_le, ix_eq, ix_0, nI_clamp, nI_toInt, ng_T, nI_add, nI_mul, nI_sub', Int.neg_zero, not_false_eq_true, not_true_eq_false, e1, e2] <;> omega); done))) | refine ⟨Or.inl rfl, ?_⟩ | refine ⟨Or.inr rfl, ?_⟩ | (refine ⟨?_, ?_⟩; (focus ((try simp (disch := omega) only [e1, e2, nI_mul, nI_add, nI_sub']); exact in_nI (by omega) (by omega)))))
    exact hQ
  · rw [decide_eq_false h] at hQ
    repeat (first | (refine xbr_f ?_ ?_; (focus ((simp (disch := omega) only [ix_lt, ix_le, ix_eq, ix_0, nI_clamp, nI_toInt, ng_T, nI_add, nI_mul, nI_sub', Int.neg_zero, not_false_eq_true, not_true_eq_false, e1, e2] <;> omega); done))) | (refine xbr_t ?_ ?_; (focus ((simp (disch := omega) only [ix_lt, ix_le, ix_eq, ix_0, nI_clamp, nI_toInt, ng_T, nI_add, nI_mul, nI_sub', Int.neg_zero, not_false_eq_true, not_true_eq_false, e1, e2] <;> omega); done))) | refine ⟨Or.inl rfl, ?_⟩ | refine ⟨Or.inr rfl, ?_⟩ | (refine ⟨?_, ?_⟩; (focus ((try simp (disch := omega) only [e1, e2, nI_mul, nI_add, nI_sub']); exact in_nI (by omega) (by omega)))))
    exact hQ
def csX11_atHome : xCs := [(mX11_isHome, sX11_isHome)]
theorem okX11_atHome : xOkM mX11_atHome csX11_atHome := ⟨dX11_atHome, by decide +kernel, by decide +kernel, ⟨wdX11_121, wdX11_139, trivial⟩⟩
theorem hhX11_atHome : ∀ q ∈ csX11_atHome, xHd q.1 := xall1 hX11_isHome (xall0)
theorem kkX11_atHome : ∀ q ∈ csX11_atHome, ∀ l, xCon l q.1 q.2 := xall1 kX11_isHome (xall0)
def sX11_atHome : xSpec := xReg fun as I L Q => ∃ (d : PD) (X c : Nat), as = [.ref 27] ∧ pdR d I ∧ nwR d X c (I 37) ∧ Q (some (.int (nI (bsN (hmB d X) d.nL)))) I L
set_option maxRecDepth 100000 in
theorem kX11_atHome : ∀ l, xCon l mX11_atHome sX11_atHome := by
  refine xcon_of okX11_atHome hX11_atHome rfl (by decide) hhX11_atHome kkX11_atHome ?_
  rintro as n0 I L P Q ⟨rfl, rfl, d, X, c, rfl, hP, hN, hQ⟩
  refine ⟨Nat.le_of_ble_eq_true rfl, ?_⟩
  have hl := hP.l
  have h5 := hP.ok.l5
  refine xrun okX11_atHome hhX11_atHome [(4, [true, true, true])] 20 ?_
  refine xlp (M := mX11_atHome) (cs := csX11_atHome) (pc := 4) d.nL (fun i => [some (.ref 27), some (.int (nI (bsN (hmB d X) i))), some (.int (nI i))]) (fun _ => I) (fun _ => L) ?_ ?_
  · intro i hi ih
    refine xrun okX11_atHome hhX11_atHome [(4, [true, true, true])] 60 ?_
    (first | (refine xbr_f ?_ ?_; (focus ((simp (disch := omega) only [ix_lt, ix_le, ix_eq, ix_0, nI_clamp, nI_toInt, ng_T, nI_add, nI_mul, nI_sub', Int.neg_zero, not_false_eq_true, not_true_eq_false, hl] <;> omega); done))) | (refine xbr_t ?_ ?_; (focus ((simp (disch := omega) only [ix_lt, ix_le, ix_eq, ix_0, nI_clamp, nI_toInt, ng_T, nI_add, nI_mul, nI_sub', Int.neg_zero, not_false_eq_true, not_true_eq_false, hl] <;> omega); done))) | refine ⟨Or.inl rfl, ?_⟩ | refine ⟨Or.inr rfl, ?_⟩ | (refine ⟨?_, ?_⟩; (focus ((try simp (disch := omega) only [hl, nI_mul, nI_add, nI_sub']); exact in_nI (by omega) (by omega)))))
    refine ⟨rfl, rfl, d, X, c, i, rfl, hP, hN, hi, ?_⟩
    cases hb : hmB d X i
    · (first | refine xbr_t (by decide) ?_ | refine xbr_f (by decide) ?_)
      refine xgo_eq ih ?_ rfl rfl
      ((repeat' (first | (with_reducible rfl) | exact xv_nil | refine xv_cons ?_ ?_ | refine xv_i ?_ | refine xv_l ?_)) <;> (simp (disch := omega) only [↓reduceIte, Bool.false_eq_true, Nat.one_mul, Nat.zero_mul, Nat.or_zero, Nat.add_zero, Nat.zero_add, Bool.toNat_true, Bool.toNat_false, shl_n, shr_n, fa_and, fa_or, nx_xor, nI_add, nI_mul, nI_sub', and_1, and_7, and_3', and_15, bsN, hb]))
    · (first | refine xbr_t (by decide) ?_ | refine xbr_f (by decide) ?_)
      refine xgo_eq ih ?_ rfl rfl
      ((repeat' (first | (with_reducible rfl) | exact xv_nil | refine xv_cons ?_ ?_ | refine xv_i ?_ | refine xv_l ?_)) <;> (simp (disch := omega) only [↓reduceIte, Bool.false_eq_true, Nat.one_mul, Nat.zero_mul, Nat.or_zero, Nat.add_zero, Nat.zero_add, Bool.toNat_true, Bool.toNat_false, shl_n, shr_n, fa_and, fa_or, nx_xor, nI_add, nI_mul, nI_sub', and_1, and_7, and_3', and_15, bsN, hb]))
  · refine xrun okX11_atHome hhX11_atHome [] 60 ?_
    repeat (first | (refine xbr_f ?_ ?_; (focus ((simp (disch := omega) only [ix_lt, ix_le, ix_eq, ix_0, nI_clamp, nI_toInt, ng_T, nI_add, nI_mul, nI_sub', Int.neg_zero, not_false_eq_true, not_true_eq_false, hl] <;> omega); done))) | (refine xbr_t ?_ ?_; (focus ((simp (disch := omega) only [ix_lt, ix_le, ix_eq, ix_0, nI_clamp, nI_toInt, ng_T, nI_add, nI_mul, nI_sub', Int.neg_zero, not_false_eq_true, not_true_eq_false, hl] <;> omega); done))) | refine ⟨Or.inl rfl, ?_⟩ | refine ⟨Or.inr rfl, ?_⟩ | (refine ⟨?_, ?_⟩; (focus ((try simp (disch := omega) only [hl, nI_mul, nI_add, nI_sub']); exact in_nI (by omega) (by omega)))))
    exact hQ
def mayB (d : PD) (X i g l : Nat) : Bool := decide (plN X l = inN X i) && (!hmB d X l && !tbB g l)
def lkB (d : PD) (X i l : Nat) : Nat := lkN (kdN d i) (meN X i) (mkN X l)
def bsO (d : PD) (X i g : Nat) : Nat → Nat
  | 0 => 0
  | n + 1 => if mayB d X i g n = true ∧ (bsO d X i g n = 0 ∨ lkB d X i (bsO d X i g n - 1) < lkB d X i n) then n + 1 else bsO d X i g n
theorem bsO_s (d : PD) (X i g n : Nat) : bsO d X i g (n + 1) = if mayB d X i g n = true ∧ (bsO d X i g n = 0 ∨ lkB d X i (bsO d X i g n - 1) < lkB d X i n) then n + 1 else bsO d X i g n := rfl
theorem bsO_le (d : PD) (X i g : Nat) : ∀ n, bsO d X i g n ≤ n
  | 0 => Nat.le_refl 0
  | n + 1 => by
    have := bsO_le d X i g n
    rw [bsO_s]
    split <;> omega
theorem pu_may (d : PD) (X i g n : Nat) : (if tbB g n then 0 else pullN d X i n) = if mayB d X i g n = true then (if lkB d X i n < lsN (kdN d i) then 0 else lkB d X i n) else 0 := by
  unfold mayB pullN hmB lkB
  by_cases h1 : plN X n = inN X i
  · by_cases h2 : plN X n = hmN d n
    · rw [if_neg (show ¬ (plN X n = inN X i ∧ ¬ plN X n = hmN d n) from fun q => q.2 h2), decide_eq_true h2]
      simp
    · rw [if_pos (show plN X n = inN X i ∧ ¬ plN X n = hmN d n from ⟨h1, h2⟩), decide_eq_true h1, decide_eq_false h2]
      cases tbB g n <;> simp
  · rw [if_neg (show ¬ (plN X n = inN X i ∧ ¬ plN X n = hmN d n) from fun q => h1 q.1), decide_eq_false h1]
    simp
theorem bsO_ch (d : PD) (X i g : Nat) : ∀ n, chN d X i g n = if bsO d X i g n = 0 ∨ lkB d X i (bsO d X i g n - 1) < lsN (kdN d i) then (0, 0) else (bsO d X i g n, lkB d X i (bsO d X i g n - 1))
  | 0 => rfl
  | n + 1 => by
    have ih := bsO_ch d X i g n
    have h1 := lsN_1 (kdN d i)
    rw [chN_s, pu_may, bsO_s, ih]
    by_cases m : mayB d X i g n = true
    · rw [if_pos m]
      by_cases hb : bsO d X i g n = 0
      · rw [if_pos (show bsO d X i g n = 0 ∨ lkB d X i (bsO d X i g n - 1) < lsN (kdN d i) from Or.inl hb), if_pos (show mayB d X i g n = true ∧ (bsO d X i g n = 0 ∨ lkB d X i (bsO d X i g n - 1) < lkB d X i n) from ⟨m, Or.inl hb⟩), Nat.add_sub_cancel]
        by_cases c : lkB d X i n < lsN (kdN d i)
        · rw [if_pos c, if_pos (show n + 1 = 0 ∨ lkB d X i n < lsN (kdN d i) from Or.inr c), if_neg (Nat.lt_irrefl 0)]
        · rw [if_neg c, if_neg (show ¬ (n + 1 = 0 ∨ lkB d X i n < lsN (kdN d i)) from fun q => by omega), if_pos (show (0, 0).2 < lkB d X i n by show 0 < lkB d X i n; omega)]
      · by_cases c : lkB d X i (bsO d X i g n - 1) < lkB d X i n
        · rw [if_pos (show mayB d X i g n = true ∧ (bsO d X i g n = 0 ∨ lkB d X i (bsO d X i g n - 1) < lkB d X i n) from ⟨m, Or.inr c⟩), Nat.add_sub_cancel]
          by_cases e : lkB d X i (bsO d X i g n - 1) < lsN (kdN d i)
          · rw [if_pos (show bsO d X i g n = 0 ∨ lkB d X i (bsO d X i g n - 1) < lsN (kdN d i) from Or.inr e)]
            by_cases f : lkB d X i n < lsN (kdN d i)
            · rw [if_pos f, if_pos (show n + 1 = 0 ∨ lkB d X i n < lsN (kdN d i) from Or.inr f), if_neg (Nat.lt_irrefl 0)]
            · rw [if_neg f, if_neg (show ¬ (n + 1 = 0 ∨ lkB d X i n < lsN (kdN d i)) from fun q => by omega), if_pos (show (0, 0).2 < lkB d X i n by show 0 < lkB d X i n; omega)]
          · rw [if_neg (show ¬ (bsO d X i g n = 0 ∨ lkB d X i (bsO d X i g n - 1) < lsN (kdN d i)) from fun q => by omega), if_neg (show ¬ lkB d X i n < lsN (kdN d i) by omega), if_neg (show ¬ (n + 1 = 0 ∨ lkB d X i n < lsN (kdN d i)) from fun q => by omega), if_pos (show (bsO d X i g n, lkB d X i (bsO d X i g n - 1)).2 < lkB d X i n from c)]
        · rw [if_neg (show ¬ (mayB d X i g n = true ∧ (bsO d X i g n = 0 ∨ lkB d X i (bsO d X i g n - 1) < lkB d X i n)) from fun q => by omega)]
          by_cases e : lkB d X i (bsO d X i g n - 1) < lsN (kdN d i)
          · rw [if_pos (show bsO d X i g n = 0 ∨ lkB d X i (bsO d X i g n - 1) < lsN (kdN d i) from Or.inr e), if_pos (show lkB d X i n < lsN (kdN d i) by omega), if_neg (Nat.lt_irrefl 0)]
          · rw [if_neg (show ¬ (bsO d X i g n = 0 ∨ lkB d X i (bsO d X i g n - 1) < lsN (kdN d i)) from fun q => by omega)]
            refine if_neg ?_
            show ¬ lkB d X i (bsO d X i g n - 1) < _
            split <;> omega
    · rw [if_neg m, if_neg (show ¬ (mayB d X i g n = true ∧ (bsO d X i g n = 0 ∨ lkB d X i (bsO d X i g n - 1) < lkB d X i n)) from fun q => m q.1), if_neg (Nat.not_lt_zero _)]
def csX11_takesOne : xCs := [(mX11_isHome, sX11_isHome), (mX11_likeTo, sX11_likeTo), (mX11_refuses, sX11_refuses)]
theorem okX11_takesOne : xOkM mX11_takesOne csX11_takesOne := ⟨dX11_takesOne, by decide +kernel, by decide +kernel, ⟨wdX11_121, wdX11_37, wdX11_37, wdX11_139, wdX11_136, wdX11_136, wdX11_142, wdX11_40, trivial⟩⟩
theorem hhX11_takesOne : ∀ q ∈ csX11_takesOne, xHd q.1 := xall1 hX11_isHome (xall1 hX11_likeTo (xall1 hX11_refuses (xall0)))
theorem kkX11_takesOne : ∀ q ∈ csX11_takesOne, ∀ l, xCon l q.1 q.2 := xall1 kX11_isHome (xall1 kX11_likeTo (xall1 kX11_refuses (xall0)))
def sX11_takesOne : xSpec := xReg fun as I L Q => ∃ (d : PD) (X c i g : Nat), as = [.ref 27, .int (nI i), .int (nI g)] ∧ pdR d I ∧ nwR d X c (I 37) ∧ i < d.nA ∧ g < 32 ∧ Q (some (.int (nI (if (chN d X i g d.nL).1 = 0 then g else g ||| 2 ^ ((chN d X i g d.nL).1 - 1))))) (xup I 38 i (cI (chN d X i g d.nL).1)) L
set_option maxRecDepth 100000 in
theorem kX11_takesOne : ∀ l, xCon l mX11_takesOne sX11_takesOne := by
  refine xcon_of okX11_takesOne hX11_takesOne rfl (by decide) hhX11_takesOne kkX11_takesOne ?_
  rintro as n0 I L P Q ⟨rfl, rfl, d, X, c, i, g, rfl, hP, hN, hi, hg, hQ⟩
  refine ⟨Nat.le_of_ble_eq_true rfl, ?_⟩
  have hl := hP.l
  have h4 := hP.ok.a4
  have h5 := hP.ok.l5
  have h8 := inN_8 X i
  have e0 := hN.i hi
  refine xrun okX11_takesOne hhX11_takesOne [(6, [true, true, true, true, true, false])] 20 ?_
  refine xlp (M := mX11_takesOne) (cs := csX11_takesOne) (pc := 6) d.nL (fun l => [some (.ref 27), some (.int (nI i)), some (.int (nI g)), some (.int (cI (bsO d X i g l))), some (.int (nI l)), none]) (fun _ => I) (fun _ => L) ?_ ?_
  · intro l hl2 ih
    refine xrun okX11_takesOne hhX11_takesOne [(6, [true, true, true, true, true, false])] 90 ?_
    have hp8 := plN_8 X l
    have e1 := hN.p hl2
    have hs := bsO_s d X i g l
    have hble := bsO_le d X i g l
    repeat (first | (refine xbr_f ?_ ?_; (focus ((simp (disch := omega) only [ix_lt, ix_le, ix_eq, ix_0, nI_clamp, nI_toInt, ng_T, nI_add, nI_mul, nI_sub', Int.neg_zero, not_false_eq_true, not_true_eq_false, hl, nI_add] <;> omega); done))) | (refine xbr_t ?_ ?_; (focus ((simp (disch := omega) only [ix_lt, ix_le, ix_eq, ix_0, nI_clamp, nI_toInt, ng_T, nI_add, nI_mul, nI_sub', Int.neg_zero, not_false_eq_true, not_true_eq_false, hl, nI_add] <;> omega); done))) | refine ⟨Or.inl rfl, ?_⟩ | refine ⟨Or.inr rfl, ?_⟩ | (refine ⟨?_, ?_⟩; (focus ((try simp (disch := omega) only [hl, nI_add, nI_mul, nI_add, nI_sub']); exact in_nI (by omega) (by omega)))))
    by_cases c1 : plN X l = inN X i
    · repeat (first | (refine xbr_f ?_ ?_; (focus ((simp (disch := omega) only [ix_lt, ix_le, ix_eq, ix_0, nI_clamp, nI_toInt, ng_T, nI_add, nI_mul, nI_sub', Int.neg_zero, not_false_eq_true, not_true_eq_false, e0, e1] <;> omega); done))) | (refine xbr_t ?_ ?_; (focus ((simp (disch := omega) only [ix_lt, ix_le, ix_eq, ix_0, nI_clamp, nI_toInt, ng_T, nI_add, nI_mul, nI_sub', Int.neg_zero, not_false_eq_true, not_true_eq_false, e0, e1] <;> omega); done))) | refine ⟨Or.inl rfl, ?_⟩ | refine ⟨Or.inr rfl, ?_⟩ | (refine ⟨?_, ?_⟩; (focus ((try simp (disch := omega) only [e0, e1, nI_mul, nI_add, nI_sub']); exact in_nI (by omega) (by omega)))))
      refine ⟨rfl, rfl, d, X, c, l, rfl, hP, hN, hl2, ?_⟩
      cases hb : hmB d X l
      · (first | refine xbr_t (by decide) ?_ | refine xbr_f (by decide) ?_)
        cases ht : tbB g l
        · have hm : mayB d X i g l = true := by
            unfold mayB
            rw [decide_eq_true c1, hb, ht]
            rfl
          have eb : (nI g >>> (nI l &&& 31)) &&& nI 1 = nI 0 := by
            rw [bit_i (show g < 2 ^ 31 by omega) (show l < 32 by omega), ht]
            rfl
          (first | (refine xbr_f ?_ ?_; (focus ((simp (disch := omega) only [ix_lt, ix_le, ix_eq, ix_0, nI_clamp, nI_toInt, ng_T, nI_add, nI_mul, nI_sub', Int.neg_zero, not_false_eq_true, not_true_eq_false, eb] <;> omega); done))) | (refine xbr_t ?_ ?_; (focus ((simp (disch := omega) only [ix_lt, ix_le, ix_eq, ix_0, nI_clamp, nI_toInt, ng_T, nI_add, nI_mul, nI_sub', Int.neg_zero, not_false_eq_true, not_true_eq_false, eb] <;> omega); done))) | refine ⟨Or.inl rfl, ?_⟩ | refine ⟨Or.inr rfl, ?_⟩ | (refine ⟨?_, ?_⟩; (focus ((try simp (disch := omega) only [eb, nI_mul, nI_add, nI_sub']); exact in_nI (by omega) (by omega)))))
          (first | refine xbr_t (by decide) ?_ | refine xbr_f (by decide) ?_)
          by_cases hz : bsO d X i g l = 0
          · rw [if_pos ⟨hm, Or.inl hz⟩] at hs
            rw [hz, cI_0]
            repeat (first | (refine xbr_f ?_ ?_; (focus ((simp (disch := omega) only [ix_lt, ix_le, ix_eq, ix_0, nI_clamp, nI_toInt, ng_T, nI_add, nI_mul, nI_sub', Int.neg_zero, not_false_eq_true, not_true_eq_false] <;> omega); done))) | (refine xbr_t ?_ ?_; (focus ((simp (disch := omega) only [ix_lt, ix_le, ix_eq, ix_0, nI_clamp, nI_toInt, ng_T, nI_add, nI_mul, nI_sub', Int.neg_zero, not_false_eq_true, not_true_eq_false] <;> omega); done))) | refine ⟨Or.inl rfl, ?_⟩ | refine ⟨Or.inr rfl, ?_⟩ | (refine ⟨?_, ?_⟩; (focus (exact in_nI (by omega) (by omega)))))
            refine xgo_eq ih ?_ rfl rfl
            rw [hs, cI_s]
            ((repeat' (first | (with_reducible rfl) | exact xv_nil | refine xv_cons ?_ ?_ | refine xv_i ?_ | refine xv_l ?_)) <;> (simp (disch := omega) only [↓reduceIte, Bool.false_eq_true, Nat.one_mul, Nat.zero_mul, Nat.or_zero, Nat.add_zero, Nat.zero_add, Bool.toNat_true, Bool.toNat_false, shl_n, shr_n, fa_and, fa_or, nx_xor, nI_add, nI_mul, nI_sub', and_1, and_7, and_3', and_15]))
          · obtain ⟨b, hbb⟩ : ∃ b, bsO d X i g l = b + 1 := ⟨bsO d X i g l - 1, by omega⟩
            rw [hbb, Nat.add_sub_cancel] at hs
            rw [hbb, cI_s]
            repeat (first | (refine xbr_f ?_ ?_; (focus ((simp (disch := omega) only [ix_lt, ix_le, ix_eq, ix_0, nI_clamp, nI_toInt, ng_T, nI_add, nI_mul, nI_sub', Int.neg_zero, not_false_eq_true, not_true_eq_false] <;> omega); done))) | (refine xbr_t ?_ ?_; (focus ((simp (disch := omega) only [ix_lt, ix_le, ix_eq, ix_0, nI_clamp, nI_toInt, ng_T, nI_add, nI_mul, nI_sub', Int.neg_zero, not_false_eq_true, not_true_eq_false] <;> omega); done))) | refine ⟨Or.inl rfl, ?_⟩ | refine ⟨Or.inr rfl, ?_⟩ | (refine ⟨?_, ?_⟩; (focus (exact in_nI (by omega) (by omega)))))
            refine ⟨rfl, rfl, d, X, c, i, l, rfl, hP, hN, hi, hl2, ?_⟩
            refine ⟨rfl, rfl, d, X, c, i, b, rfl, hP, hN, hi, by omega, ?_⟩
            have k1 := lkN_le (k := kdN d i) (x := mkN X l) (meN_16 X i)
            have k2 := lkN_le (k := kdN d i) (x := mkN X b) (meN_16 X i)
            by_cases hlt : lkN (kdN d i) (meN X i) (mkN X b) < lkN (kdN d i) (meN X i) (mkN X l)
            · rw [if_pos ⟨hm, Or.inr hlt⟩] at hs
              repeat (first | (refine xbr_f ?_ ?_; (focus ((simp (disch := omega) only [ix_lt, ix_le, ix_eq, ix_0, nI_clamp, nI_toInt, ng_T, nI_add, nI_mul, nI_sub', Int.neg_zero, not_false_eq_true, not_true_eq_false] <;> omega); done))) | (refine xbr_t ?_ ?_; (focus ((simp (disch := omega) only [ix_lt, ix_le, ix_eq, ix_0, nI_clamp, nI_toInt, ng_T, nI_add, nI_mul, nI_sub', Int.neg_zero, not_false_eq_true, not_true_eq_false] <;> omega); done))) | refine ⟨Or.inl rfl, ?_⟩ | refine ⟨Or.inr rfl, ?_⟩ | (refine ⟨?_, ?_⟩; (focus (exact in_nI (by omega) (by omega)))))
              refine xgo_eq ih ?_ rfl rfl
              rw [hs, cI_s]
              ((repeat' (first | (with_reducible rfl) | exact xv_nil | refine xv_cons ?_ ?_ | refine xv_i ?_ | refine xv_l ?_)) <;> (simp (disch := omega) only [↓reduceIte, Bool.false_eq_true, Nat.one_mul, Nat.zero_mul, Nat.or_zero, Nat.add_zero, Nat.zero_add, Bool.toNat_true, Bool.toNat_false, shl_n, shr_n, fa_and, fa_or, nx_xor, nI_add, nI_mul, nI_sub', and_1, and_7, and_3', and_15]))
            · rw [if_neg (show ¬ (mayB d X i g l = true ∧ (b + 1 = 0 ∨ lkB d X i b < lkB d X i l)) from fun q => by
                rcases q.2 with q | q
                · omega
                · exact hlt q)] at hs
              repeat (first | (refine xbr_f ?_ ?_; (focus ((simp (disch := omega) only [ix_lt, ix_le, ix_eq, ix_0, nI_clamp, nI_toInt, ng_T, nI_add, nI_mul, nI_sub', Int.neg_zero, not_false_eq_true, not_true_eq_false] <;> omega); done))) | (refine xbr_t ?_ ?_; (focus ((simp (disch := omega) only [ix_lt, ix_le, ix_eq, ix_0, nI_clamp, nI_toInt, ng_T, nI_add, nI_mul, nI_sub', Int.neg_zero, not_false_eq_true, not_true_eq_false] <;> omega); done))) | refine ⟨Or.inl rfl, ?_⟩ | refine ⟨Or.inr rfl, ?_⟩ | (refine ⟨?_, ?_⟩; (focus (exact in_nI (by omega) (by omega)))))
              refine xgo_eq ih ?_ rfl rfl
              rw [hs, cI_s]
              ((repeat' (first | (with_reducible rfl) | exact xv_nil | refine xv_cons ?_ ?_ | refine xv_i ?_ | refine xv_l ?_)) <;> (simp (disch := omega) only [↓reduceIte, Bool.false_eq_true, Nat.one_mul, Nat.zero_mul, Nat.or_zero, Nat.add_zero, Nat.zero_add, Bool.toNat_true, Bool.toNat_false, shl_n, shr_n, fa_and, fa_or, nx_xor, nI_add, nI_mul, nI_sub', and_1, and_7, and_3', and_15]))
        · have hm : ¬ mayB d X i g l = true := by
            unfold mayB
            rw [ht]
            simp
          rw [if_neg (fun q => hm q.1)] at hs
          have eb : (nI g >>> (nI l &&& 31)) &&& nI 1 = nI 1 := by
            rw [bit_i (show g < 2 ^ 31 by omega) (show l < 32 by omega), ht]
            rfl
          (first | (refine xbr_f ?_ ?_; (focus ((simp (disch := omega) only [ix_lt, ix_le, ix_eq, ix_0, nI_clamp, nI_toInt, ng_T, nI_add, nI_mul, nI_sub', Int.neg_zero, not_false_eq_true, not_true_eq_false, eb] <;> omega); done))) | (refine xbr_t ?_ ?_; (focus ((simp (disch := omega) only [ix_lt, ix_le, ix_eq, ix_0, nI_clamp, nI_toInt, ng_T, nI_add, nI_mul, nI_sub', Int.neg_zero, not_false_eq_true, not_true_eq_false, eb] <;> omega); done))) | refine ⟨Or.inl rfl, ?_⟩ | refine ⟨Or.inr rfl, ?_⟩ | (refine ⟨?_, ?_⟩; (focus ((try simp (disch := omega) only [eb, nI_mul, nI_add, nI_sub']); exact in_nI (by omega) (by omega)))))
          (first | refine xbr_t (by decide) ?_ | refine xbr_f (by decide) ?_)
          refine xgo_eq ih ?_ rfl rfl
          rw [hs]
          ((repeat' (first | (with_reducible rfl) | exact xv_nil | refine xv_cons ?_ ?_ | refine xv_i ?_ | refine xv_l ?_)) <;> (simp (disch := omega) only [↓reduceIte, Bool.false_eq_true, Nat.one_mul, Nat.zero_mul, Nat.or_zero, Nat.add_zero, Nat.zero_add, Bool.toNat_true, Bool.toNat_false, shl_n, shr_n, fa_and, fa_or, nx_xor, nI_add, nI_mul, nI_sub', and_1, and_7, and_3', and_15]))
      · have hm : ¬ mayB d X i g l = true := by
          unfold mayB
          rw [hb]
          simp
        rw [if_neg (fun q => hm q.1)] at hs
        (first | refine xbr_t (by decide) ?_ | refine xbr_f (by decide) ?_)
        (first | refine xbr_t (by decide) ?_ | refine xbr_f (by decide) ?_)
        refine xgo_eq ih ?_ rfl rfl
        rw [hs]
        ((repeat' (first | (with_reducible rfl) | exact xv_nil | refine xv_cons ?_ ?_ | refine xv_i ?_ | refine xv_l ?_)) <;> (simp (disch := omega) only [↓reduceIte, Bool.false_eq_true, Nat.one_mul, Nat.zero_mul, Nat.or_zero, Nat.add_zero, Nat.zero_add, Bool.toNat_true, Bool.toNat_false, shl_n, shr_n, fa_and, fa_or, nx_xor, nI_add, nI_mul, nI_sub', and_1, and_7, and_3', and_15]))
    · have hm : ¬ mayB d X i g l = true := by
        unfold mayB
        rw [decide_eq_false c1]
        simp
      rw [if_neg (fun q => hm q.1)] at hs
      repeat (first | (refine xbr_f ?_ ?_; (focus ((simp (disch := omega) only [ix_lt, ix_le, ix_eq, ix_0, nI_clamp, nI_toInt, ng_T, nI_add, nI_mul, nI_sub', Int.neg_zero, not_false_eq_true, not_true_eq_false, e0, e1] <;> omega); done))) | (refine xbr_t ?_ ?_; (focus ((simp (disch := omega) only [ix_lt, ix_le, ix_eq, ix_0, nI_clamp, nI_toInt, ng_T, nI_add, nI_mul, nI_sub', Int.neg_zero, not_false_eq_true, not_true_eq_false, e0, e1] <;> omega); done))) | refine ⟨Or.inl rfl, ?_⟩ | refine ⟨Or.inr rfl, ?_⟩ | (refine ⟨?_, ?_⟩; (focus ((try simp (disch := omega) only [e0, e1, nI_mul, nI_add, nI_sub']); exact in_nI (by omega) (by omega)))))
      refine xgo_eq ih ?_ rfl rfl
      rw [hs]
      ((repeat' (first | (with_reducible rfl) | exact xv_nil | refine xv_cons ?_ ?_ | refine xv_i ?_ | refine xv_l ?_)) <;> (simp (disch := omega) only [↓reduceIte, Bool.false_eq_true, Nat.one_mul, Nat.zero_mul, Nat.or_zero, Nat.add_zero, Nat.zero_add, Bool.toNat_true, Bool.toNat_false, shl_n, shr_n, fa_and, fa_or, nx_xor, nI_add, nI_mul, nI_sub', and_1, and_7, and_3', and_15]))
  · refine xrun okX11_takesOne hhX11_takesOne [] 90 ?_
    repeat (first | (refine xbr_f ?_ ?_; (focus ((simp (disch := omega) only [ix_lt, ix_le, ix_eq, ix_0, nI_clamp, nI_toInt, ng_T, nI_add, nI_mul, nI_sub', Int.neg_zero, not_false_eq_true, not_true_eq_false, hl] <;> omega); done))) | (refine xbr_t ?_ ?_; (focus ((simp (disch := omega) only [ix_lt, ix_le, ix_eq, ix_0, nI_clamp, nI_toInt, ng_T, nI_add, nI_mul, nI_sub', Int.neg_zero, not_false_eq_true, not_true_eq_false, hl] <;> omega); done))) | refine ⟨Or.inl rfl, ?_⟩ | refine ⟨Or.inr rfl, ?_⟩ | (refine ⟨?_, ?_⟩; (focus ((try simp (disch := omega) only [hl, nI_mul, nI_add, nI_sub']); exact in_nI (by omega) (by omega)))))
    have hch := bsO_ch d X i g d.nL
    have hble := bsO_le d X i g d.nL
    by_cases hz : bsO d X i g d.nL = 0
    · rw [if_pos (Or.inl hz)] at hch
      have e : (chN d X i g d.nL).1 = 0 := by rw [hch]
      rw [e, if_pos rfl, cI_0] at hQ
      rw [hz, cI_0]
      repeat (first | (refine xbr_f ?_ ?_; (focus ((simp (disch := omega) only [ix_lt, ix_le, ix_eq, ix_0, nI_clamp, nI_toInt, ng_T, nI_add, nI_mul, nI_sub', Int.neg_zero, not_false_eq_true, not_true_eq_false, nI_add] <;> omega); done))) | (refine xbr_t ?_ ?_; (focus ((simp (disch := omega) only [ix_lt, ix_le, ix_eq, ix_0, nI_clamp, nI_toInt, ng_T, nI_add, nI_mul, nI_sub', Int.neg_zero, not_false_eq_true, not_true_eq_false, nI_add] <;> omega); done))) | refine ⟨Or.inl rfl, ?_⟩ | refine ⟨Or.inr rfl, ?_⟩ | (refine ⟨?_, ?_⟩; (focus ((try simp (disch := omega) only [nI_add, nI_mul, nI_add, nI_sub']); exact in_nI (by omega) (by omega)))))
      simp (disch := omega) only [nI_mul, nI_add, nI_clamp, nI_sub']
      repeat (first | (refine xbr_f ?_ ?_; (focus ((simp (disch := omega) only [ix_lt, ix_le, ix_eq, ix_0, nI_clamp, nI_toInt, ng_T, nI_add, nI_mul, nI_sub', Int.neg_zero, not_false_eq_true, not_true_eq_false] <;> omega); done))) | (refine xbr_t ?_ ?_; (focus ((simp (disch := omega) only [ix_lt, ix_le, ix_eq, ix_0, nI_clamp, nI_toInt, ng_T, nI_add, nI_mul, nI_sub', Int.neg_zero, not_false_eq_true, not_true_eq_false] <;> omega); done))) | refine ⟨Or.inl rfl, ?_⟩ | refine ⟨Or.inr rfl, ?_⟩ | (refine ⟨?_, ?_⟩; (focus (exact in_nI (by omega) (by omega)))))
      exact hQ
    · obtain ⟨b, hbb⟩ : ∃ b, bsO d X i g d.nL = b + 1 := ⟨bsO d X i g d.nL - 1, by omega⟩
      rw [hbb, Nat.add_sub_cancel] at hch
      rw [hbb, cI_s]
      repeat (first | (refine xbr_f ?_ ?_; (focus ((simp (disch := omega) only [ix_lt, ix_le, ix_eq, ix_0, nI_clamp, nI_toInt, ng_T, nI_add, nI_mul, nI_sub', Int.neg_zero, not_false_eq_true, not_true_eq_false] <;> omega); done))) | (refine xbr_t ?_ ?_; (focus ((simp (disch := omega) only [ix_lt, ix_le, ix_eq, ix_0, nI_clamp, nI_toInt, ng_T, nI_add, nI_mul, nI_sub', Int.neg_zero, not_false_eq_true, not_true_eq_false] <;> omega); done))) | refine ⟨Or.inl rfl, ?_⟩ | refine ⟨Or.inr rfl, ?_⟩ | (refine ⟨?_, ?_⟩; (focus (exact in_nI (by omega) (by omega)))))
      refine ⟨rfl, rfl, d, X, c, i, b, rfl, hP, hN, hi, by omega, ?_⟩
      rw [wt_dec]
      by_cases hlt : lkB d X i b < lsN (kdN d i)
      · rw [if_pos (Or.inr hlt)] at hch
        have e : (chN d X i g d.nL).1 = 0 := by rw [hch]
        rw [e, if_pos rfl, cI_0] at hQ
        rw [decide_eq_false (show ¬ lsN (kdN d i) ≤ lkN (kdN d i) (meN X i) (mkN X b) from fun q => by
          have : lkN (kdN d i) (meN X i) (mkN X b) < lsN (kdN d i) := hlt
          omega)]
        (first | refine xbr_t (by decide) ?_ | refine xbr_f (by decide) ?_)
        repeat (first | (refine xbr_f ?_ ?_; (focus ((simp (disch := omega) only [ix_lt, ix_le, ix_eq, ix_0, nI_clamp, nI_toInt, ng_T, nI_add, nI_mul, nI_sub', Int.neg_zero, not_false_eq_true, not_true_eq_false, nI_add] <;> omega); done))) | (refine xbr_t ?_ ?_; (focus ((simp (disch := omega) only [ix_lt, ix_le, ix_eq, ix_0, nI_clamp, nI_toInt, ng_T, nI_add, nI_mul, nI_sub', Int.neg_zero, not_false_eq_true, not_true_eq_false, nI_add] <;> omega); done))) | refine ⟨Or.inl rfl, ?_⟩ | refine ⟨Or.inr rfl, ?_⟩ | (refine ⟨?_, ?_⟩; (focus ((try simp (disch := omega) only [nI_add, nI_mul, nI_add, nI_sub']); exact in_nI (by omega) (by omega)))))
        simp (disch := omega) only [nI_mul, nI_add, nI_clamp, nI_sub']
        repeat (first | (refine xbr_f ?_ ?_; (focus ((simp (disch := omega) only [ix_lt, ix_le, ix_eq, ix_0, nI_clamp, nI_toInt, ng_T, nI_add, nI_mul, nI_sub', Int.neg_zero, not_false_eq_true, not_true_eq_false] <;> omega); done))) | (refine xbr_t ?_ ?_; (focus ((simp (disch := omega) only [ix_lt, ix_le, ix_eq, ix_0, nI_clamp, nI_toInt, ng_T, nI_add, nI_mul, nI_sub', Int.neg_zero, not_false_eq_true, not_true_eq_false] <;> omega); done))) | refine ⟨Or.inl rfl, ?_⟩ | refine ⟨Or.inr rfl, ?_⟩ | (refine ⟨?_, ?_⟩; (focus (exact in_nI (by omega) (by omega)))))
        exact hQ
      · rw [if_neg (fun q => by omega)] at hch
        have e : (chN d X i g d.nL).1 = b + 1 := by rw [hch]
        rw [e, if_neg (by omega), cI_s, Nat.add_sub_cancel] at hQ
        rw [decide_eq_true (show lsN (kdN d i) ≤ lkN (kdN d i) (meN X i) (mkN X b) by
          have : ¬ lkN (kdN d i) (meN X i) (mkN X b) < lsN (kdN d i) := hlt
          omega)]
        (first | refine xbr_t (by decide) ?_ | refine xbr_f (by decide) ?_)
        repeat (first | (refine xbr_f ?_ ?_; (focus ((simp (disch := omega) only [ix_lt, ix_le, ix_eq, ix_0, nI_clamp, nI_toInt, ng_T, nI_add, nI_mul, nI_sub', Int.neg_zero, not_false_eq_true, not_true_eq_false, nI_add] <;> omega); done))) | (refine xbr_t ?_ ?_; (focus ((simp (disch := omega) only [ix_lt, ix_le, ix_eq, ix_0, nI_clamp, nI_toInt, ng_T, nI_add, nI_mul, nI_sub', Int.neg_zero, not_false_eq_true, not_true_eq_false, nI_add] <;> omega); done))) | refine ⟨Or.inl rfl, ?_⟩ | refine ⟨Or.inr rfl, ?_⟩ | (refine ⟨?_, ?_⟩; (focus ((try simp (disch := omega) only [nI_add, nI_mul, nI_add, nI_sub']); exact in_nI (by omega) (by omega)))))
        have eo : nI (g ||| 2 ^ b) = nI g ||| (nI 1 <<< (nI b &&& 31)) := by rw [shl_n _ (by omega), Nat.one_mul, fa_or]
        have ei : (nI i).toNatClampNeg = i := nI_clamp (by omega)
        rw [eo, ← ei] at hQ
        rw [ei] at hQ
        simp (disch := omega) only [nI_mul, nI_add, nI_clamp, nI_sub']
        repeat (first | (refine xbr_f ?_ ?_; (focus ((simp (disch := omega) only [ix_lt, ix_le, ix_eq, ix_0, nI_clamp, nI_toInt, ng_T, nI_add, nI_mul, nI_sub', Int.neg_zero, not_false_eq_true, not_true_eq_false] <;> omega); done))) | (refine xbr_t ?_ ?_; (focus ((simp (disch := omega) only [ix_lt, ix_le, ix_eq, ix_0, nI_clamp, nI_toInt, ng_T, nI_add, nI_mul, nI_sub', Int.neg_zero, not_false_eq_true, not_true_eq_false] <;> omega); done))) | refine ⟨Or.inl rfl, ?_⟩ | refine ⟨Or.inr rfl, ?_⟩ | (refine ⟨?_, ?_⟩; (focus (exact in_nI (by omega) (by omega)))))
        exact hQ
def csX11_takesAll : xCs := [(mX11_takesOne, sX11_takesOne)]
theorem okX11_takesAll : xOkM mX11_takesAll csX11_takesAll := ⟨dX11_takesAll, by decide +kernel, by decide +kernel, ⟨wdX11_118, wdX11_40, wdX11_146, trivial⟩⟩
theorem hhX11_takesAll : ∀ q ∈ csX11_takesAll, xHd q.1 := xall1 hX11_takesOne (xall0)
theorem kkX11_takesAll : ∀ q ∈ csX11_takesAll, ∀ l, xCon l q.1 q.2 := xall1 kX11_takesOne (xall0)
def sX11_takesAll : xSpec := xReg fun as I L Q => ∃ (d : PD) (X c s w : Nat), as = [.ref 27, .int (nI s)] ∧ pdR d I ∧ nwR d X c (I 37) ∧ s < 16 ∧ (∀ i, i < d.nA → tbB w i = !tbB s i) ∧ (∀ f, (∀ i, i < d.nA → f i = cI (coN d X w i)) → Q (some (.int (nI (tkN d X 27 w d.nA).2))) (xrw I 38 f) L)
set_option maxRecDepth 100000 in
theorem kX11_takesAll : ∀ l, xCon l mX11_takesAll sX11_takesAll := by
  refine xcon_of okX11_takesAll hX11_takesAll rfl (by decide) hhX11_takesAll kkX11_takesAll ?_
  rintro as n0 I L P Q ⟨rfl, rfl, d, X, c, s, w, rfl, hP, hN, hs, hw, hQ⟩
  refine ⟨Nat.le_of_ble_eq_true rfl, ?_⟩
  have ha := hP.a
  have h4 := hP.ok.a4
  refine xrun okX11_takesAll hhX11_takesAll [(4, [true, true, true, true])] 20 ?_
  refine xlpW (M := mX11_takesAll) (cs := csX11_takesAll) (pc := 4) d.nA (fun i => [some (.ref 27), some (.int (nI s)), some (.int (nI (tkN d X 27 w i).2)), some (.int (nI i))]) (fun i I' L' => L = L' ∧ ∃ f, I' = xrw I 38 f ∧ ∀ j, j < i → f j = cI (coN d X w j)) ?_ ?_ ⟨rfl, I 38, (xrw_self I 38).symm, fun j h => absurd h (by omega)⟩
  · rintro i hi I2 L2 ⟨rfl, f, rfl, hf⟩ ih
    refine xrun okX11_takesAll hhX11_takesAll [(4, [true, true, true, true])] 60 ?_
    have ha2 : xrw I 38 f 27 10 = nI d.nA := ha
    have hg := (tkN_lt hP.ok X 27 w i).2
    have hs2 := tk27_s d X w (show i < 4 by omega)
    repeat (first | (refine xbr_f ?_ ?_; (focus ((simp (disch := omega) only [ix_lt, ix_le, ix_eq, ix_0, nI_clamp, nI_toInt, ng_T, nI_add, nI_mul, nI_sub', Int.neg_zero, not_false_eq_true, not_true_eq_false, ha2, nI_add] <;> omega); done))) | (refine xbr_t ?_ ?_; (focus ((simp (disch := omega) only [ix_lt, ix_le, ix_eq, ix_0, nI_clamp, nI_toInt, ng_T, nI_add, nI_mul, nI_sub', Int.neg_zero, not_false_eq_true, not_true_eq_false, ha2, nI_add] <;> omega); done))) | refine ⟨Or.inl rfl, ?_⟩ | refine ⟨Or.inr rfl, ?_⟩ | (refine ⟨?_, ?_⟩; (focus ((try simp (disch := omega) only [ha2, nI_add, nI_mul, nI_add, nI_sub']); exact in_nI (by omega) (by omega)))))
    simp (disch := omega) only [nI_mul, nI_add, nI_clamp, nI_sub']
    rw [xrw_up]
    have hwi := hw i hi
    cases ht : tbB s i
    · rw [ht] at hwi
      have e : coN d X w i = (chN d X i (tkN d X 27 w i).2 d.nL).1 := if_pos hwi
      have eb : (nI s >>> (nI i &&& 31)) &&& nI 1 = nI 0 := by
        rw [bit_i (show s < 2 ^ 31 by omega) (show i < 32 by omega), ht]
        rfl
      (first | (refine xbr_f ?_ ?_; (focus ((simp (disch := omega) only [ix_lt, ix_le, ix_eq, ix_0, nI_clamp, nI_toInt, ng_T, nI_add, nI_mul, nI_sub', Int.neg_zero, not_false_eq_true, not_true_eq_false, eb] <;> omega); done))) | (refine xbr_t ?_ ?_; (focus ((simp (disch := omega) only [ix_lt, ix_le, ix_eq, ix_0, nI_clamp, nI_toInt, ng_T, nI_add, nI_mul, nI_sub', Int.neg_zero, not_false_eq_true, not_true_eq_false, eb] <;> omega); done))) | refine ⟨Or.inl rfl, ?_⟩ | refine ⟨Or.inr rfl, ?_⟩ | (refine ⟨?_, ?_⟩; (focus ((try simp (disch := omega) only [eb, nI_mul, nI_add, nI_sub']); exact in_nI (by omega) (by omega)))))
      refine ⟨rfl, rfl, d, X, c, i, _, rfl, hP, hN, hi, hg, ?_⟩
      rw [xrw_up, ← e]
      refine xgo_eq (ih _ _ ⟨rfl, _, rfl, fun j hj => ?_⟩) ?_ rfl rfl
      · by_cases e2 : j = i
        · rw [if_pos e2, e2]
        · rw [if_neg e2, if_neg e2]
          exact hf j (by omega)
      · rw [hs2]
        by_cases h0 : coN d X w i = 0
        · rw [if_pos h0, if_pos h0]
          ((repeat' (first | (with_reducible rfl) | exact xv_nil | refine xv_cons ?_ ?_ | refine xv_i ?_ | refine xv_l ?_)) <;> (simp (disch := omega) only [↓reduceIte, Bool.false_eq_true, Nat.one_mul, Nat.zero_mul, Nat.or_zero, Nat.add_zero, Nat.zero_add, Bool.toNat_true, Bool.toNat_false, shl_n, shr_n, fa_and, fa_or, nx_xor, nI_add, nI_mul, nI_sub', and_1, and_7, and_3', and_15]))
        · rw [if_neg h0, if_neg h0]
          ((repeat' (first | (with_reducible rfl) | exact xv_nil | refine xv_cons ?_ ?_ | refine xv_i ?_ | refine xv_l ?_)) <;> (simp (disch := omega) only [↓reduceIte, Bool.false_eq_true, Nat.one_mul, Nat.zero_mul, Nat.or_zero, Nat.add_zero, Nat.zero_add, Bool.toNat_true, Bool.toNat_false, shl_n, shr_n, fa_and, fa_or, nx_xor, nI_add, nI_mul, nI_sub', and_1, and_7, and_3', and_15]))
    · rw [ht] at hwi
      have e : coN d X w i = 0 := if_neg (by rw [hwi]; decide)
      have eb : (nI s >>> (nI i &&& 31)) &&& nI 1 = nI 1 := by
        rw [bit_i (show s < 2 ^ 31 by omega) (show i < 32 by omega), ht]
        rfl
      (first | (refine xbr_f ?_ ?_; (focus ((simp (disch := omega) only [ix_lt, ix_le, ix_eq, ix_0, nI_clamp, nI_toInt, ng_T, nI_add, nI_mul, nI_sub', Int.neg_zero, not_false_eq_true, not_true_eq_false, eb] <;> omega); done))) | (refine xbr_t ?_ ?_; (focus ((simp (disch := omega) only [ix_lt, ix_le, ix_eq, ix_0, nI_clamp, nI_toInt, ng_T, nI_add, nI_mul, nI_sub', Int.neg_zero, not_false_eq_true, not_true_eq_false, eb] <;> omega); done))) | refine ⟨Or.inl rfl, ?_⟩ | refine ⟨Or.inr rfl, ?_⟩ | (refine ⟨?_, ?_⟩; (focus ((try simp (disch := omega) only [eb, nI_mul, nI_add, nI_sub']); exact in_nI (by omega) (by omega)))))
      refine xgo_eq (ih _ _ ⟨rfl, _, rfl, fun j hj => ?_⟩) ?_ rfl rfl
      · by_cases e2 : j = i
        · rw [if_pos e2, e2, e]
          rfl
        · rw [if_neg e2]
          exact hf j (by omega)
      · rw [hs2, if_pos e]
        ((repeat' (first | (with_reducible rfl) | exact xv_nil | refine xv_cons ?_ ?_ | refine xv_i ?_ | refine xv_l ?_)) <;> (simp (disch := omega) only [↓reduceIte, Bool.false_eq_true, Nat.one_mul, Nat.zero_mul, Nat.or_zero, Nat.add_zero, Nat.zero_add, Bool.toNat_true, Bool.toNat_false, shl_n, shr_n, fa_and, fa_or, nx_xor, nI_add, nI_mul, nI_sub', and_1, and_7, and_3', and_15]))
  · rintro I2 L2 ⟨rfl, f, rfl, hf⟩
    refine xrun okX11_takesAll hhX11_takesAll [] 60 ?_
    have ha2 : xrw I 38 f 27 10 = nI d.nA := ha
    repeat (first | (refine xbr_f ?_ ?_; (focus ((simp (disch := omega) only [ix_lt, ix_le, ix_eq, ix_0, nI_clamp, nI_toInt, ng_T, nI_add, nI_mul, nI_sub', Int.neg_zero, not_false_eq_true, not_true_eq_false, ha2] <;> omega); done))) | (refine xbr_t ?_ ?_; (focus ((simp (disch := omega) only [ix_lt, ix_le, ix_eq, ix_0, nI_clamp, nI_toInt, ng_T, nI_add, nI_mul, nI_sub', Int.neg_zero, not_false_eq_true, not_true_eq_false, ha2] <;> omega); done))) | refine ⟨Or.inl rfl, ?_⟩ | refine ⟨Or.inr rfl, ?_⟩ | (refine ⟨?_, ?_⟩; (focus ((try simp (disch := omega) only [ha2, nI_mul, nI_add, nI_sub']); exact in_nI (by omega) (by omega)))))
    exact hQ f hf
theorem go_in (d : PD) (X T : Nat) : ∀ n j, n ≤ j → j < 4 → inN (goN d X T n) j = inN X j
  | 0, _, _, _ => rfl
  | n + 1, j, h, hj => by
    have ih := go_in d X T n j (by omega) hj
    rw [goN_s]
    have hr := rdN_8 d (inN X n)
    split
    · exact ih
    · split
      · rw [in_me (mkN_16 _ _), in_pl hj hr, in_in hr, if_neg (by omega), ih]
      · rw [in_pl hj hr, in_in hr, if_neg (by omega), ih]
theorem go_mk (d : PD) (X T l : Nat) : ∀ n, n ≤ 4 → mkN (goN d X T n) l = mkN X l
  | 0, _ => rfl
  | n + 1, h => by
    have ih := go_mk d X T l n (by omega)
    rw [goN_s]
    have hr := rdN_8 d (inN X n)
    split
    · exact ih
    · split
      · rw [mk_me (by omega) (mkN_16 _ _), mk_pl hr, mk_in (by omega) hr, ih]
      · rw [mk_pl hr, mk_in (by omega) hr, ih]
theorem nw_in {d : PD} {X c i v : Nat} {f : Nat → Int32} (hd : d.ok) (h : nwR d X c f) (hi : i < d.nA) (hv : v < 8) : nwR d (seIn X i v) c (fun t => if t = 5 + i then nI v else f t) := by
  have h4 := hd.a4
  have h5 := hd.l5
  refine ⟨?_, fun j hj => ⟨?_, ?_⟩, fun l hl => ⟨?_, ?_⟩⟩
  · show (if 0 = 5 + i then nI v else f 0) = nI c
    rw [if_neg (by omega), h.c]
  · show (if 1 + j = 5 + i then nI v else f (1 + j)) = _
    rw [if_neg (by omega), me_in hv, h.m hj]
  · show (if 5 + j = 5 + i then nI v else f (5 + j)) = _
    rw [in_in hv]
    by_cases e : j = i
    · rw [if_pos e, if_pos (by omega)]
    · rw [if_neg e, if_neg (by omega), h.i hj]
  · show (if 9 + l = 5 + i then nI v else f (9 + l)) = _
    rw [if_neg (by omega), mk_in (by omega) hv, h.k hl]
  · show (if 14 + l = 5 + i then nI v else f (14 + l)) = _
    rw [if_neg (by omega), pl_in (by omega) hv, h.p hl]
theorem nw_me {d : PD} {X c i v : Nat} {f : Nat → Int32} (hd : d.ok) (h : nwR d X c f) (hi : i < d.nA) (hv : v < 16) : nwR d (seMe X i v) c (fun t => if t = 1 + i then nI v else f t) := by
  have h4 := hd.a4
  have h5 := hd.l5
  refine ⟨?_, fun j hj => ⟨?_, ?_⟩, fun l hl => ⟨?_, ?_⟩⟩
  · show (if 0 = 1 + i then nI v else f 0) = nI c
    rw [if_neg (by omega), h.c]
  · show (if 1 + j = 1 + i then nI v else f (1 + j)) = _
    rw [me_me hv]
    by_cases e : j = i
    · rw [if_pos e, if_pos (by omega)]
    · rw [if_neg e, if_neg (by omega), h.m hj]
  · show (if 5 + j = 1 + i then nI v else f (5 + j)) = _
    rw [if_neg (by omega), in_me hv, h.i hj]
  · show (if 9 + l = 1 + i then nI v else f (9 + l)) = _
    rw [if_neg (by omega), mk_me (by omega) hv, h.k hl]
  · show (if 14 + l = 1 + i then nI v else f (14 + l)) = _
    rw [if_neg (by omega), pl_me (by omega) hv, h.p hl]
theorem nw_mk {d : PD} {X c i v : Nat} {f : Nat → Int32} (hd : d.ok) (h : nwR d X c f) (hi : i < d.nL) (hv : v < 16) : nwR d (seMk X i v) c (fun t => if t = 9 + i then nI v else f t) := by
  have h4 := hd.a4
  have h5 := hd.l5
  refine ⟨?_, fun j hj => ⟨?_, ?_⟩, fun l hl => ⟨?_, ?_⟩⟩
  · show (if 0 = 9 + i then nI v else f 0) = nI c
    rw [if_neg (by omega), h.c]
  · show (if 1 + j = 9 + i then nI v else f (1 + j)) = _
    rw [if_neg (by omega), me_mk (by omega) hv, h.m hj]
  · show (if 5 + j = 9 + i then nI v else f (5 + j)) = _
    rw [if_neg (by omega), in_mk (by omega) hv, h.i hj]
  · show (if 9 + l = 9 + i then nI v else f (9 + l)) = _
    rw [mk_mk hv]
    by_cases e : l = i
    · rw [if_pos e, if_pos (by omega)]
    · rw [if_neg e, if_neg (by omega), h.k hl]
  · show (if 14 + l = 9 + i then nI v else f (14 + l)) = _
    rw [if_neg (by omega), pl_mk hv, h.p hl]
theorem nw_pl {d : PD} {X c i v : Nat} {f : Nat → Int32} (hd : d.ok) (h : nwR d X c f) (hi : i < d.nL) (hv : v < 8) : nwR d (sePl X i v) c (fun t => if t = 14 + i then nI v else f t) := by
  have h4 := hd.a4
  have h5 := hd.l5
  refine ⟨?_, fun j hj => ⟨?_, ?_⟩, fun l hl => ⟨?_, ?_⟩⟩
  · show (if 0 = 14 + i then nI v else f 0) = nI c
    rw [if_neg (by omega), h.c]
  · show (if 1 + j = 14 + i then nI v else f (1 + j)) = _
    rw [if_neg (by omega), me_pl (by omega) hv, h.m hj]
  · show (if 5 + j = 14 + i then nI v else f (5 + j)) = _
    rw [if_neg (by omega), in_pl (by omega) hv, h.i hj]
  · show (if 9 + l = 14 + i then nI v else f (9 + l)) = _
    rw [if_neg (by omega), mk_pl hv, h.k hl]
  · show (if 14 + l = 14 + i then nI v else f (14 + l)) = _
    rw [pl_pl hv]
    by_cases e : l = i
    · rw [if_pos e, if_pos (by omega)]
    · rw [if_neg e, if_neg (by omega), h.p hl]
theorem nw_day {d : PD} {X c c' : Nat} {f : Nat → Int32} (h : nwR d X c f) : nwR d X c' (fun t => if t = 0 then nI c' else f t) :=
  ⟨if_pos rfl, fun j hj => ⟨(if_neg (by omega)).trans (h.m hj), (if_neg (by omega)).trans (h.i hj)⟩, fun l hl => ⟨(if_neg (by omega)).trans (h.k hl), (if_neg (by omega)).trans (h.p hl)⟩⟩
def csX11_allGo : xCs := []
theorem okX11_allGo : xOkM mX11_allGo csX11_allGo := ⟨dX11_allGo, by decide +kernel, by decide +kernel, ⟨wdX11_118, wdX11_40, wdX11_28, wdX11_37, wdX11_37, wdX11_37, wdX11_40, wdX11_37, wdX11_31, wdX11_37, wdX11_40, wdX11_37, wdX11_37, trivial⟩⟩
theorem hhX11_allGo : ∀ q ∈ csX11_allGo, xHd q.1 := xall0
theorem kkX11_allGo : ∀ q ∈ csX11_allGo, ∀ l, xCon l q.1 q.2 := xall0
def sX11_allGo : xSpec := xReg fun as I L Q => ∃ (d : PD) (X c T : Nat), as = [.ref 27] ∧ pdR d I ∧ nwR d X c (I 37) ∧ XOk X ∧ (∀ i, i < d.nA → I 38 i = cI (getN T (3 * i) 3) ∧ getN T (3 * i) 3 ≤ d.nL) ∧ (∀ g, nwR d (goN d X T d.nA) (c + 1) g → Q none (xrw I 37 g) L)
set_option maxRecDepth 100000 in
theorem kX11_allGo : ∀ l, xCon l mX11_allGo sX11_allGo := by
  refine xcon_of okX11_allGo hX11_allGo rfl (by decide) hhX11_allGo kkX11_allGo ?_
  rintro as n0 I L P Q ⟨rfl, rfl, d, X, c, T, rfl, hP, hN, hX, hT, hQ⟩
  refine ⟨Nat.le_of_ble_eq_true rfl, ?_⟩
  have ha := hP.a
  have h4 := hP.ok.a4
  have h5 := hP.ok.l5
  refine xrun okX11_allGo hhX11_allGo [(2, [true, true, false])] 20 ?_
  refine xlpW (M := mX11_allGo) (cs := csX11_allGo) (pc := 2) d.nA (fun i => [some (.ref 27), some (.int (nI i)), none]) (fun i I' L' => L = L' ∧ ∃ f, I' = xrw I 37 f ∧ nwR d (goN d X T i) c f) ?_ ?_ ⟨rfl, I 37, (xrw_self I 37).symm, hN⟩
  · rintro i hi I2 L2 ⟨rfl, f, rfl, hf⟩ ih
    refine xrun okX11_allGo hhX11_allGo [(2, [true, true, false])] 120 ?_
    have ha2 : xrw I 37 f 27 10 = nI d.nA := ha
    obtain ⟨hT1, hT2⟩ := hT i hi
    have hs := goN_s d X T i
    by_cases h0 : getN T (3 * i) 3 = 0
    · have hT3 : xrw I 37 f 38 i = cI (getN T (3 * i) 3) := hT1
      rw [if_pos h0] at hs
      rw [h0, cI_0] at hT3
      repeat (first | (refine xbr_f ?_ ?_; (focus ((simp (disch := omega) only [ix_lt, ix_le, ix_eq, ix_0, nI_clamp, nI_toInt, ng_T, nI_add, nI_mul, nI_sub', Int.neg_zero, not_false_eq_true, not_true_eq_false, ha2, hT3] <;> omega); done))) | (refine xbr_t ?_ ?_; (focus ((simp (disch := omega) only [ix_lt, ix_le, ix_eq, ix_0, nI_clamp, nI_toInt, ng_T, nI_add, nI_mul, nI_sub', Int.neg_zero, not_false_eq_true, not_true_eq_false, ha2, hT3] <;> omega); done))) | refine ⟨Or.inl rfl, ?_⟩ | refine ⟨Or.inr rfl, ?_⟩ | (refine ⟨?_, ?_⟩; (focus ((try simp (disch := omega) only [ha2, hT3, nI_mul, nI_add, nI_sub']); exact in_nI (by omega) (by omega)))))
      refine xgo_eq (ih _ _ ⟨rfl, f, rfl, by rw [hs]; exact hf⟩) ?_ rfl rfl
      ((repeat' (first | (with_reducible rfl) | exact xv_nil | refine xv_cons ?_ ?_ | refine xv_i ?_ | refine xv_l ?_)) <;> (simp (disch := omega) only [↓reduceIte, Bool.false_eq_true, Nat.one_mul, Nat.zero_mul, Nat.or_zero, Nat.add_zero, Nat.zero_add, Bool.toNat_true, Bool.toNat_false, shl_n, shr_n, fa_and, fa_or, nx_xor, nI_add, nI_mul, nI_sub', and_1, and_7, and_3', and_15]))
    · obtain ⟨l, hl⟩ : ∃ l, getN T (3 * i) 3 = l + 1 := ⟨getN T (3 * i) 3 - 1, by omega⟩
      rw [if_neg h0, hl, Nat.add_sub_cancel] at hs
      rw [hl, cI_s] at hT1
      have hT3 : ∀ g, xrw I 37 g 38 i = nI l := fun g => hT1
      have hin : xrw I 37 f 37 (5 + i) = nI (inN X i) := by rw [xrw_s, hf.i hi, go_in d X T i i (Nat.le_refl _) (by omega)]
      have hin5 := hX.2.1 i (by omega)
      have hrd : ∀ g, xrw I 37 g 34 (inN X i) = nI (rdN d (inN X i)) := fun g => hP.r (inN X i) hin5
      have hr8 := rdN_8 d (inN X i)
      have hl5 : l < d.nL := by omega
      have w1 := nw_in hP.ok hf hi hr8
      have hk8 := kdN_8 d i
      have hkd : ∀ g, xrw I 37 g 35 i = nI (kdN d i) := fun g => hP.k i hi
      (first | (refine xbr_f ?_ ?_; (focus ((simp (disch := omega) only [ix_lt, ix_le, ix_eq, ix_0, nI_clamp, nI_toInt, ng_T, nI_add, nI_mul, nI_sub', Int.neg_zero, not_false_eq_true, not_true_eq_false, ha2] <;> omega); done))) | (refine xbr_t ?_ ?_; (focus ((simp (disch := omega) only [ix_lt, ix_le, ix_eq, ix_0, nI_clamp, nI_toInt, ng_T, nI_add, nI_mul, nI_sub', Int.neg_zero, not_false_eq_true, not_true_eq_false, ha2] <;> omega); done))) | refine ⟨Or.inl rfl, ?_⟩ | refine ⟨Or.inr rfl, ?_⟩ | (refine ⟨?_, ?_⟩; (focus ((try simp (disch := omega) only [ha2, nI_mul, nI_add, nI_sub']); exact in_nI (by omega) (by omega)))))
      (first | (refine xbr_f ?_ ?_; (focus ((simp (disch := omega) only [ix_lt, ix_le, ix_eq, ix_0, nI_clamp, nI_toInt, ng_T, nI_add, nI_mul, nI_sub', Int.neg_zero, not_false_eq_true, not_true_eq_false, hT3] <;> omega); done))) | (refine xbr_t ?_ ?_; (focus ((simp (disch := omega) only [ix_lt, ix_le, ix_eq, ix_0, nI_clamp, nI_toInt, ng_T, nI_add, nI_mul, nI_sub', Int.neg_zero, not_false_eq_true, not_true_eq_false, hT3] <;> omega); done))) | refine ⟨Or.inl rfl, ?_⟩ | refine ⟨Or.inr rfl, ?_⟩ | (refine ⟨?_, ?_⟩; (focus ((try simp (disch := omega) only [hT3, nI_mul, nI_add, nI_sub']); exact in_nI (by omega) (by omega)))))
      (first | (refine xbr_f ?_ ?_; (focus ((simp (disch := omega) only [ix_lt, ix_le, ix_eq, ix_0, nI_clamp, nI_toInt, ng_T, nI_add, nI_mul, nI_sub', Int.neg_zero, not_false_eq_true, not_true_eq_false, hT3] <;> omega); done))) | (refine xbr_t ?_ ?_; (focus ((simp (disch := omega) only [ix_lt, ix_le, ix_eq, ix_0, nI_clamp, nI_toInt, ng_T, nI_add, nI_mul, nI_sub', Int.neg_zero, not_false_eq_true, not_true_eq_false, hT3] <;> omega); done))) | refine ⟨Or.inl rfl, ?_⟩ | refine ⟨Or.inr rfl, ?_⟩ | (refine ⟨?_, ?_⟩; (focus ((try simp (disch := omega) only [hT3, nI_mul, nI_add, nI_sub']); exact in_nI (by omega) (by omega)))))
      (first | (refine xbr_f ?_ ?_; (focus ((simp (disch := omega) only [ix_lt, ix_le, ix_eq, ix_0, nI_clamp, nI_toInt, ng_T, nI_add, nI_mul, nI_sub', Int.neg_zero, not_false_eq_true, not_true_eq_false, nI_add] <;> omega); done))) | (refine xbr_t ?_ ?_; (focus ((simp (disch := omega) only [ix_lt, ix_le, ix_eq, ix_0, nI_clamp, nI_toInt, ng_T, nI_add, nI_mul, nI_sub', Int.neg_zero, not_false_eq_true, not_true_eq_false, nI_add] <;> omega); done))) | refine ⟨Or.inl rfl, ?_⟩ | refine ⟨Or.inr rfl, ?_⟩ | (refine ⟨?_, ?_⟩; (focus ((try simp (disch := omega) only [nI_add, nI_mul, nI_add, nI_sub']); exact in_nI (by omega) (by omega)))))
      (first | (refine xbr_f ?_ ?_; (focus ((simp (disch := omega) only [ix_lt, ix_le, ix_eq, ix_0, nI_clamp, nI_toInt, ng_T, nI_add, nI_mul, nI_sub', Int.neg_zero, not_false_eq_true, not_true_eq_false, nI_add, nI_clamp, hin] <;> omega); done))) | (refine xbr_t ?_ ?_; (focus ((simp (disch := omega) only [ix_lt, ix_le, ix_eq, ix_0, nI_clamp, nI_toInt, ng_T, nI_add, nI_mul, nI_sub', Int.neg_zero, not_false_eq_true, not_true_eq_false, nI_add, nI_clamp, hin] <;> omega); done))) | refine ⟨Or.inl rfl, ?_⟩ | refine ⟨Or.inr rfl, ?_⟩ | (refine ⟨?_, ?_⟩; (focus ((try simp (disch := omega) only [nI_add, nI_clamp, hin, nI_mul, nI_add, nI_sub']); exact in_nI (by omega) (by omega)))))
      (first | (refine xbr_f ?_ ?_; (focus ((simp (disch := omega) only [ix_lt, ix_le, ix_eq, ix_0, nI_clamp, nI_toInt, ng_T, nI_add, nI_mul, nI_sub', Int.neg_zero, not_false_eq_true, not_true_eq_false, nI_add] <;> omega); done))) | (refine xbr_t ?_ ?_; (focus ((simp (disch := omega) only [ix_lt, ix_le, ix_eq, ix_0, nI_clamp, nI_toInt, ng_T, nI_add, nI_mul, nI_sub', Int.neg_zero, not_false_eq_true, not_true_eq_false, nI_add] <;> omega); done))) | refine ⟨Or.inl rfl, ?_⟩ | refine ⟨Or.inr rfl, ?_⟩ | (refine ⟨?_, ?_⟩; (focus ((try simp (disch := omega) only [nI_add, nI_mul, nI_add, nI_sub']); exact in_nI (by omega) (by omega)))))
      simp (disch := omega) only [hin, hrd, nI_mul, nI_add, nI_clamp, nI_sub']
      rw [xrw_up]
      generalize hg1 : (fun t => if t = 5 + i then nI (rdN d (inN X i)) else f t) = g1 at *
      have w2 := nw_pl hP.ok w1 hl5 hr8
      (first | (refine xbr_f ?_ ?_; (focus ((simp (disch := omega) only [ix_lt, ix_le, ix_eq, ix_0, nI_clamp, nI_toInt, ng_T, nI_add, nI_mul, nI_sub', Int.neg_zero, not_false_eq_true, not_true_eq_false, nI_add] <;> omega); done))) | (refine xbr_t ?_ ?_; (focus ((simp (disch := omega) only [ix_lt, ix_le, ix_eq, ix_0, nI_clamp, nI_toInt, ng_T, nI_add, nI_mul, nI_sub', Int.neg_zero, not_false_eq_true, not_true_eq_false, nI_add] <;> omega); done))) | refine ⟨Or.inl rfl, ?_⟩ | refine ⟨Or.inr rfl, ?_⟩ | (refine ⟨?_, ?_⟩; (focus ((try simp (disch := omega) only [nI_add, nI_mul, nI_add, nI_sub']); exact in_nI (by omega) (by omega)))))
      (first | (refine xbr_f ?_ ?_; (focus ((simp (disch := omega) only [ix_lt, ix_le, ix_eq, ix_0, nI_clamp, nI_toInt, ng_T, nI_add, nI_mul, nI_sub', Int.neg_zero, not_false_eq_true, not_true_eq_false, nI_add, nI_clamp, hT3] <;> omega); done))) | (refine xbr_t ?_ ?_; (focus ((simp (disch := omega) only [ix_lt, ix_le, ix_eq, ix_0, nI_clamp, nI_toInt, ng_T, nI_add, nI_mul, nI_sub', Int.neg_zero, not_false_eq_true, not_true_eq_false, nI_add, nI_clamp, hT3] <;> omega); done))) | refine ⟨Or.inl rfl, ?_⟩ | refine ⟨Or.inr rfl, ?_⟩ | (refine ⟨?_, ?_⟩; (focus ((try simp (disch := omega) only [nI_add, nI_clamp, hT3, nI_mul, nI_add, nI_sub']); exact in_nI (by omega) (by omega)))))
      simp (disch := omega) only [hT3, nI_mul, nI_add, nI_clamp, nI_sub']
      rw [xrw_up]
      generalize hg2 : (fun t => if t = 14 + l then nI (rdN d (inN X i)) else g1 t) = g2 at *
      (first | (refine xbr_f ?_ ?_; (focus ((simp (disch := omega) only [ix_lt, ix_le, ix_eq, ix_0, nI_clamp, nI_toInt, ng_T, nI_add, nI_mul, nI_sub', Int.neg_zero, not_false_eq_true, not_true_eq_false, nI_add] <;> omega); done))) | (refine xbr_t ?_ ?_; (focus ((simp (disch := omega) only [ix_lt, ix_le, ix_eq, ix_0, nI_clamp, nI_toInt, ng_T, nI_add, nI_mul, nI_sub', Int.neg_zero, not_false_eq_true, not_true_eq_false, nI_add] <;> omega); done))) | refine ⟨Or.inl rfl, ?_⟩ | refine ⟨Or.inr rfl, ?_⟩ | (refine ⟨?_, ?_⟩; (focus ((try simp (disch := omega) only [nI_add, nI_mul, nI_add, nI_sub']); exact in_nI (by omega) (by omega)))))
      by_cases hy : kdN d i = 2
      · rw [if_pos hy] at hs
        (first | (refine xbr_f ?_ ?_; (focus ((simp (disch := omega) only [ix_lt, ix_le, ix_eq, ix_0, nI_clamp, nI_toInt, ng_T, nI_add, nI_mul, nI_sub', Int.neg_zero, not_false_eq_true, not_true_eq_false, hkd] <;> omega); done))) | (refine xbr_t ?_ ?_; (focus ((simp (disch := omega) only [ix_lt, ix_le, ix_eq, ix_0, nI_clamp, nI_toInt, ng_T, nI_add, nI_mul, nI_sub', Int.neg_zero, not_false_eq_true, not_true_eq_false, hkd] <;> omega); done))) | refine ⟨Or.inl rfl, ?_⟩ | refine ⟨Or.inr rfl, ?_⟩ | (refine ⟨?_, ?_⟩; (focus ((try simp (disch := omega) only [hkd, nI_mul, nI_add, nI_sub']); exact in_nI (by omega) (by omega)))))
        have hmk : xrw I 37 g2 37 (9 + l) = nI (mkN X l) := by rw [xrw_s, w2.k hl5, mk_pl hr8, mk_in (by omega) hr8, go_mk d X T l i (by omega)]
        (first | (refine xbr_f ?_ ?_; (focus ((simp (disch := omega) only [ix_lt, ix_le, ix_eq, ix_0, nI_clamp, nI_toInt, ng_T, nI_add, nI_mul, nI_sub', Int.neg_zero, not_false_eq_true, not_true_eq_false, nI_add] <;> omega); done))) | (refine xbr_t ?_ ?_; (focus ((simp (disch := omega) only [ix_lt, ix_le, ix_eq, ix_0, nI_clamp, nI_toInt, ng_T, nI_add, nI_mul, nI_sub', Int.neg_zero, not_false_eq_true, not_true_eq_false, nI_add] <;> omega); done))) | refine ⟨Or.inl rfl, ?_⟩ | refine ⟨Or.inr rfl, ?_⟩ | (refine ⟨?_, ?_⟩; (focus ((try simp (disch := omega) only [nI_add, nI_mul, nI_add, nI_sub']); exact in_nI (by omega) (by omega)))))
        (first | (refine xbr_f ?_ ?_; (focus ((simp (disch := omega) only [ix_lt, ix_le, ix_eq, ix_0, nI_clamp, nI_toInt, ng_T, nI_add, nI_mul, nI_sub', Int.neg_zero, not_false_eq_true, not_true_eq_false, nI_add, nI_clamp, hT3] <;> omega); done))) | (refine xbr_t ?_ ?_; (focus ((simp (disch := omega) only [ix_lt, ix_le, ix_eq, ix_0, nI_clamp, nI_toInt, ng_T, nI_add, nI_mul, nI_sub', Int.neg_zero, not_false_eq_true, not_true_eq_false, nI_add, nI_clamp, hT3] <;> omega); done))) | refine ⟨Or.inl rfl, ?_⟩ | refine ⟨Or.inr rfl, ?_⟩ | (refine ⟨?_, ?_⟩; (focus ((try simp (disch := omega) only [nI_add, nI_clamp, hT3, nI_mul, nI_add, nI_sub']); exact in_nI (by omega) (by omega)))))
        (first | (refine xbr_f ?_ ?_; (focus ((simp (disch := omega) only [ix_lt, ix_le, ix_eq, ix_0, nI_clamp, nI_toInt, ng_T, nI_add, nI_mul, nI_sub', Int.neg_zero, not_false_eq_true, not_true_eq_false, nI_add] <;> omega); done))) | (refine xbr_t ?_ ?_; (focus ((simp (disch := omega) only [ix_lt, ix_le, ix_eq, ix_0, nI_clamp, nI_toInt, ng_T, nI_add, nI_mul, nI_sub', Int.neg_zero, not_false_eq_true, not_true_eq_false, nI_add] <;> omega); done))) | refine ⟨Or.inl rfl, ?_⟩ | refine ⟨Or.inr rfl, ?_⟩ | (refine ⟨?_, ?_⟩; (focus ((try simp (disch := omega) only [nI_add, nI_mul, nI_add, nI_sub']); exact in_nI (by omega) (by omega)))))
        simp (disch := omega) only [hT3, hmk, nI_mul, nI_add, nI_clamp, nI_sub']
        rw [xrw_up]
        refine xgo_eq (ih _ _ ⟨rfl, _, rfl, by rw [hs]; exact nw_me hP.ok w2 hi (mkN_16 _ _)⟩) ?_ rfl rfl
        ((repeat' (first | (with_reducible rfl) | exact xv_nil | refine xv_cons ?_ ?_ | refine xv_i ?_ | refine xv_l ?_)) <;> (simp (disch := omega) only [↓reduceIte, Bool.false_eq_true, Nat.one_mul, Nat.zero_mul, Nat.or_zero, Nat.add_zero, Nat.zero_add, Bool.toNat_true, Bool.toNat_false, shl_n, shr_n, fa_and, fa_or, nx_xor, nI_add, nI_mul, nI_sub', and_1, and_7, and_3', and_15]))
      · rw [if_neg hy] at hs
        (first | (refine xbr_f ?_ ?_; (focus ((simp (disch := omega) only [ix_lt, ix_le, ix_eq, ix_0, nI_clamp, nI_toInt, ng_T, nI_add, nI_mul, nI_sub', Int.neg_zero, not_false_eq_true, not_true_eq_false, hkd] <;> omega); done))) | (refine xbr_t ?_ ?_; (focus ((simp (disch := omega) only [ix_lt, ix_le, ix_eq, ix_0, nI_clamp, nI_toInt, ng_T, nI_add, nI_mul, nI_sub', Int.neg_zero, not_false_eq_true, not_true_eq_false, hkd] <;> omega); done))) | refine ⟨Or.inl rfl, ?_⟩ | refine ⟨Or.inr rfl, ?_⟩ | (refine ⟨?_, ?_⟩; (focus ((try simp (disch := omega) only [hkd, nI_mul, nI_add, nI_sub']); exact in_nI (by omega) (by omega)))))
        (first | (refine xbr_f ?_ ?_; (focus ((simp (disch := omega) only [ix_lt, ix_le, ix_eq, ix_0, nI_clamp, nI_toInt, ng_T, nI_add, nI_mul, nI_sub', Int.neg_zero, not_false_eq_true, not_true_eq_false, nI_add] <;> omega); done))) | (refine xbr_t ?_ ?_; (focus ((simp (disch := omega) only [ix_lt, ix_le, ix_eq, ix_0, nI_clamp, nI_toInt, ng_T, nI_add, nI_mul, nI_sub', Int.neg_zero, not_false_eq_true, not_true_eq_false, nI_add] <;> omega); done))) | refine ⟨Or.inl rfl, ?_⟩ | refine ⟨Or.inr rfl, ?_⟩ | (refine ⟨?_, ?_⟩; (focus ((try simp (disch := omega) only [nI_add, nI_mul, nI_add, nI_sub']); exact in_nI (by omega) (by omega)))))
        (first | (refine xbr_f ?_ ?_; (focus ((simp (disch := omega) only [ix_lt, ix_le, ix_eq, ix_0, nI_clamp, nI_toInt, ng_T, nI_add, nI_mul, nI_sub', Int.neg_zero, not_false_eq_true, not_true_eq_false, nI_add] <;> omega); done))) | (refine xbr_t ?_ ?_; (focus ((simp (disch := omega) only [ix_lt, ix_le, ix_eq, ix_0, nI_clamp, nI_toInt, ng_T, nI_add, nI_mul, nI_sub', Int.neg_zero, not_false_eq_true, not_true_eq_false, nI_add] <;> omega); done))) | refine ⟨Or.inl rfl, ?_⟩ | refine ⟨Or.inr rfl, ?_⟩ | (refine ⟨?_, ?_⟩; (focus ((try simp (disch := omega) only [nI_add, nI_mul, nI_add, nI_sub']); exact in_nI (by omega) (by omega)))))
        simp (disch := omega) only [nI_mul, nI_add, nI_clamp, nI_sub']
        rw [xrw_up]
        refine xgo_eq (ih _ _ ⟨rfl, _, rfl, by rw [hs]; exact nwR_eq hP.ok w2 (fun k _ => by
          by_cases e : k = 1 + i
          · rw [if_pos e, xrw_s, e]
          · rw [if_neg e])⟩) ?_ rfl rfl
        ((repeat' (first | (with_reducible rfl) | exact xv_nil | refine xv_cons ?_ ?_ | refine xv_i ?_ | refine xv_l ?_)) <;> (simp (disch := omega) only [↓reduceIte, Bool.false_eq_true, Nat.one_mul, Nat.zero_mul, Nat.or_zero, Nat.add_zero, Nat.zero_add, Bool.toNat_true, Bool.toNat_false, shl_n, shr_n, fa_and, fa_or, nx_xor, nI_add, nI_mul, nI_sub', and_1, and_7, and_3', and_15]))
  · rintro I2 L2 ⟨rfl, f, rfl, hf⟩
    refine xrun okX11_allGo hhX11_allGo [] 60 ?_
    have ha2 : xrw I 37 f 27 10 = nI d.nA := ha
    repeat (first | (refine xbr_f ?_ ?_; (focus ((simp (disch := omega) only [ix_lt, ix_le, ix_eq, ix_0, nI_clamp, nI_toInt, ng_T, nI_add, nI_mul, nI_sub', Int.neg_zero, not_false_eq_true, not_true_eq_false, ha2] <;> omega); done))) | (refine xbr_t ?_ ?_; (focus ((simp (disch := omega) only [ix_lt, ix_le, ix_eq, ix_0, nI_clamp, nI_toInt, ng_T, nI_add, nI_mul, nI_sub', Int.neg_zero, not_false_eq_true, not_true_eq_false, ha2] <;> omega); done))) | refine ⟨Or.inl rfl, ?_⟩ | refine ⟨Or.inr rfl, ?_⟩ | (refine ⟨?_, ?_⟩; (focus ((try simp (disch := omega) only [ha2, nI_mul, nI_add, nI_sub']); exact in_nI (by omega) (by omega)))))
    have e0 : nI (c + 1) = f 0 + nI 1 := by rw [hf.c, nI_add]
    have w := nw_day (c' := c + 1) hf
    have hq := hQ _ w
    rw [e0, ← xrw_up] at hq
    exact hq
theorem pc_or : ∀ g, g < 32 → ∀ l, l < 5 → tbB g l = false → pcf 32 (g ||| 2 ^ l) = pcf 32 g + 1 := by decide +kernel
theorem ch_free (d : PD) (X i g : Nat) : ∀ n, (chN d X i g n).1 = 0 ∨ tbB g ((chN d X i g n).1 - 1) = false
  | 0 => Or.inl rfl
  | n + 1 => by
    rw [chN_s]
    by_cases h : (chN d X i g n).2 < (if tbB g n then 0 else pullN d X i n)
    · rw [if_pos h]
      refine Or.inr ?_
      show tbB g (n + 1 - 1) = false
      rw [Nat.add_sub_cancel]
      cases ht : tbB g n
      · rfl
      · rw [ht, if_pos rfl] at h
        exact absurd h (Nat.not_lt_zero _)
    · rw [if_neg h]
      exact ch_free d X i g n
theorem hmt_pc {d : PD} (hd : d.ok) (X w : Nat) : ∀ n, n ≤ d.nA → pcf 32 (tkN d X 27 w n).2 = cnN (fun i => decide (¬ coN d X w i = 0)) n
  | 0, _ => pcf_0 32
  | n + 1, h => by
    have ih := hmt_pc hd X w n (by omega)
    have h4 := hd.a4
    have h5 := hd.l5
    have hg := (tkN_lt hd X 27 w n).2
    have hle := coN_le d X w n
    show _ = cnN (fun i => decide (¬ coN d X w i = 0)) n + (decide (¬ coN d X w n = 0)).toNat
    rw [tk27_s d X w (show n < 4 by omega)]
    by_cases h0 : coN d X w n = 0
    · rw [if_pos h0, decide_eq_false (fun q => q h0), ih]
      rfl
    · have hf : tbB (tkN d X 27 w n).2 (coN d X w n - 1) = false := by
        have e : coN d X w n = if tbB w n then (chN d X n (tkN d X 27 w n).2 d.nL).1 else 0 := rfl
        cases hb : tbB w n
        · rw [hb, if_neg (by decide)] at e
          exact absurd e h0
        · rw [hb, if_pos rfl] at e
          rcases ch_free d X n (tkN d X 27 w n).2 d.nL with h1 | h1
          · rw [← e] at h1
            exact absurd h1 h0
          · rw [← e] at h1
            exact h1
      rw [if_neg h0, decide_eq_true h0]
      show pcf 32 ((tkN d X 27 w n).2 ||| 2 ^ (coN d X w n - 1)) = _
      rw [pc_or _ hg _ (by omega) hf, ih]
      rfl
theorem cnN_ext {f : Nat → Bool} {n m : Nat} (h : n ≤ m) (h0 : ∀ i, n ≤ i → i < m → f i = false) : cnN f m = cnN f n := by
  obtain ⟨k, rfl⟩ : ∃ k, m = n + k := ⟨m - n, by omega⟩
  clear h
  induction k with
  | zero => rfl
  | succ k ih =>
    show cnN f (n + k) + (f (n + k)).toNat = _
    rw [h0 (n + k) (by omega) (by omega), ih (fun i a b => h0 i a (by omega))]
    rfl
theorem hmt_ok {d : PD} (hd : d.ok) (X w : Nat) : hmtN (tkN d X 27 w d.nA).1 = pcf 32 (tkN d X 27 w d.nA).2 := by
  have h4 := hd.a4
  rw [hmt_pc hd X w d.nA (Nat.le_refl _)]
  show cnN (fun i => decide (¬ getN (tkN d X 27 w d.nA).1 (3 * i) 3 = 0)) 4 = _
  rw [cnN_ext h4 (fun i a b => decide_eq_false (fun q => q (getN_big (Nat.lt_of_lt_of_le (tk27_lt hd X w d.nA h4) (Nat.pow_le_pow_right (by decide) (by omega))))))]
  exact cnN_cong (fun i hi => by rw [tk27_get hd X w d.nA h4 i hi])
theorem tb15 : ∀ i, i < 4 → tbB 15 i = !tbB 0 i := by decide
/-- takes and a day of the reference -/
def tkR (d : PD) (X w : Nat) (f : Nat → Int32) : Prop := ∀ i, i < d.nA → f i = cI (coN d X w i)
theorem tkR_get {d : PD} (hd : d.ok) {X w : Nat} {f : Nat → Int32} (h : tkR d X w f) : ∀ i, i < d.nA → f i = cI (getN (tkN d X 27 w d.nA).1 (3 * i) 3) ∧ getN (tkN d X 27 w d.nA).1 (3 * i) 3 ≤ d.nL := fun i hi => by
  rw [tk27_get hd X w d.nA hd.a4 i hi]
  exact ⟨h i hi, coN_le _ _ _ _⟩
def csX11_goesBy : xCs := [(mX11_takesAll, sX11_takesAll), (mX11_allGo, sX11_allGo), (mX11_many, sX11_many)]
theorem okX11_goesBy : xOkM mX11_goesBy csX11_goesBy := ⟨dX11_goesBy, by decide +kernel, by decide +kernel, ⟨wdX11_149, wdX11_152, wdX11_126, trivial⟩⟩
theorem hhX11_goesBy : ∀ q ∈ csX11_goesBy, xHd q.1 := xall1 hX11_takesAll (xall1 hX11_allGo (xall1 hX11_many (xall0)))
theorem kkX11_goesBy : ∀ q ∈ csX11_goesBy, ∀ l, xCon l q.1 q.2 := xall1 kX11_takesAll (xall1 kX11_allGo (xall1 kX11_many (xall0)))
def sX11_goesBy : xSpec := xReg fun as I L Q => ∃ (d : PD) (X c : Nat), as = [.ref 27] ∧ pdR d I ∧ nwR d X c (I 37) ∧ XOk X ∧ (∀ f g, nwR d (dayN d X) (c + 1) g → Q (some (.int (nI (hmtN (tkN d X 27 15 d.nA).1)))) (xrw (xrw I 38 f) 37 g) L)
set_option maxRecDepth 100000 in
theorem kX11_goesBy : ∀ l, xCon l mX11_goesBy sX11_goesBy := by
  refine xcon_of okX11_goesBy hX11_goesBy rfl (by decide) hhX11_goesBy kkX11_goesBy ?_
  rintro as n0 I L P Q ⟨rfl, rfl, d, X, c, rfl, hP, hN, hX, hQ⟩
  refine ⟨Nat.le_of_ble_eq_true rfl, ?_⟩
  have h4 := hP.ok.a4
  refine xrun okX11_goesBy hhX11_goesBy [] 60 ?_
  refine ⟨rfl, rfl, d, X, c, 0, 15, rfl, hP, hN, by decide, fun i hi => tb15 i (by omega), fun f hf => ?_⟩
  refine ⟨rfl, rfl, d, X, c, (tkN d X 27 15 d.nA).1, rfl, hP, hN, hX, tkR_get hP.ok hf, fun g hg => ?_⟩
  have hlt := (tkN_lt hP.ok X 27 15 d.nA).2
  refine ⟨rfl, rfl, _, rfl, by omega, ?_⟩
  have hq := hQ f g hg
  rw [hmt_ok hP.ok] at hq
  exact hq
