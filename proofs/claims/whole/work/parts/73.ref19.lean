/-! THE REFERENCE, 19: what a row of loads comes to -/
def pul (d : PD) (X i l : Nat) : Nat := pullN d X i l
/-- the last k asses' figures in a number: may it be, which loads, what it comes to -/
def dgN (d : PD) (N k : Nat) : Nat := N / (d.nL + 1) ^ k % (d.nL + 1)
def bwN (d : PD) (X N : Nat) : Nat → Bool × Nat × Nat
  | 0 => (true, 0, 0)
  | k + 1 => if dgN d N k = 0 then bwN d X N k else ((bwN d X N k).1 && (decide (0 < pullN d X (d.nA - (k + 1)) (dgN d N k - 1)) && !tbB (bwN d X N k).2.1 (dgN d N k - 1)), (bwN d X N k).2.1 ||| 2 ^ (dgN d N k - 1), (bwN d X N k).2.2 + pullN d X (d.nA - (k + 1)) (dgN d N k - 1))
/-- the same from the first of them on, loads being given -/
def fvN (d : PD) (X N : Nat) : Nat → Nat → Option Nat
  | 0, _ => some 0
  | k + 1, g => if dgN d N k = 0 then fvN d X N k g else if puN d X (d.nA - (k + 1)) g (dgN d N k - 1) = 0 then none else (fvN d X N k (g ||| 2 ^ (dgN d N k - 1))).map (· + puN d X (d.nA - (k + 1)) g (dgN d N k - 1))
theorem dgN_le (d : PD) (N k : Nat) : dgN d N k ≤ d.nL := by
  have := Nat.mod_lt (N / (d.nL + 1) ^ k) (show 0 < d.nL + 1 by omega)
  unfold dgN
  omega
theorem bwN_s (d : PD) (X N k : Nat) : bwN d X N (k + 1) = if dgN d N k = 0 then bwN d X N k else ((bwN d X N k).1 && (decide (0 < pullN d X (d.nA - (k + 1)) (dgN d N k - 1)) && !tbB (bwN d X N k).2.1 (dgN d N k - 1)), (bwN d X N k).2.1 ||| 2 ^ (dgN d N k - 1), (bwN d X N k).2.2 + pullN d X (d.nA - (k + 1)) (dgN d N k - 1)) := rfl
theorem fvN_s (d : PD) (X N k g : Nat) : fvN d X N (k + 1) g = if dgN d N k = 0 then fvN d X N k g else if puN d X (d.nA - (k + 1)) g (dgN d N k - 1) = 0 then none else (fvN d X N k (g ||| 2 ^ (dgN d N k - 1))).map (· + puN d X (d.nA - (k + 1)) g (dgN d N k - 1)) := rfl
theorem bwN_lt {d : PD} (hd : d.ok) (X N : Nat) : ∀ k, (bwN d X N k).2.1 < 32 ∧ (bwN d X N k).2.2 ≤ 8 * k
  | 0 => ⟨by show 0 < 32; decide, Nat.le_refl 0⟩
  | k + 1 => by
    obtain ⟨h1, h2⟩ := bwN_lt hd X N k
    have h3 := dgN_le d N k
    have h5 := hd.l5
    have h6 := pullN_le d X (d.nA - (k + 1)) (dgN d N k - 1)
    rw [bwN_s]
    by_cases h0 : dgN d N k = 0
    · rw [if_pos h0]
      exact ⟨h1, by omega⟩
    · rw [if_neg h0]
      exact ⟨or_32 h1 (by omega), by show (bwN d X N k).2.2 + pullN d X (d.nA - (k + 1)) (dgN d N k - 1) ≤ 8 * (k + 1); omega⟩
theorem bits_or : ∀ g, g < 32 → ∀ h, h < 32 → ∀ l, l < 5 → (decide (h &&& (g ||| 2 ^ l) = 0) = (decide (h &&& g = 0) && !tbB h l)) ∧ (decide ((h ||| 2 ^ l) &&& g = 0) = (decide (h &&& g = 0) && !tbB g l)) := by decide +kernel
theorem fv_bw {d : PD} (hd : d.ok) (X N : Nat) : ∀ k g, g < 32 → fvN d X N k g = if ((bwN d X N k).1 && decide ((bwN d X N k).2.1 &&& g = 0)) = true then some (bwN d X N k).2.2 else none
  | 0, g, hg => by
    show some 0 = if (true && decide (0 &&& g = 0)) = true then some 0 else none
    rw [Nat.zero_and, decide_eq_true rfl]
    rfl
  | k + 1, g, hg => by
    have ih := fv_bw hd X N k
    have h3 := dgN_le d N k
    have h5 := hd.l5
    obtain ⟨h1, h2⟩ := bwN_lt hd X N k
    rw [fvN_s, bwN_s]
    by_cases h0 : dgN d N k = 0
    · rw [if_pos h0, if_pos h0]
      exact ih g hg
    · rw [if_neg h0, if_neg h0]
      obtain ⟨l, hl⟩ : ∃ l, dgN d N k = l + 1 := ⟨dgN d N k - 1, by omega⟩
      rw [hl, Nat.add_sub_cancel]
      obtain ⟨b1, b2⟩ := bits_or g hg _ h1 l (by omega)
      have hpu : puN d X (d.nA - (k + 1)) g l = if tbB g l then 0 else pullN d X (d.nA - (k + 1)) l := rfl
      rw [ih _ (or_32 hg (by omega))]
      show (if puN d X (d.nA - (k + 1)) g l = 0 then none else _) = if (((bwN d X N k).1 && (decide (0 < pullN d X (d.nA - (k + 1)) l) && !tbB (bwN d X N k).2.1 l)) && decide (((bwN d X N k).2.1 ||| 2 ^ l) &&& g = 0)) = true then some ((bwN d X N k).2.2 + pullN d X (d.nA - (k + 1)) l) else none
      rw [b1, b2, hpu]
      cases tbB g l
      · rw [if_neg Bool.false_ne_true]
        by_cases hz : pullN d X (d.nA - (k + 1)) l = 0
        · rw [if_pos hz, decide_eq_false (show ¬ 0 < pullN d X (d.nA - (k + 1)) l by omega)]
          simp
        · rw [if_neg hz, decide_eq_true (show 0 < pullN d X (d.nA - (k + 1)) l by omega)]
          cases (bwN d X N k).1 <;> cases decide ((bwN d X N k).2.1 &&& g = 0) <;> cases tbB (bwN d X N k).2.1 l <;> rfl
      · rw [if_pos rfl, if_pos rfl]
        simp
/-- what it comes to, as the reference has it: below 0 where it may not be -/
def wvT (d : PD) (X N k : Nat) (s : Int32) : Prop := ((bwN d X N k).1 = true → s = nI (bwN d X N k).2.2) ∧ ((bwN d X N k).1 = false → s.toInt ≤ -9999 + 8 * k ∧ -9999 ≤ s.toInt)
theorem dg_s (d : PD) (N k : Nat) : N / (d.nL + 1) ^ (k + 1) = N / (d.nL + 1) ^ k / (d.nL + 1) := by rw [Nat.pow_succ, Nat.div_div_eq_div_mul]
theorem pu_lk {d : PD} {X i l : Nat} (h1 : plN X l = inN X i) (h2 : ¬ plN X l = hmN d l) : pullN d X i l = if lkN (kdN d i) (meN X i) (mkN X l) < lsN (kdN d i) then 0 else lkN (kdN d i) (meN X i) (mkN X l) := if_pos ⟨h1, h2⟩
def cIs (c : Nat) : Int32 := cI c
def gvR (d : PD) (N : Nat) (f : Nat → Int32) (k : Nat) : Prop := ∀ j, j < k → f (d.nA - (j + 1)) = cI (dgN d N j)
def csX11_worth : xCs := [(mX11_isHome, sX11_isHome), (mX11_refuses, sX11_refuses), (mX11_likeTo, sX11_likeTo)]
theorem okX11_worth : xOkM mX11_worth csX11_worth := ⟨dX11_worth, by decide +kernel, by decide +kernel, ⟨wdX11_118, wdX11_121, wdX11_121, wdX11_62, wdX11_37, wdX11_37, wdX11_139, wdX11_142, wdX11_136, trivial⟩⟩
theorem hhX11_worth : ∀ q ∈ csX11_worth, xHd q.1 := xall1 hX11_isHome (xall1 hX11_refuses (xall1 hX11_likeTo (xall0)))
theorem kkX11_worth : ∀ q ∈ csX11_worth, ∀ l, xCon l q.1 q.2 := xall1 kX11_isHome (xall1 kX11_refuses (xall1 kX11_likeTo (xall0)))
def sX11_worth : xSpec := xReg fun as I L Q => ∃ (d : PD) (X c N : Nat), as = [.ref 27, .int (nI N)] ∧ pdR d I ∧ nwR d X c (I 37) ∧ N < 2 ^ 20 ∧ (∀ s f, wvT d X N d.nA s → gvR d N f d.nA → Q (some (.int s)) (xrw I 45 f) L)
theorem iw_n {d : PD} (h4 : d.nA ≤ 4) {k : Nat} (hk : k < d.nA) : nI d.nA - nI (k + 1) = nI (d.nA - (k + 1)) := nI_sub' hk
theorem iw_s (a k : Nat) : nI a - nI (k + 1) - nI 1 = nI a - nI (k + 1 + 1) := by
  rw [← nI_add (k + 1) 1]
  apply Int32.toBitVec_inj.mp
  show (nI a).toBitVec - (nI (k + 1)).toBitVec - (nI 1).toBitVec = (nI a).toBitVec - ((nI (k + 1)).toBitVec + (nI 1).toBitVec)
  generalize (nI a).toBitVec = x
  generalize (nI (k + 1)).toBitVec = y
  generalize (nI 1).toBitVec = z
  apply BitVec.eq_of_toNat_eq
  simp only [BitVec.toNat_sub, BitVec.toNat_add]
  have hx := x.isLt
  have hy := y.isLt
  have hz := z.isLt
  omega
theorem iw_e {a : Nat} (h4 : a ≤ 4) : (nI a - nI (a + 1)).toInt = -1 := by
  rw [sub_T (by rw [nI_toInt (by omega), nI_toInt (by omega)]; omega), nI_toInt (by omega), nI_toInt (by omega)]
  omega
theorem add_T {a b : Int32} (h : -2 ^ 31 ≤ a.toInt + b.toInt ∧ a.toInt + b.toInt < 2 ^ 31) : (a + b).toInt = a.toInt + b.toInt := by
  rw [Int32.toInt_add]
  exact Int.bmod_eq_of_le (by omega) (by omega)
theorem wv_0 {d : PD} {X N k : Nat} {s : Int32} (h : wvT d X N k s) (h0 : dgN d N k = 0) : wvT d X N (k + 1) s := by
  unfold wvT
  rw [bwN_s, if_pos h0]
  exact ⟨h.1, fun q => ⟨by have := (h.2 q).1; omega, (h.2 q).2⟩⟩
theorem wv_no {d : PD} {X N k : Nat} (h0 : ¬ dgN d N k = 0) (hm : (decide (0 < pullN d X (d.nA - (k + 1)) (dgN d N k - 1)) && !tbB (bwN d X N k).2.1 (dgN d N k - 1)) = false) : wvT d X N (k + 1) (-(nI 9999)) := by
  unfold wvT
  rw [bwN_s, if_neg h0]
  refine ⟨fun q => ?_, fun _ => by rw [ng_T (by decide)]; omega⟩
  have q : ((bwN d X N k).1 && (decide (0 < pullN d X (d.nA - (k + 1)) (dgN d N k - 1)) && !tbB (bwN d X N k).2.1 (dgN d N k - 1))) = true := q
  rw [hm, Bool.and_false] at q
  cases q
theorem wv_yes {d : PD} (hd : d.ok) {X N k : Nat} {s : Int32} (h : wvT d X N k s) (h0 : ¬ dgN d N k = 0) (hk : k < d.nA) (hm : (decide (0 < pullN d X (d.nA - (k + 1)) (dgN d N k - 1)) && !tbB (bwN d X N k).2.1 (dgN d N k - 1)) = true) : wvT d X N (k + 1) (s + nI (pullN d X (d.nA - (k + 1)) (dgN d N k - 1))) := by
  have h8 := pullN_le d X (d.nA - (k + 1)) (dgN d N k - 1)
  have h4 := hd.a4
  unfold wvT
  rw [bwN_s, if_neg h0]
  refine ⟨fun q => ?_, fun q => ?_⟩
  · have q : ((bwN d X N k).1 && (decide (0 < pullN d X (d.nA - (k + 1)) (dgN d N k - 1)) && !tbB (bwN d X N k).2.1 (dgN d N k - 1))) = true := q
    rw [hm, Bool.and_true] at q
    rw [h.1 q]
    exact nI_add _ _
  · have q : ((bwN d X N k).1 && (decide (0 < pullN d X (d.nA - (k + 1)) (dgN d N k - 1)) && !tbB (bwN d X N k).2.1 (dgN d N k - 1))) = false := q
    rw [hm, Bool.and_true] at q
    obtain ⟨a, b⟩ := h.2 q
    rw [add_T (by rw [nI_toInt (by omega)]; omega), nI_toInt (by omega)]
    omega
theorem Np_lt {B N : Nat} (hN : N < 2 ^ 20) : ∀ k, N / B ^ k < 2 ^ 20 := fun k => Nat.lt_of_le_of_lt (Nat.div_le_self _ _) hN
set_option maxRecDepth 100000 in
theorem kX11_worth : ∀ l, xCon l mX11_worth sX11_worth := by
  refine xcon_of okX11_worth hX11_worth rfl (by decide) hhX11_worth kkX11_worth ?_
  rintro as n0 I L P Q ⟨rfl, rfl, d, X, c, N, rfl, hP, hN, hN20, hQ⟩
  refine ⟨Nat.le_of_ble_eq_true rfl, ?_⟩
  have ha := hP.a
  have hl := hP.l
  have h4 := hP.ok.a4
  have h5 := hP.ok.l5
  have loop : ∀ j k s f, k + j = d.nA → wvT d X N k s → gvR d N f k → xGo mX11_worth csX11_worth 15 Q [some (.ref 27), some (.int (nI N)), some (.int (nI (N / (d.nL + 1) ^ k))), some (.int (nI (bwN d X N k).2.1)), some (.int s), some (.int (nI d.nA - nI (k + 1))), none, none] [] 0 xN (xrw I 45 f) L xP0 := by
    intro j
    induction j with
    | zero =>
      intro k s f hk hs hf
      obtain rfl : k = d.nA := by omega
      have e := iw_e h4
      refine xrun okX11_worth hhX11_worth [] 60 ?_
      have hneg : nI d.nA - nI (d.nA + 1) < 0 := by
        rw [ix_lt, e, ix_0]
        omega
      (first | refine xbr_t hneg ?_ | refine xbr_f hneg ?_)
      exact hQ s f hs hf
    | succ j ih =>
      intro k s f hk hs hf
      have hk2 : k < d.nA := by omega
      have hNk := Np_lt (B := d.nL + 1) hN20 k
      have hl2 : xrw I 45 f 27 11 = nI d.nL := hl
      have hB : ¬ nI (d.nL + 1) = 0 := by
        rw [ix_eq, nI_toInt (by omega), ix_0]
        omega
      have er : nI (N / (d.nL + 1) ^ k) - nI (N / (d.nL + 1) ^ k) / nI (d.nL + 1) * nI (d.nL + 1) = nI (dgN d N k) := pk_rem (by omega) (by omega) (by omega)
      have ed : nI (N / (d.nL + 1) ^ k) / nI (d.nL + 1) = nI (N / (d.nL + 1) ^ (k + 1)) := by rw [pk_div (by omega) (by omega) (by omega), dg_s]
      have hdl := dgN_le d N k
      obtain ⟨hg32, hsum⟩ := bwN_lt hP.ok X N k
      have hi := iw_n h4 hk2
      have ei : nI (d.nA - (k + 1)) - nI 1 = nI d.nA - nI (k + 1 + 1) := by rw [← hi, iw_s]
      have gv : ∀ x, x = cI (dgN d N k) → gvR d N (fun t => if t = d.nA - (k + 1) then x else f t) (k + 1) := by
        rintro x rfl j2 hj2
        show (if d.nA - (j2 + 1) = d.nA - (k + 1) then cI (dgN d N k) else f (d.nA - (j2 + 1))) = _
        by_cases e : j2 = k
        · rw [if_pos (by omega), e]
        · rw [if_neg (by omega)]
          exact hf j2 (by omega)
      refine xrun okX11_worth hhX11_worth [(15, [true, true, true, true, true, true, false, false]), (121, [true, true, true, true, true, true, true, false])] 120 ?_
      have hB' : ¬ xrw I 45 f 27 11 + nI 1 = 0 := by
        rw [hl2, nI_add]
        exact hB
      have er' : nI (N / (d.nL + 1) ^ k) - nI (N / (d.nL + 1) ^ k) / (xrw I 45 f 27 11 + nI 1) * (xrw I 45 f 27 11 + nI 1) = nI (dgN d N k) := by
        rw [hl2, nI_add]
        exact er
      have ed' : nI (N / (d.nL + 1) ^ k) / (xrw I 45 f 27 11 + nI 1) = nI (N / (d.nL + 1) ^ (k + 1)) := by
        rw [hl2, nI_add]
        exact ed
      rw [hi]
      (first | (refine xbr_f ?_ ?_; (focus ((simp (disch := omega) only [ix_lt, ix_le, ix_eq, ix_0, nI_clamp, nI_toInt, ng_T, nI_add, nI_mul, nI_sub', Int.neg_zero, not_false_eq_true, not_true_eq_false] <;> omega); done))) | (refine xbr_t ?_ ?_; (focus ((simp (disch := omega) only [ix_lt, ix_le, ix_eq, ix_0, nI_clamp, nI_toInt, ng_T, nI_add, nI_mul, nI_sub', Int.neg_zero, not_false_eq_true, not_true_eq_false] <;> omega); done))) | refine ⟨Or.inl rfl, ?_⟩ | refine ⟨Or.inr rfl, ?_⟩ | (refine ⟨?_, ?_⟩; (focus (exact in_nI (by omega) (by omega)))))
      refine ⟨hB', ?_⟩
      rw [er']
      refine ⟨hB', ?_⟩
      rw [ed']
      by_cases h0 : dgN d N k = 0
      · rw [h0]
        have en := gv (-(nI 9)) (by rw [h0]; rfl)
        have key : xGo mX11_worth csX11_worth 121 Q [some (.ref 27), some (.int (nI N)), some (.int (nI (N / (d.nL + 1) ^ (k + 1)))), some (.int (nI (bwN d X N k).2.1)), some (.int s), some (.int (nI (d.nA - (k + 1)))), some (.int (nI 0 - nI 1)), none] [.int (nI 1)] 0 xN (xrw I 45 (fun t => if t = d.nA - (k + 1) then -(nI 9) else f t)) L xP0 := by
          refine xrun okX11_worth hhX11_worth [(15, [true, true, true, true, true, true, false, false])] 60 ?_
          (first | refine xbr_t (by decide) ?_ | refine xbr_f (by decide) ?_)
          (first | refine xbr_t (by decide) ?_ | refine xbr_f (by decide) ?_)
          (first | refine xbr_t (by decide) ?_ | refine xbr_f (by decide) ?_)
          refine xgo_eq (ih (k + 1) s _ (by omega) (wv_0 hs h0) en) ?_ rfl rfl
          show [some (Value.ref 27), some (Value.int (nI N)), some (Value.int (nI (N / (d.nL + 1) ^ (k + 1)))), some (Value.int (nI (bwN d X N k).2.1 ||| nI 0)), some (Value.int (s + nI 0)), some (Value.int (nI (d.nA - (k + 1)) - nI 1)), none, none] = _
          have eg : (bwN d X N (k + 1)).2.1 = (bwN d X N k).2.1 := by rw [bwN_s, if_pos h0]
          rw [ei, eg, fa_or, Nat.or_zero, show s + nI 0 = s from Int32.add_zero s]
        (first | refine xbr_t (by decide) ?_ | refine xbr_f (by decide) ?_)
        (first | (refine xbr_f ?_ ?_; (focus ((simp (disch := omega) only [ix_lt, ix_le, ix_eq, ix_0, nI_clamp, nI_toInt, ng_T, nI_add, nI_mul, nI_sub', Int.neg_zero, not_false_eq_true, not_true_eq_false, nI_add] <;> omega); done))) | (refine xbr_t ?_ ?_; (focus ((simp (disch := omega) only [ix_lt, ix_le, ix_eq, ix_0, nI_clamp, nI_toInt, ng_T, nI_add, nI_mul, nI_sub', Int.neg_zero, not_false_eq_true, not_true_eq_false, nI_add] <;> omega); done))) | refine ⟨Or.inl rfl, ?_⟩ | refine ⟨Or.inr rfl, ?_⟩ | (refine ⟨?_, ?_⟩; (focus ((try simp (disch := omega) only [nI_add, nI_mul, nI_add, nI_sub']); exact in_nI (by omega) (by omega)))))
        simp (disch := omega) only [nI_mul, nI_add, nI_clamp, nI_sub']
        rw [xrw_up]
        (first | refine xbr_t (by decide) ?_ | refine xbr_f (by decide) ?_)
        exact key
      · obtain ⟨l', hl'⟩ : ∃ l', dgN d N k = l' + 1 := ⟨dgN d N k - 1, by omega⟩
        have hln : l' < d.nL := by omega
        have en := gv (nI l') (by rw [hl']; rfl)
        have hp8 := plN_8 X l'
        have hi8 := inN_8 X (d.nA - (k + 1))
        rw [hl', nI_sub' (by omega), Nat.add_sub_cancel]
        have eg : (bwN d X N (k + 1)).2.1 = (bwN d X N k).2.1 ||| 2 ^ l' := by rw [bwN_s, if_neg h0, hl', Nat.add_sub_cancel]
        have tail : ∀ b, (decide (0 < pullN d X (d.nA - (k + 1)) (dgN d N k - 1)) && !tbB (bwN d X N k).2.1 (dgN d N k - 1)) = b → xGo mX11_worth csX11_worth 121 Q [some (.ref 27), some (.int (nI N)), some (.int (nI (N / (d.nL + 1) ^ (k + 1)))), some (.int (nI (bwN d X N k).2.1)), some (.int s), some (.int (nI (d.nA - (k + 1)))), some (.int (nI l')), none] [.int (bI b)] 0 xN (xrw I 45 (fun t => if t = d.nA - (k + 1) then nI l' else f t)) L xP0 := by
          intro b hb
          refine xrun okX11_worth hhX11_worth [(15, [true, true, true, true, true, true, false, false])] 60 ?_
          (first | (refine xbr_f ?_ ?_; (focus ((simp (disch := omega) only [ix_lt, ix_le, ix_eq, ix_0, nI_clamp, nI_toInt, ng_T, nI_add, nI_mul, nI_sub', Int.neg_zero, not_false_eq_true, not_true_eq_false] <;> omega); done))) | (refine xbr_t ?_ ?_; (focus ((simp (disch := omega) only [ix_lt, ix_le, ix_eq, ix_0, nI_clamp, nI_toInt, ng_T, nI_add, nI_mul, nI_sub', Int.neg_zero, not_false_eq_true, not_true_eq_false] <;> omega); done))) | refine ⟨Or.inl rfl, ?_⟩ | refine ⟨Or.inr rfl, ?_⟩ | (refine ⟨?_, ?_⟩; (focus (exact in_nI (by omega) (by omega)))))
          (first | (refine xbr_f ?_ ?_; (focus ((simp (disch := omega) only [ix_lt, ix_le, ix_eq, ix_0, nI_clamp, nI_toInt, ng_T, nI_add, nI_mul, nI_sub', Int.neg_zero, not_false_eq_true, not_true_eq_false] <;> omega); done))) | (refine xbr_t ?_ ?_; (focus ((simp (disch := omega) only [ix_lt, ix_le, ix_eq, ix_0, nI_clamp, nI_toInt, ng_T, nI_add, nI_mul, nI_sub', Int.neg_zero, not_false_eq_true, not_true_eq_false] <;> omega); done))) | refine ⟨Or.inl rfl, ?_⟩ | refine ⟨Or.inr rfl, ?_⟩ | (refine ⟨?_, ?_⟩; (focus (exact in_nI (by omega) (by omega)))))
          refine ⟨rfl, rfl, d, X, c, d.nA - (k + 1), l', rfl, hP, hN, by omega, hln, ?_⟩
          cases b
          · (first | refine xbr_t (by decide) ?_ | refine xbr_f (by decide) ?_)
            refine xgo_eq (ih (k + 1) (-(nI 9999)) _ (by omega) (wv_no h0 hb) en) ?_ rfl rfl
            show [some (Value.ref 27), some (Value.int (nI N)), some (Value.int (nI (N / (d.nL + 1) ^ (k + 1)))), some (Value.int (nI (bwN d X N k).2.1 ||| (nI 1 <<< (nI l' &&& 31)))), some (Value.int (-(nI 9999))), some (Value.int (nI (d.nA - (k + 1)) - nI 1)), none, none] = _
            rw [ei, eg, shl_n _ (by omega), Nat.one_mul, fa_or]
          · (first | refine xbr_t (by decide) ?_ | refine xbr_f (by decide) ?_)
            have wy := wv_yes hP.ok hs h0 hk2 hb
            have hpos : 0 < pullN d X (d.nA - (k + 1)) l' := by
              rw [hl', Nat.add_sub_cancel] at hb
              exact of_decide_eq_true (Bool.and_eq_true _ _ ▸ hb).1
            have epl : pullN d X (d.nA - (k + 1)) l' = lkN (kdN d (d.nA - (k + 1))) (meN X (d.nA - (k + 1))) (mkN X l') := by
              unfold pullN at hpos ⊢
              split at hpos
              · split at hpos
                · exact absurd hpos (Nat.lt_irrefl 0)
                · rename_i q1 q2
                  rw [if_pos q1, if_neg q2]
              · exact absurd hpos (Nat.lt_irrefl 0)
            rw [hl', Nat.add_sub_cancel, epl] at wy
            refine xgo_eq (ih (k + 1) _ _ (by omega) wy en) ?_ rfl rfl
            show [some (Value.ref 27), some (Value.int (nI N)), some (Value.int (nI (N / (d.nL + 1) ^ (k + 1)))), some (Value.int (nI (bwN d X N k).2.1 ||| (nI 1 <<< (nI l' &&& 31)))), some (Value.int (s + nI (lkN (kdN d (d.nA - (k + 1))) (meN X (d.nA - (k + 1))) (mkN X l')))), some (Value.int (nI (d.nA - (k + 1)) - nI 1)), none, none] = _
            rw [ei, eg, shl_n _ (by omega), Nat.one_mul, fa_or]
        have no : (pullN d X (d.nA - (k + 1)) l' = 0 ∨ tbB (bwN d X N k).2.1 l' = true) → (decide (0 < pullN d X (d.nA - (k + 1)) (dgN d N k - 1)) && !tbB (bwN d X N k).2.1 (dgN d N k - 1)) = false := by
          intro q
          rw [hl', Nat.add_sub_cancel]
          rcases q with q | q
          · rw [q]
            rfl
          · rw [q]
            simp
        have e1 : ∀ g, xrw I 45 g 37 (14 + l') = nI (plN X l') := fun g => hN.p hln
        have e2 : ∀ g, xrw I 45 g 37 (5 + (d.nA - (k + 1))) = nI (inN X (d.nA - (k + 1))) := fun g => hN.i (by omega)
        (first | (refine xbr_f ?_ ?_; (focus ((simp (disch := omega) only [ix_lt, ix_le, ix_eq, ix_0, nI_clamp, nI_toInt, ng_T, nI_add, nI_mul, nI_sub', Int.neg_zero, not_false_eq_true, not_true_eq_false] <;> omega); done))) | (refine xbr_t ?_ ?_; (focus ((simp (disch := omega) only [ix_lt, ix_le, ix_eq, ix_0, nI_clamp, nI_toInt, ng_T, nI_add, nI_mul, nI_sub', Int.neg_zero, not_false_eq_true, not_true_eq_false] <;> omega); done))) | refine ⟨Or.inl rfl, ?_⟩ | refine ⟨Or.inr rfl, ?_⟩ | (refine ⟨?_, ?_⟩; (focus (exact in_nI (by omega) (by omega)))))
        (first | (refine xbr_f ?_ ?_; (focus ((simp (disch := omega) only [ix_lt, ix_le, ix_eq, ix_0, nI_clamp, nI_toInt, ng_T, nI_add, nI_mul, nI_sub', Int.neg_zero, not_false_eq_true, not_true_eq_false, nI_add] <;> omega); done))) | (refine xbr_t ?_ ?_; (focus ((simp (disch := omega) only [ix_lt, ix_le, ix_eq, ix_0, nI_clamp, nI_toInt, ng_T, nI_add, nI_mul, nI_sub', Int.neg_zero, not_false_eq_true, not_true_eq_false, nI_add] <;> omega); done))) | refine ⟨Or.inl rfl, ?_⟩ | refine ⟨Or.inr rfl, ?_⟩ | (refine ⟨?_, ?_⟩; (focus ((try simp (disch := omega) only [nI_add, nI_mul, nI_add, nI_sub']); exact in_nI (by omega) (by omega)))))
        simp (disch := omega) only [nI_mul, nI_add, nI_clamp, nI_sub']
        rw [xrw_up]
        (first | (refine xbr_f ?_ ?_; (focus ((simp (disch := omega) only [ix_lt, ix_le, ix_eq, ix_0, nI_clamp, nI_toInt, ng_T, nI_add, nI_mul, nI_sub', Int.neg_zero, not_false_eq_true, not_true_eq_false] <;> omega); done))) | (refine xbr_t ?_ ?_; (focus ((simp (disch := omega) only [ix_lt, ix_le, ix_eq, ix_0, nI_clamp, nI_toInt, ng_T, nI_add, nI_mul, nI_sub', Int.neg_zero, not_false_eq_true, not_true_eq_false] <;> omega); done))) | refine ⟨Or.inl rfl, ?_⟩ | refine ⟨Or.inr rfl, ?_⟩ | (refine ⟨?_, ?_⟩; (focus (exact in_nI (by omega) (by omega)))))
        (first | (refine xbr_f ?_ ?_; (focus ((simp (disch := omega) only [ix_lt, ix_le, ix_eq, ix_0, nI_clamp, nI_toInt, ng_T, nI_add, nI_mul, nI_sub', Int.neg_zero, not_false_eq_true, not_true_eq_false, nI_add] <;> omega); done))) | (refine xbr_t ?_ ?_; (focus ((simp (disch := omega) only [ix_lt, ix_le, ix_eq, ix_0, nI_clamp, nI_toInt, ng_T, nI_add, nI_mul, nI_sub', Int.neg_zero, not_false_eq_true, not_true_eq_false, nI_add] <;> omega); done))) | refine ⟨Or.inl rfl, ?_⟩ | refine ⟨Or.inr rfl, ?_⟩ | (refine ⟨?_, ?_⟩; (focus ((try simp (disch := omega) only [nI_add, nI_mul, nI_add, nI_sub']); exact in_nI (by omega) (by omega)))))
        (first | (refine xbr_f ?_ ?_; (focus ((simp (disch := omega) only [ix_lt, ix_le, ix_eq, ix_0, nI_clamp, nI_toInt, ng_T, nI_add, nI_mul, nI_sub', Int.neg_zero, not_false_eq_true, not_true_eq_false, nI_add] <;> omega); done))) | (refine xbr_t ?_ ?_; (focus ((simp (disch := omega) only [ix_lt, ix_le, ix_eq, ix_0, nI_clamp, nI_toInt, ng_T, nI_add, nI_mul, nI_sub', Int.neg_zero, not_false_eq_true, not_true_eq_false, nI_add] <;> omega); done))) | refine ⟨Or.inl rfl, ?_⟩ | refine ⟨Or.inr rfl, ?_⟩ | (refine ⟨?_, ?_⟩; (focus ((try simp (disch := omega) only [nI_add, nI_mul, nI_add, nI_sub']); exact in_nI (by omega) (by omega)))))
        by_cases c1 : plN X l' = inN X (d.nA - (k + 1))
        · (first | (refine xbr_f ?_ ?_; (focus ((simp (disch := omega) only [ix_lt, ix_le, ix_eq, ix_0, nI_clamp, nI_toInt, ng_T, nI_add, nI_mul, nI_sub', Int.neg_zero, not_false_eq_true, not_true_eq_false, e1, e2] <;> omega); done))) | (refine xbr_t ?_ ?_; (focus ((simp (disch := omega) only [ix_lt, ix_le, ix_eq, ix_0, nI_clamp, nI_toInt, ng_T, nI_add, nI_mul, nI_sub', Int.neg_zero, not_false_eq_true, not_true_eq_false, e1, e2] <;> omega); done))) | refine ⟨Or.inl rfl, ?_⟩ | refine ⟨Or.inr rfl, ?_⟩ | (refine ⟨?_, ?_⟩; (focus ((try simp (disch := omega) only [e1, e2, nI_mul, nI_add, nI_sub']); exact in_nI (by omega) (by omega)))))
          refine ⟨rfl, rfl, d, X, c, l', rfl, hP, hN, hln, ?_⟩
          cases hb : hmB d X l'
          · (first | refine xbr_t (by decide) ?_ | refine xbr_f (by decide) ?_)
            have c2 : ¬ plN X l' = hmN d l' := of_decide_eq_false hb
            have ep := pu_lk c1 c2
            refine ⟨rfl, rfl, d, X, c, d.nA - (k + 1), l', rfl, hP, hN, by omega, hln, ?_⟩
            rw [wt_dec]
            have hls := lsN_1 (kdN d (d.nA - (k + 1)))
            by_cases c3 : lkN (kdN d (d.nA - (k + 1))) (meN X (d.nA - (k + 1))) (mkN X l') < lsN (kdN d (d.nA - (k + 1)))
            · rw [if_pos c3] at ep
              rw [decide_eq_false (by omega)]
              (first | refine xbr_t (by decide) ?_ | refine xbr_f (by decide) ?_)
              exact tail false (no (Or.inl ep))
            · rw [if_neg c3] at ep
              rw [decide_eq_true (by omega)]
              (first | refine xbr_t (by decide) ?_ | refine xbr_f (by decide) ?_)
              cases ht : tbB (bwN d X N k).2.1 l'
              · have eb : (nI (bwN d X N k).2.1 >>> (nI l' &&& 31)) &&& nI 1 = nI 0 := by
                  rw [bit_i (show (bwN d X N k).2.1 < 2 ^ 31 by omega) (show l' < 32 by omega), ht]
                  rfl
                (first | (refine xbr_f ?_ ?_; (focus ((simp (disch := omega) only [ix_lt, ix_le, ix_eq, ix_0, nI_clamp, nI_toInt, ng_T, nI_add, nI_mul, nI_sub', Int.neg_zero, not_false_eq_true, not_true_eq_false, eb] <;> omega); done))) | (refine xbr_t ?_ ?_; (focus ((simp (disch := omega) only [ix_lt, ix_le, ix_eq, ix_0, nI_clamp, nI_toInt, ng_T, nI_add, nI_mul, nI_sub', Int.neg_zero, not_false_eq_true, not_true_eq_false, eb] <;> omega); done))) | refine ⟨Or.inl rfl, ?_⟩ | refine ⟨Or.inr rfl, ?_⟩ | (refine ⟨?_, ?_⟩; (focus ((try simp (disch := omega) only [eb, nI_mul, nI_add, nI_sub']); exact in_nI (by omega) (by omega)))))
                exact tail true (by
                  rw [hl', Nat.add_sub_cancel, ht, decide_eq_true (by omega)]
                  rfl)
              · have eb : (nI (bwN d X N k).2.1 >>> (nI l' &&& 31)) &&& nI 1 = nI 1 := by
                  rw [bit_i (show (bwN d X N k).2.1 < 2 ^ 31 by omega) (show l' < 32 by omega), ht]
                  rfl
                (first | (refine xbr_f ?_ ?_; (focus ((simp (disch := omega) only [ix_lt, ix_le, ix_eq, ix_0, nI_clamp, nI_toInt, ng_T, nI_add, nI_mul, nI_sub', Int.neg_zero, not_false_eq_true, not_true_eq_false, eb] <;> omega); done))) | (refine xbr_t ?_ ?_; (focus ((simp (disch := omega) only [ix_lt, ix_le, ix_eq, ix_0, nI_clamp, nI_toInt, ng_T, nI_add, nI_mul, nI_sub', Int.neg_zero, not_false_eq_true, not_true_eq_false, eb] <;> omega); done))) | refine ⟨Or.inl rfl, ?_⟩ | refine ⟨Or.inr rfl, ?_⟩ | (refine ⟨?_, ?_⟩; (focus ((try simp (disch := omega) only [eb, nI_mul, nI_add, nI_sub']); exact in_nI (by omega) (by omega)))))
                exact tail false (no (Or.inr ht))
          · (first | refine xbr_t (by decide) ?_ | refine xbr_f (by decide) ?_)
            have c2 : plN X l' = hmN d l' := of_decide_eq_true hb
            exact tail false (no (Or.inl (if_neg (fun q => q.2 c2))))
        · (first | (refine xbr_f ?_ ?_; (focus ((simp (disch := omega) only [ix_lt, ix_le, ix_eq, ix_0, nI_clamp, nI_toInt, ng_T, nI_add, nI_mul, nI_sub', Int.neg_zero, not_false_eq_true, not_true_eq_false, e1, e2] <;> omega); done))) | (refine xbr_t ?_ ?_; (focus ((simp (disch := omega) only [ix_lt, ix_le, ix_eq, ix_0, nI_clamp, nI_toInt, ng_T, nI_add, nI_mul, nI_sub', Int.neg_zero, not_false_eq_true, not_true_eq_false, e1, e2] <;> omega); done))) | refine ⟨Or.inl rfl, ?_⟩ | refine ⟨Or.inr rfl, ?_⟩ | (refine ⟨?_, ?_⟩; (focus ((try simp (disch := omega) only [e1, e2, nI_mul, nI_add, nI_sub']); exact in_nI (by omega) (by omega)))))
          exact tail false (no (Or.inl (if_neg (fun q => c1 q.1))))
  refine xrun okX11_worth hhX11_worth [(15, [true, true, true, true, true, true, false, false])] 60 ?_
  refine xgo_eq (loop d.nA 0 (nI 0) (I 45) (by omega) ⟨fun _ => rfl, fun q => by cases q⟩ (fun j h => absurd h (Nat.not_lt_zero _))) ?_ (xrw_self I 45).symm rfl
  show [some (Value.ref 27), some (Value.int (nI N)), some (Value.int (nI N)), some (Value.int (nI 0)), some (Value.int (nI 0)), some (Value.int (I 27 10 - nI 1)), none, none] = _
  rw [ha, Nat.pow_zero, Nat.div_one]
  rfl
