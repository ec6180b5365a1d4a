/-! READER: what a TEXT says -/
def RS : Type := Nat × Nat × PD
def RS.sp (q : RS) : Nat := q.1
def RS.X (q : RS) : Nat := q.2.1
def RS.d (q : RS) : PD := q.2.2
def mkR (p X : Nat) (d : PD) : RS := (p, X, d)
def rdW (v : Nat → Int32) (n : Nat) (q : RS) (I : xI) (L : xL) : Prop := I 8 3 = nI n ∧ n ≤ 60 ∧ (∀ k, k < n → I 9 k = v k ∧ ¬ v k = -(nI 1000)) ∧ I 8 4 = nI q.sp ∧ q.sp ≤ n ∧ L 8 2 = lN q.X ∧ q.X < 2 ^ 63 ∧ plv q.d (I 10) ∧ q.d.nA ≤ 4 ∧ q.d.nL ≤ 5
def frR (I : xI) (L : xL) (I' : xI) (L' : xL) : Prop := (∀ c, c ≠ 8 → c ≠ 10 → I' c = I c) ∧ (∀ c, c ≠ 8 → L' c = L c)
theorem frR_0 (I : xI) (L : xL) : frR I L I L := ⟨fun _ _ _ => rfl, fun _ _ => rfl⟩
theorem frR_t {I I' I'' : xI} {L L' L'' : xL} (h : frR I L I' L') (h2 : frR I' L' I'' L'') : frR I L I'' L'' := ⟨fun c a b => (h2.1 c a b).trans (h.1 c a b), fun c a => (h2.2 c a).trans (h.2 c a)⟩
theorem frR_8 (I : xI) (L : xL) (j : Nat) (x : Int32) : frR I L (xup I 8 j x) L := ⟨fun c a _ => xup_c _ _ _ _ a, fun _ _ => rfl⟩
theorem frR_L (I : xI) (L : xL) (j : Nat) (x : Int64) : frR I L I (xup L 8 j x) := ⟨fun _ _ _ => rfl, fun c a => xup_c _ _ _ _ a⟩
theorem frR_10 (I : xI) (L : xL) (f : Nat → Int32) : frR I L (xrw I 10 f) L := ⟨fun c _ b => xrw_c _ _ _ b, fun _ _ => rfl⟩
theorem rdW_sp {v : Nat → Int32} {n : Nat} {q : RS} {I : xI} {L : xL} (h : rdW v n q I L) {p : Nat} (hp : p ≤ n) : rdW v n (mkR p q.X q.d) (xup I 8 4 (nI p)) L :=
  ⟨h.1, h.2.1, h.2.2.1, rfl, hp, h.2.2.2.2.2.1, h.2.2.2.2.2.2.1, h.2.2.2.2.2.2.2.1, h.2.2.2.2.2.2.2.2.1, h.2.2.2.2.2.2.2.2.2⟩
theorem rdW_X {v : Nat → Int32} {n : Nat} {q : RS} {I : xI} {L : xL} (h : rdW v n q I L) {X : Nat} (hX : X < 2 ^ 63) : rdW v n (mkR q.sp X q.d) I (xup L 8 2 (lN X)) :=
  ⟨h.1, h.2.1, h.2.2.1, h.2.2.2.1, h.2.2.2.2.1, rfl, hX, h.2.2.2.2.2.2.2.1, h.2.2.2.2.2.2.2.2.1, h.2.2.2.2.2.2.2.2.2⟩
theorem rdW_d {v : Nat → Int32} {n : Nat} {q : RS} {I : xI} {L : xL} (h : rdW v n q I L) {d : PD} {f : Nat → Int32} (hf : plv d f) (ha : d.nA ≤ 4) (hl : d.nL ≤ 5) : rdW v n (mkR q.sp q.X d) (xrw I 10 f) L :=
  ⟨h.1, h.2.1, h.2.2.1, h.2.2.2.1, h.2.2.2.2.1, h.2.2.2.2.2.1, h.2.2.2.2.2.2.1, hf, ha, hl⟩
def sgN (v : Nat → Int32) (n p : Nat) : Int32 := if p < n then v p else -(nI 1000)
theorem sgN_in {v : Nat → Int32} {n p : Nat} (h : p < n) : sgN v n p = v p := if_pos h
theorem sgN_out {v : Nat → Int32} {n p : Nat} (h : n ≤ p) : sgN v n p = -(nI 1000) := if_neg (by omega)
def csX6_sign : xCs := []
theorem okX6_sign : xOkM mX6_sign csX6_sign := ⟨dX6_sign, by decide +kernel, by decide +kernel, ⟨wdX6_36, wdX6_36, wdX6_28, wdX6_36, wdX6_9, wdX6_9, wdX6_36, trivial⟩⟩
theorem hhX6_sign : ∀ q ∈ csX6_sign, xHd q.1 := xall0
theorem kkX6_sign : ∀ q ∈ csX6_sign, ∀ l, xCon l q.1 q.2 := xall0
def sX6_sign : xSpec := xReg fun as I L Q => ∃ (v : Nat → Int32) (n : Nat) (q : RS), as = [.ref 8] ∧ rdW v n q I L ∧ Q (some (.int (sgN v n q.sp))) I L
set_option maxRecDepth 100000 in
theorem kX6_sign : ∀ l, xCon l mX6_sign sX6_sign := by
  refine xcon_of okX6_sign hX6_sign rfl hhX6_sign kkX6_sign ?_
  rintro as n0 I L P Q ⟨hn9, rfl, v, n, q, rfl, hW, hQ⟩
  obtain ⟨e9, rfl⟩ := xe9 hn9
  refine ⟨Nat.le_of_ble_eq_true rfl, ?_⟩
  obtain ⟨hz, hn, hv, hs, hle, -⟩ := hW
  refine xrun okX6_sign hhX6_sign [] 60 ?_
  by_cases h : q.sp < n
  · rw [sgN_in h, ← (hv q.sp h).1] at hQ
    repeat (first | (refine xbr_f ?_ ?_; (focus ((simp (disch := omega) only [ix_lt, ix_le, ix_eq, ix_0, nI_clamp, nI_toInt, ng_T, nI_add, nI_mul, nI_sub', Int.neg_zero, not_false_eq_true, not_true_eq_false, hz, hs] <;> omega); done))) | (refine xbr_t ?_ ?_; (focus ((simp (disch := omega) only [ix_lt, ix_le, ix_eq, ix_0, nI_clamp, nI_toInt, ng_T, nI_add, nI_mul, nI_sub', Int.neg_zero, not_false_eq_true, not_true_eq_false, hz, hs] <;> omega); done))) | refine ⟨Or.inl rfl, ?_⟩ | refine ⟨Or.inr rfl, ?_⟩ | (refine ⟨?_, ?_⟩; (focus ((try simp (disch := omega) only [hz, hs, nI_mul, nI_add, nI_sub']); exact in_nI (by omega) (by omega)))))
    simp (disch := omega) only [hs, nI_mul, nI_add, nI_clamp, nI_sub']
    exact hQ
  · rw [sgN_out (by omega)] at hQ
    repeat (first | (refine xbr_f ?_ ?_; (focus ((simp (disch := omega) only [ix_lt, ix_le, ix_eq, ix_0, nI_clamp, nI_toInt, ng_T, nI_add, nI_mul, nI_sub', Int.neg_zero, not_false_eq_true, not_true_eq_false, hz, hs] <;> omega); done))) | (refine xbr_t ?_ ?_; (focus ((simp (disch := omega) only [ix_lt, ix_le, ix_eq, ix_0, nI_clamp, nI_toInt, ng_T, nI_add, nI_mul, nI_sub', Int.neg_zero, not_false_eq_true, not_true_eq_false, hz, hs] <;> omega); done))) | refine ⟨Or.inl rfl, ?_⟩ | refine ⟨Or.inr rfl, ?_⟩ | (refine ⟨?_, ?_⟩; (focus ((try simp (disch := omega) only [hz, hs, nI_mul, nI_add, nI_sub']); exact in_nI (by omega) (by omega)))))
    exact hQ
def skN (v : Nat → Int32) (n : Nat) : Nat → Nat → Nat
  | 0, p => p
  | f + 1, p => if sgN v n p = nI 32 then skN v n f (p + 1) else p
theorem sg_lt {v : Nat → Int32} {n p : Nat} {x : Int32} (h : sgN v n p = x) (hx : ¬ x = -(nI 1000)) : p < n := by
  by_cases hp : p < n
  · exact hp
  · exact absurd (h.symm.trans (sgN_out (by omega))) hx
theorem skN_le (v : Nat → Int32) (n : Nat) : ∀ f p, p ≤ n → skN v n f p ≤ n
  | 0, p, h => h
  | f + 1, p, h => by
    show (if sgN v n p = nI 32 then skN v n f (p + 1) else p) ≤ n
    split
    · rename_i hc
      exact skN_le v n f (p + 1) (sg_lt hc (by decide))
    · exact h
def csX6_skipBlanks : xCs := [(mX6_sign, sX6_sign)]
theorem okX6_skipBlanks : xOkM mX6_skipBlanks csX6_skipBlanks := ⟨dX6_skipBlanks, by decide +kernel, by decide +kernel, ⟨wdX6_53, wdX6_36, ⟨wdX6_36, fun h => Bool.noConfusion h⟩, trivial⟩⟩
theorem hhX6_skipBlanks : ∀ q ∈ csX6_skipBlanks, xHd q.1 := xall1 hX6_sign (xall0)
theorem kkX6_skipBlanks : ∀ q ∈ csX6_skipBlanks, ∀ l, xCon l q.1 q.2 := xall1 kX6_sign (xall0)
def sX6_skipBlanks : xSpec := xReg fun as I L Q => ∃ (v : Nat → Int32) (n : Nat) (q : RS), as = [.ref 8] ∧ rdW v n q I L ∧ (∀ I', rdW v n (mkR (skN v n 60 q.sp) q.X q.d) I' L → frR I L I' L → Q none I' L)
set_option maxRecDepth 100000 in
theorem kX6_skipBlanks : ∀ l, xCon l mX6_skipBlanks sX6_skipBlanks := by
  refine xcon_of okX6_skipBlanks hX6_skipBlanks rfl hhX6_skipBlanks kkX6_skipBlanks ?_
  rintro as n0 I L P Q ⟨hn9, rfl, v, n, q, rfl, hW, hQ⟩
  obtain ⟨e9, rfl⟩ := xe9 hn9
  refine ⟨Nat.le_of_ble_eq_true rfl, ?_⟩
  have loop : ∀ f p I', f ≤ 60 → skN v n f p = skN v n 60 q.sp → rdW v n (mkR p q.X q.d) I' L → frR I L I' L → xGo mX6_skipBlanks csX6_skipBlanks 2 Q [some (.ref 8), some (.int (nI (60 - f)))] [] 0 (e9 + 26) I' L xP0 := by
    intro f
    induction f with
    | zero =>
      intro p I' _ e hw hfr
      refine xrun okX6_skipBlanks hhX6_skipBlanks [] 60 ?_
      repeat (first | (refine xbr_f ?_ ?_; (focus ((simp (disch := omega) only [ix_lt, ix_le, ix_eq, ix_0, nI_clamp, nI_toInt, ng_T, nI_add, nI_mul, nI_sub', Int.neg_zero, not_false_eq_true, not_true_eq_false] <;> omega); done))) | (refine xbr_t ?_ ?_; (focus ((simp (disch := omega) only [ix_lt, ix_le, ix_eq, ix_0, nI_clamp, nI_toInt, ng_T, nI_add, nI_mul, nI_sub', Int.neg_zero, not_false_eq_true, not_true_eq_false] <;> omega); done))) | refine ⟨Or.inl rfl, ?_⟩ | refine ⟨Or.inr rfl, ?_⟩ | (refine ⟨?_, ?_⟩; (focus (exact in_nI (by omega) (by omega)))))
      rw [← e] at hQ
      exact hQ I' hw hfr
    | succ f ih =>
      intro p I' hf e hw hfr
      refine xrun okX6_skipBlanks hhX6_skipBlanks [(2, [true, true])] 60 ?_
      (first | (refine xbr_f ?_ ?_; (focus ((simp (disch := omega) only [ix_lt, ix_le, ix_eq, ix_0, nI_clamp, nI_toInt, ng_T, nI_add, nI_mul, nI_sub', Int.neg_zero, not_false_eq_true, not_true_eq_false] <;> omega); done))) | (refine xbr_t ?_ ?_; (focus ((simp (disch := omega) only [ix_lt, ix_le, ix_eq, ix_0, nI_clamp, nI_toInt, ng_T, nI_add, nI_mul, nI_sub', Int.neg_zero, not_false_eq_true, not_true_eq_false] <;> omega); done))) | refine ⟨Or.inl rfl, ?_⟩ | refine ⟨Or.inr rfl, ?_⟩ | (refine ⟨?_, ?_⟩; (focus (exact in_nI (by omega) (by omega)))))
      refine ⟨rfl, rfl, v, n, _, rfl, hw, ?_⟩
      have e1 : skN v n (f + 1) p = if sgN v n p = nI 32 then skN v n f (p + 1) else p := rfl
      show xbr (sgN v n p = nI 32) _ _
      by_cases hc : sgN v n p = nI 32
      · rw [if_pos hc] at e1
        (first | refine xbr_t hc ?_ | refine xbr_f hc ?_)
        have h4 : I' 8 4 = nI p := hw.2.2.2.1
        have hp := sg_lt hc (by decide)
        have e4 : 60 - (f + 1) + 1 = 60 - f := by omega
        refine xgo_eq (ih (p + 1) _ (by omega) (by rw [← e1]; exact e) (rdW_sp hw (by omega)) (frR_t hfr (frR_8 _ _ _ _))) ?_ ?_ rfl
        · ((repeat' (first | (with_reducible rfl) | exact xv_nil | refine xv_cons ?_ ?_ | refine xv_i ?_ | refine xv_l ?_)) <;> (simp (disch := omega) only [↓reduceIte, Bool.false_eq_true, Nat.one_mul, Nat.zero_mul, Nat.or_zero, Nat.add_zero, Nat.zero_add, Bool.toNat_true, Bool.toNat_false, shl_n, shr_n, fa_and, fa_or, nx_xor, nI_add, nI_mul, nI_sub', and_1, and_7, and_3', and_15, e4]))
        · rw [h4, nI_add]
      · rw [if_neg hc] at e1
        (first | refine xbr_t hc ?_ | refine xbr_f hc ?_)
        rw [← e, e1] at hQ
        exact hQ I' hw hfr
  refine xrun okX6_skipBlanks hhX6_skipBlanks [(2, [true, true])] 60 ?_
  exact loop 60 q.sp I (Nat.le_refl _) rfl hW (frR_0 I L)
def fgN (v : Nat → Int32) (n p hi : Nat) : Nat := if ibB (sgN v n p - nI 48) (hi + 1) then (sgN v n p - nI 48).toNatClampNeg + 1 else 0
theorem fgN_le (v : Nat → Int32) (n p : Nat) {hi : Nat} (hh : hi ≤ 9) : fgN v n p hi ≤ hi + 1 := by
  unfold fgN
  by_cases hb : ibB (sgN v n p - nI 48) (hi + 1) = true
  · rw [if_pos hb]
    obtain ⟨j, hj, e⟩ := ibB_t hb (by omega)
    rw [e, nI_clamp (by omega)]
    omega
  · rw [if_neg hb]
    omega
theorem fgN_lt {v : Nat → Int32} {n p hi : Nat} (h : ¬ fgN v n p hi = 0) : p < n := by
  by_cases hp : p < n
  · exact hp
  · exfalso
    apply h
    unfold fgN
    rw [sgN_out (by omega)]
    have e : (-(nI 1000) - nI 48).toInt = -1048 := by decide
    rw [if_neg]
    intro q
    have q := of_decide_eq_true q
    omega
def csX6_readFigure : xCs := [(mX6_sign, sX6_sign)]
theorem okX6_readFigure : xOkM mX6_readFigure csX6_readFigure := ⟨dX6_readFigure, by decide +kernel, by decide +kernel, ⟨wdX6_53, wdX6_36, ⟨wdX6_36, fun h => Bool.noConfusion h⟩, trivial⟩⟩
theorem hhX6_readFigure : ∀ q ∈ csX6_readFigure, xHd q.1 := xall1 hX6_sign (xall0)
theorem kkX6_readFigure : ∀ q ∈ csX6_readFigure, ∀ l, xCon l q.1 q.2 := xall1 kX6_sign (xall0)
def sX6_readFigure : xSpec := xReg fun as I L Q => ∃ (v : Nat → Int32) (n : Nat) (q : RS) (hi : Nat), as = [.ref 8, .int (nI hi)] ∧ hi ≤ 9 ∧ rdW v n q I L ∧ (fgN v n q.sp hi = 0 → Q (some (.int (-(nI 1)))) I L) ∧ (∀ d I', fgN v n q.sp hi = d + 1 → d ≤ hi → rdW v n (mkR (q.sp + 1) q.X q.d) I' L → frR I L I' L → Q (some (.int (nI d))) I' L)
set_option maxRecDepth 100000 in
theorem kX6_readFigure : ∀ l, xCon l mX6_readFigure sX6_readFigure := by
  refine xcon_of okX6_readFigure hX6_readFigure rfl hhX6_readFigure kkX6_readFigure ?_
  rintro as n0 I L P Q ⟨hn9, rfl, v, n, q, hi, rfl, hh, hW, hQ, hQ2⟩
  obtain ⟨e9, rfl⟩ := xe9 hn9
  refine ⟨Nat.le_of_ble_eq_true rfl, ?_⟩
  refine xrun okX6_readFigure hhX6_readFigure [] 60 ?_
  refine ⟨rfl, rfl, v, n, q, rfl, hW, ?_⟩
  have h4 : I 8 4 = nI q.sp := hW.2.2.2.1
  cases hb : ibB (sgN v n q.sp - nI 48) (hi + 1)
  · have e : fgN v n q.sp hi = 0 := if_neg (by rw [hb]; decide)
    have h := of_decide_eq_false hb
    by_cases h0 : 0 ≤ (sgN v n q.sp - nI 48).toInt
    · repeat (first | (refine xbr_f ?_ ?_; (focus ((simp (disch := omega) only [ix_lt, ix_le, ix_eq, ix_0, nI_clamp, nI_toInt, ng_T, nI_add, nI_mul, nI_sub', Int.neg_zero, not_false_eq_true, not_true_eq_false] <;> omega); done))) | (refine xbr_t ?_ ?_; (focus ((simp (disch := omega) only [ix_lt, ix_le, ix_eq, ix_0, nI_clamp, nI_toInt, ng_T, nI_add, nI_mul, nI_sub', Int.neg_zero, not_false_eq_true, not_true_eq_false] <;> omega); done))) | refine ⟨Or.inl rfl, ?_⟩ | refine ⟨Or.inr rfl, ?_⟩ | (refine ⟨?_, ?_⟩; (focus (exact in_nI (by omega) (by omega)))))
      exact hQ e
    · repeat (first | (refine xbr_f ?_ ?_; (focus ((simp (disch := omega) only [ix_lt, ix_le, ix_eq, ix_0, nI_clamp, nI_toInt, ng_T, nI_add, nI_mul, nI_sub', Int.neg_zero, not_false_eq_true, not_true_eq_false] <;> omega); done))) | (refine xbr_t ?_ ?_; (focus ((simp (disch := omega) only [ix_lt, ix_le, ix_eq, ix_0, nI_clamp, nI_toInt, ng_T, nI_add, nI_mul, nI_sub', Int.neg_zero, not_false_eq_true, not_true_eq_false] <;> omega); done))) | refine ⟨Or.inl rfl, ?_⟩ | refine ⟨Or.inr rfl, ?_⟩ | (refine ⟨?_, ?_⟩; (focus (exact in_nI (by omega) (by omega)))))
      exact hQ e
  · have e : fgN v n q.sp hi = (sgN v n q.sp - nI 48).toNatClampNeg + 1 := if_pos hb
    obtain ⟨j, hj, e1⟩ := ibB_t hb (by omega)
    have hp := fgN_lt (show ¬ fgN v n q.sp hi = 0 by omega)
    rw [e1, nI_clamp (by omega)] at e
    repeat (first | (refine xbr_f ?_ ?_; (focus ((simp (disch := omega) only [ix_lt, ix_le, ix_eq, ix_0, nI_clamp, nI_toInt, ng_T, nI_add, nI_mul, nI_sub', Int.neg_zero, not_false_eq_true, not_true_eq_false, e1] <;> omega); done))) | (refine xbr_t ?_ ?_; (focus ((simp (disch := omega) only [ix_lt, ix_le, ix_eq, ix_0, nI_clamp, nI_toInt, ng_T, nI_add, nI_mul, nI_sub', Int.neg_zero, not_false_eq_true, not_true_eq_false, e1] <;> omega); done))) | refine ⟨Or.inl rfl, ?_⟩ | refine ⟨Or.inr rfl, ?_⟩ | (refine ⟨?_, ?_⟩; (focus ((try simp (disch := omega) only [e1, nI_mul, nI_add, nI_sub']); exact in_nI (by omega) (by omega)))))
    have hq := hQ2 j _ e (by omega) (rdW_sp hW (by omega)) (frR_8 _ _ _ _)
    rw [← e1] at hq
    exact xq_eq (R := fun W V => Q (some (.int (sgN v n q.sp - nI 48))) (e9 + 26) W V xP0) hq (by rw [h4, nI_add]) rfl
def stN (v : Nat → Int32) (n p : Nat) : Nat × Nat := if fgN v n p 9 = 0 then (p, 0) else if fgN v n (p + 1) 9 = 0 then (p + 1, 0) else if 10 * (fgN v n p 9 - 1) + (fgN v n (p + 1) 9 - 1) < 16 then (p + 2, 10 * (fgN v n p 9 - 1) + (fgN v n (p + 1) 9 - 1) + 1) else (p, 0)
def csX6_readSet : xCs := [(mX6_readFigure, sX6_readFigure)]
theorem okX6_readSet : xOkM mX6_readSet csX6_readSet := ⟨dX6_readSet, by decide +kernel, by decide +kernel, ⟨wdX6_60, wdX6_60, wdX6_36, ⟨wdX6_36, fun h => Bool.noConfusion h⟩, trivial⟩⟩
theorem hhX6_readSet : ∀ q ∈ csX6_readSet, xHd q.1 := xall1 hX6_readFigure (xall0)
theorem kkX6_readSet : ∀ q ∈ csX6_readSet, ∀ l, xCon l q.1 q.2 := xall1 kX6_readFigure (xall0)
def sX6_readSet : xSpec := xReg fun as I L Q => ∃ (v : Nat → Int32) (n : Nat) (q : RS), as = [.ref 8] ∧ rdW v n q I L ∧ (∀ p I', stN v n q.sp = (p, 0) → rdW v n (mkR p q.X q.d) I' L → frR I L I' L → Q (some (.int (-(nI 1)))) I' L) ∧ (∀ s I', stN v n q.sp = (q.sp + 2, s + 1) → s < 16 → rdW v n (mkR (q.sp + 2) q.X q.d) I' L → frR I L I' L → Q (some (.int (nI s))) I' L)
set_option maxRecDepth 100000 in
theorem kX6_readSet : ∀ l, xCon l mX6_readSet sX6_readSet := by
  refine xcon_of okX6_readSet hX6_readSet rfl hhX6_readSet kkX6_readSet ?_
  rintro as n0 I L P Q ⟨hn9, rfl, v, n, q, rfl, hW, hQ, hQ2⟩
  obtain ⟨e9, rfl⟩ := xe9 hn9
  refine ⟨Nat.le_of_ble_eq_true rfl, ?_⟩
  refine xrun okX6_readSet hhX6_readSet [] 60 ?_
  have eq0 : mkR q.sp q.X q.d = q := rfl
  have hst : stN v n q.sp = if fgN v n q.sp 9 = 0 then (q.sp, 0) else if fgN v n (q.sp + 1) 9 = 0 then (q.sp + 1, 0) else if 10 * (fgN v n q.sp 9 - 1) + (fgN v n (q.sp + 1) 9 - 1) < 16 then (q.sp + 2, 10 * (fgN v n q.sp 9 - 1) + (fgN v n (q.sp + 1) 9 - 1) + 1) else (q.sp, 0) := rfl
  refine ⟨rfl, rfl, v, n, q, 9, rfl, by decide, hW, ?_, ?_⟩
  · intro h0
    rw [if_pos h0] at hst
    repeat (first | (refine xbr_f ?_ ?_; (focus ((simp (disch := omega) only [ix_lt, ix_le, ix_eq, ix_0, nI_clamp, nI_toInt, ng_T, nI_add, nI_mul, nI_sub', Int.neg_zero, not_false_eq_true, not_true_eq_false] <;> omega); done))) | (refine xbr_t ?_ ?_; (focus ((simp (disch := omega) only [ix_lt, ix_le, ix_eq, ix_0, nI_clamp, nI_toInt, ng_T, nI_add, nI_mul, nI_sub', Int.neg_zero, not_false_eq_true, not_true_eq_false] <;> omega); done))) | refine ⟨Or.inl rfl, ?_⟩ | refine ⟨Or.inr rfl, ?_⟩ | (refine ⟨?_, ?_⟩; (focus (exact in_nI (by omega) (by omega)))))
    exact hQ q.sp I hst hW (frR_0 I L)
  · intro a I1 ha ha9 hW1 hf1
    rw [if_neg (by omega)] at hst
    (first | (refine xbr_f ?_ ?_; (focus ((simp (disch := omega) only [ix_lt, ix_le, ix_eq, ix_0, nI_clamp, nI_toInt, ng_T, nI_add, nI_mul, nI_sub', Int.neg_zero, not_false_eq_true, not_true_eq_false] <;> omega); done))) | (refine xbr_t ?_ ?_; (focus ((simp (disch := omega) only [ix_lt, ix_le, ix_eq, ix_0, nI_clamp, nI_toInt, ng_T, nI_add, nI_mul, nI_sub', Int.neg_zero, not_false_eq_true, not_true_eq_false] <;> omega); done))) | refine ⟨Or.inl rfl, ?_⟩ | refine ⟨Or.inr rfl, ?_⟩ | (refine ⟨?_, ?_⟩; (focus (exact in_nI (by omega) (by omega)))))
    refine ⟨rfl, rfl, v, n, _, 9, rfl, by decide, hW1, ?_, ?_⟩
    · intro h0
      have h0 : fgN v n (q.sp + 1) 9 = 0 := h0
      rw [if_pos h0] at hst
      repeat (first | (refine xbr_f ?_ ?_; (focus ((simp (disch := omega) only [ix_lt, ix_le, ix_eq, ix_0, nI_clamp, nI_toInt, ng_T, nI_add, nI_mul, nI_sub', Int.neg_zero, not_false_eq_true, not_true_eq_false] <;> omega); done))) | (refine xbr_t ?_ ?_; (focus ((simp (disch := omega) only [ix_lt, ix_le, ix_eq, ix_0, nI_clamp, nI_toInt, ng_T, nI_add, nI_mul, nI_sub', Int.neg_zero, not_false_eq_true, not_true_eq_false] <;> omega); done))) | refine ⟨Or.inl rfl, ?_⟩ | refine ⟨Or.inr rfl, ?_⟩ | (refine ⟨?_, ?_⟩; (focus (exact in_nI (by omega) (by omega)))))
      exact hQ _ I1 hst hW1 hf1
    · intro b I2 hb hb9 hW2 hf2
      have hb : fgN v n (q.sp + 1) 9 = b + 1 := hb
      rw [if_neg (by omega), ha, hb] at hst
      rw [show 10 * (a + 1 - 1) + (b + 1 - 1) = 10 * a + b by omega] at hst
      (first | (refine xbr_f ?_ ?_; (focus ((simp (disch := omega) only [ix_lt, ix_le, ix_eq, ix_0, nI_clamp, nI_toInt, ng_T, nI_add, nI_mul, nI_sub', Int.neg_zero, not_false_eq_true, not_true_eq_false] <;> omega); done))) | (refine xbr_t ?_ ?_; (focus ((simp (disch := omega) only [ix_lt, ix_le, ix_eq, ix_0, nI_clamp, nI_toInt, ng_T, nI_add, nI_mul, nI_sub', Int.neg_zero, not_false_eq_true, not_true_eq_false] <;> omega); done))) | refine ⟨Or.inl rfl, ?_⟩ | refine ⟨Or.inr rfl, ?_⟩ | (refine ⟨?_, ?_⟩; (focus (exact in_nI (by omega) (by omega)))))
      by_cases h16 : 10 * a + b < 16
      · rw [if_pos h16] at hst
        (first | (refine xbr_f ?_ ?_; (focus ((simp (disch := omega) only [ix_lt, ix_le, ix_eq, ix_0, nI_clamp, nI_toInt, ng_T, nI_add, nI_mul, nI_sub', Int.neg_zero, not_false_eq_true, not_true_eq_false] <;> omega); done))) | (refine xbr_t ?_ ?_; (focus ((simp (disch := omega) only [ix_lt, ix_le, ix_eq, ix_0, nI_clamp, nI_toInt, ng_T, nI_add, nI_mul, nI_sub', Int.neg_zero, not_false_eq_true, not_true_eq_false] <;> omega); done))) | refine ⟨Or.inl rfl, ?_⟩ | refine ⟨Or.inr rfl, ?_⟩ | (refine ⟨?_, ?_⟩; (focus (exact in_nI (by omega) (by omega)))))
        rw [nI_mul, nI_add]
        exact hQ2 _ I2 hst h16 hW2 (frR_t hf1 hf2)
      · rw [if_neg h16] at hst
        (first | (refine xbr_f ?_ ?_; (focus ((simp (disch := omega) only [ix_lt, ix_le, ix_eq, ix_0, nI_clamp, nI_toInt, ng_T, nI_add, nI_mul, nI_sub', Int.neg_zero, not_false_eq_true, not_true_eq_false] <;> omega); done))) | (refine xbr_t ?_ ?_; (focus ((simp (disch := omega) only [ix_lt, ix_le, ix_eq, ix_0, nI_clamp, nI_toInt, ng_T, nI_add, nI_mul, nI_sub', Int.neg_zero, not_false_eq_true, not_true_eq_false] <;> omega); done))) | refine ⟨Or.inl rfl, ?_⟩ | refine ⟨Or.inr rfl, ?_⟩ | (refine ⟨?_, ?_⟩; (focus (exact in_nI (by omega) (by omega)))))
        have h4 : I2 8 4 = nI (q.sp + 1 + 1) := hW2.2.2.2.1
        have hle : q.sp ≤ n := hW.2.2.2.2.1
        exact xq_eq (R := fun W V => Q (some (.int (-(nI 1)))) (e9 + 26) W V xP0) (hQ q.sp _ hst (rdW_sp hW2 hle) (frR_t (frR_t hf1 hf2) (frR_8 _ _ _ _))) (by rw [h4, nI_sub' (by omega), show q.sp + 1 + 1 - 2 = q.sp by omega]) rfl
