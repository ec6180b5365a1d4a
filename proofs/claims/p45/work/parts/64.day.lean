/-! THE LAW'S OWN DAY, 2: who took goes -/
theorem tc_co {d : PD} {X w i : Nat} (hi : i < d.nA) : tcN d X w i = coN d X w i := if_pos hi
theorem WA_o {d : PD} (hd : d.ok) {X : Nat} {f : Nat → Int32} (h : WA d X f) {t0 : Nat} (ht : t0 = 2 ∨ t0 = 3 ∨ 36 ≤ t0) (v : Int32) : WA d X (fun t => if t = t0 then v else f t) := by
  obtain ⟨w0, w1, w2, w3, w4⟩ := h
  have h4 := hd.a4
  have h5 := hd.l5
  refine ⟨?_, ?_, fun k hk => ?_, fun i hi => ⟨?_, ?_, ?_⟩, fun l hl => ⟨?_, ?_, ?_⟩⟩
  · show (if 0 = t0 then v else f 0) = _
    rw [if_neg (by omega)]; exact w0
  · show (if 1 = t0 then v else f 1) = _
    rw [if_neg (by omega)]; exact w1
  · show (if 4 + k = t0 then v else f (4 + k)) = _
    rw [if_neg (by omega)]; exact w2 k hk
  · show (if 9 + 3 * i = t0 then v else f (9 + 3 * i)) = _
    rw [if_neg (by omega)]; exact (w3 i hi).1
  · show (if 10 + 3 * i = t0 then v else f (10 + 3 * i)) = _
    rw [if_neg (by omega)]; exact (w3 i hi).2.1
  · show (if 11 + 3 * i = t0 then v else f (11 + 3 * i)) = _
    rw [if_neg (by omega)]; exact (w3 i hi).2.2
  · show (if 21 + 3 * l = t0 then v else f (21 + 3 * l)) = _
    rw [if_neg (by omega)]; exact (w4 l hl).1
  · show (if 22 + 3 * l = t0 then v else f (22 + 3 * l)) = _
    rw [if_neg (by omega)]; exact (w4 l hl).2.1
  · show (if 23 + 3 * l = t0 then v else f (23 + 3 * l)) = _
    rw [if_neg (by omega)]; exact (w4 l hl).2.2
/-- behind the last k asses -/
def WD (d : PD) (X k : Nat) (f : Nat → Int32) : Prop := f 0 = nI d.nA ∧ f 1 = nI d.nL ∧ (∀ k, k < 5 → f (4 + k) = nI (rdN d k)) ∧ (∀ i, i < d.nA → f (9 + 3 * i) = nI (kdN d i) ∧ (i + k < d.nA → f (10 + 3 * i) = nI (meN X i) ∧ f (11 + 3 * i) = nI (inN X i)) ∧ (d.nA ≤ i + k → f (10 + 3 * i) = nI (meN (dayN d X) i) ∧ f (11 + 3 * i) = nI (inN (dayN d X) i))) ∧ (∀ l, l < d.nL → f (21 + 3 * l) = nI (mkN X l) ∧ f (23 + 3 * l) = nI (hmN d l) ∧ ((∀ i, d.nA ≤ i + k → ¬ tcN d X 15 i = l + 1) → f (22 + 3 * l) = nI (plN X l)) ∧ ∀ i, d.nA ≤ i + k → tcN d X 15 i = l + 1 → f (22 + 3 * l) = nI (plN (dayN d X) l))
theorem WD_0 {d : PD} (hd : d.ok) {X : Nat} {f : Nat → Int32} (h : WA d X f) : WD d X 0 f := by
  obtain ⟨w0, w1, w2, w3, w4⟩ := h
  refine ⟨w0, w1, w2, fun i hi => ⟨(w3 i hi).1, fun _ => (w3 i hi).2, fun q => by omega⟩, fun l hl => ⟨(w4 l hl).1, (w4 l hl).2.2, fun _ => (w4 l hl).2.1, fun i q e => ?_⟩⟩
  have := (tc_l hd e).1
  omega
theorem WD_z {d : PD} (hd : d.ok) {X : Nat} {f : Nat → Int32} (h : WD d X d.nA f) : WA d (dayN d X) f := by
  obtain ⟨w0, w1, w2, w3, w4⟩ := h
  refine ⟨w0, w1, w2, fun i hi => ⟨(w3 i hi).1, (w3 i hi).2.2 (by omega)⟩, fun l hl => ?_⟩
  obtain ⟨q1, q2, q3, q4⟩ := w4 l hl
  refine ⟨by rw [show mkN (dayN d X) l = mkN X l from mk_dw (w := 15) hd]; exact q1, ?_, q2⟩
  rcases Nat.eq_zero_or_pos (tkrN (tkN d X 27 15 d.nA).1 l) with e | e
  · have h0 := (tkr_0 hd).mp e
    rw [show plN (dayN d X) l = plN X l from pl_dwF (w := 15) hd h0]
    exact q3 (fun i _ => h0 i)
  · obtain ⟨i, hi⟩ : ∃ i, tkrN (tkN d X 27 15 d.nA).1 l = i + 1 := ⟨tkrN (tkN d X 27 15 d.nA).1 l - 1, by omega⟩
    exact q4 i (by omega) ((tkr_iff hd).mp hi)
theorem WD_n {d : PD} (hd : d.ok) {X k i : Nat} {f : Nat → Int32} (hi : i + k + 1 = d.nA) (h : WD d X k f) (hc : tcN d X 15 i = 0) : WD d X (k + 1) f := by
  obtain ⟨w0, w1, w2, w3, w4⟩ := h
  refine ⟨w0, w1, w2, fun j hj => ?_, fun l hl => ?_⟩
  · obtain ⟨q1, q2, q3⟩ := w3 j hj
    refine ⟨q1, fun q => q2 (by omega), fun q => ?_⟩
    by_cases e : j = i
    · subst e
      have a1 : inN (dayN d X) j = inN X j := by rw [← dwN_15, in_dw hd hj, if_pos hc]
      have a2 : meN (dayN d X) j = meN X j := by rw [← dwN_15, me_dw hd hj, if_neg (fun q => q.1 hc)]
      rw [a1, a2]
      exact q2 (by omega)
    · exact q3 (by omega)
  · obtain ⟨q1, q2, q3, q4⟩ := w4 l hl
    refine ⟨q1, q2, fun q => q3 (fun j hj => q j (by omega)), fun j hj e => ?_⟩
    by_cases e2 : j = i
    · subst e2
      omega
    · exact q4 j (by omega) e
theorem WD_t {d : PD} (hd : d.ok) {X k i l : Nat} {f g : Nat → Int32} (hi : i + k + 1 = d.nA) (h : WD d X k f) (hc : tcN d X 15 i = l + 1) (g1 : g (10 + 3 * i) = nI (meN (dayN d X) i)) (g2 : g (11 + 3 * i) = nI (inN (dayN d X) i)) (g3 : g (22 + 3 * l) = nI (plN (dayN d X) l)) (g4 : ∀ t, t ≠ 10 + 3 * i → t ≠ 11 + 3 * i → t ≠ 22 + 3 * l → g t = f t) : WD d X (k + 1) g := by
  obtain ⟨w0, w1, w2, w3, w4⟩ := h
  have h4 := hd.a4
  refine ⟨by rw [g4 0 (by omega) (by omega) (by omega)]; exact w0, by rw [g4 1 (by omega) (by omega) (by omega)]; exact w1, fun k hk => by rw [g4 _ (by omega) (by omega) (by omega)]; exact w2 k hk, fun j hj => ?_, fun t ht => ?_⟩
  · obtain ⟨q1, q2, q3⟩ := w3 j hj
    refine ⟨by rw [g4 _ (by omega) (by omega) (by omega)]; exact q1, fun q => ?_, fun q => ?_⟩
    · rw [g4 (10 + 3 * j) (by omega) (by omega) (by omega), g4 (11 + 3 * j) (by omega) (by omega) (by omega)]
      exact q2 (by omega)
    · by_cases e : j = i
      · subst e
        exact ⟨g1, g2⟩
      · rw [g4 (10 + 3 * j) (by omega) (by omega) (by omega), g4 (11 + 3 * j) (by omega) (by omega) (by omega)]
        exact q3 (by omega)
  · obtain ⟨q1, q2, q3, q4⟩ := w4 t ht
    refine ⟨by rw [g4 _ (by omega) (by omega) (by omega)]; exact q1, by rw [g4 _ (by omega) (by omega) (by omega)]; exact q2, fun q => ?_, fun j hj e => ?_⟩
    · by_cases e : t = l
      · subst e
        exact absurd hc (q i (by omega))
      · rw [g4 _ (by omega) (by omega) (by omega)]
        exact q3 (fun j hj => q j (by omega))
    · by_cases e2 : t = l
      · subst e2
        exact g3
      · rw [g4 _ (by omega) (by omega) (by omega)]
        refine q4 j ?_ e
        by_cases e3 : j = i
        · subst e3
          omega
        · omega
def tkF (d : PD) (X w : Nat) : Nat → Bool := fun i => decide (¬ tcN d X w i = 0)
theorem hmt_A {d : PD} (hd : d.ok) (X w : Nat) : hmtN (tkN d X 27 w d.nA).1 = cnN (tkF d X w) d.nA := by
  have h4 := hd.a4
  have e : hmtN (tkN d X 27 w d.nA).1 = cnN (tkF d X w) 4 := by
    unfold hmtN tkF
    exact cnN_cong (fun i _ => by rw [tc_get hd])
  rw [e]
  have z : ∀ j, d.nA + j ≤ 4 → cnN (tkF d X w) (d.nA + j) = cnN (tkF d X w) d.nA := by
    intro j
    induction j with
    | zero => exact fun _ => rfl
    | succ j ih =>
      intro hj
      show cnN (tkF d X w) (d.nA + j) + (tkF d X w (d.nA + j)).toNat = _
      rw [ih (by omega), show tkF d X w (d.nA + j) = false from decide_eq_false (fun q => q (if_neg (by omega)))]
      rfl
  have := z (4 - d.nA) (by omega)
  rwa [show d.nA + (4 - d.nA) = 4 by omega] at this
theorem cn_mono {f : Nat → Bool} {m : Nat} : ∀ {n}, m ≤ n → cnN f m ≤ cnN f n
  | 0, h => by
    obtain rfl : m = 0 := by omega
    exact Nat.le_refl _
  | n + 1, h => by
    by_cases e : m = n + 1
    · subst e
      exact Nat.le_refl _
    · exact Nat.le_trans (cn_mono (f := f) (show m ≤ n by omega)) (Nat.le_add_right _ _)
def csL_day : xCs := [(mL_line, sL_line)]
theorem okL_day : xOkM mL_day csL_day := ⟨dL_day, by decide +kernel, by decide +kernel, ⟨wdL_56, trivial⟩⟩
theorem hhL_day : ∀ q ∈ csL_day, xHd q.1 := xall1 hL_line (xall0)
theorem kkL_day : ∀ q ∈ csL_day, ∀ l, xCon l q.1 q.2 := xall1 kL_line (xall0)
def sL_day : xSpec := xRg7 fun as I L Q => ∃ (d : PD) (X : Nat), as = [.ref 27, .int (nI 0)] ∧ d.ok ∧ XOk X ∧ 0 < d.nA ∧ WA d X (I 27) ∧ ∀ f, WA d (dayN d X) f → Q (some (.int (nI (hmtN (tkN d X 27 15 d.nA).1)))) (xrw I 27 f) L
set_option maxRecDepth 100000 in
theorem kL_day : ∀ l, xCon l mL_day sL_day := by
  refine xcon_of okL_day hL_day rfl hhL_day kkL_day ?_
  rintro as n0 I L P Q ⟨hn9, rfl, d, X, rfl, hd, hX, h0, hW, hQ⟩
  obtain ⟨e9, rfl⟩ := xe7 hn9
  refine ⟨Nat.le_of_ble_eq_true rfl, ?_⟩
  have h4 := hd.a4
  have h5 := hd.l5
  have w0 := hW.1
  have eh := hmt_A hd X 15
  refine xrun okL_day hhL_day [(15, [true, false, true, true, true, false, false])] 20 ?_
  refine ⟨rfl, rfl, d, X, rfl, hd, hW, ?_⟩
  (first | (refine xbr_f ?_ ?_; (focus ((simp (disch := omega) only [ix_lt, ix_le, ix_eq, ix_0, nI_clamp, nI_toInt, ng_T, nI_add, nI_mul, nI_sub', Int.neg_zero, not_false_eq_true, not_true_eq_false] <;> omega); done))) | (refine xbr_t ?_ ?_; (focus ((simp (disch := omega) only [ix_lt, ix_le, ix_eq, ix_0, nI_clamp, nI_toInt, ng_T, nI_add, nI_mul, nI_sub', Int.neg_zero, not_false_eq_true, not_true_eq_false] <;> omega); done))) | refine ⟨Or.inl rfl, ?_⟩ | refine ⟨Or.inr rfl, ?_⟩ | (refine ⟨?_, ?_⟩; (focus (exact in_nI (by omega) (by omega)))))
  refine xgo_eq (xlpW (M := mL_day) (cs := csL_day) (pc := 15) d.nA (fun k => [some (.ref 27), none, some (.int (nI (rwN d X (d.nA - k)))), some (.int (nI (cnN (tkF d X 15) d.nA - cnN (tkF d X 15) (d.nA - k)))), some (.int (nI (d.nA - k) - nI 1)), none, none]) (fun k I' L' => ∃ f, I' = xrw I 27 f ∧ L' = L ∧ WD d X k f) ?_ ?_ ⟨I 27, (xrw_self I 27).symm, rfl, WD_0 hd hW⟩) ?_ rfl rfl
  · rintro k hk I2 L2 ⟨f, rfl, rfl, hf⟩ ih
    obtain ⟨i, hi⟩ : ∃ i, i + k + 1 = d.nA := ⟨d.nA - k - 1, by omega⟩
    have e1 : d.nA - k = i + 1 := by omega
    have e2 : d.nA - (k + 1) = i := by omega
    have e3 : nI (i + 1) - nI 1 = nI i := by rw [nI_sub' (by omega)]; rfl
    have hia : i < d.nA := by omega
    obtain ⟨v0, v1, v2, v3, v4⟩ := hf
    have hf : WD d X k f := ⟨v0, v1, v2, v3, v4⟩
    have ec : coN d X 15 i = tcN d X 15 i := (tc_co hia).symm
    have hR : rwN d X (i + 1) = 10 * rwN d X i + dgN (tcN d X 15 i) := by rw [← ec]; rfl
    have hN : cnN (tkF d X 15) (i + 1) = cnN (tkF d X 15) i + (decide (¬ tcN d X 15 i = 0)).toNat := rfl
    have hN2 := cn_mono (f := tkF d X 15) (show i + 1 ≤ d.nA by omega)
    have hg := dg_lt hd X i
    rw [ec] at hg
    have hb := rwN_b hd X (i := i) (by omega)
    have hb2 := rwN_b hd X (i := i + 1) (by omega)
    change xGo mL_day csL_day 15 Q [some (.ref 27), none, some (.int (nI (rwN d X (d.nA - k)))), some (.int (nI (cnN (tkF d X 15) d.nA - cnN (tkF d X 15) (d.nA - k)))), some (.int (nI (d.nA - k) - nI 1)), none, none] [] 0 _ (xrw I 27 f) L2 xP0
    change (∀ I' L', (∃ f, I' = xrw I 27 f ∧ L' = L2 ∧ WD d X (k + 1) f) → xGo mL_day csL_day 15 Q [some (.ref 27), none, some (.int (nI (rwN d X (d.nA - (k + 1))))), some (.int (nI (cnN (tkF d X 15) d.nA - cnN (tkF d X 15) (d.nA - (k + 1))))), some (.int (nI (d.nA - (k + 1)) - nI 1)), none, none] [] 0 _ I' L' xP0) at ih
    rw [e1, e3]
    rw [e2] at ih
    have er : nI (rwN d X (i + 1)) - nI (rwN d X (i + 1)) / nI 10 * nI 10 = nI (dgN (tcN d X 15 i)) := by rw [pk_rem (by omega) (by decide) (by decide), hR]; congr 1; omega
    have eq : nI (rwN d X (i + 1)) / nI 10 = nI (rwN d X i) := by rw [pk_div (by omega) (by decide) (by decide), hR]; congr 1; omega
    refine xrun okL_day hhL_day [(15, [true, false, true, true, true, false, false])] 120 ?_
    (first | (refine xbr_f ?_ ?_; (focus ((simp (disch := omega) only [ix_lt, ix_le, ix_eq, ix_0, nI_clamp, nI_toInt, ng_T, nI_add, nI_mul, nI_sub', Int.neg_zero, not_false_eq_true, not_true_eq_false] <;> omega); done))) | (refine xbr_t ?_ ?_; (focus ((simp (disch := omega) only [ix_lt, ix_le, ix_eq, ix_0, nI_clamp, nI_toInt, ng_T, nI_add, nI_mul, nI_sub', Int.neg_zero, not_false_eq_true, not_true_eq_false] <;> omega); done))) | refine ⟨Or.inl rfl, ?_⟩ | refine ⟨Or.inr rfl, ?_⟩ | (refine ⟨?_, ?_⟩; (focus (exact in_nI (by omega) (by omega)))))
    refine ⟨by decide, by decide, ?_⟩
    rw [er, eq]
    rcases hc : tcN d X 15 i with _ | l
    · rw [hc] at hN
      have hN : cnN (tkF d X 15) (i + 1) = cnN (tkF d X 15) i := hN
      have e9 : dgN 0 = 9 := rfl
      rw [e9]
      (first | (refine xbr_f ?_ ?_; (focus ((simp (disch := omega) only [ix_lt, ix_le, ix_eq, ix_0, nI_clamp, nI_toInt, ng_T, nI_add, nI_mul, nI_sub', Int.neg_zero, not_false_eq_true, not_true_eq_false] <;> omega); done))) | (refine xbr_t ?_ ?_; (focus ((simp (disch := omega) only [ix_lt, ix_le, ix_eq, ix_0, nI_clamp, nI_toInt, ng_T, nI_add, nI_mul, nI_sub', Int.neg_zero, not_false_eq_true, not_true_eq_false] <;> omega); done))) | refine ⟨Or.inl rfl, ?_⟩ | refine ⟨Or.inr rfl, ?_⟩ | (refine ⟨?_, ?_⟩; (focus (exact in_nI (by omega) (by omega)))))
      refine xgo_eq (ih _ _ ⟨f, rfl, rfl, WD_n hd hi hf hc⟩) ?_ rfl rfl
      ((repeat' (first | (with_reducible rfl) | exact xv_nil | refine xv_cons ?_ ?_ | refine xv_i ?_ | refine xv_l ?_)) <;> (simp (disch := omega) only [↓reduceIte, Bool.false_eq_true, Nat.one_mul, Nat.zero_mul, Nat.or_zero, Nat.add_zero, Nat.zero_add, Bool.toNat_true, Bool.toNat_false, shl_n, shr_n, fa_and, fa_or, nx_xor, nI_add, nI_mul, nI_sub', and_1, and_7, and_3', and_15, hN]))
    · obtain ⟨_, hl, _, hpl, _⟩ := tc_l hd hc
      rw [hc] at hN
      have hN : cnN (tkF d X 15) (i + 1) = cnN (tkF d X 15) i + 1 := hN
      have e9 : dgN (l + 1) = l := rfl
      rw [e9]
      have x3 := hX.2.1 i (by omega)
      have r1 : xrw I 27 f 27 = f := xrw_s _ _ _
      have a1 : f (nI 11 + nI 3 * nI i).toNatClampNeg = nI (inN X i) := by rw [ix3 (by omega)]; exact ((v3 i hia).2.1 (by omega)).2
      have a2 : f (nI 9 + nI 3 * nI i).toNatClampNeg = nI (kdN d i) := by rw [ix3 (by omega)]; exact (v3 i hia).1
      have a3 : f (nI 21 + nI 3 * nI l).toNatClampNeg = nI (mkN X l) := by rw [ix3 (by omega)]; exact (v4 l hl).1
      have a4 : f (nI 10 + nI 3 * nI i).toNatClampNeg = nI (meN X i) := by rw [ix3 (by omega)]; exact ((v3 i hia).2.1 (by omega)).1
      have i5 : (nI 4 + nI (inN X i)).toNatClampNeg = 4 + inN X i := by rw [nI_add, nI_clamp (by omega)]
      have a5 : f (nI 4 + nI (inN X i)).toNatClampNeg = nI (rdN d (inN X i)) := by rw [i5]; exact v2 _ x3
      have n1 : inN (dayN d X) i = rdN d (inN X i) := by rw [← dwN_15, in_dw hd hia, if_neg (by omega)]
      have n2 : plN (dayN d X) l = rdN d (inN X i) := by rw [← dwN_15, pl_dwT hd hc, hpl]
      have n3 : meN (dayN d X) i = if kdN d i = 2 then mkN X l else meN X i := by
        rw [← dwN_15, me_dw hd hia, hc]
        by_cases q : kdN d i = 2
        · rw [if_pos q, if_pos ⟨by omega, q⟩]
          rfl
        · rw [if_neg q, if_neg (fun z => q z.2)]
      have hk8 := kdN_8 d i
      (first | (refine xbr_f ?_ ?_; (focus ((simp (disch := omega) only [ix_lt, ix_le, ix_eq, ix_0, nI_clamp, nI_toInt, ng_T, nI_add, nI_mul, nI_sub', Int.neg_zero, not_false_eq_true, not_true_eq_false] <;> omega); done))) | (refine xbr_t ?_ ?_; (focus ((simp (disch := omega) only [ix_lt, ix_le, ix_eq, ix_0, nI_clamp, nI_toInt, ng_T, nI_add, nI_mul, nI_sub', Int.neg_zero, not_false_eq_true, not_true_eq_false] <;> omega); done))) | refine ⟨Or.inl rfl, ?_⟩ | refine ⟨Or.inr rfl, ?_⟩ | (refine ⟨?_, ?_⟩; (focus (exact in_nI (by omega) (by omega)))))
      refine ⟨in3 (by omega), ?_⟩
      rw [r1, a1]
      refine ⟨by rw [nI_add]; exact in_nI (by omega) (by decide), ?_⟩
      rw [r1, a5]
      refine ⟨in3 (by omega), in3 (by omega), in3 (by omega), ?_⟩
      rw [ix3 (by omega), ix3 (by omega), ix3 (by omega), xrw_up, xrw_up, xrw_s]
      have k1 : (if 9 + 3 * i = 22 + 3 * l then nI (rdN d (inN X i)) else if 9 + 3 * i = 11 + 3 * i then nI (rdN d (inN X i)) else f (9 + 3 * i)) = nI (kdN d i) := by
        rw [if_neg (by omega), if_neg (by omega)]
        exact (v3 i hia).1
      have k2 : (if 21 + 3 * l = 22 + 3 * l then nI (rdN d (inN X i)) else if 21 + 3 * l = 11 + 3 * i then nI (rdN d (inN X i)) else f (21 + 3 * l)) = nI (mkN X l) := by
        rw [if_neg (by omega), if_neg (by omega)]
        exact (v4 l hl).1
      have k3 : (if 10 + 3 * i = 22 + 3 * l then nI (rdN d (inN X i)) else if 10 + 3 * i = 11 + 3 * i then nI (rdN d (inN X i)) else f (10 + 3 * i)) = nI (meN X i) := by
        rw [if_neg (by omega), if_neg (by omega)]
        exact ((v3 i hia).2.1 (by omega)).1
      have fin : ∀ v, v = nI (meN (dayN d X) i) → WD d X (k + 1) (fun t => if t = 10 + 3 * i then v else if t = 22 + 3 * l then nI (rdN d (inN X i)) else if t = 11 + 3 * i then nI (rdN d (inN X i)) else f t) := fun v hv => by
        refine WD_t hd hi hf hc ?_ ?_ ?_ ?_
        · show (if 10 + 3 * i = 10 + 3 * i then v else _) = _
          rw [if_pos rfl, hv]
        · show (if 11 + 3 * i = 10 + 3 * i then v else if 11 + 3 * i = 22 + 3 * l then _ else if 11 + 3 * i = 11 + 3 * i then _ else _) = _
          rw [if_neg (by omega), if_neg (by omega), if_pos rfl, n1]
        · show (if 22 + 3 * l = 10 + 3 * i then v else if 22 + 3 * l = 22 + 3 * l then _ else _) = _
          rw [if_neg (by omega), if_pos rfl, n2]
        · intro t t1 t2 t3
          show (if t = 10 + 3 * i then v else if t = 22 + 3 * l then _ else if t = 11 + 3 * i then _ else f t) = _
          rw [if_neg t1, if_neg t3, if_neg t2]
      by_cases h2 : kdN d i = 2
      · rw [if_pos h2] at n3
        rw [k1]
        (first | (refine xbr_f ?_ ?_; (focus ((simp (disch := omega) only [ix_lt, ix_le, ix_eq, ix_0, nI_clamp, nI_toInt, ng_T, nI_add, nI_mul, nI_sub', Int.neg_zero, not_false_eq_true, not_true_eq_false] <;> omega); done))) | (refine xbr_t ?_ ?_; (focus ((simp (disch := omega) only [ix_lt, ix_le, ix_eq, ix_0, nI_clamp, nI_toInt, ng_T, nI_add, nI_mul, nI_sub', Int.neg_zero, not_false_eq_true, not_true_eq_false] <;> omega); done))) | refine ⟨Or.inl rfl, ?_⟩ | refine ⟨Or.inr rfl, ?_⟩ | (refine ⟨?_, ?_⟩; (focus (exact in_nI (by omega) (by omega)))))
        refine ⟨in3 (by omega), in3 (by omega), ?_⟩
        rw [ix3 (by omega), ix3 (by omega), xrw_up, xrw_s, k2]
        refine xgo_eq (ih _ _ ⟨_, rfl, rfl, fin (nI (mkN X l)) (by rw [n3])⟩) ?_ rfl rfl
        ((repeat' (first | (with_reducible rfl) | exact xv_nil | refine xv_cons ?_ ?_ | refine xv_i ?_ | refine xv_l ?_)) <;> (simp (disch := omega) only [↓reduceIte, Bool.false_eq_true, Nat.one_mul, Nat.zero_mul, Nat.or_zero, Nat.add_zero, Nat.zero_add, Bool.toNat_true, Bool.toNat_false, shl_n, shr_n, fa_and, fa_or, nx_xor, nI_add, nI_mul, nI_sub', and_1, and_7, and_3', and_15, hN]))
        congr 1
        omega
      · rw [if_neg h2] at n3
        rw [k1]
        (first | (refine xbr_f ?_ ?_; (focus ((simp (disch := omega) only [ix_lt, ix_le, ix_eq, ix_0, nI_clamp, nI_toInt, ng_T, nI_add, nI_mul, nI_sub', Int.neg_zero, not_false_eq_true, not_true_eq_false] <;> omega); done))) | (refine xbr_t ?_ ?_; (focus ((simp (disch := omega) only [ix_lt, ix_le, ix_eq, ix_0, nI_clamp, nI_toInt, ng_T, nI_add, nI_mul, nI_sub', Int.neg_zero, not_false_eq_true, not_true_eq_false] <;> omega); done))) | refine ⟨Or.inl rfl, ?_⟩ | refine ⟨Or.inr rfl, ?_⟩ | (refine ⟨?_, ?_⟩; (focus (exact in_nI (by omega) (by omega)))))
        refine ⟨in3 (by omega), in3 (by omega), ?_⟩
        rw [ix3 (by omega), xrw_up, xrw_s, k3]
        refine xgo_eq (ih _ _ ⟨_, rfl, rfl, fin (nI (meN X i)) (by rw [n3])⟩) ?_ rfl rfl
        ((repeat' (first | (with_reducible rfl) | exact xv_nil | refine xv_cons ?_ ?_ | refine xv_i ?_ | refine xv_l ?_)) <;> (simp (disch := omega) only [↓reduceIte, Bool.false_eq_true, Nat.one_mul, Nat.zero_mul, Nat.or_zero, Nat.add_zero, Nat.zero_add, Bool.toNat_true, Bool.toNat_false, shl_n, shr_n, fa_and, fa_or, nx_xor, nI_add, nI_mul, nI_sub', and_1, and_7, and_3', and_15, hN]))
        congr 1
        omega
  · rintro I2 L2 ⟨f, rfl, rfl, hf⟩
    have e1 : d.nA - d.nA = 0 := by omega
    change xGo mL_day csL_day 15 Q [some (.ref 27), none, some (.int (nI (rwN d X (d.nA - d.nA)))), some (.int (nI (cnN (tkF d X 15) d.nA - cnN (tkF d X 15) (d.nA - d.nA)))), some (.int (nI (d.nA - d.nA) - nI 1)), none, none] [] 0 _ (xrw I 27 f) L2 xP0
    rw [e1]
    have en : nI 0 - nI 1 = -(nI 1) := by decide
    rw [en]
    refine xrun okL_day hhL_day [] 60 ?_
    (first | (refine xbr_f ?_ ?_; (focus ((simp (disch := omega) only [ix_lt, ix_le, ix_eq, ix_0, nI_clamp, nI_toInt, ng_T, nI_add, nI_mul, nI_sub', Int.neg_zero, not_false_eq_true, not_true_eq_false] <;> omega); done))) | (refine xbr_t ?_ ?_; (focus ((simp (disch := omega) only [ix_lt, ix_le, ix_eq, ix_0, nI_clamp, nI_toInt, ng_T, nI_add, nI_mul, nI_sub', Int.neg_zero, not_false_eq_true, not_true_eq_false] <;> omega); done))) | refine ⟨Or.inl rfl, ?_⟩ | refine ⟨Or.inr rfl, ?_⟩ | (refine ⟨?_, ?_⟩; (focus (exact in_nI (by omega) (by omega)))))
    refine ⟨in_nI (by omega) (by omega), in_nI (by omega) (by omega), ?_⟩
    rw [eh] at hQ
    rw [xrw_up]
    refine hQ _ ?_
    have ei : (nI 2).toNatClampNeg = 2 := nI_clamp (by decide)
    rw [ei]
    exact WA_o hd (WD_z hd hf) (Or.inl rfl) _
  · have e1 : d.nA - 0 = d.nA := rfl
    have e2 : cnN (tkF d X 15) d.nA - cnN (tkF d X 15) d.nA = 0 := Nat.sub_self _
    ((repeat' (first | (with_reducible rfl) | exact xv_nil | refine xv_cons ?_ ?_ | refine xv_i ?_ | refine xv_l ?_)) <;> (simp (disch := omega) only [↓reduceIte, Bool.false_eq_true, Nat.one_mul, Nat.zero_mul, Nat.or_zero, Nat.add_zero, Nat.zero_add, Bool.toNat_true, Bool.toNat_false, shl_n, shr_n, fa_and, fa_or, nx_xor, nI_add, nI_mul, nI_sub', and_1, and_7, and_3', and_15, e1, e2, nI_clamp, w0]))
