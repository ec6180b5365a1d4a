/-! FORESIGHT -/
theorem orN_27 : ∀ p, p < 4 → orN 27 p = p := by decide
theorem getN_big {T f k : Nat} (h : T < 2 ^ f) : getN T f k = 0 := by
  unfold getN
  rw [Nat.div_eq_of_lt h, Nat.zero_mod]
theorem getN_or {T f k v : Nat} (hT : T < 2 ^ f) (hv : v < 2 ^ k) : getN (T ||| v * 2 ^ f) f k = v := by
  apply Nat.eq_of_testBit_eq
  intro i
  rw [getN_bit, Nat.testBit_or, Nat.testBit_mul_two_pow, Nat.testBit_lt_two_pow (x := T) (Nat.lt_of_lt_of_le hT (Nat.pow_le_pow_right (by decide) (by omega)))]
  by_cases hi : i < k
  · simp [hi]
  · simp [hi]
    exact Nat.testBit_lt_two_pow (Nat.lt_of_lt_of_le hv (Nat.pow_le_pow_right (by decide) (by omega)))
theorem getN_or2 {T f k v g : Nat} (h : g + k ≤ f) : getN (T ||| v * 2 ^ f) g k = getN T g k := by
  apply Nat.eq_of_testBit_eq
  intro i
  rw [getN_bit, getN_bit, Nat.testBit_or, Nat.testBit_mul_two_pow]
  by_cases hi : i < k
  · simp [hi, show ¬ f ≤ g + i by omega]
  · simp [hi]
theorem or_lt3 {T v p : Nat} (hT : T < 2 ^ (3 * p)) (hv : v < 8) : T ||| v * 2 ^ (3 * p) < 2 ^ (3 * (p + 1)) := by
  apply Nat.or_lt_two_pow
  · exact Nat.lt_of_lt_of_le hT (Nat.pow_le_pow_right (by decide) (by omega))
  · calc v * 2 ^ (3 * p) < 2 ^ 3 * 2 ^ (3 * p) := Nat.mul_lt_mul_of_pos_right (by omega) (Nat.two_pow_pos _)
      _ = 2 ^ (3 + 3 * p) := (Nat.pow_add 2 _ _).symm
      _ ≤ 2 ^ (3 * (p + 1)) := Nat.pow_le_pow_right (by decide) (by omega)
def coN (d : PD) (X w i : Nat) : Nat := if tbB w i then (chN d X i (tkN d X 27 w i).2 d.nL).1 else 0
theorem coN_le (d : PD) (X w i : Nat) : coN d X w i ≤ d.nL := by
  unfold coN
  split
  · exact (chN_le _ _ _ _ _).1
  · omega
theorem tk27_s (d : PD) (X w : Nat) {p : Nat} (hp : p < 4) : tkN d X 27 w (p + 1) = if coN d X w p = 0 then tkN d X 27 w p else ((tkN d X 27 w p).1 ||| coN d X w p * 2 ^ (3 * p), (tkN d X 27 w p).2 ||| 2 ^ (coN d X w p - 1)) := by
  have h := tkN_s d X 27 w p
  rw [orN_27 p hp] at h
  exact h
theorem tk27_lt {d : PD} (hd : d.ok) (X w : Nat) : ∀ p, p ≤ 4 → (tkN d X 27 w p).1 < 2 ^ (3 * p)
  | 0, _ => Nat.one_pos
  | p + 1, hp => by
    have ih := tk27_lt hd X w p (by omega)
    have hc := coN_le d X w p
    have h5 := hd.l5
    rw [tk27_s d X w (by omega)]
    by_cases h0 : coN d X w p = 0
    · rw [if_pos h0]
      exact Nat.lt_of_lt_of_le ih (Nat.pow_le_pow_right (by decide) (by omega))
    · rw [if_neg h0]
      exact or_lt3 ih (by omega)
theorem tk27_get {d : PD} (hd : d.ok) (X w : Nat) : ∀ p, p ≤ 4 → ∀ i, i < p → getN (tkN d X 27 w p).1 (3 * i) 3 = coN d X w i
  | 0, _, i, hi => absurd hi (by omega)
  | p + 1, hp, i, hi => by
    have ih := tk27_get hd X w p (by omega)
    have hlt := tk27_lt hd X w p (by omega)
    have hc := coN_le d X w p
    have h5 := hd.l5
    rw [tk27_s d X w (by omega)]
    by_cases h0 : coN d X w p = 0
    · rw [if_pos h0]
      by_cases hip : i = p
      · subst hip
        rw [getN_big hlt, h0]
      · exact ih i (by omega)
    · rw [if_neg h0]
      by_cases hip : i = p
      · subst hip
        exact getN_or hlt (by omega)
      · show getN ((tkN d X 27 w p).1 ||| coN d X w p * 2 ^ (3 * p)) (3 * i) 3 = _
        rw [getN_or2 (by omega)]
        exact ih i (by omega)
theorem tk27_5 {d : PD} (hd : d.ok) (X w : Nat) : ∀ i, i < 4 → getN (tkN d X 27 w d.nA).1 (3 * i) 3 ≤ 5 := by
  intro i hi
  have h4 := hd.a4
  have h5 := hd.l5
  by_cases h : i < d.nA
  · rw [tk27_get hd X w d.nA h4 i h]
    have := coN_le d X w i
    omega
  · rw [getN_big (Nat.lt_of_lt_of_le (tk27_lt hd X w d.nA h4) (Nat.pow_le_pow_right (by decide) (by omega)))]
    omega
def dayN (d : PD) (X : Nat) : Nat := goN d X (tkN d X 27 15 d.nA).1 d.nA
theorem dayN_lt {d : PD} (hd : d.ok) {X : Nat} (hX : X < 2 ^ 63) : dayN d X < 2 ^ 63 := goN_lt hX (tk27_5 hd X 15) d.nA hd.a4
def dyN (d : PD) (X : Nat) : Nat → Nat
  | 0 => X
  | n + 1 => dayN d (dyN d X n)
theorem dyN_lt {d : PD} (hd : d.ok) {X : Nat} (hX : X < 2 ^ 63) : ∀ n, dyN d X n < 2 ^ 63
  | 0 => hX
  | n + 1 => dayN_lt hd (dyN_lt hd hX n)
def csX2_behindDays : xCs := [(mX5_takesOf, sX5_takesOf), (mX5_gone, sX5_gone)]
theorem okX2_behindDays : xOkM mX2_behindDays csX2_behindDays := ⟨dX2_behindDays, by decide +kernel, by decide +kernel, ⟨wdX2_17, wdX2_21, trivial⟩⟩
theorem hhX2_behindDays : ∀ q ∈ csX2_behindDays, xHd q.1 := xall1 hX5_takesOf (xall1 hX5_gone (xall0))
theorem kkX2_behindDays : ∀ q ∈ csX2_behindDays, ∀ l, xCon l q.1 q.2 := xall1 kX5_takesOf (xall1 kX5_gone (xall0))
def sX2_behindDays : xSpec := xReg fun as I L Q => ∃ (d : PD) (X n : Nat), xPl d I ∧ as = [.ref 11, .long (lN X), .int (nI n)] ∧ X < 2 ^ 63 ∧ n ≤ 60 ∧ Q (some (.long (lN (dyN d X n)))) I L
set_option maxRecDepth 100000 in
theorem kX2_behindDays : ∀ l, xCon l mX2_behindDays sX2_behindDays := by
  refine xcon_of okX2_behindDays hX2_behindDays rfl hhX2_behindDays kkX2_behindDays ?_
  rintro as n0 I L P Q ⟨hn9, rfl, d, X, n, hP, rfl, hX, hn, hQ⟩
  obtain ⟨e9, rfl⟩ := xe9 hn9
  refine ⟨Nat.le_of_ble_eq_true rfl, ?_⟩
  refine xrun okX2_behindDays hhX2_behindDays [(6, [true, true, false, true, true, false, true])] 20 ?_
  refine xlp (M := mX2_behindDays) (cs := csX2_behindDays) (pc := 6) n (fun k => [some (.ref 11), some (.long (lN X)), none, some (.int (nI n)), some (.long (lN (dyN d X k))), none, some (.int (nI k))]) (fun _ => I) (fun _ => L) ?_ ?_
  · intro k hk ih
    refine xrun okX2_behindDays hhX2_behindDays [(6, [true, true, false, true, true, false, true])] 60 ?_
    (first | (refine xbr_f ?_ ?_; (focus ((simp (disch := omega) only [ix_lt, ix_le, ix_eq, ix_0, nI_clamp, nI_toInt, ng_T, nI_add, nI_mul, nI_sub', Int.neg_zero, not_false_eq_true, not_true_eq_false] <;> omega); done))) | (refine xbr_t ?_ ?_; (focus ((simp (disch := omega) only [ix_lt, ix_le, ix_eq, ix_0, nI_clamp, nI_toInt, ng_T, nI_add, nI_mul, nI_sub', Int.neg_zero, not_false_eq_true, not_true_eq_false] <;> omega); done))) | refine ⟨Or.inl rfl, ?_⟩ | refine ⟨Or.inr rfl, ?_⟩ | (refine ⟨?_, ?_⟩; (focus (exact in_nI (by omega) (by omega)))))
    have hY := dyN_lt hP.ok hX k
    have hT := tkN_lt hP.ok (dyN d X k) 27 15 d.nA
    refine ⟨rfl, rfl, d, dyN d X k, 27, 15, hP, rfl, hY, by decide, by decide, rfl, rfl, d, dyN d X k, _, hP, rfl, hY, by omega, tk27_5 hP.ok _ _, ?_⟩
    refine xgo_eq ih ?_ rfl rfl
    ((repeat' (first | (with_reducible rfl) | exact xv_nil | refine xv_cons ?_ ?_ | refine xv_i ?_ | refine xv_l ?_)) <;> (simp (disch := omega) only [↓reduceIte, Bool.false_eq_true, Nat.one_mul, Nat.zero_mul, Nat.or_zero, Nat.add_zero, Nat.zero_add, Bool.toNat_true, Bool.toNat_false, shl_n, shr_n, fa_and, fa_or, nx_xor, nI_add, nI_mul, nI_sub', and_1, and_7, and_3', and_15, dyN, dayN]))
  · refine xrun okX2_behindDays hhX2_behindDays [] 60 ?_
    repeat (first | (refine xbr_f ?_ ?_; (focus ((simp (disch := omega) only [ix_lt, ix_le, ix_eq, ix_0, nI_clamp, nI_toInt, ng_T, nI_add, nI_mul, nI_sub', Int.neg_zero, not_false_eq_true, not_true_eq_false] <;> omega); done))) | (refine xbr_t ?_ ?_; (focus ((simp (disch := omega) only [ix_lt, ix_le, ix_eq, ix_0, nI_clamp, nI_toInt, ng_T, nI_add, nI_mul, nI_sub', Int.neg_zero, not_false_eq_true, not_true_eq_false] <;> omega); done))) | refine ⟨Or.inl rfl, ?_⟩ | refine ⟨Or.inr rfl, ?_⟩ | (refine ⟨?_, ?_⟩; (focus (exact in_nI (by omega) (by omega)))))
    exact hQ
def ahB (d : PD) (X : Nat) : Bool := decide (bsN (hmB d X) d.nL = 2 ^ d.nL - 1)
theorem p2_32 {n : Nat} (h : n ≤ 5) : 2 ^ n ≤ 32 := Nat.pow_le_pow_right (n := 2) (j := 5) (by decide) h
def csX2_allHome : xCs := [(mX5_atHomes, sX5_atHomes)]
theorem okX2_allHome : xOkM mX2_allHome csX2_allHome := ⟨dX2_allHome, by decide +kernel, by decide +kernel, ⟨wdX2_25, wdX2_29, trivial⟩⟩
theorem hhX2_allHome : ∀ q ∈ csX2_allHome, xHd q.1 := xall1 hX5_atHomes (xall0)
theorem kkX2_allHome : ∀ q ∈ csX2_allHome, ∀ l, xCon l q.1 q.2 := xall1 kX5_atHomes (xall0)
def sX2_allHome : xSpec := xReg fun as I L Q => ∃ (d : PD) (X : Nat), xPl d I ∧ as = [.ref 11, .long (lN X)] ∧ X < 2 ^ 63 ∧ Q (some (.int (bI (ahB d X)))) I L
set_option maxRecDepth 100000 in
theorem kX2_allHome : ∀ l, xCon l mX2_allHome sX2_allHome := by
  refine xcon_of okX2_allHome hX2_allHome rfl hhX2_allHome kkX2_allHome ?_
  rintro as n0 I L P Q ⟨hn9, rfl, d, X, hP, rfl, hX, hQ⟩
  obtain ⟨e9, rfl⟩ := xe9 hn9
  refine ⟨Nat.le_of_ble_eq_true rfl, ?_⟩
  refine xrun okX2_allHome hhX2_allHome [] 60 ?_
  refine ⟨rfl, rfl, d, X, hP, rfl, hX, ?_⟩
  have h5 := hP.ok.l5
  have hp := p2_32 h5
  have hp1 := Nat.two_pow_pos d.nL
  have hb := bsN_lt (hmB d X) d.nL
  have e : (nI 1 <<< (I 11 1 &&& 31)) - nI 1 = nI (2 ^ d.nL - 1) := by rw [hP.l, shl_n 1 (by omega), Nat.one_mul, nI_sub' hp1]
  by_cases h : bsN (hmB d X) d.nL = 2 ^ d.nL - 1
  · have e2 : ahB d X = true := decide_eq_true h
    rw [e2] at hQ
    have e3 : nI (bsN (hmB d X) d.nL) = (nI 1 <<< (I 11 1 &&& 31)) - nI 1 := by rw [e, h]
    (first | refine xbr_t e3 ?_ | refine xbr_f e3 ?_)
    repeat (first | (refine xbr_f ?_ ?_; (focus ((simp (disch := omega) only [ix_lt, ix_le, ix_eq, ix_0, nI_clamp, nI_toInt, ng_T, nI_add, nI_mul, nI_sub', Int.neg_zero, not_false_eq_true, not_true_eq_false] <;> omega); done))) | (refine xbr_t ?_ ?_; (focus ((simp (disch := omega) only [ix_lt, ix_le, ix_eq, ix_0, nI_clamp, nI_toInt, ng_T, nI_add, nI_mul, nI_sub', Int.neg_zero, not_false_eq_true, not_true_eq_false] <;> omega); done))) | refine ⟨Or.inl rfl, ?_⟩ | refine ⟨Or.inr rfl, ?_⟩ | (refine ⟨?_, ?_⟩; (focus (exact in_nI (by omega) (by omega)))))
    exact hQ
  · have e2 : ahB d X = false := decide_eq_false h
    rw [e2] at hQ
    have e3 : ¬ nI (bsN (hmB d X) d.nL) = (nI 1 <<< (I 11 1 &&& 31)) - nI 1 := by rw [e, nI_eq (by omega) (by omega)]; exact h
    (first | refine xbr_t e3 ?_ | refine xbr_f e3 ?_)
    repeat (first | (refine xbr_f ?_ ?_; (focus ((simp (disch := omega) only [ix_lt, ix_le, ix_eq, ix_0, nI_clamp, nI_toInt, ng_T, nI_add, nI_mul, nI_sub', Int.neg_zero, not_false_eq_true, not_true_eq_false] <;> omega); done))) | (refine xbr_t ?_ ?_; (focus ((simp (disch := omega) only [ix_lt, ix_le, ix_eq, ix_0, nI_clamp, nI_toInt, ng_T, nI_add, nI_mul, nI_sub', Int.neg_zero, not_false_eq_true, not_true_eq_false] <;> omega); done))) | refine ⟨Or.inl rfl, ?_⟩ | refine ⟨Or.inr rfl, ?_⟩ | (refine ⟨?_, ?_⟩; (focus (exact in_nI (by omega) (by omega)))))
    exact hQ
def csX2_daysToHomes : xCs := [(mX2_allHome, sX2_allHome), (mX2_behindDays, sX2_behindDays)]
theorem okX2_daysToHomes : xOkM mX2_daysToHomes csX2_daysToHomes := ⟨dX2_daysToHomes, by decide +kernel, by decide +kernel, ⟨wdX2_33, wdX2_37, trivial⟩⟩
theorem hhX2_daysToHomes : ∀ q ∈ csX2_daysToHomes, xHd q.1 := xall1 hX2_allHome (xall1 hX2_behindDays (xall0))
theorem kkX2_daysToHomes : ∀ q ∈ csX2_daysToHomes, ∀ l, xCon l q.1 q.2 := xall1 kX2_allHome (xall1 kX2_behindDays (xall0))
def sX2_daysToHomes : xSpec := xReg fun as I L Q => ∃ (d : PD) (X : Nat), xPl d I ∧ as = [.ref 11, .long (lN X)] ∧ X < 2 ^ 63 ∧ Q (some (.int (cI (ffN (fun k => ahB d (dyN d X k)) 61)))) I L
set_option maxRecDepth 100000 in
theorem kX2_daysToHomes : ∀ l, xCon l mX2_daysToHomes sX2_daysToHomes := by
  refine xcon_of okX2_daysToHomes hX2_daysToHomes rfl hhX2_daysToHomes kkX2_daysToHomes ?_
  rintro as n0 I L P Q ⟨hn9, rfl, d, X, hP, rfl, hX, hQ⟩
  obtain ⟨e9, rfl⟩ := xe9 hn9
  refine ⟨Nat.le_of_ble_eq_true rfl, ?_⟩
  refine xrun okX2_daysToHomes hhX2_daysToHomes [(5, [true, true, false, true, false, true])] 20 ?_
  refine xlpI (M := mX2_daysToHomes) (cs := csX2_daysToHomes) (pc := 5) (fun k => ffN (fun k => ahB d (dyN d X k)) k = 0) 61 (fun k => [some (.ref 11), some (.long (lN X)), none, some (.long (lN (dyN d X k))), none, some (.int (nI k))]) (fun _ => I) (fun _ => L) ?_ ?_ rfl
  · intro k hk hI ih
    refine xrun okX2_daysToHomes hhX2_daysToHomes [(5, [true, true, false, true, false, true])] 60 ?_
    (first | (refine xbr_f ?_ ?_; (focus ((simp (disch := omega) only [ix_lt, ix_le, ix_eq, ix_0, nI_clamp, nI_toInt, ng_T, nI_add, nI_mul, nI_sub', Int.neg_zero, not_false_eq_true, not_true_eq_false] <;> omega); done))) | (refine xbr_t ?_ ?_; (focus ((simp (disch := omega) only [ix_lt, ix_le, ix_eq, ix_0, nI_clamp, nI_toInt, ng_T, nI_add, nI_mul, nI_sub', Int.neg_zero, not_false_eq_true, not_true_eq_false] <;> omega); done))) | refine ⟨Or.inl rfl, ?_⟩ | refine ⟨Or.inr rfl, ?_⟩ | (refine ⟨?_, ?_⟩; (focus (exact in_nI (by omega) (by omega)))))
    have hY := dyN_lt hP.ok hX k
    refine ⟨rfl, rfl, d, dyN d X k, hP, rfl, hY, ?_⟩
    cases hb : ahB d (dyN d X k)
    · (first | refine xbr_t (by decide) ?_ | refine xbr_f (by decide) ?_)
      have e := ffN_miss hI hb
      refine ⟨rfl, rfl, d, dyN d X k, 1, hP, rfl, hY, by decide, ?_⟩
      refine xgo_eq (ih e) ?_ rfl rfl
      ((repeat' (first | (with_reducible rfl) | exact xv_nil | refine xv_cons ?_ ?_ | refine xv_i ?_ | refine xv_l ?_)) <;> (simp (disch := omega) only [↓reduceIte, Bool.false_eq_true, Nat.one_mul, Nat.zero_mul, Nat.or_zero, Nat.add_zero, Nat.zero_add, Bool.toNat_true, Bool.toNat_false, shl_n, shr_n, fa_and, fa_or, nx_xor, nI_add, nI_mul, nI_sub', and_1, and_7, and_3', and_15, dyN]))
    · (first | refine xbr_t (by decide) ?_ | refine xbr_f (by decide) ?_)
      have e : ffN (fun k => ahB d (dyN d X k)) 61 = k + 1 := ffN_hit hI hb hk
      rw [e, cI_s] at hQ
      exact hQ
  · intro hI
    refine xrun okX2_daysToHomes hhX2_daysToHomes [] 60 ?_
    rw [hI, cI_0] at hQ
    repeat (first | (refine xbr_f ?_ ?_; (focus ((simp (disch := omega) only [ix_lt, ix_le, ix_eq, ix_0, nI_clamp, nI_toInt, ng_T, nI_add, nI_mul, nI_sub', Int.neg_zero, not_false_eq_true, not_true_eq_false] <;> omega); done))) | (refine xbr_t ?_ ?_; (focus ((simp (disch := omega) only [ix_lt, ix_le, ix_eq, ix_0, nI_clamp, nI_toInt, ng_T, nI_add, nI_mul, nI_sub', Int.neg_zero, not_false_eq_true, not_true_eq_false] <;> omega); done))) | refine ⟨Or.inl rfl, ?_⟩ | refine ⟨Or.inr rfl, ?_⟩ | (refine ⟨?_, ?_⟩; (focus (exact in_nI (by omega) (by omega)))))
    exact hQ
def dsN (s : Nat → Nat) (k : Nat) : Nat := ffN (fun a => decide (s (k - (a + 1)) = s k)) k
theorem lg_e {a b : Nat} (ha : a < 2 ^ 63) (hb : b < 2 ^ 63) : lg_cmp (lN a) (lN b) = 0 ↔ a = b := by rw [lg_cmp_eq, pk_lEQ ha hb]
def csX2_daysSince : xCs := []
theorem okX2_daysSince : xOkM mX2_daysSince csX2_daysSince := ⟨dX2_daysSince, by decide +kernel, by decide +kernel, ⟨wdX2_9, wdX2_9, wdX2_9, trivial⟩⟩
theorem hhX2_daysSince : ∀ q ∈ csX2_daysSince, xHd q.1 := xall0
theorem kkX2_daysSince : ∀ q ∈ csX2_daysSince, ∀ l, xCon l q.1 q.2 := xall0
def sX2_daysSince : xSpec := xReg fun as I L Q => ∃ (s : Nat → Nat) (k : Nat), as = [.ref 15, .int (nI k)] ∧ k ≤ 60 ∧ (∀ j, j ≤ k → L 16 j = lN (s j)) ∧ (∀ j, s j < 2 ^ 63) ∧ Q (some (.int (nI (dsN s k)))) I L
set_option maxRecDepth 100000 in
theorem kX2_daysSince : ∀ l, xCon l mX2_daysSince sX2_daysSince := by
  refine xcon_of okX2_daysSince hX2_daysSince rfl hhX2_daysSince kkX2_daysSince ?_
  rintro as n0 I L P Q ⟨hn9, rfl, s, k, rfl, hk, hs, hs63, hQ⟩
  obtain ⟨e9, rfl⟩ := xe9 hn9
  refine ⟨Nat.le_of_ble_eq_true rfl, ?_⟩
  refine xrun okX2_daysSince hhX2_daysSince [(17, [true, true, true])] 40 ?_
  have loop : xGo mX2_daysSince csX2_daysSince 17 Q [some (.ref 15), some (.int (nI k)), some (.int (nI (0 + 1)))] [] 0 (e9 + 26) I L xP0 := by
    refine xlpI (M := mX2_daysSince) (cs := csX2_daysSince) (pc := 17) (fun a => ffN (fun a => decide (s (k - (a + 1)) = s k)) a = 0) k (fun a => [some (.ref 15), some (.int (nI k)), some (.int (nI (a + 1)))]) (fun _ => I) (fun _ => L) ?_ ?_ rfl
    · intro a ha hI ih
      refine xrun okX2_daysSince hhX2_daysSince [(17, [true, true, true])] 60 ?_
      (first | (refine xbr_f ?_ ?_; (focus ((simp (disch := omega) only [ix_lt, ix_le, ix_eq, ix_0, nI_clamp, nI_toInt, ng_T, nI_add, nI_mul, nI_sub', Int.neg_zero, not_false_eq_true, not_true_eq_false] <;> omega); done))) | (refine xbr_t ?_ ?_; (focus ((simp (disch := omega) only [ix_lt, ix_le, ix_eq, ix_0, nI_clamp, nI_toInt, ng_T, nI_add, nI_mul, nI_sub', Int.neg_zero, not_false_eq_true, not_true_eq_false] <;> omega); done))) | refine ⟨Or.inl rfl, ?_⟩ | refine ⟨Or.inr rfl, ?_⟩ | (refine ⟨?_, ?_⟩; (focus (exact in_nI (by omega) (by omega)))))
      have e1 : (nI k - nI (a + 1)).toNatClampNeg = k - (a + 1) := by rw [nI_sub' (by omega), nI_clamp (by omega)]
      have e2 : (nI k).toNatClampNeg = k := nI_clamp (by omega)
      refine ⟨?_, ?_⟩
      · rw [nI_sub' (by omega)]
        exact in_nI (by omega) (by omega)
      refine ⟨in_nI (by omega) (by omega), ?_⟩
      have e3 : lg_cmp (L 16 (nI k - nI (a + 1)).toNatClampNeg) (L 16 (nI k).toNatClampNeg) = 0 ↔ s (k - (a + 1)) = s k := by rw [e1, e2, hs _ (by omega), hs _ (by omega), lg_e (hs63 _) (hs63 _)]
      by_cases hb : s (k - (a + 1)) = s k
      · have e4 := e3.mpr hb
        (first | refine xbr_t e4 ?_ | refine xbr_f e4 ?_)
        have e : dsN s k = a + 1 := ffN_hit hI (decide_eq_true hb) ha
        rw [e] at hQ
        exact hQ
      · have e4 := fun q => hb (e3.mp q)
        (first | refine xbr_t e4 ?_ | refine xbr_f e4 ?_)
        refine xgo_eq (ih (ffN_miss hI (decide_eq_false hb))) ?_ rfl rfl
        ((repeat' (first | (with_reducible rfl) | exact xv_nil | refine xv_cons ?_ ?_ | refine xv_i ?_ | refine xv_l ?_)) <;> (simp (disch := omega) only [↓reduceIte, Bool.false_eq_true, Nat.one_mul, Nat.zero_mul, Nat.or_zero, Nat.add_zero, Nat.zero_add, Bool.toNat_true, Bool.toNat_false, shl_n, shr_n, fa_and, fa_or, nx_xor, nI_add, nI_mul, nI_sub', and_1, and_7, and_3', and_15]))
    · intro hI
      refine xrun okX2_daysSince hhX2_daysSince [] 60 ?_
      have e : dsN s k = 0 := hI
      rw [e] at hQ
      repeat (first | (refine xbr_f ?_ ?_; (focus ((simp (disch := omega) only [ix_lt, ix_le, ix_eq, ix_0, nI_clamp, nI_toInt, ng_T, nI_add, nI_mul, nI_sub', Int.neg_zero, not_false_eq_true, not_true_eq_false] <;> omega); done))) | (refine xbr_t ?_ ?_; (focus ((simp (disch := omega) only [ix_lt, ix_le, ix_eq, ix_0, nI_clamp, nI_toInt, ng_T, nI_add, nI_mul, nI_sub', Int.neg_zero, not_false_eq_true, not_true_eq_false] <;> omega); done))) | refine ⟨Or.inl rfl, ?_⟩ | refine ⟨Or.inr rfl, ?_⟩ | (refine ⟨?_, ?_⟩; (focus (exact in_nI (by omega) (by omega)))))
      exact hQ
  repeat (first | (refine xbr_f ?_ ?_; (focus ((simp (disch := omega) only [ix_lt, ix_le, ix_eq, ix_0, nI_clamp, nI_toInt, ng_T, nI_add, nI_mul, nI_sub', Int.neg_zero, not_false_eq_true, not_true_eq_false] <;> omega); done))) | (refine xbr_t ?_ ?_; (focus ((simp (disch := omega) only [ix_lt, ix_le, ix_eq, ix_0, nI_clamp, nI_toInt, ng_T, nI_add, nI_mul, nI_sub', Int.neg_zero, not_false_eq_true, not_true_eq_false] <;> omega); done))) | refine ⟨Or.inl rfl, ?_⟩ | refine ⟨Or.inr rfl, ?_⟩ | (refine ⟨?_, ?_⟩; (focus (exact in_nI (by omega) (by omega)))))
  exact loop
