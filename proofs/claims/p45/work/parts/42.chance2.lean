def otN (d : PD) (X l p : Nat) : Nat → Nat
  | 0 => 0
  | w + 1 => otN d X l p w + if tkrN (tkN d X 27 w d.nA).1 l = 0 then 0 else weN d w p
def ohN (d : PD) (X p : Nat) : Nat → Nat
  | 0 => 0
  | w + 1 => ohN d X p w + pcf 32 (bsN (hmB d (goN d X (tkN d X 27 w d.nA).1 d.nA)) d.nL) * weN d w p
theorem otN_le {d : PD} (hd : d.ok) (X l : Nat) {p : Nat} (hp : p ≤ 12) : ∀ w, w ≤ 2 ^ d.nA → otN d X l p w ≤ 20736 * w
  | 0, _ => Nat.le_refl 0
  | w + 1, h => by
    have ih := otN_le hd X l hp w (by omega)
    have h2 := weN_le hd (w := w) (by omega) hp
    show otN d X l p w + (if tkrN (tkN d X 27 w d.nA).1 l = 0 then 0 else weN d w p) ≤ _
    split <;> omega
theorem ohN_le {d : PD} (hd : d.ok) (X : Nat) {p : Nat} (hp : p ≤ 12) : ∀ w, w ≤ 2 ^ d.nA → ohN d X p w ≤ 103680 * w
  | 0, _ => Nat.le_refl 0
  | w + 1, h => by
    have ih := ohN_le hd X hp w (by omega)
    have h2 := weN_le hd (w := w) (by omega) hp
    have h3 := pcf_lt (bsN_lt (hmB d (goN d X (tkN d X 27 w d.nA).1 d.nA)) d.nL) (f := 32)
    have h5 := hd.l5
    have h4 := Nat.mul_le_mul (show pcf 32 (bsN (hmB d (goN d X (tkN d X 27 w d.nA).1 d.nA)) d.nL) ≤ 5 by omega) h2
    show ohN d X p w + pcf 32 (bsN (hmB d (goN d X (tkN d X 27 w d.nA).1 d.nA)) d.nL) * weN d w p ≤ _
    omega
theorem cI_9 (c : Nat) (h : c < 2 ^ 30) : cI c = -(nI 9) ↔ c = 0 := by
  rcases c with _ | c
  · exact ⟨fun _ => rfl, fun _ => rfl⟩
  · rw [cI_s]
    refine ⟨fun q => ?_, fun q => by omega⟩
    rw [ix_eq, ng_T (by decide), nI_toInt (by omega)] at q
    omega
theorem p12_le {n : Nat} (h : n ≤ 4) : 12 ^ n ≤ 20736 := Nat.pow_le_pow_right (n := 12) (j := 4) (by decide) h
theorem p16_le {n : Nat} (h : n ≤ 4) : 2 ^ n ≤ 16 := Nat.pow_le_pow_right (n := 2) (j := 4) (by decide) h
theorem tkrN_le (T l : Nat) : tkrN T l ≤ 4 := ffN_le _ 4
def csX0_ofTaking : xCs := [(mX5_takesOf, sX5_takesOf), (mX5_takerOf, sX5_takerOf), (mX0_weight, sX0_weight), (mX0_power, sX0_power), (mX0_keepLowest, sX0_keepLowest)]
theorem okX0_ofTaking : xOkM mX0_ofTaking csX0_ofTaking := ⟨dX0_ofTaking, by decide +kernel, by decide +kernel, ⟨wdX0_18, wdX0_24, wdX0_28, wdX0_32, wdX0_18, wdX0_36, wdX0_40, trivial⟩⟩
theorem hhX0_ofTaking : ∀ q ∈ csX0_ofTaking, xHd q.1 := xall1 hX5_takesOf (xall1 hX5_takerOf (xall1 hX0_weight (xall1 hX0_power (xall1 hX0_keepLowest (xall0)))))
theorem kkX0_ofTaking : ∀ q ∈ csX0_ofTaking, ∀ l, xCon l q.1 q.2 := xall1 kX5_takesOf (xall1 kX5_takerOf (xall1 kX0_weight (xall1 kX0_power (xall1 kX0_keepLowest (xall0)))))
def sX0_ofTaking : xSpec := xReg fun as I L Q => ∃ (d : PD) (X l p : Nat), xPl d I ∧ as = [.ref 19, .ref 11, .long (lN X), .int (nI l), .int (nI p)] ∧ X < 2 ^ 63 ∧ l < 8 ∧ p ≤ 12 ∧ Q none I (xup (xup L 19 0 (lN (otN d X l p (2 ^ d.nA) / Nat.gcd (otN d X l p (2 ^ d.nA)) (12 ^ d.nA)))) 19 1 (lN (12 ^ d.nA / Nat.gcd (otN d X l p (2 ^ d.nA)) (12 ^ d.nA))))
set_option maxRecDepth 100000 in
theorem kX0_ofTaking : ∀ l, xCon l mX0_ofTaking sX0_ofTaking := by
  refine xcon_of okX0_ofTaking hX0_ofTaking rfl hhX0_ofTaking kkX0_ofTaking ?_
  rintro as n0 I L P Q ⟨hn9, rfl, d, X, l, p, hP, rfl, hX, hl, hp, hQ⟩
  obtain ⟨e9, rfl⟩ := xe9 hn9
  refine ⟨Nat.le_of_ble_eq_true rfl, ?_⟩
  have ha := hP.a
  have h4 := hP.ok.a4
  have h16 := p16_le h4
  have e0 : nI 1 <<< (I 11 0 &&& 31) = nI (2 ^ d.nA) := by rw [ha, shl_n _ (by omega), Nat.one_mul]
  refine xrun okX0_ofTaking hhX0_ofTaking [(6, [true, true, true, false, true, true, true, false, true, false])] 20 ?_
  refine xlp (M := mX0_ofTaking) (cs := csX0_ofTaking) (pc := 6) (2 ^ d.nA) (fun w => [some (.ref 19), some (.ref 11), some (.long (lN X)), none, some (.int (nI l)), some (.int (nI p)), some (.long (lN (otN d X l p w))), none, some (.int (nI w)), none]) (fun _ => I) (fun _ => L) ?_ ?_
  · intro w hw ih
    refine xrun okX0_ofTaking hhX0_ofTaking [(6, [true, true, true, false, true, true, true, false, true, false])] 60 ?_
    (first | (refine xbr_f ?_ ?_; (focus ((simp (disch := omega) only [ix_lt, ix_le, ix_eq, ix_0, nI_clamp, nI_toInt, ng_T, nI_add, nI_mul, nI_sub', Int.neg_zero, not_false_eq_true, not_true_eq_false, e0] <;> omega); done))) | (refine xbr_t ?_ ?_; (focus ((simp (disch := omega) only [ix_lt, ix_le, ix_eq, ix_0, nI_clamp, nI_toInt, ng_T, nI_add, nI_mul, nI_sub', Int.neg_zero, not_false_eq_true, not_true_eq_false, e0] <;> omega); done))) | refine ⟨Or.inl rfl, ?_⟩ | refine ⟨Or.inr rfl, ?_⟩ | (refine ⟨?_, ?_⟩; (focus ((try simp (disch := omega) only [e0, nI_mul, nI_add, nI_sub']); exact in_nI (by omega) (by omega)))))
    have hT := (tkN_lt hP.ok X 27 w d.nA).1
    refine ⟨rfl, rfl, d, X, 27, w, hP, rfl, hX, by decide, by omega, ?_⟩
    refine ⟨rfl, rfl, _, l, rfl, by omega, hl, ?_⟩
    have e : otN d X l p (w + 1) = otN d X l p w + if tkrN (tkN d X 27 w d.nA).1 l = 0 then 0 else weN d w p := rfl
    have h9 := cI_9 (tkrN (tkN d X 27 w d.nA).1 l) (by have := tkrN_le (tkN d X 27 w d.nA).1 l; omega)
    by_cases hc : tkrN (tkN d X 27 w d.nA).1 l = 0
    · rw [if_pos hc] at e
      (first | refine xbr_t (h9.mpr hc) ?_ | refine xbr_f (h9.mpr hc) ?_)
      refine xgo_eq ih ?_ rfl rfl
      rw [e]
      ((repeat' (first | (with_reducible rfl) | exact xv_nil | refine xv_cons ?_ ?_ | refine xv_i ?_ | refine xv_l ?_)) <;> (simp (disch := omega) only [↓reduceIte, Bool.false_eq_true, Nat.one_mul, Nat.zero_mul, Nat.or_zero, Nat.add_zero, Nat.zero_add, Bool.toNat_true, Bool.toNat_false, shl_n, shr_n, fa_and, fa_or, nx_xor, nI_add, nI_mul, nI_sub', and_1, and_7, and_3', and_15]))
    · rw [if_neg hc] at e
      have e9 : ¬ cI (tkrN (tkN d X 27 w d.nA).1 l) = -(nI 9) := fun q => hc (h9.mp q)
      (first | refine xbr_t e9 ?_ | refine xbr_f e9 ?_)
      refine ⟨rfl, rfl, d, w, p, hP, rfl, hw, hp, ?_⟩
      refine xgo_eq ih ?_ rfl rfl
      rw [e]
      ((repeat' (first | (with_reducible rfl) | exact xv_nil | refine xv_cons ?_ ?_ | refine xv_i ?_ | refine xv_l ?_)) <;> (simp (disch := omega) only [↓reduceIte, Bool.false_eq_true, Nat.one_mul, Nat.zero_mul, Nat.or_zero, Nat.add_zero, Nat.zero_add, Bool.toNat_true, Bool.toNat_false, shl_n, shr_n, fa_and, fa_or, nx_xor, nI_add, nI_mul, nI_sub', and_1, and_7, and_3', and_15, lN_add]))
  · refine xrun okX0_ofTaking hhX0_ofTaking [] 60 ?_
    repeat (first | (refine xbr_f ?_ ?_; (focus ((simp (disch := omega) only [ix_lt, ix_le, ix_eq, ix_0, nI_clamp, nI_toInt, ng_T, nI_add, nI_mul, nI_sub', Int.neg_zero, not_false_eq_true, not_true_eq_false, e0] <;> omega); done))) | (refine xbr_t ?_ ?_; (focus ((simp (disch := omega) only [ix_lt, ix_le, ix_eq, ix_0, nI_clamp, nI_toInt, ng_T, nI_add, nI_mul, nI_sub', Int.neg_zero, not_false_eq_true, not_true_eq_false, e0] <;> omega); done))) | refine ⟨Or.inl rfl, ?_⟩ | refine ⟨Or.inr rfl, ?_⟩ | (refine ⟨?_, ?_⟩; (focus ((try simp (disch := omega) only [e0, nI_mul, nI_add, nI_sub']); exact in_nI (by omega) (by omega)))))
    have hs := otN_le hP.ok X l hp (2 ^ d.nA) (Nat.le_refl _)
    have h12 := p12_le h4
    refine ⟨rfl, rfl, 12, d.nA, by rw [ha], by decide, by omega, ?_⟩
    refine ⟨rfl, rfl, _, _, rfl, by omega, by omega, Nat.pow_pos (by decide), ?_⟩
    exact hQ
def csX0_ofHomes : xCs := [(mX5_takesOf, sX5_takesOf), (mX5_gone, sX5_gone), (mX5_atHomes, sX5_atHomes), (mJ6_bitCount_0f7a4, sJ6_bitCount_0f7a4), (mX0_weight, sX0_weight), (mX0_power, sX0_power), (mX0_keepLowest, sX0_keepLowest)]
theorem okX0_ofHomes : xOkM mX0_ofHomes csX0_ofHomes := ⟨dX0_ofHomes, by decide +kernel, by decide +kernel, ⟨wdX0_18, wdX0_24, wdX0_44, wdX0_48, wdX0_52, wdX0_32, wdX0_18, wdX0_36, wdX0_40, trivial⟩⟩
theorem hhX0_ofHomes : ∀ q ∈ csX0_ofHomes, xHd q.1 := xall1 hX5_takesOf (xall1 hX5_gone (xall1 hX5_atHomes (xall1 hJ6_bitCount_0f7a4 (xall1 hX0_weight (xall1 hX0_power (xall1 hX0_keepLowest (xall0)))))))
theorem kkX0_ofHomes : ∀ q ∈ csX0_ofHomes, ∀ l, xCon l q.1 q.2 := xall1 kX5_takesOf (xall1 kX5_gone (xall1 kX5_atHomes (xall1 kJ6_bitCount_0f7a4 (xall1 kX0_weight (xall1 kX0_power (xall1 kX0_keepLowest (xall0)))))))
def sX0_ofHomes : xSpec := xReg fun as I L Q => ∃ (d : PD) (X p : Nat), xPl d I ∧ as = [.ref 19, .ref 11, .long (lN X), .int (nI p)] ∧ X < 2 ^ 63 ∧ p ≤ 12 ∧ Q none I (xup (xup L 19 0 (lN (ohN d X p (2 ^ d.nA) / Nat.gcd (ohN d X p (2 ^ d.nA)) (12 ^ d.nA)))) 19 1 (lN (12 ^ d.nA / Nat.gcd (ohN d X p (2 ^ d.nA)) (12 ^ d.nA))))
set_option maxRecDepth 100000 in
theorem kX0_ofHomes : ∀ l, xCon l mX0_ofHomes sX0_ofHomes := by
  refine xcon_of okX0_ofHomes hX0_ofHomes rfl hhX0_ofHomes kkX0_ofHomes ?_
  rintro as n0 I L P Q ⟨hn9, rfl, d, X, p, hP, rfl, hX, hp, hQ⟩
  obtain ⟨e9, rfl⟩ := xe9 hn9
  refine ⟨Nat.le_of_ble_eq_true rfl, ?_⟩
  have ha := hP.a
  have h4 := hP.ok.a4
  have h5 := hP.ok.l5
  have h16 := p16_le h4
  have e0 : nI 1 <<< (I 11 0 &&& 31) = nI (2 ^ d.nA) := by rw [ha, shl_n _ (by omega), Nat.one_mul]
  refine xrun okX0_ofHomes hhX0_ofHomes [(6, [true, true, true, false, true, true, false, true, false, false])] 20 ?_
  refine xlp (M := mX0_ofHomes) (cs := csX0_ofHomes) (pc := 6) (2 ^ d.nA) (fun w => [some (.ref 19), some (.ref 11), some (.long (lN X)), none, some (.int (nI p)), some (.long (lN (ohN d X p w))), none, some (.int (nI w)), none, none]) (fun _ => I) (fun _ => L) ?_ ?_
  · intro w hw ih
    refine xrun okX0_ofHomes hhX0_ofHomes [(6, [true, true, true, false, true, true, false, true, false, false])] 60 ?_
    (first | (refine xbr_f ?_ ?_; (focus ((simp (disch := omega) only [ix_lt, ix_le, ix_eq, ix_0, nI_clamp, nI_toInt, ng_T, nI_add, nI_mul, nI_sub', Int.neg_zero, not_false_eq_true, not_true_eq_false, e0] <;> omega); done))) | (refine xbr_t ?_ ?_; (focus ((simp (disch := omega) only [ix_lt, ix_le, ix_eq, ix_0, nI_clamp, nI_toInt, ng_T, nI_add, nI_mul, nI_sub', Int.neg_zero, not_false_eq_true, not_true_eq_false, e0] <;> omega); done))) | refine ⟨Or.inl rfl, ?_⟩ | refine ⟨Or.inr rfl, ?_⟩ | (refine ⟨?_, ?_⟩; (focus ((try simp (disch := omega) only [e0, nI_mul, nI_add, nI_sub']); exact in_nI (by omega) (by omega)))))
    have hT := (tkN_lt hP.ok X 27 w d.nA).1
    refine ⟨rfl, rfl, d, X, 27, w, hP, rfl, hX, by decide, by omega, ?_⟩
    refine ⟨rfl, rfl, d, X, _, hP, rfl, hX, by omega, tk27_5 hP.ok X w, ?_⟩
    have hY := goN_lt (d := d) hX (tk27_5 hP.ok X w) d.nA h4
    refine ⟨rfl, rfl, d, _, hP, rfl, hY, ?_⟩
    have hb := bsN_lt (hmB d (goN d X (tkN d X 27 w d.nA).1 d.nA)) d.nL
    have h32 := p2_32 h5
    refine ⟨rfl, rfl, _, rfl, by omega, ?_⟩
    refine ⟨rfl, rfl, d, w, p, hP, rfl, hw, hp, ?_⟩
    have hpc := pcf_le 32 (bsN (hmB d (goN d X (tkN d X 27 w d.nA).1 d.nA)) d.nL)
    have el := nI_l (n := pcf 32 (bsN (hmB d (goN d X (tkN d X 27 w d.nA).1 d.nA)) d.nL)) (by omega)
    refine xgo_eq ih ?_ rfl rfl
    ((repeat' (first | (with_reducible rfl) | exact xv_nil | refine xv_cons ?_ ?_ | refine xv_i ?_ | refine xv_l ?_)) <;> (simp (disch := omega) only [↓reduceIte, Bool.false_eq_true, Nat.one_mul, Nat.zero_mul, Nat.or_zero, Nat.add_zero, Nat.zero_add, Bool.toNat_true, Bool.toNat_false, shl_n, shr_n, fa_and, fa_or, nx_xor, nI_add, nI_mul, nI_sub', and_1, and_7, and_3', and_15, ohN, el, lN_mul, lN_add]))
  · refine xrun okX0_ofHomes hhX0_ofHomes [] 60 ?_
    repeat (first | (refine xbr_f ?_ ?_; (focus ((simp (disch := omega) only [ix_lt, ix_le, ix_eq, ix_0, nI_clamp, nI_toInt, ng_T, nI_add, nI_mul, nI_sub', Int.neg_zero, not_false_eq_true, not_true_eq_false, e0] <;> omega); done))) | (refine xbr_t ?_ ?_; (focus ((simp (disch := omega) only [ix_lt, ix_le, ix_eq, ix_0, nI_clamp, nI_toInt, ng_T, nI_add, nI_mul, nI_sub', Int.neg_zero, not_false_eq_true, not_true_eq_false, e0] <;> omega); done))) | refine ⟨Or.inl rfl, ?_⟩ | refine ⟨Or.inr rfl, ?_⟩ | (refine ⟨?_, ?_⟩; (focus ((try simp (disch := omega) only [e0, nI_mul, nI_add, nI_sub']); exact in_nI (by omega) (by omega)))))
    have hs := ohN_le hP.ok X hp (2 ^ d.nA) (Nat.le_refl _)
    have h12 := p12_le h4
    refine ⟨rfl, rfl, 12, d.nA, by rw [ha], by decide, by omega, ?_⟩
    refine ⟨rfl, rfl, _, _, rfl, by omega, by omega, Nat.pow_pos (by decide), ?_⟩
    exact hQ
