def taB (d : PD) (X s : Nat) : Nat → Bool := fun l => decide (bsN (fun i => wtB d X i (mkN X l)) d.nA &&& s = 0)
def csX9_takeAll : xCs := [(mX7_marksOf, sX7_marksOf), (mX5_takersOf, sX5_takersOf)]
theorem okX9_takeAll : xOkM mX9_takeAll csX9_takeAll := ⟨dX9_takeAll, by decide +kernel, by decide +kernel, ⟨wdX9_33, wdX9_93, wdX9_99, trivial⟩⟩
theorem hhX9_takeAll : ∀ q ∈ csX9_takeAll, xHd q.1 := xall1 hX7_marksOf (xall1 hX5_takersOf (xall0))
theorem kkX9_takeAll : ∀ q ∈ csX9_takeAll, ∀ l, xCon l q.1 q.2 := xall1 kX7_marksOf (xall1 kX5_takersOf (xall0))
def sX9_takeAll : xSpec := xReg fun as I L Q => ∃ (d : PD) (X s : Nat), xPl d I ∧ as = [.ref 11, .long (lN X), .int (nI s)] ∧ X < 2 ^ 63 ∧ s < 2 ^ 31 ∧ Q (some (.int (bI (decide (ffN (taB d X s) d.nL = 0))))) I L
set_option maxRecDepth 100000 in
theorem kX9_takeAll : ∀ l, xCon l mX9_takeAll sX9_takeAll := by
  refine xcon_of okX9_takeAll hX9_takeAll rfl hhX9_takeAll kkX9_takeAll ?_
  rintro as n0 I L P Q ⟨hn9, rfl, d, X, s, hP, rfl, hX, hs, hQ⟩
  obtain ⟨e9, rfl⟩ := xe9 hn9
  refine ⟨Nat.le_of_ble_eq_true rfl, ?_⟩
  have hl := hP.l
  have h5 := hP.ok.l5
  have h4 := hP.ok.a4
  refine xrun okX9_takeAll hhX9_takeAll [(3, [true, true, false, true, true])] 20 ?_
  refine xlpI (M := mX9_takeAll) (cs := csX9_takeAll) (pc := 3) (fun l => ffN (taB d X s) l = 0) d.nL (fun l => [some (.ref 11), some (.long (lN X)), none, some (.int (nI s)), some (.int (nI l))]) (fun _ => I) (fun _ => L) ?_ ?_ rfl
  · intro l hl2 hI ih
    refine xrun okX9_takeAll hhX9_takeAll [(3, [true, true, false, true, true])] 60 ?_
    (first | (refine xbr_f ?_ ?_; (focus ((simp (disch := omega) only [ix_lt, ix_le, ix_eq, ix_0, nI_clamp, nI_toInt, ng_T, nI_add, nI_mul, nI_sub', Int.neg_zero, not_false_eq_true, not_true_eq_false, hl] <;> omega); done))) | (refine xbr_t ?_ ?_; (focus ((simp (disch := omega) only [ix_lt, ix_le, ix_eq, ix_0, nI_clamp, nI_toInt, ng_T, nI_add, nI_mul, nI_sub', Int.neg_zero, not_false_eq_true, not_true_eq_false, hl] <;> omega); done))) | refine ⟨Or.inl rfl, ?_⟩ | refine ⟨Or.inr rfl, ?_⟩ | (refine ⟨?_, ?_⟩; (focus ((try simp (disch := omega) only [hl, nI_mul, nI_add, nI_sub']); exact in_nI (by omega) (by omega)))))
    refine ⟨rfl, rfl, X, l, rfl, by omega, by omega, ?_⟩
    refine ⟨rfl, rfl, d, X, mkN X l, hP, rfl, hX, mkN_16 X l, ?_⟩
    have hb := bsN_lt (fun i => wtB d X i (mkN X l)) d.nA
    have hp : 2 ^ d.nA ≤ 2 ^ 4 := Nat.pow_le_pow_right (by decide) h4
    have hle : bsN (fun i => wtB d X i (mkN X l)) d.nA &&& s ≤ bsN (fun i => wtB d X i (mkN X l)) d.nA := Nat.and_le_left
    by_cases hc : bsN (fun i => wtB d X i (mkN X l)) d.nA &&& s = 0
    · have e := ffN_hit hI (f := taB d X s) (decide_eq_true hc) hl2
      have e2 : nI (bsN (fun i => wtB d X i (mkN X l)) d.nA) &&& nI s = 0 := by rw [fa_and, hc]; rfl
      (first | refine xbr_t e2 ?_ | refine xbr_f e2 ?_)
      repeat (first | (refine xbr_f ?_ ?_; (focus ((simp (disch := omega) only [ix_lt, ix_le, ix_eq, ix_0, nI_clamp, nI_toInt, ng_T, nI_add, nI_mul, nI_sub', Int.neg_zero, not_false_eq_true, not_true_eq_false] <;> omega); done))) | (refine xbr_t ?_ ?_; (focus ((simp (disch := omega) only [ix_lt, ix_le, ix_eq, ix_0, nI_clamp, nI_toInt, ng_T, nI_add, nI_mul, nI_sub', Int.neg_zero, not_false_eq_true, not_true_eq_false] <;> omega); done))) | refine ⟨Or.inl rfl, ?_⟩ | refine ⟨Or.inr rfl, ?_⟩ | (refine ⟨?_, ?_⟩; (focus (exact in_nI (by omega) (by omega)))))
      rw [decide_eq_false (show ¬ ffN (taB d X s) d.nL = 0 by omega)] at hQ
      exact hQ
    · have e := ffN_miss hI (f := taB d X s) (decide_eq_false hc)
      have e2 : ¬ nI (bsN (fun i => wtB d X i (mkN X l)) d.nA) &&& nI s = 0 := by
        rw [fa_and]
        (simp (disch := omega) only [ix_lt, ix_le, ix_eq, ix_0, nI_clamp, nI_toInt, ng_T, nI_add, nI_mul, nI_sub', Int.neg_zero, not_false_eq_true, not_true_eq_false] <;> omega)
      (first | refine xbr_t e2 ?_ | refine xbr_f e2 ?_)
      refine xgo_eq (ih e) ?_ rfl rfl
      ((repeat' (first | (with_reducible rfl) | exact xv_nil | refine xv_cons ?_ ?_ | refine xv_i ?_ | refine xv_l ?_)) <;> (simp (disch := omega) only [↓reduceIte, Bool.false_eq_true, Nat.one_mul, Nat.zero_mul, Nat.or_zero, Nat.add_zero, Nat.zero_add, Bool.toNat_true, Bool.toNat_false, shl_n, shr_n, fa_and, fa_or, nx_xor, nI_add, nI_mul, nI_sub', and_1, and_7, and_3', and_15]))
  · intro hI
    refine xrun okX9_takeAll hhX9_takeAll [] 60 ?_
    rw [decide_eq_true hI] at hQ
    repeat (first | (refine xbr_f ?_ ?_; (focus ((simp (disch := omega) only [ix_lt, ix_le, ix_eq, ix_0, nI_clamp, nI_toInt, ng_T, nI_add, nI_mul, nI_sub', Int.neg_zero, not_false_eq_true, not_true_eq_false, hl] <;> omega); done))) | (refine xbr_t ?_ ?_; (focus ((simp (disch := omega) only [ix_lt, ix_le, ix_eq, ix_0, nI_clamp, nI_toInt, ng_T, nI_add, nI_mul, nI_sub', Int.neg_zero, not_false_eq_true, not_true_eq_false, hl] <;> omega); done))) | refine ⟨Or.inl rfl, ?_⟩ | refine ⟨Or.inr rfl, ?_⟩ | (refine ⟨?_, ?_⟩; (focus ((try simp (disch := omega) only [hl, nI_mul, nI_add, nI_sub']); exact in_nI (by omega) (by omega)))))
    exact hQ
def fsN (d : PD) (X : Nat) : Nat → Nat × Nat
  | 0 => (0, 5)
  | n + 1 => if pcf 32 n < (fsN d X n).2 ∧ ffN (taB d X n) d.nL = 0 then (n + 1, pcf 32 n) else fsN d X n
theorem fsN_s (d : PD) (X n : Nat) : fsN d X (n + 1) = if pcf 32 n < (fsN d X n).2 ∧ ffN (taB d X n) d.nL = 0 then (n + 1, pcf 32 n) else fsN d X n := rfl
theorem fsN_le (d : PD) (X : Nat) : ∀ n, (fsN d X n).1 ≤ n ∧ (fsN d X n).2 ≤ 5
  | 0 => ⟨Nat.le_refl 0, Nat.le_refl 5⟩
  | n + 1 => by
    have ih := fsN_le d X n
    rw [fsN_s]
    split
    · rename_i h
      exact ⟨Nat.le_refl _, by show pcf 32 n ≤ 5; omega⟩
    · exact ⟨by omega, ih.2⟩
def csX9_fewestForAll : xCs := [(mJ6_bitCount_0f7a4, sJ6_bitCount_0f7a4), (mX9_takeAll, sX9_takeAll)]
theorem okX9_fewestForAll : xOkM mX9_fewestForAll csX9_fewestForAll := ⟨dX9_fewestForAll, by decide +kernel, by decide +kernel, ⟨wdX9_19, wdX9_83, wdX9_89, trivial⟩⟩
theorem hhX9_fewestForAll : ∀ q ∈ csX9_fewestForAll, xHd q.1 := xall1 hJ6_bitCount_0f7a4 (xall1 hX9_takeAll (xall0))
theorem kkX9_fewestForAll : ∀ q ∈ csX9_fewestForAll, ∀ l, xCon l q.1 q.2 := xall1 kJ6_bitCount_0f7a4 (xall1 kX9_takeAll (xall0))
def sX9_fewestForAll : xSpec := xReg fun as I L Q => ∃ (d : PD) (X : Nat), xPl d I ∧ as = [.ref 11, .long (lN X)] ∧ X < 2 ^ 63 ∧ Q (some (.int (cI (fsN d X (2 ^ d.nA)).1))) I L
set_option maxRecDepth 100000 in
theorem kX9_fewestForAll : ∀ l, xCon l mX9_fewestForAll sX9_fewestForAll := by
  refine xcon_of okX9_fewestForAll hX9_fewestForAll rfl hhX9_fewestForAll kkX9_fewestForAll ?_
  rintro as n0 I L P Q ⟨hn9, rfl, d, X, hP, rfl, hX, hQ⟩
  obtain ⟨e9, rfl⟩ := xe9 hn9
  refine ⟨Nat.le_of_ble_eq_true rfl, ?_⟩
  have ha := hP.a
  have h4 := hP.ok.a4
  have hp : 2 ^ d.nA ≤ 2 ^ 4 := Nat.pow_le_pow_right (by decide) h4
  have e0 : nI 1 <<< (I 11 0 &&& 31) = nI (2 ^ d.nA) := by rw [ha, shl_n _ (by omega), Nat.one_mul]
  refine xrun okX9_fewestForAll hhX9_fewestForAll [(9, [true, true, false, true, true, true, false])] 20 ?_
  refine xlp (M := mX9_fewestForAll) (cs := csX9_fewestForAll) (pc := 9) (2 ^ d.nA) (fun n => [some (.ref 11), some (.long (lN X)), none, some (.int (cI (fsN d X n).1)), some (.int (nI (fsN d X n).2)), some (.int (nI n)), none]) (fun _ => I) (fun _ => L) ?_ ?_
  · intro n hn ih
    refine xrun okX9_fewestForAll hhX9_fewestForAll [(9, [true, true, false, true, true, true, false])] 60 ?_
    (first | (refine xbr_f ?_ ?_; (focus ((simp (disch := omega) only [ix_lt, ix_le, ix_eq, ix_0, nI_clamp, nI_toInt, ng_T, nI_add, nI_mul, nI_sub', Int.neg_zero, not_false_eq_true, not_true_eq_false, e0] <;> omega); done))) | (refine xbr_t ?_ ?_; (focus ((simp (disch := omega) only [ix_lt, ix_le, ix_eq, ix_0, nI_clamp, nI_toInt, ng_T, nI_add, nI_mul, nI_sub', Int.neg_zero, not_false_eq_true, not_true_eq_false, e0] <;> omega); done))) | refine ⟨Or.inl rfl, ?_⟩ | refine ⟨Or.inr rfl, ?_⟩ | (refine ⟨?_, ?_⟩; (focus ((try simp (disch := omega) only [e0, nI_mul, nI_add, nI_sub']); exact in_nI (by omega) (by omega)))))
    refine ⟨rfl, rfl, n, rfl, by omega, ?_⟩
    have hf := fsN_le d X n
    have hpc := pcf_le 32 n
    have hs := fsN_s d X n
    by_cases h1 : pcf 32 n < (fsN d X n).2
    · (first | (refine xbr_f ?_ ?_; (focus ((simp (disch := omega) only [ix_lt, ix_le, ix_eq, ix_0, nI_clamp, nI_toInt, ng_T, nI_add, nI_mul, nI_sub', Int.neg_zero, not_false_eq_true, not_true_eq_false] <;> omega); done))) | (refine xbr_t ?_ ?_; (focus ((simp (disch := omega) only [ix_lt, ix_le, ix_eq, ix_0, nI_clamp, nI_toInt, ng_T, nI_add, nI_mul, nI_sub', Int.neg_zero, not_false_eq_true, not_true_eq_false] <;> omega); done))) | refine ⟨Or.inl rfl, ?_⟩ | refine ⟨Or.inr rfl, ?_⟩ | (refine ⟨?_, ?_⟩; (focus (exact in_nI (by omega) (by omega)))))
      refine ⟨rfl, rfl, d, X, n, hP, rfl, hX, by omega, ?_⟩
      by_cases h2 : ffN (taB d X n) d.nL = 0
      · rw [if_pos ⟨h1, h2⟩] at hs
        rw [decide_eq_true h2]
        (first | refine xbr_t (by decide) ?_ | refine xbr_f (by decide) ?_)
        rw [hs] at ih
        refine xgo_eq ih ?_ rfl rfl
        ((repeat' (first | (with_reducible rfl) | exact xv_nil | refine xv_cons ?_ ?_ | refine xv_i ?_ | refine xv_l ?_)) <;> (simp (disch := omega) only [↓reduceIte, Bool.false_eq_true, Nat.one_mul, Nat.zero_mul, Nat.or_zero, Nat.add_zero, Nat.zero_add, Bool.toNat_true, Bool.toNat_false, shl_n, shr_n, fa_and, fa_or, nx_xor, nI_add, nI_mul, nI_sub', and_1, and_7, and_3', and_15, cI_s]))
      · rw [if_neg (fun q => h2 q.2)] at hs
        rw [decide_eq_false h2]
        (first | refine xbr_t (by decide) ?_ | refine xbr_f (by decide) ?_)
        rw [hs] at ih
        refine xgo_eq ih ?_ rfl rfl
        ((repeat' (first | (with_reducible rfl) | exact xv_nil | refine xv_cons ?_ ?_ | refine xv_i ?_ | refine xv_l ?_)) <;> (simp (disch := omega) only [↓reduceIte, Bool.false_eq_true, Nat.one_mul, Nat.zero_mul, Nat.or_zero, Nat.add_zero, Nat.zero_add, Bool.toNat_true, Bool.toNat_false, shl_n, shr_n, fa_and, fa_or, nx_xor, nI_add, nI_mul, nI_sub', and_1, and_7, and_3', and_15]))
    · rw [if_neg (fun q => h1 q.1)] at hs
      (first | (refine xbr_f ?_ ?_; (focus ((simp (disch := omega) only [ix_lt, ix_le, ix_eq, ix_0, nI_clamp, nI_toInt, ng_T, nI_add, nI_mul, nI_sub', Int.neg_zero, not_false_eq_true, not_true_eq_false] <;> omega); done))) | (refine xbr_t ?_ ?_; (focus ((simp (disch := omega) only [ix_lt, ix_le, ix_eq, ix_0, nI_clamp, nI_toInt, ng_T, nI_add, nI_mul, nI_sub', Int.neg_zero, not_false_eq_true, not_true_eq_false] <;> omega); done))) | refine ⟨Or.inl rfl, ?_⟩ | refine ⟨Or.inr rfl, ?_⟩ | (refine ⟨?_, ?_⟩; (focus (exact in_nI (by omega) (by omega)))))
      rw [hs] at ih
      refine xgo_eq ih ?_ rfl rfl
      ((repeat' (first | (with_reducible rfl) | exact xv_nil | refine xv_cons ?_ ?_ | refine xv_i ?_ | refine xv_l ?_)) <;> (simp (disch := omega) only [↓reduceIte, Bool.false_eq_true, Nat.one_mul, Nat.zero_mul, Nat.or_zero, Nat.add_zero, Nat.zero_add, Bool.toNat_true, Bool.toNat_false, shl_n, shr_n, fa_and, fa_or, nx_xor, nI_add, nI_mul, nI_sub', and_1, and_7, and_3', and_15]))
  · refine xrun okX9_fewestForAll hhX9_fewestForAll [] 60 ?_
    repeat (first | (refine xbr_f ?_ ?_; (focus ((simp (disch := omega) only [ix_lt, ix_le, ix_eq, ix_0, nI_clamp, nI_toInt, ng_T, nI_add, nI_mul, nI_sub', Int.neg_zero, not_false_eq_true, not_true_eq_false, e0] <;> omega); done))) | (refine xbr_t ?_ ?_; (focus ((simp (disch := omega) only [ix_lt, ix_le, ix_eq, ix_0, nI_clamp, nI_toInt, ng_T, nI_add, nI_mul, nI_sub', Int.neg_zero, not_false_eq_true, not_true_eq_false, e0] <;> omega); done))) | refine ⟨Or.inl rfl, ?_⟩ | refine ⟨Or.inr rfl, ?_⟩ | (refine ⟨?_, ?_⟩; (focus ((try simp (disch := omega) only [e0, nI_mul, nI_add, nI_sub']); exact in_nI (by omega) (by omega)))))
    exact hQ
def csX9_valueOf : xCs := []
theorem okX9_valueOf : xOkM mX9_valueOf csX9_valueOf := ⟨dX9_valueOf, by decide +kernel, by decide +kernel, trivial⟩
theorem hhX9_valueOf : ∀ q ∈ csX9_valueOf, xHd q.1 := xall0
theorem kkX9_valueOf : ∀ q ∈ csX9_valueOf, ∀ l, xCon l q.1 q.2 := xall0
def sX9_valueOf : xSpec := xReg fun as I L Q => ∃ (V m : Nat), as = [.long (lN V), .int (nI m)] ∧ V < 2 ^ 64 ∧ m < 16 ∧ Q (some (.int (nI (getN V (4 * m) 4)))) I L
set_option maxRecDepth 100000 in
theorem kX9_valueOf : ∀ l, xCon l mX9_valueOf sX9_valueOf := by
  refine xcon_of okX9_valueOf hX9_valueOf rfl hhX9_valueOf kkX9_valueOf ?_
  rintro as n0 I L P Q ⟨hn9, rfl, V, m, rfl, hV, hm, hQ⟩
  obtain ⟨e9, rfl⟩ := xe9 hn9
  refine ⟨Nat.le_of_ble_eq_true rfl, xrun okX9_valueOf hhX9_valueOf [] 20 ?_⟩
  rw [← part_eq hV (by omega), ← nI_mul] at hQ
  exact hQ
def pkN (f : Nat → Nat) : Nat → Nat
  | 0 => 0
  | n + 1 => pkN f n ||| f n * 2 ^ (4 * n)
theorem pkN_lt {f : Nat → Nat} (hf : ∀ m, f m < 8) : ∀ n, pkN f n < 2 ^ (4 * n)
  | 0 => by show 0 < 2 ^ 0; decide
  | n + 1 => by
    have ih := pkN_lt hf n
    show pkN f n ||| f n * 2 ^ (4 * n) < _
    refine Nat.or_lt_two_pow (Nat.lt_of_lt_of_le ih (Nat.pow_le_pow_right (by decide) (by omega))) ?_
    rw [show 4 * (n + 1) = 4 + 4 * n by omega, Nat.pow_add]
    exact Nat.mul_lt_mul_of_pos_right (by have := hf n; omega) (Nat.two_pow_pos _)
theorem pkN_63 {f : Nat → Nat} (hf : ∀ m, f m < 8) {n : Nat} (hn : n ≤ 16) : pkN f n < 2 ^ 63 := by
  by_cases h : n = 16
  · subst h
    show pkN f 15 ||| f 15 * 2 ^ 60 < 2 ^ 63
    refine Nat.or_lt_two_pow (Nat.lt_of_lt_of_le (pkN_lt hf 15) (by decide)) ?_
    have := hf 15
    omega
  · exact Nat.lt_of_lt_of_le (pkN_lt hf n) (Nat.pow_le_pow_right (by decide) (by omega))
theorem pkN_get {f : Nat → Nat} (hf : ∀ m, f m < 8) {m : Nat} : ∀ {n}, m < n → getN (pkN f n) (4 * m) 4 = f m
  | 0, h => absurd h (by omega)
  | n + 1, h => by
    show getN (pkN f n ||| f n * 2 ^ (4 * n)) (4 * m) 4 = f m
    by_cases h2 : m = n
    · subst h2
      exact getN_or (pkN_lt hf m) (by have := hf m; omega)
    · rw [getN_or2 (by omega)]
      exact pkN_get hf (by omega)
def awN (f : Nat → Nat) (w : Bool) (m : Nat) : Nat → Nat
  | 0 => f m
  | k + 1 => if w then (if awN f w m k < f (m ^^^ 2 ^ k) then f (m ^^^ 2 ^ k) else awN f w m k) else (if f (m ^^^ 2 ^ k) < awN f w m k then f (m ^^^ 2 ^ k) else awN f w m k)
theorem awN_lt {f : Nat → Nat} (hf : ∀ m, f m < 8) (w : Bool) (m : Nat) : ∀ k, awN f w m k < 8
  | 0 => hf m
  | k + 1 => by
    have ih := awN_lt hf w m k
    have h := hf (m ^^^ 2 ^ k)
    show (if w then (if awN f w m k < f (m ^^^ 2 ^ k) then f (m ^^^ 2 ^ k) else awN f w m k) else (if f (m ^^^ 2 ^ k) < awN f w m k then f (m ^^^ 2 ^ k) else awN f w m k)) < 8
    repeat' split
    all_goals omega
def atN (f : Nat → Nat) (w : Bool) (m : Nat) : Nat := awN f w m 4
theorem lor_n {a v k : Nat} (ha : a < 2 ^ 63) (hv : v * 2 ^ (4 * k) < 2 ^ 63) (hv2 : v < 2 ^ 31) (hk : k < 16) : lN a ||| ((nI v).toInt64 <<< ((nI 4 * nI k).toInt64 &&& 63)) = lN (a ||| v * 2 ^ (4 * k)) := by
  rw [nI_mul, nI_l (n := v) hv2, lshl_n _ (by omega), wb_or (by omega) (by omega)]
theorem pk_top {f : Nat → Nat} (hf : ∀ m, f m < 8) {k : Nat} (hk : k < 16) (w : Nat) (hw : w < 8) : w * 2 ^ (4 * k) < 2 ^ 63 :=
  calc w * 2 ^ (4 * k) < 2 ^ 3 * 2 ^ (4 * k) := Nat.mul_lt_mul_of_pos_right hw (Nat.two_pow_pos _)
    _ = 2 ^ (3 + 4 * k) := (Nat.pow_add 2 _ _).symm
    _ ≤ 2 ^ 63 := Nat.pow_le_pow_right (by decide) (by omega)
def csX9_aheadOfTurn : xCs := [(mX9_valueOf, sX9_valueOf)]
theorem okX9_aheadOfTurn : xOkM mX9_aheadOfTurn csX9_aheadOfTurn := ⟨dX9_aheadOfTurn, by decide +kernel, by decide +kernel, ⟨wdX9_106, wdX9_106, ⟨wdX9_40, wdMax.1, wdMax.2.1, wdMax.2.2⟩, ⟨wdX9_109, wdMin.1, wdMin.2.1, wdMin.2.2⟩, trivial⟩⟩
theorem hhX9_aheadOfTurn : ∀ q ∈ csX9_aheadOfTurn, xHd q.1 := xall1 hX9_valueOf (xall0)
theorem kkX9_aheadOfTurn : ∀ q ∈ csX9_aheadOfTurn, ∀ l, xCon l q.1 q.2 := xall1 kX9_valueOf (xall0)
def sX9_aheadOfTurn : xSpec := xReg fun as I L Q => ∃ (f : Nat → Nat) (w : Bool), as = [.long (lN (pkN f 16)), .int (bI w)] ∧ (∀ m, f m < 8) ∧ Q (some (.long (lN (pkN (atN f w) 16)))) I L
set_option maxRecDepth 100000 in
theorem kX9_aheadOfTurn : ∀ l, xCon l mX9_aheadOfTurn sX9_aheadOfTurn := by
  refine xcon_of okX9_aheadOfTurn hX9_aheadOfTurn rfl hhX9_aheadOfTurn kkX9_aheadOfTurn ?_
  rintro as n0 I L P Q ⟨hn9, rfl, f, w, rfl, hf, hQ⟩
  obtain ⟨e9, rfl⟩ := xe9 hn9
  refine ⟨Nat.le_of_ble_eq_true rfl, ?_⟩
  have hV := pkN_63 hf (Nat.le_refl 16)
  have hat : ∀ m, atN f w m < 8 := fun m => awN_lt hf w m 4
  refine xrun okX9_aheadOfTurn hhX9_aheadOfTurn [(5, [true, false, true, true, false, true, false, false, false])] 20 ?_
  refine xlp (M := mX9_aheadOfTurn) (cs := csX9_aheadOfTurn) (pc := 5) 16 (fun n => [some (.long (lN (pkN f 16))), none, some (.int (bI w)), some (.long (lN (pkN (atN f w) n))), none, some (.int (nI n)), none, none, none]) (fun _ => I) (fun _ => L) ?_ ?_
  · intro n hn ih
    refine xrun okX9_aheadOfTurn hhX9_aheadOfTurn [(23, [true, false, true, true, false, true, true, true, false])] 60 ?_
    (first | (refine xbr_f ?_ ?_; (focus ((simp (disch := omega) only [ix_lt, ix_le, ix_eq, ix_0, nI_clamp, nI_toInt, ng_T, nI_add, nI_mul, nI_sub', Int.neg_zero, not_false_eq_true, not_true_eq_false] <;> omega); done))) | (refine xbr_t ?_ ?_; (focus ((simp (disch := omega) only [ix_lt, ix_le, ix_eq, ix_0, nI_clamp, nI_toInt, ng_T, nI_add, nI_mul, nI_sub', Int.neg_zero, not_false_eq_true, not_true_eq_false] <;> omega); done))) | refine ⟨Or.inl rfl, ?_⟩ | refine ⟨Or.inr rfl, ?_⟩ | (refine ⟨?_, ?_⟩; (focus (exact in_nI (by omega) (by omega)))))
    refine ⟨rfl, rfl, _, n, rfl, by omega, hn, ?_⟩
    rw [pkN_get hf hn]
    refine xlp (M := mX9_aheadOfTurn) (cs := csX9_aheadOfTurn) (pc := 23) 4 (fun k => [some (.long (lN (pkN f 16))), none, some (.int (bI w)), some (.long (lN (pkN (atN f w) n))), none, some (.int (nI n)), some (.int (nI (awN f w n k))), some (.int (nI k)), none]) (fun _ => I) (fun _ => L) ?_ ?_
    · intro k hk ih2
      refine xrun okX9_aheadOfTurn hhX9_aheadOfTurn [(23, [true, false, true, true, false, true, true, true, false])] 60 ?_
      (first | (refine xbr_f ?_ ?_; (focus ((simp (disch := omega) only [ix_lt, ix_le, ix_eq, ix_0, nI_clamp, nI_toInt, ng_T, nI_add, nI_mul, nI_sub', Int.neg_zero, not_false_eq_true, not_true_eq_false] <;> omega); done))) | (refine xbr_t ?_ ?_; (focus ((simp (disch := omega) only [ix_lt, ix_le, ix_eq, ix_0, nI_clamp, nI_toInt, ng_T, nI_add, nI_mul, nI_sub', Int.neg_zero, not_false_eq_true, not_true_eq_false] <;> omega); done))) | refine ⟨Or.inl rfl, ?_⟩ | refine ⟨Or.inr rfl, ?_⟩ | (refine ⟨?_, ?_⟩; (focus (exact in_nI (by omega) (by omega)))))
      have hx : n ^^^ 2 ^ k < 16 := Nat.xor_lt_two_pow (n := 4) hn (Nat.pow_lt_pow_right (by decide) hk)
      refine ⟨rfl, rfl, _, n ^^^ 2 ^ k, by rw [shl_n _ (by omega), Nat.one_mul, nx_xor], by omega, hx, ?_⟩
      rw [pkN_get hf hx]
      have h1 := awN_lt hf w n k
      have h2 := hf (n ^^^ 2 ^ k)
      cases w
      · (first | refine xbr_t (by decide) ?_ | refine xbr_f (by decide) ?_)
        refine xgo_eq ih2 ?_ rfl rfl
        have e : awN f false n (k + 1) = if f (n ^^^ 2 ^ k) < awN f false n k then f (n ^^^ 2 ^ k) else awN f false n k := rfl
        rw [e]
        ((repeat' (first | (with_reducible rfl) | exact xv_nil | refine xv_cons ?_ ?_ | refine xv_i ?_ | refine xv_l ?_)) <;> (simp (disch := omega) only [↓reduceIte, Bool.false_eq_true, Nat.one_mul, Nat.zero_mul, Nat.or_zero, Nat.add_zero, Nat.zero_add, Bool.toNat_true, Bool.toNat_false, shl_n, shr_n, fa_and, fa_or, nx_xor, nI_add, nI_mul, nI_sub', and_1, and_7, and_3', and_15, nI_ltI]))
        split <;> rfl
      · (first | refine xbr_t (by decide) ?_ | refine xbr_f (by decide) ?_)
        refine xgo_eq ih2 ?_ rfl rfl
        have e : awN f true n (k + 1) = if awN f true n k < f (n ^^^ 2 ^ k) then f (n ^^^ 2 ^ k) else awN f true n k := rfl
        rw [e]
        ((repeat' (first | (with_reducible rfl) | exact xv_nil | refine xv_cons ?_ ?_ | refine xv_i ?_ | refine xv_l ?_)) <;> (simp (disch := omega) only [↓reduceIte, Bool.false_eq_true, Nat.one_mul, Nat.zero_mul, Nat.or_zero, Nat.add_zero, Nat.zero_add, Bool.toNat_true, Bool.toNat_false, shl_n, shr_n, fa_and, fa_or, nx_xor, nI_add, nI_mul, nI_sub', and_1, and_7, and_3', and_15, nI_ltI]))
        split <;> rfl
    · refine xrun okX9_aheadOfTurn hhX9_aheadOfTurn [(5, [true, false, true, true, false, true, false, false, false])] 60 ?_
      (first | (refine xbr_f ?_ ?_; (focus ((simp (disch := omega) only [ix_lt, ix_le, ix_eq, ix_0, nI_clamp, nI_toInt, ng_T, nI_add, nI_mul, nI_sub', Int.neg_zero, not_false_eq_true, not_true_eq_false] <;> omega); done))) | (refine xbr_t ?_ ?_; (focus ((simp (disch := omega) only [ix_lt, ix_le, ix_eq, ix_0, nI_clamp, nI_toInt, ng_T, nI_add, nI_mul, nI_sub', Int.neg_zero, not_false_eq_true, not_true_eq_false] <;> omega); done))) | refine ⟨Or.inl rfl, ?_⟩ | refine ⟨Or.inr rfl, ?_⟩ | (refine ⟨?_, ?_⟩; (focus (exact in_nI (by omega) (by omega)))))
      have el := lor_n (pkN_63 hat (n := n) (by omega)) (pk_top hf hn _ (awN_lt hf w n 4)) (by have := awN_lt hf w n 4; omega) hn
      refine xgo_eq ih ?_ rfl rfl
      refine xv_cons rfl (xv_cons rfl (xv_cons rfl (xv_cons ?_ (xv_cons rfl (xv_cons ?_ rfl)))))
      · exact xv_l el
      · rw [nI_add]
  · refine xrun okX9_aheadOfTurn hhX9_aheadOfTurn [] 60 ?_
    repeat (first | (refine xbr_f ?_ ?_; (focus ((simp (disch := omega) only [ix_lt, ix_le, ix_eq, ix_0, nI_clamp, nI_toInt, ng_T, nI_add, nI_mul, nI_sub', Int.neg_zero, not_false_eq_true, not_true_eq_false] <;> omega); done))) | (refine xbr_t ?_ ?_; (focus ((simp (disch := omega) only [ix_lt, ix_le, ix_eq, ix_0, nI_clamp, nI_toInt, ng_T, nI_add, nI_mul, nI_sub', Int.neg_zero, not_false_eq_true, not_true_eq_false] <;> omega); done))) | refine ⟨Or.inl rfl, ?_⟩ | refine ⟨Or.inr rfl, ?_⟩ | (refine ⟨?_, ?_⟩; (focus (exact in_nI (by omega) (by omega)))))
    exact hQ
def tuN (f : Nat → Nat) : Nat → Nat → Nat
  | 0 => f
  | n + 1 => atN (atN (tuN f n) false) true
theorem tuN_lt {f : Nat → Nat} (hf : ∀ m, f m < 8) : ∀ n m, tuN f n m < 8
  | 0, m => hf m
  | n + 1, m => awN_lt (fun m => awN_lt (tuN_lt hf n) false m 4) true m 4
def wrN (d : PD) (X : Nat) (m : Nat) : Nat := if m < 16 then pcf 32 (bsN (fun i => wtB d X i m) d.nA) else 0
theorem pcf_lt {k n : Nat} (h : n < 2 ^ k) : ∀ {f}, pcf f n ≤ k := by
  induction k generalizing n with
  | zero =>
    intro f
    rw [Nat.pow_zero] at h
    obtain rfl : n = 0 := by omega
    rw [pcf_0]
    exact Nat.le_refl 0
  | succ k ih =>
    intro f
    cases f with
    | zero => exact Nat.zero_le _
    | succ f =>
      have := ih (n := n / 2) (by rw [Nat.pow_succ] at h; omega) (f := f)
      show n % 2 + pcf f (n / 2) ≤ k + 1
      omega
theorem wrN_lt {d : PD} (hd : d.ok) (X m : Nat) : wrN d X m < 8 := by
  have h := pcf_lt (bsN_lt (fun i => wtB d X i m) d.nA) (f := 32)
  have := hd.a4
  unfold wrN
  split <;> omega
def csX9_takersByTurns : xCs := [(mX5_takersOf, sX5_takersOf), (mJ6_bitCount_0f7a4, sJ6_bitCount_0f7a4), (mX9_aheadOfTurn, sX9_aheadOfTurn), (mX7_marksOf, sX7_marksOf), (mX9_valueOf, sX9_valueOf)]
theorem okX9_takersByTurns : xOkM mX9_takersByTurns csX9_takersByTurns := ⟨dX9_takersByTurns, by decide +kernel, by decide +kernel, ⟨wdX9_99, wdX9_83, wdX9_102, wdX9_102, wdX9_93, wdX9_106, trivial⟩⟩
theorem hhX9_takersByTurns : ∀ q ∈ csX9_takersByTurns, xHd q.1 := xall1 hX5_takersOf (xall1 hJ6_bitCount_0f7a4 (xall1 hX9_aheadOfTurn (xall1 hX7_marksOf (xall1 hX9_valueOf (xall0)))))
theorem kkX9_takersByTurns : ∀ q ∈ csX9_takersByTurns, ∀ l, xCon l q.1 q.2 := xall1 kX5_takersOf (xall1 kJ6_bitCount_0f7a4 (xall1 kX9_aheadOfTurn (xall1 kX7_marksOf (xall1 kX9_valueOf (xall0)))))
def sX9_takersByTurns : xSpec := xReg fun as I L Q => ∃ (d : PD) (X l n : Nat), xPl d I ∧ as = [.ref 11, .long (lN X), .int (nI l), .int (nI n)] ∧ X < 2 ^ 63 ∧ l < 5 ∧ n < 8 ∧ Q (some (.int (nI (tuN (wrN d X) n (mkN X l))))) I L
set_option maxRecDepth 100000 in
theorem kX9_takersByTurns : ∀ l, xCon l mX9_takersByTurns sX9_takersByTurns := by
  refine xcon_of okX9_takersByTurns hX9_takersByTurns rfl hhX9_takersByTurns kkX9_takersByTurns ?_
  rintro as n0 I L P Q ⟨hn9, rfl, d, X, l, n, hP, rfl, hX, hl, hn, hQ⟩
  obtain ⟨e9, rfl⟩ := xe9 hn9
  refine ⟨Nat.le_of_ble_eq_true rfl, ?_⟩
  have hw := wrN_lt hP.ok X
  have h4 := hP.ok.a4
  have hp : 2 ^ d.nA ≤ 2 ^ 4 := Nat.pow_le_pow_right (by decide) h4
  refine xrun okX9_takersByTurns hhX9_takersByTurns [(6, [true, true, false, true, true, true, false, true, false, false])] 20 ?_
  refine xlp (M := mX9_takersByTurns) (cs := csX9_takersByTurns) (pc := 6) 16 (fun m => [some (.ref 11), some (.long (lN X)), none, some (.int (nI l)), some (.int (nI n)), some (.long (lN (pkN (wrN d X) m))), none, some (.int (nI m)), none, none]) (fun _ => I) (fun _ => L) ?_ ?_
  · intro m hm ih
    refine xrun okX9_takersByTurns hhX9_takersByTurns [(6, [true, true, false, true, true, true, false, true, false, false])] 60 ?_
    (first | (refine xbr_f ?_ ?_; (focus ((simp (disch := omega) only [ix_lt, ix_le, ix_eq, ix_0, nI_clamp, nI_toInt, ng_T, nI_add, nI_mul, nI_sub', Int.neg_zero, not_false_eq_true, not_true_eq_false] <;> omega); done))) | (refine xbr_t ?_ ?_; (focus ((simp (disch := omega) only [ix_lt, ix_le, ix_eq, ix_0, nI_clamp, nI_toInt, ng_T, nI_add, nI_mul, nI_sub', Int.neg_zero, not_false_eq_true, not_true_eq_false] <;> omega); done))) | refine ⟨Or.inl rfl, ?_⟩ | refine ⟨Or.inr rfl, ?_⟩ | (refine ⟨?_, ?_⟩; (focus (exact in_nI (by omega) (by omega)))))
    refine ⟨rfl, rfl, d, X, m, hP, rfl, hX, hm, ?_⟩
    have hb := bsN_lt (fun i => wtB d X i m) d.nA
    refine ⟨rfl, rfl, _, rfl, by omega, ?_⟩
    have e : pcf 32 (bsN (fun i => wtB d X i m) d.nA) = wrN d X m := (if_pos hm).symm
    have el := lor_n (pkN_63 hw (n := m) (by omega)) (pk_top hw hm _ (hw m)) (by have := hw m; omega) hm
    rw [e]
    refine xgo_eq ih ?_ rfl rfl
    refine xv_cons rfl (xv_cons rfl (xv_cons rfl (xv_cons rfl (xv_cons rfl (xv_cons ?_ (xv_cons rfl (xv_cons ?_ rfl)))))))
    · exact xv_l el
    · rw [nI_add]
  · refine xrun okX9_takersByTurns hhX9_takersByTurns [(47, [true, true, false, true, true, true, false, true, false, false])] 60 ?_
    (first | (refine xbr_f ?_ ?_; (focus ((simp (disch := omega) only [ix_lt, ix_le, ix_eq, ix_0, nI_clamp, nI_toInt, ng_T, nI_add, nI_mul, nI_sub', Int.neg_zero, not_false_eq_true, not_true_eq_false] <;> omega); done))) | (refine xbr_t ?_ ?_; (focus ((simp (disch := omega) only [ix_lt, ix_le, ix_eq, ix_0, nI_clamp, nI_toInt, ng_T, nI_add, nI_mul, nI_sub', Int.neg_zero, not_false_eq_true, not_true_eq_false] <;> omega); done))) | refine ⟨Or.inl rfl, ?_⟩ | refine ⟨Or.inr rfl, ?_⟩ | (refine ⟨?_, ?_⟩; (focus (exact in_nI (by omega) (by omega)))))
    refine xlp (M := mX9_takersByTurns) (cs := csX9_takersByTurns) (pc := 47) n (fun k => [some (.ref 11), some (.long (lN X)), none, some (.int (nI l)), some (.int (nI n)), some (.long (lN (pkN (tuN (wrN d X) k) 16))), none, some (.int (nI k)), none, none]) (fun _ => I) (fun _ => L) ?_ ?_
    · intro k hk ih
      refine xrun okX9_takersByTurns hhX9_takersByTurns [(47, [true, true, false, true, true, true, false, true, false, false])] 60 ?_
      (first | (refine xbr_f ?_ ?_; (focus ((simp (disch := omega) only [ix_lt, ix_le, ix_eq, ix_0, nI_clamp, nI_toInt, ng_T, nI_add, nI_mul, nI_sub', Int.neg_zero, not_false_eq_true, not_true_eq_false] <;> omega); done))) | (refine xbr_t ?_ ?_; (focus ((simp (disch := omega) only [ix_lt, ix_le, ix_eq, ix_0, nI_clamp, nI_toInt, ng_T, nI_add, nI_mul, nI_sub', Int.neg_zero, not_false_eq_true, not_true_eq_false] <;> omega); done))) | refine ⟨Or.inl rfl, ?_⟩ | refine ⟨Or.inr rfl, ?_⟩ | (refine ⟨?_, ?_⟩; (focus (exact in_nI (by omega) (by omega)))))
      refine ⟨rfl, rfl, tuN (wrN d X) k, false, rfl, tuN_lt hw k, ?_⟩
      refine ⟨rfl, rfl, atN (tuN (wrN d X) k) false, true, rfl, fun m => awN_lt (tuN_lt hw k) false m 4, ?_⟩
      refine xgo_eq ih ?_ rfl rfl
      ((repeat' (first | (with_reducible rfl) | exact xv_nil | refine xv_cons ?_ ?_ | refine xv_i ?_ | refine xv_l ?_)) <;> (simp (disch := omega) only [↓reduceIte, Bool.false_eq_true, Nat.one_mul, Nat.zero_mul, Nat.or_zero, Nat.add_zero, Nat.zero_add, Bool.toNat_true, Bool.toNat_false, shl_n, shr_n, fa_and, fa_or, nx_xor, nI_add, nI_mul, nI_sub', and_1, and_7, and_3', and_15, tuN]))
    · refine xrun okX9_takersByTurns hhX9_takersByTurns [] 60 ?_
      (first | (refine xbr_f ?_ ?_; (focus ((simp (disch := omega) only [ix_lt, ix_le, ix_eq, ix_0, nI_clamp, nI_toInt, ng_T, nI_add, nI_mul, nI_sub', Int.neg_zero, not_false_eq_true, not_true_eq_false] <;> omega); done))) | (refine xbr_t ?_ ?_; (focus ((simp (disch := omega) only [ix_lt, ix_le, ix_eq, ix_0, nI_clamp, nI_toInt, ng_T, nI_add, nI_mul, nI_sub', Int.neg_zero, not_false_eq_true, not_true_eq_false] <;> omega); done))) | refine ⟨Or.inl rfl, ?_⟩ | refine ⟨Or.inr rfl, ?_⟩ | (refine ⟨?_, ?_⟩; (focus (exact in_nI (by omega) (by omega)))))
      refine ⟨rfl, rfl, X, l, rfl, by omega, hl, ?_⟩
      have h63 := pkN_63 (tuN_lt hw n) (Nat.le_refl 16)
      refine ⟨rfl, rfl, _, mkN X l, rfl, by omega, mkN_16 X l, ?_⟩
      rw [pkN_get (tuN_lt hw n) (mkN_16 X l)]
      exact hQ
