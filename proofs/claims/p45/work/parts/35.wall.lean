/-! WALL: the most, who gets what -/
def csX9_bestFrom : xCs := []
theorem okX9_bestFrom : xOkM mX9_bestFrom csX9_bestFrom := ⟨dX9_bestFrom, by decide +kernel, by decide +kernel, ⟨wdX9_11, wdX9_11, trivial⟩⟩
theorem hhX9_bestFrom : ∀ q ∈ csX9_bestFrom, xHd q.1 := xall0
theorem kkX9_bestFrom : ∀ q ∈ csX9_bestFrom, ∀ l, xCon l q.1 q.2 := xall0
def sX9_bestFrom : xSpec := xReg fun as I L Q => ∃ (i g : Nat), as = [.ref 17, .int (nI i), .int (nI g)] ∧ i < 5 ∧ g < 32 ∧ Q (some (.int (I 18 (32 * i + g)))) I L
set_option maxRecDepth 100000 in
theorem kX9_bestFrom : ∀ l, xCon l mX9_bestFrom sX9_bestFrom := by
  refine xcon_of okX9_bestFrom hX9_bestFrom rfl hhX9_bestFrom kkX9_bestFrom ?_
  rintro as n0 I L P Q ⟨hn9, rfl, i, g, rfl, hi, hg, hQ⟩
  obtain ⟨e9, rfl⟩ := xe9 hn9
  refine ⟨Nat.le_of_ble_eq_true rfl, ?_⟩
  refine xrun okX9_bestFrom hhX9_bestFrom [] 40 ?_
  have e : nI i * nI 32 + nI g = nI (32 * i + g) := by rw [nI_mul, nI_add, Nat.mul_comm]
  have e2 : (nI i * nI 32 + nI g).toNatClampNeg = 32 * i + g := by rw [e, nI_clamp (by omega)]
  (first | (refine xbr_f ?_ ?_; (focus ((simp (disch := omega) only [ix_lt, ix_le, ix_eq, ix_0, nI_clamp, nI_toInt, ng_T, nI_add, nI_mul, nI_sub', Int.neg_zero, not_false_eq_true, not_true_eq_false, e] <;> omega); done))) | (refine xbr_t ?_ ?_; (focus ((simp (disch := omega) only [ix_lt, ix_le, ix_eq, ix_0, nI_clamp, nI_toInt, ng_T, nI_add, nI_mul, nI_sub', Int.neg_zero, not_false_eq_true, not_true_eq_false, e] <;> omega); done))) | refine ⟨Or.inl rfl, ?_⟩ | refine ⟨Or.inr rfl, ?_⟩ | (refine ⟨?_, ?_⟩; (focus ((try simp (disch := omega) only [e, nI_mul, nI_add, nI_sub']); exact in_nI (by omega) (by omega)))))
  (first | (refine xbr_f ?_ ?_; (focus ((simp (disch := omega) only [ix_lt, ix_le, ix_eq, ix_0, nI_clamp, nI_toInt, ng_T, nI_add, nI_mul, nI_sub', Int.neg_zero, not_false_eq_true, not_true_eq_false, e] <;> omega); done))) | (refine xbr_t ?_ ?_; (focus ((simp (disch := omega) only [ix_lt, ix_le, ix_eq, ix_0, nI_clamp, nI_toInt, ng_T, nI_add, nI_mul, nI_sub', Int.neg_zero, not_false_eq_true, not_true_eq_false, e] <;> omega); done))) | refine ⟨Or.inl rfl, ?_⟩ | refine ⟨Or.inr rfl, ?_⟩ | (refine ⟨?_, ?_⟩; (focus ((try simp (disch := omega) only [e, nI_mul, nI_add, nI_sub']); exact in_nI (by omega) (by omega)))))
  refine ⟨?_, ?_⟩
  · rw [e]
    exact in_nI (by omega) (by omega)
  rw [← e2] at hQ
  exact hQ
def csX9_setBest : xCs := []
theorem okX9_setBest : xOkM mX9_setBest csX9_setBest := ⟨dX9_setBest, by decide +kernel, by decide +kernel, ⟨wdX9_11, wdX9_11, trivial⟩⟩
theorem hhX9_setBest : ∀ q ∈ csX9_setBest, xHd q.1 := xall0
theorem kkX9_setBest : ∀ q ∈ csX9_setBest, ∀ l, xCon l q.1 q.2 := xall0
def sX9_setBest : xSpec := xReg fun as I L Q => ∃ (i g : Nat) (v : Int32), as = [.ref 17, .int (nI i), .int (nI g), .int v] ∧ i < 5 ∧ g < 32 ∧ Q none (xup I 18 (32 * i + g) v) L
set_option maxRecDepth 100000 in
theorem kX9_setBest : ∀ l, xCon l mX9_setBest sX9_setBest := by
  refine xcon_of okX9_setBest hX9_setBest rfl hhX9_setBest kkX9_setBest ?_
  rintro as n0 I L P Q ⟨hn9, rfl, i, g, v, rfl, hi, hg, hQ⟩
  obtain ⟨e9, rfl⟩ := xe9 hn9
  refine ⟨Nat.le_of_ble_eq_true rfl, ?_⟩
  refine xrun okX9_setBest hhX9_setBest [] 40 ?_
  have e : nI i * nI 32 + nI g = nI (32 * i + g) := by rw [nI_mul, nI_add, Nat.mul_comm]
  have e2 : (nI i * nI 32 + nI g).toNatClampNeg = 32 * i + g := by rw [e, nI_clamp (by omega)]
  (first | (refine xbr_f ?_ ?_; (focus ((simp (disch := omega) only [ix_lt, ix_le, ix_eq, ix_0, nI_clamp, nI_toInt, ng_T, nI_add, nI_mul, nI_sub', Int.neg_zero, not_false_eq_true, not_true_eq_false, e] <;> omega); done))) | (refine xbr_t ?_ ?_; (focus ((simp (disch := omega) only [ix_lt, ix_le, ix_eq, ix_0, nI_clamp, nI_toInt, ng_T, nI_add, nI_mul, nI_sub', Int.neg_zero, not_false_eq_true, not_true_eq_false, e] <;> omega); done))) | refine ⟨Or.inl rfl, ?_⟩ | refine ⟨Or.inr rfl, ?_⟩ | (refine ⟨?_, ?_⟩; (focus ((try simp (disch := omega) only [e, nI_mul, nI_add, nI_sub']); exact in_nI (by omega) (by omega)))))
  (first | (refine xbr_f ?_ ?_; (focus ((simp (disch := omega) only [ix_lt, ix_le, ix_eq, ix_0, nI_clamp, nI_toInt, ng_T, nI_add, nI_mul, nI_sub', Int.neg_zero, not_false_eq_true, not_true_eq_false, e] <;> omega); done))) | (refine xbr_t ?_ ?_; (focus ((simp (disch := omega) only [ix_lt, ix_le, ix_eq, ix_0, nI_clamp, nI_toInt, ng_T, nI_add, nI_mul, nI_sub', Int.neg_zero, not_false_eq_true, not_true_eq_false, e] <;> omega); done))) | refine ⟨Or.inl rfl, ?_⟩ | refine ⟨Or.inr rfl, ?_⟩ | (refine ⟨?_, ?_⟩; (focus ((try simp (disch := omega) only [e, nI_mul, nI_add, nI_sub']); exact in_nI (by omega) (by omega)))))
  refine ⟨?_, ?_⟩
  · rw [e]
    exact in_nI (by omega) (by omega)
  rw [← e2] at hQ
  exact hQ
def csX9_most : xCs := [(mX9_bestFrom, sX9_bestFrom)]
theorem okX9_most : xOkM mX9_most csX9_most := ⟨dX9_most, by decide +kernel, by decide +kernel, ⟨wdX9_15, trivial⟩⟩
theorem hhX9_most : ∀ q ∈ csX9_most, xHd q.1 := xall1 hX9_bestFrom (xall0)
theorem kkX9_most : ∀ q ∈ csX9_most, ∀ l, xCon l q.1 q.2 := xall1 kX9_bestFrom (xall0)
def sX9_most : xSpec := xReg fun as I L Q => as = [.ref 17] ∧ Q (some (.int (I 18 0))) I L
set_option maxRecDepth 100000 in
theorem kX9_most : ∀ l, xCon l mX9_most sX9_most := by
  refine xcon_of okX9_most hX9_most rfl hhX9_most kkX9_most ?_
  rintro as n0 I L P Q ⟨hn9, rfl, rfl, hQ⟩
  obtain ⟨e9, rfl⟩ := xe9 hn9
  refine ⟨Nat.le_of_ble_eq_true rfl, ?_⟩
  refine xrun okX9_most hhX9_most [] 40 ?_
  exact ⟨rfl, rfl, 0, 0, rfl, by decide, by decide, hQ⟩
def puN (d : PD) (X i g l : Nat) : Nat := if tbB g l then 0 else pullN d X i l
theorem puN_le (d : PD) (X i g l : Nat) : puN d X i g l ≤ 8 := by
  have := pullN_le d X i l
  unfold puN
  split <;> omega
def moN (d : PD) (X i g : Nat) (b : Nat → Nat) : Nat → Nat
  | 0 => b g
  | n + 1 => if puN d X i g n = 0 then moN d X i g b n else (if moN d X i g b n < puN d X i g n + b (g ||| 2 ^ n) then puN d X i g n + b (g ||| 2 ^ n) else moN d X i g b n)
theorem moN_s (d : PD) (X i g : Nat) (b : Nat → Nat) (n : Nat) : moN d X i g b (n + 1) = if puN d X i g n = 0 then moN d X i g b n else (if moN d X i g b n < puN d X i g n + b (g ||| 2 ^ n) then puN d X i g n + b (g ||| 2 ^ n) else moN d X i g b n) := rfl
theorem or_32 {g l : Nat} (hg : g < 32) (hl : l < 5) : g ||| 2 ^ l < 32 := Nat.or_lt_two_pow (n := 5) hg (Nat.pow_lt_pow_right (by decide) hl)
theorem moN_le (d : PD) (X i : Nat) {g : Nat} (hg : g < 32) {b : Nat → Nat} {B : Nat} (hb : ∀ g, g < 32 → b g ≤ B) : ∀ n, n ≤ 5 → moN d X i g b n ≤ B + 8
  | 0, _ => by have := hb g hg; show b g ≤ B + 8; omega
  | n + 1, hn => by
    have ih := moN_le d X i hg hb n (by omega)
    have h2 := puN_le d X i g n
    have h3 := hb _ (or_32 hg (show n < 5 by omega))
    rw [moN_s]
    split
    · exact ih
    · split <;> omega
def vN (d : PD) (X : Nat) : Nat → Nat → Nat
  | 0, _ => 0
  | k + 1, g => moN d X (d.nA - (k + 1)) g (vN d X k) d.nL
theorem vN_le {d : PD} (hd : d.ok) (X : Nat) : ∀ k g, g < 32 → vN d X k g ≤ 8 * k
  | 0, g, _ => Nat.le_refl 0
  | k + 1, g, hg => by
    have := moN_le d X (d.nA - (k + 1)) hg (vN_le hd X k) d.nL hd.l5
    show moN d X (d.nA - (k + 1)) g (vN d X k) d.nL ≤ _
    omega
def mwI (p v : Nat) : Int32 := if p = 0 then -(nI 9) else nI (p + v)
def csX9_mostWith : xCs := [(mX5_pull, sX5_pull), (mX9_bestFrom, sX9_bestFrom)]
theorem okX9_mostWith : xOkM mX9_mostWith csX9_mostWith := ⟨dX9_mostWith, by decide +kernel, by decide +kernel, ⟨wdX9_45, wdX9_15, trivial⟩⟩
theorem hhX9_mostWith : ∀ q ∈ csX9_mostWith, xHd q.1 := xall1 hX5_pull (xall1 hX9_bestFrom (xall0))
theorem kkX9_mostWith : ∀ q ∈ csX9_mostWith, ∀ l, xCon l q.1 q.2 := xall1 kX5_pull (xall1 kX9_bestFrom (xall0))
def sX9_mostWith : xSpec := xReg fun as I L Q => ∃ (d : PD) (X i g l : Nat) (b : Nat → Nat), xPl d I ∧ as = [.ref 17, .ref 11, .long (lN X), .int (nI i), .int (nI g), .int (nI l)] ∧ X < 2 ^ 63 ∧ i < 4 ∧ g < 32 ∧ l < 5 ∧ (∀ g, g < 32 → I 18 (32 * (i + 1) + g) = nI (b g)) ∧ Q (some (.int (mwI (puN d X i g l) (b (g ||| 2 ^ l))))) I L
set_option maxRecDepth 100000 in
theorem kX9_mostWith : ∀ l, xCon l mX9_mostWith sX9_mostWith := by
  refine xcon_of okX9_mostWith hX9_mostWith rfl hhX9_mostWith kkX9_mostWith ?_
  rintro as n0 I L P Q ⟨hn9, rfl, d, X, i, g, l, b, hP, rfl, hX, hi, hg, hl, hb, hQ⟩
  obtain ⟨e9, rfl⟩ := xe9 hn9
  refine ⟨Nat.le_of_ble_eq_true rfl, ?_⟩
  refine xrun okX9_mostWith hhX9_mostWith [(26, [true, true, true, false, true, true, true, true])] 60 ?_
  have h8 := puN_le d X i g l
  have h26 : xGo mX9_mostWith csX9_mostWith 26 Q [some (.ref 17), some (.ref 11), some (.long (lN X)), none, some (.int (nI i)), some (.int (nI g)), some (.int (nI l)), some (.int (nI (puN d X i g l)))] [] 0 (e9 + 26) I L xP0 := by
    refine xrun okX9_mostWith hhX9_mostWith [] 60 ?_
    by_cases h0 : puN d X i g l = 0
    · (first | (refine xbr_f ?_ ?_; (focus ((simp (disch := omega) only [ix_lt, ix_le, ix_eq, ix_0, nI_clamp, nI_toInt, ng_T, nI_add, nI_mul, nI_sub', Int.neg_zero, not_false_eq_true, not_true_eq_false] <;> omega); done))) | (refine xbr_t ?_ ?_; (focus ((simp (disch := omega) only [ix_lt, ix_le, ix_eq, ix_0, nI_clamp, nI_toInt, ng_T, nI_add, nI_mul, nI_sub', Int.neg_zero, not_false_eq_true, not_true_eq_false] <;> omega); done))) | refine ⟨Or.inl rfl, ?_⟩ | refine ⟨Or.inr rfl, ?_⟩ | (refine ⟨?_, ?_⟩; (focus (exact in_nI (by omega) (by omega)))))
      rw [h0] at hQ
      exact hQ
    · (first | (refine xbr_f ?_ ?_; (focus ((simp (disch := omega) only [ix_lt, ix_le, ix_eq, ix_0, nI_clamp, nI_toInt, ng_T, nI_add, nI_mul, nI_sub', Int.neg_zero, not_false_eq_true, not_true_eq_false] <;> omega); done))) | (refine xbr_t ?_ ?_; (focus ((simp (disch := omega) only [ix_lt, ix_le, ix_eq, ix_0, nI_clamp, nI_toInt, ng_T, nI_add, nI_mul, nI_sub', Int.neg_zero, not_false_eq_true, not_true_eq_false] <;> omega); done))) | refine ⟨Or.inl rfl, ?_⟩ | refine ⟨Or.inr rfl, ?_⟩ | (refine ⟨?_, ?_⟩; (focus (exact in_nI (by omega) (by omega)))))
      refine ⟨rfl, rfl, i + 1, g ||| 2 ^ l, by rw [nI_add, shl_n _ (by omega), fa_or, Nat.one_mul], by omega, or_32 hg hl, ?_⟩
      rw [hb _ (or_32 hg hl)]
      have e : mwI (puN d X i g l) (b (g ||| 2 ^ l)) = nI (puN d X i g l) + nI (b (g ||| 2 ^ l)) := by
        unfold mwI
        rw [if_neg h0, nI_add]
      rw [e] at hQ
      exact hQ
  cases hc : tbB g l
  · have e : ¬ (nI g >>> (nI l &&& 31)) &&& nI 1 = nI 1 := by rw [bit_i (by omega) (by omega), hc]; decide
    (first | refine xbr_t e ?_ | refine xbr_f e ?_)
    refine ⟨rfl, rfl, d, X, i, l, hP, rfl, hX, hi, hl, ?_⟩
    have e2 : puN d X i g l = pullN d X i l := if_neg (by rw [hc]; decide)
    rw [e2] at h26
    exact h26
  · have e : (nI g >>> (nI l &&& 31)) &&& nI 1 = nI 1 := by rw [bit_i (by omega) (by omega), hc]; decide
    (first | refine xbr_t e ?_ | refine xbr_f e ?_)
    have e2 : puN d X i g l = 0 := if_pos hc
    rw [e2] at h26
    exact h26
def csX9_mostOf : xCs := [(mX9_bestFrom, sX9_bestFrom), (mX9_mostWith, sX9_mostWith)]
theorem okX9_mostOf : xOkM mX9_mostOf csX9_mostOf := ⟨dX9_mostOf, by decide +kernel, by decide +kernel, ⟨wdX9_15, wdX9_33, wdX9_36, ⟨wdX9_40, wdMax.1, wdMax.2.1, wdMax.2.2⟩, trivial⟩⟩
theorem hhX9_mostOf : ∀ q ∈ csX9_mostOf, xHd q.1 := xall1 hX9_bestFrom (xall1 hX9_mostWith (xall0))
theorem kkX9_mostOf : ∀ q ∈ csX9_mostOf, ∀ l, xCon l q.1 q.2 := xall1 kX9_bestFrom (xall1 kX9_mostWith (xall0))
def sX9_mostOf : xSpec := xReg fun as I L Q => ∃ (d : PD) (X i g : Nat) (b : Nat → Nat), xPl d I ∧ as = [.ref 17, .ref 11, .long (lN X), .int (nI i), .int (nI g)] ∧ X < 2 ^ 63 ∧ i < 4 ∧ g < 32 ∧ (∀ g, g < 32 → I 18 (32 * (i + 1) + g) = nI (b g)) ∧ (∀ g, g < 32 → b g ≤ 32) ∧ Q (some (.int (nI (moN d X i g b d.nL)))) I L
set_option maxRecDepth 100000 in
theorem kX9_mostOf : ∀ l, xCon l mX9_mostOf sX9_mostOf := by
  refine xcon_of okX9_mostOf hX9_mostOf rfl hhX9_mostOf kkX9_mostOf ?_
  rintro as n0 I L P Q ⟨hn9, rfl, d, X, i, g, b, hP, rfl, hX, hi, hg, hb, hb32, hQ⟩
  obtain ⟨e9, rfl⟩ := xe9 hn9
  refine ⟨Nat.le_of_ble_eq_true rfl, ?_⟩
  refine xrun okX9_mostOf hhX9_mostOf [(15, [true, true, true, false, true, true, true, true])] 40 ?_
  have hl := hP.l
  have h5 := hP.ok.l5
  refine ⟨rfl, rfl, i + 1, g, by rw [nI_add], by omega, hg, ?_⟩
  rw [hb g hg]
  refine xlp (M := mX9_mostOf) (cs := csX9_mostOf) (pc := 15) d.nL (fun l => [some (.ref 17), some (.ref 11), some (.long (lN X)), none, some (.int (nI i)), some (.int (nI g)), some (.int (nI (moN d X i g b l))), some (.int (nI l))]) (fun _ => I) (fun _ => L) ?_ ?_
  · intro l hl2 ih
    refine xrun okX9_mostOf hhX9_mostOf [(15, [true, true, true, false, true, true, true, true])] 60 ?_
    (first | (refine xbr_f ?_ ?_; (focus ((simp (disch := omega) only [ix_lt, ix_le, ix_eq, ix_0, nI_clamp, nI_toInt, ng_T, nI_add, nI_mul, nI_sub', Int.neg_zero, not_false_eq_true, not_true_eq_false, hl] <;> omega); done))) | (refine xbr_t ?_ ?_; (focus ((simp (disch := omega) only [ix_lt, ix_le, ix_eq, ix_0, nI_clamp, nI_toInt, ng_T, nI_add, nI_mul, nI_sub', Int.neg_zero, not_false_eq_true, not_true_eq_false, hl] <;> omega); done))) | refine ⟨Or.inl rfl, ?_⟩ | refine ⟨Or.inr rfl, ?_⟩ | (refine ⟨?_, ?_⟩; (focus ((try simp (disch := omega) only [hl, nI_mul, nI_add, nI_sub']); exact in_nI (by omega) (by omega)))))
    refine ⟨rfl, rfl, d, X, i, g, l, b, hP, rfl, hX, hi, hg, by omega, hb, ?_⟩
    have hs := moN_s d X i g b l
    have h1 := moN_le d X i hg hb32 l (by omega)
    have h2 := puN_le d X i g l
    have h3 := hb32 _ (or_32 hg (show l < 5 by omega))
    refine xgo_eq ih ?_ rfl rfl
    unfold mwI
    by_cases h0 : puN d X i g l = 0
    · rw [if_pos h0] at hs ⊢
      have e : ¬ nI (moN d X i g b l) < -(nI 9) := by (simp (disch := omega) only [ix_lt, ix_le, ix_eq, ix_0, nI_clamp, nI_toInt, ng_T, nI_add, nI_mul, nI_sub', Int.neg_zero, not_false_eq_true, not_true_eq_false] <;> omega)
      rw [hs, if_neg e]
      ((repeat' (first | (with_reducible rfl) | exact xv_nil | refine xv_cons ?_ ?_ | refine xv_i ?_ | refine xv_l ?_)) <;> (simp (disch := omega) only [↓reduceIte, Bool.false_eq_true, Nat.one_mul, Nat.zero_mul, Nat.or_zero, Nat.add_zero, Nat.zero_add, Bool.toNat_true, Bool.toNat_false, shl_n, shr_n, fa_and, fa_or, nx_xor, nI_add, nI_mul, nI_sub', and_1, and_7, and_3', and_15]))
    · rw [if_neg h0] at hs ⊢
      rw [hs]
      ((repeat' (first | (with_reducible rfl) | exact xv_nil | refine xv_cons ?_ ?_ | refine xv_i ?_ | refine xv_l ?_)) <;> (simp (disch := omega) only [↓reduceIte, Bool.false_eq_true, Nat.one_mul, Nat.zero_mul, Nat.or_zero, Nat.add_zero, Nat.zero_add, Bool.toNat_true, Bool.toNat_false, shl_n, shr_n, fa_and, fa_or, nx_xor, nI_add, nI_mul, nI_sub', and_1, and_7, and_3', and_15, nI_ltI]))
      split <;> rfl
  · refine xrun okX9_mostOf hhX9_mostOf [] 60 ?_
    repeat (first | (refine xbr_f ?_ ?_; (focus ((simp (disch := omega) only [ix_lt, ix_le, ix_eq, ix_0, nI_clamp, nI_toInt, ng_T, nI_add, nI_mul, nI_sub', Int.neg_zero, not_false_eq_true, not_true_eq_false, hl] <;> omega); done))) | (refine xbr_t ?_ ?_; (focus ((simp (disch := omega) only [ix_lt, ix_le, ix_eq, ix_0, nI_clamp, nI_toInt, ng_T, nI_add, nI_mul, nI_sub', Int.neg_zero, not_false_eq_true, not_true_eq_false, hl] <;> omega); done))) | refine ⟨Or.inl rfl, ?_⟩ | refine ⟨Or.inr rfl, ?_⟩ | (refine ⟨?_, ?_⟩; (focus ((try simp (disch := omega) only [hl, nI_mul, nI_add, nI_sub']); exact in_nI (by omega) (by omega)))))
    exact hQ
