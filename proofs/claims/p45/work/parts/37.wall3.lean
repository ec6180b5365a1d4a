def fwB (d : PD) (X i g m : Nat) (b : Nat → Nat) : Nat → Bool := fun l => decide (mwI (puN d X i g l) (b (g ||| 2 ^ l)) = nI m)
def csX9_firstWith : xCs := [(mX9_mostWith, sX9_mostWith), (mX9_bestFrom, sX9_bestFrom)]
theorem okX9_firstWith : xOkM mX9_firstWith csX9_firstWith := ⟨dX9_firstWith, by decide +kernel, by decide +kernel, ⟨wdX9_33, wdX9_36, wdX9_15, trivial⟩⟩
theorem hhX9_firstWith : ∀ q ∈ csX9_firstWith, xHd q.1 := xall1 hX9_mostWith (xall1 hX9_bestFrom (xall0))
theorem kkX9_firstWith : ∀ q ∈ csX9_firstWith, ∀ l, xCon l q.1 q.2 := xall1 kX9_mostWith (xall1 kX9_bestFrom (xall0))
def sX9_firstWith : xSpec := xReg fun as I L Q => ∃ (d : PD) (X i g m : Nat) (b : Nat → Nat), xPl d I ∧ as = [.ref 17, .ref 11, .long (lN X), .int (nI i), .int (nI g)] ∧ X < 2 ^ 63 ∧ i < 4 ∧ g < 32 ∧ (∀ g, g < 32 → I 18 (32 * (i + 1) + g) = nI (b g)) ∧ I 18 (32 * i + g) = nI m ∧ Q (some (.int (cI (ffN (fwB d X i g m b) d.nL)))) I L
set_option maxRecDepth 100000 in
theorem kX9_firstWith : ∀ l, xCon l mX9_firstWith sX9_firstWith := by
  refine xcon_of okX9_firstWith hX9_firstWith rfl hhX9_firstWith kkX9_firstWith ?_
  rintro as n0 I L P Q ⟨hn9, rfl, d, X, i, g, m, b, hP, rfl, hX, hi, hg, hb, hm, hQ⟩
  obtain ⟨e9, rfl⟩ := xe9 hn9
  refine ⟨Nat.le_of_ble_eq_true rfl, ?_⟩
  have hl := hP.l
  have h5 := hP.ok.l5
  refine xrun okX9_firstWith hhX9_firstWith [(3, [true, true, true, false, true, true, true])] 20 ?_
  refine xlpI (M := mX9_firstWith) (cs := csX9_firstWith) (pc := 3) (fun l => ffN (fwB d X i g m b) l = 0) d.nL (fun l => [some (.ref 17), some (.ref 11), some (.long (lN X)), none, some (.int (nI i)), some (.int (nI g)), some (.int (nI l))]) (fun _ => I) (fun _ => L) ?_ ?_ rfl
  · intro l hl2 hI ih
    refine xrun okX9_firstWith hhX9_firstWith [(3, [true, true, true, false, true, true, true])] 60 ?_
    (first | (refine xbr_f ?_ ?_; (focus ((simp (disch := omega) only [ix_lt, ix_le, ix_eq, ix_0, nI_clamp, nI_toInt, ng_T, nI_add, nI_mul, nI_sub', Int.neg_zero, not_false_eq_true, not_true_eq_false, hl] <;> omega); done))) | (refine xbr_t ?_ ?_; (focus ((simp (disch := omega) only [ix_lt, ix_le, ix_eq, ix_0, nI_clamp, nI_toInt, ng_T, nI_add, nI_mul, nI_sub', Int.neg_zero, not_false_eq_true, not_true_eq_false, hl] <;> omega); done))) | refine ⟨Or.inl rfl, ?_⟩ | refine ⟨Or.inr rfl, ?_⟩ | (refine ⟨?_, ?_⟩; (focus ((try simp (disch := omega) only [hl, nI_mul, nI_add, nI_sub']); exact in_nI (by omega) (by omega)))))
    refine ⟨rfl, rfl, d, X, i, g, l, b, hP, rfl, hX, hi, hg, by omega, hb, ?_⟩
    refine ⟨rfl, rfl, i, g, rfl, by omega, hg, ?_⟩
    rw [hm]
    by_cases hc : mwI (puN d X i g l) (b (g ||| 2 ^ l)) = nI m
    · have e := ffN_hit hI (f := fwB d X i g m b) (decide_eq_true hc) hl2
      (first | refine xbr_t hc ?_ | refine xbr_f hc ?_)
      rw [e, cI_s] at hQ
      exact hQ
    · have e := ffN_miss hI (f := fwB d X i g m b) (decide_eq_false hc)
      (first | refine xbr_t hc ?_ | refine xbr_f hc ?_)
      refine xgo_eq (ih e) ?_ rfl rfl
      ((repeat' (first | (with_reducible rfl) | exact xv_nil | refine xv_cons ?_ ?_ | refine xv_i ?_ | refine xv_l ?_)) <;> (simp (disch := omega) only [↓reduceIte, Bool.false_eq_true, Nat.one_mul, Nat.zero_mul, Nat.or_zero, Nat.add_zero, Nat.zero_add, Bool.toNat_true, Bool.toNat_false, shl_n, shr_n, fa_and, fa_or, nx_xor, nI_add, nI_mul, nI_sub', and_1, and_7, and_3', and_15]))
  · intro hI
    refine xrun okX9_firstWith hhX9_firstWith [] 60 ?_
    have e : ffN (fwB d X i g m b) d.nL = 0 := hI
    rw [e, cI_0] at hQ
    repeat (first | (refine xbr_f ?_ ?_; (focus ((simp (disch := omega) only [ix_lt, ix_le, ix_eq, ix_0, nI_clamp, nI_toInt, ng_T, nI_add, nI_mul, nI_sub', Int.neg_zero, not_false_eq_true, not_true_eq_false, hl] <;> omega); done))) | (refine xbr_t ?_ ?_; (focus ((simp (disch := omega) only [ix_lt, ix_le, ix_eq, ix_0, nI_clamp, nI_toInt, ng_T, nI_add, nI_mul, nI_sub', Int.neg_zero, not_false_eq_true, not_true_eq_false, hl] <;> omega); done))) | refine ⟨Or.inl rfl, ?_⟩ | refine ⟨Or.inr rfl, ?_⟩ | (refine ⟨?_, ?_⟩; (focus ((try simp (disch := omega) only [hl, nI_mul, nI_add, nI_sub']); exact in_nI (by omega) (by omega)))))
    exact hQ
def gcN (d : PD) (X i g : Nat) : Nat := if vN d X (d.nA - (i + 1)) g < vN d X (d.nA - i) g then ffN (fwB d X i g (vN d X (d.nA - i) g) (vN d X (d.nA - (i + 1)))) d.nL else 0
def gvN (d : PD) (X : Nat) : Nat → Nat
  | 0 => 0
  | i + 1 => if gcN d X i (gvN d X i) = 0 then gvN d X i else gvN d X i ||| 2 ^ (gcN d X i (gvN d X i) - 1)
theorem gvN_s (d : PD) (X i : Nat) : gvN d X (i + 1) = if gcN d X i (gvN d X i) = 0 then gvN d X i else gvN d X i ||| 2 ^ (gcN d X i (gvN d X i) - 1) := rfl
theorem gcN_le {d : PD} (hd : d.ok) (X i g : Nat) : gcN d X i g ≤ 5 := by
  have h := ffN_le (fwB d X i g (vN d X (d.nA - i) g) (vN d X (d.nA - (i + 1)))) d.nL
  have := hd.l5
  unfold gcN
  split <;> omega
theorem gvN_lt {d : PD} (hd : d.ok) (X : Nat) : ∀ i, gvN d X i < 32
  | 0 => by
    show 0 < 32
    decide
  | i + 1 => by
    have ih := gvN_lt hd X i
    have h5 := gcN_le hd X i (gvN d X i)
    rw [gvN_s]
    split
    · exact ih
    · exact or_32 ih (by omega)
def csX9_giveOut : xCs := [(mX9_bestFrom, sX9_bestFrom), (mX9_firstWith, sX9_firstWith), (mX8_swap, sX8_swap)]
theorem okX9_giveOut : xOkM mX9_giveOut csX9_giveOut := ⟨dX9_giveOut, by decide +kernel, by decide +kernel, ⟨wdX9_19, wdX9_15, wdX9_15, wdX9_49, wdX9_52, trivial⟩⟩
theorem hhX9_giveOut : ∀ q ∈ csX9_giveOut, xHd q.1 := xall1 hX9_bestFrom (xall1 hX9_firstWith (xall1 hX8_swap (xall0)))
theorem kkX9_giveOut : ∀ q ∈ csX9_giveOut, ∀ l, xCon l q.1 q.2 := xall1 kX9_bestFrom (xall1 kX9_firstWith (xall1 kX8_swap (xall0)))
def sX9_giveOut : xSpec := xReg fun as I L Q => ∃ (d : PD) (X r : Nat), xPl d I ∧ as = [.ref 17, .ref 11, .long (lN X), .ref 2, .int (nI r)] ∧ X < 2 ^ 63 ∧ r < 6 ∧ I 3 r = nI d.nA ∧ I 2 0 = nI 40 ∧ (∀ i, i ≤ d.nA → ∀ g, g < 32 → I 18 (32 * i + g) = nI (vN d X (d.nA - i) g)) ∧ (∀ j, j < d.nA → I 4 (40 * r + j) = -(nI 9)) ∧
  (∀ f, (∀ j, j < d.nA → f (40 * r + j) = cI (gcN d X j (gvN d X j))) → (∀ t, (t < 40 * r ∨ 40 * r + d.nA ≤ t) → f t = I 4 t) → Q none (xrw I 4 f) L)
set_option maxRecDepth 100000 in
theorem kX9_giveOut : ∀ l, xCon l mX9_giveOut sX9_giveOut := by
  refine xcon_of okX9_giveOut hX9_giveOut rfl hhX9_giveOut kkX9_giveOut ?_
  rintro as n0 I L P Q ⟨hn9, rfl, d, X, r, hP, rfl, hX, hr, hs, hmo, hv, h9, hQ⟩
  obtain ⟨e9, rfl⟩ := xe9 hn9
  refine ⟨Nat.le_of_ble_eq_true rfl, ?_⟩
  have ha := hP.a
  have h4 := hP.ok.a4
  refine xrun okX9_giveOut hhX9_giveOut [(6, [true, true, true, false, true, true, true, true, false, false])] 20 ?_
  refine xlpW (M := mX9_giveOut) (cs := csX9_giveOut) (pc := 6) d.nA (fun i => [some (.ref 17), some (.ref 11), some (.long (lN X)), none, some (.ref 2), some (.int (nI r)), some (.int (nI (gvN d X i))), some (.int (nI i)), none, none]) (fun i I' L' => L = L' ∧ ∃ f, I' = xrw I 4 f ∧ (∀ j, j < i → f (40 * r + j) = cI (gcN d X j (gvN d X j))) ∧ (∀ j, i ≤ j → j < d.nA → f (40 * r + j) = -(nI 9)) ∧ (∀ t, (t < 40 * r ∨ 40 * r + d.nA ≤ t) → f t = I 4 t)) ?_ ?_ ⟨rfl, I 4, (xrw_self I 4).symm, fun j h => absurd h (by omega), fun j _ h => h9 j h, fun t _ => rfl⟩
  · rintro i hi I' L' ⟨rfl, f, rfl, hf1, hf2, hf3⟩ ih
    have hg := gvN_lt hP.ok X i
    generalize hG : gvN d X i = g at hg
    refine xrun okX9_giveOut hhX9_giveOut [(6, [true, true, true, false, true, true, true, true, false, false]), (84, [true, true, true, false, true, true, true, true, false, false])] 60 ?_
    have ha2 : xrw I 4 f 11 0 = nI d.nA := ha
    (first | (refine xbr_f ?_ ?_; (focus ((simp (disch := omega) only [ix_lt, ix_le, ix_eq, ix_0, nI_clamp, nI_toInt, ng_T, nI_add, nI_mul, nI_sub', Int.neg_zero, not_false_eq_true, not_true_eq_false, ha2] <;> omega); done))) | (refine xbr_t ?_ ?_; (focus ((simp (disch := omega) only [ix_lt, ix_le, ix_eq, ix_0, nI_clamp, nI_toInt, ng_T, nI_add, nI_mul, nI_sub', Int.neg_zero, not_false_eq_true, not_true_eq_false, ha2] <;> omega); done))) | refine ⟨Or.inl rfl, ?_⟩ | refine ⟨Or.inr rfl, ?_⟩ | (refine ⟨?_, ?_⟩; (focus ((try simp (disch := omega) only [ha2, nI_mul, nI_add, nI_sub']); exact in_nI (by omega) (by omega)))))
    refine ⟨rfl, rfl, i, g, rfl, by omega, hg, ?_⟩
    refine ⟨rfl, rfl, i + 1, g, by rw [nI_add], by omega, hg, ?_⟩
    have e1 : xrw I 4 f 18 (32 * i + g) = nI (vN d X (d.nA - i) g) := hv i (by omega) g hg
    have e2 : xrw I 4 f 18 (32 * (i + 1) + g) = nI (vN d X (d.nA - (i + 1)) g) := hv (i + 1) (by omega) g hg
    rw [e1, e2]
    have b1 := vN_le hP.ok X (d.nA - i) g hg
    have b2 := vN_le hP.ok X (d.nA - (i + 1)) g hg
    have hc5 := gcN_le hP.ok X i g
    have hs1 := gvN_s d X i
    rw [hG] at hs1
    by_cases hlt : vN d X (d.nA - (i + 1)) g < vN d X (d.nA - i) g
    · have hgc : gcN d X i g = ffN (fwB d X i g (vN d X (d.nA - i) g) (vN d X (d.nA - (i + 1)))) d.nL := if_pos hlt
      (first | (refine xbr_f ?_ ?_; (focus ((simp (disch := omega) only [ix_lt, ix_le, ix_eq, ix_0, nI_clamp, nI_toInt, ng_T, nI_add, nI_mul, nI_sub', Int.neg_zero, not_false_eq_true, not_true_eq_false, nI_ltI] <;> omega); done))) | (refine xbr_t ?_ ?_; (focus ((simp (disch := omega) only [ix_lt, ix_le, ix_eq, ix_0, nI_clamp, nI_toInt, ng_T, nI_add, nI_mul, nI_sub', Int.neg_zero, not_false_eq_true, not_true_eq_false, nI_ltI] <;> omega); done))) | refine ⟨Or.inl rfl, ?_⟩ | refine ⟨Or.inr rfl, ?_⟩ | (refine ⟨?_, ?_⟩; (focus ((try simp (disch := omega) only [nI_ltI, nI_mul, nI_add, nI_sub']); exact in_nI (by omega) (by omega)))))
      refine ⟨rfl, rfl, d, X, i, g, vN d X (d.nA - i) g, vN d X (d.nA - (i + 1)), hP, rfl, hX, by omega, hg, ?_, e1, ?_⟩
      · intro t ht
        exact hv (i + 1) (by omega) t ht
      rw [← hgc]
      have e84 : xGo mX9_giveOut csX9_giveOut 84 Q [some (.ref 17), some (.ref 11), some (.long (lN X)), none, some (.ref 2), some (.int (nI r)), some (.int (nI (gvN d X (i + 1)))), some (.int (nI i)), none, none] [] 0 (e9 + 26) (xrw I 4 (fun t => if t = 40 * r + i then cI (gcN d X i g) else f t)) L xP0 := by
        refine xrun okX9_giveOut hhX9_giveOut [(6, [true, true, true, false, true, true, true, true, false, false])] 60 ?_
        refine xgo_eq (ih _ _ ⟨rfl, _, rfl, ?_, ?_, ?_⟩) ?_ rfl rfl
        · intro j hj
          by_cases h : j = i
          · subst h
            show (if 40 * r + j = 40 * r + j then _ else _) = _
            rw [if_pos rfl, hG]
          · show (if 40 * r + j = 40 * r + i then _ else f (40 * r + j)) = _
            rw [if_neg (by omega)]
            exact hf1 j (by omega)
        · intro j h1 h2
          show (if 40 * r + j = 40 * r + i then _ else f (40 * r + j)) = _
          rw [if_neg (by omega)]
          exact hf2 j (by omega) h2
        · intro t ht
          show (if t = 40 * r + i then _ else f t) = _
          rw [if_neg (by omega)]
          exact hf3 t ht
        · ((repeat' (first | (with_reducible rfl) | exact xv_nil | refine xv_cons ?_ ?_ | refine xv_i ?_ | refine xv_l ?_)) <;> (simp (disch := omega) only [↓reduceIte, Bool.false_eq_true, Nat.one_mul, Nat.zero_mul, Nat.or_zero, Nat.add_zero, Nat.zero_add, Bool.toNat_true, Bool.toNat_false, shl_n, shr_n, fa_and, fa_or, nx_xor, nI_add, nI_mul, nI_sub', and_1, and_7, and_3', and_15]))
      refine ⟨rfl, rfl, 2, 3, 4, 6, 40, r, i, d.nA, cI (gcN d X i g), Or.inl ⟨rfl, rfl, rfl, rfl, rfl⟩, rfl, hr, hs, hi, by omega, hmo, ?_⟩
      rw [show r * 40 + i = 40 * r + i by omega, xrw_up]
      by_cases h0 : gcN d X i g = 0
      · rw [if_pos h0] at hs1
        rw [h0, cI_0] at e84 ⊢
        (first | (refine xbr_f ?_ ?_; (focus ((simp (disch := omega) only [ix_lt, ix_le, ix_eq, ix_0, nI_clamp, nI_toInt, ng_T, nI_add, nI_mul, nI_sub', Int.neg_zero, not_false_eq_true, not_true_eq_false] <;> omega); done))) | (refine xbr_t ?_ ?_; (focus ((simp (disch := omega) only [ix_lt, ix_le, ix_eq, ix_0, nI_clamp, nI_toInt, ng_T, nI_add, nI_mul, nI_sub', Int.neg_zero, not_false_eq_true, not_true_eq_false] <;> omega); done))) | refine ⟨Or.inl rfl, ?_⟩ | refine ⟨Or.inr rfl, ?_⟩ | (refine ⟨?_, ?_⟩; (focus (exact in_nI (by omega) (by omega)))))
        refine xgo_eq e84 ?_ rfl rfl
        rw [hs1]
        ((repeat' (first | (with_reducible rfl) | exact xv_nil | refine xv_cons ?_ ?_ | refine xv_i ?_ | refine xv_l ?_)) <;> (simp (disch := omega) only [↓reduceIte, Bool.false_eq_true, Nat.one_mul, Nat.zero_mul, Nat.or_zero, Nat.add_zero, Nat.zero_add, Bool.toNat_true, Bool.toNat_false, shl_n, shr_n, fa_and, fa_or, nx_xor, nI_add, nI_mul, nI_sub', and_1, and_7, and_3', and_15]))
      · rw [if_neg h0] at hs1
        obtain ⟨c, hc⟩ : ∃ c, gcN d X i g = c + 1 := ⟨gcN d X i g - 1, by omega⟩
        rw [hc] at hs1 hc5
        rw [hc, cI_s] at e84 ⊢
        (first | (refine xbr_f ?_ ?_; (focus ((simp (disch := omega) only [ix_lt, ix_le, ix_eq, ix_0, nI_clamp, nI_toInt, ng_T, nI_add, nI_mul, nI_sub', Int.neg_zero, not_false_eq_true, not_true_eq_false] <;> omega); done))) | (refine xbr_t ?_ ?_; (focus ((simp (disch := omega) only [ix_lt, ix_le, ix_eq, ix_0, nI_clamp, nI_toInt, ng_T, nI_add, nI_mul, nI_sub', Int.neg_zero, not_false_eq_true, not_true_eq_false] <;> omega); done))) | refine ⟨Or.inl rfl, ?_⟩ | refine ⟨Or.inr rfl, ?_⟩ | (refine ⟨?_, ?_⟩; (focus (exact in_nI (by omega) (by omega)))))
        refine xgo_eq e84 ?_ rfl rfl
        rw [hs1]
        ((repeat' (first | (with_reducible rfl) | exact xv_nil | refine xv_cons ?_ ?_ | refine xv_i ?_ | refine xv_l ?_)) <;> (simp (disch := omega) only [↓reduceIte, Bool.false_eq_true, Nat.one_mul, Nat.zero_mul, Nat.or_zero, Nat.add_zero, Nat.zero_add, Bool.toNat_true, Bool.toNat_false, shl_n, shr_n, fa_and, fa_or, nx_xor, nI_add, nI_mul, nI_sub', and_1, and_7, and_3', and_15, Nat.add_sub_cancel]))
    · have hgc : gcN d X i g = 0 := if_neg hlt
      rw [if_pos hgc] at hs1
      (first | (refine xbr_f ?_ ?_; (focus ((simp (disch := omega) only [ix_lt, ix_le, ix_eq, ix_0, nI_clamp, nI_toInt, ng_T, nI_add, nI_mul, nI_sub', Int.neg_zero, not_false_eq_true, not_true_eq_false, nI_ltI] <;> omega); done))) | (refine xbr_t ?_ ?_; (focus ((simp (disch := omega) only [ix_lt, ix_le, ix_eq, ix_0, nI_clamp, nI_toInt, ng_T, nI_add, nI_mul, nI_sub', Int.neg_zero, not_false_eq_true, not_true_eq_false, nI_ltI] <;> omega); done))) | refine ⟨Or.inl rfl, ?_⟩ | refine ⟨Or.inr rfl, ?_⟩ | (refine ⟨?_, ?_⟩; (focus ((try simp (disch := omega) only [nI_ltI, nI_mul, nI_add, nI_sub']); exact in_nI (by omega) (by omega)))))
      refine xrun okX9_giveOut hhX9_giveOut [(6, [true, true, true, false, true, true, true, true, false, false])] 60 ?_
      refine xgo_eq (ih _ _ ⟨rfl, f, rfl, ?_, ?_, hf3⟩) ?_ rfl rfl
      · intro j hj
        by_cases h : j = i
        · subst h
          rw [hG, hgc, cI_0]
          exact hf2 j (Nat.le_refl j) hi
        · exact hf1 j (by omega)
      · intro j h1 h2
        exact hf2 j (by omega) h2
      · rw [hs1]
        ((repeat' (first | (with_reducible rfl) | exact xv_nil | refine xv_cons ?_ ?_ | refine xv_i ?_ | refine xv_l ?_)) <;> (simp (disch := omega) only [↓reduceIte, Bool.false_eq_true, Nat.one_mul, Nat.zero_mul, Nat.or_zero, Nat.add_zero, Nat.zero_add, Bool.toNat_true, Bool.toNat_false, shl_n, shr_n, fa_and, fa_or, nx_xor, nI_add, nI_mul, nI_sub', and_1, and_7, and_3', and_15]))
  · rintro I' L' ⟨rfl, f, rfl, hf1, hf2, hf3⟩
    refine xrun okX9_giveOut hhX9_giveOut [] 60 ?_
    have ha2 : xrw I 4 f 11 0 = nI d.nA := ha
    repeat (first | (refine xbr_f ?_ ?_; (focus ((simp (disch := omega) only [ix_lt, ix_le, ix_eq, ix_0, nI_clamp, nI_toInt, ng_T, nI_add, nI_mul, nI_sub', Int.neg_zero, not_false_eq_true, not_true_eq_false, ha2] <;> omega); done))) | (refine xbr_t ?_ ?_; (focus ((simp (disch := omega) only [ix_lt, ix_le, ix_eq, ix_0, nI_clamp, nI_toInt, ng_T, nI_add, nI_mul, nI_sub', Int.neg_zero, not_false_eq_true, not_true_eq_false, ha2] <;> omega); done))) | refine ⟨Or.inl rfl, ?_⟩ | refine ⟨Or.inr rfl, ?_⟩ | (refine ⟨?_, ?_⟩; (focus ((try simp (disch := omega) only [ha2, nI_mul, nI_add, nI_sub']); exact in_nI (by omega) (by omega)))))
    exact hQ f hf1 hf3
