/-! THE REFERENCE: line -/
def lgB (d : PD) (X i l : Nat) (m : Nat) : Bool := decide (getN (tkN d X (m * 2 ^ (2 * (4 - d.nA))) 15 d.nA).1 (3 * i) 3 = l + 1)
def lrB (d : PD) (X i l : Nat) (n : Nat) : Bool := isB d.nA n && lgB d X i l (phN d.nA d.nA n)
theorem oy_eq (d : PD) (X i l : Nat) : oyB d X i l = fun m => coB d.nA m && lgB d X i l m := rfl
theorem lr_eq (d : PD) (X i l : Nat) : lrB d X i l = fun n => isB d.nA n && lgB d X i l (phN d.nA d.nA n) := rfl
theorem cn_st (f : Nat → Bool) (n : Nat) : cnN f (n + 1) = cnN f n + (f n).toNat := rfl
def csX11_line : xCs := [(mX11_isAss, sX11_isAss), (mX11_isLoad, sX11_isLoad), (mX11_isRow, sX11_isRow), (mX11_isOrder, sX11_isOrder), (mX11_takesOne, sX11_takesOne), (mX11_fresh, sX11_fresh)]
theorem okX11_line : xOkM mX11_line csX11_line := ⟨dX11_line, by decide +kernel, by decide +kernel, ⟨wdX11_205, wdX11_211, wdX11_96, wdX11_118, wdX11_118, wdX11_266, wdX11_118, wdX11_65, wdX11_146, wdX11_40, wdX11_40, wdX11_266, wdX11_118, wdX11_104, wdX11_118, wdX11_16, wdX11_65, trivial⟩⟩
theorem hhX11_line : ∀ q ∈ csX11_line, xHd q.1 := xall1 hX11_isAss (xall1 hX11_isLoad (xall1 hX11_isRow (xall1 hX11_isOrder (xall1 hX11_takesOne (xall1 hX11_fresh (xall0))))))
theorem kkX11_line : ∀ q ∈ csX11_line, ∀ l, xCon l q.1 q.2 := xall1 kX11_isAss (xall1 kX11_isLoad (xall1 kX11_isRow (xall1 kX11_isOrder (xall1 kX11_takesOne (xall1 kX11_fresh (xall0))))))
def sX11_line : xSpec := xReg fun as I L Q => ∃ (S : ST) (i l r o : Int32) (S' : ST), as = [.ref 27, .int i, .int l, .int r] ∧ lineR S i l r o S' ∧ Ref S I L ∧ (∀ I' L', frM I L I' L' → Ref S' I' L' → Q (some (.int o)) I' L')
set_option maxRecDepth 100000 in
theorem kX11_line : ∀ l, xCon l mX11_line sX11_line := by
  refine xcon_of okX11_line hX11_line rfl (by decide) hhX11_line kkX11_line ?_
  rintro as n0 I L P Q ⟨rfl, rfl, S, i, l, r, o, S', rfl, hR, hC, hQ⟩
  refine ⟨Nat.le_of_ble_eq_true rfl, ?_⟩
  have hA := hC.pd.a
  have hd := hC.pd.ok
  have h4 := hd.a4
  have h5 := hd.l5
  refine xrun okX11_line hhX11_line [(31, [true, true, true, true, true, true, false, false, false, false])] 60 ?_
  refine ⟨rfl, rfl, S.d, i, rfl, hC.pd, ?_⟩
  rcases hR with ⟨h, ho, hs⟩ | ⟨a, b, j, rfl, ha, rfl, hb, rfl, hj, hR⟩
  · subst ho
    subst hs
    obtain ⟨S, rfl⟩ : ∃ S, S = S' := ⟨S', rfl⟩
    have done := hQ _ _ (frM_0 _ _) hC
    cases q1 : ibB i S.d.nA
    · (first | refine xbr_t (by decide) ?_ | refine xbr_f (by decide) ?_)
      exact done
    · (first | refine xbr_t (by decide) ?_ | refine xbr_f (by decide) ?_)
      refine ⟨rfl, rfl, S.d, l, rfl, hC.pd, ?_⟩
      cases q2 : ibB l S.d.nL
      · (first | refine xbr_t (by decide) ?_ | refine xbr_f (by decide) ?_)
        exact done
      · (first | refine xbr_t (by decide) ?_ | refine xbr_f (by decide) ?_)
        refine ⟨rfl, rfl, r, rfl, ?_⟩
        cases q3 : ibB r 6
        · (first | refine xbr_t (by decide) ?_ | refine xbr_f (by decide) ?_)
          exact done
        · exact absurd ⟨q1, q2, q3⟩ h
  rw [ib_tt ha (by omega)]
  (first | refine xbr_t (by decide) ?_ | refine xbr_f (by decide) ?_)
  refine ⟨rfl, rfl, S.d, _, rfl, hC.pd, ?_⟩
  rw [ib_tt hb (by omega)]
  (first | refine xbr_t (by decide) ?_ | refine xbr_f (by decide) ?_)
  refine ⟨rfl, rfl, _, rfl, ?_⟩
  rw [ib_tt hj (by decide)]
  (first | refine xbr_t (by decide) ?_ | refine xbr_f (by decide) ?_)
  obtain ⟨hT, hTk⟩ := aa_256 S.d.nA (by omega)
  obtain ⟨c1, _, _⟩ := or_cor (show S.d.nA < 5 by omega) (lgB S.d S.D.X a b)
  obtain ⟨f1, f2⟩ := or_ff (show S.d.nA < 5 by omega) (lgB S.d S.D.X a b)
  rw [← oy_eq, ← lr_eq] at c1 f1
  rw [← lr_eq, ← oy_eq] at f2
  have hcf := cf_0 (lrB S.d S.D.X a b) (S.d.nA ^ S.d.nA)
  generalize hbB : lrB S.d S.D.X a b = fB at c1 f1 f2 hcf
  generalize hT' : S.d.nA ^ S.d.nA = T at c1 f1 f2 hcf hT
  -- the rows written
  have last : ∀ (W : xI) (o' : Nat) (x y z : Int32), scr I L W L → (∀ p, p < S.d.nA → W 46 p = nI (orN o' p)) → (∀ I' L', frM I L I' L' → Ref (S.wR (fun t => if t = j then S.d.nA + 1 else S.rz t) (lnV S j o')) I' L' → Q (some (.int y)) xN I' L' xP0) → xGo mX11_line csX11_line 194 Q [some (.ref 27), some (.int (nI a)), some (.int (nI b)), some (.int (nI j)), some (.int x), some (.int y), some (.int z), some (.int (nI 0)), none, none] [] 0 xN (xrw (xup W 29 j (nI S.d.nA)) 30 (xfil (W 30) (40 * j) 40 (nI 0))) L xP0 := by
    intro W o' x y z hs hf hQ
    have hW := Ref_s hC hs
    have hA2 : ∀ g, xrw (xup W 29 j (nI S.d.nA)) 30 g 27 10 = nI S.d.nA := fun _ => hW.pd.a
    refine xlpW (M := mX11_line) (cs := csX11_line) (pc := 194) S.d.nA (fun k => [some (.ref 27), some (.int (nI a)), some (.int (nI b)), some (.int (nI j)), some (.int x), some (.int y), some (.int z), some (.int (nI k)), none, none]) (fun k I' L' => L' = L ∧ ∃ g, I' = xrw (xup W 29 j (nI S.d.nA)) 30 g ∧ (∀ t, t < k → g (40 * j + t) = nI (orN o' t)) ∧ (∀ t, (t < 40 * j ∨ 40 * j + 40 ≤ t) → g t = W 30 t)) ?_ ?_ ⟨rfl, _, rfl, fun t ht => absurd ht (Nat.not_lt_zero _), fun t ht => fil_out ht⟩
    · rintro k hk I2 L2 ⟨rfl, g, rfl, w1, w2⟩ ih
      refine xrun okX11_line hhX11_line [(194, [true, true, true, true, true, true, true, true, false, false])] 60 ?_
      have ef : xrw (xup W 29 j (nI S.d.nA)) 30 g 46 k = nI (orN o' k) := hf k hk
      have hA3 := hA2 g
      (first | (refine xbr_f ?_ ?_; (focus ((simp (disch := omega) only [ix_lt, ix_le, ix_eq, ix_0, nI_clamp, nI_toInt, ng_T, nI_add, nI_mul, nI_sub', Int.neg_zero, not_false_eq_true, not_true_eq_false, hA3] <;> omega); done))) | (refine xbr_t ?_ ?_; (focus ((simp (disch := omega) only [ix_lt, ix_le, ix_eq, ix_0, nI_clamp, nI_toInt, ng_T, nI_add, nI_mul, nI_sub', Int.neg_zero, not_false_eq_true, not_true_eq_false, hA3] <;> omega); done))) | refine ⟨Or.inl rfl, ?_⟩ | refine ⟨Or.inr rfl, ?_⟩ | (refine ⟨?_, ?_⟩; (focus ((try simp (disch := omega) only [hA3, nI_mul, nI_add, nI_sub']); exact in_nI (by omega) (by omega)))))
      (first | (refine xbr_f ?_ ?_; (focus ((simp (disch := omega) only [ix_lt, ix_le, ix_eq, ix_0, nI_clamp, nI_toInt, ng_T, nI_add, nI_mul, nI_sub', Int.neg_zero, not_false_eq_true, not_true_eq_false, nI_add] <;> omega); done))) | (refine xbr_t ?_ ?_; (focus ((simp (disch := omega) only [ix_lt, ix_le, ix_eq, ix_0, nI_clamp, nI_toInt, ng_T, nI_add, nI_mul, nI_sub', Int.neg_zero, not_false_eq_true, not_true_eq_false, nI_add] <;> omega); done))) | refine ⟨Or.inl rfl, ?_⟩ | refine ⟨Or.inr rfl, ?_⟩ | (refine ⟨?_, ?_⟩; (focus ((try simp (disch := omega) only [nI_add, nI_mul, nI_add, nI_sub']); exact in_nI (by omega) (by omega)))))
      (first | (refine xbr_f ?_ ?_; (focus ((simp (disch := omega) only [ix_lt, ix_le, ix_eq, ix_0, nI_clamp, nI_toInt, ng_T, nI_add, nI_mul, nI_sub', Int.neg_zero, not_false_eq_true, not_true_eq_false, nI_add] <;> omega); done))) | (refine xbr_t ?_ ?_; (focus ((simp (disch := omega) only [ix_lt, ix_le, ix_eq, ix_0, nI_clamp, nI_toInt, ng_T, nI_add, nI_mul, nI_sub', Int.neg_zero, not_false_eq_true, not_true_eq_false, nI_add] <;> omega); done))) | refine ⟨Or.inl rfl, ?_⟩ | refine ⟨Or.inr rfl, ?_⟩ | (refine ⟨?_, ?_⟩; (focus ((try simp (disch := omega) only [nI_add, nI_mul, nI_add, nI_sub']); exact in_nI (by omega) (by omega)))))
      simp (disch := omega) only [ef, nI_mul, nI_add, nI_clamp, nI_sub']
      rw [xrw_up]
      refine xgo_eq (ih _ _ ⟨rfl, _, rfl, fun t ht => ?_, fun t ht => ?_⟩) ?_ rfl rfl
      · show (if 40 * j + t = 40 * j + k then _ else g (40 * j + t)) = _
        by_cases e : t = k
        · rw [if_pos (by omega), e]
        · rw [if_neg (by omega)]
          exact w1 t (by omega)
      · show (if t = 40 * j + k then _ else g t) = _
        rw [if_neg (by omega)]
        exact w2 t ht
      · ((repeat' (first | (with_reducible rfl) | exact xv_nil | refine xv_cons ?_ ?_ | refine xv_i ?_ | refine xv_l ?_)) <;> (simp (disch := omega) only [↓reduceIte, Bool.false_eq_true, Nat.one_mul, Nat.zero_mul, Nat.or_zero, Nat.add_zero, Nat.zero_add, Bool.toNat_true, Bool.toNat_false, shl_n, shr_n, fa_and, fa_or, nx_xor, nI_add, nI_mul, nI_sub', and_1, and_7, and_3', and_15]))
    · rintro I2 L2 ⟨rfl, g, rfl, w1, w2⟩
      refine xrun okX11_line hhX11_line [] 60 ?_
      have hA3 := hA2 g
      (first | (refine xbr_f ?_ ?_; (focus ((simp (disch := omega) only [ix_lt, ix_le, ix_eq, ix_0, nI_clamp, nI_toInt, ng_T, nI_add, nI_mul, nI_sub', Int.neg_zero, not_false_eq_true, not_true_eq_false, hA3] <;> omega); done))) | (refine xbr_t ?_ ?_; (focus ((simp (disch := omega) only [ix_lt, ix_le, ix_eq, ix_0, nI_clamp, nI_toInt, ng_T, nI_add, nI_mul, nI_sub', Int.neg_zero, not_false_eq_true, not_true_eq_false, hA3] <;> omega); done))) | refine ⟨Or.inl rfl, ?_⟩ | refine ⟨Or.inr rfl, ?_⟩ | (refine ⟨?_, ?_⟩; (focus ((try simp (disch := omega) only [hA3, nI_mul, nI_add, nI_sub']); exact in_nI (by omega) (by omega)))))
      refine hQ _ _ (frM_t (scr_fr hs) (frM_t (frM_I (k := 29) (by decide) _ _ _ _) (frM_W (k := 30) (by decide) _ _ _))) (Ref_R hW (rz_le hC.ok (by omega)) (rw_new hW.rw hC.ok.rz (m := S.d.nA) (by omega) ?_ ?_ ?_))
      · intro k hk
        rw [w1 k hk]
        unfold lnV
        rw [if_pos (by omega), show j * 40 + k - j * 40 = k by omega]
      · intro t ht
        exact w2 t ht
      · intro t ht
        unfold lnV
        rw [if_neg (by omega)]
  -- the orders, one by one
  have hbn : ∀ n, fB n = lrB S.d S.D.X a b n := fun n => by rw [hbB]
  have main : xGo mX11_line csX11_line 65 Q [some (.ref 27), some (.int (nI a)), some (.int (nI b)), some (.int (nI j)), some (.int (nI T)), some (.int (nI 0)), some (.int (-(nI 9))), some (.int (nI 0)), none, none] [] 0 xN I L xP0 := by
    refine xlpW (M := mX11_line) (cs := csX11_line) (pc := 65) T (fun n => [some (.ref 27), some (.int (nI a)), some (.int (nI b)), some (.int (nI j)), some (.int (nI T)), some (.int (nI (cnN fB n))), some (.int (cI (ffN fB n))), some (.int (nI n)), none, none]) (fun n I' L' => L' = L ∧ scr I L I' L) ?_ ?_ ⟨rfl, scr_0 _ _⟩
    · rintro n hn I2 L2 ⟨rfl, hs⟩ ih
      refine xrun okX11_line hhX11_line [(65, [true, true, true, true, true, true, true, true, false, false]), (87, [true, true, true, true, true, true, true, true, true, true])] 60 ?_
      have hC' := Ref_s hC hs
      (first | (refine xbr_f ?_ ?_; (focus ((simp (disch := omega) only [ix_lt, ix_le, ix_eq, ix_0, nI_clamp, nI_toInt, ng_T, nI_add, nI_mul, nI_sub', Int.neg_zero, not_false_eq_true, not_true_eq_false] <;> omega); done))) | (refine xbr_t ?_ ?_; (focus ((simp (disch := omega) only [ix_lt, ix_le, ix_eq, ix_0, nI_clamp, nI_toInt, ng_T, nI_add, nI_mul, nI_sub', Int.neg_zero, not_false_eq_true, not_true_eq_false] <;> omega); done))) | refine ⟨Or.inl rfl, ?_⟩ | refine ⟨Or.inr rfl, ?_⟩ | (refine ⟨?_, ?_⟩; (focus (exact in_nI (by omega) (by omega)))))
      refine ⟨rfl, rfl, S.d, n, rfl, hC'.pd, by omega, by omega, fun f hf => ?_⟩
      obtain ⟨is1, is2⟩ := or_is S.d.nA (by omega) n (by omega) (by rw [hT']; exact hn)
      have hdg := or_dg S.d.nA (by omega) n (by omega) (by rw [hT']; exact hn)
      have hs2 : scr I L2 (xrw I2 46 f) L2 := scr_t hs (scr_W (k := 46) (by omega) _ _ _)
      have hbn' := hbn n
      cases hb : isB S.d.nA n
      · have e0 : fB n = false := by
          rw [hbn']
          unfold lrB
          rw [hb]
          rfl
        have e1 : cnN fB (n + 1) = cnN fB n := by
          rw [cn_st, e0]
          rfl
        have e2 : ffN fB (n + 1) = ffN fB n := by
          rw [ffN_s, e0, if_neg Bool.false_ne_true]
          by_cases q : ffN fB n = 0
          · rw [if_pos q, q]
          · rw [if_neg q]
        (first | refine xbr_t (by decide) ?_ | refine xbr_f (by decide) ?_)
        refine xgo_eq (ih _ _ ⟨rfl, hs2⟩) ?_ rfl rfl
        rw [e1, e2]
        ((repeat' (first | (with_reducible rfl) | exact xv_nil | refine xv_cons ?_ ?_ | refine xv_i ?_ | refine xv_l ?_)) <;> (simp (disch := omega) only [↓reduceIte, Bool.false_eq_true, Nat.one_mul, Nat.zero_mul, Nat.or_zero, Nat.add_zero, Nat.zero_add, Bool.toNat_true, Bool.toNat_false, shl_n, shr_n, fa_and, fa_or, nx_xor, nI_add, nI_mul, nI_sub', and_1, and_7, and_3', and_15]))
      · (first | refine xbr_t (by decide) ?_ | refine xbr_f (by decide) ?_)
        have e0 : fB n = lgB S.d S.D.X a b (phN S.d.nA S.d.nA n) := by
          rw [hbn']
          unfold lrB
          rw [hb, Bool.true_and]
        have e1 := cn_st fB n
        have e2 := ffN_s fB n
        rw [e0] at e1 e2
        unfold lgB at e1 e2
        rw [hb] at is1
        have ho := of_decide_eq_true is1.symm
        generalize phN S.d.nA S.d.nA n * 2 ^ (2 * (4 - S.d.nA)) = oo at is2 hdg ho e1 e2
        have hcn := cnN_le fB n
        have hff := ffN_le fB n
        refine xlpW (M := mX11_line) (cs := csX11_line) (pc := 87) S.d.nA (fun p => [some (.ref 27), some (.int (nI a)), some (.int (nI b)), some (.int (nI j)), some (.int (nI T)), some (.int (nI (cnN fB n))), some (.int (cI (ffN fB n))), some (.int (nI n)), some (.int (nI (tkN S.d S.D.X oo 15 p).2)), some (.int (nI p))]) (fun p I' L' => L' = L2 ∧ scr I L2 I' L2 ∧ (∀ q, q < S.d.nA → I' 46 q = nI (orN oo q)) ∧ (∀ i, i < S.d.nA → tbB (boN oo p) i = true → I' 38 i = cI (getN (tkN S.d S.D.X oo 15 p).1 (3 * i) 3))) ?_ ?_ ⟨rfl, hs2, fun q hq => ?_, fun i hi q => ?_⟩
        · rintro p hp I3 L3 ⟨rfl, hs3, w1, w2⟩ ih2
          refine xrun okX11_line hhX11_line [(87, [true, true, true, true, true, true, true, true, true, true])] 60 ?_
          have hC3 := Ref_s hC hs3
          have hA3 := hC3.pd.a
          have hdi := or_di S.d.nA (by omega) oo is2 ho p (by omega) hp
          have hat := tk15_at hd S.D.X is2 ho hp
          have e46 := w1 p hp
          have htk := tk15_s S.d S.D.X oo p
          have hch := chO_5 hd S.D.X oo p
          (first | (refine xbr_f ?_ ?_; (focus ((simp (disch := omega) only [ix_lt, ix_le, ix_eq, ix_0, nI_clamp, nI_toInt, ng_T, nI_add, nI_mul, nI_sub', Int.neg_zero, not_false_eq_true, not_true_eq_false, hA3] <;> omega); done))) | (refine xbr_t ?_ ?_; (focus ((simp (disch := omega) only [ix_lt, ix_le, ix_eq, ix_0, nI_clamp, nI_toInt, ng_T, nI_add, nI_mul, nI_sub', Int.neg_zero, not_false_eq_true, not_true_eq_false, hA3] <;> omega); done))) | refine ⟨Or.inl rfl, ?_⟩ | refine ⟨Or.inr rfl, ?_⟩ | (refine ⟨?_, ?_⟩; (focus ((try simp (disch := omega) only [hA3, nI_mul, nI_add, nI_sub']); exact in_nI (by omega) (by omega)))))
          (first | (refine xbr_f ?_ ?_; (focus ((simp (disch := omega) only [ix_lt, ix_le, ix_eq, ix_0, nI_clamp, nI_toInt, ng_T, nI_add, nI_mul, nI_sub', Int.neg_zero, not_false_eq_true, not_true_eq_false] <;> omega); done))) | (refine xbr_t ?_ ?_; (focus ((simp (disch := omega) only [ix_lt, ix_le, ix_eq, ix_0, nI_clamp, nI_toInt, ng_T, nI_add, nI_mul, nI_sub', Int.neg_zero, not_false_eq_true, not_true_eq_false] <;> omega); done))) | refine ⟨Or.inl rfl, ?_⟩ | refine ⟨Or.inr rfl, ?_⟩ | (refine ⟨?_, ?_⟩; (focus (exact in_nI (by omega) (by omega)))))
          refine ⟨rfl, rfl, S.d, S.D.X, _, orN oo p, (tkN S.d S.D.X oo 15 p).2, ?_, hC3.pd, hC3.nw, hdi.1, (tkN_lt hd S.D.X oo 15 p).2, ?_⟩
          · rw [nI_clamp (by omega), e46]
          refine xgo_eq (ih2 _ _ ⟨rfl, scr_t hs3 (scr_I (k := 38) (by omega) _ _ _ _), fun q hq => w1 q hq, fun i hi q => ?_⟩) ?_ rfl rfl
          · rw [hat]
            show (if i = orN oo p then cI (chO S.d S.D.X oo p) else I3 38 i) = _
            by_cases e : i = orN oo p
            · rw [if_pos e, if_pos e]
            · rw [if_neg e, if_neg e]
              rw [bo_s, decide_eq_false (fun z => e z.symm), Bool.or_false] at q
              exact w2 i hi q
          · rw [htk]
            by_cases c0 : chO S.d S.D.X oo p = 0
            · rw [if_pos c0]
              have c0' : (chN S.d S.D.X (orN oo p) (tkN S.d S.D.X oo 15 p).2 S.d.nL).1 = 0 := c0
              rw [if_pos c0']
              ((repeat' (first | (with_reducible rfl) | exact xv_nil | refine xv_cons ?_ ?_ | refine xv_i ?_ | refine xv_l ?_)) <;> (simp (disch := omega) only [↓reduceIte, Bool.false_eq_true, Nat.one_mul, Nat.zero_mul, Nat.or_zero, Nat.add_zero, Nat.zero_add, Bool.toNat_true, Bool.toNat_false, shl_n, shr_n, fa_and, fa_or, nx_xor, nI_add, nI_mul, nI_sub', and_1, and_7, and_3', and_15]))
            · rw [if_neg c0]
              have c0' : ¬ (chN S.d S.D.X (orN oo p) (tkN S.d S.D.X oo 15 p).2 S.d.nL).1 = 0 := c0
              rw [if_neg c0']
              ((repeat' (first | (with_reducible rfl) | exact xv_nil | refine xv_cons ?_ ?_ | refine xv_i ?_ | refine xv_l ?_)) <;> (simp (disch := omega) only [↓reduceIte, Bool.false_eq_true, Nat.one_mul, Nat.zero_mul, Nat.or_zero, Nat.add_zero, Nat.zero_add, Bool.toNat_true, Bool.toNat_false, shl_n, shr_n, fa_and, fa_or, nx_xor, nI_add, nI_mul, nI_sub', and_1, and_7, and_3', and_15]))
              rfl
        · rintro I3 L3 ⟨rfl, hs3, w1, w2⟩
          refine xrun okX11_line hhX11_line [(65, [true, true, true, true, true, true, true, true, false, false])] 90 ?_
          have hC3 := Ref_s hC hs3
          have hA3 := hC3.pd.a
          have e38 := w2 a ha (by rw [ho]; exact ful S.d.nA (by omega) a (by omega) ha)
          have h8 : getN (tkN S.d S.D.X oo 15 S.d.nA).1 (3 * a) 3 < 8 := getN_lt _ _ 3
          (first | (refine xbr_f ?_ ?_; (focus ((simp (disch := omega) only [ix_lt, ix_le, ix_eq, ix_0, nI_clamp, nI_toInt, ng_T, nI_add, nI_mul, nI_sub', Int.neg_zero, not_false_eq_true, not_true_eq_false, hA3] <;> omega); done))) | (refine xbr_t ?_ ?_; (focus ((simp (disch := omega) only [ix_lt, ix_le, ix_eq, ix_0, nI_clamp, nI_toInt, ng_T, nI_add, nI_mul, nI_sub', Int.neg_zero, not_false_eq_true, not_true_eq_false, hA3] <;> omega); done))) | refine ⟨Or.inl rfl, ?_⟩ | refine ⟨Or.inr rfl, ?_⟩ | (refine ⟨?_, ?_⟩; (focus ((try simp (disch := omega) only [hA3, nI_mul, nI_add, nI_sub']); exact in_nI (by omega) (by omega)))))
          (first | (refine xbr_f ?_ ?_; (focus ((simp (disch := omega) only [ix_lt, ix_le, ix_eq, ix_0, nI_clamp, nI_toInt, ng_T, nI_add, nI_mul, nI_sub', Int.neg_zero, not_false_eq_true, not_true_eq_false] <;> omega); done))) | (refine xbr_t ?_ ?_; (focus ((simp (disch := omega) only [ix_lt, ix_le, ix_eq, ix_0, nI_clamp, nI_toInt, ng_T, nI_add, nI_mul, nI_sub', Int.neg_zero, not_false_eq_true, not_true_eq_false] <;> omega); done))) | refine ⟨Or.inl rfl, ?_⟩ | refine ⟨Or.inr rfl, ?_⟩ | (refine ⟨?_, ?_⟩; (focus (exact in_nI (by omega) (by omega)))))
          by_cases c : getN (tkN S.d S.D.X oo 15 S.d.nA).1 (3 * a) 3 = b + 1
          · rw [c, cI_s] at e38
            rw [decide_eq_true c] at e1 e2
            rw [if_pos rfl] at e2
            (first | (refine xbr_f ?_ ?_; (focus ((simp (disch := omega) only [ix_lt, ix_le, ix_eq, ix_0, nI_clamp, nI_toInt, ng_T, nI_add, nI_mul, nI_sub', Int.neg_zero, not_false_eq_true, not_true_eq_false, e38] <;> omega); done))) | (refine xbr_t ?_ ?_; (focus ((simp (disch := omega) only [ix_lt, ix_le, ix_eq, ix_0, nI_clamp, nI_toInt, ng_T, nI_add, nI_mul, nI_sub', Int.neg_zero, not_false_eq_true, not_true_eq_false, e38] <;> omega); done))) | refine ⟨Or.inl rfl, ?_⟩ | refine ⟨Or.inr rfl, ?_⟩ | (refine ⟨?_, ?_⟩; (focus ((try simp (disch := omega) only [e38, nI_mul, nI_add, nI_sub']); exact in_nI (by omega) (by omega)))))
            by_cases z : ffN fB n = 0
            · have z2 := (cf_0 fB n).mpr z
              rw [if_pos z] at e2
              (first | (refine xbr_f ?_ ?_; (focus ((simp (disch := omega) only [ix_lt, ix_le, ix_eq, ix_0, nI_clamp, nI_toInt, ng_T, nI_add, nI_mul, nI_sub', Int.neg_zero, not_false_eq_true, not_true_eq_false, z2] <;> omega); done))) | (refine xbr_t ?_ ?_; (focus ((simp (disch := omega) only [ix_lt, ix_le, ix_eq, ix_0, nI_clamp, nI_toInt, ng_T, nI_add, nI_mul, nI_sub', Int.neg_zero, not_false_eq_true, not_true_eq_false, z2] <;> omega); done))) | refine ⟨Or.inl rfl, ?_⟩ | refine ⟨Or.inr rfl, ?_⟩ | (refine ⟨?_, ?_⟩; (focus ((try simp (disch := omega) only [z2, nI_mul, nI_add, nI_sub']); exact in_nI (by omega) (by omega)))))
              (first | (refine xbr_f ?_ ?_; (focus ((simp (disch := omega) only [ix_lt, ix_le, ix_eq, ix_0, nI_clamp, nI_toInt, ng_T, nI_add, nI_mul, nI_sub', Int.neg_zero, not_false_eq_true, not_true_eq_false] <;> omega); done))) | (refine xbr_t ?_ ?_; (focus ((simp (disch := omega) only [ix_lt, ix_le, ix_eq, ix_0, nI_clamp, nI_toInt, ng_T, nI_add, nI_mul, nI_sub', Int.neg_zero, not_false_eq_true, not_true_eq_false] <;> omega); done))) | refine ⟨Or.inl rfl, ?_⟩ | refine ⟨Or.inr rfl, ?_⟩ | (refine ⟨?_, ?_⟩; (focus (exact in_nI (by omega) (by omega)))))
              (first | (refine xbr_f ?_ ?_; (focus ((simp (disch := omega) only [ix_lt, ix_le, ix_eq, ix_0, nI_clamp, nI_toInt, ng_T, nI_add, nI_mul, nI_sub', Int.neg_zero, not_false_eq_true, not_true_eq_false, e38] <;> omega); done))) | (refine xbr_t ?_ ?_; (focus ((simp (disch := omega) only [ix_lt, ix_le, ix_eq, ix_0, nI_clamp, nI_toInt, ng_T, nI_add, nI_mul, nI_sub', Int.neg_zero, not_false_eq_true, not_true_eq_false, e38] <;> omega); done))) | refine ⟨Or.inl rfl, ?_⟩ | refine ⟨Or.inr rfl, ?_⟩ | (refine ⟨?_, ?_⟩; (focus ((try simp (disch := omega) only [e38, nI_mul, nI_add, nI_sub']); exact in_nI (by omega) (by omega)))))
              refine xgo_eq (ih _ _ ⟨rfl, hs3⟩) ?_ rfl rfl
              rw [e1, e2, cI_s]
              ((repeat' (first | (with_reducible rfl) | exact xv_nil | refine xv_cons ?_ ?_ | refine xv_i ?_ | refine xv_l ?_)) <;> (simp (disch := omega) only [↓reduceIte, Bool.false_eq_true, Nat.one_mul, Nat.zero_mul, Nat.or_zero, Nat.add_zero, Nat.zero_add, Bool.toNat_true, Bool.toNat_false, shl_n, shr_n, fa_and, fa_or, nx_xor, nI_add, nI_mul, nI_sub', and_1, and_7, and_3', and_15]))
            · have z2 : ¬ cnN fB n = 0 := fun q => z ((cf_0 fB n).mp q)
              rw [if_neg z] at e2
              (first | (refine xbr_f ?_ ?_; (focus ((simp (disch := omega) only [ix_lt, ix_le, ix_eq, ix_0, nI_clamp, nI_toInt, ng_T, nI_add, nI_mul, nI_sub', Int.neg_zero, not_false_eq_true, not_true_eq_false] <;> omega); done))) | (refine xbr_t ?_ ?_; (focus ((simp (disch := omega) only [ix_lt, ix_le, ix_eq, ix_0, nI_clamp, nI_toInt, ng_T, nI_add, nI_mul, nI_sub', Int.neg_zero, not_false_eq_true, not_true_eq_false] <;> omega); done))) | refine ⟨Or.inl rfl, ?_⟩ | refine ⟨Or.inr rfl, ?_⟩ | (refine ⟨?_, ?_⟩; (focus (exact in_nI (by omega) (by omega)))))
              (first | (refine xbr_f ?_ ?_; (focus ((simp (disch := omega) only [ix_lt, ix_le, ix_eq, ix_0, nI_clamp, nI_toInt, ng_T, nI_add, nI_mul, nI_sub', Int.neg_zero, not_false_eq_true, not_true_eq_false] <;> omega); done))) | (refine xbr_t ?_ ?_; (focus ((simp (disch := omega) only [ix_lt, ix_le, ix_eq, ix_0, nI_clamp, nI_toInt, ng_T, nI_add, nI_mul, nI_sub', Int.neg_zero, not_false_eq_true, not_true_eq_false] <;> omega); done))) | refine ⟨Or.inl rfl, ?_⟩ | refine ⟨Or.inr rfl, ?_⟩ | (refine ⟨?_, ?_⟩; (focus (exact in_nI (by omega) (by omega)))))
              (first | (refine xbr_f ?_ ?_; (focus ((simp (disch := omega) only [ix_lt, ix_le, ix_eq, ix_0, nI_clamp, nI_toInt, ng_T, nI_add, nI_mul, nI_sub', Int.neg_zero, not_false_eq_true, not_true_eq_false, e38] <;> omega); done))) | (refine xbr_t ?_ ?_; (focus ((simp (disch := omega) only [ix_lt, ix_le, ix_eq, ix_0, nI_clamp, nI_toInt, ng_T, nI_add, nI_mul, nI_sub', Int.neg_zero, not_false_eq_true, not_true_eq_false, e38] <;> omega); done))) | refine ⟨Or.inl rfl, ?_⟩ | refine ⟨Or.inr rfl, ?_⟩ | (refine ⟨?_, ?_⟩; (focus ((try simp (disch := omega) only [e38, nI_mul, nI_add, nI_sub']); exact in_nI (by omega) (by omega)))))
              refine xgo_eq (ih _ _ ⟨rfl, hs3⟩) ?_ rfl rfl
              rw [e1, e2]
              ((repeat' (first | (with_reducible rfl) | exact xv_nil | refine xv_cons ?_ ?_ | refine xv_i ?_ | refine xv_l ?_)) <;> (simp (disch := omega) only [↓reduceIte, Bool.false_eq_true, Nat.one_mul, Nat.zero_mul, Nat.or_zero, Nat.add_zero, Nat.zero_add, Bool.toNat_true, Bool.toNat_false, shl_n, shr_n, fa_and, fa_or, nx_xor, nI_add, nI_mul, nI_sub', and_1, and_7, and_3', and_15]))
          · rw [decide_eq_false c] at e1 e2
            rw [if_neg Bool.false_ne_true] at e2
            have e2' : ffN fB (n + 1) = ffN fB n := by
              rw [e2]
              by_cases q : ffN fB n = 0
              · rw [if_pos q, q]
              · rw [if_neg q]
            have hne : ¬ I3 38 (nI a).toNatClampNeg = nI b := by
              rw [nI_clamp (by omega), e38]
              generalize getN (tkN S.d S.D.X oo 15 S.d.nA).1 (3 * a) 3 = w at c h8
              rcases w with _ | w
              · rw [cI_0, ix_eq, ng_T (by decide), nI_toInt (by omega)]
                omega
              · rw [cI_s, ix_eq, nI_toInt (by omega), nI_toInt (by omega)]
                omega
            (first | refine xbr_t hne ?_ | refine xbr_f hne ?_)
            (first | (refine xbr_f ?_ ?_; (focus ((simp (disch := omega) only [ix_lt, ix_le, ix_eq, ix_0, nI_clamp, nI_toInt, ng_T, nI_add, nI_mul, nI_sub', Int.neg_zero, not_false_eq_true, not_true_eq_false] <;> omega); done))) | (refine xbr_t ?_ ?_; (focus ((simp (disch := omega) only [ix_lt, ix_le, ix_eq, ix_0, nI_clamp, nI_toInt, ng_T, nI_add, nI_mul, nI_sub', Int.neg_zero, not_false_eq_true, not_true_eq_false] <;> omega); done))) | refine ⟨Or.inl rfl, ?_⟩ | refine ⟨Or.inr rfl, ?_⟩ | (refine ⟨?_, ?_⟩; (focus (exact in_nI (by omega) (by omega)))))
            (first | refine xbr_t hne ?_ | refine xbr_f hne ?_)
            refine xgo_eq (ih _ _ ⟨rfl, hs3⟩) ?_ rfl rfl
            rw [e1, e2']
            ((repeat' (first | (with_reducible rfl) | exact xv_nil | refine xv_cons ?_ ?_ | refine xv_i ?_ | refine xv_l ?_)) <;> (simp (disch := omega) only [↓reduceIte, Bool.false_eq_true, Nat.one_mul, Nat.zero_mul, Nat.or_zero, Nat.add_zero, Nat.zero_add, Bool.toNat_true, Bool.toNat_false, shl_n, shr_n, fa_and, fa_or, nx_xor, nI_add, nI_mul, nI_sub', and_1, and_7, and_3', and_15]))
        · show f q = _
          rw [hf q hq, hdg q (by omega) hq]
        · have e : tbB (boN oo 0) i = false := by
            have z : boN oo 0 = 0 := rfl
            rw [z, tbB_bit]
            simp
          rw [e] at q
          cases q
    · rintro I2 L2 ⟨rfl, hs⟩
      have hC' := Ref_s hC hs
      have hcn := cnN_le fB T
      have hff := ffN_le fB T
      refine xrun okX11_line hhX11_line [(194, [true, true, true, true, true, true, true, true, false, false])] 60 ?_
      (first | (refine xbr_f ?_ ?_; (focus ((simp (disch := omega) only [ix_lt, ix_le, ix_eq, ix_0, nI_clamp, nI_toInt, ng_T, nI_add, nI_mul, nI_sub', Int.neg_zero, not_false_eq_true, not_true_eq_false] <;> omega); done))) | (refine xbr_t ?_ ?_; (focus ((simp (disch := omega) only [ix_lt, ix_le, ix_eq, ix_0, nI_clamp, nI_toInt, ng_T, nI_add, nI_mul, nI_sub', Int.neg_zero, not_false_eq_true, not_true_eq_false] <;> omega); done))) | refine ⟨Or.inl rfl, ?_⟩ | refine ⟨Or.inr rfl, ?_⟩ | (refine ⟨?_, ?_⟩; (focus (exact in_nI (by omega) (by omega)))))
      rcases hR with ⟨e, ho, hs'⟩ | ⟨n', e, ho, hs'⟩
      · subst ho
        subst hs'
        obtain ⟨S, rfl⟩ : ∃ S, S = S' := ⟨S', rfl⟩
        have z : ffN fB T = 0 := by
          cases q : ffN fB T with
          | zero => rfl
          | succ x =>
            have := f2 x q
            rw [e] at this
            cases this
        have z2 := hcf.mpr z
        (first | (refine xbr_f ?_ ?_; (focus ((simp (disch := omega) only [ix_lt, ix_le, ix_eq, ix_0, nI_clamp, nI_toInt, ng_T, nI_add, nI_mul, nI_sub', Int.neg_zero, not_false_eq_true, not_true_eq_false, z2] <;> omega); done))) | (refine xbr_t ?_ ?_; (focus ((simp (disch := omega) only [ix_lt, ix_le, ix_eq, ix_0, nI_clamp, nI_toInt, ng_T, nI_add, nI_mul, nI_sub', Int.neg_zero, not_false_eq_true, not_true_eq_false, z2] <;> omega); done))) | refine ⟨Or.inl rfl, ?_⟩ | refine ⟨Or.inr rfl, ?_⟩ | (refine ⟨?_, ?_⟩; (focus ((try simp (disch := omega) only [z2, nI_mul, nI_add, nI_sub']); exact in_nI (by omega) (by omega)))))
        exact hQ _ _ (scr_fr hs) hC'
      · subst ho
        subst hs'
        have z : ¬ ffN fB T = 0 := fun q => by
          have := f1 q
          rw [e] at this
          cases this
        have z2 : ¬ cnN fB T = 0 := fun q => z (hcf.mp q)
        obtain ⟨x, hx⟩ : ∃ x, ffN fB T = x + 1 := ⟨ffN fB T - 1, by omega⟩
        have hp := f2 x hx
        rw [e] at hp
        obtain rfl : n' = phN S.d.nA S.d.nA x := Nat.succ.inj hp
        have hdg := or_dg S.d.nA (by omega) x (by omega) (by rw [hT']; omega)
        rw [hx, cI_s]
        (first | (refine xbr_f ?_ ?_; (focus ((simp (disch := omega) only [ix_lt, ix_le, ix_eq, ix_0, nI_clamp, nI_toInt, ng_T, nI_add, nI_mul, nI_sub', Int.neg_zero, not_false_eq_true, not_true_eq_false] <;> omega); done))) | (refine xbr_t ?_ ?_; (focus ((simp (disch := omega) only [ix_lt, ix_le, ix_eq, ix_0, nI_clamp, nI_toInt, ng_T, nI_add, nI_mul, nI_sub', Int.neg_zero, not_false_eq_true, not_true_eq_false] <;> omega); done))) | refine ⟨Or.inl rfl, ?_⟩ | refine ⟨Or.inr rfl, ?_⟩ | (refine ⟨?_, ?_⟩; (focus (exact in_nI (by omega) (by omega)))))
        refine ⟨rfl, rfl, S.d, x, rfl, hC'.pd, by omega, by omega, fun f hf => ?_⟩
        have hA3 : xrw I2 46 f 27 10 = nI S.d.nA := hC'.pd.a
        refine ⟨rfl, rfl, j, nI S.d.nA, by rw [hA3], hj, ?_⟩
        have hs2 : scr I L2 (xrw I2 46 f) L2 := scr_t hs (scr_W (k := 46) (by omega) _ _ _)
        refine last (xrw I2 46 f) (phN S.d.nA S.d.nA x * 2 ^ (2 * (4 - S.d.nA))) _ _ _ hs2 (fun p hp => ?_) (fun I' L' hf hC2 => ?_)
        · show f p = _
          rw [hf p hp, hdg p (by omega) hp]
        · have hq := hQ I' L' hf hC2
          rw [c1] at hq
          exact hq
  refine xlp (M := mX11_line) (cs := csX11_line) (pc := 31) S.d.nA (fun k => [some (.ref 27), some (.int (nI a)), some (.int (nI b)), some (.int (nI j)), some (.int (nI (S.d.nA ^ k))), some (.int (nI k)), none, none, none, none]) (fun _ => I) (fun _ => L) ?_ ?_
  · intro k hk ih
    refine xrun okX11_line hhX11_line [(31, [true, true, true, true, true, true, false, false, false, false])] 60 ?_
    have eB : nI (S.d.nA ^ k) * I 27 10 = nI (S.d.nA ^ (k + 1)) := by rw [hA, nI_mul, Nat.pow_succ]
    (first | (refine xbr_f ?_ ?_; (focus ((simp (disch := omega) only [ix_lt, ix_le, ix_eq, ix_0, nI_clamp, nI_toInt, ng_T, nI_add, nI_mul, nI_sub', Int.neg_zero, not_false_eq_true, not_true_eq_false, hA] <;> omega); done))) | (refine xbr_t ?_ ?_; (focus ((simp (disch := omega) only [ix_lt, ix_le, ix_eq, ix_0, nI_clamp, nI_toInt, ng_T, nI_add, nI_mul, nI_sub', Int.neg_zero, not_false_eq_true, not_true_eq_false, hA] <;> omega); done))) | refine ⟨Or.inl rfl, ?_⟩ | refine ⟨Or.inr rfl, ?_⟩ | (refine ⟨?_, ?_⟩; (focus ((try simp (disch := omega) only [hA, nI_mul, nI_add, nI_sub']); exact in_nI (by omega) (by omega)))))
    refine xgo_eq ih ?_ rfl rfl
    ((repeat' (first | (with_reducible rfl) | exact xv_nil | refine xv_cons ?_ ?_ | refine xv_i ?_ | refine xv_l ?_)) <;> (simp (disch := omega) only [↓reduceIte, Bool.false_eq_true, Nat.one_mul, Nat.zero_mul, Nat.or_zero, Nat.add_zero, Nat.zero_add, Bool.toNat_true, Bool.toNat_false, shl_n, shr_n, fa_and, fa_or, nx_xor, nI_add, nI_mul, nI_sub', and_1, and_7, and_3', and_15, eB]))
  · refine xrun okX11_line hhX11_line [(65, [true, true, true, true, true, true, true, true, false, false])] 60 ?_
    (first | (refine xbr_f ?_ ?_; (focus ((simp (disch := omega) only [ix_lt, ix_le, ix_eq, ix_0, nI_clamp, nI_toInt, ng_T, nI_add, nI_mul, nI_sub', Int.neg_zero, not_false_eq_true, not_true_eq_false, hA] <;> omega); done))) | (refine xbr_t ?_ ?_; (focus ((simp (disch := omega) only [ix_lt, ix_le, ix_eq, ix_0, nI_clamp, nI_toInt, ng_T, nI_add, nI_mul, nI_sub', Int.neg_zero, not_false_eq_true, not_true_eq_false, hA] <;> omega); done))) | refine ⟨Or.inl rfl, ?_⟩ | refine ⟨Or.inr rfl, ?_⟩ | (refine ⟨?_, ?_⟩; (focus ((try simp (disch := omega) only [hA, nI_mul, nI_add, nI_sub']); exact in_nI (by omega) (by omega)))))
    rw [hT']
    exact main
