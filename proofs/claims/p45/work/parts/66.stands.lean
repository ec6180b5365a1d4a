/-! STANDS: nobody takes what is refused, nor at home, nor elsewhere -/
theorem likeR_v {S S' : ST} {a m : Nat} {o : Int32} (h : likeR S (nI a) (nI m) o S') (hd : S.d.ok) (ha : a < S.d.nA) (hm : m < 16) : o = nI (lkN (kdN S.d a) (meN S.D.X a) m) ∧ S' = S := by
  have h5 := hd.a4
  rcases h with ⟨n, -⟩ | ⟨a', m', e1, h1, e2, h2, h3⟩
  · exact absurd ⟨ibB_n ha (by omega), ibB_n hm (by decide)⟩ n
  · obtain rfl := nI_j (by omega) (by omega) e1
    obtain rfl := nI_j (by omega) (by omega) e2
    exact h3
theorem whoR_v {S S' : ST} {m : Nat} {o : Int32} (h : whoR S (nI m) o S') (hm : m < 16) : o = nI (bsN (fun i => wtB S.d S.D.X i m) S.d.nA) ∧ S' = S := by
  rcases h with ⟨n, -⟩ | ⟨m', e2, h2, h3⟩
  · rw [ibB_n hm (by decide)] at n
    cases n
  · obtain rfl := nI_j (by omega) (by omega) e2
    exact h3
theorem tb_bs {f : Nat → Bool} {n i : Nat} (hi : i < n) : tbB (bsN f n) i = f i := by
  rw [tbB_bit, bsN_bit]
  simp [hi]
/-- what is left for an ass -/
def lfB (d : PD) (X i g t : Nat) : Bool := decide (plN X t = inN X i) && (!hmB d X t && !tbB g t)
theorem lf_t {d : PD} {X i g t : Nat} (h : lfB d X i g t = true) : plN X t = inN X i ∧ ¬ plN X t = hmN d t ∧ tbB g t = false := by
  unfold lfB at h
  rw [Bool.and_eq_true, Bool.and_eq_true] at h
  obtain ⟨h1, h2, h3⟩ := h
  refine ⟨of_decide_eq_true h1, ?_, by simpa using h3⟩
  have h2 : hmB d X t = false := by simpa using h2
  exact of_decide_eq_false h2
theorem lf_pu {d : PD} {X i g t : Nat} (h : lfB d X i g t = true) : puN d X i g t = if wtB d X i (mkN X t) then lkN (kdN d i) (meN X i) (mkN X t) else 0 := by
  obtain ⟨h1, h2, h3⟩ := lf_t h
  rw [puN_g h3, pullN_of h1 h2]
  unfold wtB wtN
  by_cases q : lsN (kdN d i) ≤ lkN (kdN d i) (meN X i) (mkN X t)
  · rw [if_neg (by omega), if_pos (decide_eq_true q)]
  · rw [if_pos (by omega), if_neg (by rw [decide_eq_false q]; decide)]
theorem co_ch {d : PD} {X i : Nat} (hi : i < 4) : coN d X 15 i = (chN d X i (tkN d X 27 15 i).2 d.nL).1 := if_pos (tb_15 i hi)
theorem st_0 {d : PD} {X i t : Nat} (hi : i < 4) (ht : t < d.nL) (hc : coN d X 15 i = 0) (h : lfB d X i (tkN d X 27 15 i).2 t = true) : wtB d X i (mkN X t) = false := by
  rw [co_ch hi] at hc
  rcases chN_sp d X i (tkN d X 27 15 i).2 d.nL with ⟨_, _, q⟩ | ⟨l, q, _⟩
  · have := q t ht
    rw [lf_pu h] at this
    cases hw : wtB d X i (mkN X t)
    · rfl
    · rw [hw, if_pos rfl] at this
      have h2 := lsN_1 (kdN d i)
      have h3 : lsN (kdN d i) ≤ lkN (kdN d i) (meN X i) (mkN X t) := of_decide_eq_true hw
      omega
  · omega
theorem st_n {d : PD} {X i t l : Nat} (hi : i < 4) (ht : t < d.nL) (hc : coN d X 15 i = l + 1) (hl : t ≠ l) (h : lfB d X i (tkN d X 27 15 i).2 t = true) : lkN (kdN d i) (meN X i) (mkN X t) < lkN (kdN d i) (meN X i) (mkN X l) ∨ (lkN (kdN d i) (meN X i) (mkN X t) = lkN (kdN d i) (meN X i) (mkN X l) ∧ l < t) := by
  rw [co_ch hi] at hc
  rcases chN_sp d X i (tkN d X 27 15 i).2 d.nL with ⟨q, _⟩ | ⟨l', q, q1, q2, q3, q4⟩
  · omega
  · obtain rfl : l' = l := by omega
    obtain ⟨p1, p2⟩ := puN_p q3
    have h5 := q4 t ht
    rw [p2] at q3 h5
    obtain ⟨_, _, p3, p4⟩ := pullN_p q3
    rw [p4, lf_pu h] at h5
    cases hw : wtB d X i (mkN X t)
    · have h3 : ¬ lsN (kdN d i) ≤ lkN (kdN d i) (meN X i) (mkN X t) := of_decide_eq_false hw
      left
      omega
    · rw [hw, if_pos rfl] at h5
      by_cases e : t < l'
      · exact Or.inl (h5.2 e)
      · have := h5.1
        omega
theorem st_s {d : PD} {X i l : Nat} (hi : i < 4) (hc : coN d X 15 i = l + 1) : lfB d X i (tkN d X 27 15 i).2 l = true ∧ wtB d X i (mkN X l) = true := by
  obtain ⟨_, _, q3, q4, q5, q6, _⟩ := co_l hi hc
  refine ⟨?_, decide_eq_true q6⟩
  unfold lfB
  rw [decide_eq_true q4, show hmB d X l = false from decide_eq_false q5]
  have : tbB (tkN d X 27 15 i).2 l = false := by
    rw [tbB_bit]
    cases hb : (tkN d X 27 15 i).2.testBit l
    · rfl
    · obtain ⟨j, hj, e⟩ := (tk27_bit X 15 i (by omega) l).mp hb
      exact absurd e (q3 j hj)
  rw [this]
  rfl
theorem oa_3 {d : PD} (hd : d.ok) {X i : Nat} (hi : i < d.nA) : oaI d X i 3 = cI (coN d X 15 i) := by
  show cI (getN (tkN d X 27 15 d.nA).1 (3 * i) 3) = _
  rw [tc_get hd, tc_co hi]
theorem fin_tb {d : PD} (hd : d.ok) {X l : Nat} : tbB (tkN d X 27 15 d.nA).2 l = decide (0 < tkrN (tkN d X 27 15 d.nA).1 l) := by
  rw [tbB_bit]
  rcases hb : tkrN (tkN d X 27 15 d.nA).1 l with _ | i
  · rw [decide_eq_false (by omega)]
    cases hc : (tkN d X 27 15 d.nA).2.testBit l
    · rfl
    · obtain ⟨j, hj, e⟩ := (tk27_bit X 15 d.nA hd.a4 l).mp hc
      exact absurd ((tc_co hj).trans e) ((tkr_0 hd).mp hb j)
  · rw [decide_eq_true (by omega)]
    have h := (tkr_iff hd).mp hb
    have h1 := (tc_l hd h).1
    exact (tk27_bit X 15 d.nA hd.a4 l).mpr ⟨i, h1, (tc_co h1).symm.trans h⟩
def csL_stands : xCs := [(mX10_count, sX10_count), (mL_of, sL_of), (mL_at, sL_at), (mX10_like, sX10_like), (mX10_who, sX10_who)]
theorem okL_stands : xOkM mL_stands csL_stands := ⟨dL_stands, by decide +kernel, by decide +kernel, ⟨wdL_71, wdL_71, wdL_136, wdL_140, wdL_136, wdL_140, wdL_140, wdL_143, wdL_140, wdL_145, wdL_140, wdL_140, wdL_143, wdL_140, wdL_143, wdL_140, wdL_140, wdL_140, wdL_140, wdL_71, wdL_140, trivial⟩⟩
theorem hhL_stands : ∀ q ∈ csL_stands, xHd q.1 := xall1 hX10_count (xall1 hL_of (xall1 hL_at (xall1 hX10_like (xall1 hX10_who (xall0)))))
theorem kkL_stands : ∀ q ∈ csL_stands, ∀ l, xCon l q.1 q.2 := xall1 kX10_count (xall1 kL_of (xall1 kL_at (xall1 kX10_like (xall1 kX10_who (xall0)))))
def sL_stands : xSpec := xRg7 fun as I L Q => ∃ (S : ST), as = [.ref 1, .ref 27] ∧ Lq S I L ∧ wok S I ∧ ∀ I' L', frC I L I' L' → Lq S I' L' → Q (some (.int (nI 1))) I' L'
set_option maxRecDepth 100000 in
theorem kL_stands : ∀ l, xCon l mL_stands sL_stands := by
  refine xcon_of okL_stands hL_stands rfl hhL_stands kkL_stands ?_
  rintro as n0 I L P Q ⟨hn9, rfl, S, rfl, hC, ⟨w0, w1⟩, hQ⟩
  obtain ⟨e9, rfl⟩ := xe7 hn9
  refine ⟨Nat.le_of_ble_eq_true rfl, ?_⟩
  have hd : S.d.ok := hC.ok.d
  have h4 : S.d.nA ≤ 4 := hd.a4
  have h5 : S.d.nL ≤ 5 := hd.l5
  have hz : S.D.z ≤ 41 := hC.ok.D.1
  have hb : pcf 64 S.D.b ≤ S.D.z - 1 := pcf_lt hC.ok.b
  obtain ⟨v, hC⟩ := hC
  refine xrun okL_stands hhL_stands [(24, [true, true, true, true, true, false, false, false, false, false])] 60 ?_
  refine ⟨rfl, rfl, S.wT v, _, rfl, hC, fun q => ct_no (by decide) q, fun j e hj => ?_⟩
  obtain rfl := nI_j (by omega) (by omega) e
  refine ⟨rfl, rfl, S.wT v, _, rfl, hC, fun q => ct_no (by decide) q, fun j e hj => ?_⟩
  obtain rfl := nI_j (by omega) (by omega) e
  have c2 : cntI (S.wT v) 2 = nI (pcf 64 S.D.b) := rfl
  have c3 : cntI (S.wT v) 3 = nI (S.D.z - 1) := rfl
  (first | (refine xbr_f ?_ ?_; (focus ((simp (disch := omega) only [ix_lt, ix_le, ix_eq, ix_0, nI_clamp, nI_toInt, ng_T, nI_add, nI_mul, nI_sub', Int.neg_zero, not_false_eq_true, not_true_eq_false, c2, c3] <;> omega); done))) | (refine xbr_t ?_ ?_; (focus ((simp (disch := omega) only [ix_lt, ix_le, ix_eq, ix_0, nI_clamp, nI_toInt, ng_T, nI_add, nI_mul, nI_sub', Int.neg_zero, not_false_eq_true, not_true_eq_false, c2, c3] <;> omega); done))) | refine ⟨Or.inl rfl, ?_⟩ | refine ⟨Or.inr rfl, ?_⟩ | (refine ⟨?_, ?_⟩; (focus ((try simp (disch := omega) only [c2, c3, nI_mul, nI_add, nI_sub']); exact in_nI (by omega) (by omega)))))
  refine xlpW (M := mL_stands) (cs := csL_stands) (pc := 24) S.d.nA (fun i => [some (.ref 1), some (.ref 27), some (.int (nI (tkN S.d S.D.X 27 15 i).2)), some (.int (nI 1)), some (.int (nI i)), none, none, none, none, none]) (fun i I' L' => Lq S I' L' ∧ frC I L I' L') ?_ ?_ ⟨⟨v, hC⟩, frC_0 _ _⟩
  · rintro i hi I2 L2 ⟨hC2, hf2⟩ ih
    have e0 : I2 27 0 = nI S.d.nA := by rw [f27 hf2]; exact w0
    have hg := tk27_32 hd S.D.X 15 i
    have hcl := coN_le S.d S.D.X 15 i
    refine xrun okL_stands hhL_stands [(24, [true, true, true, true, true, false, false, false, false, false]), (48, [true, true, true, true, true, true, true, false, false, false])] 60 ?_
    (first | (refine xbr_f ?_ ?_; (focus ((simp (disch := omega) only [ix_lt, ix_le, ix_eq, ix_0, nI_clamp, nI_toInt, ng_T, nI_add, nI_mul, nI_sub', Int.neg_zero, not_false_eq_true, not_true_eq_false] <;> omega); done))) | (refine xbr_t ?_ ?_; (focus ((simp (disch := omega) only [ix_lt, ix_le, ix_eq, ix_0, nI_clamp, nI_toInt, ng_T, nI_add, nI_mul, nI_sub', Int.neg_zero, not_false_eq_true, not_true_eq_false] <;> omega); done))) | refine ⟨Or.inl rfl, ?_⟩ | refine ⟨Or.inr rfl, ?_⟩ | (refine ⟨?_, ?_⟩; (focus (exact in_nI (by omega) (by omega)))))
    (first | (refine xbr_f ?_ ?_; (focus ((simp (disch := omega) only [ix_lt, ix_le, ix_eq, ix_0, nI_clamp, nI_toInt, ng_T, nI_add, nI_mul, nI_sub', Int.neg_zero, not_false_eq_true, not_true_eq_false, e0] <;> omega); done))) | (refine xbr_t ?_ ?_; (focus ((simp (disch := omega) only [ix_lt, ix_le, ix_eq, ix_0, nI_clamp, nI_toInt, ng_T, nI_add, nI_mul, nI_sub', Int.neg_zero, not_false_eq_true, not_true_eq_false, e0] <;> omega); done))) | refine ⟨Or.inl rfl, ?_⟩ | refine ⟨Or.inr rfl, ?_⟩ | (refine ⟨?_, ?_⟩; (focus ((try simp (disch := omega) only [e0, nI_mul, nI_add, nI_sub']); exact in_nI (by omega) (by omega)))))
    (first | (refine xbr_f ?_ ?_; (focus ((simp (disch := omega) only [ix_lt, ix_le, ix_eq, ix_0, nI_clamp, nI_toInt, ng_T, nI_add, nI_mul, nI_sub', Int.neg_zero, not_false_eq_true, not_true_eq_false] <;> omega); done))) | (refine xbr_t ?_ ?_; (focus ((simp (disch := omega) only [ix_lt, ix_le, ix_eq, ix_0, nI_clamp, nI_toInt, ng_T, nI_add, nI_mul, nI_sub', Int.neg_zero, not_false_eq_true, not_true_eq_false] <;> omega); done))) | refine ⟨Or.inl rfl, ?_⟩ | refine ⟨Or.inr rfl, ?_⟩ | (refine ⟨?_, ?_⟩; (focus (exact in_nI (by omega) (by omega)))))
    refine ⟨rfl, rfl, S, i, 3, rfl, hi, by decide, hC2, fun I3 L3 hf3 hC3 => ?_⟩
    rw [oa_3 hd hi]
    refine xgo_eq (xlpW (M := mL_stands) (cs := csL_stands) (pc := 48) S.d.nL (fun t => [some (.ref 1), some (.ref 27), some (.int (nI (tkN S.d S.D.X 27 15 i).2)), some (.int (nI 1)), some (.int (nI i)), some (.int (cI (coN S.d S.D.X 15 i))), some (.int (nI t)), none, none, none]) (fun t I' L' => Lq S I' L' ∧ frC I L I' L') ?_ ?_ ⟨hC3, frC_t hf2 hf3⟩) rfl rfl rfl
    · rintro t ht I4 L4 ⟨hC4, hf4⟩ iht
      have e1 : I4 27 1 = nI S.d.nL := by rw [f27 hf4]; exact w1
      have hmk := mkN_16 S.D.X t
      have hlk := lkN_le (k := kdN S.d i) (m := meN S.D.X i) (x := mkN S.D.X t) (meN_16 S.D.X i)
      -- behind 'would'
      have h143 : ∀ I' L', Lq S I' L' → frC I L I' L' → xGo mL_stands csL_stands 143 Q [some (.ref 1), some (.ref 27), some (.int (nI (tkN S.d S.D.X 27 15 i).2)), some (.int (nI 1)), some (.int (nI i)), some (.int (cI (coN S.d S.D.X 15 i))), some (.int (nI t)), some (.int (bI (lfB S.d S.D.X i (tkN S.d S.D.X 27 15 i).2 t))), some (.int (nI (lkN (kdN S.d i) (meN S.D.X i) (mkN S.D.X t)))), none] [.int (bI (wtB S.d S.D.X i (mkN S.D.X t)))] 0 (e9 + 27) I' L' xP0 := by
        intro I5 L5 hC5 hf5
        refine xrun okL_stands hhL_stands [(48, [true, true, true, true, true, true, true, false, false, false])] 60 ?_
        rcases hc : coN S.d S.D.X 15 i with _ | l
        · rw [cI_0]
          (first | (refine xbr_f ?_ ?_; (focus ((simp (disch := omega) only [ix_lt, ix_le, ix_eq, ix_0, nI_clamp, nI_toInt, ng_T, nI_add, nI_mul, nI_sub', Int.neg_zero, not_false_eq_true, not_true_eq_false] <;> omega); done))) | (refine xbr_t ?_ ?_; (focus ((simp (disch := omega) only [ix_lt, ix_le, ix_eq, ix_0, nI_clamp, nI_toInt, ng_T, nI_add, nI_mul, nI_sub', Int.neg_zero, not_false_eq_true, not_true_eq_false] <;> omega); done))) | refine ⟨Or.inl rfl, ?_⟩ | refine ⟨Or.inr rfl, ?_⟩ | (refine ⟨?_, ?_⟩; (focus (exact in_nI (by omega) (by omega)))))
          cases hl : lfB S.d S.D.X i (tkN S.d S.D.X 27 15 i).2 t
          · (first | refine xbr_t (by decide) ?_ | refine xbr_f (by decide) ?_)
            refine xgo_eq (iht _ _ ⟨hC5, hf5⟩) ?_ rfl rfl
            ((repeat' (first | (with_reducible rfl) | exact xv_nil | refine xv_cons ?_ ?_ | refine xv_i ?_ | refine xv_l ?_)) <;> (simp (disch := omega) only [↓reduceIte, Bool.false_eq_true, Nat.one_mul, Nat.zero_mul, Nat.or_zero, Nat.add_zero, Nat.zero_add, Bool.toNat_true, Bool.toNat_false, shl_n, shr_n, fa_and, fa_or, nx_xor, nI_add, nI_mul, nI_sub', and_1, and_7, and_3', and_15, hc, cI_0]))
          · (first | refine xbr_t (by decide) ?_ | refine xbr_f (by decide) ?_)
            have hw := st_0 (by omega) ht hc hl
            rw [hw]
            (first | refine xbr_t (by decide) ?_ | refine xbr_f (by decide) ?_)
            (first | refine xbr_t (by decide) ?_ | refine xbr_f (by decide) ?_)
            refine xgo_eq (iht _ _ ⟨hC5, hf5⟩) ?_ rfl rfl
            ((repeat' (first | (with_reducible rfl) | exact xv_nil | refine xv_cons ?_ ?_ | refine xv_i ?_ | refine xv_l ?_)) <;> (simp (disch := omega) only [↓reduceIte, Bool.false_eq_true, Nat.one_mul, Nat.zero_mul, Nat.or_zero, Nat.add_zero, Nat.zero_add, Bool.toNat_true, Bool.toNat_false, shl_n, shr_n, fa_and, fa_or, nx_xor, nI_add, nI_mul, nI_sub', and_1, and_7, and_3', and_15, hc, cI_0]))
        · rw [cI_s]
          have hln : l < S.d.nL := by omega
          by_cases htl : t = l
          · subst htl
            obtain ⟨q1, q2⟩ := st_s (by omega) hc
            rw [q1, q2]
            (first | (refine xbr_f ?_ ?_; (focus ((simp (disch := omega) only [ix_lt, ix_le, ix_eq, ix_0, nI_clamp, nI_toInt, ng_T, nI_add, nI_mul, nI_sub', Int.neg_zero, not_false_eq_true, not_true_eq_false] <;> omega); done))) | (refine xbr_t ?_ ?_; (focus ((simp (disch := omega) only [ix_lt, ix_le, ix_eq, ix_0, nI_clamp, nI_toInt, ng_T, nI_add, nI_mul, nI_sub', Int.neg_zero, not_false_eq_true, not_true_eq_false] <;> omega); done))) | refine ⟨Or.inl rfl, ?_⟩ | refine ⟨Or.inr rfl, ?_⟩ | (refine ⟨?_, ?_⟩; (focus (exact in_nI (by omega) (by omega)))))
            (first | refine xbr_t (by decide) ?_ | refine xbr_f (by decide) ?_)
            (first | refine xbr_t (by decide) ?_ | refine xbr_f (by decide) ?_)
            refine ⟨rfl, rfl, S, t, 4, rfl, ht, by decide, hC5, fun I6 L6 hf6 hC6 => ?_⟩
            have e4 : olI S.d S.D.X t 4 = nI i := by
              show cI (tkrN (tkN S.d S.D.X 27 15 S.d.nA).1 t) = _
              rw [(tkr_iff hd).mpr ((tc_co hi).trans hc), cI_s]
            rw [e4]
            refine xbr_t rfl ?_
            refine xgo_eq (iht _ _ ⟨hC6, frC_t hf5 hf6⟩) ?_ rfl rfl
            ((repeat' (first | (with_reducible rfl) | exact xv_nil | refine xv_cons ?_ ?_ | refine xv_i ?_ | refine xv_l ?_)) <;> (simp (disch := omega) only [↓reduceIte, Bool.false_eq_true, Nat.one_mul, Nat.zero_mul, Nat.or_zero, Nat.add_zero, Nat.zero_add, Bool.toNat_true, Bool.toNat_false, shl_n, shr_n, fa_and, fa_or, nx_xor, nI_add, nI_mul, nI_sub', and_1, and_7, and_3', and_15, hc, cI_s]))
          · (first | (refine xbr_f ?_ ?_; (focus ((simp (disch := omega) only [ix_lt, ix_le, ix_eq, ix_0, nI_clamp, nI_toInt, ng_T, nI_add, nI_mul, nI_sub', Int.neg_zero, not_false_eq_true, not_true_eq_false] <;> omega); done))) | (refine xbr_t ?_ ?_; (focus ((simp (disch := omega) only [ix_lt, ix_le, ix_eq, ix_0, nI_clamp, nI_toInt, ng_T, nI_add, nI_mul, nI_sub', Int.neg_zero, not_false_eq_true, not_true_eq_false] <;> omega); done))) | refine ⟨Or.inl rfl, ?_⟩ | refine ⟨Or.inr rfl, ?_⟩ | (refine ⟨?_, ?_⟩; (focus (exact in_nI (by omega) (by omega)))))
            cases hl : lfB S.d S.D.X i (tkN S.d S.D.X 27 15 i).2 t
            · (first | refine xbr_t (by decide) ?_ | refine xbr_f (by decide) ?_)
              refine xgo_eq (iht _ _ ⟨hC5, hf5⟩) ?_ rfl rfl
              ((repeat' (first | (with_reducible rfl) | exact xv_nil | refine xv_cons ?_ ?_ | refine xv_i ?_ | refine xv_l ?_)) <;> (simp (disch := omega) only [↓reduceIte, Bool.false_eq_true, Nat.one_mul, Nat.zero_mul, Nat.or_zero, Nat.add_zero, Nat.zero_add, Bool.toNat_true, Bool.toNat_false, shl_n, shr_n, fa_and, fa_or, nx_xor, nI_add, nI_mul, nI_sub', and_1, and_7, and_3', and_15, hc, cI_s]))
            · (first | refine xbr_t (by decide) ?_ | refine xbr_f (by decide) ?_)
              have hml := mkN_16 S.D.X l
              have hll := lkN_le (k := kdN S.d i) (m := meN S.D.X i) (x := mkN S.D.X l) (meN_16 S.D.X i)
              have hst := st_n (by omega) ht hc htl hl
              (first | (refine xbr_f ?_ ?_; (focus ((simp (disch := omega) only [ix_lt, ix_le, ix_eq, ix_0, nI_clamp, nI_toInt, ng_T, nI_add, nI_mul, nI_sub', Int.neg_zero, not_false_eq_true, not_true_eq_false] <;> omega); done))) | (refine xbr_t ?_ ?_; (focus ((simp (disch := omega) only [ix_lt, ix_le, ix_eq, ix_0, nI_clamp, nI_toInt, ng_T, nI_add, nI_mul, nI_sub', Int.neg_zero, not_false_eq_true, not_true_eq_false] <;> omega); done))) | refine ⟨Or.inl rfl, ?_⟩ | refine ⟨Or.inr rfl, ?_⟩ | (refine ⟨?_, ?_⟩; (focus (exact in_nI (by omega) (by omega)))))
              refine ⟨rfl, rfl, S, l, 0, rfl, hln, by decide, hC5, fun I6 L6 hf6 hC6 => ?_⟩
              obtain ⟨v6, hC6⟩ := hC6
              refine ⟨rfl, rfl, S.wT v6, _, _, rfl, hC6, fun o S7 I7 L7 hr7 hf7 hC7 => ?_⟩
              obtain ⟨rfl, rfl⟩ := likeR_v hr7 hd hi hml
              by_cases hlt : lkN (kdN S.d i) (meN S.D.X i) (mkN S.D.X t) < lkN (kdN S.d i) (meN S.D.X i) (mkN S.D.X l)
              · refine xbr_t (by rw [nI_ltI (by omega) (by show lkN (kdN S.d i) (meN S.D.X i) (mkN S.D.X l) < 2 ^ 31; omega)]; exact hlt) ?_
                refine xgo_eq (iht _ _ ⟨⟨v6, hC7⟩, frC_t hf5 (frC_t hf6 hf7)⟩) ?_ rfl rfl
                ((repeat' (first | (with_reducible rfl) | exact xv_nil | refine xv_cons ?_ ?_ | refine xv_i ?_ | refine xv_l ?_)) <;> (simp (disch := omega) only [↓reduceIte, Bool.false_eq_true, Nat.one_mul, Nat.zero_mul, Nat.or_zero, Nat.add_zero, Nat.zero_add, Bool.toNat_true, Bool.toNat_false, shl_n, shr_n, fa_and, fa_or, nx_xor, nI_add, nI_mul, nI_sub', and_1, and_7, and_3', and_15, hc, cI_s]))
              · obtain ⟨heq, hgt⟩ : lkN (kdN S.d i) (meN S.D.X i) (mkN S.D.X t) = lkN (kdN S.d i) (meN S.D.X i) (mkN S.D.X l) ∧ l < t := by
                  rcases hst with q | q
                  · exact absurd q hlt
                  · exact q
                refine xbr_f (by rw [nI_ltI (by omega) (by show lkN (kdN S.d i) (meN S.D.X i) (mkN S.D.X l) < 2 ^ 31; omega)]; exact hlt) ?_
                refine ⟨rfl, rfl, S, l, 0, rfl, hln, by decide, ⟨v6, hC7⟩, fun I8 L8 hf8 hC8 => ?_⟩
                obtain ⟨v8, hC8⟩ := hC8
                refine ⟨rfl, rfl, S.wT v8, _, _, rfl, hC8, fun o S9 I9 L9 hr9 hf9 hC9 => ?_⟩
                obtain ⟨rfl, rfl⟩ := likeR_v hr9 hd hi hml
                refine xbr_t (congrArg nI heq) ?_
                (first | (refine xbr_f ?_ ?_; (focus ((simp (disch := omega) only [ix_lt, ix_le, ix_eq, ix_0, nI_clamp, nI_toInt, ng_T, nI_add, nI_mul, nI_sub', Int.neg_zero, not_false_eq_true, not_true_eq_false] <;> omega); done))) | (refine xbr_t ?_ ?_; (focus ((simp (disch := omega) only [ix_lt, ix_le, ix_eq, ix_0, nI_clamp, nI_toInt, ng_T, nI_add, nI_mul, nI_sub', Int.neg_zero, not_false_eq_true, not_true_eq_false] <;> omega); done))) | refine ⟨Or.inl rfl, ?_⟩ | refine ⟨Or.inr rfl, ?_⟩ | (refine ⟨?_, ?_⟩; (focus (exact in_nI (by omega) (by omega)))))
                refine xgo_eq (iht _ _ ⟨⟨v8, hC9⟩, frC_t hf5 (frC_t hf6 (frC_t hf7 (frC_t hf8 hf9)))⟩) ?_ rfl rfl
                ((repeat' (first | (with_reducible rfl) | exact xv_nil | refine xv_cons ?_ ?_ | refine xv_i ?_ | refine xv_l ?_)) <;> (simp (disch := omega) only [↓reduceIte, Bool.false_eq_true, Nat.one_mul, Nat.zero_mul, Nat.or_zero, Nat.add_zero, Nat.zero_add, Bool.toNat_true, Bool.toNat_false, shl_n, shr_n, fa_and, fa_or, nx_xor, nI_add, nI_mul, nI_sub', and_1, and_7, and_3', and_15, hc, cI_s]))
      -- behind 'left'
      have h101 : ∀ I' L', Lq S I' L' → frC I L I' L' → xGo mL_stands csL_stands 101 Q [some (.ref 1), some (.ref 27), some (.int (nI (tkN S.d S.D.X 27 15 i).2)), some (.int (nI 1)), some (.int (nI i)), some (.int (cI (coN S.d S.D.X 15 i))), some (.int (nI t)), none, none, none] [.int (bI (lfB S.d S.D.X i (tkN S.d S.D.X 27 15 i).2 t))] 0 (e9 + 27) I' L' xP0 := by
        intro I5 L5 hC5 hf5
        refine xrun okL_stands hhL_stands [(143, [true, true, true, true, true, true, true, true, true, false])] 60 ?_
        refine ⟨rfl, rfl, S, t, 0, rfl, ht, by decide, hC5, fun I6 L6 hf6 hC6 => ?_⟩
        obtain ⟨v6, hC6⟩ := hC6
        refine ⟨rfl, rfl, S.wT v6, _, _, rfl, hC6, fun o S7 I7 L7 hr7 hf7 hC7 => ?_⟩
        obtain ⟨rfl, rfl⟩ := likeR_v hr7 hd hi hmk
        refine ⟨rfl, rfl, S, t, 0, rfl, ht, by decide, ⟨v6, hC7⟩, fun I8 L8 hf8 hC8 => ?_⟩
        obtain ⟨v8, hC8⟩ := hC8
        refine ⟨rfl, rfl, S.wT v8, _, rfl, hC8, fun o S9 I9 L9 hr9 hf9 hC9 => ?_⟩
        obtain ⟨rfl, rfl⟩ := whoR_v hr9 hmk
        have hB : bsN (fun i => wtB S.d S.D.X i (mkN S.D.X t)) S.d.nA < 16 := Nat.lt_of_lt_of_le (bsN_lt _ _) (Nat.pow_le_pow_right (n := 2) (j := 4) (by decide) h4)
        have eb : (nI (bsN (fun i => wtB S.d S.D.X i (mkN S.D.X t)) S.d.nA) >>> (nI i &&& 31)) &&& nI 1 = bI (wtB S.d S.D.X i (mkN S.D.X t)) := by rw [bit_i (by omega) (by omega), tb_bs hi]
        have hfr := frC_t hf5 (frC_t hf6 (frC_t hf7 (frC_t hf8 hf9)))
        have go := h143 I9 L9 ⟨v8, hC9⟩ hfr
        cases hw : wtB S.d S.D.X i (mkN S.D.X t)
        · rw [hw] at go eb
          have eb2 : ¬ (nI (bsN (fun i => wtB S.d S.D.X i (mkN S.D.X t)) S.d.nA) >>> (nI i &&& 31)) &&& nI 1 = nI 1 := by rw [eb]; decide
          refine xbr_f eb2 ?_
          exact go
        · rw [hw] at go eb
          refine xbr_t eb ?_
          exact go
      refine xrun okL_stands hhL_stands [(101, [true, true, true, true, true, true, true, false, false, false])] 60 ?_
      (first | (refine xbr_f ?_ ?_; (focus ((simp (disch := omega) only [ix_lt, ix_le, ix_eq, ix_0, nI_clamp, nI_toInt, ng_T, nI_add, nI_mul, nI_sub', Int.neg_zero, not_false_eq_true, not_true_eq_false] <;> omega); done))) | (refine xbr_t ?_ ?_; (focus ((simp (disch := omega) only [ix_lt, ix_le, ix_eq, ix_0, nI_clamp, nI_toInt, ng_T, nI_add, nI_mul, nI_sub', Int.neg_zero, not_false_eq_true, not_true_eq_false] <;> omega); done))) | refine ⟨Or.inl rfl, ?_⟩ | refine ⟨Or.inr rfl, ?_⟩ | (refine ⟨?_, ?_⟩; (focus (exact in_nI (by omega) (by omega)))))
      (first | (refine xbr_f ?_ ?_; (focus ((simp (disch := omega) only [ix_lt, ix_le, ix_eq, ix_0, nI_clamp, nI_toInt, ng_T, nI_add, nI_mul, nI_sub', Int.neg_zero, not_false_eq_true, not_true_eq_false, e1] <;> omega); done))) | (refine xbr_t ?_ ?_; (focus ((simp (disch := omega) only [ix_lt, ix_le, ix_eq, ix_0, nI_clamp, nI_toInt, ng_T, nI_add, nI_mul, nI_sub', Int.neg_zero, not_false_eq_true, not_true_eq_false, e1] <;> omega); done))) | refine ⟨Or.inl rfl, ?_⟩ | refine ⟨Or.inr rfl, ?_⟩ | (refine ⟨?_, ?_⟩; (focus ((try simp (disch := omega) only [e1, nI_mul, nI_add, nI_sub']); exact in_nI (by omega) (by omega)))))
      (first | (refine xbr_f ?_ ?_; (focus ((simp (disch := omega) only [ix_lt, ix_le, ix_eq, ix_0, nI_clamp, nI_toInt, ng_T, nI_add, nI_mul, nI_sub', Int.neg_zero, not_false_eq_true, not_true_eq_false] <;> omega); done))) | (refine xbr_t ?_ ?_; (focus ((simp (disch := omega) only [ix_lt, ix_le, ix_eq, ix_0, nI_clamp, nI_toInt, ng_T, nI_add, nI_mul, nI_sub', Int.neg_zero, not_false_eq_true, not_true_eq_false] <;> omega); done))) | refine ⟨Or.inl rfl, ?_⟩ | refine ⟨Or.inr rfl, ?_⟩ | (refine ⟨?_, ?_⟩; (focus (exact in_nI (by omega) (by omega)))))
      refine ⟨rfl, rfl, S, t, 1, rfl, ht, by decide, hC4, fun I5 L5 hf5 hC5 => ?_⟩
      refine ⟨rfl, rfl, S, i, 2, rfl, hi, by decide, hC5, fun I6 L6 hf6 hC6 => ?_⟩
      have b1 := plN_8 S.D.X t
      have b2 := inN_8 S.D.X i
      have o1 : olI S.d S.D.X t 1 = nI (plN S.D.X t) := rfl
      have o2 : oaI S.d S.D.X i 2 = nI (inN S.D.X i) := rfl
      have o3 : olI S.d S.D.X t 3 = bI (hmB S.d S.D.X t) := rfl
      have hf46 := frC_t hf4 (frC_t hf5 hf6)
      have go := h101 I6 L6 hC6 hf46
      by_cases hpi : plN S.D.X t = inN S.D.X i
      · (first | (refine xbr_f ?_ ?_; (focus ((simp (disch := omega) only [ix_lt, ix_le, ix_eq, ix_0, nI_clamp, nI_toInt, ng_T, nI_add, nI_mul, nI_sub', Int.neg_zero, not_false_eq_true, not_true_eq_false, o1, o2] <;> omega); done))) | (refine xbr_t ?_ ?_; (focus ((simp (disch := omega) only [ix_lt, ix_le, ix_eq, ix_0, nI_clamp, nI_toInt, ng_T, nI_add, nI_mul, nI_sub', Int.neg_zero, not_false_eq_true, not_true_eq_false, o1, o2] <;> omega); done))) | refine ⟨Or.inl rfl, ?_⟩ | refine ⟨Or.inr rfl, ?_⟩ | (refine ⟨?_, ?_⟩; (focus ((try simp (disch := omega) only [o1, o2, nI_mul, nI_add, nI_sub']); exact in_nI (by omega) (by omega)))))
        refine ⟨rfl, rfl, S, t, 3, rfl, ht, by decide, hC6, fun I7 L7 hf7 hC7 => ?_⟩
        rw [o3]
        have go := h101 I7 L7 hC7 (frC_t hf46 hf7)
        cases hh : hmB S.d S.D.X t
        · (first | refine xbr_t (by decide) ?_ | refine xbr_f (by decide) ?_)
          have eb : (nI (tkN S.d S.D.X 27 15 i).2 >>> (nI t &&& 31)) &&& nI 1 = bI (tbB (tkN S.d S.D.X 27 15 i).2 t) := bit_i (by omega) (by omega)
          cases hw : tbB (tkN S.d S.D.X 27 15 i).2 t
          · have e : lfB S.d S.D.X i (tkN S.d S.D.X 27 15 i).2 t = true := by
              unfold lfB
              rw [decide_eq_true hpi, hh, hw]
              rfl
            rw [hw] at eb
            have eb2 : (nI (tkN S.d S.D.X 27 15 i).2 >>> (nI t &&& 31)) &&& nI 1 = 0 := eb
            rw [e] at go
            (first | refine xbr_t eb2 ?_ | refine xbr_f eb2 ?_)
            exact go
          · have e : lfB S.d S.D.X i (tkN S.d S.D.X 27 15 i).2 t = false := by
              unfold lfB
              rw [decide_eq_true hpi, hh, hw]
              rfl
            rw [hw] at eb
            have eb2 : ¬ (nI (tkN S.d S.D.X 27 15 i).2 >>> (nI t &&& 31)) &&& nI 1 = 0 := by rw [eb]; decide
            rw [e] at go
            (first | refine xbr_t eb2 ?_ | refine xbr_f eb2 ?_)
            exact go
        · have e : lfB S.d S.D.X i (tkN S.d S.D.X 27 15 i).2 t = false := by
            unfold lfB
            rw [decide_eq_true hpi, hh]
            rfl
          rw [e] at go
          (first | refine xbr_t (by decide) ?_ | refine xbr_f (by decide) ?_)
          exact go
      · have e : lfB S.d S.D.X i (tkN S.d S.D.X 27 15 i).2 t = false := by
          unfold lfB
          rw [decide_eq_false hpi]
          rfl
        rw [e] at go
        (first | (refine xbr_f ?_ ?_; (focus ((simp (disch := omega) only [ix_lt, ix_le, ix_eq, ix_0, nI_clamp, nI_toInt, ng_T, nI_add, nI_mul, nI_sub', Int.neg_zero, not_false_eq_true, not_true_eq_false, o1, o2] <;> omega); done))) | (refine xbr_t ?_ ?_; (focus ((simp (disch := omega) only [ix_lt, ix_le, ix_eq, ix_0, nI_clamp, nI_toInt, ng_T, nI_add, nI_mul, nI_sub', Int.neg_zero, not_false_eq_true, not_true_eq_false, o1, o2] <;> omega); done))) | refine ⟨Or.inl rfl, ?_⟩ | refine ⟨Or.inr rfl, ?_⟩ | (refine ⟨?_, ?_⟩; (focus ((try simp (disch := omega) only [o1, o2, nI_mul, nI_add, nI_sub']); exact in_nI (by omega) (by omega)))))
        exact go
    · rintro I4 L4 ⟨hC4, hf4⟩
      have e1 : I4 27 1 = nI S.d.nL := by rw [f27 hf4]; exact w1
      refine xrun okL_stands hhL_stands [(24, [true, true, true, true, true, false, false, false, false, false])] 60 ?_
      (first | (refine xbr_f ?_ ?_; (focus ((simp (disch := omega) only [ix_lt, ix_le, ix_eq, ix_0, nI_clamp, nI_toInt, ng_T, nI_add, nI_mul, nI_sub', Int.neg_zero, not_false_eq_true, not_true_eq_false] <;> omega); done))) | (refine xbr_t ?_ ?_; (focus ((simp (disch := omega) only [ix_lt, ix_le, ix_eq, ix_0, nI_clamp, nI_toInt, ng_T, nI_add, nI_mul, nI_sub', Int.neg_zero, not_false_eq_true, not_true_eq_false] <;> omega); done))) | refine ⟨Or.inl rfl, ?_⟩ | refine ⟨Or.inr rfl, ?_⟩ | (refine ⟨?_, ?_⟩; (focus (exact in_nI (by omega) (by omega)))))
      (first | (refine xbr_f ?_ ?_; (focus ((simp (disch := omega) only [ix_lt, ix_le, ix_eq, ix_0, nI_clamp, nI_toInt, ng_T, nI_add, nI_mul, nI_sub', Int.neg_zero, not_false_eq_true, not_true_eq_false, e1] <;> omega); done))) | (refine xbr_t ?_ ?_; (focus ((simp (disch := omega) only [ix_lt, ix_le, ix_eq, ix_0, nI_clamp, nI_toInt, ng_T, nI_add, nI_mul, nI_sub', Int.neg_zero, not_false_eq_true, not_true_eq_false, e1] <;> omega); done))) | refine ⟨Or.inl rfl, ?_⟩ | refine ⟨Or.inr rfl, ?_⟩ | (refine ⟨?_, ?_⟩; (focus ((try simp (disch := omega) only [e1, nI_mul, nI_add, nI_sub']); exact in_nI (by omega) (by omega)))))
      have et := tk27_s S.d S.D.X 15 (p := i) (by omega)
      rcases hc : coN S.d S.D.X 15 i with _ | l
      · rw [hc] at et
        have et : tkN S.d S.D.X 27 15 (i + 1) = tkN S.d S.D.X 27 15 i := et
        rw [cI_0]
        (first | (refine xbr_f ?_ ?_; (focus ((simp (disch := omega) only [ix_lt, ix_le, ix_eq, ix_0, nI_clamp, nI_toInt, ng_T, nI_add, nI_mul, nI_sub', Int.neg_zero, not_false_eq_true, not_true_eq_false] <;> omega); done))) | (refine xbr_t ?_ ?_; (focus ((simp (disch := omega) only [ix_lt, ix_le, ix_eq, ix_0, nI_clamp, nI_toInt, ng_T, nI_add, nI_mul, nI_sub', Int.neg_zero, not_false_eq_true, not_true_eq_false] <;> omega); done))) | refine ⟨Or.inl rfl, ?_⟩ | refine ⟨Or.inr rfl, ?_⟩ | (refine ⟨?_, ?_⟩; (focus (exact in_nI (by omega) (by omega)))))
        refine xgo_eq (ih _ _ ⟨hC4, hf4⟩) ?_ rfl rfl
        ((repeat' (first | (with_reducible rfl) | exact xv_nil | refine xv_cons ?_ ?_ | refine xv_i ?_ | refine xv_l ?_)) <;> (simp (disch := omega) only [↓reduceIte, Bool.false_eq_true, Nat.one_mul, Nat.zero_mul, Nat.or_zero, Nat.add_zero, Nat.zero_add, Bool.toNat_true, Bool.toNat_false, shl_n, shr_n, fa_and, fa_or, nx_xor, nI_add, nI_mul, nI_sub', and_1, and_7, and_3', and_15, et]))
      · rw [hc] at et
        have et : (tkN S.d S.D.X 27 15 (i + 1)).2 = (tkN S.d S.D.X 27 15 i).2 ||| 2 ^ l := by rw [et]; rfl
        rw [cI_s]
        (first | (refine xbr_f ?_ ?_; (focus ((simp (disch := omega) only [ix_lt, ix_le, ix_eq, ix_0, nI_clamp, nI_toInt, ng_T, nI_add, nI_mul, nI_sub', Int.neg_zero, not_false_eq_true, not_true_eq_false] <;> omega); done))) | (refine xbr_t ?_ ?_; (focus ((simp (disch := omega) only [ix_lt, ix_le, ix_eq, ix_0, nI_clamp, nI_toInt, ng_T, nI_add, nI_mul, nI_sub', Int.neg_zero, not_false_eq_true, not_true_eq_false] <;> omega); done))) | refine ⟨Or.inl rfl, ?_⟩ | refine ⟨Or.inr rfl, ?_⟩ | (refine ⟨?_, ?_⟩; (focus (exact in_nI (by omega) (by omega)))))
        refine xgo_eq (ih _ _ ⟨hC4, hf4⟩) ?_ rfl rfl
        ((repeat' (first | (with_reducible rfl) | exact xv_nil | refine xv_cons ?_ ?_ | refine xv_i ?_ | refine xv_l ?_)) <;> (simp (disch := omega) only [↓reduceIte, Bool.false_eq_true, Nat.one_mul, Nat.zero_mul, Nat.or_zero, Nat.add_zero, Nat.zero_add, Bool.toNat_true, Bool.toNat_false, shl_n, shr_n, fa_and, fa_or, nx_xor, nI_add, nI_mul, nI_sub', and_1, and_7, and_3', and_15, et]))
  · rintro I2 L2 ⟨hC2, hf2⟩
    have e0 : I2 27 0 = nI S.d.nA := by rw [f27 hf2]; exact w0
    have hg := tk27_32 hd S.D.X 15 S.d.nA
    refine xrun okL_stands hhL_stands [(280, [true, true, true, true, true, false, false, false, false, false])] 60 ?_
    (first | (refine xbr_f ?_ ?_; (focus ((simp (disch := omega) only [ix_lt, ix_le, ix_eq, ix_0, nI_clamp, nI_toInt, ng_T, nI_add, nI_mul, nI_sub', Int.neg_zero, not_false_eq_true, not_true_eq_false] <;> omega); done))) | (refine xbr_t ?_ ?_; (focus ((simp (disch := omega) only [ix_lt, ix_le, ix_eq, ix_0, nI_clamp, nI_toInt, ng_T, nI_add, nI_mul, nI_sub', Int.neg_zero, not_false_eq_true, not_true_eq_false] <;> omega); done))) | refine ⟨Or.inl rfl, ?_⟩ | refine ⟨Or.inr rfl, ?_⟩ | (refine ⟨?_, ?_⟩; (focus (exact in_nI (by omega) (by omega)))))
    (first | (refine xbr_f ?_ ?_; (focus ((simp (disch := omega) only [ix_lt, ix_le, ix_eq, ix_0, nI_clamp, nI_toInt, ng_T, nI_add, nI_mul, nI_sub', Int.neg_zero, not_false_eq_true, not_true_eq_false, e0] <;> omega); done))) | (refine xbr_t ?_ ?_; (focus ((simp (disch := omega) only [ix_lt, ix_le, ix_eq, ix_0, nI_clamp, nI_toInt, ng_T, nI_add, nI_mul, nI_sub', Int.neg_zero, not_false_eq_true, not_true_eq_false, e0] <;> omega); done))) | refine ⟨Or.inl rfl, ?_⟩ | refine ⟨Or.inr rfl, ?_⟩ | (refine ⟨?_, ?_⟩; (focus ((try simp (disch := omega) only [e0, nI_mul, nI_add, nI_sub']); exact in_nI (by omega) (by omega)))))
    refine xgo_eq (xlpW (M := mL_stands) (cs := csL_stands) (pc := 280) S.d.nL (fun t => [some (.ref 1), some (.ref 27), some (.int (nI (tkN S.d S.D.X 27 15 S.d.nA).2)), some (.int (nI 1)), some (.int (nI t)), none, none, none, none, none]) (fun t I' L' => Lq S I' L' ∧ frC I L I' L') ?_ ?_ ⟨hC2, hf2⟩) rfl rfl rfl
    · rintro t ht I4 L4 ⟨hC4, hf4⟩ iht
      have e1 : I4 27 1 = nI S.d.nL := by rw [f27 hf4]; exact w1
      have b1 := plN_8 S.D.X t
      have b2 := hmN_8 S.d t
      have o1 : olI S.d S.D.X t 1 = nI (plN S.D.X t) := rfl
      have o2 : olI S.d S.D.X t 2 = nI (hmN S.d t) := rfl
      have o3 : olI S.d S.D.X t 3 = bI (hmB S.d S.D.X t) := rfl
      have o4 : olI S.d S.D.X t 4 = cI (tkrN (tkN S.d S.D.X 27 15 S.d.nA).1 t) := rfl
      have h325 : ∀ I' L', Lq S I' L' → frC I L I' L' → xGo mL_stands csL_stands 325 Q [some (.ref 1), some (.ref 27), some (.int (nI (tkN S.d S.D.X 27 15 S.d.nA).2)), some (.int (nI 1)), some (.int (nI t)), none, none, none, none, none] [] 0 (e9 + 27) I' L' xP0 := by
        intro I5 L5 hC5 hf5
        have hB : bsN (hmB S.d S.D.X) S.d.nL < 32 := Nat.lt_of_lt_of_le (bsN_lt _ _) (Nat.pow_le_pow_right (n := 2) (j := 5) (by decide) h5)
        have eb : (nI (bsN (hmB S.d S.D.X) S.d.nL) >>> (nI t &&& 31)) &&& nI 1 = bI (hmB S.d S.D.X t) := by rw [bit_i (by omega) (by omega), tb_bs ht]
        refine xrun okL_stands hhL_stands [(280, [true, true, true, true, true, false, false, false, false, false])] 80 ?_
        refine ⟨rfl, rfl, S, t, 3, rfl, ht, by decide, hC5, fun I6 L6 hf6 hC6 => ?_⟩
        rw [o3]
        cases hh : hmB S.d S.D.X t
        · have hne : ¬ plN S.D.X t = hmN S.d t := of_decide_eq_false hh
          rw [hh] at eb
          (first | refine xbr_t (by decide) ?_ | refine xbr_f (by decide) ?_)
          refine ⟨rfl, rfl, S, t, 1, rfl, ht, by decide, hC6, fun I7 L7 hf7 hC7 => ?_⟩
          refine ⟨rfl, rfl, S, t, 2, rfl, ht, by decide, hC7, fun I8 L8 hf8 hC8 => ?_⟩
          (first | (refine xbr_f ?_ ?_; (focus ((simp (disch := omega) only [ix_lt, ix_le, ix_eq, ix_0, nI_clamp, nI_toInt, ng_T, nI_add, nI_mul, nI_sub', Int.neg_zero, not_false_eq_true, not_true_eq_false, o1, o2] <;> omega); done))) | (refine xbr_t ?_ ?_; (focus ((simp (disch := omega) only [ix_lt, ix_le, ix_eq, ix_0, nI_clamp, nI_toInt, ng_T, nI_add, nI_mul, nI_sub', Int.neg_zero, not_false_eq_true, not_true_eq_false, o1, o2] <;> omega); done))) | refine ⟨Or.inl rfl, ?_⟩ | refine ⟨Or.inr rfl, ?_⟩ | (refine ⟨?_, ?_⟩; (focus ((try simp (disch := omega) only [o1, o2, nI_mul, nI_add, nI_sub']); exact in_nI (by omega) (by omega)))))
          refine xbr_t rfl ?_
          obtain ⟨v8, hC8⟩ := hC8
          refine ⟨rfl, rfl, S.wT v8, _, rfl, hC8, fun q => ct_no (by decide) q, fun j e hj => ?_⟩
          obtain rfl := nI_j (by omega) (by omega) e
          refine ⟨rfl, rfl, S, t, 3, rfl, ht, by decide, ⟨v8, hC8⟩, fun I9 L9 hf9 hC9 => ?_⟩
          refine xbr_t (by rw [o3, hh]; exact eb) ?_
          refine xgo_eq (iht _ _ ⟨hC9, frC_t hf5 (frC_t hf6 (frC_t hf7 (frC_t hf8 hf9)))⟩) ?_ rfl rfl
          ((repeat' (first | (with_reducible rfl) | exact xv_nil | refine xv_cons ?_ ?_ | refine xv_i ?_ | refine xv_l ?_)) <;> (simp (disch := omega) only [↓reduceIte, Bool.false_eq_true, Nat.one_mul, Nat.zero_mul, Nat.or_zero, Nat.add_zero, Nat.zero_add, Bool.toNat_true, Bool.toNat_false, shl_n, shr_n, fa_and, fa_or, nx_xor, nI_add, nI_mul, nI_sub', and_1, and_7, and_3', and_15]))
        · have hne : plN S.D.X t = hmN S.d t := of_decide_eq_true hh
          rw [hh] at eb
          (first | refine xbr_t (by decide) ?_ | refine xbr_f (by decide) ?_)
          refine ⟨rfl, rfl, S, t, 1, rfl, ht, by decide, hC6, fun I7 L7 hf7 hC7 => ?_⟩
          refine ⟨rfl, rfl, S, t, 2, rfl, ht, by decide, hC7, fun I8 L8 hf8 hC8 => ?_⟩
          (first | (refine xbr_f ?_ ?_; (focus ((simp (disch := omega) only [ix_lt, ix_le, ix_eq, ix_0, nI_clamp, nI_toInt, ng_T, nI_add, nI_mul, nI_sub', Int.neg_zero, not_false_eq_true, not_true_eq_false, o1, o2] <;> omega); done))) | (refine xbr_t ?_ ?_; (focus ((simp (disch := omega) only [ix_lt, ix_le, ix_eq, ix_0, nI_clamp, nI_toInt, ng_T, nI_add, nI_mul, nI_sub', Int.neg_zero, not_false_eq_true, not_true_eq_false, o1, o2] <;> omega); done))) | refine ⟨Or.inl rfl, ?_⟩ | refine ⟨Or.inr rfl, ?_⟩ | (refine ⟨?_, ?_⟩; (focus ((try simp (disch := omega) only [o1, o2, nI_mul, nI_add, nI_sub']); exact in_nI (by omega) (by omega)))))
          refine xbr_t rfl ?_
          obtain ⟨v8, hC8⟩ := hC8
          refine ⟨rfl, rfl, S.wT v8, _, rfl, hC8, fun q => ct_no (by decide) q, fun j e hj => ?_⟩
          obtain rfl := nI_j (by omega) (by omega) e
          refine ⟨rfl, rfl, S, t, 3, rfl, ht, by decide, ⟨v8, hC8⟩, fun I9 L9 hf9 hC9 => ?_⟩
          refine xbr_t (by rw [o3, hh]; exact eb) ?_
          refine xgo_eq (iht _ _ ⟨hC9, frC_t hf5 (frC_t hf6 (frC_t hf7 (frC_t hf8 hf9)))⟩) ?_ rfl rfl
          ((repeat' (first | (with_reducible rfl) | exact xv_nil | refine xv_cons ?_ ?_ | refine xv_i ?_ | refine xv_l ?_)) <;> (simp (disch := omega) only [↓reduceIte, Bool.false_eq_true, Nat.one_mul, Nat.zero_mul, Nat.or_zero, Nat.add_zero, Nat.zero_add, Bool.toNat_true, Bool.toNat_false, shl_n, shr_n, fa_and, fa_or, nx_xor, nI_add, nI_mul, nI_sub', and_1, and_7, and_3', and_15]))
      refine xrun okL_stands hhL_stands [(325, [true, true, true, true, true, false, false, false, false, false])] 60 ?_
      (first | (refine xbr_f ?_ ?_; (focus ((simp (disch := omega) only [ix_lt, ix_le, ix_eq, ix_0, nI_clamp, nI_toInt, ng_T, nI_add, nI_mul, nI_sub', Int.neg_zero, not_false_eq_true, not_true_eq_false] <;> omega); done))) | (refine xbr_t ?_ ?_; (focus ((simp (disch := omega) only [ix_lt, ix_le, ix_eq, ix_0, nI_clamp, nI_toInt, ng_T, nI_add, nI_mul, nI_sub', Int.neg_zero, not_false_eq_true, not_true_eq_false] <;> omega); done))) | refine ⟨Or.inl rfl, ?_⟩ | refine ⟨Or.inr rfl, ?_⟩ | (refine ⟨?_, ?_⟩; (focus (exact in_nI (by omega) (by omega)))))
      (first | (refine xbr_f ?_ ?_; (focus ((simp (disch := omega) only [ix_lt, ix_le, ix_eq, ix_0, nI_clamp, nI_toInt, ng_T, nI_add, nI_mul, nI_sub', Int.neg_zero, not_false_eq_true, not_true_eq_false, e1] <;> omega); done))) | (refine xbr_t ?_ ?_; (focus ((simp (disch := omega) only [ix_lt, ix_le, ix_eq, ix_0, nI_clamp, nI_toInt, ng_T, nI_add, nI_mul, nI_sub', Int.neg_zero, not_false_eq_true, not_true_eq_false, e1] <;> omega); done))) | refine ⟨Or.inl rfl, ?_⟩ | refine ⟨Or.inr rfl, ?_⟩ | (refine ⟨?_, ?_⟩; (focus ((try simp (disch := omega) only [e1, nI_mul, nI_add, nI_sub']); exact in_nI (by omega) (by omega)))))
      (first | (refine xbr_f ?_ ?_; (focus ((simp (disch := omega) only [ix_lt, ix_le, ix_eq, ix_0, nI_clamp, nI_toInt, ng_T, nI_add, nI_mul, nI_sub', Int.neg_zero, not_false_eq_true, not_true_eq_false] <;> omega); done))) | (refine xbr_t ?_ ?_; (focus ((simp (disch := omega) only [ix_lt, ix_le, ix_eq, ix_0, nI_clamp, nI_toInt, ng_T, nI_add, nI_mul, nI_sub', Int.neg_zero, not_false_eq_true, not_true_eq_false] <;> omega); done))) | refine ⟨Or.inl rfl, ?_⟩ | refine ⟨Or.inr rfl, ?_⟩ | (refine ⟨?_, ?_⟩; (focus (exact in_nI (by omega) (by omega)))))
      refine ⟨rfl, rfl, S, t, 4, rfl, ht, by decide, hC4, fun I5 L5 hf5 hC5 => ?_⟩
      rw [o4]
      have eb : (nI (tkN S.d S.D.X 27 15 S.d.nA).2 >>> (nI t &&& 31)) &&& nI 1 = bI (decide (0 < tkrN (tkN S.d S.D.X 27 15 S.d.nA).1 t)) := by rw [bit_i (by omega) (by omega), fin_tb hd]
      have hle : tkrN (tkN S.d S.D.X 27 15 S.d.nA).1 t ≤ 4 := ffN_le _ 4
      rcases hc : tkrN (tkN S.d S.D.X 27 15 S.d.nA).1 t with _ | i
      · rw [hc, decide_eq_false (by omega)] at eb
        rw [cI_0]
        (first | (refine xbr_f ?_ ?_; (focus ((simp (disch := omega) only [ix_lt, ix_le, ix_eq, ix_0, nI_clamp, nI_toInt, ng_T, nI_add, nI_mul, nI_sub', Int.neg_zero, not_false_eq_true, not_true_eq_false] <;> omega); done))) | (refine xbr_t ?_ ?_; (focus ((simp (disch := omega) only [ix_lt, ix_le, ix_eq, ix_0, nI_clamp, nI_toInt, ng_T, nI_add, nI_mul, nI_sub', Int.neg_zero, not_false_eq_true, not_true_eq_false] <;> omega); done))) | refine ⟨Or.inl rfl, ?_⟩ | refine ⟨Or.inr rfl, ?_⟩ | (refine ⟨?_, ?_⟩; (focus (exact in_nI (by omega) (by omega)))))
        have eb2 : ¬ (nI (tkN S.d S.D.X 27 15 S.d.nA).2 >>> (nI t &&& 31)) &&& nI 1 = nI 1 := by rw [eb]; decide
        (first | refine xbr_t eb2 ?_ | refine xbr_f eb2 ?_)
        refine xbr_t rfl ?_
        exact h325 I5 L5 hC5 (frC_t hf4 hf5)
      · rw [hc, decide_eq_true (by omega)] at eb
        rw [cI_s]
        (first | (refine xbr_f ?_ ?_; (focus ((simp (disch := omega) only [ix_lt, ix_le, ix_eq, ix_0, nI_clamp, nI_toInt, ng_T, nI_add, nI_mul, nI_sub', Int.neg_zero, not_false_eq_true, not_true_eq_false] <;> omega); done))) | (refine xbr_t ?_ ?_; (focus ((simp (disch := omega) only [ix_lt, ix_le, ix_eq, ix_0, nI_clamp, nI_toInt, ng_T, nI_add, nI_mul, nI_sub', Int.neg_zero, not_false_eq_true, not_true_eq_false] <;> omega); done))) | refine ⟨Or.inl rfl, ?_⟩ | refine ⟨Or.inr rfl, ?_⟩ | (refine ⟨?_, ?_⟩; (focus (exact in_nI (by omega) (by omega)))))
        refine xbr_t eb ?_
        refine xbr_t rfl ?_
        exact h325 I5 L5 hC5 (frC_t hf4 hf5)
    · rintro I4 L4 ⟨hC4, hf4⟩
      have e1 : I4 27 1 = nI S.d.nL := by rw [f27 hf4]; exact w1
      refine xrun okL_stands hhL_stands [] 60 ?_
      (first | (refine xbr_f ?_ ?_; (focus ((simp (disch := omega) only [ix_lt, ix_le, ix_eq, ix_0, nI_clamp, nI_toInt, ng_T, nI_add, nI_mul, nI_sub', Int.neg_zero, not_false_eq_true, not_true_eq_false] <;> omega); done))) | (refine xbr_t ?_ ?_; (focus ((simp (disch := omega) only [ix_lt, ix_le, ix_eq, ix_0, nI_clamp, nI_toInt, ng_T, nI_add, nI_mul, nI_sub', Int.neg_zero, not_false_eq_true, not_true_eq_false] <;> omega); done))) | refine ⟨Or.inl rfl, ?_⟩ | refine ⟨Or.inr rfl, ?_⟩ | (refine ⟨?_, ?_⟩; (focus (exact in_nI (by omega) (by omega)))))
      (first | (refine xbr_f ?_ ?_; (focus ((simp (disch := omega) only [ix_lt, ix_le, ix_eq, ix_0, nI_clamp, nI_toInt, ng_T, nI_add, nI_mul, nI_sub', Int.neg_zero, not_false_eq_true, not_true_eq_false, e1] <;> omega); done))) | (refine xbr_t ?_ ?_; (focus ((simp (disch := omega) only [ix_lt, ix_le, ix_eq, ix_0, nI_clamp, nI_toInt, ng_T, nI_add, nI_mul, nI_sub', Int.neg_zero, not_false_eq_true, not_true_eq_false, e1] <;> omega); done))) | refine ⟨Or.inl rfl, ?_⟩ | refine ⟨Or.inr rfl, ?_⟩ | (refine ⟨?_, ?_⟩; (focus ((try simp (disch := omega) only [e1, nI_mul, nI_add, nI_sub']); exact in_nI (by omega) (by omega)))))
      (first | (refine xbr_f ?_ ?_; (focus ((simp (disch := omega) only [ix_lt, ix_le, ix_eq, ix_0, nI_clamp, nI_toInt, ng_T, nI_add, nI_mul, nI_sub', Int.neg_zero, not_false_eq_true, not_true_eq_false] <;> omega); done))) | (refine xbr_t ?_ ?_; (focus ((simp (disch := omega) only [ix_lt, ix_le, ix_eq, ix_0, nI_clamp, nI_toInt, ng_T, nI_add, nI_mul, nI_sub', Int.neg_zero, not_false_eq_true, not_true_eq_false] <;> omega); done))) | refine ⟨Or.inl rfl, ?_⟩ | refine ⟨Or.inr rfl, ?_⟩ | (refine ⟨?_, ?_⟩; (focus (exact in_nI (by omega) (by omega)))))
      exact hQ _ _ hf4 hC4
