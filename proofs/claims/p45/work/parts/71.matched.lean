/-! MATCHED: a match comes to what it says; who takes them all do; by an order as told it is so taken -/
theorem matchR_v {S S' : ST} {j : Nat} {o : Int32} (h : matchR S (nI j) o S') (hj : j < 6) (h0 : 0 < S.d.nA) : o = nI (vN S.d S.D.X S.d.nA 0) ∧ S' = S.wR (fun t => if t = j then S.d.nA + 1 else S.rz t) (mtV S j) := by
  rcases h with ⟨n, -⟩ | ⟨j', e, h1, ⟨h2, -⟩ | ⟨-, h2⟩⟩
  · rw [ibB_n hj (by decide)] at n
    cases n
  · omega
  · obtain rfl := nI_j (by omega) (by omega) e
    exact h2
theorem atR_v {S S' : ST} {j m : Nat} {o : Int32} (h : atR S (nI j) (nI m) o S') (hj : j < 6) (hz : S.rz j ≤ 41) (hm : m + 1 < S.rz j) : o = nI 1 ∧ S' = S.wT (S.rv (j * 40 + m)) := by
  rcases h with ⟨n, -⟩ | ⟨j', e, h1, ⟨h2, -⟩ | ⟨_, h2, -⟩ | ⟨m', e2, h2, h3⟩⟩
  · rw [ibB_n hj (by decide)] at n
    cases n
  · obtain rfl := nI_j (by omega) (by omega) e
    omega
  · obtain rfl := nI_j (by omega) (by omega) e
    rw [ibB_n (by omega) (by omega)] at h2
    cases h2
  · obtain rfl := nI_j (by omega) (by omega) e
    obtain rfl := nI_j (by omega) (by omega) e2
    exact h3
theorem coverR_v {S S' : ST} {o : Int32} (h : coverR S o S') (h0 : 0 < S.d.nA) : ((fsN S.d S.D.X (2 ^ S.d.nA)).1 = 0 ∧ o = -(nI 9) ∧ S' = S) ∨ (∃ v, (fsN S.d S.D.X (2 ^ S.d.nA)).1 = v + 1 ∧ o = nI (pcf 32 v) ∧ S' = S.wT (nI v)) := by
  rcases h with ⟨h1, -⟩ | ⟨-, h1⟩
  · omega
  · exact h1
theorem lineR_v {S S' : ST} {a b j : Nat} {o : Int32} (h : lineR S (nI a) (nI b) (nI j) o S') (hd : S.d.ok) (ha : a < S.d.nA) (hb : b < S.d.nL) (hj : j < 6) : (ffN (oyB S.d S.D.X a b) (2 ^ (2 * S.d.nA)) = 0 ∧ o = -(nI 9) ∧ S' = S) ∨ (∃ n, ffN (oyB S.d S.D.X a b) (2 ^ (2 * S.d.nA)) = n + 1 ∧ o = nI (cnN (oyB S.d S.D.X a b) (2 ^ (2 * S.d.nA))) ∧ S' = S.wR (fun t => if t = j then S.d.nA + 1 else S.rz t) (lnV S j (n * 2 ^ (2 * (4 - S.d.nA))))) := by
  have h4 := hd.a4
  have h5 := hd.l5
  rcases h with ⟨n, -⟩ | ⟨a', b', j', e1, h1, e2, h2, e3, h3, h6⟩
  · exact absurd ⟨ibB_n ha (by omega), ibB_n hb (by omega), ibB_n hj (by decide)⟩ n
  · obtain rfl := nI_j (by omega) (by omega) e1
    obtain rfl := nI_j (by omega) (by omega) e2
    obtain rfl := nI_j (by omega) (by omega) e3
    exact h6
theorem to_T (A : ST) (x : Int32) : (A.wT x).to = x := rfl
theorem ln_00 (S : ST) (j o : Nat) (h0 : 0 < S.d.nA) : lnV S j o (j * 40 + 0) = nI (orN o 0) := by
  unfold lnV
  rw [if_pos ⟨by omega, by omega⟩, Nat.add_zero, Nat.sub_self]
theorem mt_v (S : ST) (j i : Nat) (hi : i < S.d.nA) : mtV S j (j * 40 + i) = cI (gmN S.d S.D.X i) := by
  unfold mtV
  rw [if_pos ⟨by omega, by omega⟩, Nat.add_sub_cancel_left]
  rfl
theorem gs_le {d : PD} (X : Nat) : ∀ i, gsN d X i ≤ 8 * i ∧ lsM d X i ≤ 8 * i
  | 0 => ⟨Nat.le_refl 0, Nat.le_refl 0⟩
  | i + 1 => by
    obtain ⟨h1, h2⟩ := gs_le (d := d) X i
    have b1 := lkN_le (k := kdN d i) (m := meN X i) (x := mkN X (gmN d X i - 1)) (meN_16 X i)
    have b2 := lkN_le (k := kdN d i) (m := meN X i) (x := mkN X (coN d X 15 i - 1)) (meN_16 X i)
    refine ⟨?_, ?_⟩
    · show gsN d X i + (if gmN d X i = 0 then 0 else lkN (kdN d i) (meN X i) (mkN X (gmN d X i - 1))) ≤ _
      split <;> omega
    · show lsM d X i + (if coN d X 15 i = 0 then 0 else lkN (kdN d i) (meN X i) (mkN X (coN d X 15 i - 1))) ≤ _
      split <;> omega
def woN (d : PD) (X l : Nat) : Nat := bsN (fun i => wtB d X i (mkN X l)) d.nA
theorem wo_16 {d : PD} (hd : d.ok) (X l : Nat) : woN d X l < 16 := Nat.lt_of_lt_of_le (bsN_lt _ _) (Nat.pow_le_pow_right (n := 2) (j := 4) (by decide) hd.a4)
def wzB (d : PD) (X : Nat) : Nat → Bool := fun l => decide (woN d X l = 0)
theorem and_0 {a b : Nat} (ha : a < 2 ^ 31) : (nI a &&& nI b = 0) ↔ a &&& b = 0 := by
  rw [fa_and]
  exact nI_eq (b := 0) (Nat.lt_of_le_of_lt Nat.and_le_left ha) (by decide)
def csL_matched : xCs := [(mX10_match, sX10_match), (mX10_at, sX10_at), (mX10_asked, sX10_asked), (mL_of, sL_of), (mL_at, sL_at), (mX10_like, sX10_like), (mX10_who, sX10_who), (mX10_cover, sX10_cover), (mL_size, sL_size), (mX10_line, sX10_line)]
theorem okL_matched : xOkM mL_matched csL_matched := ⟨dL_matched, by decide +kernel, by decide +kernel, ⟨wdL_169, wdL_172, wdL_81, wdL_136, wdL_140, wdL_143, wdL_140, wdL_136, wdL_140, wdL_140, wdL_145, wdL_140, wdL_143, wdL_174, wdL_81, wdL_140, wdL_145, wdL_140, wdL_145, wdL_159, wdL_177, wdL_136, wdL_140, wdL_177, wdL_172, wdL_81, trivial⟩⟩
theorem hhL_matched : ∀ q ∈ csL_matched, xHd q.1 := xall1 hX10_match (xall1 hX10_at (xall1 hX10_asked (xall1 hL_of (xall1 hL_at (xall1 hX10_like (xall1 hX10_who (xall1 hX10_cover (xall1 hL_size (xall1 hX10_line (xall0))))))))))
theorem kkL_matched : ∀ q ∈ csL_matched, ∀ l, xCon l q.1 q.2 := xall1 kX10_match (xall1 kX10_at (xall1 kX10_asked (xall1 kL_of (xall1 kL_at (xall1 kX10_like (xall1 kX10_who (xall1 kX10_cover (xall1 kL_size (xall1 kX10_line (xall0))))))))))
def sL_matched : xSpec := xRg7 fun as I L Q => ∃ (S : ST), as = [.ref 1, .ref 0, .ref 27] ∧ Lq S I L ∧ wok S I ∧ 0 < S.d.nA ∧ 0 < S.d.nL ∧ ∀ S' I' L', S'.d = S.d → S'.D = S.D → S'.kp = S.kp → frC I L I' L' → Lq S' I' L' → Q (some (.int (nI 1))) I' L'
set_option maxHeartbeats 3000000 in
set_option maxRecDepth 100000 in
theorem kL_matched : ∀ l, xCon l mL_matched sL_matched := by
  refine xcon_of okL_matched hL_matched rfl hhL_matched kkL_matched ?_
  rintro as n0 I L P Q ⟨hn9, rfl, S, rfl, hC, hw, hA, hL, hQ⟩
  obtain ⟨e9, rfl⟩ := xe7 hn9
  refine ⟨Nat.le_of_ble_eq_true rfl, ?_⟩
  have hd : S.d.ok := hC.ok.d
  have h4 : S.d.nA ≤ 4 := hd.a4
  have h5 : S.d.nL ≤ 5 := hd.l5
  have hvb := vN_le hd S.D.X S.d.nA 0 (by decide)
  have W0 : ∀ {I' L'}, frC I L I' L' → I' 27 (nI 0).toNatClampNeg = nI S.d.nA := fun f => by rw [f27 f]; exact hw.1
  have W1 : ∀ {I' L'}, frC I L I' L' → I' 27 (nI 1).toNatClampNeg = nI S.d.nL := fun f => by rw [f27 f, nI_clamp (by decide)]; exact hw.2
  have vp0 : vp_in (nI 0) 64 := in_nI (by omega) (by decide)
  have vp1 : vp_in (nI 1) 64 := in_nI (by omega) (by decide)
  have hN : 2 ^ (2 * S.d.nA) ≤ 256 := p_256 hd
  have hOr : ordN S.d.nA ≤ 24 := by
    unfold ordN
    split
    · omega
    · split <;> omega
  -- the orders
  have h486 : ∀ z v I' L', Lq (S.wR z v) I' L' → frC I L I' L' → xGo mL_matched csL_matched 486 Q [some (.ref 1), some (.ref 0), some (.ref 27), none, none, none, none, some (.int (nI 1)), none, none, none, some (.int (nI (ordN S.d.nA))), none, none, none, none] [] 0 (e9 + 27) I' L' xP0 := by
    intro z0 v0 I0 L0 hC0 hf0
    refine xrun okL_matched hhL_matched [(489, [true, true, true, false, false, false, false, true, false, false, false, true, true, false, false, false])] 20 ?_
    refine xgo_eq (xlpW (M := mL_matched) (cs := csL_matched) (pc := 489) S.d.nL (fun l => [some (.ref 1), some (.ref 0), some (.ref 27), none, none, none, none, some (.int (nI 1)), none, none, none, some (.int (nI (ordN S.d.nA))), some (.int (nI l)), none, none, none]) (fun l I' L' => (∃ z v, Lq (S.wR z v) I' L') ∧ frC I L I' L') ?_ ?_ ⟨⟨z0, v0, hC0⟩, hf0⟩) rfl rfl rfl
    · rintro l hl I1 L1 ⟨⟨z1, v1, hC1⟩, hf1⟩ ih
      refine xrun okL_matched hhL_matched [(508, [true, true, true, false, false, false, false, true, false, false, false, true, true, true, true, false])] 60 ?_
      refine ⟨vp1, ?_⟩
      rw [W1 hf1]
      (first | (refine xbr_f ?_ ?_; (focus ((simp (disch := omega) only [ix_lt, ix_le, ix_eq, ix_0, nI_clamp, nI_toInt, ng_T, nI_add, nI_mul, nI_sub', Int.neg_zero, not_false_eq_true, not_true_eq_false] <;> omega); done))) | (refine xbr_t ?_ ?_; (focus ((simp (disch := omega) only [ix_lt, ix_le, ix_eq, ix_0, nI_clamp, nI_toInt, ng_T, nI_add, nI_mul, nI_sub', Int.neg_zero, not_false_eq_true, not_true_eq_false] <;> omega); done))) | refine ⟨Or.inl rfl, ?_⟩ | refine ⟨Or.inr rfl, ?_⟩ | (refine ⟨?_, ?_⟩; (focus (exact in_nI (by omega) (by omega)))))
      (first | (refine xbr_f ?_ ?_; (focus ((simp (disch := omega) only [ix_lt, ix_le, ix_eq, ix_0, nI_clamp, nI_toInt, ng_T, nI_add, nI_mul, nI_sub', Int.neg_zero, not_false_eq_true, not_true_eq_false] <;> omega); done))) | (refine xbr_t ?_ ?_; (focus ((simp (disch := omega) only [ix_lt, ix_le, ix_eq, ix_0, nI_clamp, nI_toInt, ng_T, nI_add, nI_mul, nI_sub', Int.neg_zero, not_false_eq_true, not_true_eq_false] <;> omega); done))) | refine ⟨Or.inl rfl, ?_⟩ | refine ⟨Or.inr rfl, ?_⟩ | (refine ⟨?_, ?_⟩; (focus (exact in_nI (by omega) (by omega)))))
      refine xgo_eq (xlpW (M := mL_matched) (cs := csL_matched) (pc := 508) S.d.nA (fun i => [some (.ref 1), some (.ref 0), some (.ref 27), none, none, none, none, some (.int (nI 1)), none, none, none, some (.int (nI (ordN S.d.nA))), some (.int (nI l)), some (.int (nI (owN S.d S.D.X l (2 ^ (2 * S.d.nA)) i))), some (.int (nI i)), none]) (fun i I' L' => (∃ z v, Lq (S.wR z v) I' L') ∧ frC I L I' L') ?_ ?_ ⟨⟨z1, v1, hC1⟩, hf1⟩) rfl rfl rfl
      · rintro i hi I2 L2 ⟨⟨z2, v2, t2, hC2⟩, hf2⟩ ih2
        have how := ow_ord hd hA (X := S.D.X) (l := l) i
        have how2 := ow_ord hd hA (X := S.D.X) (l := l) (i + 1)
        have hown := own_le hd hA (X := S.D.X) (i := i) (l := l)
        have eow : owN S.d S.D.X l (2 ^ (2 * S.d.nA)) (i + 1) = owN S.d S.D.X l (2 ^ (2 * S.d.nA)) i + cnN (oyB S.d S.D.X i l) (2 ^ (2 * S.d.nA)) := rfl
        have o4 : ∀ z v, olI (S.wR z v).d (S.wR z v).D.X l 4 = cI (tkrN (tkN S.d S.D.X 27 15 S.d.nA).1 l) := fun _ _ => rfl
        have hle : tkrN (tkN S.d S.D.X 27 15 S.d.nA).1 l ≤ 4 := ffN_le _ 4
        refine xrun okL_matched hhL_matched [(508, [true, true, true, false, false, false, false, true, false, false, false, true, true, true, true, false]), (576, [true, true, true, false, false, false, false, true, false, false, false, true, true, true, true, true])] 80 ?_
        refine ⟨vp0, ?_⟩
        rw [W0 hf2]
        (first | (refine xbr_f ?_ ?_; (focus ((simp (disch := omega) only [ix_lt, ix_le, ix_eq, ix_0, nI_clamp, nI_toInt, ng_T, nI_add, nI_mul, nI_sub', Int.neg_zero, not_false_eq_true, not_true_eq_false] <;> omega); done))) | (refine xbr_t ?_ ?_; (focus ((simp (disch := omega) only [ix_lt, ix_le, ix_eq, ix_0, nI_clamp, nI_toInt, ng_T, nI_add, nI_mul, nI_sub', Int.neg_zero, not_false_eq_true, not_true_eq_false] <;> omega); done))) | refine ⟨Or.inl rfl, ?_⟩ | refine ⟨Or.inr rfl, ?_⟩ | (refine ⟨?_, ?_⟩; (focus (exact in_nI (by omega) (by omega)))))
        (first | (refine xbr_f ?_ ?_; (focus ((simp (disch := omega) only [ix_lt, ix_le, ix_eq, ix_0, nI_clamp, nI_toInt, ng_T, nI_add, nI_mul, nI_sub', Int.neg_zero, not_false_eq_true, not_true_eq_false] <;> omega); done))) | (refine xbr_t ?_ ?_; (focus ((simp (disch := omega) only [ix_lt, ix_le, ix_eq, ix_0, nI_clamp, nI_toInt, ng_T, nI_add, nI_mul, nI_sub', Int.neg_zero, not_false_eq_true, not_true_eq_false] <;> omega); done))) | refine ⟨Or.inl rfl, ?_⟩ | refine ⟨Or.inr rfl, ?_⟩ | (refine ⟨?_, ?_⟩; (focus (exact in_nI (by omega) (by omega)))))
        refine ⟨rfl, rfl, (S.wR z2 v2).wT t2, _, _, _, rfl, hC2, fun o S3 I3 L3 hr3 hf3 hC3 => ?_⟩
        have hz9 := lineR_v hr3 hd hi hl (by decide)
        simp only [wT_d, wT_D, wT_kp, wT_rz, wT_rv, wR_d, wR_D, wR_kp, wR_rz, wR_rv, wC_d, wC_D, wC_kp, wC_rz, wC_rv, wD_d, wD_D, wD_kp, wD_rz, wD_rv] at hz9
        have hlr : (ffN (oyB S.d S.D.X i l) (2 ^ (2 * S.d.nA)) = 0 ∧ o = -(nI 9) ∧ S3 = (S.wR z2 v2).wT t2) ∨ (∃ n, ffN (oyB S.d S.D.X i l) (2 ^ (2 * S.d.nA)) = n + 1 ∧ o = nI (cnN (oyB S.d S.D.X i l) (2 ^ (2 * S.d.nA))) ∧ S3 = (S.wR (fun t => if t = 4 then S.d.nA + 1 else z2 t) (lnV (S.wR z2 v2) 4 (n * 2 ^ (2 * (4 - S.d.nA))))).wT t2) := hz9
        rcases hlr with ⟨p1, rfl, rfl⟩ | ⟨n, p1, rfl, rfl⟩
        · have hc0 : cnN (oyB S.d S.D.X i l) (2 ^ (2 * S.d.nA)) = 0 := cn_0 (ffN_zero.mp p1)
          have hno : ¬ tcN S.d S.D.X 15 i = l + 1 := fun q => by
            obtain ⟨n, q1, _⟩ := oy_first hd hA q
            omega
          rw [hc0] at eow
          (first | (refine xbr_f ?_ ?_; (focus ((simp (disch := omega) only [ix_lt, ix_le, ix_eq, ix_0, nI_clamp, nI_toInt, ng_T, nI_add, nI_mul, nI_sub', Int.neg_zero, not_false_eq_true, not_true_eq_false] <;> omega); done))) | (refine xbr_t ?_ ?_; (focus ((simp (disch := omega) only [ix_lt, ix_le, ix_eq, ix_0, nI_clamp, nI_toInt, ng_T, nI_add, nI_mul, nI_sub', Int.neg_zero, not_false_eq_true, not_true_eq_false] <;> omega); done))) | refine ⟨Or.inl rfl, ?_⟩ | refine ⟨Or.inr rfl, ?_⟩ | (refine ⟨?_, ?_⟩; (focus (exact in_nI (by omega) (by omega)))))
          refine xrun okL_matched hhL_matched [(508, [true, true, true, false, false, false, false, true, false, false, false, true, true, true, true, false])] 80 ?_
          (first | (refine xbr_f ?_ ?_; (focus ((simp (disch := omega) only [ix_lt, ix_le, ix_eq, ix_0, nI_clamp, nI_toInt, ng_T, nI_add, nI_mul, nI_sub', Int.neg_zero, not_false_eq_true, not_true_eq_false] <;> omega); done))) | (refine xbr_t ?_ ?_; (focus ((simp (disch := omega) only [ix_lt, ix_le, ix_eq, ix_0, nI_clamp, nI_toInt, ng_T, nI_add, nI_mul, nI_sub', Int.neg_zero, not_false_eq_true, not_true_eq_false] <;> omega); done))) | refine ⟨Or.inl rfl, ?_⟩ | refine ⟨Or.inr rfl, ?_⟩ | (refine ⟨?_, ?_⟩; (focus (exact in_nI (by omega) (by omega)))))
          (first | (refine xbr_f ?_ ?_; (focus ((simp (disch := omega) only [ix_lt, ix_le, ix_eq, ix_0, nI_clamp, nI_toInt, ng_T, nI_add, nI_mul, nI_sub', Int.neg_zero, not_false_eq_true, not_true_eq_false] <;> omega); done))) | (refine xbr_t ?_ ?_; (focus ((simp (disch := omega) only [ix_lt, ix_le, ix_eq, ix_0, nI_clamp, nI_toInt, ng_T, nI_add, nI_mul, nI_sub', Int.neg_zero, not_false_eq_true, not_true_eq_false] <;> omega); done))) | refine ⟨Or.inl rfl, ?_⟩ | refine ⟨Or.inr rfl, ?_⟩ | (refine ⟨?_, ?_⟩; (focus (exact in_nI (by omega) (by omega)))))
          refine ⟨rfl, rfl, S.wR z2 v2, l, 4, rfl, hl, by decide, ⟨t2, hC3⟩, fun I4 L4 hf4 hC4 => ?_⟩
          rw [o4]
          rcases hk : tkrN (tkN S.d S.D.X 27 15 S.d.nA).1 l with _ | j
          · rw [cI_0]
            (first | (refine xbr_f ?_ ?_; (focus ((simp (disch := omega) only [ix_lt, ix_le, ix_eq, ix_0, nI_clamp, nI_toInt, ng_T, nI_add, nI_mul, nI_sub', Int.neg_zero, not_false_eq_true, not_true_eq_false] <;> omega); done))) | (refine xbr_t ?_ ?_; (focus ((simp (disch := omega) only [ix_lt, ix_le, ix_eq, ix_0, nI_clamp, nI_toInt, ng_T, nI_add, nI_mul, nI_sub', Int.neg_zero, not_false_eq_true, not_true_eq_false] <;> omega); done))) | refine ⟨Or.inl rfl, ?_⟩ | refine ⟨Or.inr rfl, ?_⟩ | (refine ⟨?_, ?_⟩; (focus (exact in_nI (by omega) (by omega)))))
            refine xgo_eq (ih2 _ _ ⟨⟨z2, v2, hC4⟩, frC_t hf2 (frC_t hf3 hf4)⟩) ?_ rfl rfl
            ((repeat' (first | (with_reducible rfl) | exact xv_nil | refine xv_cons ?_ ?_ | refine xv_i ?_ | refine xv_l ?_)) <;> (simp (disch := omega) only [↓reduceIte, Bool.false_eq_true, Nat.one_mul, Nat.zero_mul, Nat.or_zero, Nat.add_zero, Nat.zero_add, Bool.toNat_true, Bool.toNat_false, shl_n, shr_n, fa_and, fa_or, nx_xor, nI_add, nI_mul, nI_sub', and_1, and_7, and_3', and_15, eow]))
          · have hj : ¬ j = i := fun q => by
              subst q
              exact hno ((tkr_iff hd).mp hk)
            rw [cI_s]
            (first | (refine xbr_f ?_ ?_; (focus ((simp (disch := omega) only [ix_lt, ix_le, ix_eq, ix_0, nI_clamp, nI_toInt, ng_T, nI_add, nI_mul, nI_sub', Int.neg_zero, not_false_eq_true, not_true_eq_false] <;> omega); done))) | (refine xbr_t ?_ ?_; (focus ((simp (disch := omega) only [ix_lt, ix_le, ix_eq, ix_0, nI_clamp, nI_toInt, ng_T, nI_add, nI_mul, nI_sub', Int.neg_zero, not_false_eq_true, not_true_eq_false] <;> omega); done))) | refine ⟨Or.inl rfl, ?_⟩ | refine ⟨Or.inr rfl, ?_⟩ | (refine ⟨?_, ?_⟩; (focus (exact in_nI (by omega) (by omega)))))
            refine xgo_eq (ih2 _ _ ⟨⟨z2, v2, hC4⟩, frC_t hf2 (frC_t hf3 hf4)⟩) ?_ rfl rfl
            ((repeat' (first | (with_reducible rfl) | exact xv_nil | refine xv_cons ?_ ?_ | refine xv_i ?_ | refine xv_l ?_)) <;> (simp (disch := omega) only [↓reduceIte, Bool.false_eq_true, Nat.one_mul, Nat.zero_mul, Nat.or_zero, Nat.add_zero, Nat.zero_add, Bool.toNat_true, Bool.toNat_false, shl_n, shr_n, fa_and, fa_or, nx_xor, nI_add, nI_mul, nI_sub', and_1, and_7, and_3', and_15, eow]))
        · obtain ⟨n1, n2, -⟩ := ffN_iff.mp p1
          have hpos := cn_pos n1 n2
          -- behind 'own'
          have h576 : ∀ z v I' L', Lq (S.wR z v) I' L' → frC I L I' L' → xGo mL_matched csL_matched 576 Q [some (.ref 1), some (.ref 0), some (.ref 27), none, none, none, none, some (.int (nI 1)), none, none, none, some (.int (nI (ordN S.d.nA))), some (.int (nI l)), some (.int (nI (owN S.d S.D.X l (2 ^ (2 * S.d.nA)) i))), some (.int (nI i)), some (.int (nI (cnN (oyB S.d S.D.X i l) (2 ^ (2 * S.d.nA)))))] [] 0 (e9 + 27) I' L' xP0 := by
            intro z3 v3 I4 L4 hC4 hf4
            refine xrun okL_matched hhL_matched [(508, [true, true, true, false, false, false, false, true, false, false, false, true, true, true, true, false])] 80 ?_
            (first | (refine xbr_f ?_ ?_; (focus ((simp (disch := omega) only [ix_lt, ix_le, ix_eq, ix_0, nI_clamp, nI_toInt, ng_T, nI_add, nI_mul, nI_sub', Int.neg_zero, not_false_eq_true, not_true_eq_false] <;> omega); done))) | (refine xbr_t ?_ ?_; (focus ((simp (disch := omega) only [ix_lt, ix_le, ix_eq, ix_0, nI_clamp, nI_toInt, ng_T, nI_add, nI_mul, nI_sub', Int.neg_zero, not_false_eq_true, not_true_eq_false] <;> omega); done))) | refine ⟨Or.inl rfl, ?_⟩ | refine ⟨Or.inr rfl, ?_⟩ | (refine ⟨?_, ?_⟩; (focus (exact in_nI (by omega) (by omega)))))
            (first | (refine xbr_f ?_ ?_; (focus ((simp (disch := omega) only [ix_lt, ix_le, ix_eq, ix_0, nI_clamp, nI_toInt, ng_T, nI_add, nI_mul, nI_sub', Int.neg_zero, not_false_eq_true, not_true_eq_false] <;> omega); done))) | (refine xbr_t ?_ ?_; (focus ((simp (disch := omega) only [ix_lt, ix_le, ix_eq, ix_0, nI_clamp, nI_toInt, ng_T, nI_add, nI_mul, nI_sub', Int.neg_zero, not_false_eq_true, not_true_eq_false] <;> omega); done))) | refine ⟨Or.inl rfl, ?_⟩ | refine ⟨Or.inr rfl, ?_⟩ | (refine ⟨?_, ?_⟩; (focus (exact in_nI (by omega) (by omega)))))
            refine ⟨rfl, rfl, S.wR z3 v3, l, 4, rfl, hl, by decide, hC4, fun I5 L5 hf5 hC5 => ?_⟩
            rw [o4]
            rcases hk : tkrN (tkN S.d S.D.X 27 15 S.d.nA).1 l with _ | j
            · rw [cI_0]
              (first | (refine xbr_f ?_ ?_; (focus ((simp (disch := omega) only [ix_lt, ix_le, ix_eq, ix_0, nI_clamp, nI_toInt, ng_T, nI_add, nI_mul, nI_sub', Int.neg_zero, not_false_eq_true, not_true_eq_false] <;> omega); done))) | (refine xbr_t ?_ ?_; (focus ((simp (disch := omega) only [ix_lt, ix_le, ix_eq, ix_0, nI_clamp, nI_toInt, ng_T, nI_add, nI_mul, nI_sub', Int.neg_zero, not_false_eq_true, not_true_eq_false] <;> omega); done))) | refine ⟨Or.inl rfl, ?_⟩ | refine ⟨Or.inr rfl, ?_⟩ | (refine ⟨?_, ?_⟩; (focus (exact in_nI (by omega) (by omega)))))
              refine xgo_eq (ih2 _ _ ⟨⟨z3, v3, hC5⟩, frC_t hf4 hf5⟩) ?_ rfl rfl
              ((repeat' (first | (with_reducible rfl) | exact xv_nil | refine xv_cons ?_ ?_ | refine xv_i ?_ | refine xv_l ?_)) <;> (simp (disch := omega) only [↓reduceIte, Bool.false_eq_true, Nat.one_mul, Nat.zero_mul, Nat.or_zero, Nat.add_zero, Nat.zero_add, Bool.toNat_true, Bool.toNat_false, shl_n, shr_n, fa_and, fa_or, nx_xor, nI_add, nI_mul, nI_sub', and_1, and_7, and_3', and_15, eow]))
            · rw [cI_s]
              by_cases hj : j = i
              · subst hj
                obtain ⟨m, q1, q2⟩ := oy_first hd hA ((tkr_iff hd).mp hk)
                (first | (refine xbr_f ?_ ?_; (focus ((simp (disch := omega) only [ix_lt, ix_le, ix_eq, ix_0, nI_clamp, nI_toInt, ng_T, nI_add, nI_mul, nI_sub', Int.neg_zero, not_false_eq_true, not_true_eq_false] <;> omega); done))) | (refine xbr_t ?_ ?_; (focus ((simp (disch := omega) only [ix_lt, ix_le, ix_eq, ix_0, nI_clamp, nI_toInt, ng_T, nI_add, nI_mul, nI_sub', Int.neg_zero, not_false_eq_true, not_true_eq_false] <;> omega); done))) | refine ⟨Or.inl rfl, ?_⟩ | refine ⟨Or.inr rfl, ?_⟩ | (refine ⟨?_, ?_⟩; (focus (exact in_nI (by omega) (by omega)))))
                (first | (refine xbr_f ?_ ?_; (focus ((simp (disch := omega) only [ix_lt, ix_le, ix_eq, ix_0, nI_clamp, nI_toInt, ng_T, nI_add, nI_mul, nI_sub', Int.neg_zero, not_false_eq_true, not_true_eq_false] <;> omega); done))) | (refine xbr_t ?_ ?_; (focus ((simp (disch := omega) only [ix_lt, ix_le, ix_eq, ix_0, nI_clamp, nI_toInt, ng_T, nI_add, nI_mul, nI_sub', Int.neg_zero, not_false_eq_true, not_true_eq_false] <;> omega); done))) | refine ⟨Or.inl rfl, ?_⟩ | refine ⟨Or.inr rfl, ?_⟩ | (refine ⟨?_, ?_⟩; (focus (exact in_nI (by omega) (by omega)))))
                obtain ⟨t5, hC5⟩ := hC5
                refine ⟨rfl, rfl, (S.wR z3 v3).wT t5, _, _, _, rfl, hC5, fun o S6 I6 L6 hr6 hf6 hC6 => ?_⟩
                have hz9 := lineR_v hr6 hd hi hl (by decide)
                simp only [wT_d, wT_D, wT_kp, wT_rz, wT_rv, wR_d, wR_D, wR_kp, wR_rz, wR_rv, wC_d, wC_D, wC_kp, wC_rz, wC_rv, wD_d, wD_D, wD_kp, wD_rz, wD_rv] at hz9
                have hlr : (ffN (oyB S.d S.D.X j l) (2 ^ (2 * S.d.nA)) = 0 ∧ o = -(nI 9) ∧ S6 = (S.wR z3 v3).wT t5) ∨ (∃ n, ffN (oyB S.d S.D.X j l) (2 ^ (2 * S.d.nA)) = n + 1 ∧ o = nI (cnN (oyB S.d S.D.X j l) (2 ^ (2 * S.d.nA))) ∧ S6 = (S.wR (fun t => if t = 4 then S.d.nA + 1 else z3 t) (lnV (S.wR z3 v3) 4 (n * 2 ^ (2 * (4 - S.d.nA))))).wT t5) := hz9
                rcases hlr with ⟨q3, _⟩ | ⟨m', q3, rfl, rfl⟩
                · omega
                · obtain rfl : m' = m := by omega
                  refine xbr_t rfl ?_
                  refine ⟨rfl, rfl, _, _, _, rfl, hC6, fun o S7 I7 L7 hr7 hf7 hC7 => ?_⟩
                  have hz4 : ((S.wR (fun t => if t = 4 then S.d.nA + 1 else z3 t) (lnV (S.wR z3 v3) 4 (m' * 2 ^ (2 * (4 - S.d.nA))))).wT t5).rz 4 = S.d.nA + 1 := rfl
                  obtain ⟨r1, r2⟩ := atR_v hr7 (by decide) (by rw [hz4]; omega) (by rw [hz4]; omega)
                  have hv4 : ((S.wR (fun t => if t = 4 then S.d.nA + 1 else z3 t) (lnV (S.wR z3 v3) 4 (m' * 2 ^ (2 * (4 - S.d.nA))))).wT t5).rv (4 * 40 + 0) = nI 0 := by
                    show lnV (S.wR z3 v3) 4 (m' * 2 ^ (2 * (4 - S.d.nA))) (4 * 40 + 0) = nI 0
                    rw [ln_00 (S.wR z3 v3) 4 _ hA, q2]
                  subst r1
                  subst r2
                  refine xbr_t rfl ?_
                  refine ⟨rfl, rfl, _, rfl, hC7, ?_⟩
                  rw [show ∀ (A : ST) (x : Int32), (A.wT x).to = x from fun _ _ => rfl, hv4]
                  refine xbr_t rfl ?_
                  refine xgo_eq (ih2 _ _ ⟨⟨_, _, ⟨_, hC7⟩⟩, frC_t hf4 (frC_t hf5 (frC_t hf6 hf7))⟩) ?_ rfl rfl
                  ((repeat' (first | (with_reducible rfl) | exact xv_nil | refine xv_cons ?_ ?_ | refine xv_i ?_ | refine xv_l ?_)) <;> (simp (disch := omega) only [↓reduceIte, Bool.false_eq_true, Nat.one_mul, Nat.zero_mul, Nat.or_zero, Nat.add_zero, Nat.zero_add, Bool.toNat_true, Bool.toNat_false, shl_n, shr_n, fa_and, fa_or, nx_xor, nI_add, nI_mul, nI_sub', and_1, and_7, and_3', and_15, eow]))
              · (first | (refine xbr_f ?_ ?_; (focus ((simp (disch := omega) only [ix_lt, ix_le, ix_eq, ix_0, nI_clamp, nI_toInt, ng_T, nI_add, nI_mul, nI_sub', Int.neg_zero, not_false_eq_true, not_true_eq_false] <;> omega); done))) | (refine xbr_t ?_ ?_; (focus ((simp (disch := omega) only [ix_lt, ix_le, ix_eq, ix_0, nI_clamp, nI_toInt, ng_T, nI_add, nI_mul, nI_sub', Int.neg_zero, not_false_eq_true, not_true_eq_false] <;> omega); done))) | refine ⟨Or.inl rfl, ?_⟩ | refine ⟨Or.inr rfl, ?_⟩ | (refine ⟨?_, ?_⟩; (focus (exact in_nI (by omega) (by omega)))))
                refine xgo_eq (ih2 _ _ ⟨⟨z3, v3, hC5⟩, frC_t hf4 hf5⟩) ?_ rfl rfl
                ((repeat' (first | (with_reducible rfl) | exact xv_nil | refine xv_cons ?_ ?_ | refine xv_i ?_ | refine xv_l ?_)) <;> (simp (disch := omega) only [↓reduceIte, Bool.false_eq_true, Nat.one_mul, Nat.zero_mul, Nat.or_zero, Nat.add_zero, Nat.zero_add, Bool.toNat_true, Bool.toNat_false, shl_n, shr_n, fa_and, fa_or, nx_xor, nI_add, nI_mul, nI_sub', and_1, and_7, and_3', and_15, eow]))
          (first | (refine xbr_f ?_ ?_; (focus ((simp (disch := omega) only [ix_lt, ix_le, ix_eq, ix_0, nI_clamp, nI_toInt, ng_T, nI_add, nI_mul, nI_sub', Int.neg_zero, not_false_eq_true, not_true_eq_false] <;> omega); done))) | (refine xbr_t ?_ ?_; (focus ((simp (disch := omega) only [ix_lt, ix_le, ix_eq, ix_0, nI_clamp, nI_toInt, ng_T, nI_add, nI_mul, nI_sub', Int.neg_zero, not_false_eq_true, not_true_eq_false] <;> omega); done))) | refine ⟨Or.inl rfl, ?_⟩ | refine ⟨Or.inr rfl, ?_⟩ | (refine ⟨?_, ?_⟩; (focus (exact in_nI (by omega) (by omega)))))
          (first | (refine xbr_f ?_ ?_; (focus ((simp (disch := omega) only [ix_lt, ix_le, ix_eq, ix_0, nI_clamp, nI_toInt, ng_T, nI_add, nI_mul, nI_sub', Int.neg_zero, not_false_eq_true, not_true_eq_false] <;> omega); done))) | (refine xbr_t ?_ ?_; (focus ((simp (disch := omega) only [ix_lt, ix_le, ix_eq, ix_0, nI_clamp, nI_toInt, ng_T, nI_add, nI_mul, nI_sub', Int.neg_zero, not_false_eq_true, not_true_eq_false] <;> omega); done))) | refine ⟨Or.inl rfl, ?_⟩ | refine ⟨Or.inr rfl, ?_⟩ | (refine ⟨?_, ?_⟩; (focus (exact in_nI (by omega) (by omega)))))
          (first | (refine xbr_f ?_ ?_; (focus ((simp (disch := omega) only [ix_lt, ix_le, ix_eq, ix_0, nI_clamp, nI_toInt, ng_T, nI_add, nI_mul, nI_sub', Int.neg_zero, not_false_eq_true, not_true_eq_false] <;> omega); done))) | (refine xbr_t ?_ ?_; (focus ((simp (disch := omega) only [ix_lt, ix_le, ix_eq, ix_0, nI_clamp, nI_toInt, ng_T, nI_add, nI_mul, nI_sub', Int.neg_zero, not_false_eq_true, not_true_eq_false] <;> omega); done))) | refine ⟨Or.inl rfl, ?_⟩ | refine ⟨Or.inr rfl, ?_⟩ | (refine ⟨?_, ?_⟩; (focus (exact in_nI (by omega) (by omega)))))
          refine ⟨vp0, ?_⟩
          rw [W0 (frC_t hf2 hf3)]
          by_cases hA1 : 1 < S.d.nA
          · (first | (refine xbr_f ?_ ?_; (focus ((simp (disch := omega) only [ix_lt, ix_le, ix_eq, ix_0, nI_clamp, nI_toInt, ng_T, nI_add, nI_mul, nI_sub', Int.neg_zero, not_false_eq_true, not_true_eq_false] <;> omega); done))) | (refine xbr_t ?_ ?_; (focus ((simp (disch := omega) only [ix_lt, ix_le, ix_eq, ix_0, nI_clamp, nI_toInt, ng_T, nI_add, nI_mul, nI_sub', Int.neg_zero, not_false_eq_true, not_true_eq_false] <;> omega); done))) | refine ⟨Or.inl rfl, ?_⟩ | refine ⟨Or.inr rfl, ?_⟩ | (refine ⟨?_, ?_⟩; (focus (exact in_nI (by omega) (by omega)))))
            exact h576 _ _ _ _ ⟨t2, hC3⟩ (frC_t hf2 hf3)
          · have hA1 : S.d.nA = 1 := by omega
            obtain rfl : i = 0 := by omega
            have htc := oy_one hd hA1 n1 n2
            (first | (refine xbr_f ?_ ?_; (focus ((simp (disch := omega) only [ix_lt, ix_le, ix_eq, ix_0, nI_clamp, nI_toInt, ng_T, nI_add, nI_mul, nI_sub', Int.neg_zero, not_false_eq_true, not_true_eq_false] <;> omega); done))) | (refine xbr_t ?_ ?_; (focus ((simp (disch := omega) only [ix_lt, ix_le, ix_eq, ix_0, nI_clamp, nI_toInt, ng_T, nI_add, nI_mul, nI_sub', Int.neg_zero, not_false_eq_true, not_true_eq_false] <;> omega); done))) | refine ⟨Or.inl rfl, ?_⟩ | refine ⟨Or.inr rfl, ?_⟩ | (refine ⟨?_, ?_⟩; (focus (exact in_nI (by omega) (by omega)))))
            refine ⟨rfl, rfl, (S.wR (fun t => if t = 4 then S.d.nA + 1 else z2 t) (lnV (S.wR z2 v2) 4 (n * 2 ^ (2 * (4 - S.d.nA))))), 0, 3, rfl, hA, by decide, ⟨t2, hC3⟩, fun I4 L4 hf4 hC4 => ?_⟩
            have oa3 : oaI (S.wR (fun t => if t = 4 then S.d.nA + 1 else z2 t) (lnV (S.wR z2 v2) 4 (n * 2 ^ (2 * (4 - S.d.nA))))).d (S.wR (fun t => if t = 4 then S.d.nA + 1 else z2 t) (lnV (S.wR z2 v2) 4 (n * 2 ^ (2 * (4 - S.d.nA))))).D.X 0 3 = nI l := by
              show oaI S.d S.D.X 0 3 = _
              rw [oa_3 hd hA, ← tc_co hA, htc, cI_s]
            rw [oa3]
            refine xbr_t rfl ?_
            exact h576 _ _ _ _ hC4 (frC_t hf2 (frC_t hf3 hf4))
      · rintro I2 L2 ⟨hC2, hf2⟩
        have how := ow_ord hd hA (X := S.D.X) (l := l) S.d.nA
        refine xrun okL_matched hhL_matched [(489, [true, true, true, false, false, false, false, true, false, false, false, true, true, false, false, false])] 60 ?_
        refine ⟨vp0, ?_⟩
        rw [W0 hf2]
        (first | (refine xbr_f ?_ ?_; (focus ((simp (disch := omega) only [ix_lt, ix_le, ix_eq, ix_0, nI_clamp, nI_toInt, ng_T, nI_add, nI_mul, nI_sub', Int.neg_zero, not_false_eq_true, not_true_eq_false] <;> omega); done))) | (refine xbr_t ?_ ?_; (focus ((simp (disch := omega) only [ix_lt, ix_le, ix_eq, ix_0, nI_clamp, nI_toInt, ng_T, nI_add, nI_mul, nI_sub', Int.neg_zero, not_false_eq_true, not_true_eq_false] <;> omega); done))) | refine ⟨Or.inl rfl, ?_⟩ | refine ⟨Or.inr rfl, ?_⟩ | (refine ⟨?_, ?_⟩; (focus (exact in_nI (by omega) (by omega)))))
        (first | (refine xbr_f ?_ ?_; (focus ((simp (disch := omega) only [ix_lt, ix_le, ix_eq, ix_0, nI_clamp, nI_toInt, ng_T, nI_add, nI_mul, nI_sub', Int.neg_zero, not_false_eq_true, not_true_eq_false] <;> omega); done))) | (refine xbr_t ?_ ?_; (focus ((simp (disch := omega) only [ix_lt, ix_le, ix_eq, ix_0, nI_clamp, nI_toInt, ng_T, nI_add, nI_mul, nI_sub', Int.neg_zero, not_false_eq_true, not_true_eq_false] <;> omega); done))) | refine ⟨Or.inl rfl, ?_⟩ | refine ⟨Or.inr rfl, ?_⟩ | (refine ⟨?_, ?_⟩; (focus (exact in_nI (by omega) (by omega)))))
        (first | (refine xbr_f ?_ ?_; (focus ((simp (disch := omega) only [ix_lt, ix_le, ix_eq, ix_0, nI_clamp, nI_toInt, ng_T, nI_add, nI_mul, nI_sub', Int.neg_zero, not_false_eq_true, not_true_eq_false] <;> omega); done))) | (refine xbr_t ?_ ?_; (focus ((simp (disch := omega) only [ix_lt, ix_le, ix_eq, ix_0, nI_clamp, nI_toInt, ng_T, nI_add, nI_mul, nI_sub', Int.neg_zero, not_false_eq_true, not_true_eq_false] <;> omega); done))) | refine ⟨Or.inl rfl, ?_⟩ | refine ⟨Or.inr rfl, ?_⟩ | (refine ⟨?_, ?_⟩; (focus (exact in_nI (by omega) (by omega)))))
        refine xgo_eq (ih _ _ ⟨hC2, hf2⟩) ?_ rfl rfl
        ((repeat' (first | (with_reducible rfl) | exact xv_nil | refine xv_cons ?_ ?_ | refine xv_i ?_ | refine xv_l ?_)) <;> (simp (disch := omega) only [↓reduceIte, Bool.false_eq_true, Nat.one_mul, Nat.zero_mul, Nat.or_zero, Nat.add_zero, Nat.zero_add, Bool.toNat_true, Bool.toNat_false, shl_n, shr_n, fa_and, fa_or, nx_xor, nI_add, nI_mul, nI_sub', and_1, and_7, and_3', and_15]))
    · rintro I1 L1 ⟨⟨z1, v1, hC1⟩, hf1⟩
      refine xrun okL_matched hhL_matched [] 60 ?_
      refine ⟨vp1, ?_⟩
      rw [W1 hf1]
      (first | (refine xbr_f ?_ ?_; (focus ((simp (disch := omega) only [ix_lt, ix_le, ix_eq, ix_0, nI_clamp, nI_toInt, ng_T, nI_add, nI_mul, nI_sub', Int.neg_zero, not_false_eq_true, not_true_eq_false] <;> omega); done))) | (refine xbr_t ?_ ?_; (focus ((simp (disch := omega) only [ix_lt, ix_le, ix_eq, ix_0, nI_clamp, nI_toInt, ng_T, nI_add, nI_mul, nI_sub', Int.neg_zero, not_false_eq_true, not_true_eq_false] <;> omega); done))) | refine ⟨Or.inl rfl, ?_⟩ | refine ⟨Or.inr rfl, ?_⟩ | (refine ⟨?_, ?_⟩; (focus (exact in_nI (by omega) (by omega)))))
      refine ⟨Or.inr rfl, ?_⟩
      exact hQ (S.wR z1 v1) I1 L1 rfl rfl rfl hf1 hC1
  have h457 : ∀ z v I' L' (f w a t : Int32), Lq (S.wR z v) I' L' → frC I L I' L' → xGo mL_matched csL_matched 457 Q [some (.ref 1), some (.ref 0), some (.ref 27), none, none, none, none, some (.int (nI 1)), some (.int f), some (.int w), some (.int a), some (.int t), none, none, none, none] [] 0 (e9 + 27) I' L' xP0 := by
    intro z0 v0 I0 L0 f w a t hC0 hf0
    have go := h486 z0 v0 I0 L0 hC0 hf0
    unfold ordN at go
    refine xrun okL_matched hhL_matched [(486, [true, true, true, false, false, false, false, true, false, false, false, true, false, false, false, false])] 60 ?_
    refine ⟨vp0, ?_⟩
    rw [W0 hf0]
    by_cases q4 : S.d.nA = 4
    · rw [if_pos q4] at go
      (first | (refine xbr_f ?_ ?_; (focus ((simp (disch := omega) only [ix_lt, ix_le, ix_eq, ix_0, nI_clamp, nI_toInt, ng_T, nI_add, nI_mul, nI_sub', Int.neg_zero, not_false_eq_true, not_true_eq_false] <;> omega); done))) | (refine xbr_t ?_ ?_; (focus ((simp (disch := omega) only [ix_lt, ix_le, ix_eq, ix_0, nI_clamp, nI_toInt, ng_T, nI_add, nI_mul, nI_sub', Int.neg_zero, not_false_eq_true, not_true_eq_false] <;> omega); done))) | refine ⟨Or.inl rfl, ?_⟩ | refine ⟨Or.inr rfl, ?_⟩ | (refine ⟨?_, ?_⟩; (focus (exact in_nI (by omega) (by omega)))))
      exact go
    · rw [if_neg q4] at go
      (first | (refine xbr_f ?_ ?_; (focus ((simp (disch := omega) only [ix_lt, ix_le, ix_eq, ix_0, nI_clamp, nI_toInt, ng_T, nI_add, nI_mul, nI_sub', Int.neg_zero, not_false_eq_true, not_true_eq_false] <;> omega); done))) | (refine xbr_t ?_ ?_; (focus ((simp (disch := omega) only [ix_lt, ix_le, ix_eq, ix_0, nI_clamp, nI_toInt, ng_T, nI_add, nI_mul, nI_sub', Int.neg_zero, not_false_eq_true, not_true_eq_false] <;> omega); done))) | refine ⟨Or.inl rfl, ?_⟩ | refine ⟨Or.inr rfl, ?_⟩ | (refine ⟨?_, ?_⟩; (focus (exact in_nI (by omega) (by omega)))))
      refine ⟨vp0, ?_⟩
      rw [W0 hf0]
      by_cases q3 : S.d.nA = 3
      · rw [if_pos q3] at go
        (first | (refine xbr_f ?_ ?_; (focus ((simp (disch := omega) only [ix_lt, ix_le, ix_eq, ix_0, nI_clamp, nI_toInt, ng_T, nI_add, nI_mul, nI_sub', Int.neg_zero, not_false_eq_true, not_true_eq_false] <;> omega); done))) | (refine xbr_t ?_ ?_; (focus ((simp (disch := omega) only [ix_lt, ix_le, ix_eq, ix_0, nI_clamp, nI_toInt, ng_T, nI_add, nI_mul, nI_sub', Int.neg_zero, not_false_eq_true, not_true_eq_false] <;> omega); done))) | refine ⟨Or.inl rfl, ?_⟩ | refine ⟨Or.inr rfl, ?_⟩ | (refine ⟨?_, ?_⟩; (focus (exact in_nI (by omega) (by omega)))))
        exact go
      · rw [if_neg q3] at go
        (first | (refine xbr_f ?_ ?_; (focus ((simp (disch := omega) only [ix_lt, ix_le, ix_eq, ix_0, nI_clamp, nI_toInt, ng_T, nI_add, nI_mul, nI_sub', Int.neg_zero, not_false_eq_true, not_true_eq_false] <;> omega); done))) | (refine xbr_t ?_ ?_; (focus ((simp (disch := omega) only [ix_lt, ix_le, ix_eq, ix_0, nI_clamp, nI_toInt, ng_T, nI_add, nI_mul, nI_sub', Int.neg_zero, not_false_eq_true, not_true_eq_false] <;> omega); done))) | refine ⟨Or.inl rfl, ?_⟩ | refine ⟨Or.inr rfl, ?_⟩ | (refine ⟨?_, ?_⟩; (focus (exact in_nI (by omega) (by omega)))))
        refine ⟨vp0, ?_⟩
        rw [W0 hf0]
        exact go
  -- who takes them all
  have h313 : ∀ (few : Int32) (who : Nat) z v I' L', who < 16 → ((few = -(nI 9) ∧ who = 0 ∧ 0 < cnN (wzB S.d S.D.X) S.d.nL) ∨ (few = nI (pcf 32 who) ∧ 0 < pcf 32 who ∧ (∀ l, l < S.d.nL → ¬ woN S.d S.D.X l &&& who = 0) ∧ cnN (wzB S.d S.D.X) S.d.nL = 0 ∧ who < 2 ^ S.d.nA)) → Lq (S.wR z v) I' L' → frC I L I' L' → xGo mL_matched csL_matched 313 Q [some (.ref 1), some (.ref 0), some (.ref 27), none, none, none, none, some (.int (nI 1)), some (.int few), some (.int (nI who)), some (.int (nI 0)), some (.int (nI 0)), none, none, none, none] [] 0 (e9 + 27) I' L' xP0 := by
    intro few who z v I0 L0 hwho hk hC0 hf0
    refine xgo_eq (xlpW (M := mL_matched) (cs := csL_matched) (pc := 313) S.d.nL (fun t => [some (.ref 1), some (.ref 0), some (.ref 27), none, none, none, none, some (.int (nI 1)), some (.int few), some (.int (nI who)), some (.int (nI (cnN (wzB S.d S.D.X) t))), some (.int (nI t)), none, none, none, none]) (fun t I' L' => Lq (S.wR z v) I' L' ∧ frC I L I' L') ?_ ?_ ⟨hC0, hf0⟩) rfl rfl rfl
    · rintro t ht I1 L1 ⟨hC1, hf1⟩ ih
      have o0 : olI (S.wR z v).d (S.wR z v).D.X t 0 = nI (mkN S.D.X t) := rfl
      have hmk := mkN_16 S.D.X t
      have h16 := wo_16 hd S.D.X t
      have hcl := cnN_le (wzB S.d S.D.X) t
      -- behind 'ok'
      have h375 : ∀ I' L', Lq (S.wR z v) I' L' → frC I L I' L' → xGo mL_matched csL_matched 375 Q [some (.ref 1), some (.ref 0), some (.ref 27), none, none, none, none, some (.int (nI 1)), some (.int few), some (.int (nI who)), some (.int (nI (cnN (wzB S.d S.D.X) t))), some (.int (nI t)), none, none, none, none] [] 0 (e9 + 27) I' L' xP0 := by
        intro I2 L2 hC2 hf2
        refine xrun okL_matched hhL_matched [(313, [true, true, true, false, false, false, false, true, true, true, true, true, false, false, false, false])] 60 ?_
        refine ⟨rfl, rfl, S.wR z v, t, 0, rfl, ht, by decide, hC2, fun I3 L3 hf3 hC3 => ?_⟩
        rw [o0]
        obtain ⟨t3, hC3⟩ := hC3
        refine ⟨rfl, rfl, (S.wR z v).wT t3, _, rfl, hC3, fun o S4 I4 L4 hr4 hf4 hC4 => ?_⟩
        have hz9 := whoR_v hr4 hmk
        simp only [wT_d, wT_D, wT_kp, wT_rz, wT_rv, wR_d, wR_D, wR_kp, wR_rz, wR_rv, wC_d, wC_D, wC_kp, wC_rz, wC_rv, wD_d, wD_D, wD_kp, wD_rz, wD_rv] at hz9
        obtain ⟨q1, q2⟩ : o = nI (woN S.d S.D.X t) ∧ S4 = (S.wR z v).wT t3 := hz9
        subst q1
        subst q2
        have hf5 := frC_t hf2 (frC_t hf3 hf4)
        by_cases h0 : woN S.d S.D.X t = 0
        · have e : wzB S.d S.D.X t = true := decide_eq_true h0
          rw [h0]
          refine xbr_t rfl ?_
          refine xgo_eq (ih _ _ ⟨⟨t3, hC4⟩, hf5⟩) ?_ rfl rfl
          ((repeat' (first | (with_reducible rfl) | exact xv_nil | refine xv_cons ?_ ?_ | refine xv_i ?_ | refine xv_l ?_)) <;> (simp (disch := omega) only [↓reduceIte, Bool.false_eq_true, Nat.one_mul, Nat.zero_mul, Nat.or_zero, Nat.add_zero, Nat.zero_add, Bool.toNat_true, Bool.toNat_false, shl_n, shr_n, fa_and, fa_or, nx_xor, nI_add, nI_mul, nI_sub', and_1, and_7, and_3', and_15, cnN, e]))
        · have e : wzB S.d S.D.X t = false := decide_eq_false h0
          refine xbr_f (fun q => h0 ((nI_eq (b := 0) (by omega) (by decide)).mp q)) ?_
          refine xgo_eq (ih _ _ ⟨⟨t3, hC4⟩, hf5⟩) ?_ rfl rfl
          ((repeat' (first | (with_reducible rfl) | exact xv_nil | refine xv_cons ?_ ?_ | refine xv_i ?_ | refine xv_l ?_)) <;> (simp (disch := omega) only [↓reduceIte, Bool.false_eq_true, Nat.one_mul, Nat.zero_mul, Nat.or_zero, Nat.add_zero, Nat.zero_add, Bool.toNat_true, Bool.toNat_false, shl_n, shr_n, fa_and, fa_or, nx_xor, nI_add, nI_mul, nI_sub', and_1, and_7, and_3', and_15, cnN, e]))
      refine xrun okL_matched hhL_matched [(375, [true, true, true, false, false, false, false, true, true, true, true, true, false, false, false, false])] 60 ?_
      refine ⟨vp1, ?_⟩
      rw [W1 hf1]
      (first | (refine xbr_f ?_ ?_; (focus ((simp (disch := omega) only [ix_lt, ix_le, ix_eq, ix_0, nI_clamp, nI_toInt, ng_T, nI_add, nI_mul, nI_sub', Int.neg_zero, not_false_eq_true, not_true_eq_false] <;> omega); done))) | (refine xbr_t ?_ ?_; (focus ((simp (disch := omega) only [ix_lt, ix_le, ix_eq, ix_0, nI_clamp, nI_toInt, ng_T, nI_add, nI_mul, nI_sub', Int.neg_zero, not_false_eq_true, not_true_eq_false] <;> omega); done))) | refine ⟨Or.inl rfl, ?_⟩ | refine ⟨Or.inr rfl, ?_⟩ | (refine ⟨?_, ?_⟩; (focus (exact in_nI (by omega) (by omega)))))
      (first | (refine xbr_f ?_ ?_; (focus ((simp (disch := omega) only [ix_lt, ix_le, ix_eq, ix_0, nI_clamp, nI_toInt, ng_T, nI_add, nI_mul, nI_sub', Int.neg_zero, not_false_eq_true, not_true_eq_false] <;> omega); done))) | (refine xbr_t ?_ ?_; (focus ((simp (disch := omega) only [ix_lt, ix_le, ix_eq, ix_0, nI_clamp, nI_toInt, ng_T, nI_add, nI_mul, nI_sub', Int.neg_zero, not_false_eq_true, not_true_eq_false] <;> omega); done))) | refine ⟨Or.inl rfl, ?_⟩ | refine ⟨Or.inr rfl, ?_⟩ | (refine ⟨?_, ?_⟩; (focus (exact in_nI (by omega) (by omega)))))
      refine ⟨rfl, rfl, S.wR z v, t, 0, rfl, ht, by decide, hC1, fun I3 L3 hf3 hC3 => ?_⟩
      rw [o0]
      obtain ⟨t3, hC3⟩ := hC3
      refine ⟨rfl, rfl, (S.wR z v).wT t3, _, rfl, hC3, fun o S4 I4 L4 hr4 hf4 hC4 => ?_⟩
      have hz9 := whoR_v hr4 hmk
      simp only [wT_d, wT_D, wT_kp, wT_rz, wT_rv, wR_d, wR_D, wR_kp, wR_rz, wR_rv, wC_d, wC_D, wC_kp, wC_rz, wC_rv, wD_d, wD_D, wD_kp, wD_rz, wD_rv] at hz9
      obtain ⟨q1, q2⟩ : o = nI (woN S.d S.D.X t) ∧ S4 = (S.wR z v).wT t3 := hz9
      subst q1
      subst q2
      have go := h375 I4 L4 ⟨t3, hC4⟩ (frC_t hf1 (frC_t hf3 hf4))
      rcases hk with ⟨rfl, rfl, _⟩ | ⟨rfl, k2, k3, _⟩
      · refine xbr_t ((and_0 (by omega)).mpr (Nat.and_zero _)) ?_
        (first | (refine xbr_f ?_ ?_; (focus ((simp (disch := omega) only [ix_lt, ix_le, ix_eq, ix_0, nI_clamp, nI_toInt, ng_T, nI_add, nI_mul, nI_sub', Int.neg_zero, not_false_eq_true, not_true_eq_false] <;> omega); done))) | (refine xbr_t ?_ ?_; (focus ((simp (disch := omega) only [ix_lt, ix_le, ix_eq, ix_0, nI_clamp, nI_toInt, ng_T, nI_add, nI_mul, nI_sub', Int.neg_zero, not_false_eq_true, not_true_eq_false] <;> omega); done))) | refine ⟨Or.inl rfl, ?_⟩ | refine ⟨Or.inr rfl, ?_⟩ | (refine ⟨?_, ?_⟩; (focus (exact in_nI (by omega) (by omega)))))
        refine xbr_t rfl ?_
        exact go
      · refine xbr_f (fun q => k3 t ht ((and_0 (by omega)).mp q)) ?_
        have hp4 := pc_4 who hwho
        (first | (refine xbr_f ?_ ?_; (focus ((simp (disch := omega) only [ix_lt, ix_le, ix_eq, ix_0, nI_clamp, nI_toInt, ng_T, nI_add, nI_mul, nI_sub', Int.neg_zero, not_false_eq_true, not_true_eq_false] <;> omega); done))) | (refine xbr_t ?_ ?_; (focus ((simp (disch := omega) only [ix_lt, ix_le, ix_eq, ix_0, nI_clamp, nI_toInt, ng_T, nI_add, nI_mul, nI_sub', Int.neg_zero, not_false_eq_true, not_true_eq_false] <;> omega); done))) | refine ⟨Or.inl rfl, ?_⟩ | refine ⟨Or.inr rfl, ?_⟩ | (refine ⟨?_, ?_⟩; (focus (exact in_nI (by omega) (by omega)))))
        refine xbr_t rfl ?_
        exact go
    · rintro I1 L1 ⟨hC1, hf1⟩
      have hcl := cnN_le (wzB S.d S.D.X) S.d.nL
      have hp4 := pc_4 who hwho
      refine xrun okL_matched hhL_matched [(457, [true, true, true, false, false, false, false, true, true, true, true, true, false, false, false, false])] 80 ?_
      refine ⟨vp1, ?_⟩
      rw [W1 hf1]
      (first | (refine xbr_f ?_ ?_; (focus ((simp (disch := omega) only [ix_lt, ix_le, ix_eq, ix_0, nI_clamp, nI_toInt, ng_T, nI_add, nI_mul, nI_sub', Int.neg_zero, not_false_eq_true, not_true_eq_false] <;> omega); done))) | (refine xbr_t ?_ ?_; (focus ((simp (disch := omega) only [ix_lt, ix_le, ix_eq, ix_0, nI_clamp, nI_toInt, ng_T, nI_add, nI_mul, nI_sub', Int.neg_zero, not_false_eq_true, not_true_eq_false] <;> omega); done))) | refine ⟨Or.inl rfl, ?_⟩ | refine ⟨Or.inr rfl, ?_⟩ | (refine ⟨?_, ?_⟩; (focus (exact in_nI (by omega) (by omega)))))
      (first | (refine xbr_f ?_ ?_; (focus ((simp (disch := omega) only [ix_lt, ix_le, ix_eq, ix_0, nI_clamp, nI_toInt, ng_T, nI_add, nI_mul, nI_sub', Int.neg_zero, not_false_eq_true, not_true_eq_false] <;> omega); done))) | (refine xbr_t ?_ ?_; (focus ((simp (disch := omega) only [ix_lt, ix_le, ix_eq, ix_0, nI_clamp, nI_toInt, ng_T, nI_add, nI_mul, nI_sub', Int.neg_zero, not_false_eq_true, not_true_eq_false] <;> omega); done))) | refine ⟨Or.inl rfl, ?_⟩ | refine ⟨Or.inr rfl, ?_⟩ | (refine ⟨?_, ?_⟩; (focus (exact in_nI (by omega) (by omega)))))
      rcases hk with ⟨rfl, rfl, k3⟩ | ⟨rfl, k2, k3, k4, k5⟩
      · (first | (refine xbr_f ?_ ?_; (focus ((simp (disch := omega) only [ix_lt, ix_le, ix_eq, ix_0, nI_clamp, nI_toInt, ng_T, nI_add, nI_mul, nI_sub', Int.neg_zero, not_false_eq_true, not_true_eq_false] <;> omega); done))) | (refine xbr_t ?_ ?_; (focus ((simp (disch := omega) only [ix_lt, ix_le, ix_eq, ix_0, nI_clamp, nI_toInt, ng_T, nI_add, nI_mul, nI_sub', Int.neg_zero, not_false_eq_true, not_true_eq_false] <;> omega); done))) | refine ⟨Or.inl rfl, ?_⟩ | refine ⟨Or.inr rfl, ?_⟩ | (refine ⟨?_, ?_⟩; (focus (exact in_nI (by omega) (by omega)))))
        (first | (refine xbr_f ?_ ?_; (focus ((simp (disch := omega) only [ix_lt, ix_le, ix_eq, ix_0, nI_clamp, nI_toInt, ng_T, nI_add, nI_mul, nI_sub', Int.neg_zero, not_false_eq_true, not_true_eq_false] <;> omega); done))) | (refine xbr_t ?_ ?_; (focus ((simp (disch := omega) only [ix_lt, ix_le, ix_eq, ix_0, nI_clamp, nI_toInt, ng_T, nI_add, nI_mul, nI_sub', Int.neg_zero, not_false_eq_true, not_true_eq_false] <;> omega); done))) | refine ⟨Or.inl rfl, ?_⟩ | refine ⟨Or.inr rfl, ?_⟩ | (refine ⟨?_, ?_⟩; (focus (exact in_nI (by omega) (by omega)))))
        exact h457 z v I1 L1 _ _ _ _ hC1 hf1
      · (first | (refine xbr_f ?_ ?_; (focus ((simp (disch := omega) only [ix_lt, ix_le, ix_eq, ix_0, nI_clamp, nI_toInt, ng_T, nI_add, nI_mul, nI_sub', Int.neg_zero, not_false_eq_true, not_true_eq_false] <;> omega); done))) | (refine xbr_t ?_ ?_; (focus ((simp (disch := omega) only [ix_lt, ix_le, ix_eq, ix_0, nI_clamp, nI_toInt, ng_T, nI_add, nI_mul, nI_sub', Int.neg_zero, not_false_eq_true, not_true_eq_false] <;> omega); done))) | refine ⟨Or.inl rfl, ?_⟩ | refine ⟨Or.inr rfl, ?_⟩ | (refine ⟨?_, ?_⟩; (focus (exact in_nI (by omega) (by omega)))))
        rw [k4]
        refine xbr_t rfl ?_
        refine ⟨rfl, rfl, who, rfl, by omega, ?_⟩
        rw [cn_pc16 _ hwho]
        refine xbr_t rfl ?_
        refine ⟨vp0, ?_⟩
        have hA2 : 2 ^ S.d.nA ≤ 16 := Nat.pow_le_pow_right (n := 2) (j := 4) (by decide) h4
        rw [W0 hf1]
        have esh : nI 1 <<< (nI S.d.nA &&& 31) = nI (2 ^ S.d.nA) := by rw [shl_n 1 (by omega), Nat.one_mul]
        refine xbr_f (by rw [esh, ix_le, nI_toInt (by omega), nI_toInt (by omega)]; omega) ?_
        have go := h457 z v I1 L1 (nI (pcf 32 who)) (nI who) (nI 0) (nI S.d.nL) hC1 hf1
        exact go
  have h286 : ∀ z v I' L', Lq (S.wR z v) I' L' → frC I L I' L' → xGo mL_matched csL_matched 286 Q [some (.ref 1), some (.ref 0), some (.ref 27), none, none, none, none, some (.int (nI 1)), none, none, none, none, none, none, none, none] [] 0 (e9 + 27) I' L' xP0 := by
    rintro z v I0 L0 ⟨t0, hC0⟩ hf0
    have hA2 : 2 ^ S.d.nA ≤ 16 := Nat.pow_le_pow_right (n := 2) (j := 4) (by decide) h4
    have hA1 := Nat.two_pow_pos S.d.nA
    refine xrun okL_matched hhL_matched [(313, [true, true, true, false, false, false, false, true, true, true, true, true, false, false, false, false])] 60 ?_
    refine ⟨rfl, rfl, (S.wR z v).wT t0, rfl, hC0, fun o S1 I1 L1 hr1 hf1 hC1 => ?_⟩
    have hz9 := coverR_v hr1 hA
    simp only [wT_d, wT_D, wT_kp, wT_rz, wT_rv, wR_d, wR_D, wR_kp, wR_rz, wR_rv, wC_d, wC_D, wC_kp, wC_rz, wC_rv, wD_d, wD_D, wD_kp, wD_rz, wD_rv] at hz9
    have hcr : ((fsN S.d S.D.X (2 ^ S.d.nA)).1 = 0 ∧ o = -(nI 9) ∧ S1 = (S.wR z v).wT t0) ∨ (∃ u, (fsN S.d S.D.X (2 ^ S.d.nA)).1 = u + 1 ∧ o = nI (pcf 32 u) ∧ S1 = (S.wR z v).wT (nI u)) := hz9
    have hfs := fs_sp hd S.D.X (2 ^ S.d.nA) hA2
    rcases hcr with ⟨p1, rfl, rfl⟩ | ⟨u, p1, rfl, rfl⟩
    · have hex : 0 < cnN (wzB S.d S.D.X) S.d.nL := by
        rcases hfs with ⟨_, _, h3⟩ | ⟨u, h1, _⟩
        · have h4 := h3 (2 ^ S.d.nA - 1) (by omega)
          by_cases q : cnN (wzB S.d S.D.X) S.d.nL = 0
          · have : cvB S.d S.D.X (2 ^ S.d.nA - 1) = true := cv_iff.mpr (fun l hl => by
              rw [bs_all]
              intro e
              have := cn_pos (f := wzB S.d S.D.X) hl (decide_eq_true e)
              omega)
            rw [this] at h4
            cases h4
          · omega
        · omega
      (first | (refine xbr_f ?_ ?_; (focus ((simp (disch := omega) only [ix_lt, ix_le, ix_eq, ix_0, nI_clamp, nI_toInt, ng_T, nI_add, nI_mul, nI_sub', Int.neg_zero, not_false_eq_true, not_true_eq_false] <;> omega); done))) | (refine xbr_t ?_ ?_; (focus ((simp (disch := omega) only [ix_lt, ix_le, ix_eq, ix_0, nI_clamp, nI_toInt, ng_T, nI_add, nI_mul, nI_sub', Int.neg_zero, not_false_eq_true, not_true_eq_false] <;> omega); done))) | refine ⟨Or.inl rfl, ?_⟩ | refine ⟨Or.inr rfl, ?_⟩ | (refine ⟨?_, ?_⟩; (focus (exact in_nI (by omega) (by omega)))))
      exact h313 (-(nI 9)) 0 z v I1 L1 (by decide) (Or.inl ⟨rfl, rfl, hex⟩) ⟨t0, hC1⟩ (frC_t hf0 hf1)
    · rcases hfs with ⟨h1, _⟩ | ⟨u', h1, h2, h3, _⟩
      · omega
      · obtain rfl : u' = u := by omega
        have hcv := cv_iff.mp h3
        have hu0 : u' ≠ 0 := fun q => hcv 0 hL (by rw [q, Nat.and_zero])
        have hpp : 0 < pcf 32 u' := pcf_pos (Nat.lt_of_lt_of_le h2 (Nat.le_trans hA2 (by decide))) hu0
        have hp4 := pc_4 u' (by omega)
        (first | (refine xbr_f ?_ ?_; (focus ((simp (disch := omega) only [ix_lt, ix_le, ix_eq, ix_0, nI_clamp, nI_toInt, ng_T, nI_add, nI_mul, nI_sub', Int.neg_zero, not_false_eq_true, not_true_eq_false] <;> omega); done))) | (refine xbr_t ?_ ?_; (focus ((simp (disch := omega) only [ix_lt, ix_le, ix_eq, ix_0, nI_clamp, nI_toInt, ng_T, nI_add, nI_mul, nI_sub', Int.neg_zero, not_false_eq_true, not_true_eq_false] <;> omega); done))) | refine ⟨Or.inl rfl, ?_⟩ | refine ⟨Or.inr rfl, ?_⟩ | (refine ⟨?_, ?_⟩; (focus (exact in_nI (by omega) (by omega)))))
        refine ⟨rfl, rfl, _, rfl, hC1, ?_⟩
        refine h313 (nI (pcf 32 u')) u' z v I1 L1 (by omega) (Or.inr ⟨rfl, hpp, hcv, cn_0 (fun l hl => decide_eq_false (fun q => ?_)), h2⟩) ⟨_, hC1⟩ (frC_t hf0 hf1)
        refine hcv l hl ?_
        have q : bsN (fun i => wtB S.d S.D.X i (mkN S.D.X l)) S.d.nA = 0 := q
        rw [q, Nat.zero_and]
  -- the match
  obtain ⟨t0, hC0⟩ := hC
  refine xrun okL_matched hhL_matched [(29, [true, true, true, true, true, true, true, true, true, false, false, false, false, false, false, false])] 60 ?_
  refine ⟨rfl, rfl, S.wT t0, _, rfl, hC0, fun o S1 I1 L1 hr1 hf1 hC1 => ?_⟩
  have hz9 := matchR_v hr1 (by decide) hA
  simp only [wT_d, wT_D, wT_kp, wT_rz, wT_rv, wR_d, wR_D, wR_kp, wR_rz, wR_rv, wC_d, wC_D, wC_kp, wC_rz, wC_rv, wD_d, wD_D, wD_kp, wD_rz, wD_rv] at hz9
  obtain ⟨q1, q2⟩ : o = nI (vN S.d S.D.X S.d.nA 0) ∧ S1 = (S.wR (fun t => if t = 3 then S.d.nA + 1 else S.rz t) (mtV S 3)).wT t0 := hz9
  subst q1
  subst q2
  (first | (refine xbr_f ?_ ?_; (focus ((simp (disch := omega) only [ix_lt, ix_le, ix_eq, ix_0, nI_clamp, nI_toInt, ng_T, nI_add, nI_mul, nI_sub', Int.neg_zero, not_false_eq_true, not_true_eq_false] <;> omega); done))) | (refine xbr_t ?_ ?_; (focus ((simp (disch := omega) only [ix_lt, ix_le, ix_eq, ix_0, nI_clamp, nI_toInt, ng_T, nI_add, nI_mul, nI_sub', Int.neg_zero, not_false_eq_true, not_true_eq_false] <;> omega); done))) | refine ⟨Or.inl rfl, ?_⟩ | refine ⟨Or.inr rfl, ?_⟩ | (refine ⟨?_, ?_⟩; (focus (exact in_nI (by omega) (by omega)))))
  refine xgo_eq (xlpW (M := mL_matched) (cs := csL_matched) (pc := 29) S.d.nA (fun i => [some (.ref 1), some (.ref 0), some (.ref 27), some (.int (nI (vN S.d S.D.X S.d.nA 0))), some (.int (nI (gsN S.d S.D.X i))), some (.int (nI (lsM S.d S.D.X i))), some (.int (nI (gvN S.d S.D.X i))), some (.int (nI 1)), some (.int (nI i)), none, none, none, none, none, none, none]) (fun i I' L' => Lq (S.wR (fun t => if t = 3 then S.d.nA + 1 else S.rz t) (mtV S 3)) I' L' ∧ frC I L I' L') ?_ ?_ ⟨⟨t0, hC1⟩, hf1⟩) rfl rfl rfl
  · rintro i hi I2 L2 ⟨⟨t2, hC2⟩, hf2⟩ ih
    have hgs := gs_le (d := S.d) S.D.X i
    have hgv := gvN_lt hd S.D.X i
    have hcl := coN_le S.d S.D.X 15 i
    have hin := inN_8 S.D.X i
    have o0 : ∀ l, olI (S.wR (fun t => if t = 3 then S.d.nA + 1 else S.rz t) (mtV S 3)).d (S.wR (fun t => if t = 3 then S.d.nA + 1 else S.rz t) (mtV S 3)).D.X l 0 = nI (mkN S.D.X l) := fun _ => rfl
    have o1 : ∀ l, olI (S.wR (fun t => if t = 3 then S.d.nA + 1 else S.rz t) (mtV S 3)).d (S.wR (fun t => if t = 3 then S.d.nA + 1 else S.rz t) (mtV S 3)).D.X l 1 = nI (plN S.D.X l) := fun _ => rfl
    have o3 : ∀ l, olI (S.wR (fun t => if t = 3 then S.d.nA + 1 else S.rz t) (mtV S 3)).d (S.wR (fun t => if t = 3 then S.d.nA + 1 else S.rz t) (mtV S 3)).D.X l 3 = bI (hmB S.d S.D.X l) := fun _ => rfl
    have oa2 : oaI (S.wR (fun t => if t = 3 then S.d.nA + 1 else S.rz t) (mtV S 3)).d (S.wR (fun t => if t = 3 then S.d.nA + 1 else S.rz t) (mtV S 3)).D.X i 2 = nI (inN S.D.X i) := rfl
    have oa3 : oaI (S.wR (fun t => if t = 3 then S.d.nA + 1 else S.rz t) (mtV S 3)).d (S.wR (fun t => if t = 3 then S.d.nA + 1 else S.rz t) (mtV S 3)).D.X i 3 = cI (coN S.d S.D.X 15 i) := oa_3 hd hi
    have egs : gsN S.d S.D.X (i + 1) = gsN S.d S.D.X i + (if gmN S.d S.D.X i = 0 then 0 else lkN (kdN S.d i) (meN S.D.X i) (mkN S.D.X (gmN S.d S.D.X i - 1))) := rfl
    have els : lsM S.d S.D.X (i + 1) = lsM S.d S.D.X i + (if coN S.d S.D.X 15 i = 0 then 0 else lkN (kdN S.d i) (meN S.D.X i) (mkN S.D.X (coN S.d S.D.X 15 i - 1))) := rfl
    have egv : gvN S.d S.D.X (i + 1) = if gmN S.d S.D.X i = 0 then gvN S.d S.D.X i else gvN S.d S.D.X i ||| 2 ^ (gmN S.d S.D.X i - 1) := gvN_s _ _ _
    -- behind the line's
    have h112 : ∀ I' L', Lq (S.wR (fun t => if t = 3 then S.d.nA + 1 else S.rz t) (mtV S 3)) I' L' → frC I L I' L' → xGo mL_matched csL_matched 112 Q [some (.ref 1), some (.ref 0), some (.ref 27), some (.int (nI (vN S.d S.D.X S.d.nA 0))), some (.int (nI (gsN S.d S.D.X i))), some (.int (nI (lsM S.d S.D.X (i + 1)))), some (.int (nI (gvN S.d S.D.X i))), some (.int (nI 1)), some (.int (nI i)), some (.int (cI (gmN S.d S.D.X i))), none, none, none, none, none, none] [] 0 (e9 + 27) I' L' xP0 := by
      intro I3 L3 hC3 hf3
      refine xrun okL_matched hhL_matched [(29, [true, true, true, true, true, true, true, true, true, false, false, false, false, false, false, false])] 120 ?_
      (first | (refine xbr_f ?_ ?_; (focus ((simp (disch := omega) only [ix_lt, ix_le, ix_eq, ix_0, nI_clamp, nI_toInt, ng_T, nI_add, nI_mul, nI_sub', Int.neg_zero, not_false_eq_true, not_true_eq_false] <;> omega); done))) | (refine xbr_t ?_ ?_; (focus ((simp (disch := omega) only [ix_lt, ix_le, ix_eq, ix_0, nI_clamp, nI_toInt, ng_T, nI_add, nI_mul, nI_sub', Int.neg_zero, not_false_eq_true, not_true_eq_false] <;> omega); done))) | refine ⟨Or.inl rfl, ?_⟩ | refine ⟨Or.inr rfl, ?_⟩ | (refine ⟨?_, ?_⟩; (focus (exact in_nI (by omega) (by omega)))))
      rcases hg : gmN S.d S.D.X i with _ | l
      · rw [hg, if_pos rfl] at egs egv
        rw [cI_0]
        (first | (refine xbr_f ?_ ?_; (focus ((simp (disch := omega) only [ix_lt, ix_le, ix_eq, ix_0, nI_clamp, nI_toInt, ng_T, nI_add, nI_mul, nI_sub', Int.neg_zero, not_false_eq_true, not_true_eq_false] <;> omega); done))) | (refine xbr_t ?_ ?_; (focus ((simp (disch := omega) only [ix_lt, ix_le, ix_eq, ix_0, nI_clamp, nI_toInt, ng_T, nI_add, nI_mul, nI_sub', Int.neg_zero, not_false_eq_true, not_true_eq_false] <;> omega); done))) | refine ⟨Or.inl rfl, ?_⟩ | refine ⟨Or.inr rfl, ?_⟩ | (refine ⟨?_, ?_⟩; (focus (exact in_nI (by omega) (by omega)))))
        (first | (refine xbr_f ?_ ?_; (focus ((simp (disch := omega) only [ix_lt, ix_le, ix_eq, ix_0, nI_clamp, nI_toInt, ng_T, nI_add, nI_mul, nI_sub', Int.neg_zero, not_false_eq_true, not_true_eq_false] <;> omega); done))) | (refine xbr_t ?_ ?_; (focus ((simp (disch := omega) only [ix_lt, ix_le, ix_eq, ix_0, nI_clamp, nI_toInt, ng_T, nI_add, nI_mul, nI_sub', Int.neg_zero, not_false_eq_true, not_true_eq_false] <;> omega); done))) | refine ⟨Or.inl rfl, ?_⟩ | refine ⟨Or.inr rfl, ?_⟩ | (refine ⟨?_, ?_⟩; (focus (exact in_nI (by omega) (by omega)))))
        (first | (refine xbr_f ?_ ?_; (focus ((simp (disch := omega) only [ix_lt, ix_le, ix_eq, ix_0, nI_clamp, nI_toInt, ng_T, nI_add, nI_mul, nI_sub', Int.neg_zero, not_false_eq_true, not_true_eq_false] <;> omega); done))) | (refine xbr_t ?_ ?_; (focus ((simp (disch := omega) only [ix_lt, ix_le, ix_eq, ix_0, nI_clamp, nI_toInt, ng_T, nI_add, nI_mul, nI_sub', Int.neg_zero, not_false_eq_true, not_true_eq_false] <;> omega); done))) | refine ⟨Or.inl rfl, ?_⟩ | refine ⟨Or.inr rfl, ?_⟩ | (refine ⟨?_, ?_⟩; (focus (exact in_nI (by omega) (by omega)))))
        (first | (refine xbr_f ?_ ?_; (focus ((simp (disch := omega) only [ix_lt, ix_le, ix_eq, ix_0, nI_clamp, nI_toInt, ng_T, nI_add, nI_mul, nI_sub', Int.neg_zero, not_false_eq_true, not_true_eq_false] <;> omega); done))) | (refine xbr_t ?_ ?_; (focus ((simp (disch := omega) only [ix_lt, ix_le, ix_eq, ix_0, nI_clamp, nI_toInt, ng_T, nI_add, nI_mul, nI_sub', Int.neg_zero, not_false_eq_true, not_true_eq_false] <;> omega); done))) | refine ⟨Or.inl rfl, ?_⟩ | refine ⟨Or.inr rfl, ?_⟩ | (refine ⟨?_, ?_⟩; (focus (exact in_nI (by omega) (by omega)))))
        (first | (refine xbr_f ?_ ?_; (focus ((simp (disch := omega) only [ix_lt, ix_le, ix_eq, ix_0, nI_clamp, nI_toInt, ng_T, nI_add, nI_mul, nI_sub', Int.neg_zero, not_false_eq_true, not_true_eq_false] <;> omega); done))) | (refine xbr_t ?_ ?_; (focus ((simp (disch := omega) only [ix_lt, ix_le, ix_eq, ix_0, nI_clamp, nI_toInt, ng_T, nI_add, nI_mul, nI_sub', Int.neg_zero, not_false_eq_true, not_true_eq_false] <;> omega); done))) | refine ⟨Or.inl rfl, ?_⟩ | refine ⟨Or.inr rfl, ?_⟩ | (refine ⟨?_, ?_⟩; (focus (exact in_nI (by omega) (by omega)))))
        refine xgo_eq (ih _ _ ⟨hC3, hf3⟩) ?_ rfl rfl
        ((repeat' (first | (with_reducible rfl) | exact xv_nil | refine xv_cons ?_ ?_ | refine xv_i ?_ | refine xv_l ?_)) <;> (simp (disch := omega) only [↓reduceIte, Bool.false_eq_true, Nat.one_mul, Nat.zero_mul, Nat.or_zero, Nat.add_zero, Nat.zero_add, Bool.toNat_true, Bool.toNat_false, shl_n, shr_n, fa_and, fa_or, nx_xor, nI_add, nI_mul, nI_sub', and_1, and_7, and_3', and_15, egs, egv]))
      · obtain ⟨g1, g2, g3, g4, g5, -⟩ := gm_l hd hi hg
        rw [hg, if_neg (by omega)] at egs egv
        have egs : gsN S.d S.D.X (i + 1) = gsN S.d S.D.X i + lkN (kdN S.d i) (meN S.D.X i) (mkN S.D.X l) := egs
        have egv : gvN S.d S.D.X (i + 1) = gvN S.d S.D.X i ||| 2 ^ l := egv
        have hmk := mkN_16 S.D.X l
        have hpl := plN_8 S.D.X l
        have hlk := lkN_le (k := kdN S.d i) (m := meN S.D.X i) (x := mkN S.D.X l) (meN_16 S.D.X i)
        rw [cI_s]
        (first | (refine xbr_f ?_ ?_; (focus ((simp (disch := omega) only [ix_lt, ix_le, ix_eq, ix_0, nI_clamp, nI_toInt, ng_T, nI_add, nI_mul, nI_sub', Int.neg_zero, not_false_eq_true, not_true_eq_false] <;> omega); done))) | (refine xbr_t ?_ ?_; (focus ((simp (disch := omega) only [ix_lt, ix_le, ix_eq, ix_0, nI_clamp, nI_toInt, ng_T, nI_add, nI_mul, nI_sub', Int.neg_zero, not_false_eq_true, not_true_eq_false] <;> omega); done))) | refine ⟨Or.inl rfl, ?_⟩ | refine ⟨Or.inr rfl, ?_⟩ | (refine ⟨?_, ?_⟩; (focus (exact in_nI (by omega) (by omega)))))
        (first | (refine xbr_f ?_ ?_; (focus ((simp (disch := omega) only [ix_lt, ix_le, ix_eq, ix_0, nI_clamp, nI_toInt, ng_T, nI_add, nI_mul, nI_sub', Int.neg_zero, not_false_eq_true, not_true_eq_false] <;> omega); done))) | (refine xbr_t ?_ ?_; (focus ((simp (disch := omega) only [ix_lt, ix_le, ix_eq, ix_0, nI_clamp, nI_toInt, ng_T, nI_add, nI_mul, nI_sub', Int.neg_zero, not_false_eq_true, not_true_eq_false] <;> omega); done))) | refine ⟨Or.inl rfl, ?_⟩ | refine ⟨Or.inr rfl, ?_⟩ | (refine ⟨?_, ?_⟩; (focus (exact in_nI (by omega) (by omega)))))
        refine ⟨vp1, ?_⟩
        rw [W1 hf3]
        (first | (refine xbr_f ?_ ?_; (focus ((simp (disch := omega) only [ix_lt, ix_le, ix_eq, ix_0, nI_clamp, nI_toInt, ng_T, nI_add, nI_mul, nI_sub', Int.neg_zero, not_false_eq_true, not_true_eq_false] <;> omega); done))) | (refine xbr_t ?_ ?_; (focus ((simp (disch := omega) only [ix_lt, ix_le, ix_eq, ix_0, nI_clamp, nI_toInt, ng_T, nI_add, nI_mul, nI_sub', Int.neg_zero, not_false_eq_true, not_true_eq_false] <;> omega); done))) | refine ⟨Or.inl rfl, ?_⟩ | refine ⟨Or.inr rfl, ?_⟩ | (refine ⟨?_, ?_⟩; (focus (exact in_nI (by omega) (by omega)))))
        have eb : (nI (gvN S.d S.D.X i) >>> (nI l &&& 31)) &&& nI 1 = 0 := by rw [bit_i (by omega) (by omega), g2]; rfl
        (first | refine xbr_t eb ?_ | refine xbr_f eb ?_)
        refine ⟨rfl, rfl, (S.wR (fun t => if t = 3 then S.d.nA + 1 else S.rz t) (mtV S 3)), l, 1, rfl, g1, by decide, hC3, fun I4 L4 hf4 hC4 => ?_⟩
        rw [o1]
        refine ⟨rfl, rfl, (S.wR (fun t => if t = 3 then S.d.nA + 1 else S.rz t) (mtV S 3)), i, 2, rfl, hi, by decide, hC4, fun I5 L5 hf5 hC5 => ?_⟩
        rw [oa2]
        refine xbr_t (congrArg nI g3) ?_
        refine ⟨rfl, rfl, (S.wR (fun t => if t = 3 then S.d.nA + 1 else S.rz t) (mtV S 3)), l, 3, rfl, g1, by decide, hC5, fun I6 L6 hf6 hC6 => ?_⟩
        rw [o3, show hmB S.d S.D.X l = false from decide_eq_false g4]
        refine xbr_t rfl ?_
        refine ⟨rfl, rfl, (S.wR (fun t => if t = 3 then S.d.nA + 1 else S.rz t) (mtV S 3)), l, 0, rfl, g1, by decide, hC6, fun I7 L7 hf7 hC7 => ?_⟩
        rw [o0]
        obtain ⟨t7, hC7⟩ := hC7
        refine ⟨rfl, rfl, (S.wR (fun t => if t = 3 then S.d.nA + 1 else S.rz t) (mtV S 3)).wT t7, _, rfl, hC7, fun o S8 I8 L8 hr8 hf8 hC8 => ?_⟩
        have hz9 := whoR_v hr8 hmk
        simp only [wT_d, wT_D, wT_kp, wT_rz, wT_rv, wR_d, wR_D, wR_kp, wR_rz, wR_rv, wC_d, wC_D, wC_kp, wC_rz, wC_rv, wD_d, wD_D, wD_kp, wD_rz, wD_rv] at hz9
        obtain ⟨q1, q2⟩ : o = nI (woN S.d S.D.X l) ∧ S8 = (S.wR (fun t => if t = 3 then S.d.nA + 1 else S.rz t) (mtV S 3)).wT t7 := hz9
        subst q1
        subst q2
        have h16 := wo_16 hd S.D.X l
        have ew : (nI (woN S.d S.D.X l) >>> (nI i &&& 31)) &&& nI 1 = nI 1 := by
          rw [bit_i (by omega) (by omega), show tbB (woN S.d S.D.X l) i = wtB S.d S.D.X i (mkN S.D.X l) from tb_bs hi, g5]
          rfl
        refine xbr_t ew ?_
        (first | (refine xbr_f ?_ ?_; (focus ((simp (disch := omega) only [ix_lt, ix_le, ix_eq, ix_0, nI_clamp, nI_toInt, ng_T, nI_add, nI_mul, nI_sub', Int.neg_zero, not_false_eq_true, not_true_eq_false] <;> omega); done))) | (refine xbr_t ?_ ?_; (focus ((simp (disch := omega) only [ix_lt, ix_le, ix_eq, ix_0, nI_clamp, nI_toInt, ng_T, nI_add, nI_mul, nI_sub', Int.neg_zero, not_false_eq_true, not_true_eq_false] <;> omega); done))) | refine ⟨Or.inl rfl, ?_⟩ | refine ⟨Or.inr rfl, ?_⟩ | (refine ⟨?_, ?_⟩; (focus (exact in_nI (by omega) (by omega)))))
        (first | (refine xbr_f ?_ ?_; (focus ((simp (disch := omega) only [ix_lt, ix_le, ix_eq, ix_0, nI_clamp, nI_toInt, ng_T, nI_add, nI_mul, nI_sub', Int.neg_zero, not_false_eq_true, not_true_eq_false] <;> omega); done))) | (refine xbr_t ?_ ?_; (focus ((simp (disch := omega) only [ix_lt, ix_le, ix_eq, ix_0, nI_clamp, nI_toInt, ng_T, nI_add, nI_mul, nI_sub', Int.neg_zero, not_false_eq_true, not_true_eq_false] <;> omega); done))) | refine ⟨Or.inl rfl, ?_⟩ | refine ⟨Or.inr rfl, ?_⟩ | (refine ⟨?_, ?_⟩; (focus (exact in_nI (by omega) (by omega)))))
        (first | (refine xbr_f ?_ ?_; (focus ((simp (disch := omega) only [ix_lt, ix_le, ix_eq, ix_0, nI_clamp, nI_toInt, ng_T, nI_add, nI_mul, nI_sub', Int.neg_zero, not_false_eq_true, not_true_eq_false] <;> omega); done))) | (refine xbr_t ?_ ?_; (focus ((simp (disch := omega) only [ix_lt, ix_le, ix_eq, ix_0, nI_clamp, nI_toInt, ng_T, nI_add, nI_mul, nI_sub', Int.neg_zero, not_false_eq_true, not_true_eq_false] <;> omega); done))) | refine ⟨Or.inl rfl, ?_⟩ | refine ⟨Or.inr rfl, ?_⟩ | (refine ⟨?_, ?_⟩; (focus (exact in_nI (by omega) (by omega)))))
        (first | (refine xbr_f ?_ ?_; (focus ((simp (disch := omega) only [ix_lt, ix_le, ix_eq, ix_0, nI_clamp, nI_toInt, ng_T, nI_add, nI_mul, nI_sub', Int.neg_zero, not_false_eq_true, not_true_eq_false] <;> omega); done))) | (refine xbr_t ?_ ?_; (focus ((simp (disch := omega) only [ix_lt, ix_le, ix_eq, ix_0, nI_clamp, nI_toInt, ng_T, nI_add, nI_mul, nI_sub', Int.neg_zero, not_false_eq_true, not_true_eq_false] <;> omega); done))) | refine ⟨Or.inl rfl, ?_⟩ | refine ⟨Or.inr rfl, ?_⟩ | (refine ⟨?_, ?_⟩; (focus (exact in_nI (by omega) (by omega)))))
        refine ⟨rfl, rfl, (S.wR (fun t => if t = 3 then S.d.nA + 1 else S.rz t) (mtV S 3)), l, 0, rfl, g1, by decide, ⟨t7, hC8⟩, fun I9 L9 hf9 hC9 => ?_⟩
        rw [o0]
        obtain ⟨t9, hC9⟩ := hC9
        refine ⟨rfl, rfl, (S.wR (fun t => if t = 3 then S.d.nA + 1 else S.rz t) (mtV S 3)).wT t9, _, _, rfl, hC9, fun o S10 I10 L10 hr10 hf10 hC10 => ?_⟩
        have hz9 := likeR_v hr10 hd hi hmk
        simp only [wT_d, wT_D, wT_kp, wT_rz, wT_rv, wR_d, wR_D, wR_kp, wR_rz, wR_rv, wC_d, wC_D, wC_kp, wC_rz, wC_rv, wD_d, wD_D, wD_kp, wD_rz, wD_rv] at hz9
        obtain ⟨q1, q2⟩ : o = nI (lkN (kdN S.d i) (meN S.D.X i) (mkN S.D.X l)) ∧ S10 = (S.wR (fun t => if t = 3 then S.d.nA + 1 else S.rz t) (mtV S 3)).wT t9 := hz9
        subst q1
        subst q2
        refine xgo_eq (ih _ _ ⟨⟨t9, hC10⟩, frC_t hf3 (frC_t hf4 (frC_t hf5 (frC_t hf6 (frC_t hf7 (frC_t hf8 (frC_t hf9 hf10))))))⟩) ?_ rfl rfl
        ((repeat' (first | (with_reducible rfl) | exact xv_nil | refine xv_cons ?_ ?_ | refine xv_i ?_ | refine xv_l ?_)) <;> (simp (disch := omega) only [↓reduceIte, Bool.false_eq_true, Nat.one_mul, Nat.zero_mul, Nat.or_zero, Nat.add_zero, Nat.zero_add, Bool.toNat_true, Bool.toNat_false, shl_n, shr_n, fa_and, fa_or, nx_xor, nI_add, nI_mul, nI_sub', and_1, and_7, and_3', and_15, egs, egv]))
    refine xrun okL_matched hhL_matched [(112, [true, true, true, true, true, true, true, true, true, true, false, false, false, false, false, false])] 60 ?_
    refine ⟨vp0, ?_⟩
    rw [W0 hf2]
    (first | (refine xbr_f ?_ ?_; (focus ((simp (disch := omega) only [ix_lt, ix_le, ix_eq, ix_0, nI_clamp, nI_toInt, ng_T, nI_add, nI_mul, nI_sub', Int.neg_zero, not_false_eq_true, not_true_eq_false] <;> omega); done))) | (refine xbr_t ?_ ?_; (focus ((simp (disch := omega) only [ix_lt, ix_le, ix_eq, ix_0, nI_clamp, nI_toInt, ng_T, nI_add, nI_mul, nI_sub', Int.neg_zero, not_false_eq_true, not_true_eq_false] <;> omega); done))) | refine ⟨Or.inl rfl, ?_⟩ | refine ⟨Or.inr rfl, ?_⟩ | (refine ⟨?_, ?_⟩; (focus (exact in_nI (by omega) (by omega)))))
    (first | (refine xbr_f ?_ ?_; (focus ((simp (disch := omega) only [ix_lt, ix_le, ix_eq, ix_0, nI_clamp, nI_toInt, ng_T, nI_add, nI_mul, nI_sub', Int.neg_zero, not_false_eq_true, not_true_eq_false] <;> omega); done))) | (refine xbr_t ?_ ?_; (focus ((simp (disch := omega) only [ix_lt, ix_le, ix_eq, ix_0, nI_clamp, nI_toInt, ng_T, nI_add, nI_mul, nI_sub', Int.neg_zero, not_false_eq_true, not_true_eq_false] <;> omega); done))) | refine ⟨Or.inl rfl, ?_⟩ | refine ⟨Or.inr rfl, ?_⟩ | (refine ⟨?_, ?_⟩; (focus (exact in_nI (by omega) (by omega)))))
    refine ⟨rfl, rfl, (S.wR (fun t => if t = 3 then S.d.nA + 1 else S.rz t) (mtV S 3)).wT t2, _, _, rfl, hC2, fun o S3 I3 L3 hr3 hf3 hC3 => ?_⟩
    have hz3 : ((S.wR (fun t => if t = 3 then S.d.nA + 1 else S.rz t) (mtV S 3)).wT t2).rz 3 = S.d.nA + 1 := rfl
    obtain ⟨r1, r2⟩ := atR_v hr3 (by decide) (by rw [hz3]; omega) (by rw [hz3]; omega)
    have hv3 : ((S.wR (fun t => if t = 3 then S.d.nA + 1 else S.rz t) (mtV S 3)).wT t2).rv (3 * 40 + i) = cI (gmN S.d S.D.X i) := by
      show mtV S 3 (3 * 40 + i) = _
      exact mt_v S 3 i hi
    rw [hv3] at r2
    subst r1
    subst r2
    refine xbr_t rfl ?_
    (first | (refine xbr_f ?_ ?_; (focus ((simp (disch := omega) only [ix_lt, ix_le, ix_eq, ix_0, nI_clamp, nI_toInt, ng_T, nI_add, nI_mul, nI_sub', Int.neg_zero, not_false_eq_true, not_true_eq_false] <;> omega); done))) | (refine xbr_t ?_ ?_; (focus ((simp (disch := omega) only [ix_lt, ix_le, ix_eq, ix_0, nI_clamp, nI_toInt, ng_T, nI_add, nI_mul, nI_sub', Int.neg_zero, not_false_eq_true, not_true_eq_false] <;> omega); done))) | refine ⟨Or.inl rfl, ?_⟩ | refine ⟨Or.inr rfl, ?_⟩ | (refine ⟨?_, ?_⟩; (focus (exact in_nI (by omega) (by omega)))))
    refine ⟨rfl, rfl, _, rfl, hC3, ?_⟩
    rw [to_T]
    refine ⟨rfl, rfl, (S.wR (fun t => if t = 3 then S.d.nA + 1 else S.rz t) (mtV S 3)), i, 3, rfl, hi, by decide, ⟨_, hC3⟩, fun I4 L4 hf4 hC4 => ?_⟩
    rw [oa3]
    have hf24 := frC_t hf2 (frC_t hf3 hf4)
    rcases hc : coN S.d S.D.X 15 i with _ | l
    · rw [hc, if_pos rfl] at els
      rw [cI_0]
      (first | (refine xbr_f ?_ ?_; (focus ((simp (disch := omega) only [ix_lt, ix_le, ix_eq, ix_0, nI_clamp, nI_toInt, ng_T, nI_add, nI_mul, nI_sub', Int.neg_zero, not_false_eq_true, not_true_eq_false] <;> omega); done))) | (refine xbr_t ?_ ?_; (focus ((simp (disch := omega) only [ix_lt, ix_le, ix_eq, ix_0, nI_clamp, nI_toInt, ng_T, nI_add, nI_mul, nI_sub', Int.neg_zero, not_false_eq_true, not_true_eq_false] <;> omega); done))) | refine ⟨Or.inl rfl, ?_⟩ | refine ⟨Or.inr rfl, ?_⟩ | (refine ⟨?_, ?_⟩; (focus (exact in_nI (by omega) (by omega)))))
      refine xgo_eq (h112 I4 L4 hC4 hf24) ?_ rfl rfl
      ((repeat' (first | (with_reducible rfl) | exact xv_nil | refine xv_cons ?_ ?_ | refine xv_i ?_ | refine xv_l ?_)) <;> (simp (disch := omega) only [↓reduceIte, Bool.false_eq_true, Nat.one_mul, Nat.zero_mul, Nat.or_zero, Nat.add_zero, Nat.zero_add, Bool.toNat_true, Bool.toNat_false, shl_n, shr_n, fa_and, fa_or, nx_xor, nI_add, nI_mul, nI_sub', and_1, and_7, and_3', and_15, els]))
    · have hln : l < S.d.nL := by omega
      rw [hc, if_neg (by omega)] at els
      have els : lsM S.d S.D.X (i + 1) = lsM S.d S.D.X i + lkN (kdN S.d i) (meN S.D.X i) (mkN S.D.X l) := els
      have hmk := mkN_16 S.D.X l
      rw [cI_s]
      (first | (refine xbr_f ?_ ?_; (focus ((simp (disch := omega) only [ix_lt, ix_le, ix_eq, ix_0, nI_clamp, nI_toInt, ng_T, nI_add, nI_mul, nI_sub', Int.neg_zero, not_false_eq_true, not_true_eq_false] <;> omega); done))) | (refine xbr_t ?_ ?_; (focus ((simp (disch := omega) only [ix_lt, ix_le, ix_eq, ix_0, nI_clamp, nI_toInt, ng_T, nI_add, nI_mul, nI_sub', Int.neg_zero, not_false_eq_true, not_true_eq_false] <;> omega); done))) | refine ⟨Or.inl rfl, ?_⟩ | refine ⟨Or.inr rfl, ?_⟩ | (refine ⟨?_, ?_⟩; (focus (exact in_nI (by omega) (by omega)))))
      refine ⟨rfl, rfl, (S.wR (fun t => if t = 3 then S.d.nA + 1 else S.rz t) (mtV S 3)), l, 0, rfl, hln, by decide, hC4, fun I5 L5 hf5 hC5 => ?_⟩
      rw [o0]
      obtain ⟨t5, hC5⟩ := hC5
      refine ⟨rfl, rfl, (S.wR (fun t => if t = 3 then S.d.nA + 1 else S.rz t) (mtV S 3)).wT t5, _, _, rfl, hC5, fun o S6 I6 L6 hr6 hf6 hC6 => ?_⟩
      have hz9 := likeR_v hr6 hd hi hmk
      simp only [wT_d, wT_D, wT_kp, wT_rz, wT_rv, wR_d, wR_D, wR_kp, wR_rz, wR_rv, wC_d, wC_D, wC_kp, wC_rz, wC_rv, wD_d, wD_D, wD_kp, wD_rz, wD_rv] at hz9
      obtain ⟨q1, q2⟩ : o = nI (lkN (kdN S.d i) (meN S.D.X i) (mkN S.D.X l)) ∧ S6 = (S.wR (fun t => if t = 3 then S.d.nA + 1 else S.rz t) (mtV S 3)).wT t5 := hz9
      subst q1
      subst q2
      refine xgo_eq (h112 I6 L6 ⟨t5, hC6⟩ (frC_t hf24 (frC_t hf5 hf6))) ?_ rfl rfl
      ((repeat' (first | (with_reducible rfl) | exact xv_nil | refine xv_cons ?_ ?_ | refine xv_i ?_ | refine xv_l ?_)) <;> (simp (disch := omega) only [↓reduceIte, Bool.false_eq_true, Nat.one_mul, Nat.zero_mul, Nat.or_zero, Nat.add_zero, Nat.zero_add, Bool.toNat_true, Bool.toNat_false, shl_n, shr_n, fa_and, fa_or, nx_xor, nI_add, nI_mul, nI_sub', and_1, and_7, and_3', and_15, els]))
  · rintro I2 L2 ⟨hC2, hf2⟩
    have e1 := gs_z hd S.D.X
    have e2 := ls_z hd S.D.X
    refine xrun okL_matched hhL_matched [(286, [true, true, true, false, false, false, false, true, false, false, false, false, false, false, false, false])] 60 ?_
    refine ⟨vp0, ?_⟩
    rw [W0 hf2]
    (first | (refine xbr_f ?_ ?_; (focus ((simp (disch := omega) only [ix_lt, ix_le, ix_eq, ix_0, nI_clamp, nI_toInt, ng_T, nI_add, nI_mul, nI_sub', Int.neg_zero, not_false_eq_true, not_true_eq_false] <;> omega); done))) | (refine xbr_t ?_ ?_; (focus ((simp (disch := omega) only [ix_lt, ix_le, ix_eq, ix_0, nI_clamp, nI_toInt, ng_T, nI_add, nI_mul, nI_sub', Int.neg_zero, not_false_eq_true, not_true_eq_false] <;> omega); done))) | refine ⟨Or.inl rfl, ?_⟩ | refine ⟨Or.inr rfl, ?_⟩ | (refine ⟨?_, ?_⟩; (focus (exact in_nI (by omega) (by omega)))))
    (first | (refine xbr_f ?_ ?_; (focus ((simp (disch := omega) only [ix_lt, ix_le, ix_eq, ix_0, nI_clamp, nI_toInt, ng_T, nI_add, nI_mul, nI_sub', Int.neg_zero, not_false_eq_true, not_true_eq_false] <;> omega); done))) | (refine xbr_t ?_ ?_; (focus ((simp (disch := omega) only [ix_lt, ix_le, ix_eq, ix_0, nI_clamp, nI_toInt, ng_T, nI_add, nI_mul, nI_sub', Int.neg_zero, not_false_eq_true, not_true_eq_false] <;> omega); done))) | refine ⟨Or.inl rfl, ?_⟩ | refine ⟨Or.inr rfl, ?_⟩ | (refine ⟨?_, ?_⟩; (focus (exact in_nI (by omega) (by omega)))))
    rw [e1]
    refine xbr_t rfl ?_
    (first | (refine xbr_f ?_ ?_; (focus ((simp (disch := omega) only [ix_lt, ix_le, ix_eq, ix_0, nI_clamp, nI_toInt, ng_T, nI_add, nI_mul, nI_sub', Int.neg_zero, not_false_eq_true, not_true_eq_false] <;> omega); done))) | (refine xbr_t ?_ ?_; (focus ((simp (disch := omega) only [ix_lt, ix_le, ix_eq, ix_0, nI_clamp, nI_toInt, ng_T, nI_add, nI_mul, nI_sub', Int.neg_zero, not_false_eq_true, not_true_eq_false] <;> omega); done))) | refine ⟨Or.inl rfl, ?_⟩ | refine ⟨Or.inr rfl, ?_⟩ | (refine ⟨?_, ?_⟩; (focus (exact in_nI (by omega) (by omega)))))
    exact h286 _ _ I2 L2 hC2 hf2
