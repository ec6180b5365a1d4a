/-! GOES ON: where it is foretold it comes; homes stay homes; round it is as it was -/
def RW (d : PD) (I : xI) : Prop := I 27 0 = nI d.nA ∧ I 27 1 = nI d.nL ∧ ∀ k, k < 5 → I 27 (4 + k) = nI (rdN d k)
theorem RW_f {d : PD} {I I' : xI} {L L' : xL} (h : RW d I) (f : frC I L I' L') : RW d I' := by
  unfold RW
  rw [f27 f]
  exact h
theorem RW_28 {d : PD} {I : xI} (h : RW d I) (f : Nat → Int32) : RW d (xrw I 28 f) := by
  unfold RW
  rw [xrw_c _ _ _ (show (27 : Nat) ≠ 28 by decide)]
  exact h
theorem RW.wok {S : ST} {I : xI} (h : RW S.d I) : wok S I := ⟨h.1, h.2.1⟩
/-- deeds behind k days -/
def ddN (S : ST) : Nat → DD
  | 0 => S.D
  | k + 1 => adD (ddN S k) (dayN S.d (ddN S k).X) true
theorem dd_X (S : ST) : ∀ k, (ddN S k).X = dyN S.d S.D.X k
  | 0 => rfl
  | k + 1 => by
    show dayN S.d (ddN S k).X = dayN S.d (dyN S.d S.D.X k)
    rw [dd_X S k]
theorem dd_z (S : ST) : ∀ k, (ddN S k).z = S.D.z + k
  | 0 => rfl
  | k + 1 => by
    show (ddN S k).z + 1 = _
    rw [dd_z S k]
    rfl
def hoN (d : PD) (X : Nat) : Nat := ffN (fun k => ahB d (dyN d X k)) 61
def roH (d : PD) (X : Nat) : Nat := ffN (agB d X) 61
def agoN (d : PD) (X : Nat) : Nat := if roH d X = 0 then 0 else dsN (dyN d X) (roH d X - 1)
def thN (d : PD) (X k : Nat) : Int64 := if 0 < roH d X ∧ roH d X - 1 - agoN d X < k then st2 d (dyN d X (roH d X - 1)) d.nL else lN 0
theorem ho_iff {d : PD} (hd : d.ok) {X k : Nat} (hk : k < 61) : ahB d (dyN d X k) = true ↔ 0 < hoN d X ∧ hoN d X - 1 ≤ k := by
  rcases h : hoN d X with _ | m
  · refine ⟨fun q => ?_, fun q => absurd q.1 (Nat.lt_irrefl 0)⟩
    have := ffN_zero.mp h k hk
    rw [this] at q
    cases q
  · obtain ⟨q1, q2, q3⟩ := ffN_iff.mp h
    refine ⟨fun q => ⟨by omega, ?_⟩, fun q => ah_dy hd (k := m) (n := k) (by omega) q2⟩
    by_cases e : m ≤ k
    · omega
    · have := q3 k (by omega)
      rw [this] at q
      cases q
theorem ro_sp {d : PD} {X q : Nat} (h : roH d X = q + 1) : q < 61 ∧ 0 < agoN d X ∧ agoN d X ≤ q ∧ dyN d X (q - agoN d X) = dyN d X q := by
  obtain ⟨q1, q2, -⟩ := ffN_iff.mp h
  obtain ⟨q3, q4⟩ := of_decide_eq_true q2
  have e : agoN d X = dsN (dyN d X) q := by
    unfold agoN
    rw [h, if_neg (by omega)]
    rfl
  rw [e]
  obtain ⟨a, ha⟩ : ∃ a, dsN (dyN d X) q = a + 1 := ⟨dsN (dyN d X) q - 1, by omega⟩
  obtain ⟨p1, p2, -⟩ := ffN_iff.mp ha
  refine ⟨q1, q4, dsN_le _ _, ?_⟩
  rw [ha]
  exact of_decide_eq_true p2
theorem whereR_v {S S' : ST} {a m : Nat} {o : Int32} (h : whereR S (nI a) (nI m) o S') (hd : S.d.ok) (ha : a < S.d.nL) (hm : m < 61) : o = nI (plN (dyN S.d S.D.X m) a) ∧ S' = S := by
  have h5 := hd.l5
  rcases h with ⟨n, -⟩ | ⟨a', m', e1, h1, e2, h2, h3⟩
  · exact absurd ⟨ibB_n ha (by omega), ibB_n hm (by decide)⟩ n
  · obtain rfl := nI_j (by omega) (by omega) e1
    obtain rfl := nI_j (by omega) (by omega) e2
    exact h3
theorem homeR_v {S S' : ST} {o : Int32} (h : homeR S o S') (h0 : 0 < S.d.nA) : o = cI (hoN S.d S.D.X) ∧ S' = S := by
  rcases h with ⟨h1, -⟩ | ⟨-, h1⟩
  · omega
  · exact h1
theorem homeR_T {S S' : ST} {o v : Int32} (h : homeR (S.wT v) o S') (h0 : 0 < S.d.nA) : o = cI (hoN S.d S.D.X) ∧ S' = S.wT v := by
  have h2 := homeR_v h h0
  simp only [wT_d, wT_D, wT_kp, wT_rz, wT_rv, wR_d, wR_D, wR_kp, wR_rz, wR_rv, wC_d, wC_D, wC_kp, wC_rz, wC_rv, wD_d, wD_D, wD_kp, wD_rz, wD_rv] at h2
  exact h2
theorem roundR_v {S S' : ST} {o : Int32} (h : roundR S o S') (h0 : 0 < S.d.nA) : o = cI (roH S.d S.D.X) ∧ ((roH S.d S.D.X = 0 ∧ S' = S) ∨ (0 < roH S.d S.D.X ∧ S' = S.wT (nI (agoN S.d S.D.X)))) := by
  rcases h with ⟨h1, -⟩ | ⟨-, ⟨h1, h2, h3⟩ | ⟨k, hk, h1, h2, h3⟩⟩
  · omega
  · have h1 : roH S.d S.D.X = 0 := h1
    rw [h1]
    exact ⟨h2, Or.inl ⟨rfl, h3⟩⟩
  · have h1 : roH S.d S.D.X = k + 1 := h1
    refine ⟨by rw [h1]; exact h2, Or.inr ⟨by omega, ?_⟩⟩
    unfold agoN
    rw [h1, if_neg (by omega)]
    exact h3
theorem onR_v {S S' : ST} {k : Nat} {o : Int32} (h : onR S (nI k) o S') (hk : k < 3) (hz : 0 < (S.kp k).z) : o = nI ((S.kp k).z - 1) ∧ S' = S.wD (S.kp k) := by
  rcases h with ⟨n, -⟩ | ⟨j, e, hj, ⟨h1, -⟩ | ⟨-, h1⟩⟩
  · rw [ibB_n hk (by decide)] at n
    cases n
  · obtain rfl := nI_j (by omega) (by omega) e
    omega
  · obtain rfl := nI_j (by omega) (by omega) e
    exact h1
theorem cn_tb {f : Nat → Bool} {n : Nat} (hn : n ≤ 16) : cnN (tbB (bsN f n)) 16 = cnN f n := by
  have z : ∀ j, n + j ≤ 16 → cnN (tbB (bsN f n)) (n + j) = cnN f n := by
    intro j
    induction j with
    | zero => exact fun _ => cnN_cong (fun i hi => tb_bs hi)
    | succ j ih =>
      intro hj
      show cnN (tbB (bsN f n)) (n + j) + (tbB (bsN f n) (n + j)).toNat = _
      rw [ih (by omega), tbB_bit, bsN_bit, decide_eq_false (by omega)]
      rfl
  have := z (16 - n) (by omega)
  rwa [show n + (16 - n) = 16 by omega] at this
theorem sub_32 : ∀ a, a < 32 → ∀ b, b < 32 → (∀ i, i < 5 → tbB a i = true → tbB b i = true) → nI a &&& (nI b ^^^ -(nI 1)) = 0 := by decide +kernel
def tfB (d : PD) (X : Nat) : Nat → Bool := fun t => decide (0 < tkrN (tkN d X 27 15 d.nA).1 t)
theorem xlpK {M : xM} {cs : xCs} {pc : Nat} {Q : xQ} {k n : Nat} (N : Nat) (ls : Nat → xV) (W : Nat → xI → xL → Prop)
    (hs : ∀ i, i < N → ∀ I L, W i I L → (∀ I' L', W (i + 1) I' L' → xGo M cs pc Q (ls (i + 1)) [] k n I' L' xP0) → xGo M cs pc Q (ls i) [] k n I L xP0)
    (he : ∀ I L, W N I L → xGo M cs pc Q (ls N) [] k n I L xP0) {I : xI} {L : xL} (h0 : W 0 I L) : xGo M cs pc Q (ls 0) [] k n I L xP0 := by
  have h : ∀ j i I L, i + j = N → W i I L → xGo M cs pc Q (ls i) [] k n I L xP0 := by
    intro j
    induction j with
    | zero =>
      intro i I L hi hW
      obtain rfl : i = N := by omega
      exact he I L hW
    | succ j ih =>
      intro i I L hi hW
      exact hs i (by omega) I L hW (fun I' L' h' => ih (i + 1) I' L' (by omega) h')
  exact h N 0 I L (by omega) h0
theorem T0_dd (S : ST) (k : Nat) (v : Int32) : T0 ((S.wD (ddN S k)).wT v) = (tkN S.d (dyN S.d S.D.X k) 27 15 S.d.nA).1 := by
  have h1 : ((S.wD (ddN S k)).wT v).d = S.d := rfl
  have h2 : ((S.wD (ddN S k)).wT v).D.X = dyN S.d S.D.X k := dd_X S k
  unfold T0
  rw [h1, h2]
theorem XOk_dyN {d : PD} (hd : d.ok) {X : Nat} (hX : XOk X) : ∀ k, XOk (dyN d X k)
  | 0 => hX
  | k + 1 => XOk_day hd (XOk_dyN hd hX k)
def csL_goesOn : xCs := [(mL_cell, sL_cell), (mX10_where, sX10_where), (mX10_home, sX10_home), (mX10_round, sX10_round), (mX10_asked, sX10_asked), (mX10_count, sX10_count), (mL_at, sL_at), (mL_state, sL_state), (mX10_day, sX10_day), (mL_size, sL_size), (mX10_on, sX10_on), (mL_hash, sL_hash)]
theorem okL_goesOn : xOkM mL_goesOn csL_goesOn := ⟨dL_goesOn, by decide +kernel, by decide +kernel, ⟨wdL_21, wdL_21, wdL_148, wdL_151, wdL_153, wdL_81, wdAi, wdL_71, wdL_140, wdL_156, wdL_156, wdL_71, wdL_140, wdL_140, wdL_65, wdL_159, wdL_71, wdL_140, wdL_129, wdL_99, trivial⟩⟩
theorem hhL_goesOn : ∀ q ∈ csL_goesOn, xHd q.1 := xall1 hL_cell (xall1 hX10_where (xall1 hX10_home (xall1 hX10_round (xall1 hX10_asked (xall1 hX10_count (xall1 hL_at (xall1 hL_state (xall1 hX10_day (xall1 hL_size (xall1 hX10_on (xall1 hL_hash (xall0))))))))))))
theorem kkL_goesOn : ∀ q ∈ csL_goesOn, ∀ l, xCon l q.1 q.2 := xall1 kL_cell (xall1 kX10_where (xall1 kX10_home (xall1 kX10_round (xall1 kX10_asked (xall1 kX10_count (xall1 kL_at (xall1 kL_state (xall1 kX10_day (xall1 kL_size (xall1 kX10_on (xall1 kL_hash (xall0))))))))))))
def sL_goesOn : xSpec := fun as m I L P Q => m = 27 ∧ P = xP0 ∧ ∃ (S : ST), as = [.ref 1, .ref 0, .ref 27, .long (hsh S)] ∧ Lq S I L ∧ RW S.d I ∧ 0 < S.d.nA ∧ 0 < S.d.nL ∧ S.kp 2 = S.D ∧ S.D.z ≤ 20 ∧ ∀ I' L', RW S.d I' → Lq S I' L' → Q (some (.int (nI 1))) 28 I' L' xP0
theorem ago_0 {d : PD} {X : Nat} (h : roH d X = 0) : agoN d X = 0 := by
  unfold agoN
  rw [if_pos h]
theorem ago_le {d : PD} {X : Nat} : agoN d X ≤ 61 := by
  rcases h : roH d X with _ | q
  · unfold agoN
    rw [if_pos h]
    omega
  · have := ro_sp h
    omega
set_option maxHeartbeats 800000 in
set_option maxRecDepth 100000 in
theorem g355 {Q : xQ} {S : ST} {l n : Nat} (hd : S.d.ok) (hX0 : XOk S.D.X) (hA : 0 < S.d.nA) (hL : 0 < S.d.nL) (hz0 : 0 < S.D.z) (hz : S.D.z ≤ 20) (hl : l < S.d.nL) (hn : n < 21) {k : Nat} (hk : k < 21) (ih : ∀ I' L', Lq (S.wD (ddN S (k + 1))) I' L' → RW S.d I' → xGo mL_goesOn csL_goesOn 111 Q [some (.ref 1), some (.ref 0), some (.ref 27), some (.long (hsh S)), none, some (.int (nI l)), some (.int (nI n)), some (.int (nI (plN (dyN S.d S.D.X n) l))), some (.int (cI (hoN S.d S.D.X))), some (.int (cI (roH S.d S.D.X))), some (.int (nI (agoN S.d S.D.X))), some (.ref 28), some (.int (nI 1)), some (.long (thN S.d S.D.X (k + 1))), none, some (.int (nI (k + 1))), none, none, none] [] 1 28 I' L' xP0) : ∀ I' L', Lq (S.wD (ddN S (k + 1))) I' L' → RW S.d I' → (∀ t, t < S.d.nL → I' 28 t = nI (plN (dyN S.d S.D.X k) t)) → xGo mL_goesOn csL_goesOn 355 Q [some (.ref 1), some (.ref 0), some (.ref 27), some (.long (hsh S)), none, some (.int (nI l)), some (.int (nI n)), some (.int (nI (plN (dyN S.d S.D.X n) l))), some (.int (cI (hoN S.d S.D.X))), some (.int (cI (roH S.d S.D.X))), some (.int (nI (agoN S.d S.D.X))), some (.ref 28), some (.int (nI 1)), some (.long (thN S.d S.D.X (k + 1))), none, some (.int (nI k)), none, some (.int (nI (bsN (tfB S.d (dyN S.d S.D.X k)) S.d.nL))), some (.int (nI 0))] [] 1 28 I' L' xP0 := by
  have h4 : S.d.nA ≤ 4 := hd.a4
  have h5 : S.d.nL ≤ 5 := hd.l5
  have hHo : hoN S.d S.D.X ≤ 61 := ffN_le _ 61
  have hRo : roH S.d S.D.X ≤ 61 := ffN_le _ 61
  have hAg : agoN S.d S.D.X ≤ 61 := ago_le
  have eX := dd_X S k
  have ez := dd_z S k
  have o1 : ∀ t, olI (S.wD (ddN S (k))).d (S.wD (ddN S (k))).D.X t 1 = nI (plN (dyN S.d S.D.X k) t) := fun t => by
    show nI (plN (ddN S k).X t) = _
    rw [eX]
  have o4 : ∀ t, olI (S.wD (ddN S (k))).d (S.wD (ddN S (k))).D.X t 4 = cI (tkrN (tkN S.d (dyN S.d S.D.X k) 27 15 S.d.nA).1 t) := fun t => by
    show cI (tkrN (tkN S.d (ddN S k).X 27 15 S.d.nA).1 t) = _
    rw [eX]
  have c4 : ∀ v, cntI ((S.wD (ddN S (k))).wT v) 4 = nI (bsN (hmB S.d (dyN S.d S.D.X k)) S.d.nL) := fun v => by
    show nI (bsN (hmB S.d (ddN S k).X) S.d.nL) = _
    rw [eX]
  have est : stl (S.wD (ddN S (k))) = st2 S.d (dyN S.d S.D.X k) S.d.nL := by
    show st2 S.d (ddN S k).X S.d.nL = _
    rw [eX]
  have hB : bsN (hmB S.d (dyN S.d S.D.X k)) S.d.nL < 32 := Nat.lt_of_lt_of_le (bsN_lt _ _) (Nat.pow_le_pow_right (n := 2) (j := 5) (by decide) h5)
  have hp2 : 2 ^ S.d.nL ≤ 32 := p2_32 h5
  have hp1 := Nat.two_pow_pos S.d.nL
  intro I3 L3 hC3 hW3 h28
  refine xgo_eq (xlpK (M := mL_goesOn) (cs := csL_goesOn) (pc := 355) S.d.nL (fun t => [some (.ref 1), some (.ref 0), some (.ref 27), some (.long (hsh S)), none, some (.int (nI l)), some (.int (nI n)), some (.int (nI (plN (dyN S.d S.D.X n) l))), some (.int (cI (hoN S.d S.D.X))), some (.int (cI (roH S.d S.D.X))), some (.int (nI (agoN S.d S.D.X))), some (.ref 28), some (.int (nI 1)), some (.long (thN S.d S.D.X (k + 1))), none, some (.int (nI k)), none, some (.int (nI (bsN (tfB S.d (dyN S.d S.D.X k)) S.d.nL))), some (.int (nI t))]) (fun t I' L' => Lq (S.wD (ddN S (k + 1))) I' L' ∧ RW S.d I' ∧ (∀ t, t < S.d.nL → I' 28 t = nI (plN (dyN S.d S.D.X k) t))) ?_ ?_ ⟨hC3, hW3, h28⟩) rfl rfl rfl
  · rintro t ht I4 L4 ⟨hC4, hW4, h284⟩ iht
    have w1'' : I4 27 (nI 1).toNatClampNeg = nI S.d.nL := by rw [nI_clamp (by decide)]; exact hW4.2.1
    have hT := bsN_lt (tfB S.d (dyN S.d S.D.X k)) S.d.nL
    have eb : (nI (bsN (tfB S.d (dyN S.d S.D.X k)) S.d.nL) >>> (nI t &&& 31)) &&& nI 1 = bI (tfB S.d (dyN S.d S.D.X k) t) := by rw [bit_i (by omega) (by omega), tb_bs ht]
    have o1' : olI (S.wD (ddN S (k + 1))).d (S.wD (ddN S (k + 1))).D.X t 1 = nI (plN (dayN S.d (dyN S.d S.D.X k)) t) := by
      show nI (plN (ddN S (k + 1)).X t) = _
      rw [dd_X]
      rfl
    have hit : (nI t).toNatClampNeg = t := nI_clamp (by omega)
    have hp8 := plN_8 (dyN S.d S.D.X k) t
    refine xrun okL_goesOn hhL_goesOn [(355, [true, true, true, true, false, true, true, true, true, true, true, true, true, true, false, true, false, true, true])] 60 ?_
    refine ⟨in_nI (by omega) (by decide), ?_⟩
    rw [w1'']
    (first | (refine xbr_f ?_ ?_; (focus ((simp (disch := omega) only [ix_lt, ix_le, ix_eq, ix_0, nI_clamp, nI_toInt, ng_T, nI_add, nI_mul, nI_sub', Int.neg_zero, not_false_eq_true, not_true_eq_false] <;> omega); done))) | (refine xbr_t ?_ ?_; (focus ((simp (disch := omega) only [ix_lt, ix_le, ix_eq, ix_0, nI_clamp, nI_toInt, ng_T, nI_add, nI_mul, nI_sub', Int.neg_zero, not_false_eq_true, not_true_eq_false] <;> omega); done))) | refine ⟨Or.inl rfl, ?_⟩ | refine ⟨Or.inr rfl, ?_⟩ | (refine ⟨?_, ?_⟩; (focus (exact in_nI (by omega) (by omega)))))
    (first | (refine xbr_f ?_ ?_; (focus ((simp (disch := omega) only [ix_lt, ix_le, ix_eq, ix_0, nI_clamp, nI_toInt, ng_T, nI_add, nI_mul, nI_sub', Int.neg_zero, not_false_eq_true, not_true_eq_false] <;> omega); done))) | (refine xbr_t ?_ ?_; (focus ((simp (disch := omega) only [ix_lt, ix_le, ix_eq, ix_0, nI_clamp, nI_toInt, ng_T, nI_add, nI_mul, nI_sub', Int.neg_zero, not_false_eq_true, not_true_eq_false] <;> omega); done))) | refine ⟨Or.inl rfl, ?_⟩ | refine ⟨Or.inr rfl, ?_⟩ | (refine ⟨?_, ?_⟩; (focus (exact in_nI (by omega) (by omega)))))
    refine ⟨rfl, rfl, (S.wD (ddN S (k + 1))), t, 1, rfl, ht, by decide, hC4, fun I5 L5 hf5 hC5 => ?_⟩
    rw [o1']
    have hW5 := RW_f hW4 hf5
    have e28 : I5 28 (nI t).toNatClampNeg = nI (plN (dyN S.d S.D.X k) t) := by rw [hit, f28 hf5]; exact h284 t ht
    have hk5 : ∀ t, t < S.d.nL → I5 28 t = nI (plN (dyN S.d S.D.X k) t) := fun t ht => by rw [f28 hf5]; exact h284 t ht
    cases hb : tfB S.d (dyN S.d S.D.X k) t
    · have hn : ∀ j, ¬ tcN S.d (dyN S.d S.D.X k) 15 j = t + 1 := (tkr_0 hd).mp (by have := of_decide_eq_false hb; omega)
      have e : plN (dayN S.d (dyN S.d S.D.X k)) t = plN (dyN S.d S.D.X k) t := pl_dwF (w := 15) hd hn
      refine xbr_f (by rw [eb, hb]; decide) ?_
      refine ⟨in_nI (by omega) (by decide), ?_⟩
      rw [e28]
      refine xbr_t (by rw [e]) ?_
      refine xgo_eq (iht _ _ ⟨hC5, hW5, hk5⟩) ?_ rfl rfl
      ((repeat' (first | (with_reducible rfl) | exact xv_nil | refine xv_cons ?_ ?_ | refine xv_i ?_ | refine xv_l ?_)) <;> (simp (disch := omega) only [↓reduceIte, Bool.false_eq_true, Nat.one_mul, Nat.zero_mul, Nat.or_zero, Nat.add_zero, Nat.zero_add, Bool.toNat_true, Bool.toNat_false, shl_n, shr_n, fa_and, fa_or, nx_xor, nI_add, nI_mul, nI_sub', and_1, and_7, and_3', and_15]))
    · obtain ⟨i, hi⟩ : ∃ i, tkrN (tkN S.d (dyN S.d S.D.X k) 27 15 S.d.nA).1 t = i + 1 := ⟨tkrN (tkN S.d (dyN S.d S.D.X k) 27 15 S.d.nA).1 t - 1, by have := of_decide_eq_true hb; omega⟩
      have e : plN (dayN S.d (dyN S.d S.D.X k)) t = rdN S.d (plN (dyN S.d S.D.X k) t) := pl_dwT (w := 15) hd ((tkr_iff hd).mp hi)
      have hp5 : plN (dyN S.d S.D.X k) t < 5 := by
        have hx := (XOk_dyN hd hX0 k).2.2 t (by omega)
        exact hx
      have i4 : (nI 4 + nI (plN (dyN S.d S.D.X k) t)).toNatClampNeg = 4 + plN (dyN S.d S.D.X k) t := by rw [nI_add, nI_clamp (by omega)]
      refine xbr_t (by rw [eb, hb]; rfl) ?_
      refine ⟨in_nI (by omega) (by decide), ?_⟩
      rw [e28]
      refine ⟨by rw [nI_add]; exact in_nI (by omega) (by decide), ?_⟩
      rw [i4, hW5.2.2 _ hp5]
      refine xbr_t (by rw [e]) ?_
      refine xgo_eq (iht _ _ ⟨hC5, hW5, hk5⟩) ?_ rfl rfl
      ((repeat' (first | (with_reducible rfl) | exact xv_nil | refine xv_cons ?_ ?_ | refine xv_i ?_ | refine xv_l ?_)) <;> (simp (disch := omega) only [↓reduceIte, Bool.false_eq_true, Nat.one_mul, Nat.zero_mul, Nat.or_zero, Nat.add_zero, Nat.zero_add, Bool.toNat_true, Bool.toNat_false, shl_n, shr_n, fa_and, fa_or, nx_xor, nI_add, nI_mul, nI_sub', and_1, and_7, and_3', and_15]))
  · rintro I4 L4 ⟨hC4, hW4, h284⟩
    have w1'' : I4 27 (nI 1).toNatClampNeg = nI S.d.nL := by rw [nI_clamp (by decide)]; exact hW4.2.1
    refine xrun okL_goesOn hhL_goesOn [(111, [true, true, true, true, false, true, true, true, true, true, true, true, true, true, false, true, false, false, false])] 60 ?_
    refine ⟨in_nI (by omega) (by decide), ?_⟩
    rw [w1'']
    (first | (refine xbr_f ?_ ?_; (focus ((simp (disch := omega) only [ix_lt, ix_le, ix_eq, ix_0, nI_clamp, nI_toInt, ng_T, nI_add, nI_mul, nI_sub', Int.neg_zero, not_false_eq_true, not_true_eq_false] <;> omega); done))) | (refine xbr_t ?_ ?_; (focus ((simp (disch := omega) only [ix_lt, ix_le, ix_eq, ix_0, nI_clamp, nI_toInt, ng_T, nI_add, nI_mul, nI_sub', Int.neg_zero, not_false_eq_true, not_true_eq_false] <;> omega); done))) | refine ⟨Or.inl rfl, ?_⟩ | refine ⟨Or.inr rfl, ?_⟩ | (refine ⟨?_, ?_⟩; (focus (exact in_nI (by omega) (by omega)))))
    refine xgo_eq (ih I4 L4 hC4 hW4) ?_ rfl rfl
    ((repeat' (first | (with_reducible rfl) | exact xv_nil | refine xv_cons ?_ ?_ | refine xv_i ?_ | refine xv_l ?_)) <;> (simp (disch := omega) only [↓reduceIte, Bool.false_eq_true, Nat.one_mul, Nat.zero_mul, Nat.or_zero, Nat.add_zero, Nat.zero_add, Bool.toNat_true, Bool.toNat_false, shl_n, shr_n, fa_and, fa_or, nx_xor, nI_add, nI_mul, nI_sub', and_1, and_7, and_3', and_15]))
set_option maxHeartbeats 800000 in
set_option maxRecDepth 100000 in
theorem g253 {Q : xQ} {S : ST} {l n : Nat} (hd : S.d.ok) (hX0 : XOk S.D.X) (hA : 0 < S.d.nA) (hL : 0 < S.d.nL) (hz0 : 0 < S.D.z) (hz : S.D.z ≤ 20) (hl : l < S.d.nL) (hn : n < 21) {k : Nat} (hk : k < 21) (h355 : ∀ I' L', Lq (S.wD (ddN S (k + 1))) I' L' → RW S.d I' → (∀ t, t < S.d.nL → I' 28 t = nI (plN (dyN S.d S.D.X k) t)) → xGo mL_goesOn csL_goesOn 355 Q [some (.ref 1), some (.ref 0), some (.ref 27), some (.long (hsh S)), none, some (.int (nI l)), some (.int (nI n)), some (.int (nI (plN (dyN S.d S.D.X n) l))), some (.int (cI (hoN S.d S.D.X))), some (.int (cI (roH S.d S.D.X))), some (.int (nI (agoN S.d S.D.X))), some (.ref 28), some (.int (nI 1)), some (.long (thN S.d S.D.X (k + 1))), none, some (.int (nI k)), none, some (.int (nI (bsN (tfB S.d (dyN S.d S.D.X k)) S.d.nL))), some (.int (nI 0))] [] 1 28 I' L' xP0) : ∀ I' L', Lq (S.wD (ddN S (k))) I' L' → RW S.d I' → xGo mL_goesOn csL_goesOn 253 Q [some (.ref 1), some (.ref 0), some (.ref 27), some (.long (hsh S)), none, some (.int (nI l)), some (.int (nI n)), some (.int (nI (plN (dyN S.d S.D.X n) l))), some (.int (cI (hoN S.d S.D.X))), some (.int (cI (roH S.d S.D.X))), some (.int (nI (agoN S.d S.D.X))), some (.ref 28), some (.int (nI 1)), some (.long (thN S.d S.D.X (k + 1))), none, some (.int (nI k)), none, none, none] [] 1 28 I' L' xP0 := by
  have h4 : S.d.nA ≤ 4 := hd.a4
  have h5 : S.d.nL ≤ 5 := hd.l5
  have hHo : hoN S.d S.D.X ≤ 61 := ffN_le _ 61
  have hRo : roH S.d S.D.X ≤ 61 := ffN_le _ 61
  have hAg : agoN S.d S.D.X ≤ 61 := ago_le
  have eX := dd_X S k
  have ez := dd_z S k
  have o1 : ∀ t, olI (S.wD (ddN S (k))).d (S.wD (ddN S (k))).D.X t 1 = nI (plN (dyN S.d S.D.X k) t) := fun t => by
    show nI (plN (ddN S k).X t) = _
    rw [eX]
  have o4 : ∀ t, olI (S.wD (ddN S (k))).d (S.wD (ddN S (k))).D.X t 4 = cI (tkrN (tkN S.d (dyN S.d S.D.X k) 27 15 S.d.nA).1 t) := fun t => by
    show cI (tkrN (tkN S.d (ddN S k).X 27 15 S.d.nA).1 t) = _
    rw [eX]
  have c4 : ∀ v, cntI ((S.wD (ddN S (k))).wT v) 4 = nI (bsN (hmB S.d (dyN S.d S.D.X k)) S.d.nL) := fun v => by
    show nI (bsN (hmB S.d (ddN S k).X) S.d.nL) = _
    rw [eX]
  have est : stl (S.wD (ddN S (k))) = st2 S.d (dyN S.d S.D.X k) S.d.nL := by
    show st2 S.d (ddN S k).X S.d.nL = _
    rw [eX]
  have hB : bsN (hmB S.d (dyN S.d S.D.X k)) S.d.nL < 32 := Nat.lt_of_lt_of_le (bsN_lt _ _) (Nat.pow_le_pow_right (n := 2) (j := 5) (by decide) h5)
  have hp2 : 2 ^ S.d.nL ≤ 32 := p2_32 h5
  have hp1 := Nat.two_pow_pos S.d.nL
  intro I2 L2 hC2 hW2
  obtain ⟨v2, hC2⟩ := hC2
  -- behind the day
  refine xrun okL_goesOn hhL_goesOn [(266, [true, true, true, true, false, true, true, true, true, true, true, true, true, true, false, true, true, true, true])] 60 ?_
  refine ⟨rfl, rfl, (S.wD (ddN S (k))).wT v2, _, rfl, hC2, fun q => ct_no (by decide) q, fun j e hj => ?_⟩
  obtain rfl := nI_j (by omega) (by omega) e
  rw [c4 v2]
  refine xgo_eq (xlpK (M := mL_goesOn) (cs := csL_goesOn) (pc := 266) S.d.nL (fun t => [some (.ref 1), some (.ref 0), some (.ref 27), some (.long (hsh S)), none, some (.int (nI l)), some (.int (nI n)), some (.int (nI (plN (dyN S.d S.D.X n) l))), some (.int (cI (hoN S.d S.D.X))), some (.int (cI (roH S.d S.D.X))), some (.int (nI (agoN S.d S.D.X))), some (.ref 28), some (.int (nI 1)), some (.long (thN S.d S.D.X (k + 1))), none, some (.int (nI k)), some (.int (nI (bsN (hmB S.d (dyN S.d S.D.X k)) S.d.nL))), some (.int (nI (bsN (tfB S.d (dyN S.d S.D.X k)) t))), some (.int (nI t))]) (fun t I' L' => Lq (S.wD (ddN S (k))) I' L' ∧ RW S.d I' ∧ (∀ u, u < t → I' 28 u = nI (plN (dyN S.d S.D.X k) u))) ?_ ?_ ⟨⟨v2, hC2⟩, hW2, fun u hu => absurd hu (Nat.not_lt_zero u)⟩) rfl rfl rfl
  · rintro t ht I4 L4 ⟨hC4, hW4, h284⟩ iht
    have w1'' : I4 27 (nI 1).toNatClampNeg = nI S.d.nL := by rw [nI_clamp (by decide)]; exact hW4.2.1
    have hit : (nI t).toNatClampNeg = t := nI_clamp (by omega)
    have hT := bsN_lt (tfB S.d (dyN S.d S.D.X k)) t
    have hT2 : 2 ^ t ≤ 32 := p2_32 (by omega)
    refine xrun okL_goesOn hhL_goesOn [(266, [true, true, true, true, false, true, true, true, true, true, true, true, true, true, false, true, true, true, true])] 60 ?_
    refine ⟨in_nI (by omega) (by decide), ?_⟩
    rw [w1'']
    (first | (refine xbr_f ?_ ?_; (focus ((simp (disch := omega) only [ix_lt, ix_le, ix_eq, ix_0, nI_clamp, nI_toInt, ng_T, nI_add, nI_mul, nI_sub', Int.neg_zero, not_false_eq_true, not_true_eq_false] <;> omega); done))) | (refine xbr_t ?_ ?_; (focus ((simp (disch := omega) only [ix_lt, ix_le, ix_eq, ix_0, nI_clamp, nI_toInt, ng_T, nI_add, nI_mul, nI_sub', Int.neg_zero, not_false_eq_true, not_true_eq_false] <;> omega); done))) | refine ⟨Or.inl rfl, ?_⟩ | refine ⟨Or.inr rfl, ?_⟩ | (refine ⟨?_, ?_⟩; (focus (exact in_nI (by omega) (by omega)))))
    refine ⟨rfl, rfl, (S.wD (ddN S (k))), t, 1, rfl, ht, by decide, hC4, fun I5 L5 hf5 hC5 => ?_⟩
    rw [o1 t]
    refine ⟨in_nI (by omega) (by decide), ?_⟩
    rw [hit, xup_k]
    refine ⟨rfl, rfl, (S.wD (ddN S (k))), t, 4, rfl, ht, by decide, Lq_wk hC5 (by decide) _, fun I6 L6 hf6 hC6 => ?_⟩
    rw [o4 t]
    have hW6 : RW S.d I6 := RW_f (RW_28 (RW_f hW4 hf5) _) hf6
    have hk6 : ∀ u, u < t + 1 → I6 28 u = nI (plN (dyN S.d S.D.X k) u) := fun u hu => by
      rw [f28 hf6, xrw_s]
      by_cases e : u = t
      · rw [if_pos e, e]
      · rw [if_neg e, f28 hf5]
        exact h284 u (by omega)
    have hle : tkrN (tkN S.d (dyN S.d S.D.X k) 27 15 S.d.nA).1 t ≤ 4 := ffN_le _ 4
    rcases hb : tkrN (tkN S.d (dyN S.d S.D.X k) 27 15 S.d.nA).1 t with _ | i
    · have e : tfB S.d (dyN S.d S.D.X k) t = false := decide_eq_false (by omega)
      rw [cI_0]
      (first | (refine xbr_f ?_ ?_; (focus ((simp (disch := omega) only [ix_lt, ix_le, ix_eq, ix_0, nI_clamp, nI_toInt, ng_T, nI_add, nI_mul, nI_sub', Int.neg_zero, not_false_eq_true, not_true_eq_false] <;> omega); done))) | (refine xbr_t ?_ ?_; (focus ((simp (disch := omega) only [ix_lt, ix_le, ix_eq, ix_0, nI_clamp, nI_toInt, ng_T, nI_add, nI_mul, nI_sub', Int.neg_zero, not_false_eq_true, not_true_eq_false] <;> omega); done))) | refine ⟨Or.inl rfl, ?_⟩ | refine ⟨Or.inr rfl, ?_⟩ | (refine ⟨?_, ?_⟩; (focus (exact in_nI (by omega) (by omega)))))
      refine xgo_eq (iht _ _ ⟨hC6, hW6, hk6⟩) ?_ rfl rfl
      ((repeat' (first | (with_reducible rfl) | exact xv_nil | refine xv_cons ?_ ?_ | refine xv_i ?_ | refine xv_l ?_)) <;> (simp (disch := omega) only [↓reduceIte, Bool.false_eq_true, Nat.one_mul, Nat.zero_mul, Nat.or_zero, Nat.add_zero, Nat.zero_add, Bool.toNat_true, Bool.toNat_false, shl_n, shr_n, fa_and, fa_or, nx_xor, nI_add, nI_mul, nI_sub', and_1, and_7, and_3', and_15, bsN, e]))
    · have e : tfB S.d (dyN S.d S.D.X k) t = true := decide_eq_true (by omega)
      rw [cI_s]
      (first | (refine xbr_f ?_ ?_; (focus ((simp (disch := omega) only [ix_lt, ix_le, ix_eq, ix_0, nI_clamp, nI_toInt, ng_T, nI_add, nI_mul, nI_sub', Int.neg_zero, not_false_eq_true, not_true_eq_false] <;> omega); done))) | (refine xbr_t ?_ ?_; (focus ((simp (disch := omega) only [ix_lt, ix_le, ix_eq, ix_0, nI_clamp, nI_toInt, ng_T, nI_add, nI_mul, nI_sub', Int.neg_zero, not_false_eq_true, not_true_eq_false] <;> omega); done))) | refine ⟨Or.inl rfl, ?_⟩ | refine ⟨Or.inr rfl, ?_⟩ | (refine ⟨?_, ?_⟩; (focus (exact in_nI (by omega) (by omega)))))
      refine xgo_eq (iht _ _ ⟨hC6, hW6, hk6⟩) ?_ rfl rfl
      ((repeat' (first | (with_reducible rfl) | exact xv_nil | refine xv_cons ?_ ?_ | refine xv_i ?_ | refine xv_l ?_)) <;> (simp (disch := omega) only [↓reduceIte, Bool.false_eq_true, Nat.one_mul, Nat.zero_mul, Nat.or_zero, Nat.add_zero, Nat.zero_add, Bool.toNat_true, Bool.toNat_false, shl_n, shr_n, fa_and, fa_or, nx_xor, nI_add, nI_mul, nI_sub', and_1, and_7, and_3', and_15, bsN, e]))
  · rintro I4 L4 ⟨⟨v4, hC4⟩, hW4, h284⟩
    have w1'' : I4 27 (nI 1).toNatClampNeg = nI S.d.nL := by rw [nI_clamp (by decide)]; exact hW4.2.1
    have hT := bsN_lt (tfB S.d (dyN S.d S.D.X k)) S.d.nL
    refine xrun okL_goesOn hhL_goesOn [(355, [true, true, true, true, false, true, true, true, true, true, true, true, true, true, false, true, false, true, true])] 60 ?_
    refine ⟨in_nI (by omega) (by decide), ?_⟩
    rw [w1'']
    (first | (refine xbr_f ?_ ?_; (focus ((simp (disch := omega) only [ix_lt, ix_le, ix_eq, ix_0, nI_clamp, nI_toInt, ng_T, nI_add, nI_mul, nI_sub', Int.neg_zero, not_false_eq_true, not_true_eq_false] <;> omega); done))) | (refine xbr_t ?_ ?_; (focus ((simp (disch := omega) only [ix_lt, ix_le, ix_eq, ix_0, nI_clamp, nI_toInt, ng_T, nI_add, nI_mul, nI_sub', Int.neg_zero, not_false_eq_true, not_true_eq_false] <;> omega); done))) | refine ⟨Or.inl rfl, ?_⟩ | refine ⟨Or.inr rfl, ?_⟩ | (refine ⟨?_, ?_⟩; (focus (exact in_nI (by omega) (by omega)))))
    (first | (refine xbr_f ?_ ?_; (focus ((simp (disch := omega) only [ix_lt, ix_le, ix_eq, ix_0, nI_clamp, nI_toInt, ng_T, nI_add, nI_mul, nI_sub', Int.neg_zero, not_false_eq_true, not_true_eq_false] <;> omega); done))) | (refine xbr_t ?_ ?_; (focus ((simp (disch := omega) only [ix_lt, ix_le, ix_eq, ix_0, nI_clamp, nI_toInt, ng_T, nI_add, nI_mul, nI_sub', Int.neg_zero, not_false_eq_true, not_true_eq_false] <;> omega); done))) | refine ⟨Or.inl rfl, ?_⟩ | refine ⟨Or.inr rfl, ?_⟩ | (refine ⟨?_, ?_⟩; (focus (exact in_nI (by omega) (by omega)))))
    refine ⟨rfl, rfl, (S.wD (ddN S (k))).wT v4, rfl, hC4, fun o S5 I5 L5 hr5 hf5 hC5 => ?_⟩
    have hz9 := dayR_v hr5 hA (by show (ddN S k).z < 41; omega)
    obtain ⟨e5, e5'⟩ := hz9
    rw [T0_dd, hmt_tc hd] at e5
    subst e5
    subst e5'
    refine ⟨rfl, rfl, bsN (tfB S.d (dyN S.d S.D.X k)) S.d.nL, rfl, by omega, ?_⟩
    rw [cn_tb (show S.d.nL ≤ 16 by omega)]
    refine xbr_t rfl ?_
    have hC6 : Cls ((S.wD (ddN S (k + 1))).wT v4) I5 L5 := hC5
    refine ⟨rfl, rfl, (S.wD (ddN S (k + 1))).wT v4, _, rfl, hC6, fun q => ct_no (by decide) q, fun j e hj => ?_⟩
    obtain rfl := nI_j (by omega) (by omega) e
    have c4' : cntI ((S.wD (ddN S (k + 1))).wT v4) 4 = nI (bsN (hmB S.d (dyN S.d S.D.X (k + 1))) S.d.nL) := by
      show nI (bsN (hmB S.d (ddN S (k + 1)).X) S.d.nL) = _
      rw [dd_X]
    have hB2 : bsN (hmB S.d (dyN S.d S.D.X (k + 1))) S.d.nL < 32 := Nat.lt_of_lt_of_le (bsN_lt _ _) (Nat.pow_le_pow_right (n := 2) (j := 5) (by decide) h5)
    have es := sub_32 _ hB _ hB2 (fun i hi hb => by
      rw [tbB_bit, bsN_bit] at hb ⊢
      rw [Bool.and_eq_true, decide_eq_true_iff] at hb
      rw [decide_eq_true hb.1, Bool.true_and]
      exact hm_dw (w := 15) hd hb.2)
    rw [c4']
    refine xbr_t es ?_
    exact h355 I5 L5 ⟨v4, hC6⟩ (RW_f hW4 hf5) (fun t ht => by rw [f28 hf5]; exact h284 t ht)
set_option maxHeartbeats 800000 in
set_option maxRecDepth 100000 in
theorem g226 {Q : xQ} {S : ST} {l n : Nat} (hd : S.d.ok) (hX0 : XOk S.D.X) (hA : 0 < S.d.nA) (hL : 0 < S.d.nL) (hz0 : 0 < S.D.z) (hz : S.D.z ≤ 20) (hl : l < S.d.nL) (hn : n < 21) {k : Nat} (hk : k < 21) (h253 : ∀ I' L', Lq (S.wD (ddN S (k))) I' L' → RW S.d I' → xGo mL_goesOn csL_goesOn 253 Q [some (.ref 1), some (.ref 0), some (.ref 27), some (.long (hsh S)), none, some (.int (nI l)), some (.int (nI n)), some (.int (nI (plN (dyN S.d S.D.X n) l))), some (.int (cI (hoN S.d S.D.X))), some (.int (cI (roH S.d S.D.X))), some (.int (nI (agoN S.d S.D.X))), some (.ref 28), some (.int (nI 1)), some (.long (thN S.d S.D.X (k + 1))), none, some (.int (nI k)), none, none, none] [] 1 28 I' L' xP0) : ∀ I' L', Lq (S.wD (ddN S (k))) I' L' → RW S.d I' → xGo mL_goesOn csL_goesOn 226 Q [some (.ref 1), some (.ref 0), some (.ref 27), some (.long (hsh S)), none, some (.int (nI l)), some (.int (nI n)), some (.int (nI (plN (dyN S.d S.D.X n) l))), some (.int (cI (hoN S.d S.D.X))), some (.int (cI (roH S.d S.D.X))), some (.int (nI (agoN S.d S.D.X))), some (.ref 28), some (.int (nI 1)), some (.long (thN S.d S.D.X k)), none, some (.int (nI k)), none, none, none] [] 1 28 I' L' xP0 := by
  have h4 : S.d.nA ≤ 4 := hd.a4
  have h5 : S.d.nL ≤ 5 := hd.l5
  have hHo : hoN S.d S.D.X ≤ 61 := ffN_le _ 61
  have hRo : roH S.d S.D.X ≤ 61 := ffN_le _ 61
  have hAg : agoN S.d S.D.X ≤ 61 := ago_le
  have eX := dd_X S k
  have ez := dd_z S k
  have o1 : ∀ t, olI (S.wD (ddN S (k))).d (S.wD (ddN S (k))).D.X t 1 = nI (plN (dyN S.d S.D.X k) t) := fun t => by
    show nI (plN (ddN S k).X t) = _
    rw [eX]
  have o4 : ∀ t, olI (S.wD (ddN S (k))).d (S.wD (ddN S (k))).D.X t 4 = cI (tkrN (tkN S.d (dyN S.d S.D.X k) 27 15 S.d.nA).1 t) := fun t => by
    show cI (tkrN (tkN S.d (ddN S k).X 27 15 S.d.nA).1 t) = _
    rw [eX]
  have c4 : ∀ v, cntI ((S.wD (ddN S (k))).wT v) 4 = nI (bsN (hmB S.d (dyN S.d S.D.X k)) S.d.nL) := fun v => by
    show nI (bsN (hmB S.d (ddN S k).X) S.d.nL) = _
    rw [eX]
  have est : stl (S.wD (ddN S (k))) = st2 S.d (dyN S.d S.D.X k) S.d.nL := by
    show st2 S.d (ddN S k).X S.d.nL = _
    rw [eX]
  have hB : bsN (hmB S.d (dyN S.d S.D.X k)) S.d.nL < 32 := Nat.lt_of_lt_of_le (bsN_lt _ _) (Nat.pow_le_pow_right (n := 2) (j := 5) (by decide) h5)
  have hp2 : 2 ^ S.d.nL ≤ 32 := p2_32 h5
  have hp1 := Nat.two_pow_pos S.d.nL
  intro I2 L2 hC2 hW2
  have et : ¬ (0 < roH S.d S.D.X ∧ roH S.d S.D.X - 1 - agoN S.d S.D.X = k) → thN S.d S.D.X (k + 1) = thN S.d S.D.X k := fun q => by
    unfold thN
    by_cases q2 : 0 < roH S.d S.D.X ∧ roH S.d S.D.X - 1 - agoN S.d S.D.X < k
    · rw [if_pos q2, if_pos ⟨q2.1, by omega⟩]
    · rw [if_neg q2, if_neg (fun q3 => q ⟨q3.1, by omega⟩)]
  have go := h253 I2 L2 hC2 hW2
  refine xrun okL_goesOn hhL_goesOn [(253, [true, true, true, true, false, true, true, true, true, true, true, true, true, true, false, true, false, false, false])] 60 ?_
  rcases hr : roH S.d S.D.X with _ | q
  · rw [et (by rw [hr]; omega), hr] at go
    rw [cI_0] at go ⊢
    (first | (refine xbr_f ?_ ?_; (focus ((simp (disch := omega) only [ix_lt, ix_le, ix_eq, ix_0, nI_clamp, nI_toInt, ng_T, nI_add, nI_mul, nI_sub', Int.neg_zero, not_false_eq_true, not_true_eq_false] <;> omega); done))) | (refine xbr_t ?_ ?_; (focus ((simp (disch := omega) only [ix_lt, ix_le, ix_eq, ix_0, nI_clamp, nI_toInt, ng_T, nI_add, nI_mul, nI_sub', Int.neg_zero, not_false_eq_true, not_true_eq_false] <;> omega); done))) | refine ⟨Or.inl rfl, ?_⟩ | refine ⟨Or.inr rfl, ?_⟩ | (refine ⟨?_, ?_⟩; (focus (exact in_nI (by omega) (by omega)))))
    exact go
  · obtain ⟨r1, r2, r3, r4⟩ := ro_sp hr
    rw [cI_s]
    (first | (refine xbr_f ?_ ?_; (focus ((simp (disch := omega) only [ix_lt, ix_le, ix_eq, ix_0, nI_clamp, nI_toInt, ng_T, nI_add, nI_mul, nI_sub', Int.neg_zero, not_false_eq_true, not_true_eq_false] <;> omega); done))) | (refine xbr_t ?_ ?_; (focus ((simp (disch := omega) only [ix_lt, ix_le, ix_eq, ix_0, nI_clamp, nI_toInt, ng_T, nI_add, nI_mul, nI_sub', Int.neg_zero, not_false_eq_true, not_true_eq_false] <;> omega); done))) | refine ⟨Or.inl rfl, ?_⟩ | refine ⟨Or.inr rfl, ?_⟩ | (refine ⟨?_, ?_⟩; (focus (exact in_nI (by omega) (by omega)))))
    by_cases hk2 : k = q - agoN S.d S.D.X
    · (first | (refine xbr_f ?_ ?_; (focus ((simp (disch := omega) only [ix_lt, ix_le, ix_eq, ix_0, nI_clamp, nI_toInt, ng_T, nI_add, nI_mul, nI_sub', Int.neg_zero, not_false_eq_true, not_true_eq_false] <;> omega); done))) | (refine xbr_t ?_ ?_; (focus ((simp (disch := omega) only [ix_lt, ix_le, ix_eq, ix_0, nI_clamp, nI_toInt, ng_T, nI_add, nI_mul, nI_sub', Int.neg_zero, not_false_eq_true, not_true_eq_false] <;> omega); done))) | refine ⟨Or.inl rfl, ?_⟩ | refine ⟨Or.inr rfl, ?_⟩ | (refine ⟨?_, ?_⟩; (focus (exact in_nI (by omega) (by omega)))))
      refine ⟨rfl, rfl, (S.wD (ddN S (k))), rfl, hC2, hW2.wok, fun I3 L3 hf3 hC3 => ?_⟩
      have go := h253 I3 L3 hC3 (RW_f hW2 hf3)
      have e2 : thN S.d S.D.X (k + 1) = stl (S.wD (ddN S (k))) := by
        rw [est]
        unfold thN
        rw [hr, if_pos ⟨by omega, by show q - agoN S.d S.D.X < k + 1; omega⟩, hk2, r4]
        rfl
      rw [e2, hr, cI_s] at go
      exact go
    · rw [et (by rw [hr]; show ¬ (_ ∧ q - agoN S.d S.D.X = k); omega), hr, cI_s] at go
      (first | (refine xbr_f ?_ ?_; (focus ((simp (disch := omega) only [ix_lt, ix_le, ix_eq, ix_0, nI_clamp, nI_toInt, ng_T, nI_add, nI_mul, nI_sub', Int.neg_zero, not_false_eq_true, not_true_eq_false] <;> omega); done))) | (refine xbr_t ?_ ?_; (focus ((simp (disch := omega) only [ix_lt, ix_le, ix_eq, ix_0, nI_clamp, nI_toInt, ng_T, nI_add, nI_mul, nI_sub', Int.neg_zero, not_false_eq_true, not_true_eq_false] <;> omega); done))) | refine ⟨Or.inl rfl, ?_⟩ | refine ⟨Or.inr rfl, ?_⟩ | (refine ⟨?_, ?_⟩; (focus (exact in_nI (by omega) (by omega)))))
      exact go
set_option maxHeartbeats 800000 in
set_option maxRecDepth 100000 in
theorem g182 {Q : xQ} {S : ST} {l n : Nat} (hd : S.d.ok) (hX0 : XOk S.D.X) (hA : 0 < S.d.nA) (hL : 0 < S.d.nL) (hz0 : 0 < S.D.z) (hz : S.D.z ≤ 20) (hl : l < S.d.nL) (hn : n < 21) {k : Nat} (hk : k < 21) (h226 : ∀ I' L', Lq (S.wD (ddN S (k))) I' L' → RW S.d I' → xGo mL_goesOn csL_goesOn 226 Q [some (.ref 1), some (.ref 0), some (.ref 27), some (.long (hsh S)), none, some (.int (nI l)), some (.int (nI n)), some (.int (nI (plN (dyN S.d S.D.X n) l))), some (.int (cI (hoN S.d S.D.X))), some (.int (cI (roH S.d S.D.X))), some (.int (nI (agoN S.d S.D.X))), some (.ref 28), some (.int (nI 1)), some (.long (thN S.d S.D.X k)), none, some (.int (nI k)), none, none, none] [] 1 28 I' L' xP0) : ∀ I' L', Lq (S.wD (ddN S (k))) I' L' → RW S.d I' → xGo mL_goesOn csL_goesOn 182 Q [some (.ref 1), some (.ref 0), some (.ref 27), some (.long (hsh S)), none, some (.int (nI l)), some (.int (nI n)), some (.int (nI (plN (dyN S.d S.D.X n) l))), some (.int (cI (hoN S.d S.D.X))), some (.int (cI (roH S.d S.D.X))), some (.int (nI (agoN S.d S.D.X))), some (.ref 28), some (.int (nI 1)), some (.long (thN S.d S.D.X k)), none, some (.int (nI k)), none, none, none] [] 1 28 I' L' xP0 := by
  have h4 : S.d.nA ≤ 4 := hd.a4
  have h5 : S.d.nL ≤ 5 := hd.l5
  have hHo : hoN S.d S.D.X ≤ 61 := ffN_le _ 61
  have hRo : roH S.d S.D.X ≤ 61 := ffN_le _ 61
  have hAg : agoN S.d S.D.X ≤ 61 := ago_le
  have eX := dd_X S k
  have ez := dd_z S k
  have o1 : ∀ t, olI (S.wD (ddN S (k))).d (S.wD (ddN S (k))).D.X t 1 = nI (plN (dyN S.d S.D.X k) t) := fun t => by
    show nI (plN (ddN S k).X t) = _
    rw [eX]
  have o4 : ∀ t, olI (S.wD (ddN S (k))).d (S.wD (ddN S (k))).D.X t 4 = cI (tkrN (tkN S.d (dyN S.d S.D.X k) 27 15 S.d.nA).1 t) := fun t => by
    show cI (tkrN (tkN S.d (ddN S k).X 27 15 S.d.nA).1 t) = _
    rw [eX]
  have c4 : ∀ v, cntI ((S.wD (ddN S (k))).wT v) 4 = nI (bsN (hmB S.d (dyN S.d S.D.X k)) S.d.nL) := fun v => by
    show nI (bsN (hmB S.d (ddN S k).X) S.d.nL) = _
    rw [eX]
  have est : stl (S.wD (ddN S (k))) = st2 S.d (dyN S.d S.D.X k) S.d.nL := by
    show st2 S.d (ddN S k).X S.d.nL = _
    rw [eX]
  have hB : bsN (hmB S.d (dyN S.d S.D.X k)) S.d.nL < 32 := Nat.lt_of_lt_of_le (bsN_lt _ _) (Nat.pow_le_pow_right (n := 2) (j := 5) (by decide) h5)
  have hp2 : 2 ^ S.d.nL ≤ 32 := p2_32 h5
  have hp1 := Nat.two_pow_pos S.d.nL
  intro I2 L2 hC2 hW2
  have go := h226 I2 L2 hC2 hW2
  refine xrun okL_goesOn hhL_goesOn [(226, [true, true, true, true, false, true, true, true, true, true, true, true, true, true, false, true, false, false, false])] 60 ?_
  rcases hr : roH S.d S.D.X with _ | q
  · rw [hr] at go
    rw [cI_0] at go ⊢
    (first | (refine xbr_f ?_ ?_; (focus ((simp (disch := omega) only [ix_lt, ix_le, ix_eq, ix_0, nI_clamp, nI_toInt, ng_T, nI_add, nI_mul, nI_sub', Int.neg_zero, not_false_eq_true, not_true_eq_false] <;> omega); done))) | (refine xbr_t ?_ ?_; (focus ((simp (disch := omega) only [ix_lt, ix_le, ix_eq, ix_0, nI_clamp, nI_toInt, ng_T, nI_add, nI_mul, nI_sub', Int.neg_zero, not_false_eq_true, not_true_eq_false] <;> omega); done))) | refine ⟨Or.inl rfl, ?_⟩ | refine ⟨Or.inr rfl, ?_⟩ | (refine ⟨?_, ?_⟩; (focus (exact in_nI (by omega) (by omega)))))
    exact go
  · obtain ⟨r1, r2, r3, r4⟩ := ro_sp hr
    rw [hr] at go
    rw [cI_s] at go ⊢
    (first | (refine xbr_f ?_ ?_; (focus ((simp (disch := omega) only [ix_lt, ix_le, ix_eq, ix_0, nI_clamp, nI_toInt, ng_T, nI_add, nI_mul, nI_sub', Int.neg_zero, not_false_eq_true, not_true_eq_false] <;> omega); done))) | (refine xbr_t ?_ ?_; (focus ((simp (disch := omega) only [ix_lt, ix_le, ix_eq, ix_0, nI_clamp, nI_toInt, ng_T, nI_add, nI_mul, nI_sub', Int.neg_zero, not_false_eq_true, not_true_eq_false] <;> omega); done))) | refine ⟨Or.inl rfl, ?_⟩ | refine ⟨Or.inr rfl, ?_⟩ | (refine ⟨?_, ?_⟩; (focus (exact in_nI (by omega) (by omega)))))
    by_cases hk1 : k < q
    · (first | (refine xbr_f ?_ ?_; (focus ((simp (disch := omega) only [ix_lt, ix_le, ix_eq, ix_0, nI_clamp, nI_toInt, ng_T, nI_add, nI_mul, nI_sub', Int.neg_zero, not_false_eq_true, not_true_eq_false] <;> omega); done))) | (refine xbr_t ?_ ?_; (focus ((simp (disch := omega) only [ix_lt, ix_le, ix_eq, ix_0, nI_clamp, nI_toInt, ng_T, nI_add, nI_mul, nI_sub', Int.neg_zero, not_false_eq_true, not_true_eq_false] <;> omega); done))) | refine ⟨Or.inl rfl, ?_⟩ | refine ⟨Or.inr rfl, ?_⟩ | (refine ⟨?_, ?_⟩; (focus (exact in_nI (by omega) (by omega)))))
      exact go
    · (first | (refine xbr_f ?_ ?_; (focus ((simp (disch := omega) only [ix_lt, ix_le, ix_eq, ix_0, nI_clamp, nI_toInt, ng_T, nI_add, nI_mul, nI_sub', Int.neg_zero, not_false_eq_true, not_true_eq_false] <;> omega); done))) | (refine xbr_t ?_ ?_; (focus ((simp (disch := omega) only [ix_lt, ix_le, ix_eq, ix_0, nI_clamp, nI_toInt, ng_T, nI_add, nI_mul, nI_sub', Int.neg_zero, not_false_eq_true, not_true_eq_false] <;> omega); done))) | refine ⟨Or.inl rfl, ?_⟩ | refine ⟨Or.inr rfl, ?_⟩ | (refine ⟨?_, ?_⟩; (focus (exact in_nI (by omega) (by omega)))))
      by_cases hq : 20 < q
      · omega
      · (first | (refine xbr_f ?_ ?_; (focus ((simp (disch := omega) only [ix_lt, ix_le, ix_eq, ix_0, nI_clamp, nI_toInt, ng_T, nI_add, nI_mul, nI_sub', Int.neg_zero, not_false_eq_true, not_true_eq_false] <;> omega); done))) | (refine xbr_t ?_ ?_; (focus ((simp (disch := omega) only [ix_lt, ix_le, ix_eq, ix_0, nI_clamp, nI_toInt, ng_T, nI_add, nI_mul, nI_sub', Int.neg_zero, not_false_eq_true, not_true_eq_false] <;> omega); done))) | refine ⟨Or.inl rfl, ?_⟩ | refine ⟨Or.inr rfl, ?_⟩ | (refine ⟨?_, ?_⟩; (focus (exact in_nI (by omega) (by omega)))))
        by_cases hk2 : k = q
        · (first | (refine xbr_f ?_ ?_; (focus ((simp (disch := omega) only [ix_lt, ix_le, ix_eq, ix_0, nI_clamp, nI_toInt, ng_T, nI_add, nI_mul, nI_sub', Int.neg_zero, not_false_eq_true, not_true_eq_false] <;> omega); done))) | (refine xbr_t ?_ ?_; (focus ((simp (disch := omega) only [ix_lt, ix_le, ix_eq, ix_0, nI_clamp, nI_toInt, ng_T, nI_add, nI_mul, nI_sub', Int.neg_zero, not_false_eq_true, not_true_eq_false] <;> omega); done))) | refine ⟨Or.inl rfl, ?_⟩ | refine ⟨Or.inr rfl, ?_⟩ | (refine ⟨?_, ?_⟩; (focus (exact in_nI (by omega) (by omega)))))
          refine ⟨rfl, rfl, (S.wD (ddN S (k))), rfl, hC2, hW2.wok, fun I3 L3 hf3 hC3 => ?_⟩
          have go := h226 I3 L3 hC3 (RW_f hW2 hf3)
          have e2 : thN S.d S.D.X k = stl (S.wD (ddN S (k))) := by
            rw [est]
            unfold thN
            rw [hr, if_pos ⟨by omega, by show q - agoN S.d S.D.X < k; omega⟩, hk2]
            rfl
          rw [hr, cI_s] at go
          refine xbr_t (by rw [e2]; exact lcmp_0 _) ?_
          exact go
        · (first | (refine xbr_f ?_ ?_; (focus ((simp (disch := omega) only [ix_lt, ix_le, ix_eq, ix_0, nI_clamp, nI_toInt, ng_T, nI_add, nI_mul, nI_sub', Int.neg_zero, not_false_eq_true, not_true_eq_false] <;> omega); done))) | (refine xbr_t ?_ ?_; (focus ((simp (disch := omega) only [ix_lt, ix_le, ix_eq, ix_0, nI_clamp, nI_toInt, ng_T, nI_add, nI_mul, nI_sub', Int.neg_zero, not_false_eq_true, not_true_eq_false] <;> omega); done))) | refine ⟨Or.inl rfl, ?_⟩ | refine ⟨Or.inr rfl, ?_⟩ | (refine ⟨?_, ?_⟩; (focus (exact in_nI (by omega) (by omega)))))
          exact go
set_option maxHeartbeats 800000 in
set_option maxRecDepth 100000 in
theorem g163 {Q : xQ} {S : ST} {l n : Nat} (hd : S.d.ok) (hX0 : XOk S.D.X) (hA : 0 < S.d.nA) (hL : 0 < S.d.nL) (hz0 : 0 < S.D.z) (hz : S.D.z ≤ 20) (hl : l < S.d.nL) (hn : n < 21) {k : Nat} (hk : k < 21) (h182 : ∀ I' L', Lq (S.wD (ddN S (k))) I' L' → RW S.d I' → xGo mL_goesOn csL_goesOn 182 Q [some (.ref 1), some (.ref 0), some (.ref 27), some (.long (hsh S)), none, some (.int (nI l)), some (.int (nI n)), some (.int (nI (plN (dyN S.d S.D.X n) l))), some (.int (cI (hoN S.d S.D.X))), some (.int (cI (roH S.d S.D.X))), some (.int (nI (agoN S.d S.D.X))), some (.ref 28), some (.int (nI 1)), some (.long (thN S.d S.D.X k)), none, some (.int (nI k)), none, none, none] [] 1 28 I' L' xP0) : ∀ I' L', Lq (S.wD (ddN S (k))) I' L' → RW S.d I' → xGo mL_goesOn csL_goesOn 163 Q [some (.ref 1), some (.ref 0), some (.ref 27), some (.long (hsh S)), none, some (.int (nI l)), some (.int (nI n)), some (.int (nI (plN (dyN S.d S.D.X n) l))), some (.int (cI (hoN S.d S.D.X))), some (.int (cI (roH S.d S.D.X))), some (.int (nI (agoN S.d S.D.X))), some (.ref 28), some (.int (nI 1)), some (.long (thN S.d S.D.X k)), none, some (.int (nI k)), none, none, none] [] 1 28 I' L' xP0 := by
  have h4 : S.d.nA ≤ 4 := hd.a4
  have h5 : S.d.nL ≤ 5 := hd.l5
  have hHo : hoN S.d S.D.X ≤ 61 := ffN_le _ 61
  have hRo : roH S.d S.D.X ≤ 61 := ffN_le _ 61
  have hAg : agoN S.d S.D.X ≤ 61 := ago_le
  have eX := dd_X S k
  have ez := dd_z S k
  have o1 : ∀ t, olI (S.wD (ddN S (k))).d (S.wD (ddN S (k))).D.X t 1 = nI (plN (dyN S.d S.D.X k) t) := fun t => by
    show nI (plN (ddN S k).X t) = _
    rw [eX]
  have o4 : ∀ t, olI (S.wD (ddN S (k))).d (S.wD (ddN S (k))).D.X t 4 = cI (tkrN (tkN S.d (dyN S.d S.D.X k) 27 15 S.d.nA).1 t) := fun t => by
    show cI (tkrN (tkN S.d (ddN S k).X 27 15 S.d.nA).1 t) = _
    rw [eX]
  have c4 : ∀ v, cntI ((S.wD (ddN S (k))).wT v) 4 = nI (bsN (hmB S.d (dyN S.d S.D.X k)) S.d.nL) := fun v => by
    show nI (bsN (hmB S.d (ddN S k).X) S.d.nL) = _
    rw [eX]
  have est : stl (S.wD (ddN S (k))) = st2 S.d (dyN S.d S.D.X k) S.d.nL := by
    show st2 S.d (ddN S k).X S.d.nL = _
    rw [eX]
  have hB : bsN (hmB S.d (dyN S.d S.D.X k)) S.d.nL < 32 := Nat.lt_of_lt_of_le (bsN_lt _ _) (Nat.pow_le_pow_right (n := 2) (j := 5) (by decide) h5)
  have hp2 : 2 ^ S.d.nL ≤ 32 := p2_32 h5
  have hp1 := Nat.two_pow_pos S.d.nL
  intro I2 L2 hC2 hW2
  refine xrun okL_goesOn hhL_goesOn [(182, [true, true, true, true, false, true, true, true, true, true, true, true, true, true, false, true, false, false, false])] 60 ?_
  by_cases hkn : k = n
  · (first | (refine xbr_f ?_ ?_; (focus ((simp (disch := omega) only [ix_lt, ix_le, ix_eq, ix_0, nI_clamp, nI_toInt, ng_T, nI_add, nI_mul, nI_sub', Int.neg_zero, not_false_eq_true, not_true_eq_false] <;> omega); done))) | (refine xbr_t ?_ ?_; (focus ((simp (disch := omega) only [ix_lt, ix_le, ix_eq, ix_0, nI_clamp, nI_toInt, ng_T, nI_add, nI_mul, nI_sub', Int.neg_zero, not_false_eq_true, not_true_eq_false] <;> omega); done))) | refine ⟨Or.inl rfl, ?_⟩ | refine ⟨Or.inr rfl, ?_⟩ | (refine ⟨?_, ?_⟩; (focus (exact in_nI (by omega) (by omega)))))
    refine ⟨rfl, rfl, (S.wD (ddN S (k))), l, 1, rfl, hl, by decide, hC2, fun I3 L3 hf3 hC3 => ?_⟩
    rw [o1 l]
    refine xbr_t (by rw [hkn]) ?_
    exact h182 I3 L3 hC3 (RW_f hW2 hf3)
  · (first | (refine xbr_f ?_ ?_; (focus ((simp (disch := omega) only [ix_lt, ix_le, ix_eq, ix_0, nI_clamp, nI_toInt, ng_T, nI_add, nI_mul, nI_sub', Int.neg_zero, not_false_eq_true, not_true_eq_false] <;> omega); done))) | (refine xbr_t ?_ ?_; (focus ((simp (disch := omega) only [ix_lt, ix_le, ix_eq, ix_0, nI_clamp, nI_toInt, ng_T, nI_add, nI_mul, nI_sub', Int.neg_zero, not_false_eq_true, not_true_eq_false] <;> omega); done))) | refine ⟨Or.inl rfl, ?_⟩ | refine ⟨Or.inr rfl, ?_⟩ | (refine ⟨?_, ?_⟩; (focus (exact in_nI (by omega) (by omega)))))
    exact h182 I2 L2 hC2 hW2
set_option maxHeartbeats 800000 in
set_option maxRecDepth 100000 in
theorem gstep {Q : xQ} {S : ST} {l n : Nat} (hd : S.d.ok) (hX0 : XOk S.D.X) (hA : 0 < S.d.nA) (hL : 0 < S.d.nL) (hz0 : 0 < S.D.z) (hz : S.D.z ≤ 20) (hl : l < S.d.nL) (hn : n < 21) {k : Nat} (hk : k < 21) (h163 : ∀ I' L', Lq (S.wD (ddN S (k))) I' L' → RW S.d I' → xGo mL_goesOn csL_goesOn 163 Q [some (.ref 1), some (.ref 0), some (.ref 27), some (.long (hsh S)), none, some (.int (nI l)), some (.int (nI n)), some (.int (nI (plN (dyN S.d S.D.X n) l))), some (.int (cI (hoN S.d S.D.X))), some (.int (cI (roH S.d S.D.X))), some (.int (nI (agoN S.d S.D.X))), some (.ref 28), some (.int (nI 1)), some (.long (thN S.d S.D.X k)), none, some (.int (nI k)), none, none, none] [] 1 28 I' L' xP0) : ∀ I' L', Lq (S.wD (ddN S (k))) I' L' → RW S.d I' → xGo mL_goesOn csL_goesOn 111 Q [some (.ref 1), some (.ref 0), some (.ref 27), some (.long (hsh S)), none, some (.int (nI l)), some (.int (nI n)), some (.int (nI (plN (dyN S.d S.D.X n) l))), some (.int (cI (hoN S.d S.D.X))), some (.int (cI (roH S.d S.D.X))), some (.int (nI (agoN S.d S.D.X))), some (.ref 28), some (.int (nI 1)), some (.long (thN S.d S.D.X k)), none, some (.int (nI k)), none, none, none] [] 1 28 I' L' xP0 := by
  have h4 : S.d.nA ≤ 4 := hd.a4
  have h5 : S.d.nL ≤ 5 := hd.l5
  have hHo : hoN S.d S.D.X ≤ 61 := ffN_le _ 61
  have hRo : roH S.d S.D.X ≤ 61 := ffN_le _ 61
  have hAg : agoN S.d S.D.X ≤ 61 := ago_le
  have eX := dd_X S k
  have ez := dd_z S k
  have o1 : ∀ t, olI (S.wD (ddN S (k))).d (S.wD (ddN S (k))).D.X t 1 = nI (plN (dyN S.d S.D.X k) t) := fun t => by
    show nI (plN (ddN S k).X t) = _
    rw [eX]
  have o4 : ∀ t, olI (S.wD (ddN S (k))).d (S.wD (ddN S (k))).D.X t 4 = cI (tkrN (tkN S.d (dyN S.d S.D.X k) 27 15 S.d.nA).1 t) := fun t => by
    show cI (tkrN (tkN S.d (ddN S k).X 27 15 S.d.nA).1 t) = _
    rw [eX]
  have c4 : ∀ v, cntI ((S.wD (ddN S (k))).wT v) 4 = nI (bsN (hmB S.d (dyN S.d S.D.X k)) S.d.nL) := fun v => by
    show nI (bsN (hmB S.d (ddN S k).X) S.d.nL) = _
    rw [eX]
  have est : stl (S.wD (ddN S (k))) = st2 S.d (dyN S.d S.D.X k) S.d.nL := by
    show st2 S.d (ddN S k).X S.d.nL = _
    rw [eX]
  have hB : bsN (hmB S.d (dyN S.d S.D.X k)) S.d.nL < 32 := Nat.lt_of_lt_of_le (bsN_lt _ _) (Nat.pow_le_pow_right (n := 2) (j := 5) (by decide) h5)
  have hp2 : 2 ^ S.d.nL ≤ 32 := p2_32 h5
  have hp1 := Nat.two_pow_pos S.d.nL
  intro I1 L1 hC1 hW1
  refine xrun okL_goesOn hhL_goesOn [(163, [true, true, true, true, false, true, true, true, true, true, true, true, true, true, false, true, false, false, false])] 60 ?_
  (first | (refine xbr_f ?_ ?_; (focus ((simp (disch := omega) only [ix_lt, ix_le, ix_eq, ix_0, nI_clamp, nI_toInt, ng_T, nI_add, nI_mul, nI_sub', Int.neg_zero, not_false_eq_true, not_true_eq_false] <;> omega); done))) | (refine xbr_t ?_ ?_; (focus ((simp (disch := omega) only [ix_lt, ix_le, ix_eq, ix_0, nI_clamp, nI_toInt, ng_T, nI_add, nI_mul, nI_sub', Int.neg_zero, not_false_eq_true, not_true_eq_false] <;> omega); done))) | refine ⟨Or.inl rfl, ?_⟩ | refine ⟨Or.inr rfl, ?_⟩ | (refine ⟨?_, ?_⟩; (focus (exact in_nI (by omega) (by omega)))))
  (first | (refine xbr_f ?_ ?_; (focus ((simp (disch := omega) only [ix_lt, ix_le, ix_eq, ix_0, nI_clamp, nI_toInt, ng_T, nI_add, nI_mul, nI_sub', Int.neg_zero, not_false_eq_true, not_true_eq_false] <;> omega); done))) | (refine xbr_t ?_ ?_; (focus ((simp (disch := omega) only [ix_lt, ix_le, ix_eq, ix_0, nI_clamp, nI_toInt, ng_T, nI_add, nI_mul, nI_sub', Int.neg_zero, not_false_eq_true, not_true_eq_false] <;> omega); done))) | refine ⟨Or.inl rfl, ?_⟩ | refine ⟨Or.inr rfl, ?_⟩ | (refine ⟨?_, ?_⟩; (focus (exact in_nI (by omega) (by omega)))))
  obtain ⟨v1, hC1⟩ := hC1
  have go := h163 I1 L1 ⟨v1, hC1⟩ hW1
  refine ⟨rfl, rfl, (S.wD (ddN S (k))).wT v1, _, rfl, hC1, fun q => ct_no (by decide) q, fun j e hj => ?_⟩
  obtain rfl := nI_j (by omega) (by omega) e
  rw [c4 v1]
  have w1' : I1 27 (nI 1).toNatClampNeg = nI S.d.nL := by rw [nI_clamp (by decide)]; exact hW1.2.1
  refine ⟨in_nI (by omega) (by decide), ?_⟩
  have e2 : (nI 1 <<< (nI S.d.nL &&& 31)) - nI 1 = nI (2 ^ S.d.nL - 1) := by rw [shl_n 1 (by omega), Nat.one_mul, nI_sub' hp1]
  rw [w1']
  have hio := ho_iff hd (X := S.D.X) (k := k) (by omega)
  cases hb : ahB S.d (dyN S.d S.D.X k)
  · have hne : ¬ bsN (hmB S.d (dyN S.d S.D.X k)) S.d.nL = 2 ^ S.d.nL - 1 := of_decide_eq_false hb
    rw [hb] at hio
    have hio2 : ¬ (0 < hoN S.d S.D.X ∧ hoN S.d S.D.X - 1 ≤ k) := fun q => Bool.noConfusion (hio.mpr q)
    refine xbr_f (by rw [e2, nI_eq (by omega) (by omega)]; exact hne) ?_
    rcases hh : hoN S.d S.D.X with _ | m
    · rw [hh] at go
      rw [cI_0] at go ⊢
      (first | (refine xbr_f ?_ ?_; (focus ((simp (disch := omega) only [ix_lt, ix_le, ix_eq, ix_0, nI_clamp, nI_toInt, ng_T, nI_add, nI_mul, nI_sub', Int.neg_zero, not_false_eq_true, not_true_eq_false] <;> omega); done))) | (refine xbr_t ?_ ?_; (focus ((simp (disch := omega) only [ix_lt, ix_le, ix_eq, ix_0, nI_clamp, nI_toInt, ng_T, nI_add, nI_mul, nI_sub', Int.neg_zero, not_false_eq_true, not_true_eq_false] <;> omega); done))) | refine ⟨Or.inl rfl, ?_⟩ | refine ⟨Or.inr rfl, ?_⟩ | (refine ⟨?_, ?_⟩; (focus (exact in_nI (by omega) (by omega)))))
      refine xbr_t rfl ?_
      exact go
    · rw [hh] at go hio2 hHo
      rw [cI_s] at go ⊢
      (first | (refine xbr_f ?_ ?_; (focus ((simp (disch := omega) only [ix_lt, ix_le, ix_eq, ix_0, nI_clamp, nI_toInt, ng_T, nI_add, nI_mul, nI_sub', Int.neg_zero, not_false_eq_true, not_true_eq_false] <;> omega); done))) | (refine xbr_t ?_ ?_; (focus ((simp (disch := omega) only [ix_lt, ix_le, ix_eq, ix_0, nI_clamp, nI_toInt, ng_T, nI_add, nI_mul, nI_sub', Int.neg_zero, not_false_eq_true, not_true_eq_false] <;> omega); done))) | refine ⟨Or.inl rfl, ?_⟩ | refine ⟨Or.inr rfl, ?_⟩ | (refine ⟨?_, ?_⟩; (focus (exact in_nI (by omega) (by omega)))))
      (first | (refine xbr_f ?_ ?_; (focus ((simp (disch := omega) only [ix_lt, ix_le, ix_eq, ix_0, nI_clamp, nI_toInt, ng_T, nI_add, nI_mul, nI_sub', Int.neg_zero, not_false_eq_true, not_true_eq_false] <;> omega); done))) | (refine xbr_t ?_ ?_; (focus ((simp (disch := omega) only [ix_lt, ix_le, ix_eq, ix_0, nI_clamp, nI_toInt, ng_T, nI_add, nI_mul, nI_sub', Int.neg_zero, not_false_eq_true, not_true_eq_false] <;> omega); done))) | refine ⟨Or.inl rfl, ?_⟩ | refine ⟨Or.inr rfl, ?_⟩ | (refine ⟨?_, ?_⟩; (focus (exact in_nI (by omega) (by omega)))))
      refine xbr_t rfl ?_
      exact go
  · have heq : bsN (hmB S.d (dyN S.d S.D.X k)) S.d.nL = 2 ^ S.d.nL - 1 := of_decide_eq_true hb
    obtain ⟨q1, q2⟩ := hio.mp hb
    refine xbr_t (by rw [e2, heq]) ?_
    rcases hh : hoN S.d S.D.X with _ | m
    · omega
    · rw [hh] at go q2 hHo
      rw [cI_s] at go ⊢
      (first | (refine xbr_f ?_ ?_; (focus ((simp (disch := omega) only [ix_lt, ix_le, ix_eq, ix_0, nI_clamp, nI_toInt, ng_T, nI_add, nI_mul, nI_sub', Int.neg_zero, not_false_eq_true, not_true_eq_false] <;> omega); done))) | (refine xbr_t ?_ ?_; (focus ((simp (disch := omega) only [ix_lt, ix_le, ix_eq, ix_0, nI_clamp, nI_toInt, ng_T, nI_add, nI_mul, nI_sub', Int.neg_zero, not_false_eq_true, not_true_eq_false] <;> omega); done))) | refine ⟨Or.inl rfl, ?_⟩ | refine ⟨Or.inr rfl, ?_⟩ | (refine ⟨?_, ?_⟩; (focus (exact in_nI (by omega) (by omega)))))
      (first | (refine xbr_f ?_ ?_; (focus ((simp (disch := omega) only [ix_lt, ix_le, ix_eq, ix_0, nI_clamp, nI_toInt, ng_T, nI_add, nI_mul, nI_sub', Int.neg_zero, not_false_eq_true, not_true_eq_false] <;> omega); done))) | (refine xbr_t ?_ ?_; (focus ((simp (disch := omega) only [ix_lt, ix_le, ix_eq, ix_0, nI_clamp, nI_toInt, ng_T, nI_add, nI_mul, nI_sub', Int.neg_zero, not_false_eq_true, not_true_eq_false] <;> omega); done))) | refine ⟨Or.inl rfl, ?_⟩ | refine ⟨Or.inr rfl, ?_⟩ | (refine ⟨?_, ?_⟩; (focus (exact in_nI (by omega) (by omega)))))
      refine xbr_t rfl ?_
      exact go
set_option maxHeartbeats 800000 in
set_option maxRecDepth 100000 in
theorem g111 {Q : xQ} {S : ST} {l n : Nat} (hd : S.d.ok) (hX0 : XOk S.D.X) (hA : 0 < S.d.nA) (hL : 0 < S.d.nL) (hz0 : 0 < S.D.z) (hz : S.D.z ≤ 20) (hl : l < S.d.nL) (hn : n < 21) (hkp : S.kp 2 = S.D) (hQ : ∀ I' L', RW S.d I' → Lq S I' L' → Q (some (.int (nI 1))) 28 I' L' xP0) : ∀ I' L', Lq S I' L' → RW S.d I' → xGo mL_goesOn csL_goesOn 111 Q [some (.ref 1), some (.ref 0), some (.ref 27), some (.long (hsh S)), none, some (.int (nI l)), some (.int (nI n)), some (.int (nI (plN (dyN S.d S.D.X n) l))), some (.int (cI (hoN S.d S.D.X))), some (.int (cI (roH S.d S.D.X))), some (.int (nI (agoN S.d S.D.X))), some (.ref 28), some (.int (nI 1)), some (.long (thN S.d S.D.X 0)), none, some (.int (nI 0)), none, none, none] [] 1 28 I' L' xP0 := by
  have h4 : S.d.nA ≤ 4 := hd.a4
  have h5 : S.d.nL ≤ 5 := hd.l5
  have hHo : hoN S.d S.D.X ≤ 61 := ffN_le _ 61
  have hRo : roH S.d S.D.X ≤ 61 := ffN_le _ 61
  have hAg : agoN S.d S.D.X ≤ 61 := ago_le
  intro I0 L0 hC0 hW0
  obtain ⟨N, hN⟩ : ∃ N, N = 21 := ⟨21, rfl⟩
  refine xgo_eq (xlpK (M := mL_goesOn) (cs := csL_goesOn) (pc := 111) N (fun k => [some (.ref 1), some (.ref 0), some (.ref 27), some (.long (hsh S)), none, some (.int (nI l)), some (.int (nI n)), some (.int (nI (plN (dyN S.d S.D.X n) l))), some (.int (cI (hoN S.d S.D.X))), some (.int (cI (roH S.d S.D.X))), some (.int (nI (agoN S.d S.D.X))), some (.ref 28), some (.int (nI 1)), some (.long (thN S.d S.D.X k)), none, some (.int (nI k)), none, none, none]) (fun k I' L' => Lq (S.wD (ddN S (k))) I' L' ∧ RW S.d I') ?_ ?_ ⟨hC0, hW0⟩) rfl rfl rfl
  · rintro k hk I1 L1 ⟨hC1, hW1⟩ ih
    have hk : k < 21 := by omega
    have ih : ∀ I' L', Lq (S.wD (ddN S (k + 1))) I' L' → RW S.d I' → xGo mL_goesOn csL_goesOn 111 Q [some (.ref 1), some (.ref 0), some (.ref 27), some (.long (hsh S)), none, some (.int (nI l)), some (.int (nI n)), some (.int (nI (plN (dyN S.d S.D.X n) l))), some (.int (cI (hoN S.d S.D.X))), some (.int (cI (roH S.d S.D.X))), some (.int (nI (agoN S.d S.D.X))), some (.ref 28), some (.int (nI 1)), some (.long (thN S.d S.D.X (k + 1))), none, some (.int (nI (k + 1))), none, none, none] [] 1 28 I' L' xP0 := fun I' L' a b => ih I' L' ⟨a, b⟩
    exact gstep hd hX0 hA hL hz0 hz hl hn hk (g163 hd hX0 hA hL hz0 hz hl hn hk (g182 hd hX0 hA hL hz0 hz hl hn hk (g226 hd hX0 hA hL hz0 hz hl hn hk (g253 hd hX0 hA hL hz0 hz hl hn hk (g355 hd hX0 hA hL hz0 hz hl hn hk ih))))) I1 L1 hC1 hW1
  · rintro I1 L1 ⟨⟨v1, hC1⟩, hW1⟩
    have ez := dd_z S N
    refine xrun okL_goesOn hhL_goesOn [] 60 ?_
    (first | (refine xbr_f ?_ ?_; (focus ((simp (disch := omega) only [ix_lt, ix_le, ix_eq, ix_0, nI_clamp, nI_toInt, ng_T, nI_add, nI_mul, nI_sub', Int.neg_zero, not_false_eq_true, not_true_eq_false] <;> omega); done))) | (refine xbr_t ?_ ?_; (focus ((simp (disch := omega) only [ix_lt, ix_le, ix_eq, ix_0, nI_clamp, nI_toInt, ng_T, nI_add, nI_mul, nI_sub', Int.neg_zero, not_false_eq_true, not_true_eq_false] <;> omega); done))) | refine ⟨Or.inl rfl, ?_⟩ | refine ⟨Or.inr rfl, ?_⟩ | (refine ⟨?_, ?_⟩; (focus (exact in_nI (by omega) (by omega)))))
    (first | (refine xbr_f ?_ ?_; (focus ((simp (disch := omega) only [ix_lt, ix_le, ix_eq, ix_0, nI_clamp, nI_toInt, ng_T, nI_add, nI_mul, nI_sub', Int.neg_zero, not_false_eq_true, not_true_eq_false] <;> omega); done))) | (refine xbr_t ?_ ?_; (focus ((simp (disch := omega) only [ix_lt, ix_le, ix_eq, ix_0, nI_clamp, nI_toInt, ng_T, nI_add, nI_mul, nI_sub', Int.neg_zero, not_false_eq_true, not_true_eq_false] <;> omega); done))) | refine ⟨Or.inl rfl, ?_⟩ | refine ⟨Or.inr rfl, ?_⟩ | (refine ⟨?_, ?_⟩; (focus (exact in_nI (by omega) (by omega)))))
    refine ⟨rfl, rfl, (S.wD (ddN S (N))).wT v1, _, rfl, hC1, fun o S2 I2 L2 hr2 hf2 hC2 => ?_⟩
    have hkz : ((S.wD (ddN S (N))).wT v1).kp 2 = S.D := hkp
    obtain ⟨e3, e4⟩ : o = nI (S.D.z - 1) ∧ S2 = S.wT v1 := by
      have := onR_v (S := (S.wD (ddN S (N))).wT v1) hr2 (by decide) (by rw [hkz]; exact hz0)
      rw [hkz] at this
      exact this
    subst e3
    subst e4
    (first | (refine xbr_f ?_ ?_; (focus ((simp (disch := omega) only [ix_lt, ix_le, ix_eq, ix_0, nI_clamp, nI_toInt, ng_T, nI_add, nI_mul, nI_sub', Int.neg_zero, not_false_eq_true, not_true_eq_false] <;> omega); done))) | (refine xbr_t ?_ ?_; (focus ((simp (disch := omega) only [ix_lt, ix_le, ix_eq, ix_0, nI_clamp, nI_toInt, ng_T, nI_add, nI_mul, nI_sub', Int.neg_zero, not_false_eq_true, not_true_eq_false] <;> omega); done))) | refine ⟨Or.inl rfl, ?_⟩ | refine ⟨Or.inr rfl, ?_⟩ | (refine ⟨?_, ?_⟩; (focus (exact in_nI (by omega) (by omega)))))
    refine ⟨rfl, rfl, S, rfl, ⟨v1, hC2⟩, (RW_f hW1 hf2).wok, fun I3 L3 hf3 hC3 => ?_⟩
    refine xbr_t (lcmp_0 _) ?_
    refine ⟨Or.inr rfl, ?_⟩
    exact hQ I3 L3 (RW_f (RW_f hW1 hf2) hf3) hC3
set_option maxHeartbeats 800000 in
set_option maxRecDepth 100000 in
theorem g105 {Q : xQ} {S : ST} {l n : Nat} (hd : S.d.ok) (hX0 : XOk S.D.X) (hA : 0 < S.d.nA) (hL : 0 < S.d.nL) (hz0 : 0 < S.D.z) (hz : S.D.z ≤ 20) (hl : l < S.d.nL) (hn : n < 21) (h111 : ∀ I' L', Lq S I' L' → RW S.d I' → xGo mL_goesOn csL_goesOn 111 Q [some (.ref 1), some (.ref 0), some (.ref 27), some (.long (hsh S)), none, some (.int (nI l)), some (.int (nI n)), some (.int (nI (plN (dyN S.d S.D.X n) l))), some (.int (cI (hoN S.d S.D.X))), some (.int (cI (roH S.d S.D.X))), some (.int (nI (agoN S.d S.D.X))), some (.ref 28), some (.int (nI 1)), some (.long (thN S.d S.D.X 0)), none, some (.int (nI 0)), none, none, none] [] 1 28 I' L' xP0) : ∀ I' L', Lq S I' L' → RW S.d I' → xGo mL_goesOn csL_goesOn 105 Q [some (.ref 1), some (.ref 0), some (.ref 27), some (.long (hsh S)), none, some (.int (nI l)), some (.int (nI n)), some (.int (nI (plN (dyN S.d S.D.X n) l))), some (.int (cI (hoN S.d S.D.X))), some (.int (cI (roH S.d S.D.X))), some (.int (nI (agoN S.d S.D.X))), some (.ref 28), some (.int (nI 1)), none, none, none, none, none, none] [] 1 28 I' L' xP0 := by
  have h4 : S.d.nA ≤ 4 := hd.a4
  have h5 : S.d.nL ≤ 5 := hd.l5
  have hHo : hoN S.d S.D.X ≤ 61 := ffN_le _ 61
  have hRo : roH S.d S.D.X ≤ 61 := ffN_le _ 61
  have hAg : agoN S.d S.D.X ≤ 61 := ago_le
  intro I1 L1 hC1 hW1
  have e : thN S.d S.D.X 0 = lN 0 := if_neg (fun q => absurd q.2 (Nat.not_lt_zero _))
  refine xrun okL_goesOn hhL_goesOn [(111, [true, true, true, true, false, true, true, true, true, true, true, true, true, true, false, true, false, false, false])] 20 ?_
  have go := h111 I1 L1 hC1 hW1
  rw [e] at go
  exact go
set_option maxHeartbeats 800000 in
set_option maxRecDepth 100000 in
theorem g62 {Q : xQ} {S : ST} {l n : Nat} (hd : S.d.ok) (hX0 : XOk S.D.X) (hA : 0 < S.d.nA) (hL : 0 < S.d.nL) (hz0 : 0 < S.D.z) (hz : S.D.z ≤ 20) (hl : l < S.d.nL) (hn : n < 21) (h105 : ∀ I' L', Lq S I' L' → RW S.d I' → xGo mL_goesOn csL_goesOn 105 Q [some (.ref 1), some (.ref 0), some (.ref 27), some (.long (hsh S)), none, some (.int (nI l)), some (.int (nI n)), some (.int (nI (plN (dyN S.d S.D.X n) l))), some (.int (cI (hoN S.d S.D.X))), some (.int (cI (roH S.d S.D.X))), some (.int (nI (agoN S.d S.D.X))), some (.ref 28), some (.int (nI 1)), none, none, none, none, none, none] [] 1 28 I' L' xP0) : ∀ I' L', Lq S I' L' → RW S.d I' → xGo mL_goesOn csL_goesOn 62 Q [some (.ref 1), some (.ref 0), some (.ref 27), some (.long (hsh S)), none, some (.int (nI l)), some (.int (nI n)), some (.int (nI (plN (dyN S.d S.D.X n) l))), some (.int (cI (hoN S.d S.D.X))), some (.int (cI (roH S.d S.D.X))), some (.int (nI (agoN S.d S.D.X))), none, none, none, none, none, none, none, none] [] 0 27 I' L' xP0 := by
  have h4 : S.d.nA ≤ 4 := hd.a4
  have h5 : S.d.nL ≤ 5 := hd.l5
  have hHo : hoN S.d S.D.X ≤ 61 := ffN_le _ 61
  have hRo : roH S.d S.D.X ≤ 61 := ffN_le _ 61
  have hAg : agoN S.d S.D.X ≤ 61 := ago_le
  intro I1 L1 hC1 hW1
  have hC2 : Lq S (xrw I1 28 fun _ => 0) (xrw L1 28 fun _ => 0) := by
    obtain ⟨v, hc⟩ := hC1
    exact ⟨v, Cls_lk (Cls_wk hc (by decide) _) (by decide) _⟩
  have go := h105 _ _ hC2 (RW_28 hW1 _)
  refine xrun okL_goesOn hhL_goesOn [(105, [true, true, true, true, false, true, true, true, true, true, true, true, true, false, false, false, false, false, false])] 80 ?_
  refine ⟨rfl, ?_⟩
  rcases hh : hoN S.d S.D.X with _ | m
  · rw [hh] at go
    rw [cI_0] at go ⊢
    (first | (refine xbr_f ?_ ?_; (focus ((simp (disch := omega) only [ix_lt, ix_le, ix_eq, ix_0, nI_clamp, nI_toInt, ng_T, nI_add, nI_mul, nI_sub', Int.neg_zero, not_false_eq_true, not_true_eq_false] <;> omega); done))) | (refine xbr_t ?_ ?_; (focus ((simp (disch := omega) only [ix_lt, ix_le, ix_eq, ix_0, nI_clamp, nI_toInt, ng_T, nI_add, nI_mul, nI_sub', Int.neg_zero, not_false_eq_true, not_true_eq_false] <;> omega); done))) | refine ⟨Or.inl rfl, ?_⟩ | refine ⟨Or.inr rfl, ?_⟩ | (refine ⟨?_, ?_⟩; (focus (exact in_nI (by omega) (by omega)))))
    (first | (refine xbr_f ?_ ?_; (focus ((simp (disch := omega) only [ix_lt, ix_le, ix_eq, ix_0, nI_clamp, nI_toInt, ng_T, nI_add, nI_mul, nI_sub', Int.neg_zero, not_false_eq_true, not_true_eq_false] <;> omega); done))) | (refine xbr_t ?_ ?_; (focus ((simp (disch := omega) only [ix_lt, ix_le, ix_eq, ix_0, nI_clamp, nI_toInt, ng_T, nI_add, nI_mul, nI_sub', Int.neg_zero, not_false_eq_true, not_true_eq_false] <;> omega); done))) | refine ⟨Or.inl rfl, ?_⟩ | refine ⟨Or.inr rfl, ?_⟩ | (refine ⟨?_, ?_⟩; (focus (exact in_nI (by omega) (by omega)))))
    rcases hr : roH S.d S.D.X with _ | q
    · rw [hr] at go
      rw [cI_0] at go ⊢
      (first | (refine xbr_f ?_ ?_; (focus ((simp (disch := omega) only [ix_lt, ix_le, ix_eq, ix_0, nI_clamp, nI_toInt, ng_T, nI_add, nI_mul, nI_sub', Int.neg_zero, not_false_eq_true, not_true_eq_false] <;> omega); done))) | (refine xbr_t ?_ ?_; (focus ((simp (disch := omega) only [ix_lt, ix_le, ix_eq, ix_0, nI_clamp, nI_toInt, ng_T, nI_add, nI_mul, nI_sub', Int.neg_zero, not_false_eq_true, not_true_eq_false] <;> omega); done))) | refine ⟨Or.inl rfl, ?_⟩ | refine ⟨Or.inr rfl, ?_⟩ | (refine ⟨?_, ?_⟩; (focus (exact in_nI (by omega) (by omega)))))
      exact go
    · obtain ⟨r1, r2, r3, -⟩ := ro_sp hr
      rw [hr] at go
      rw [cI_s] at go ⊢
      (first | (refine xbr_f ?_ ?_; (focus ((simp (disch := omega) only [ix_lt, ix_le, ix_eq, ix_0, nI_clamp, nI_toInt, ng_T, nI_add, nI_mul, nI_sub', Int.neg_zero, not_false_eq_true, not_true_eq_false] <;> omega); done))) | (refine xbr_t ?_ ?_; (focus ((simp (disch := omega) only [ix_lt, ix_le, ix_eq, ix_0, nI_clamp, nI_toInt, ng_T, nI_add, nI_mul, nI_sub', Int.neg_zero, not_false_eq_true, not_true_eq_false] <;> omega); done))) | refine ⟨Or.inl rfl, ?_⟩ | refine ⟨Or.inr rfl, ?_⟩ | (refine ⟨?_, ?_⟩; (focus (exact in_nI (by omega) (by omega)))))
      (first | (refine xbr_f ?_ ?_; (focus ((simp (disch := omega) only [ix_lt, ix_le, ix_eq, ix_0, nI_clamp, nI_toInt, ng_T, nI_add, nI_mul, nI_sub', Int.neg_zero, not_false_eq_true, not_true_eq_false] <;> omega); done))) | (refine xbr_t ?_ ?_; (focus ((simp (disch := omega) only [ix_lt, ix_le, ix_eq, ix_0, nI_clamp, nI_toInt, ng_T, nI_add, nI_mul, nI_sub', Int.neg_zero, not_false_eq_true, not_true_eq_false] <;> omega); done))) | refine ⟨Or.inl rfl, ?_⟩ | refine ⟨Or.inr rfl, ?_⟩ | (refine ⟨?_, ?_⟩; (focus (exact in_nI (by omega) (by omega)))))
      (first | (refine xbr_f ?_ ?_; (focus ((simp (disch := omega) only [ix_lt, ix_le, ix_eq, ix_0, nI_clamp, nI_toInt, ng_T, nI_add, nI_mul, nI_sub', Int.neg_zero, not_false_eq_true, not_true_eq_false] <;> omega); done))) | (refine xbr_t ?_ ?_; (focus ((simp (disch := omega) only [ix_lt, ix_le, ix_eq, ix_0, nI_clamp, nI_toInt, ng_T, nI_add, nI_mul, nI_sub', Int.neg_zero, not_false_eq_true, not_true_eq_false] <;> omega); done))) | refine ⟨Or.inl rfl, ?_⟩ | refine ⟨Or.inr rfl, ?_⟩ | (refine ⟨?_, ?_⟩; (focus (exact in_nI (by omega) (by omega)))))
      exact go
  · rw [hh] at go hHo
    rw [cI_s] at go ⊢
    (first | (refine xbr_f ?_ ?_; (focus ((simp (disch := omega) only [ix_lt, ix_le, ix_eq, ix_0, nI_clamp, nI_toInt, ng_T, nI_add, nI_mul, nI_sub', Int.neg_zero, not_false_eq_true, not_true_eq_false] <;> omega); done))) | (refine xbr_t ?_ ?_; (focus ((simp (disch := omega) only [ix_lt, ix_le, ix_eq, ix_0, nI_clamp, nI_toInt, ng_T, nI_add, nI_mul, nI_sub', Int.neg_zero, not_false_eq_true, not_true_eq_false] <;> omega); done))) | refine ⟨Or.inl rfl, ?_⟩ | refine ⟨Or.inr rfl, ?_⟩ | (refine ⟨?_, ?_⟩; (focus (exact in_nI (by omega) (by omega)))))
    (first | (refine xbr_f ?_ ?_; (focus ((simp (disch := omega) only [ix_lt, ix_le, ix_eq, ix_0, nI_clamp, nI_toInt, ng_T, nI_add, nI_mul, nI_sub', Int.neg_zero, not_false_eq_true, not_true_eq_false] <;> omega); done))) | (refine xbr_t ?_ ?_; (focus ((simp (disch := omega) only [ix_lt, ix_le, ix_eq, ix_0, nI_clamp, nI_toInt, ng_T, nI_add, nI_mul, nI_sub', Int.neg_zero, not_false_eq_true, not_true_eq_false] <;> omega); done))) | refine ⟨Or.inl rfl, ?_⟩ | refine ⟨Or.inr rfl, ?_⟩ | (refine ⟨?_, ?_⟩; (focus (exact in_nI (by omega) (by omega)))))
    rcases hr : roH S.d S.D.X with _ | q
    · rw [hr] at go
      rw [cI_0] at go ⊢
      (first | (refine xbr_f ?_ ?_; (focus ((simp (disch := omega) only [ix_lt, ix_le, ix_eq, ix_0, nI_clamp, nI_toInt, ng_T, nI_add, nI_mul, nI_sub', Int.neg_zero, not_false_eq_true, not_true_eq_false] <;> omega); done))) | (refine xbr_t ?_ ?_; (focus ((simp (disch := omega) only [ix_lt, ix_le, ix_eq, ix_0, nI_clamp, nI_toInt, ng_T, nI_add, nI_mul, nI_sub', Int.neg_zero, not_false_eq_true, not_true_eq_false] <;> omega); done))) | refine ⟨Or.inl rfl, ?_⟩ | refine ⟨Or.inr rfl, ?_⟩ | (refine ⟨?_, ?_⟩; (focus (exact in_nI (by omega) (by omega)))))
      exact go
    · obtain ⟨r1, r2, r3, -⟩ := ro_sp hr
      rw [hr] at go
      rw [cI_s] at go ⊢
      (first | (refine xbr_f ?_ ?_; (focus ((simp (disch := omega) only [ix_lt, ix_le, ix_eq, ix_0, nI_clamp, nI_toInt, ng_T, nI_add, nI_mul, nI_sub', Int.neg_zero, not_false_eq_true, not_true_eq_false] <;> omega); done))) | (refine xbr_t ?_ ?_; (focus ((simp (disch := omega) only [ix_lt, ix_le, ix_eq, ix_0, nI_clamp, nI_toInt, ng_T, nI_add, nI_mul, nI_sub', Int.neg_zero, not_false_eq_true, not_true_eq_false] <;> omega); done))) | refine ⟨Or.inl rfl, ?_⟩ | refine ⟨Or.inr rfl, ?_⟩ | (refine ⟨?_, ?_⟩; (focus (exact in_nI (by omega) (by omega)))))
      (first | (refine xbr_f ?_ ?_; (focus ((simp (disch := omega) only [ix_lt, ix_le, ix_eq, ix_0, nI_clamp, nI_toInt, ng_T, nI_add, nI_mul, nI_sub', Int.neg_zero, not_false_eq_true, not_true_eq_false] <;> omega); done))) | (refine xbr_t ?_ ?_; (focus ((simp (disch := omega) only [ix_lt, ix_le, ix_eq, ix_0, nI_clamp, nI_toInt, ng_T, nI_add, nI_mul, nI_sub', Int.neg_zero, not_false_eq_true, not_true_eq_false] <;> omega); done))) | refine ⟨Or.inl rfl, ?_⟩ | refine ⟨Or.inr rfl, ?_⟩ | (refine ⟨?_, ?_⟩; (focus (exact in_nI (by omega) (by omega)))))
      (first | (refine xbr_f ?_ ?_; (focus ((simp (disch := omega) only [ix_lt, ix_le, ix_eq, ix_0, nI_clamp, nI_toInt, ng_T, nI_add, nI_mul, nI_sub', Int.neg_zero, not_false_eq_true, not_true_eq_false] <;> omega); done))) | (refine xbr_t ?_ ?_; (focus ((simp (disch := omega) only [ix_lt, ix_le, ix_eq, ix_0, nI_clamp, nI_toInt, ng_T, nI_add, nI_mul, nI_sub', Int.neg_zero, not_false_eq_true, not_true_eq_false] <;> omega); done))) | refine ⟨Or.inl rfl, ?_⟩ | refine ⟨Or.inr rfl, ?_⟩ | (refine ⟨?_, ?_⟩; (focus (exact in_nI (by omega) (by omega)))))
      exact go
theorem wTT (S : ST) (v w : Int32) : (S.wT v).wT w = S.wT w := rfl
theorem whereR_T {S S' : ST} {a m : Nat} {o v : Int32} (h : whereR (S.wT v) (nI a) (nI m) o S') (hd : S.d.ok) (ha : a < S.d.nL) (hm : m < 61) : o = nI (plN (dyN S.d S.D.X m) a) ∧ S' = S.wT v := by
  have h2 := whereR_v h hd ha hm
  simp only [wT_d, wT_D, wT_kp, wT_rz, wT_rv, wR_d, wR_D, wR_kp, wR_rz, wR_rv, wC_d, wC_D, wC_kp, wC_rz, wC_rv, wD_d, wD_D, wD_kp, wD_rz, wD_rv] at h2
  exact h2
theorem roundR_T {S S' : ST} {o v : Int32} (h : roundR (S.wT v) o S') (h0 : 0 < S.d.nA) : o = cI (roH S.d S.D.X) ∧ ((roH S.d S.D.X = 0 ∧ S' = S.wT v) ∨ (0 < roH S.d S.D.X ∧ S' = S.wT (nI (agoN S.d S.D.X)))) := by
  have h2 := roundR_v h h0
  simp only [wT_d, wT_D, wT_kp, wT_rz, wT_rv, wR_d, wR_D, wR_kp, wR_rz, wR_rv, wC_d, wC_D, wC_kp, wC_rz, wC_rv, wD_d, wD_D, wD_kp, wD_rz, wD_rv, wTT] at h2
  exact h2
set_option maxRecDepth 100000 in
theorem h47 {Q : xQ} {S : ST} {l n : Nat} (hA : 0 < S.d.nA) (h62 : ∀ I' L', Lq S I' L' → RW S.d I' → xGo mL_goesOn csL_goesOn 62 Q [some (.ref 1), some (.ref 0), some (.ref 27), some (.long (hsh S)), none, some (.int (nI l)), some (.int (nI n)), some (.int (nI (plN (dyN S.d S.D.X n) l))), some (.int (cI (hoN S.d S.D.X))), some (.int (cI (roH S.d S.D.X))), some (.int (nI (agoN S.d S.D.X))), none, none, none, none, none, none, none, none] [] 0 27 I' L' xP0) : ∀ I L, Lq S I L → RW S.d I → xGo mL_goesOn csL_goesOn 41 Q [some (.ref 1), some (.ref 0), some (.ref 27), some (.long (hsh S)), none, some (.int (nI l)), some (.int (nI n)), some (.int (nI (plN (dyN S.d S.D.X n) l))), some (.int (cI (hoN S.d S.D.X))), none, none, none, none, none, none, none, none, none, none] [] 0 27 I L xP0 := by
  rintro I L ⟨v0, hC0⟩ hW
  refine xrun okL_goesOn hhL_goesOn [(62, [true, true, true, true, false, true, true, true, true, true, true, false, false, false, false, false, false, false, false])] 60 ?_
  refine ⟨rfl, rfl, S.wT v0, rfl, hC0, fun o S3 I3 L3 hr3 hf3 hC3 => ?_⟩
  obtain ⟨e3, h3⟩ := roundR_T hr3 hA
  have e3 := e3.symm
  subst e3
  have hW3 : RW S.d I3 := RW_f hW hf3
  rcases h3 with ⟨hr, e4⟩ | ⟨hr, e4⟩
  · have e4 := e4.symm
    subst e4
    have go := h62 I3 L3 ⟨v0, hC3⟩ hW3
    rw [ago_0 hr, hr, cI_0] at go
    rw [hr, cI_0]
    (first | (refine xbr_f ?_ ?_; (focus ((simp (disch := omega) only [ix_lt, ix_le, ix_eq, ix_0, nI_clamp, nI_toInt, ng_T, nI_add, nI_mul, nI_sub', Int.neg_zero, not_false_eq_true, not_true_eq_false] <;> omega); done))) | (refine xbr_t ?_ ?_; (focus ((simp (disch := omega) only [ix_lt, ix_le, ix_eq, ix_0, nI_clamp, nI_toInt, ng_T, nI_add, nI_mul, nI_sub', Int.neg_zero, not_false_eq_true, not_true_eq_false] <;> omega); done))) | refine ⟨Or.inl rfl, ?_⟩ | refine ⟨Or.inr rfl, ?_⟩ | (refine ⟨?_, ?_⟩; (focus (exact in_nI (by omega) (by omega)))))
    exact go
  · have e4 := e4.symm
    subst e4
    have go := h62 I3 L3 ⟨_, hC3⟩ hW3
    obtain ⟨q, hq⟩ : ∃ q, roH S.d S.D.X = q + 1 := ⟨roH S.d S.D.X - 1, by omega⟩
    have hq6 : q < 61 := (ro_sp hq).1
    rw [hq, cI_s] at go
    rw [hq, cI_s]
    (first | (refine xbr_f ?_ ?_; (focus ((simp (disch := omega) only [ix_lt, ix_le, ix_eq, ix_0, nI_clamp, nI_toInt, ng_T, nI_add, nI_mul, nI_sub', Int.neg_zero, not_false_eq_true, not_true_eq_false] <;> omega); done))) | (refine xbr_t ?_ ?_; (focus ((simp (disch := omega) only [ix_lt, ix_le, ix_eq, ix_0, nI_clamp, nI_toInt, ng_T, nI_add, nI_mul, nI_sub', Int.neg_zero, not_false_eq_true, not_true_eq_false] <;> omega); done))) | refine ⟨Or.inl rfl, ?_⟩ | refine ⟨Or.inr rfl, ?_⟩ | (refine ⟨?_, ?_⟩; (focus (exact in_nI (by omega) (by omega)))))
    refine ⟨rfl, rfl, _, rfl, hC3, ?_⟩
    exact go
set_option maxRecDepth 100000 in
theorem h25 {Q : xQ} {S : ST} {l n : Nat} (hd : S.d.ok) (hA : 0 < S.d.nA) (hl : l < S.d.nL) (hn : n < 21) (h62 : ∀ I' L', Lq S I' L' → RW S.d I' → xGo mL_goesOn csL_goesOn 62 Q [some (.ref 1), some (.ref 0), some (.ref 27), some (.long (hsh S)), none, some (.int (nI l)), some (.int (nI n)), some (.int (nI (plN (dyN S.d S.D.X n) l))), some (.int (cI (hoN S.d S.D.X))), some (.int (cI (roH S.d S.D.X))), some (.int (nI (agoN S.d S.D.X))), none, none, none, none, none, none, none, none] [] 0 27 I' L' xP0) {I : xI} {L : xL} (hC : Lq S I L) (hW : RW S.d I) : xGo mL_goesOn csL_goesOn 25 Q [some (.ref 1), some (.ref 0), some (.ref 27), some (.long (hsh S)), none, some (.int (nI l)), some (.int (nI n)), none, none, none, none, none, none, none, none, none, none, none, none] [] 0 27 I L xP0 := by
  obtain ⟨v0, hC0⟩ := hC
  refine xrun okL_goesOn hhL_goesOn [(41, [true, true, true, true, false, true, true, true, true, false, false, false, false, false, false, false, false, false, false])] 60 ?_
  refine ⟨rfl, rfl, S.wT v0, _, _, rfl, hC0, fun o S1 I1 L1 hr1 hf1 hC1 => ?_⟩
  obtain ⟨e1, e1'⟩ := whereR_T hr1 hd hl (by omega)
  have e1 := e1.symm
  have e1' := e1'.symm
  subst e1
  subst e1'
  refine ⟨rfl, rfl, S.wT v0, rfl, hC1, fun o S2 I2 L2 hr2 hf2 hC2 => ?_⟩
  obtain ⟨e2, e2'⟩ := homeR_T hr2 hA
  have e2 := e2.symm
  have e2' := e2'.symm
  subst e2
  subst e2'
  exact h47 hA h62 I2 L2 ⟨v0, hC2⟩ (RW_f (RW_f hW hf1) hf2)
set_option maxHeartbeats 800000 in
set_option maxRecDepth 100000 in
theorem kL_goesOn : ∀ l, xCon l mL_goesOn sL_goesOn := by
  refine xcon_of okL_goesOn hL_goesOn rfl hhL_goesOn kkL_goesOn ?_
  rintro as m I L P Q ⟨rfl, rfl, S, rfl, hC, hW, hA, hL, hkp, hz, hQ⟩
  refine ⟨Nat.le_of_ble_eq_true rfl, ?_⟩
  have hd : S.d.ok := hC.ok.d
  have h4 : S.d.nA ≤ 4 := hd.a4
  have h5 : S.d.nL ≤ 5 := hd.l5
  have hz0 : 0 < S.D.z := hC.ok.z
  have hX0 : XOk S.D.X := hC.ok.X
  have hHo : hoN S.d S.D.X ≤ 61 := ffN_le _ 61
  have hRo : roH S.d S.D.X ≤ 61 := ffN_le _ 61
  have hAg : agoN S.d S.D.X ≤ 61 := by
    rcases h : roH S.d S.D.X with _ | q
    · unfold agoN
      rw [if_pos h]
      omega
    · have := ro_sp h
      omega
  have nzL : ¬ nI S.d.nL = 0 := by
    have e : nI S.d.nL = 0 ↔ S.d.nL = 0 := nI_eq (b := 0) (by omega) (by decide)
    rw [e]; omega
  refine xrun okL_goesOn hhL_goesOn [(25, [true, true, true, true, false, true, true, false, false, false, false, false, false, false, false, false, false, false, false])] 60 ?_
  refine ⟨rfl, rfl, 13, rfl, by decide, fun x hx => ?_⟩
  have w1' : I 27 (nI 1).toNatClampNeg = nI S.d.nL := by rw [nI_clamp (by decide)]; exact hW.2.1
  refine ⟨in_nI (by omega) (by decide), ?_⟩
  rw [w1']
  refine ⟨nzL, ?_⟩
  rw [pk_rem hx hL (by omega)]
  have hl : x % S.d.nL < S.d.nL := Nat.mod_lt _ hL
  generalize x % S.d.nL = l at hl
  refine ⟨rfl, rfl, 13, rfl, by decide, fun y hy => ?_⟩
  refine ⟨by decide, ?_⟩
  rw [shr_n (k := 3) hy (by decide), pk_rem (by omega) (by decide) (by decide)]
  have hn : y / 2 ^ 3 % 21 < 21 := Nat.mod_lt _ (by decide)
  generalize y / 2 ^ 3 % 21 = n at hn
  -- from the loop's head on
  exact h25 hd hA hl hn (g62 hd hX0 hA hL hz0 hz hl hn (g105 hd hX0 hA hL hz0 hz hl hn (g111 hd hX0 hA hL hz0 hz hl hn hkp hQ))) hC hW
