/-! THE REFERENCE: home -/
theorem ah_dec : ∀ n, n < 6 → ∀ b, b < 32 → b < 2 ^ n → decide (b = 2 ^ n - 1) = !decide (pcf 32 b < n) := by decide +kernel
theorem ah_pc {d : PD} (hd : d.ok) (X : Nat) : ahB d X = !decide (pcf 32 (bsN (hmB d X) d.nL) < d.nL) := by
  have h5 := hd.l5
  have h1 := bsN_lt (hmB d X) d.nL
  have h2 := p2_32 h5
  exact ah_dec d.nL (by omega) _ (by omega) h1
def csX11_home : xCs := [(mX11_asides, sX11_asides), (mX11_atHome, sX11_atHome), (mX11_many, sX11_many), (mX11_goesBy, sX11_goesBy), (mX11_backs, sX11_backs)]
theorem okX11_home : xOkM mX11_home csX11_home := ⟨dX11_home, by decide +kernel, by decide +kernel, ⟨wdX11_118, wdX11_245, wdX11_251, wdX11_126, wdX11_121, wdX11_228, wdX11_248, trivial⟩⟩
theorem hhX11_home : ∀ q ∈ csX11_home, xHd q.1 := xall1 hX11_asides (xall1 hX11_atHome (xall1 hX11_many (xall1 hX11_goesBy (xall1 hX11_backs (xall0)))))
theorem kkX11_home : ∀ q ∈ csX11_home, ∀ l, xCon l q.1 q.2 := xall1 kX11_asides (xall1 kX11_atHome (xall1 kX11_many (xall1 kX11_goesBy (xall1 kX11_backs (xall0)))))
def sX11_home : xSpec := xReg fun as I L Q => ∃ (S : ST) (o : Int32) (S' : ST), as = [.ref 27] ∧ homeR S o S' ∧ Ref S I L ∧ (∀ I' L', frM I L I' L' → Ref S' I' L' → Q (some (.int o)) I' L')
set_option maxRecDepth 100000 in
theorem kX11_home : ∀ l, xCon l mX11_home sX11_home := by
  refine xcon_of okX11_home hX11_home rfl (by decide) hhX11_home kkX11_home ?_
  rintro as n0 I L P Q ⟨rfl, rfl, S, o, S', rfl, hR, hC, hQ⟩
  refine ⟨Nat.le_of_ble_eq_true rfl, ?_⟩
  have h5 := hC.pd.ok.l5
  have h4 := hC.pd.ok.a4
  have hA := hC.pd.a
  refine xrun okX11_home hhX11_home [(16, [true, true])] 60 ?_
  unfold homeR at hR
  generalize hc : ffN (fun k => ahB S.d (dyN S.d S.D.X k)) 61 = c at hR
  rcases hR with ⟨h, ho, hs⟩ | ⟨h, ho, hs⟩
  · subst ho
    subst hs
    obtain ⟨S, rfl⟩ : ∃ S, S = S' := ⟨S', rfl⟩
    rw [h] at hA
    repeat (first | (refine xbr_f ?_ ?_; (focus ((simp (disch := omega) only [ix_lt, ix_le, ix_eq, ix_0, nI_clamp, nI_toInt, ng_T, nI_add, nI_mul, nI_sub', Int.neg_zero, not_false_eq_true, not_true_eq_false, hA] <;> omega); done))) | (refine xbr_t ?_ ?_; (focus ((simp (disch := omega) only [ix_lt, ix_le, ix_eq, ix_0, nI_clamp, nI_toInt, ng_T, nI_add, nI_mul, nI_sub', Int.neg_zero, not_false_eq_true, not_true_eq_false, hA] <;> omega); done))) | refine ⟨Or.inl rfl, ?_⟩ | refine ⟨Or.inr rfl, ?_⟩ | (refine ⟨?_, ?_⟩; (focus ((try simp (disch := omega) only [hA, nI_mul, nI_add, nI_sub']); exact in_nI (by omega) (by omega)))))
    exact hQ _ _ (frM_0 _ _) hC
  · subst ho
    subst hs
    obtain ⟨S, rfl⟩ : ∃ S, S = S' := ⟨S', rfl⟩
    repeat (first | (refine xbr_f ?_ ?_; (focus ((simp (disch := omega) only [ix_lt, ix_le, ix_eq, ix_0, nI_clamp, nI_toInt, ng_T, nI_add, nI_mul, nI_sub', Int.neg_zero, not_false_eq_true, not_true_eq_false, hA] <;> omega); done))) | (refine xbr_t ?_ ?_; (focus ((simp (disch := omega) only [ix_lt, ix_le, ix_eq, ix_0, nI_clamp, nI_toInt, ng_T, nI_add, nI_mul, nI_sub', Int.neg_zero, not_false_eq_true, not_true_eq_false, hA] <;> omega); done))) | refine ⟨Or.inl rfl, ?_⟩ | refine ⟨Or.inr rfl, ?_⟩ | (refine ⟨?_, ?_⟩; (focus ((try simp (disch := omega) only [hA, nI_mul, nI_add, nI_sub']); exact in_nI (by omega) (by omega)))))
    refine ⟨rfl, rfl, rfl, fun f hf => ?_⟩
    obtain ⟨c0, hN0⟩ : ∃ c, nwR S.d S.D.X c (I 37) := ⟨_, hC.nw⟩
    obtain ⟨N, h61⟩ : ∃ N, N = 61 := ⟨61, rfl⟩
    refine xlpW (M := mX11_home) (cs := csX11_home) (pc := 16) N (fun k => [some (.ref 27), some (.int (nI k))]) (fun k I' L' => L = L' ∧ dfr (xrw I 43 f) I' ∧ nwR S.d (dyN S.d S.D.X k) (c0 + k) (I' 37) ∧ ffN (fun k => ahB S.d (dyN S.d S.D.X k)) k = 0) ?_ ?_ ⟨rfl, fun _ _ _ => rfl, hN0, rfl⟩
    · rintro k hk I2 L2 ⟨rfl, hd, hN, h0⟩ ih
      have hk : k < 61 := by omega
      refine xrun okX11_home hhX11_home [(16, [true, true])] 90 ?_
      have hP := pdR_d (I := xrw I 43 f) hC.pd hd
      have hl := hP.l
      (first | (refine xbr_f ?_ ?_; (focus ((simp (disch := omega) only [ix_lt, ix_le, ix_eq, ix_0, nI_clamp, nI_toInt, ng_T, nI_add, nI_mul, nI_sub', Int.neg_zero, not_false_eq_true, not_true_eq_false] <;> omega); done))) | (refine xbr_t ?_ ?_; (focus ((simp (disch := omega) only [ix_lt, ix_le, ix_eq, ix_0, nI_clamp, nI_toInt, ng_T, nI_add, nI_mul, nI_sub', Int.neg_zero, not_false_eq_true, not_true_eq_false] <;> omega); done))) | refine ⟨Or.inl rfl, ?_⟩ | refine ⟨Or.inr rfl, ?_⟩ | (refine ⟨?_, ?_⟩; (focus (exact in_nI (by omega) (by omega)))))
      refine ⟨rfl, rfl, S.d, dyN S.d S.D.X k, _, rfl, hP, hN, ?_⟩
      have hb := bsN_lt (hmB S.d (dyN S.d S.D.X k)) S.d.nL
      have h32 := p2_32 h5
      refine ⟨rfl, rfl, _, rfl, by omega, ?_⟩
      have hah := ah_pc hC.ok.d (dyN S.d S.D.X k)
      have hpl := pcf_le 32 (bsN (hmB S.d (dyN S.d S.D.X k)) S.d.nL)
      by_cases hlt : pcf 32 (bsN (hmB S.d (dyN S.d S.D.X k)) S.d.nL) < S.d.nL
      · rw [decide_eq_true hlt] at hah
        repeat (first | (refine xbr_f ?_ ?_; (focus ((simp (disch := omega) only [ix_lt, ix_le, ix_eq, ix_0, nI_clamp, nI_toInt, ng_T, nI_add, nI_mul, nI_sub', Int.neg_zero, not_false_eq_true, not_true_eq_false, hl] <;> omega); done))) | (refine xbr_t ?_ ?_; (focus ((simp (disch := omega) only [ix_lt, ix_le, ix_eq, ix_0, nI_clamp, nI_toInt, ng_T, nI_add, nI_mul, nI_sub', Int.neg_zero, not_false_eq_true, not_true_eq_false, hl] <;> omega); done))) | refine ⟨Or.inl rfl, ?_⟩ | refine ⟨Or.inr rfl, ?_⟩ | (refine ⟨?_, ?_⟩; (focus ((try simp (disch := omega) only [hl, nI_mul, nI_add, nI_sub']); exact in_nI (by omega) (by omega)))))
        refine ⟨rfl, rfl, S.d, dyN S.d S.D.X k, _, rfl, hP, hN, XOk_dy hC.ok.d hC.ok.X k, fun f2 g2 hg2 => ?_⟩
        refine xgo_eq (ih _ _ ⟨rfl, dfr_s hd, hg2, ffN_miss (f := fun k => ahB S.d (dyN S.d S.D.X k)) h0 hah⟩) ?_ rfl rfl
        ((repeat' (first | (with_reducible rfl) | exact xv_nil | refine xv_cons ?_ ?_ | refine xv_i ?_ | refine xv_l ?_)) <;> (simp (disch := omega) only [↓reduceIte, Bool.false_eq_true, Nat.one_mul, Nat.zero_mul, Nat.or_zero, Nat.add_zero, Nat.zero_add, Bool.toNat_true, Bool.toNat_false, shl_n, shr_n, fa_and, fa_or, nx_xor, nI_add, nI_mul, nI_sub', and_1, and_7, and_3', and_15]))
      · rw [decide_eq_false hlt] at hah
        repeat (first | (refine xbr_f ?_ ?_; (focus ((simp (disch := omega) only [ix_lt, ix_le, ix_eq, ix_0, nI_clamp, nI_toInt, ng_T, nI_add, nI_mul, nI_sub', Int.neg_zero, not_false_eq_true, not_true_eq_false, hl] <;> omega); done))) | (refine xbr_t ?_ ?_; (focus ((simp (disch := omega) only [ix_lt, ix_le, ix_eq, ix_0, nI_clamp, nI_toInt, ng_T, nI_add, nI_mul, nI_sub', Int.neg_zero, not_false_eq_true, not_true_eq_false, hl] <;> omega); done))) | refine ⟨Or.inl rfl, ?_⟩ | refine ⟨Or.inr rfl, ?_⟩ | (refine ⟨?_, ?_⟩; (focus ((try simp (disch := omega) only [hl, nI_mul, nI_add, nI_sub']); exact in_nI (by omega) (by omega)))))
        refine ⟨rfl, rfl, rfl, fun f2 hf2 => ?_⟩
        obtain ⟨r1, r2⟩ := Ref_days hC hf hd hf2
        have hq := hQ _ _ r2 r1
        rw [← hc, ffN_hit (f := fun k => ahB S.d (dyN S.d S.D.X k)) h0 hah hk, cI_s] at hq
        repeat (first | (refine xbr_f ?_ ?_; (focus ((simp (disch := omega) only [ix_lt, ix_le, ix_eq, ix_0, nI_clamp, nI_toInt, ng_T, nI_add, nI_mul, nI_sub', Int.neg_zero, not_false_eq_true, not_true_eq_false] <;> omega); done))) | (refine xbr_t ?_ ?_; (focus ((simp (disch := omega) only [ix_lt, ix_le, ix_eq, ix_0, nI_clamp, nI_toInt, ng_T, nI_add, nI_mul, nI_sub', Int.neg_zero, not_false_eq_true, not_true_eq_false] <;> omega); done))) | refine ⟨Or.inl rfl, ?_⟩ | refine ⟨Or.inr rfl, ?_⟩ | (refine ⟨?_, ?_⟩; (focus (exact in_nI (by omega) (by omega)))))
        exact hq
    · rintro I2 L2 ⟨rfl, hd, hN, h0⟩
      refine xrun okX11_home hhX11_home [] 60 ?_
      repeat (first | (refine xbr_f ?_ ?_; (focus ((simp (disch := omega) only [ix_lt, ix_le, ix_eq, ix_0, nI_clamp, nI_toInt, ng_T, nI_add, nI_mul, nI_sub', Int.neg_zero, not_false_eq_true, not_true_eq_false] <;> omega); done))) | (refine xbr_t ?_ ?_; (focus ((simp (disch := omega) only [ix_lt, ix_le, ix_eq, ix_0, nI_clamp, nI_toInt, ng_T, nI_add, nI_mul, nI_sub', Int.neg_zero, not_false_eq_true, not_true_eq_false] <;> omega); done))) | refine ⟨Or.inl rfl, ?_⟩ | refine ⟨Or.inr rfl, ?_⟩ | (refine ⟨?_, ?_⟩; (focus (exact in_nI (by omega) (by omega)))))
      refine ⟨rfl, rfl, rfl, fun f2 hf2 => ?_⟩
      obtain ⟨r1, r2⟩ := Ref_days hC hf hd hf2
      have hq := hQ _ _ r2 r1
      rw [← hc, ← h61, h0, cI_0] at hq
      repeat (first | (refine xbr_f ?_ ?_; (focus ((simp (disch := omega) only [ix_lt, ix_le, ix_eq, ix_0, nI_clamp, nI_toInt, ng_T, nI_add, nI_mul, nI_sub', Int.neg_zero, not_false_eq_true, not_true_eq_false] <;> omega); done))) | (refine xbr_t ?_ ?_; (focus ((simp (disch := omega) only [ix_lt, ix_le, ix_eq, ix_0, nI_clamp, nI_toInt, ng_T, nI_add, nI_mul, nI_sub', Int.neg_zero, not_false_eq_true, not_true_eq_false] <;> omega); done))) | refine ⟨Or.inl rfl, ?_⟩ | refine ⟨Or.inr rfl, ?_⟩ | (refine ⟨?_, ?_⟩; (focus (exact in_nI (by omega) (by omega)))))
      exact hq
