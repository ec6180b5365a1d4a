/-! THE REFERENCE, 14: lots -/
def csX11_lots : xCs := [(mX11_in, sX11_in), (mX11_notes, sX11_notes), (mX11_goesBy, sX11_goesBy), (mX11_atHome, sX11_atHome), (mX11_many, sX11_many)]
theorem okX11_lots : xOkM mX11_lots csX11_lots := ⟨dX11_lots, by decide +kernel, by decide +kernel, ⟨wdX11_258, wdX11_90, wdX11_295, wdX11_90, wdX11_118, wdX11_199, wdX11_297, wdX11_299, wdX11_301, wdX11_214, wdX11_225, wdX11_37, wdX11_121, wdX11_303, wdX11_214, wdX11_37, wdX11_118, wdX11_303, wdX11_88, wdX11_228, wdX11_251, wdX11_126, trivial⟩⟩
theorem hhX11_lots : ∀ q ∈ csX11_lots, xHd q.1 := xall1 hX11_in (xall1 hX11_notes (xall1 hX11_goesBy (xall1 hX11_atHome (xall1 hX11_many (xall0)))))
theorem kkX11_lots : ∀ q ∈ csX11_lots, ∀ l, xCon l q.1 q.2 := xall1 kX11_in (xall1 kX11_notes (xall1 kX11_goesBy (xall1 kX11_atHome (xall1 kX11_many (xall0)))))
def sX11_lots : xSpec := xReg fun as I L Q => ∃ (S : ST) (n s o : Int32) (S' : ST), as = [.ref 27, .int n, .int s] ∧ lotsR S n s o S' ∧ Ref S I L ∧ (∀ I' L', frM I L I' L' → Ref S' I' L' → Q (some (.int o)) I' L')
set_option maxRecDepth 100000 in
theorem kX11_lots : ∀ l, xCon l mX11_lots sX11_lots := by
  refine xcon_of okX11_lots hX11_lots rfl (by decide) hhX11_lots kkX11_lots ?_
  rintro as n0 I L P Q ⟨rfl, rfl, S, n, s, o, S', rfl, hR, hC, hQ⟩
  refine ⟨Nat.le_of_ble_eq_true rfl, ?_⟩
  have hA := hC.pd.a
  have hs0 := hC.sz
  have h4 := hC.pd.ok.a4
  have hz := hC.ok.D.1
  have h0 := hC.ok.z
  have t1 : (nI 1).toInt = 1 := rfl
  have t20 : (nI 20).toInt = 20 := rfl
  have tM : (nI 2147483646).toInt = 2147483646 := rfl
  refine xrun okX11_lots hhX11_lots [(56, [true, true, true, true, false, true, false])] 60 ?_
  refine ⟨rfl, rfl, _, _, _, n, nI 1, nI 20, rfl, rfl, by decide, by decide, ?_⟩
  rw [t1, t20]
  rcases hR with ⟨h, rfl, rfl⟩ | ⟨m, x, rfl, hm1, hm2, rfl, hx1, hx2, hR⟩
  · obtain ⟨S, rfl⟩ : ∃ S, S = S' := ⟨S', rfl⟩
    have done := hQ _ _ (frM_0 _ _) hC
    by_cases hn : 1 ≤ n.toInt ∧ n.toInt ≤ 20
    · rw [decide_eq_true hn]
      (first | refine xbr_t (by decide) ?_ | refine xbr_f (by decide) ?_)
      refine ⟨rfl, rfl, _, _, _, s, nI 1, nI 2147483646, rfl, rfl, by decide, by decide, ?_⟩
      rw [t1, tM, decide_eq_false (fun q => h ⟨hn.1, hn.2, q.1, by omega⟩)]
      (first | refine xbr_t (by decide) ?_ | refine xbr_f (by decide) ?_)
      exact done
    · rw [decide_eq_false hn]
      (first | refine xbr_t (by decide) ?_ | refine xbr_f (by decide) ?_)
      exact done
  · rw [nI_toInt (show m < 2 ^ 31 by omega), decide_eq_true (by omega)]
    (first | refine xbr_t (by decide) ?_ | refine xbr_f (by decide) ?_)
    refine ⟨rfl, rfl, _, _, _, nI x, nI 1, nI 2147483646, rfl, rfl, by decide, by decide, ?_⟩
    rw [t1, tM, nI_toInt (show x < 2 ^ 31 by omega), decide_eq_true (by omega)]
    (first | refine xbr_t (by decide) ?_ | refine xbr_f (by decide) ?_)
    rcases hR with ⟨hA0, rfl, rfl⟩ | ⟨hA0, h41, rfl, rfl⟩ | ⟨hA0, h41, rfl, rfl⟩
    · obtain ⟨S, rfl⟩ : ∃ S, S = S' := ⟨S', rfl⟩
      rw [hA0] at hA
      (first | (refine xbr_f ?_ ?_; (focus ((simp (disch := omega) only [ix_lt, ix_le, ix_eq, ix_0, nI_clamp, nI_toInt, ng_T, nI_add, nI_mul, nI_sub', Int.neg_zero, not_false_eq_true, not_true_eq_false, hA] <;> omega); done))) | (refine xbr_t ?_ ?_; (focus ((simp (disch := omega) only [ix_lt, ix_le, ix_eq, ix_0, nI_clamp, nI_toInt, ng_T, nI_add, nI_mul, nI_sub', Int.neg_zero, not_false_eq_true, not_true_eq_false, hA] <;> omega); done))) | refine ⟨Or.inl rfl, ?_⟩ | refine ⟨Or.inr rfl, ?_⟩ | (refine ⟨?_, ?_⟩; (focus ((try simp (disch := omega) only [hA, nI_mul, nI_add, nI_sub']); exact in_nI (by omega) (by omega)))))
      exact hQ _ _ (frM_0 _ _) hC
    · obtain ⟨S, rfl⟩ : ∃ S, S = S' := ⟨S', rfl⟩
      (first | (refine xbr_f ?_ ?_; (focus ((simp (disch := omega) only [ix_lt, ix_le, ix_eq, ix_0, nI_clamp, nI_toInt, ng_T, nI_add, nI_mul, nI_sub', Int.neg_zero, not_false_eq_true, not_true_eq_false, hA] <;> omega); done))) | (refine xbr_t ?_ ?_; (focus ((simp (disch := omega) only [ix_lt, ix_le, ix_eq, ix_0, nI_clamp, nI_toInt, ng_T, nI_add, nI_mul, nI_sub', Int.neg_zero, not_false_eq_true, not_true_eq_false, hA] <;> omega); done))) | refine ⟨Or.inl rfl, ?_⟩ | refine ⟨Or.inr rfl, ?_⟩ | (refine ⟨?_, ?_⟩; (focus ((try simp (disch := omega) only [hA, nI_mul, nI_add, nI_sub']); exact in_nI (by omega) (by omega)))))
      (first | (refine xbr_f ?_ ?_; (focus ((simp (disch := omega) only [ix_lt, ix_le, ix_eq, ix_0, nI_clamp, nI_toInt, ng_T, nI_add, nI_mul, nI_sub', Int.neg_zero, not_false_eq_true, not_true_eq_false, hs0] <;> omega); done))) | (refine xbr_t ?_ ?_; (focus ((simp (disch := omega) only [ix_lt, ix_le, ix_eq, ix_0, nI_clamp, nI_toInt, ng_T, nI_add, nI_mul, nI_sub', Int.neg_zero, not_false_eq_true, not_true_eq_false, hs0] <;> omega); done))) | refine ⟨Or.inl rfl, ?_⟩ | refine ⟨Or.inr rfl, ?_⟩ | (refine ⟨?_, ?_⟩; (focus ((try simp (disch := omega) only [hs0, nI_mul, nI_add, nI_sub']); exact in_nI (by omega) (by omega)))))
      exact hQ _ _ (frM_0 _ _) hC
    · (first | (refine xbr_f ?_ ?_; (focus ((simp (disch := omega) only [ix_lt, ix_le, ix_eq, ix_0, nI_clamp, nI_toInt, ng_T, nI_add, nI_mul, nI_sub', Int.neg_zero, not_false_eq_true, not_true_eq_false, hA] <;> omega); done))) | (refine xbr_t ?_ ?_; (focus ((simp (disch := omega) only [ix_lt, ix_le, ix_eq, ix_0, nI_clamp, nI_toInt, ng_T, nI_add, nI_mul, nI_sub', Int.neg_zero, not_false_eq_true, not_true_eq_false, hA] <;> omega); done))) | refine ⟨Or.inl rfl, ?_⟩ | refine ⟨Or.inr rfl, ?_⟩ | (refine ⟨?_, ?_⟩; (focus ((try simp (disch := omega) only [hA, nI_mul, nI_add, nI_sub']); exact in_nI (by omega) (by omega)))))
      (first | (refine xbr_f ?_ ?_; (focus ((simp (disch := omega) only [ix_lt, ix_le, ix_eq, ix_0, nI_clamp, nI_toInt, ng_T, nI_add, nI_mul, nI_sub', Int.neg_zero, not_false_eq_true, not_true_eq_false, hs0] <;> omega); done))) | (refine xbr_t ?_ ?_; (focus ((simp (disch := omega) only [ix_lt, ix_le, ix_eq, ix_0, nI_clamp, nI_toInt, ng_T, nI_add, nI_mul, nI_sub', Int.neg_zero, not_false_eq_true, not_true_eq_false, hs0] <;> omega); done))) | refine ⟨Or.inl rfl, ?_⟩ | refine ⟨Or.inr rfl, ?_⟩ | (refine ⟨?_, ?_⟩; (focus ((try simp (disch := omega) only [hs0, nI_mul, nI_add, nI_sub']); exact in_nI (by omega) (by omega)))))
      have hL0 : 0 < S.d.nL := by
        have := hC.ok.nl
        omega
      refine xgo_eq (xlpW (M := mX11_lots) (cs := csX11_lots) (pc := 56) m (fun k => [some (.ref 27), some (.int (nI m)), some (.int (nI x)), some (.long (lN (xkN x k))), none, some (.int (nI k)), none]) (fun k I' L' => L = L' ∧ Ref (ltN S x k) I' L ∧ frM I L I' L) ?_ ?_ ⟨rfl, hC, frM_0 _ _⟩) ?_ rfl rfl
      · rintro k hk I2 L2 ⟨rfl, hC2, hf2⟩ ih
        have hl := xkN_lt hx2 k
        have hl2 := xkN_lt hx2 (k + 1)
        have e3 : lN (xkN x k) * lN 48271 - lN (xkN x k) * lN 48271 / lN 2147483647 * lN 2147483647 = lN (xkN x (k + 1)) := by
          rw [lN_mul, pk_lRem (by omega) (by decide) (by decide)]
          rfl
        obtain ⟨d1, d2⟩ := ltN_dz S x k
        have hlot : ltN S x (k + 1) = lotS (ltN S x k) (xkN x (k + 1)) := rfl
        rw [hlot] at ih
        have hd5 : (ltN S x k).d.nL ≤ 5 ∧ 0 < (ltN S x k).d.nL ∧ (ltN S x k).d.nA ≤ 4 ∧ 0 < (ltN S x k).d.nA := by
          rw [d1]
          exact ⟨hC.pd.ok.l5, hL0, h4, hA0⟩
        have hTz : (ltN S x k).D.z < 41 := by omega
        have hT0 := hC2.ok.z
        generalize ltN S x k = T at *
        generalize xkN x (k + 1) = y at *
        obtain ⟨q1, q2, q3, q4⟩ := hd5
        have hy31 : y < 2 ^ 31 := by omega
        refine xrun okX11_lots hhX11_lots [(56, [true, true, true, true, false, true, false])] 120 ?_
        (first | (refine xbr_f ?_ ?_; (focus ((simp (disch := omega) only [ix_lt, ix_le, ix_eq, ix_0, nI_clamp, nI_toInt, ng_T, nI_add, nI_mul, nI_sub', Int.neg_zero, not_false_eq_true, not_true_eq_false] <;> omega); done))) | (refine xbr_t ?_ ?_; (focus ((simp (disch := omega) only [ix_lt, ix_le, ix_eq, ix_0, nI_clamp, nI_toInt, ng_T, nI_add, nI_mul, nI_sub', Int.neg_zero, not_false_eq_true, not_true_eq_false] <;> omega); done))) | refine ⟨Or.inl rfl, ?_⟩ | refine ⟨Or.inr rfl, ?_⟩ | (refine ⟨?_, ?_⟩; (focus (exact in_nI (by omega) (by omega)))))
        refine ⟨by decide, ?_⟩
        rw [e3]
        refine ⟨by decide, by decide, ?_⟩
        rw [lr_8 hy31]
        refine ⟨rfl, rfl, T.D.z - 1, rfl, hC2.sz, by omega, fun g hg1 hg2 => ?_⟩
        have hWL : xup (xrw I2 40 g) 27 22 (nI (T.D.z - 1 + 1)) 27 11 = nI T.d.nL := hC2.pd.l
        have hWA : xup (xrw I2 40 g) 27 22 (nI (T.D.z - 1 + 1)) 27 10 = nI T.d.nA := hC2.pd.a
        have fr1 : frM I L (xup (xrw I2 40 g) 27 22 (nI (T.D.z - 1 + 1))) L := frM_t hf2 (frM_t (frM_W (k := 40) (by decide) _ _ _) (frM_I (k := 27) (by decide) _ _ _ _))
        have f22 : ∀ j, j ≠ 22 → xup (xrw I2 40 g) 27 22 (nI (T.D.z - 1 + 1)) 27 j = I2 27 j := fun j hj => by
          rw [xup_at, if_neg (fun q => hj q.2)]
          rfl
        by_cases c0 : y / 8 % 4 = 0
        · have e : lotS T y = smS T (y % T.d.nL) (y / 64 % 4) := if_pos c0
          rw [e] at ih
          have hn := Nat.mod_lt y q2
          have hr4 : y / 64 % 4 < 4 := Nat.mod_lt _ (by decide)
          rw [c0]
          (first | refine xbr_t (by decide) ?_ | refine xbr_f (by decide) ?_)
          have eL : (lN y - lN y / (xup (xrw I2 40 g) 27 22 (nI (T.D.z - 1 + 1)) 27 11).toInt64 * (xup (xrw I2 40 g) 27 22 (nI (T.D.z - 1 + 1)) 27 11).toInt64).toInt32 = nI (y % T.d.nL) := by rw [hWL, lr_n hy31 q2 (by omega)]
          have e64 := lr_64 hy31 (b := 4) (by decide) (by decide)
          refine ⟨by rw [hWL]; exact ln_0 q2 (by omega), ?_⟩
          (first | (refine xbr_f ?_ ?_; (focus ((simp (disch := omega) only [ix_lt, ix_le, ix_eq, ix_0, nI_clamp, nI_toInt, ng_T, nI_add, nI_mul, nI_sub', Int.neg_zero, not_false_eq_true, not_true_eq_false, eL, nI_add] <;> omega); done))) | (refine xbr_t ?_ ?_; (focus ((simp (disch := omega) only [ix_lt, ix_le, ix_eq, ix_0, nI_clamp, nI_toInt, ng_T, nI_add, nI_mul, nI_sub', Int.neg_zero, not_false_eq_true, not_true_eq_false, eL, nI_add] <;> omega); done))) | refine ⟨Or.inl rfl, ?_⟩ | refine ⟨Or.inr rfl, ?_⟩ | (refine ⟨?_, ?_⟩; (focus ((try simp (disch := omega) only [eL, nI_add, nI_mul, nI_add, nI_sub']); exact in_nI (by omega) (by omega)))))
          refine ⟨by decide, by decide, ?_⟩
          (first | (refine xbr_f ?_ ?_; (focus ((simp (disch := omega) only [ix_lt, ix_le, ix_eq, ix_0, nI_clamp, nI_toInt, ng_T, nI_add, nI_mul, nI_sub', Int.neg_zero, not_false_eq_true, not_true_eq_false, eL, nI_add] <;> omega); done))) | (refine xbr_t ?_ ?_; (focus ((simp (disch := omega) only [ix_lt, ix_le, ix_eq, ix_0, nI_clamp, nI_toInt, ng_T, nI_add, nI_mul, nI_sub', Int.neg_zero, not_false_eq_true, not_true_eq_false, eL, nI_add] <;> omega); done))) | refine ⟨Or.inl rfl, ?_⟩ | refine ⟨Or.inr rfl, ?_⟩ | (refine ⟨?_, ?_⟩; (focus ((try simp (disch := omega) only [eL, nI_add, nI_mul, nI_add, nI_sub']); exact in_nI (by omega) (by omega)))))
          have e9 : xup (xrw I2 40 g) 27 22 (nI (T.D.z - 1 + 1)) 37 (9 + y % T.d.nL) = nI (mkN T.D.X (y % T.d.nL)) := hC2.nw.k hn
          have h16 := xm_16 (mkN_16 T.D.X (y % T.d.nL)) hr4
          have hsh : nI 1 <<< (nI (y / 64 % 4) &&& 31) = nI (2 ^ (y / 64 % 4)) := by rw [shl_n _ (by omega), Nat.one_mul]
          rw [eL, e64, hsh, nI_add, nI_clamp (show 9 + y % T.d.nL < 2 ^ 31 by omega), e9, nx_xor]
          have hw2 := nw_mk hC2.pd.ok hC2.nw hn h16
          refine xgo_eq (ih (xup (xup (xrw I2 40 g) 27 22 (nI (T.D.z - 1 + 1))) 37 (9 + y % T.d.nL) (nI (mkN T.D.X (y % T.d.nL) ^^^ 2 ^ (y / 64 % 4)))) L ⟨rfl, Ref_A (c := false) hC2 hTz (XOk_mk hC2.ok.X (by omega) h16) hg1 hg2 (fun c a1 a2 a3 a4 => by
            rw [xup_c _ _ _ _ a2, xup_c _ _ _ _ a1, xrw_c _ _ _ a4]) f22 rfl rfl hw2, frM_t fr1 (frM_I (k := 37) (by decide) _ _ _ _)⟩) ?_ rfl rfl
          ((repeat' (first | (with_reducible rfl) | exact xv_nil | refine xv_cons ?_ ?_ | refine xv_i ?_ | refine xv_l ?_)) <;> (simp (disch := omega) only [↓reduceIte, Bool.false_eq_true, Nat.one_mul, Nat.zero_mul, Nat.or_zero, Nat.add_zero, Nat.zero_add, Bool.toNat_true, Bool.toNat_false, shl_n, shr_n, fa_and, fa_or, nx_xor, nI_add, nI_mul, nI_sub', and_1, and_7, and_3', and_15]))
        · by_cases c1 : y / 8 % 4 = 1
          · have e : lotS T y = ldS T (y % T.d.nA) (y / 64 % 5) := (if_neg c0).trans (if_pos c1)
            rw [e] at ih
            have hn := Nat.mod_lt y q4
            have hr5 : y / 64 % 5 < 5 := Nat.mod_lt _ (by decide)
            rw [c1]
            (first | refine xbr_t (by decide) ?_ | refine xbr_f (by decide) ?_)
            (first | refine xbr_t (by decide) ?_ | refine xbr_f (by decide) ?_)
            have eA : (lN y - lN y / (xup (xrw I2 40 g) 27 22 (nI (T.D.z - 1 + 1)) 27 10).toInt64 * (xup (xrw I2 40 g) 27 22 (nI (T.D.z - 1 + 1)) 27 10).toInt64).toInt32 = nI (y % T.d.nA) := by rw [hWA, lr_n hy31 q4 (by omega)]
            have e64 := lr_64 hy31 (b := 5) (by decide) (by decide)
            refine ⟨by rw [hWA]; exact ln_0 q4 (by omega), ?_⟩
            refine ⟨by decide, by decide, ?_⟩
            (first | (refine xbr_f ?_ ?_; (focus ((simp (disch := omega) only [ix_lt, ix_le, ix_eq, ix_0, nI_clamp, nI_toInt, ng_T, nI_add, nI_mul, nI_sub', Int.neg_zero, not_false_eq_true, not_true_eq_false, eA, nI_add] <;> omega); done))) | (refine xbr_t ?_ ?_; (focus ((simp (disch := omega) only [ix_lt, ix_le, ix_eq, ix_0, nI_clamp, nI_toInt, ng_T, nI_add, nI_mul, nI_sub', Int.neg_zero, not_false_eq_true, not_true_eq_false, eA, nI_add] <;> omega); done))) | refine ⟨Or.inl rfl, ?_⟩ | refine ⟨Or.inr rfl, ?_⟩ | (refine ⟨?_, ?_⟩; (focus ((try simp (disch := omega) only [eA, nI_add, nI_mul, nI_add, nI_sub']); exact in_nI (by omega) (by omega)))))
            rw [eA, e64, nI_add, nI_clamp (show 5 + y % T.d.nA < 2 ^ 31 by omega)]
            have hw2 := nw_in hC2.pd.ok hC2.nw hn (show y / 64 % 5 < 8 by omega)
            refine xgo_eq (ih (xup (xup (xrw I2 40 g) 27 22 (nI (T.D.z - 1 + 1))) 37 (5 + y % T.d.nA) (nI (y / 64 % 5))) L ⟨rfl, Ref_A (c := false) hC2 hTz (XOk_in hC2.ok.X (by omega) hr5) hg1 hg2 (fun c a1 a2 a3 a4 => by
              rw [xup_c _ _ _ _ a2, xup_c _ _ _ _ a1, xrw_c _ _ _ a4]) f22 rfl rfl hw2, frM_t fr1 (frM_I (k := 37) (by decide) _ _ _ _)⟩) ?_ rfl rfl
            ((repeat' (first | (with_reducible rfl) | exact xv_nil | refine xv_cons ?_ ?_ | refine xv_i ?_ | refine xv_l ?_)) <;> (simp (disch := omega) only [↓reduceIte, Bool.false_eq_true, Nat.one_mul, Nat.zero_mul, Nat.or_zero, Nat.add_zero, Nat.zero_add, Bool.toNat_true, Bool.toNat_false, shl_n, shr_n, fa_and, fa_or, nx_xor, nI_add, nI_mul, nI_sub', and_1, and_7, and_3', and_15]))
          · have e : lotS T y = dyS T := (if_neg c0).trans (if_neg c1)
            rw [e] at ih
            (first | (refine xbr_f ?_ ?_; (focus ((simp (disch := omega) only [ix_lt, ix_le, ix_eq, ix_0, nI_clamp, nI_toInt, ng_T, nI_add, nI_mul, nI_sub', Int.neg_zero, not_false_eq_true, not_true_eq_false, lN_i] <;> omega); done))) | (refine xbr_t ?_ ?_; (focus ((simp (disch := omega) only [ix_lt, ix_le, ix_eq, ix_0, nI_clamp, nI_toInt, ng_T, nI_add, nI_mul, nI_sub', Int.neg_zero, not_false_eq_true, not_true_eq_false, lN_i] <;> omega); done))) | refine ⟨Or.inl rfl, ?_⟩ | refine ⟨Or.inr rfl, ?_⟩ | (refine ⟨?_, ?_⟩; (focus ((try simp (disch := omega) only [lN_i, nI_mul, nI_add, nI_sub']); exact in_nI (by omega) (by omega)))))
            (first | (refine xbr_f ?_ ?_; (focus ((simp (disch := omega) only [ix_lt, ix_le, ix_eq, ix_0, nI_clamp, nI_toInt, ng_T, nI_add, nI_mul, nI_sub', Int.neg_zero, not_false_eq_true, not_true_eq_false, lN_i] <;> omega); done))) | (refine xbr_t ?_ ?_; (focus ((simp (disch := omega) only [ix_lt, ix_le, ix_eq, ix_0, nI_clamp, nI_toInt, ng_T, nI_add, nI_mul, nI_sub', Int.neg_zero, not_false_eq_true, not_true_eq_false, lN_i] <;> omega); done))) | refine ⟨Or.inl rfl, ?_⟩ | refine ⟨Or.inr rfl, ?_⟩ | (refine ⟨?_, ?_⟩; (focus ((try simp (disch := omega) only [lN_i, nI_mul, nI_add, nI_sub']); exact in_nI (by omega) (by omega)))))
            refine ⟨rfl, rfl, T.d, T.D.X, pcf 64 T.D.b, rfl, hC2.pd, hC2.nw, hC2.ok.X, fun f w hw => ?_⟩
            refine xgo_eq (ih (xrw (xrw (xup (xrw I2 40 g) 27 22 (nI (T.D.z - 1 + 1))) 38 f) 37 w) L ⟨rfl, Ref_A (c := true) hC2 hTz (XOk_day hC2.ok.d hC2.ok.X) hg1 hg2 (fun c a1 a2 a3 a4 => by
              rw [xrw_c _ _ _ a2, xrw_c _ _ _ a3, xup_c _ _ _ _ a1, xrw_c _ _ _ a4]) f22 rfl rfl hw, frM_t fr1 (frM_t (frM_W (k := 38) (by decide) _ _ _) (frM_W (k := 37) (by decide) _ _ _))⟩) ?_ rfl rfl
            ((repeat' (first | (with_reducible rfl) | exact xv_nil | refine xv_cons ?_ ?_ | refine xv_i ?_ | refine xv_l ?_)) <;> (simp (disch := omega) only [↓reduceIte, Bool.false_eq_true, Nat.one_mul, Nat.zero_mul, Nat.or_zero, Nat.add_zero, Nat.zero_add, Bool.toNat_true, Bool.toNat_false, shl_n, shr_n, fa_and, fa_or, nx_xor, nI_add, nI_mul, nI_sub', and_1, and_7, and_3', and_15]))
      · rintro I2 L2 ⟨rfl, hC2, hf2⟩
        refine xrun okX11_lots hhX11_lots [] 60 ?_
        (first | (refine xbr_f ?_ ?_; (focus ((simp (disch := omega) only [ix_lt, ix_le, ix_eq, ix_0, nI_clamp, nI_toInt, ng_T, nI_add, nI_mul, nI_sub', Int.neg_zero, not_false_eq_true, not_true_eq_false] <;> omega); done))) | (refine xbr_t ?_ ?_; (focus ((simp (disch := omega) only [ix_lt, ix_le, ix_eq, ix_0, nI_clamp, nI_toInt, ng_T, nI_add, nI_mul, nI_sub', Int.neg_zero, not_false_eq_true, not_true_eq_false] <;> omega); done))) | refine ⟨Or.inl rfl, ?_⟩ | refine ⟨Or.inr rfl, ?_⟩ | (refine ⟨?_, ?_⟩; (focus (exact in_nI (by omega) (by omega)))))
        refine ⟨rfl, rfl, _, _, _, rfl, hC2.pd, hC2.nw, ?_⟩
        have hlt := bsN_lt (hmB (ltN S x m).d (ltN S x m).D.X) (ltN S x m).d.nL
        have h32 := p2_32 hC2.ok.d.l5
        refine ⟨rfl, rfl, _, rfl, by omega, ?_⟩
        exact hQ _ _ hf2 hC2
      · rw [nI_l (show x < 2 ^ 31 by omega)]
        rfl
