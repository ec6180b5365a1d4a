/-! THE REFERENCE, 9: marks to home; cover; duels -/
theorem mh_2 (d : PD) (X l n : Nat) : ∀ v, (mhN d X l n v).2 = if (mhN d X l n v).1 = 0 then 5 else pcf 32 ((mhN d X l n v).1 - 1 ^^^ mkN X l)
  | 0 => rfl
  | v + 1 => by
    rw [mhN_s]
    by_cases h : pcf 32 (v ^^^ mkN X l) < (mhN d X l n v).2 ∧ hmB d (dyN d (seMk X l v) n) l = true
    · rw [if_pos h, if_neg (show ¬ (v + 1, pcf 32 (v ^^^ mkN X l)).1 = 0 from Nat.succ_ne_zero v)]
      rfl
    · rw [if_neg h]
      exact mh_2 d X l n v
def bkI (I : xI) (f : Nat → Int32) (I' : xI) : Prop := dfr (xrw I 43 f) I' ∧ ∀ k, k < 19 → I' 37 k = f k
theorem bk_Ref {S : ST} {I I' : xI} {L : xL} {f : Nat → Int32} (h : Ref S I L) (hf : ∀ k, k < 19 → f k = I 37 k) (hb : bkI I f I') : Ref S I' L ∧ frM I L I' L := by
  obtain ⟨h1, h2⟩ := hb
  have e : ∀ c, c ≠ 37 → c ≠ 38 → c ≠ 43 → I' c = I c := fun c a b d => by rw [h1 c a b, xrw_c _ _ _ d]
  exact ⟨Ref_b h (fun c _ _ a b _ d _ => e c a b d) (fun j _ => by rw [e 27 (by decide) (by decide) (by decide)]) (fun k hk => by rw [h2 k hk, hf k hk]) (fun _ _ => rfl), fun c hc => ⟨e c (by omega) (by omega) (by omega), rfl⟩⟩
def csX11_marks : xCs := [(mX11_isLoad, sX11_isLoad), (mX11_in, sX11_in), (mX11_asides, sX11_asides), (mX11_many, sX11_many), (mX11_comesHome, sX11_comesHome), (mX11_backs, sX11_backs)]
theorem okX11_marks : xOkM mX11_marks csX11_marks := ⟨dX11_marks, by decide +kernel, by decide +kernel, ⟨wdX11_211, wdX11_258, wdX11_90, wdX11_245, wdX11_55, wdX11_126, wdX11_55, wdX11_126, wdX11_37, wdX11_260, wdX11_248, ⟨wdX11_82, fun h => Bool.noConfusion h⟩, wdX11_37, wdX11_126, trivial⟩⟩
theorem hhX11_marks : ∀ q ∈ csX11_marks, xHd q.1 := xall1 hX11_isLoad (xall1 hX11_in (xall1 hX11_asides (xall1 hX11_many (xall1 hX11_comesHome (xall1 hX11_backs (xall0))))))
theorem kkX11_marks : ∀ q ∈ csX11_marks, ∀ l, xCon l q.1 q.2 := xall1 kX11_isLoad (xall1 kX11_in (xall1 kX11_asides (xall1 kX11_many (xall1 kX11_comesHome (xall1 kX11_backs (xall0))))))
def sX11_marks : xSpec := xReg fun as I L Q => ∃ (S : ST) (l n o : Int32) (S' : ST), as = [.ref 27, .int l, .int n] ∧ marksR S l n o S' ∧ Ref S I L ∧ (∀ I' L', frM I L I' L' → Ref S' I' L' → Q (some (.int o)) I' L')
set_option maxRecDepth 100000 in
theorem kX11_marks : ∀ l, xCon l mX11_marks sX11_marks := by
  refine xcon_of okX11_marks hX11_marks rfl (by decide) hhX11_marks kkX11_marks ?_
  rintro as n0 I L P Q ⟨rfl, rfl, S, l, n, o, S', rfl, hR, hC, hQ⟩
  refine ⟨Nat.le_of_ble_eq_true rfl, ?_⟩
  have h5 := hC.pd.ok.l5
  refine xrun okX11_marks hhX11_marks [(32, [true, true, true, true, true, false])] 60 ?_
  refine ⟨rfl, rfl, S.d, l, rfl, hC.pd, ?_⟩
  rcases hR with ⟨h, rfl, rfl⟩ | ⟨a, m, rfl, ha, rfl, hm, hR⟩
  · obtain ⟨S, rfl⟩ : ∃ S, S = S' := ⟨S', rfl⟩
    have done := hQ _ _ (frM_0 _ _) hC
    cases hb : ibB l S.d.nL
    · (first | refine xbr_t (by decide) ?_ | refine xbr_f (by decide) ?_)
      exact done
    · (first | refine xbr_t (by decide) ?_ | refine xbr_f (by decide) ?_)
      refine ⟨rfl, rfl, _, _, _, n, nI 0, nI 20, rfl, rfl, by decide, by decide, ?_⟩
      rw [in_c (by decide)]
      cases hw : ibB n 21
      · (first | refine xbr_t (by decide) ?_ | refine xbr_f (by decide) ?_)
        exact done
      · exact absurd ⟨hb, hw⟩ h
  · rw [ib_tt ha (by omega)]
    (first | refine xbr_t (by decide) ?_ | refine xbr_f (by decide) ?_)
    refine ⟨rfl, rfl, _, _, _, nI m, nI 0, nI 20, rfl, rfl, by decide, by decide, ?_⟩
    rw [in_c (by decide), ib_tt hm (by decide)]
    (first | refine xbr_t (by decide) ?_ | refine xbr_f (by decide) ?_)
    refine ⟨rfl, rfl, rfl, fun f hf => ?_⟩
    have hmk := mkN_16 S.D.X a
    have hfa : f (9 + a) = nI (mkN S.D.X a) := by rw [hf _ (by omega), hC.nw.k ha]
    refine xlpW (M := mX11_marks) (cs := csX11_marks) (pc := 32) 16 (fun v => [some (.ref 27), some (.int (nI a)), some (.int (nI m)), some (.int (cI (mhN S.d S.D.X a m v).1)), some (.int (nI v)), none]) (fun v I' L' => L = L' ∧ bkI I f I') ?_ ?_ ⟨rfl, fun _ _ _ => rfl, fun k hk => (hf k hk).symm⟩
    · rintro v hv I2 L2 ⟨rfl, hd, h37⟩ ih
      refine xrun okX11_marks hhX11_marks [(32, [true, true, true, true, true, false]), (81, [true, true, true, true, true, true])] 120 ?_
      have e43 : I2 43 = f := (hd 43 (by decide) (by decide)).trans (xrw_s _ _ _)
      have hP2 := pdR_d (I := xrw I 43 f) hC.pd hd
      have hN2 : nwR S.d S.D.X (pcf 64 S.D.b) (I2 37) := nwR_eq hC.pd.ok hC.nw (fun k hk => by rw [h37 k hk, hf k hk])
      have x16 := xor_16 (show v < 16 from hv) hmk
      have hle := mhN_le S.d S.D.X a m v
      have hs := mhN_s S.d S.D.X a m v
      have h2 := mh_2 S.d S.D.X a m v
      have p4 := pc_4 _ x16
      have ea : I2 43 (nI 9 + nI a).toNatClampNeg = nI (mkN S.D.X a) := by rw [nI_add, nI_clamp (by omega), e43, hfa]
      have w2 := nw_mk hC.pd.ok hN2 ha hv
      have go : ∀ (b : Bool), hmB S.d (dyN S.d (seMk S.D.X a v) m) a = b → ∀ I4, dfr (xup I2 37 (9 + a) (nI v)) I4 → ∀ f3, (∀ k, k < 19 → f3 k = I4 43 k) → bkI I f (xrw I4 37 f3) := by
        intro b _ I4 h4 f3 h3
        have e4 : I4 43 = f := by rw [h4 43 (by decide) (by decide), xup_c _ _ _ _ (by decide), e43]
        refine ⟨fun c c1 c2 => ?_, fun k hk => ?_⟩
        · rw [xrw_c _ _ _ c1, h4 c c1 c2, xup_c _ _ _ _ c1]
          exact hd c c1 c2
        · rw [xrw_s, h3 k hk, e4]
      (first | (refine xbr_f ?_ ?_; (focus ((simp (disch := omega) only [ix_lt, ix_le, ix_eq, ix_0, nI_clamp, nI_toInt, ng_T, nI_add, nI_mul, nI_sub', Int.neg_zero, not_false_eq_true, not_true_eq_false] <;> omega); done))) | (refine xbr_t ?_ ?_; (focus ((simp (disch := omega) only [ix_lt, ix_le, ix_eq, ix_0, nI_clamp, nI_toInt, ng_T, nI_add, nI_mul, nI_sub', Int.neg_zero, not_false_eq_true, not_true_eq_false] <;> omega); done))) | refine ⟨Or.inl rfl, ?_⟩ | refine ⟨Or.inr rfl, ?_⟩ | (refine ⟨?_, ?_⟩; (focus (exact in_nI (by omega) (by omega)))))
      (first | (refine xbr_f ?_ ?_; (focus ((simp (disch := omega) only [ix_lt, ix_le, ix_eq, ix_0, nI_clamp, nI_toInt, ng_T, nI_add, nI_mul, nI_sub', Int.neg_zero, not_false_eq_true, not_true_eq_false, nI_add] <;> omega); done))) | (refine xbr_t ?_ ?_; (focus ((simp (disch := omega) only [ix_lt, ix_le, ix_eq, ix_0, nI_clamp, nI_toInt, ng_T, nI_add, nI_mul, nI_sub', Int.neg_zero, not_false_eq_true, not_true_eq_false, nI_add] <;> omega); done))) | refine ⟨Or.inl rfl, ?_⟩ | refine ⟨Or.inr rfl, ?_⟩ | (refine ⟨?_, ?_⟩; (focus ((try simp (disch := omega) only [nI_add, nI_mul, nI_add, nI_sub']); exact in_nI (by omega) (by omega)))))
      refine ⟨rfl, rfl, v ^^^ mkN S.D.X a, by rw [ea, nx_xor], by omega, ?_⟩
      have enter : ∀ c, c = (mhN S.d S.D.X a m v).1 → pcf 32 (v ^^^ mkN S.D.X a) < (mhN S.d S.D.X a m v).2 → xGo mX11_marks csX11_marks 81 Q [some (.ref 27), some (.int (nI a)), some (.int (nI m)), some (.int (cI c)), some (.int (nI v)), some (.int (nI (pcf 32 (v ^^^ mkN S.D.X a))))] [] 0 xN I2 L xP0 := by
        intro c hc hlt
        refine xrun okX11_marks hhX11_marks [(32, [true, true, true, true, true, false])] 60 ?_
        (first | (refine xbr_f ?_ ?_; (focus ((simp (disch := omega) only [ix_lt, ix_le, ix_eq, ix_0, nI_clamp, nI_toInt, ng_T, nI_add, nI_mul, nI_sub', Int.neg_zero, not_false_eq_true, not_true_eq_false, nI_add] <;> omega); done))) | (refine xbr_t ?_ ?_; (focus ((simp (disch := omega) only [ix_lt, ix_le, ix_eq, ix_0, nI_clamp, nI_toInt, ng_T, nI_add, nI_mul, nI_sub', Int.neg_zero, not_false_eq_true, not_true_eq_false, nI_add] <;> omega); done))) | refine ⟨Or.inl rfl, ?_⟩ | refine ⟨Or.inr rfl, ?_⟩ | (refine ⟨?_, ?_⟩; (focus ((try simp (disch := omega) only [nI_add, nI_mul, nI_add, nI_sub']); exact in_nI (by omega) (by omega)))))
        simp (disch := omega) only [nI_mul, nI_add, nI_clamp, nI_sub']
        refine ⟨rfl, rfl, S.d, seMk S.D.X a v, _, a, m, rfl, hP2, w2, XOk_mk hC.ok.X (by omega) hv, ha, by omega, fun I4 h4 => ?_⟩
        cases hb : hmB S.d (dyN S.d (seMk S.D.X a v) m) a
        · rw [if_neg (fun q => by rw [hb] at q; exact absurd q.2 (by decide))] at hs
          (first | refine xbr_t (by decide) ?_ | refine xbr_f (by decide) ?_)
          refine ⟨rfl, rfl, rfl, fun f3 h3 => ?_⟩
          refine xgo_eq (ih _ _ ⟨rfl, go _ hb I4 h4 f3 h3⟩) ?_ rfl rfl
          rw [hs, hc]
          ((repeat' (first | (with_reducible rfl) | exact xv_nil | refine xv_cons ?_ ?_ | refine xv_i ?_ | refine xv_l ?_)) <;> (simp (disch := omega) only [↓reduceIte, Bool.false_eq_true, Nat.one_mul, Nat.zero_mul, Nat.or_zero, Nat.add_zero, Nat.zero_add, Bool.toNat_true, Bool.toNat_false, shl_n, shr_n, fa_and, fa_or, nx_xor, nI_add, nI_mul, nI_sub', and_1, and_7, and_3', and_15]))
        · rw [if_pos ⟨hlt, hb⟩] at hs
          (first | refine xbr_t (by decide) ?_ | refine xbr_f (by decide) ?_)
          refine ⟨rfl, rfl, rfl, fun f3 h3 => ?_⟩
          refine xgo_eq (ih _ _ ⟨rfl, go _ hb I4 h4 f3 h3⟩) ?_ rfl rfl
          rw [hs, cI_s]
          ((repeat' (first | (with_reducible rfl) | exact xv_nil | refine xv_cons ?_ ?_ | refine xv_i ?_ | refine xv_l ?_)) <;> (simp (disch := omega) only [↓reduceIte, Bool.false_eq_true, Nat.one_mul, Nat.zero_mul, Nat.or_zero, Nat.add_zero, Nat.zero_add, Bool.toNat_true, Bool.toNat_false, shl_n, shr_n, fa_and, fa_or, nx_xor, nI_add, nI_mul, nI_sub', and_1, and_7, and_3', and_15]))
      by_cases h0 : (mhN S.d S.D.X a m v).1 = 0
      · rw [h0, if_pos rfl] at h2
        have en := enter 0 h0.symm (by omega)
        rw [h0, cI_0]
        repeat (first | (refine xbr_f ?_ ?_; (focus ((simp (disch := omega) only [ix_lt, ix_le, ix_eq, ix_0, nI_clamp, nI_toInt, ng_T, nI_add, nI_mul, nI_sub', Int.neg_zero, not_false_eq_true, not_true_eq_false] <;> omega); done))) | (refine xbr_t ?_ ?_; (focus ((simp (disch := omega) only [ix_lt, ix_le, ix_eq, ix_0, nI_clamp, nI_toInt, ng_T, nI_add, nI_mul, nI_sub', Int.neg_zero, not_false_eq_true, not_true_eq_false] <;> omega); done))) | refine ⟨Or.inl rfl, ?_⟩ | refine ⟨Or.inr rfl, ?_⟩ | (refine ⟨?_, ?_⟩; (focus (exact in_nI (by omega) (by omega)))))
        exact en
      · obtain ⟨b, hb⟩ : ∃ b, (mhN S.d S.D.X a m v).1 = b + 1 := ⟨(mhN S.d S.D.X a m v).1 - 1, by omega⟩
        rw [hb, if_neg (by omega), Nat.add_sub_cancel] at h2
        have xb := xor_16 (show b < 16 by omega) hmk
        have pb := pc_4 _ xb
        rw [hb, cI_s]
        repeat (first | (refine xbr_f ?_ ?_; (focus ((simp (disch := omega) only [ix_lt, ix_le, ix_eq, ix_0, nI_clamp, nI_toInt, ng_T, nI_add, nI_mul, nI_sub', Int.neg_zero, not_false_eq_true, not_true_eq_false, nI_add] <;> omega); done))) | (refine xbr_t ?_ ?_; (focus ((simp (disch := omega) only [ix_lt, ix_le, ix_eq, ix_0, nI_clamp, nI_toInt, ng_T, nI_add, nI_mul, nI_sub', Int.neg_zero, not_false_eq_true, not_true_eq_false, nI_add] <;> omega); done))) | refine ⟨Or.inl rfl, ?_⟩ | refine ⟨Or.inr rfl, ?_⟩ | (refine ⟨?_, ?_⟩; (focus ((try simp (disch := omega) only [nI_add, nI_mul, nI_add, nI_sub']); exact in_nI (by omega) (by omega)))))
        refine ⟨rfl, rfl, b ^^^ mkN S.D.X a, by rw [ea, nx_xor], by omega, ?_⟩
        by_cases hlt : pcf 32 (v ^^^ mkN S.D.X a) < pcf 32 (b ^^^ mkN S.D.X a)
        · have en := enter (b + 1) hb.symm (by omega)
          repeat (first | (refine xbr_f ?_ ?_; (focus ((simp (disch := omega) only [ix_lt, ix_le, ix_eq, ix_0, nI_clamp, nI_toInt, ng_T, nI_add, nI_mul, nI_sub', Int.neg_zero, not_false_eq_true, not_true_eq_false] <;> omega); done))) | (refine xbr_t ?_ ?_; (focus ((simp (disch := omega) only [ix_lt, ix_le, ix_eq, ix_0, nI_clamp, nI_toInt, ng_T, nI_add, nI_mul, nI_sub', Int.neg_zero, not_false_eq_true, not_true_eq_false] <;> omega); done))) | refine ⟨Or.inl rfl, ?_⟩ | refine ⟨Or.inr rfl, ?_⟩ | (refine ⟨?_, ?_⟩; (focus (exact in_nI (by omega) (by omega)))))
          exact en
        · rw [if_neg (fun q => by omega)] at hs
          repeat (first | (refine xbr_f ?_ ?_; (focus ((simp (disch := omega) only [ix_lt, ix_le, ix_eq, ix_0, nI_clamp, nI_toInt, ng_T, nI_add, nI_mul, nI_sub', Int.neg_zero, not_false_eq_true, not_true_eq_false] <;> omega); done))) | (refine xbr_t ?_ ?_; (focus ((simp (disch := omega) only [ix_lt, ix_le, ix_eq, ix_0, nI_clamp, nI_toInt, ng_T, nI_add, nI_mul, nI_sub', Int.neg_zero, not_false_eq_true, not_true_eq_false] <;> omega); done))) | refine ⟨Or.inl rfl, ?_⟩ | refine ⟨Or.inr rfl, ?_⟩ | (refine ⟨?_, ?_⟩; (focus (exact in_nI (by omega) (by omega)))))
          refine xgo_eq (ih _ _ ⟨rfl, hd, h37⟩) ?_ rfl rfl
          rw [hs, hb, cI_s]
          ((repeat' (first | (with_reducible rfl) | exact xv_nil | refine xv_cons ?_ ?_ | refine xv_i ?_ | refine xv_l ?_)) <;> (simp (disch := omega) only [↓reduceIte, Bool.false_eq_true, Nat.one_mul, Nat.zero_mul, Nat.or_zero, Nat.add_zero, Nat.zero_add, Bool.toNat_true, Bool.toNat_false, shl_n, shr_n, fa_and, fa_or, nx_xor, nI_add, nI_mul, nI_sub', and_1, and_7, and_3', and_15]))
    · rintro I2 L2 ⟨rfl, hbk⟩
      obtain ⟨r1, r2⟩ := bk_Ref hC hf hbk
      have hle := mhN_le S.d S.D.X a m 16
      refine xrun okX11_marks hhX11_marks [] 90 ?_
      rcases hR with ⟨q, rfl, rfl⟩ | ⟨v, q, rfl, rfl⟩
      · rw [q, cI_0]
        repeat (first | (refine xbr_f ?_ ?_; (focus ((simp (disch := omega) only [ix_lt, ix_le, ix_eq, ix_0, nI_clamp, nI_toInt, ng_T, nI_add, nI_mul, nI_sub', Int.neg_zero, not_false_eq_true, not_true_eq_false] <;> omega); done))) | (refine xbr_t ?_ ?_; (focus ((simp (disch := omega) only [ix_lt, ix_le, ix_eq, ix_0, nI_clamp, nI_toInt, ng_T, nI_add, nI_mul, nI_sub', Int.neg_zero, not_false_eq_true, not_true_eq_false] <;> omega); done))) | refine ⟨Or.inl rfl, ?_⟩ | refine ⟨Or.inr rfl, ?_⟩ | (refine ⟨?_, ?_⟩; (focus (exact in_nI (by omega) (by omega)))))
        exact hQ _ _ r2 r1
      · rw [q, cI_s]
        repeat (first | (refine xbr_f ?_ ?_; (focus ((simp (disch := omega) only [ix_lt, ix_le, ix_eq, ix_0, nI_clamp, nI_toInt, ng_T, nI_add, nI_mul, nI_sub', Int.neg_zero, not_false_eq_true, not_true_eq_false, nI_add] <;> omega); done))) | (refine xbr_t ?_ ?_; (focus ((simp (disch := omega) only [ix_lt, ix_le, ix_eq, ix_0, nI_clamp, nI_toInt, ng_T, nI_add, nI_mul, nI_sub', Int.neg_zero, not_false_eq_true, not_true_eq_false, nI_add] <;> omega); done))) | refine ⟨Or.inl rfl, ?_⟩ | refine ⟨Or.inr rfl, ?_⟩ | (refine ⟨?_, ?_⟩; (focus ((try simp (disch := omega) only [nI_add, nI_mul, nI_add, nI_sub']); exact in_nI (by omega) (by omega)))))
        have x16 := xor_16 (show v < 16 by omega) hmk
        have ea : xup I2 27 0 (nI v) 37 (nI 9 + nI a).toNatClampNeg = nI (mkN S.D.X a) := by
          rw [nI_add, nI_clamp (by omega)]
          exact r1.nw.k ha
        refine ⟨rfl, rfl, v ^^^ mkN S.D.X a, by rw [ea, nx_xor], by omega, ?_⟩
        exact hQ _ _ (frM_t r2 (frM_I (k := 27) (by decide) _ _ _ _)) (Ref_T r1 (nI v))
def csX11_cover : xCs := [(mX11_takers, sX11_takers), (mX11_many, sX11_many)]
theorem okX11_cover : xOkM mX11_cover csX11_cover := ⟨dX11_cover, by decide +kernel, by decide +kernel, ⟨wdX11_118, wdX11_118, wdX11_121, wdX11_37, wdX11_240, wdX11_126, wdX11_126, ⟨wdX11_82, fun h => Bool.noConfusion h⟩, wdX11_126, trivial⟩⟩
theorem hhX11_cover : ∀ q ∈ csX11_cover, xHd q.1 := xall1 hX11_takers (xall1 hX11_many (xall0))
theorem kkX11_cover : ∀ q ∈ csX11_cover, ∀ l, xCon l q.1 q.2 := xall1 kX11_takers (xall1 kX11_many (xall0))
def sX11_cover : xSpec := xReg fun as I L Q => ∃ (S : ST) (o : Int32) (S' : ST), as = [.ref 27] ∧ coverR S o S' ∧ Ref S I L ∧ (∀ I' L', frM I L I' L' → Ref S' I' L' → Q (some (.int o)) I' L')
theorem fs_2 (d : PD) (X : Nat) : ∀ n, (fsN d X n).2 = if (fsN d X n).1 = 0 then 5 else pcf 32 ((fsN d X n).1 - 1)
  | 0 => rfl
  | n + 1 => by
    rw [fsN_s]
    by_cases h : pcf 32 n < (fsN d X n).2 ∧ ffN (taB d X n) d.nL = 0
    · rw [if_pos h, if_neg (show ¬ (n + 1, pcf 32 n).1 = 0 from Nat.succ_ne_zero n)]
      rfl
    · rw [if_neg h]
      exact fs_2 d X n
set_option maxRecDepth 100000 in
theorem kX11_cover : ∀ l, xCon l mX11_cover sX11_cover := by
  refine xcon_of okX11_cover hX11_cover rfl (by decide) hhX11_cover kkX11_cover ?_
  rintro as n0 I L P Q ⟨rfl, rfl, S, o, S', rfl, hR, hC, hQ⟩
  refine ⟨Nat.le_of_ble_eq_true rfl, ?_⟩
  have h5 := hC.pd.ok.l5
  have h4 := hC.pd.ok.a4
  have hA := hC.pd.a
  have hl := hC.pd.l
  have h16 := p16_le h4
  have esh : nI 1 <<< (I 27 10 &&& 31) = nI (2 ^ S.d.nA) := by rw [hA, shl_n _ (by omega), Nat.one_mul]
  rcases hR with ⟨h, rfl, rfl⟩ | ⟨h, hR⟩
  · obtain ⟨S, rfl⟩ : ∃ S, S = S' := ⟨S', rfl⟩
    rw [h] at hA
    refine xrun okX11_cover hhX11_cover [] 60 ?_
    repeat (first | (refine xbr_f ?_ ?_; (focus ((simp (disch := omega) only [ix_lt, ix_le, ix_eq, ix_0, nI_clamp, nI_toInt, ng_T, nI_add, nI_mul, nI_sub', Int.neg_zero, not_false_eq_true, not_true_eq_false, hA] <;> omega); done))) | (refine xbr_t ?_ ?_; (focus ((simp (disch := omega) only [ix_lt, ix_le, ix_eq, ix_0, nI_clamp, nI_toInt, ng_T, nI_add, nI_mul, nI_sub', Int.neg_zero, not_false_eq_true, not_true_eq_false, hA] <;> omega); done))) | refine ⟨Or.inl rfl, ?_⟩ | refine ⟨Or.inr rfl, ?_⟩ | (refine ⟨?_, ?_⟩; (focus ((try simp (disch := omega) only [hA, nI_mul, nI_add, nI_sub']); exact in_nI (by omega) (by omega)))))
    exact hQ _ _ (frM_0 _ _) hC
  · refine xrun okX11_cover hhX11_cover [(15, [true, true, true, false, false])] 60 ?_
    repeat (first | (refine xbr_f ?_ ?_; (focus ((simp (disch := omega) only [ix_lt, ix_le, ix_eq, ix_0, nI_clamp, nI_toInt, ng_T, nI_add, nI_mul, nI_sub', Int.neg_zero, not_false_eq_true, not_true_eq_false, hA] <;> omega); done))) | (refine xbr_t ?_ ?_; (focus ((simp (disch := omega) only [ix_lt, ix_le, ix_eq, ix_0, nI_clamp, nI_toInt, ng_T, nI_add, nI_mul, nI_sub', Int.neg_zero, not_false_eq_true, not_true_eq_false, hA] <;> omega); done))) | refine ⟨Or.inl rfl, ?_⟩ | refine ⟨Or.inr rfl, ?_⟩ | (refine ⟨?_, ?_⟩; (focus ((try simp (disch := omega) only [hA, nI_mul, nI_add, nI_sub']); exact in_nI (by omega) (by omega)))))
    refine xlp (M := mX11_cover) (cs := csX11_cover) (pc := 15) (2 ^ S.d.nA) (fun s => [some (.ref 27), some (.int (cI (fsN S.d S.D.X s).1)), some (.int (nI s)), none, none]) (fun _ => I) (fun _ => L) ?_ ?_
    · intro s hs ih
      refine xrun okX11_cover hhX11_cover [(30, [true, true, true, true, true])] 60 ?_
      have hle := fsN_le S.d S.D.X s
      have h2 := fs_2 S.d S.D.X s
      have hss := fsN_s S.d S.D.X s
      have ps := pc_4 s (by omega)
      repeat (first | (refine xbr_f ?_ ?_; (focus ((simp (disch := omega) only [ix_lt, ix_le, ix_eq, ix_0, nI_clamp, nI_toInt, ng_T, nI_add, nI_mul, nI_sub', Int.neg_zero, not_false_eq_true, not_true_eq_false, esh] <;> omega); done))) | (refine xbr_t ?_ ?_; (focus ((simp (disch := omega) only [ix_lt, ix_le, ix_eq, ix_0, nI_clamp, nI_toInt, ng_T, nI_add, nI_mul, nI_sub', Int.neg_zero, not_false_eq_true, not_true_eq_false, esh] <;> omega); done))) | refine ⟨Or.inl rfl, ?_⟩ | refine ⟨Or.inr rfl, ?_⟩ | (refine ⟨?_, ?_⟩; (focus ((try simp (disch := omega) only [esh, nI_mul, nI_add, nI_sub']); exact in_nI (by omega) (by omega)))))
      refine xlp (M := mX11_cover) (cs := csX11_cover) (pc := 30) S.d.nL (fun l => [some (.ref 27), some (.int (cI (fsN S.d S.D.X s).1)), some (.int (nI s)), some (.int (bI (decide (ffN (taB S.d S.D.X s) l = 0)))), some (.int (nI l))]) (fun _ => I) (fun _ => L) ?_ ?_
      · intro l hl2 ih2
        refine xrun okX11_cover hhX11_cover [(30, [true, true, true, true, true])] 60 ?_
        (first | (refine xbr_f ?_ ?_; (focus ((simp (disch := omega) only [ix_lt, ix_le, ix_eq, ix_0, nI_clamp, nI_toInt, ng_T, nI_add, nI_mul, nI_sub', Int.neg_zero, not_false_eq_true, not_true_eq_false, hl] <;> omega); done))) | (refine xbr_t ?_ ?_; (focus ((simp (disch := omega) only [ix_lt, ix_le, ix_eq, ix_0, nI_clamp, nI_toInt, ng_T, nI_add, nI_mul, nI_sub', Int.neg_zero, not_false_eq_true, not_true_eq_false, hl] <;> omega); done))) | refine ⟨Or.inl rfl, ?_⟩ | refine ⟨Or.inr rfl, ?_⟩ | (refine ⟨?_, ?_⟩; (focus ((try simp (disch := omega) only [hl, nI_mul, nI_add, nI_sub']); exact in_nI (by omega) (by omega)))))
        have hfs := ffN_s (taB S.d S.D.X s) l
        by_cases h0 : ffN (taB S.d S.D.X s) l = 0
        · rw [decide_eq_true h0]
          rw [if_pos h0] at hfs
          (first | refine xbr_t (by decide) ?_ | refine xbr_f (by decide) ?_)
          (first | (refine xbr_f ?_ ?_; (focus ((simp (disch := omega) only [ix_lt, ix_le, ix_eq, ix_0, nI_clamp, nI_toInt, ng_T, nI_add, nI_mul, nI_sub', Int.neg_zero, not_false_eq_true, not_true_eq_false, nI_add] <;> omega); done))) | (refine xbr_t ?_ ?_; (focus ((simp (disch := omega) only [ix_lt, ix_le, ix_eq, ix_0, nI_clamp, nI_toInt, ng_T, nI_add, nI_mul, nI_sub', Int.neg_zero, not_false_eq_true, not_true_eq_false, nI_add] <;> omega); done))) | refine ⟨Or.inl rfl, ?_⟩ | refine ⟨Or.inr rfl, ?_⟩ | (refine ⟨?_, ?_⟩; (focus ((try simp (disch := omega) only [nI_add, nI_mul, nI_add, nI_sub']); exact in_nI (by omega) (by omega)))))
          have hb := bsN_lt (fun i => wtB S.d S.D.X i (mkN S.D.X l)) S.d.nA
          refine ⟨rfl, rfl, S.d, S.D.X, _, mkN S.D.X l, ?_, hC.pd, hC.nw, mkN_16 _ _, ?_⟩
          · simp (disch := omega) only [hC.nw.k hl2, nI_mul, nI_add, nI_clamp, nI_sub']
          have ea : nI (bsN (fun i => wtB S.d S.D.X i (mkN S.D.X l)) S.d.nA) &&& nI s = nI (bsN (fun i => wtB S.d S.D.X i (mkN S.D.X l)) S.d.nA &&& s) := fa_and _ _
          have hlt : bsN (fun i => wtB S.d S.D.X i (mkN S.D.X l)) S.d.nA &&& s < 2 ^ 31 := Nat.lt_of_le_of_lt Nat.and_le_left (by omega)
          by_cases hz : bsN (fun i => wtB S.d S.D.X i (mkN S.D.X l)) S.d.nA &&& s = 0
          · have ht : taB S.d S.D.X s l = true := decide_eq_true hz
            rw [if_pos ht] at hfs
            (first | (refine xbr_f ?_ ?_; (focus ((simp (disch := omega) only [ix_lt, ix_le, ix_eq, ix_0, nI_clamp, nI_toInt, ng_T, nI_add, nI_mul, nI_sub', Int.neg_zero, not_false_eq_true, not_true_eq_false, ea] <;> omega); done))) | (refine xbr_t ?_ ?_; (focus ((simp (disch := omega) only [ix_lt, ix_le, ix_eq, ix_0, nI_clamp, nI_toInt, ng_T, nI_add, nI_mul, nI_sub', Int.neg_zero, not_false_eq_true, not_true_eq_false, ea] <;> omega); done))) | refine ⟨Or.inl rfl, ?_⟩ | refine ⟨Or.inr rfl, ?_⟩ | (refine ⟨?_, ?_⟩; (focus ((try simp (disch := omega) only [ea, nI_mul, nI_add, nI_sub']); exact in_nI (by omega) (by omega)))))
            refine xgo_eq ih2 ?_ rfl rfl
            rw [hfs, decide_eq_false (by omega)]
            ((repeat' (first | (with_reducible rfl) | exact xv_nil | refine xv_cons ?_ ?_ | refine xv_i ?_ | refine xv_l ?_)) <;> (simp (disch := omega) only [↓reduceIte, Bool.false_eq_true, Nat.one_mul, Nat.zero_mul, Nat.or_zero, Nat.add_zero, Nat.zero_add, Bool.toNat_true, Bool.toNat_false, shl_n, shr_n, fa_and, fa_or, nx_xor, nI_add, nI_mul, nI_sub', and_1, and_7, and_3', and_15, bI_f]))
          · have ht : ¬ taB S.d S.D.X s l = true := fun q => hz (of_decide_eq_true q)
            rw [if_neg ht] at hfs
            (first | (refine xbr_f ?_ ?_; (focus ((simp (disch := omega) only [ix_lt, ix_le, ix_eq, ix_0, nI_clamp, nI_toInt, ng_T, nI_add, nI_mul, nI_sub', Int.neg_zero, not_false_eq_true, not_true_eq_false, ea] <;> omega); done))) | (refine xbr_t ?_ ?_; (focus ((simp (disch := omega) only [ix_lt, ix_le, ix_eq, ix_0, nI_clamp, nI_toInt, ng_T, nI_add, nI_mul, nI_sub', Int.neg_zero, not_false_eq_true, not_true_eq_false, ea] <;> omega); done))) | refine ⟨Or.inl rfl, ?_⟩ | refine ⟨Or.inr rfl, ?_⟩ | (refine ⟨?_, ?_⟩; (focus ((try simp (disch := omega) only [ea, nI_mul, nI_add, nI_sub']); exact in_nI (by omega) (by omega)))))
            refine xgo_eq ih2 ?_ rfl rfl
            rw [hfs, decide_eq_true rfl]
            ((repeat' (first | (with_reducible rfl) | exact xv_nil | refine xv_cons ?_ ?_ | refine xv_i ?_ | refine xv_l ?_)) <;> (simp (disch := omega) only [↓reduceIte, Bool.false_eq_true, Nat.one_mul, Nat.zero_mul, Nat.or_zero, Nat.add_zero, Nat.zero_add, Bool.toNat_true, Bool.toNat_false, shl_n, shr_n, fa_and, fa_or, nx_xor, nI_add, nI_mul, nI_sub', and_1, and_7, and_3', and_15, bI_t]))
        · rw [decide_eq_false h0]
          rw [if_neg h0] at hfs
          (first | refine xbr_t (by decide) ?_ | refine xbr_f (by decide) ?_)
          refine xgo_eq ih2 ?_ rfl rfl
          rw [hfs, decide_eq_false h0]
          ((repeat' (first | (with_reducible rfl) | exact xv_nil | refine xv_cons ?_ ?_ | refine xv_i ?_ | refine xv_l ?_)) <;> (simp (disch := omega) only [↓reduceIte, Bool.false_eq_true, Nat.one_mul, Nat.zero_mul, Nat.or_zero, Nat.add_zero, Nat.zero_add, Bool.toNat_true, Bool.toNat_false, shl_n, shr_n, fa_and, fa_or, nx_xor, nI_add, nI_mul, nI_sub', and_1, and_7, and_3', and_15, bI_f]))
      · refine xrun okX11_cover hhX11_cover [(15, [true, true, true, false, false])] 90 ?_
        (first | (refine xbr_f ?_ ?_; (focus ((simp (disch := omega) only [ix_lt, ix_le, ix_eq, ix_0, nI_clamp, nI_toInt, ng_T, nI_add, nI_mul, nI_sub', Int.neg_zero, not_false_eq_true, not_true_eq_false, hl] <;> omega); done))) | (refine xbr_t ?_ ?_; (focus ((simp (disch := omega) only [ix_lt, ix_le, ix_eq, ix_0, nI_clamp, nI_toInt, ng_T, nI_add, nI_mul, nI_sub', Int.neg_zero, not_false_eq_true, not_true_eq_false, hl] <;> omega); done))) | refine ⟨Or.inl rfl, ?_⟩ | refine ⟨Or.inr rfl, ?_⟩ | (refine ⟨?_, ?_⟩; (focus ((try simp (disch := omega) only [hl, nI_mul, nI_add, nI_sub']); exact in_nI (by omega) (by omega)))))
        by_cases h0 : ffN (taB S.d S.D.X s) S.d.nL = 0
        · rw [decide_eq_true h0]
          (first | refine xbr_t (by decide) ?_ | refine xbr_f (by decide) ?_)
          by_cases hb0 : (fsN S.d S.D.X s).1 = 0
          · rw [hb0, if_pos rfl] at h2
            rw [if_pos ⟨by omega, h0⟩] at hss
            rw [hb0, cI_0]
            repeat (first | (refine xbr_f ?_ ?_; (focus ((simp (disch := omega) only [ix_lt, ix_le, ix_eq, ix_0, nI_clamp, nI_toInt, ng_T, nI_add, nI_mul, nI_sub', Int.neg_zero, not_false_eq_true, not_true_eq_false] <;> omega); done))) | (refine xbr_t ?_ ?_; (focus ((simp (disch := omega) only [ix_lt, ix_le, ix_eq, ix_0, nI_clamp, nI_toInt, ng_T, nI_add, nI_mul, nI_sub', Int.neg_zero, not_false_eq_true, not_true_eq_false] <;> omega); done))) | refine ⟨Or.inl rfl, ?_⟩ | refine ⟨Or.inr rfl, ?_⟩ | (refine ⟨?_, ?_⟩; (focus (exact in_nI (by omega) (by omega)))))
            refine xgo_eq ih ?_ rfl rfl
            rw [hss, cI_s]
            ((repeat' (first | (with_reducible rfl) | exact xv_nil | refine xv_cons ?_ ?_ | refine xv_i ?_ | refine xv_l ?_)) <;> (simp (disch := omega) only [↓reduceIte, Bool.false_eq_true, Nat.one_mul, Nat.zero_mul, Nat.or_zero, Nat.add_zero, Nat.zero_add, Bool.toNat_true, Bool.toNat_false, shl_n, shr_n, fa_and, fa_or, nx_xor, nI_add, nI_mul, nI_sub', and_1, and_7, and_3', and_15]))
          · obtain ⟨b, hb⟩ : ∃ b, (fsN S.d S.D.X s).1 = b + 1 := ⟨(fsN S.d S.D.X s).1 - 1, by omega⟩
            rw [hb, if_neg (by omega), Nat.add_sub_cancel] at h2
            have pb := pc_4 b (by omega)
            rw [hb, cI_s]
            repeat (first | (refine xbr_f ?_ ?_; (focus ((simp (disch := omega) only [ix_lt, ix_le, ix_eq, ix_0, nI_clamp, nI_toInt, ng_T, nI_add, nI_mul, nI_sub', Int.neg_zero, not_false_eq_true, not_true_eq_false] <;> omega); done))) | (refine xbr_t ?_ ?_; (focus ((simp (disch := omega) only [ix_lt, ix_le, ix_eq, ix_0, nI_clamp, nI_toInt, ng_T, nI_add, nI_mul, nI_sub', Int.neg_zero, not_false_eq_true, not_true_eq_false] <;> omega); done))) | refine ⟨Or.inl rfl, ?_⟩ | refine ⟨Or.inr rfl, ?_⟩ | (refine ⟨?_, ?_⟩; (focus (exact in_nI (by omega) (by omega)))))
            refine ⟨rfl, rfl, s, rfl, by omega, ?_⟩
            refine ⟨rfl, rfl, b, rfl, by omega, ?_⟩
            by_cases hlt : pcf 32 s < pcf 32 b
            · rw [if_pos ⟨by omega, h0⟩] at hss
              repeat (first | (refine xbr_f ?_ ?_; (focus ((simp (disch := omega) only [ix_lt, ix_le, ix_eq, ix_0, nI_clamp, nI_toInt, ng_T, nI_add, nI_mul, nI_sub', Int.neg_zero, not_false_eq_true, not_true_eq_false] <;> omega); done))) | (refine xbr_t ?_ ?_; (focus ((simp (disch := omega) only [ix_lt, ix_le, ix_eq, ix_0, nI_clamp, nI_toInt, ng_T, nI_add, nI_mul, nI_sub', Int.neg_zero, not_false_eq_true, not_true_eq_false] <;> omega); done))) | refine ⟨Or.inl rfl, ?_⟩ | refine ⟨Or.inr rfl, ?_⟩ | (refine ⟨?_, ?_⟩; (focus (exact in_nI (by omega) (by omega)))))
              refine xgo_eq ih ?_ rfl rfl
              rw [hss, cI_s]
              ((repeat' (first | (with_reducible rfl) | exact xv_nil | refine xv_cons ?_ ?_ | refine xv_i ?_ | refine xv_l ?_)) <;> (simp (disch := omega) only [↓reduceIte, Bool.false_eq_true, Nat.one_mul, Nat.zero_mul, Nat.or_zero, Nat.add_zero, Nat.zero_add, Bool.toNat_true, Bool.toNat_false, shl_n, shr_n, fa_and, fa_or, nx_xor, nI_add, nI_mul, nI_sub', and_1, and_7, and_3', and_15]))
            · rw [if_neg (fun q => by omega)] at hss
              repeat (first | (refine xbr_f ?_ ?_; (focus ((simp (disch := omega) only [ix_lt, ix_le, ix_eq, ix_0, nI_clamp, nI_toInt, ng_T, nI_add, nI_mul, nI_sub', Int.neg_zero, not_false_eq_true, not_true_eq_false] <;> omega); done))) | (refine xbr_t ?_ ?_; (focus ((simp (disch := omega) only [ix_lt, ix_le, ix_eq, ix_0, nI_clamp, nI_toInt, ng_T, nI_add, nI_mul, nI_sub', Int.neg_zero, not_false_eq_true, not_true_eq_false] <;> omega); done))) | refine ⟨Or.inl rfl, ?_⟩ | refine ⟨Or.inr rfl, ?_⟩ | (refine ⟨?_, ?_⟩; (focus (exact in_nI (by omega) (by omega)))))
              refine xgo_eq ih ?_ rfl rfl
              rw [hss, hb, cI_s]
              ((repeat' (first | (with_reducible rfl) | exact xv_nil | refine xv_cons ?_ ?_ | refine xv_i ?_ | refine xv_l ?_)) <;> (simp (disch := omega) only [↓reduceIte, Bool.false_eq_true, Nat.one_mul, Nat.zero_mul, Nat.or_zero, Nat.add_zero, Nat.zero_add, Bool.toNat_true, Bool.toNat_false, shl_n, shr_n, fa_and, fa_or, nx_xor, nI_add, nI_mul, nI_sub', and_1, and_7, and_3', and_15]))
        · rw [if_neg (fun q => h0 q.2)] at hss
          rw [decide_eq_false h0]
          (first | refine xbr_t (by decide) ?_ | refine xbr_f (by decide) ?_)
          refine xgo_eq ih ?_ rfl rfl
          rw [hss]
          ((repeat' (first | (with_reducible rfl) | exact xv_nil | refine xv_cons ?_ ?_ | refine xv_i ?_ | refine xv_l ?_)) <;> (simp (disch := omega) only [↓reduceIte, Bool.false_eq_true, Nat.one_mul, Nat.zero_mul, Nat.or_zero, Nat.add_zero, Nat.zero_add, Bool.toNat_true, Bool.toNat_false, shl_n, shr_n, fa_and, fa_or, nx_xor, nI_add, nI_mul, nI_sub', and_1, and_7, and_3', and_15]))
    · refine xrun okX11_cover hhX11_cover [] 60 ?_
      have hle := fsN_le S.d S.D.X (2 ^ S.d.nA)
      repeat (first | (refine xbr_f ?_ ?_; (focus ((simp (disch := omega) only [ix_lt, ix_le, ix_eq, ix_0, nI_clamp, nI_toInt, ng_T, nI_add, nI_mul, nI_sub', Int.neg_zero, not_false_eq_true, not_true_eq_false, esh] <;> omega); done))) | (refine xbr_t ?_ ?_; (focus ((simp (disch := omega) only [ix_lt, ix_le, ix_eq, ix_0, nI_clamp, nI_toInt, ng_T, nI_add, nI_mul, nI_sub', Int.neg_zero, not_false_eq_true, not_true_eq_false, esh] <;> omega); done))) | refine ⟨Or.inl rfl, ?_⟩ | refine ⟨Or.inr rfl, ?_⟩ | (refine ⟨?_, ?_⟩; (focus ((try simp (disch := omega) only [esh, nI_mul, nI_add, nI_sub']); exact in_nI (by omega) (by omega)))))
      rcases hR with ⟨q, rfl, rfl⟩ | ⟨v, q, rfl, rfl⟩
      · rw [q, cI_0]
        repeat (first | (refine xbr_f ?_ ?_; (focus ((simp (disch := omega) only [ix_lt, ix_le, ix_eq, ix_0, nI_clamp, nI_toInt, ng_T, nI_add, nI_mul, nI_sub', Int.neg_zero, not_false_eq_true, not_true_eq_false] <;> omega); done))) | (refine xbr_t ?_ ?_; (focus ((simp (disch := omega) only [ix_lt, ix_le, ix_eq, ix_0, nI_clamp, nI_toInt, ng_T, nI_add, nI_mul, nI_sub', Int.neg_zero, not_false_eq_true, not_true_eq_false] <;> omega); done))) | refine ⟨Or.inl rfl, ?_⟩ | refine ⟨Or.inr rfl, ?_⟩ | (refine ⟨?_, ?_⟩; (focus (exact in_nI (by omega) (by omega)))))
        exact hQ _ _ (frM_0 _ _) hC
      · rw [q, cI_s]
        repeat (first | (refine xbr_f ?_ ?_; (focus ((simp (disch := omega) only [ix_lt, ix_le, ix_eq, ix_0, nI_clamp, nI_toInt, ng_T, nI_add, nI_mul, nI_sub', Int.neg_zero, not_false_eq_true, not_true_eq_false] <;> omega); done))) | (refine xbr_t ?_ ?_; (focus ((simp (disch := omega) only [ix_lt, ix_le, ix_eq, ix_0, nI_clamp, nI_toInt, ng_T, nI_add, nI_mul, nI_sub', Int.neg_zero, not_false_eq_true, not_true_eq_false] <;> omega); done))) | refine ⟨Or.inl rfl, ?_⟩ | refine ⟨Or.inr rfl, ?_⟩ | (refine ⟨?_, ?_⟩; (focus (exact in_nI (by omega) (by omega)))))
        refine ⟨rfl, rfl, v, rfl, by omega, ?_⟩
        exact hQ _ _ (frM_I (k := 27) (by decide) _ _ _ _) (Ref_T hC (nI v))
