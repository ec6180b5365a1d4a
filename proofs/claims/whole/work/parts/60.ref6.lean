/-! THE REFERENCE, 6: undone, kept, likeness -/
theorem md_md {b m n : Nat} (h : n ≤ m) : b % 2 ^ m % 2 ^ n = b % 2 ^ n := Nat.mod_mod_of_dvd _ (Nat.pow_dvd_pow 2 h)
theorem dnR_eq {d : PD} {D : DD} {f f' g g' : Nat → Int32} {s s' : Int32} (hd : d.ok) (hz : D.z ≤ 41) (h : dnR d D f s g) (e1 : ∀ k, k < 19 → f' k = f k) (e2 : s' = s) (e3 : ∀ t, t < 760 → g' t = g t) : dnR d D f' s' g' := by
  refine ⟨nwR_eq hd h.1 e1, e2.trans h.2.1, fun n hn => nwR_eq hd (h.2.2 n hn) (fun k hk => e3 _ ?_)⟩
  have := Nat.mul_le_mul_left 19 (show n + 1 ≤ 40 by omega)
  omega
theorem Ref_D {S : ST} {I : xI} {L : xL} (h : Ref S I L) {D : DD} {f : Nat → Int32} {s : Int32} {g : Nat → Int32} (hD : DOk D) (h0 : 0 < D.z) (hn : dnR S.d D f s g) : Ref (S.wD D) (xrw (xrw (xup I 27 22 s) 37 f) 40 g) L := ⟨⟨h.ok.d, hD, h0, h.ok.2.2.2⟩, h.pd, hn, h.kp, h.rw, h.tx, h.mc⟩
def csX11_undo : xCs := [(mX11_in, sX11_in)]
theorem okX11_undo : xOkM mX11_undo csX11_undo := ⟨dX11_undo, by decide +kernel, by decide +kernel, ⟨wdX11_199, wdX11_90, wdX11_199, wdX11_37, wdX11_46, ⟨wdX11_199, fun h => Bool.noConfusion h⟩, trivial⟩⟩
theorem hhX11_undo : ∀ q ∈ csX11_undo, xHd q.1 := xall1 hX11_in (xall0)
theorem kkX11_undo : ∀ q ∈ csX11_undo, ∀ l, xCon l q.1 q.2 := xall1 kX11_in (xall0)
def sX11_undo : xSpec := xReg fun as I L Q => ∃ (S : ST) (n o : Int32) (S' : ST), as = [.ref 27, .int n] ∧ undoR S n o S' ∧ Ref S I L ∧ (∀ I' L', frM I L I' L' → Ref S' I' L' → Q (some (.int o)) I' L')
set_option maxRecDepth 100000 in
theorem kX11_undo : ∀ l, xCon l mX11_undo sX11_undo := by
  refine xcon_of okX11_undo hX11_undo rfl (by decide) hhX11_undo kkX11_undo ?_
  rintro as n0 I L P Q ⟨rfl, rfl, S, n, o, S', rfl, hR, hC, hQ⟩
  refine ⟨Nat.le_of_ble_eq_true rfl, ?_⟩
  have hs := hC.sz
  have hz := hC.ok.D.1
  have h0 := hC.ok.z
  have t0 : (nI 0).toInt = 0 := rfl
  have ts : (nI (S.D.z - 1)).toInt = (S.D.z - 1 : Nat) := nI_toInt (by omega)
  refine xrun okX11_undo hhX11_undo [(25, [true, true, true, true])] 60 ?_
  refine ⟨rfl, rfl, _, _, _, n, nI 0, nI (S.D.z - 1), rfl, rfl, by decide, by rw [hs], ?_⟩
  rw [t0, ts]
  rcases hR with ⟨hb, rfl, rfl⟩ | ⟨m, rfl, hm, hR⟩
  · obtain ⟨S, rfl⟩ : ∃ S, S = S' := ⟨S', rfl⟩
    have hk := ib_f hb
    rw [decide_eq_false (by omega)]
    (first | refine xbr_t (by decide) ?_ | refine xbr_f (by decide) ?_)
    exact hQ _ _ (frM_0 _ _) hC
  · rw [nI_toInt (show m < 2 ^ 31 by omega), decide_eq_true (by omega)]
    (first | refine xbr_t (by decide) ?_ | refine xbr_f (by decide) ?_)
    rcases hR with ⟨h1, rfl, rfl⟩ | ⟨h1, rfl, rfl⟩
    · obtain ⟨S, rfl⟩ : ∃ S, S = S' := ⟨S', rfl⟩
      have e0 : nI (S.D.z - 1) - nI m = nI 0 := by rw [nI_sub' (by omega), h1, Nat.sub_self]
      have hq := hQ (xup I 27 22 (nI m)) L (frM_I (by decide) _ _ _ _) (by
        rw [h1, ← hs]
        exact ⟨hC.ok, hC.pd, hC.dn, hC.kp, hC.rw, hC.tx, hC.mc⟩)
      refine xrun okX11_undo hhX11_undo [] 60 ?_
      repeat (first | (refine xbr_f ?_ ?_; (focus ((simp (disch := omega) only [ix_lt, ix_le, ix_eq, ix_0, nI_clamp, nI_toInt, ng_T, nI_add, nI_mul, nI_sub', Int.neg_zero, not_false_eq_true, not_true_eq_false, hs, e0] <;> omega); done))) | (refine xbr_t ?_ ?_; (focus ((simp (disch := omega) only [ix_lt, ix_le, ix_eq, ix_0, nI_clamp, nI_toInt, ng_T, nI_add, nI_mul, nI_sub', Int.neg_zero, not_false_eq_true, not_true_eq_false, hs, e0] <;> omega); done))) | refine ⟨Or.inl rfl, ?_⟩ | refine ⟨Or.inr rfl, ?_⟩ | (refine ⟨?_, ?_⟩; (focus ((try simp (disch := omega) only [hs, e0, nI_mul, nI_add, nI_sub']); exact in_nI (by omega) (by omega)))))
      rw [hs, e0]
      exact hq
    · have hlt : (nI (S.D.z - 1) - nI m) = nI (S.D.z - 1 - m) := nI_sub' (by omega)
      refine xgo_eq (xlpW (M := mX11_undo) (cs := csX11_undo) (pc := 25) 19 (fun k => [some (.ref 27), some (.int (nI m)), some (.int (nI (S.D.z - 1 - m))), some (.int (nI k))]) (fun k I' L' => L = L' ∧ ∃ f, I' = xrw I 37 f ∧ ∀ t, t < k → f t = I 40 (19 * m + t)) ?_ ?_ ⟨rfl, I 37, (xrw_self I 37).symm, fun t h => absurd h (by omega)⟩) ?_ rfl rfl
      · rintro k hk I2 L2 ⟨rfl, f, rfl, hf⟩ ih
        refine xrun okX11_undo hhX11_undo [(25, [true, true, true, true])] 60 ?_
        repeat (first | (refine xbr_f ?_ ?_; (focus ((simp (disch := omega) only [ix_lt, ix_le, ix_eq, ix_0, nI_clamp, nI_toInt, ng_T, nI_add, nI_mul, nI_sub', Int.neg_zero, not_false_eq_true, not_true_eq_false, nI_add] <;> omega); done))) | (refine xbr_t ?_ ?_; (focus ((simp (disch := omega) only [ix_lt, ix_le, ix_eq, ix_0, nI_clamp, nI_toInt, ng_T, nI_add, nI_mul, nI_sub', Int.neg_zero, not_false_eq_true, not_true_eq_false, nI_add] <;> omega); done))) | refine ⟨Or.inl rfl, ?_⟩ | refine ⟨Or.inr rfl, ?_⟩ | (refine ⟨?_, ?_⟩; (focus ((try simp (disch := omega) only [nI_add, nI_mul, nI_add, nI_sub']); exact in_nI (by omega) (by omega)))))
        simp (disch := omega) only [nI_mul, nI_add, nI_clamp, nI_sub']
        rw [xrw_up]
        refine xgo_eq (ih _ _ ⟨rfl, _, rfl, fun t ht => ?_⟩) ?_ rfl rfl
        · by_cases e : t = k
          · rw [if_pos e, e]
            rfl
          · rw [if_neg e]
            exact hf t (by omega)
        · ((repeat' (first | (with_reducible rfl) | exact xv_nil | refine xv_cons ?_ ?_ | refine xv_i ?_ | refine xv_l ?_)) <;> (simp (disch := omega) only [↓reduceIte, Bool.false_eq_true, Nat.one_mul, Nat.zero_mul, Nat.or_zero, Nat.add_zero, Nat.zero_add, Bool.toNat_true, Bool.toNat_false, shl_n, shr_n, fa_and, fa_or, nx_xor, nI_add, nI_mul, nI_sub', and_1, and_7, and_3', and_15]))
      · rintro I2 L2 ⟨rfl, f, rfl, hf⟩
        refine xrun okX11_undo hhX11_undo [] 60 ?_
        repeat (first | (refine xbr_f ?_ ?_; (focus ((simp (disch := omega) only [ix_lt, ix_le, ix_eq, ix_0, nI_clamp, nI_toInt, ng_T, nI_add, nI_mul, nI_sub', Int.neg_zero, not_false_eq_true, not_true_eq_false] <;> omega); done))) | (refine xbr_t ?_ ?_; (focus ((simp (disch := omega) only [ix_lt, ix_le, ix_eq, ix_0, nI_clamp, nI_toInt, ng_T, nI_add, nI_mul, nI_sub', Int.neg_zero, not_false_eq_true, not_true_eq_false] <;> omega); done))) | refine ⟨Or.inl rfl, ?_⟩ | refine ⟨Or.inr rfl, ?_⟩ | (refine ⟨?_, ?_⟩; (focus (exact in_nI (by omega) (by omega)))))
        have hD := unD_ok hC.ok.D h1
        have hC2 := Ref_D hC (D := unD S.D m) (f := f) (s := nI m) (g := I 40) hD (Nat.succ_pos _) ⟨nwR_eq hC.pd.ok (hC.hi m h1) hf, rfl, fun n' hn' => by
          have hn2 : n' < m + 1 - 1 := hn'
          have h3 := hC.hi n' (by omega)
          show nwR S.d (S.D.be n') (pcf 64 (S.D.b % 2 ^ m % 2 ^ n')) _
          rw [md_md (by omega)]
          exact h3⟩
        have ew : xrw (xrw (xup I 27 22 (nI m)) 37 f) 40 (I 40) = xup (xrw I 37 f) 27 22 (nI m) := by
          funext c t
          simp only [xrw, xup]
          by_cases c1 : c = 40
          · simp [c1]
          · by_cases c2 : c = 37
            · simp [c2]
            · simp [c1, c2]
        rw [ew] at hC2
        exact hQ _ _ (frM_t (frM_W (by decide) _ _ _) (frM_I (by decide) _ _ _ _)) hC2
      · rw [hs, hlt]
        rfl
def csX11_keep : xCs := [(mX11_in, sX11_in)]
theorem okX11_keep : xOkM mX11_keep csX11_keep := ⟨dX11_keep, by decide +kernel, by decide +kernel, ⟨wdX11_231, wdX11_90, wdX11_118, wdX11_49, wdX11_199, wdX11_52, wdX11_37, wdX11_52, wdX11_46, wdX11_199, trivial⟩⟩
theorem hhX11_keep : ∀ q ∈ csX11_keep, xHd q.1 := xall1 hX11_in (xall0)
theorem kkX11_keep : ∀ q ∈ csX11_keep, ∀ l, xCon l q.1 q.2 := xall1 kX11_in (xall0)
def sX11_keep : xSpec := xReg fun as I L Q => ∃ (S : ST) (k o : Int32) (S' : ST), as = [.ref 27, .int k] ∧ keepR S k o S' ∧ Ref S I L ∧ (∀ I' L', frM I L I' L' → Ref S' I' L' → Q (some (.int o)) I' L')
set_option maxRecDepth 100000 in
theorem kX11_keep : ∀ l, xCon l mX11_keep sX11_keep := by
  refine xcon_of okX11_keep hX11_keep rfl (by decide) hhX11_keep kkX11_keep ?_
  rintro as n0 I L P Q ⟨rfl, rfl, S, k, o, S', rfl, hR, hC, hQ⟩
  refine ⟨Nat.le_of_ble_eq_true rfl, ?_⟩
  have hA := hC.pd.a
  have h4 := hC.pd.ok.a4
  have hs := hC.sz
  have hz := hC.ok.D.1
  have h0 := hC.ok.z
  refine xrun okX11_keep hhX11_keep [(36, [true, true, true])] 60 ?_
  refine ⟨rfl, rfl, _, _, _, k, nI 0, nI 2, rfl, rfl, by decide, by decide, ?_⟩
  rw [in_c (by decide)]
  rcases hR with ⟨hb, rfl, rfl⟩ | ⟨j, rfl, hj, hR⟩
  · obtain ⟨S, rfl⟩ : ∃ S, S = S' := ⟨S', rfl⟩
    rw [hb]
    (first | refine xbr_t (by decide) ?_ | refine xbr_f (by decide) ?_)
    exact hQ _ _ (frM_0 _ _) hC
  · rw [ib_tt hj (by decide)]
    (first | refine xbr_t (by decide) ?_ | refine xbr_f (by decide) ?_)
    rcases hR with ⟨h, rfl, rfl⟩ | ⟨h, rfl, rfl⟩
    · obtain ⟨S, rfl⟩ : ∃ S, S = S' := ⟨S', rfl⟩
      rw [h] at hA
      repeat (first | (refine xbr_f ?_ ?_; (focus ((simp (disch := omega) only [ix_lt, ix_le, ix_eq, ix_0, nI_clamp, nI_toInt, ng_T, nI_add, nI_mul, nI_sub', Int.neg_zero, not_false_eq_true, not_true_eq_false, hA] <;> omega); done))) | (refine xbr_t ?_ ?_; (focus ((simp (disch := omega) only [ix_lt, ix_le, ix_eq, ix_0, nI_clamp, nI_toInt, ng_T, nI_add, nI_mul, nI_sub', Int.neg_zero, not_false_eq_true, not_true_eq_false, hA] <;> omega); done))) | refine ⟨Or.inl rfl, ?_⟩ | refine ⟨Or.inr rfl, ?_⟩ | (refine ⟨?_, ?_⟩; (focus ((try simp (disch := omega) only [hA, nI_mul, nI_add, nI_sub']); exact in_nI (by omega) (by omega)))))
      exact hQ _ _ (frM_0 _ _) hC
    · repeat (first | (refine xbr_f ?_ ?_; (focus ((simp (disch := omega) only [ix_lt, ix_le, ix_eq, ix_0, nI_clamp, nI_toInt, ng_T, nI_add, nI_mul, nI_sub', Int.neg_zero, not_false_eq_true, not_true_eq_false, hA] <;> omega); done))) | (refine xbr_t ?_ ?_; (focus ((simp (disch := omega) only [ix_lt, ix_le, ix_eq, ix_0, nI_clamp, nI_toInt, ng_T, nI_add, nI_mul, nI_sub', Int.neg_zero, not_false_eq_true, not_true_eq_false, hA] <;> omega); done))) | refine ⟨Or.inl rfl, ?_⟩ | refine ⟨Or.inr rfl, ?_⟩ | (refine ⟨?_, ?_⟩; (focus ((try simp (disch := omega) only [hA, nI_mul, nI_add, nI_sub']); exact in_nI (by omega) (by omega)))))
      simp (disch := omega) only [hs, nI_mul, nI_add, nI_clamp, nI_sub']
      refine xlpW (M := mX11_keep) (cs := csX11_keep) (pc := 36) 19 (fun k => [some (.ref 27), some (.int (nI j)), some (.int (nI k))]) (fun k I' L' => L = L' ∧ ∃ f, I' = xrw (xup I 41 j (nI (S.D.z - 1))) 42 f ∧ (∀ t, t < k → f (779 * j + t) = I 37 t) ∧ (∀ t, (t < 779 * j ∨ 779 * j + k ≤ t) → f t = I 42 t)) ?_ ?_ ⟨rfl, I 42, (xrw_self (xup I 41 j (nI (S.D.z - 1))) 42).symm, fun t h => absurd h (by omega), fun _ _ => rfl⟩
      · rintro k hk I2 L2 ⟨rfl, f, rfl, hf1, hf2⟩ ih
        refine xrun okX11_keep hhX11_keep [(36, [true, true, true])] 60 ?_
        repeat (first | (refine xbr_f ?_ ?_; (focus ((simp (disch := omega) only [ix_lt, ix_le, ix_eq, ix_0, nI_clamp, nI_toInt, ng_T, nI_add, nI_mul, nI_sub', Int.neg_zero, not_false_eq_true, not_true_eq_false, nI_add] <;> omega); done))) | (refine xbr_t ?_ ?_; (focus ((simp (disch := omega) only [ix_lt, ix_le, ix_eq, ix_0, nI_clamp, nI_toInt, ng_T, nI_add, nI_mul, nI_sub', Int.neg_zero, not_false_eq_true, not_true_eq_false, nI_add] <;> omega); done))) | refine ⟨Or.inl rfl, ?_⟩ | refine ⟨Or.inr rfl, ?_⟩ | (refine ⟨?_, ?_⟩; (focus ((try simp (disch := omega) only [nI_add, nI_mul, nI_add, nI_sub']); exact in_nI (by omega) (by omega)))))
        simp (disch := omega) only [nI_mul, nI_add, nI_clamp, nI_sub']
        rw [xrw_up]
        refine xgo_eq (ih _ _ ⟨rfl, _, rfl, fun t ht => ?_, fun t ht => ?_⟩) ?_ rfl rfl
        · by_cases e : t = k
          · rw [if_pos (by omega), e]
            rfl
          · rw [if_neg (by omega)]
            exact hf1 t (by omega)
        · rw [if_neg (by omega)]
          exact hf2 t (by omega)
        · ((repeat' (first | (with_reducible rfl) | exact xv_nil | refine xv_cons ?_ ?_ | refine xv_i ?_ | refine xv_l ?_)) <;> (simp (disch := omega) only [↓reduceIte, Bool.false_eq_true, Nat.one_mul, Nat.zero_mul, Nat.or_zero, Nat.add_zero, Nat.zero_add, Bool.toNat_true, Bool.toNat_false, shl_n, shr_n, fa_and, fa_or, nx_xor, nI_add, nI_mul, nI_sub', and_1, and_7, and_3', and_15]))
      · rintro I2 L2 ⟨rfl, f, rfl, hf1, hf2⟩
        refine xrun okX11_keep hhX11_keep [(68, [true, true, true])] 60 ?_
        repeat (first | (refine xbr_f ?_ ?_; (focus ((simp (disch := omega) only [ix_lt, ix_le, ix_eq, ix_0, nI_clamp, nI_toInt, ng_T, nI_add, nI_mul, nI_sub', Int.neg_zero, not_false_eq_true, not_true_eq_false] <;> omega); done))) | (refine xbr_t ?_ ?_; (focus ((simp (disch := omega) only [ix_lt, ix_le, ix_eq, ix_0, nI_clamp, nI_toInt, ng_T, nI_add, nI_mul, nI_sub', Int.neg_zero, not_false_eq_true, not_true_eq_false] <;> omega); done))) | refine ⟨Or.inl rfl, ?_⟩ | refine ⟨Or.inr rfl, ?_⟩ | (refine ⟨?_, ?_⟩; (focus (exact in_nI (by omega) (by omega)))))
        refine xlpW (M := mX11_keep) (cs := csX11_keep) (pc := 68) 760 (fun k => [some (.ref 27), some (.int (nI j)), some (.int (nI k))]) (fun k I' L' => L = L' ∧ ∃ f', I' = xrw (xup I 41 j (nI (S.D.z - 1))) 42 f' ∧ (∀ t, t < 19 → f' (779 * j + t) = I 37 t) ∧ (∀ t, t < k → f' (779 * j + 19 + t) = I 40 t) ∧ (∀ t, (t < 779 * j ∨ 779 * j + 19 + k ≤ t) → f' t = I 42 t)) ?_ ?_ ⟨rfl, f, rfl, hf1, fun t h => absurd h (by omega), hf2⟩
        · rintro k hk I2 L2 ⟨rfl, f', rfl, g1, g2, g3⟩ ih
          refine xrun okX11_keep hhX11_keep [(68, [true, true, true])] 60 ?_
          repeat (first | (refine xbr_f ?_ ?_; (focus ((simp (disch := omega) only [ix_lt, ix_le, ix_eq, ix_0, nI_clamp, nI_toInt, ng_T, nI_add, nI_mul, nI_sub', Int.neg_zero, not_false_eq_true, not_true_eq_false, nI_add] <;> omega); done))) | (refine xbr_t ?_ ?_; (focus ((simp (disch := omega) only [ix_lt, ix_le, ix_eq, ix_0, nI_clamp, nI_toInt, ng_T, nI_add, nI_mul, nI_sub', Int.neg_zero, not_false_eq_true, not_true_eq_false, nI_add] <;> omega); done))) | refine ⟨Or.inl rfl, ?_⟩ | refine ⟨Or.inr rfl, ?_⟩ | (refine ⟨?_, ?_⟩; (focus ((try simp (disch := omega) only [nI_add, nI_mul, nI_add, nI_sub']); exact in_nI (by omega) (by omega)))))
          simp (disch := omega) only [nI_mul, nI_add, nI_clamp, nI_sub']
          rw [xrw_up]
          refine xgo_eq (ih _ _ ⟨rfl, _, rfl, fun t ht => ?_, fun t ht => ?_, fun t ht => ?_⟩) ?_ rfl rfl
          · rw [if_neg (by omega)]
            exact g1 t ht
          · by_cases e : t = k
            · rw [if_pos (by omega), e]
              rfl
            · rw [if_neg (by omega)]
              exact g2 t (by omega)
          · rw [if_neg (by omega)]
            exact g3 t (by omega)
          · ((repeat' (first | (with_reducible rfl) | exact xv_nil | refine xv_cons ?_ ?_ | refine xv_i ?_ | refine xv_l ?_)) <;> (simp (disch := omega) only [↓reduceIte, Bool.false_eq_true, Nat.one_mul, Nat.zero_mul, Nat.or_zero, Nat.add_zero, Nat.zero_add, Bool.toNat_true, Bool.toNat_false, shl_n, shr_n, fa_and, fa_or, nx_xor, nI_add, nI_mul, nI_sub', and_1, and_7, and_3', and_15]))
        · rintro I2 L2 ⟨rfl, f', rfl, g1, g2, g3⟩
          refine xrun okX11_keep hhX11_keep [] 60 ?_
          repeat (first | (refine xbr_f ?_ ?_; (focus ((simp (disch := omega) only [ix_lt, ix_le, ix_eq, ix_0, nI_clamp, nI_toInt, ng_T, nI_add, nI_mul, nI_sub', Int.neg_zero, not_false_eq_true, not_true_eq_false] <;> omega); done))) | (refine xbr_t ?_ ?_; (focus ((simp (disch := omega) only [ix_lt, ix_le, ix_eq, ix_0, nI_clamp, nI_toInt, ng_T, nI_add, nI_mul, nI_sub', Int.neg_zero, not_false_eq_true, not_true_eq_false] <;> omega); done))) | refine ⟨Or.inl rfl, ?_⟩ | refine ⟨Or.inr rfl, ?_⟩ | (refine ⟨?_, ?_⟩; (focus (exact in_nI (by omega) (by omega)))))
          have hs2 : xrw (xup I 41 j (nI (S.D.z - 1))) 42 f' 27 22 = nI (S.D.z - 1) := hs
          have hq := hQ (xrw (xup I 41 j (nI (S.D.z - 1))) 42 f') L (frM_t (frM_I (k := 41) (by decide) _ _ _ _) (frM_W (k := 42) (by decide) _ _ _)) ⟨kp_ok hC.ok j, hC.pd, hC.dn, fun t ht => ?_, hC.rw, hC.tx, hC.mc⟩
          · rw [show (some (Value.int (nI (S.D.z - 1))) : Option Value) = some (Value.int (xrw (xup I 41 j (nI (S.D.z - 1))) 42 f' 27 22)) from by rw [hs2]] at hq
            exact hq
          · show (if t = j then nI (S.D.z - 1) else I 41 t) = szI (if t = j then S.D else S.kp t).z ∧ (0 < (if t = j then S.D else S.kp t).z → dnR S.d (if t = j then S.D else S.kp t) (fun v => f' (779 * t + v)) (nI ((if t = j then S.D else S.kp t).z - 1)) (fun v => f' (779 * t + 19 + v)))
            by_cases e : t = j
            · rw [if_pos e, if_pos e]
              refine ⟨?_, fun _ => dnR_eq hC.pd.ok hz hC.dn (fun v hv => ?_) hs.symm (fun v hv => ?_)⟩
              · obtain ⟨s, hs3⟩ : ∃ s, S.D.z = s + 1 := ⟨S.D.z - 1, by omega⟩
                rw [hs3, szI_s, Nat.add_sub_cancel]
              · rw [e]
                exact g1 v hv
              · rw [e]
                exact g2 v hv
            · rw [if_neg e, if_neg e]
              have p := hC.kp t ht
              refine ⟨p.1, fun h0 => dnR_eq hC.pd.ok (hC.ok.kp t ht).1 (p.2 h0) (fun v hv => g3 _ ?_) rfl (fun v hv => g3 _ ?_)⟩
              · omega
              · omega
def csX11_on : xCs := [(mX11_in, sX11_in), (mX11_finds, sX11_finds)]
theorem okX11_on : xOkM mX11_on csX11_on := ⟨dX11_on, by decide +kernel, by decide +kernel, ⟨wdX11_231, wdX11_90, wdX11_49, wdX11_100, wdX11_49, ⟨wdX11_199, fun h => Bool.noConfusion h⟩, wdX11_37, wdX11_52, wdX11_46, wdX11_52, wdX11_199, trivial⟩⟩
theorem hhX11_on : ∀ q ∈ csX11_on, xHd q.1 := xall1 hX11_in (xall1 hX11_finds (xall0))
theorem kkX11_on : ∀ q ∈ csX11_on, ∀ l, xCon l q.1 q.2 := xall1 kX11_in (xall1 kX11_finds (xall0))
def sX11_on : xSpec := xReg fun as I L Q => ∃ (S : ST) (k o : Int32) (S' : ST), as = [.ref 27, .int k] ∧ onR S k o S' ∧ Ref S I L ∧ (∀ I' L', frM I L I' L' → Ref S' I' L' → Q (some (.int o)) I' L')
set_option maxRecDepth 100000 in
theorem kX11_on : ∀ l, xCon l mX11_on sX11_on := by
  refine xcon_of okX11_on hX11_on rfl (by decide) hhX11_on kkX11_on ?_
  rintro as n0 I L P Q ⟨rfl, rfl, S, k, o, S', rfl, hR, hC, hQ⟩
  refine ⟨Nat.le_of_ble_eq_true rfl, ?_⟩
  refine xrun okX11_on hhX11_on [(41, [true, true, true])] 60 ?_
  refine ⟨rfl, rfl, _, _, _, k, nI 0, nI 2, rfl, rfl, by decide, by decide, ?_⟩
  rw [in_c (by decide)]
  rcases hR with ⟨hb, rfl, rfl⟩ | ⟨j, rfl, hj, hR⟩
  · obtain ⟨S, rfl⟩ : ∃ S, S = S' := ⟨S', rfl⟩
    rw [hb]
    (first | refine xbr_t (by decide) ?_ | refine xbr_f (by decide) ?_)
    exact hQ _ _ (frM_0 _ _) hC
  · rw [ib_tt hj (by decide)]
    (first | refine xbr_t (by decide) ?_ | refine xbr_f (by decide) ?_)
    have p := hC.kp j hj
    have hkz := (hC.ok.kp j hj).1
    have hzj := p.1
    rcases hR with ⟨h, rfl, rfl⟩ | ⟨h, rfl, rfl⟩
    · rw [h, szI_0] at hzj
      repeat (first | (refine xbr_f ?_ ?_; (focus ((simp (disch := omega) only [ix_lt, ix_le, ix_eq, ix_0, nI_clamp, nI_toInt, ng_T, nI_add, nI_mul, nI_sub', Int.neg_zero, not_false_eq_true, not_true_eq_false, hzj] <;> omega); done))) | (refine xbr_t ?_ ?_; (focus ((simp (disch := omega) only [ix_lt, ix_le, ix_eq, ix_0, nI_clamp, nI_toInt, ng_T, nI_add, nI_mul, nI_sub', Int.neg_zero, not_false_eq_true, not_true_eq_false, hzj] <;> omega); done))) | refine ⟨Or.inl rfl, ?_⟩ | refine ⟨Or.inr rfl, ?_⟩ | (refine ⟨?_, ?_⟩; (focus ((try simp (disch := omega) only [hzj, nI_mul, nI_add, nI_sub']); exact in_nI (by omega) (by omega)))))
      exact ⟨rfl, rfl, S, 1, rfl, by decide, hC, fun I' hf hC' => hQ _ _ hf hC'⟩
    · have p2 := p.2 h
      obtain ⟨s, hs⟩ : ∃ s, (S.kp j).z = s + 1 := ⟨(S.kp j).z - 1, by omega⟩
      rw [hs, szI_s] at hzj
      have hQ : ∀ I' L', frM I L I' L' → Ref (S.wD (S.kp j)) I' L' → Q (some (.int (nI s))) xN I' L' xP0 := fun I' L' a b => by
        have q := hQ I' L' a b
        rw [hs, Nat.add_sub_cancel] at q
        exact q
      repeat (first | (refine xbr_f ?_ ?_; (focus ((simp (disch := omega) only [ix_lt, ix_le, ix_eq, ix_0, nI_clamp, nI_toInt, ng_T, nI_add, nI_mul, nI_sub', Int.neg_zero, not_false_eq_true, not_true_eq_false, hzj] <;> omega); done))) | (refine xbr_t ?_ ?_; (focus ((simp (disch := omega) only [ix_lt, ix_le, ix_eq, ix_0, nI_clamp, nI_toInt, ng_T, nI_add, nI_mul, nI_sub', Int.neg_zero, not_false_eq_true, not_true_eq_false, hzj] <;> omega); done))) | refine ⟨Or.inl rfl, ?_⟩ | refine ⟨Or.inr rfl, ?_⟩ | (refine ⟨?_, ?_⟩; (focus ((try simp (disch := omega) only [hzj, nI_mul, nI_add, nI_sub']); exact in_nI (by omega) (by omega)))))
      simp (disch := omega) only [hzj, nI_mul, nI_add, nI_clamp, nI_sub']
      refine xlpW (M := mX11_on) (cs := csX11_on) (pc := 41) 19 (fun k => [some (.ref 27), some (.int (nI j)), some (.int (nI k))]) (fun k I' L' => L = L' ∧ ∃ f, I' = xrw (xup I 27 22 (nI s)) 37 f ∧ (∀ t, t < k → f t = I 42 (779 * j + t))) ?_ ?_ ⟨rfl, I 37, (xrw_self (xup I 27 22 (nI s)) 37).symm, fun t h => absurd h (by omega)⟩
      · rintro k hk I2 L2 ⟨rfl, f, rfl, hf1⟩ ih
        refine xrun okX11_on hhX11_on [(41, [true, true, true])] 60 ?_
        repeat (first | (refine xbr_f ?_ ?_; (focus ((simp (disch := omega) only [ix_lt, ix_le, ix_eq, ix_0, nI_clamp, nI_toInt, ng_T, nI_add, nI_mul, nI_sub', Int.neg_zero, not_false_eq_true, not_true_eq_false, nI_add] <;> omega); done))) | (refine xbr_t ?_ ?_; (focus ((simp (disch := omega) only [ix_lt, ix_le, ix_eq, ix_0, nI_clamp, nI_toInt, ng_T, nI_add, nI_mul, nI_sub', Int.neg_zero, not_false_eq_true, not_true_eq_false, nI_add] <;> omega); done))) | refine ⟨Or.inl rfl, ?_⟩ | refine ⟨Or.inr rfl, ?_⟩ | (refine ⟨?_, ?_⟩; (focus ((try simp (disch := omega) only [nI_add, nI_mul, nI_add, nI_sub']); exact in_nI (by omega) (by omega)))))
        simp (disch := omega) only [nI_mul, nI_add, nI_clamp, nI_sub']
        rw [xrw_up]
        refine xgo_eq (ih _ _ ⟨rfl, _, rfl, fun t ht => ?_⟩) ?_ rfl rfl
        · by_cases e : t = k
          · rw [if_pos e, e]
            rfl
          · rw [if_neg e]
            exact hf1 t (by omega)
        · ((repeat' (first | (with_reducible rfl) | exact xv_nil | refine xv_cons ?_ ?_ | refine xv_i ?_ | refine xv_l ?_)) <;> (simp (disch := omega) only [↓reduceIte, Bool.false_eq_true, Nat.one_mul, Nat.zero_mul, Nat.or_zero, Nat.add_zero, Nat.zero_add, Bool.toNat_true, Bool.toNat_false, shl_n, shr_n, fa_and, fa_or, nx_xor, nI_add, nI_mul, nI_sub', and_1, and_7, and_3', and_15]))
      · rintro I2 L2 ⟨rfl, f, rfl, hf1⟩
        refine xrun okX11_on hhX11_on [(73, [true, true, true])] 60 ?_
        repeat (first | (refine xbr_f ?_ ?_; (focus ((simp (disch := omega) only [ix_lt, ix_le, ix_eq, ix_0, nI_clamp, nI_toInt, ng_T, nI_add, nI_mul, nI_sub', Int.neg_zero, not_false_eq_true, not_true_eq_false] <;> omega); done))) | (refine xbr_t ?_ ?_; (focus ((simp (disch := omega) only [ix_lt, ix_le, ix_eq, ix_0, nI_clamp, nI_toInt, ng_T, nI_add, nI_mul, nI_sub', Int.neg_zero, not_false_eq_true, not_true_eq_false] <;> omega); done))) | refine ⟨Or.inl rfl, ?_⟩ | refine ⟨Or.inr rfl, ?_⟩ | (refine ⟨?_, ?_⟩; (focus (exact in_nI (by omega) (by omega)))))
        refine xlpW (M := mX11_on) (cs := csX11_on) (pc := 73) 760 (fun k => [some (.ref 27), some (.int (nI j)), some (.int (nI k))]) (fun k I' L' => L = L' ∧ ∃ g, I' = xrw (xrw (xup I 27 22 (nI s)) 37 f) 40 g ∧ (∀ t, t < k → g t = I 42 (779 * j + 19 + t))) ?_ ?_ ⟨rfl, I 40, (xrw_self (xrw (xup I 27 22 (nI s)) 37 f) 40).symm, fun t h => absurd h (by omega)⟩
        · rintro k hk I2 L2 ⟨rfl, g, rfl, hg1⟩ ih
          refine xrun okX11_on hhX11_on [(73, [true, true, true])] 60 ?_
          repeat (first | (refine xbr_f ?_ ?_; (focus ((simp (disch := omega) only [ix_lt, ix_le, ix_eq, ix_0, nI_clamp, nI_toInt, ng_T, nI_add, nI_mul, nI_sub', Int.neg_zero, not_false_eq_true, not_true_eq_false, nI_add] <;> omega); done))) | (refine xbr_t ?_ ?_; (focus ((simp (disch := omega) only [ix_lt, ix_le, ix_eq, ix_0, nI_clamp, nI_toInt, ng_T, nI_add, nI_mul, nI_sub', Int.neg_zero, not_false_eq_true, not_true_eq_false, nI_add] <;> omega); done))) | refine ⟨Or.inl rfl, ?_⟩ | refine ⟨Or.inr rfl, ?_⟩ | (refine ⟨?_, ?_⟩; (focus ((try simp (disch := omega) only [nI_add, nI_mul, nI_add, nI_sub']); exact in_nI (by omega) (by omega)))))
          simp (disch := omega) only [nI_mul, nI_add, nI_clamp, nI_sub']
          rw [xrw_up]
          refine xgo_eq (ih _ _ ⟨rfl, _, rfl, fun t ht => ?_⟩) ?_ rfl rfl
          · by_cases e : t = k
            · rw [if_pos e, e]
              rfl
            · rw [if_neg e]
              exact hg1 t (by omega)
          · ((repeat' (first | (with_reducible rfl) | exact xv_nil | refine xv_cons ?_ ?_ | refine xv_i ?_ | refine xv_l ?_)) <;> (simp (disch := omega) only [↓reduceIte, Bool.false_eq_true, Nat.one_mul, Nat.zero_mul, Nat.or_zero, Nat.add_zero, Nat.zero_add, Bool.toNat_true, Bool.toNat_false, shl_n, shr_n, fa_and, fa_or, nx_xor, nI_add, nI_mul, nI_sub', and_1, and_7, and_3', and_15]))
        · rintro I2 L2 ⟨rfl, g, rfl, hg1⟩
          refine xrun okX11_on hhX11_on [] 60 ?_
          repeat (first | (refine xbr_f ?_ ?_; (focus ((simp (disch := omega) only [ix_lt, ix_le, ix_eq, ix_0, nI_clamp, nI_toInt, ng_T, nI_add, nI_mul, nI_sub', Int.neg_zero, not_false_eq_true, not_true_eq_false] <;> omega); done))) | (refine xbr_t ?_ ?_; (focus ((simp (disch := omega) only [ix_lt, ix_le, ix_eq, ix_0, nI_clamp, nI_toInt, ng_T, nI_add, nI_mul, nI_sub', Int.neg_zero, not_false_eq_true, not_true_eq_false] <;> omega); done))) | refine ⟨Or.inl rfl, ?_⟩ | refine ⟨Or.inr rfl, ?_⟩ | (refine ⟨?_, ?_⟩; (focus (exact in_nI (by omega) (by omega)))))
          have hC2 := Ref_D hC (D := S.kp j) (f := f) (s := nI s) (g := g) (hC.ok.kp j hj) h (dnR_eq hC.pd.ok hkz p2 hf1 (by rw [hs, Nat.add_sub_cancel]) hg1)
          exact hQ _ _ (frM_t (frM_I (k := 27) (by decide) _ _ _ _) (frM_t (frM_W (k := 37) (by decide) _ _ _) (frM_W (k := 40) (by decide) _ _ _))) hC2
def csX11_like : xCs := [(mX11_isAss, sX11_isAss), (mX11_isMarks, sX11_isMarks), (mX11_likeBy, sX11_likeBy)]
theorem okX11_like : xOkM mX11_like csX11_like := ⟨dX11_like, by decide +kernel, by decide +kernel, ⟨wdX11_205, wdX11_233, wdX11_31, wdX11_37, wdX11_129, trivial⟩⟩
theorem hhX11_like : ∀ q ∈ csX11_like, xHd q.1 := xall1 hX11_isAss (xall1 hX11_isMarks (xall1 hX11_likeBy (xall0)))
theorem kkX11_like : ∀ q ∈ csX11_like, ∀ l, xCon l q.1 q.2 := xall1 kX11_isAss (xall1 kX11_isMarks (xall1 kX11_likeBy (xall0)))
def sX11_like : xSpec := xReg fun as I L Q => ∃ (S : ST) (i w o : Int32) (S' : ST), as = [.ref 27, .int i, .int w] ∧ likeR S i w o S' ∧ Ref S I L ∧ (∀ I' L', frM I L I' L' → Ref S' I' L' → Q (some (.int o)) I' L')
set_option maxRecDepth 100000 in
theorem kX11_like : ∀ l, xCon l mX11_like sX11_like := by
  refine xcon_of okX11_like hX11_like rfl (by decide) hhX11_like kkX11_like ?_
  rintro as n0 I L P Q ⟨rfl, rfl, S, i, w, o, S', rfl, hR, hC, hQ⟩
  refine ⟨Nat.le_of_ble_eq_true rfl, ?_⟩
  have h4 := hC.pd.ok.a4
  refine xrun okX11_like hhX11_like [] 60 ?_
  refine ⟨rfl, rfl, S.d, i, rfl, hC.pd, ?_⟩
  rcases hR with ⟨h, rfl, rfl⟩ | ⟨a, m, rfl, ha, rfl, hm, rfl, rfl⟩
  · obtain ⟨S, rfl⟩ : ∃ S, S = S' := ⟨S', rfl⟩
    have done := hQ _ _ (frM_0 _ _) hC
    cases hb : ibB i S.d.nA
    · (first | refine xbr_t (by decide) ?_ | refine xbr_f (by decide) ?_)
      exact done
    · (first | refine xbr_t (by decide) ?_ | refine xbr_f (by decide) ?_)
      refine ⟨rfl, rfl, w, rfl, ?_⟩
      cases hw : ibB w 16
      · (first | refine xbr_t (by decide) ?_ | refine xbr_f (by decide) ?_)
        exact done
      · exact absurd ⟨hb, hw⟩ h
  · obtain ⟨S, rfl⟩ : ∃ S, S = S' := ⟨S', rfl⟩
    rw [ib_tt ha (by omega)]
    (first | refine xbr_t (by decide) ?_ | refine xbr_f (by decide) ?_)
    refine ⟨rfl, rfl, _, rfl, ?_⟩
    rw [ib_tt hm (by decide)]
    (first | refine xbr_t (by decide) ?_ | refine xbr_f (by decide) ?_)
    repeat (first | (refine xbr_f ?_ ?_; (focus ((simp (disch := omega) only [ix_lt, ix_le, ix_eq, ix_0, nI_clamp, nI_toInt, ng_T, nI_add, nI_mul, nI_sub', Int.neg_zero, not_false_eq_true, not_true_eq_false, nI_add] <;> omega); done))) | (refine xbr_t ?_ ?_; (focus ((simp (disch := omega) only [ix_lt, ix_le, ix_eq, ix_0, nI_clamp, nI_toInt, ng_T, nI_add, nI_mul, nI_sub', Int.neg_zero, not_false_eq_true, not_true_eq_false, nI_add] <;> omega); done))) | refine ⟨Or.inl rfl, ?_⟩ | refine ⟨Or.inr rfl, ?_⟩ | (refine ⟨?_, ?_⟩; (focus ((try simp (disch := omega) only [nI_add, nI_mul, nI_add, nI_sub']); exact in_nI (by omega) (by omega)))))
    refine ⟨rfl, rfl, kdN S.d a, meN S.D.X a, m, ?_, kdN_8 _ _, meN_16 _ _, hm, hQ _ _ (frM_0 _ _) hC⟩
    simp (disch := omega) only [hC.pd.k a ha, hC.nw.m ha, nI_mul, nI_add, nI_clamp, nI_sub']
def csX11_takers : xCs := [(mX11_isTaken, sX11_isTaken)]
theorem okX11_takers : xOkM mX11_takers csX11_takers := ⟨dX11_takers, by decide +kernel, by decide +kernel, ⟨wdX11_118, wdX11_31, wdX11_37, wdX11_236, trivial⟩⟩
theorem hhX11_takers : ∀ q ∈ csX11_takers, xHd q.1 := xall1 hX11_isTaken (xall0)
theorem kkX11_takers : ∀ q ∈ csX11_takers, ∀ l, xCon l q.1 q.2 := xall1 kX11_isTaken (xall0)
def sX11_takers : xSpec := xReg fun as I L Q => ∃ (d : PD) (X c x : Nat), as = [.ref 27, .int (nI x)] ∧ pdR d I ∧ nwR d X c (I 37) ∧ x < 16 ∧ Q (some (.int (nI (bsN (fun i => wtB d X i x) d.nA)))) I L
set_option maxRecDepth 100000 in
theorem kX11_takers : ∀ l, xCon l mX11_takers sX11_takers := by
  refine xcon_of okX11_takers hX11_takers rfl (by decide) hhX11_takers kkX11_takers ?_
  rintro as n0 I L P Q ⟨rfl, rfl, d, X, c, x, rfl, hP, hN, hx, hQ⟩
  refine ⟨Nat.le_of_ble_eq_true rfl, ?_⟩
  have ha := hP.a
  have h4 := hP.ok.a4
  refine xrun okX11_takers hhX11_takers [(4, [true, true, true, true])] 20 ?_
  refine xlp (M := mX11_takers) (cs := csX11_takers) (pc := 4) d.nA (fun i => [some (.ref 27), some (.int (nI x)), some (.int (nI (bsN (fun i => wtB d X i x) i))), some (.int (nI i))]) (fun _ => I) (fun _ => L) ?_ ?_
  · intro i hi ih
    refine xrun okX11_takers hhX11_takers [(4, [true, true, true, true])] 60 ?_
    (first | (refine xbr_f ?_ ?_; (focus ((simp (disch := omega) only [ix_lt, ix_le, ix_eq, ix_0, nI_clamp, nI_toInt, ng_T, nI_add, nI_mul, nI_sub', Int.neg_zero, not_false_eq_true, not_true_eq_false, ha] <;> omega); done))) | (refine xbr_t ?_ ?_; (focus ((simp (disch := omega) only [ix_lt, ix_le, ix_eq, ix_0, nI_clamp, nI_toInt, ng_T, nI_add, nI_mul, nI_sub', Int.neg_zero, not_false_eq_true, not_true_eq_false, ha] <;> omega); done))) | refine ⟨Or.inl rfl, ?_⟩ | refine ⟨Or.inr rfl, ?_⟩ | (refine ⟨?_, ?_⟩; (focus ((try simp (disch := omega) only [ha, nI_mul, nI_add, nI_sub']); exact in_nI (by omega) (by omega)))))
    repeat (first | (refine xbr_f ?_ ?_; (focus ((simp (disch := omega) only [ix_lt, ix_le, ix_eq, ix_0, nI_clamp, nI_toInt, ng_T, nI_add, nI_mul, nI_sub', Int.neg_zero, not_false_eq_true, not_true_eq_false, nI_add] <;> omega); done))) | (refine xbr_t ?_ ?_; (focus ((simp (disch := omega) only [ix_lt, ix_le, ix_eq, ix_0, nI_clamp, nI_toInt, ng_T, nI_add, nI_mul, nI_sub', Int.neg_zero, not_false_eq_true, not_true_eq_false, nI_add] <;> omega); done))) | refine ⟨Or.inl rfl, ?_⟩ | refine ⟨Or.inr rfl, ?_⟩ | (refine ⟨?_, ?_⟩; (focus ((try simp (disch := omega) only [nI_add, nI_mul, nI_add, nI_sub']); exact in_nI (by omega) (by omega)))))
    refine ⟨rfl, rfl, kdN d i, meN X i, x, ?_, kdN_8 _ _, meN_16 _ _, hx, ?_⟩
    · simp (disch := omega) only [hP.k i hi, hN.m hi, nI_mul, nI_add, nI_clamp, nI_sub']
    have e : wtN (kdN d i) (meN X i) x = wtB d X i x := rfl
    rw [e]
    cases hb : wtB d X i x <;> (
      (first | refine xbr_t (by decide) ?_ | refine xbr_f (by decide) ?_)
      refine xgo_eq ih ?_ rfl rfl
      ((repeat' (first | (with_reducible rfl) | exact xv_nil | refine xv_cons ?_ ?_ | refine xv_i ?_ | refine xv_l ?_)) <;> (simp (disch := omega) only [↓reduceIte, Bool.false_eq_true, Nat.one_mul, Nat.zero_mul, Nat.or_zero, Nat.add_zero, Nat.zero_add, Bool.toNat_true, Bool.toNat_false, shl_n, shr_n, fa_and, fa_or, nx_xor, nI_add, nI_mul, nI_sub', and_1, and_7, and_3', and_15, bsN, hb])))
  · refine xrun okX11_takers hhX11_takers [] 60 ?_
    repeat (first | (refine xbr_f ?_ ?_; (focus ((simp (disch := omega) only [ix_lt, ix_le, ix_eq, ix_0, nI_clamp, nI_toInt, ng_T, nI_add, nI_mul, nI_sub', Int.neg_zero, not_false_eq_true, not_true_eq_false, ha] <;> omega); done))) | (refine xbr_t ?_ ?_; (focus ((simp (disch := omega) only [ix_lt, ix_le, ix_eq, ix_0, nI_clamp, nI_toInt, ng_T, nI_add, nI_mul, nI_sub', Int.neg_zero, not_false_eq_true, not_true_eq_false, ha] <;> omega); done))) | refine ⟨Or.inl rfl, ?_⟩ | refine ⟨Or.inr rfl, ?_⟩ | (refine ⟨?_, ?_⟩; (focus ((try simp (disch := omega) only [ha, nI_mul, nI_add, nI_sub']); exact in_nI (by omega) (by omega)))))
    exact hQ
def csX11_who : xCs := [(mX11_isMarks, sX11_isMarks), (mX11_takers, sX11_takers)]
theorem okX11_who : xOkM mX11_who csX11_who := ⟨dX11_who, by decide +kernel, by decide +kernel, ⟨wdX11_233, wdX11_240, trivial⟩⟩
theorem hhX11_who : ∀ q ∈ csX11_who, xHd q.1 := xall1 hX11_isMarks (xall1 hX11_takers (xall0))
theorem kkX11_who : ∀ q ∈ csX11_who, ∀ l, xCon l q.1 q.2 := xall1 kX11_isMarks (xall1 kX11_takers (xall0))
def sX11_who : xSpec := xReg fun as I L Q => ∃ (S : ST) (w o : Int32) (S' : ST), as = [.ref 27, .int w] ∧ whoR S w o S' ∧ Ref S I L ∧ (∀ I' L', frM I L I' L' → Ref S' I' L' → Q (some (.int o)) I' L')
set_option maxRecDepth 100000 in
theorem kX11_who : ∀ l, xCon l mX11_who sX11_who := by
  refine xcon_of okX11_who hX11_who rfl (by decide) hhX11_who kkX11_who ?_
  rintro as n0 I L P Q ⟨rfl, rfl, S, w, o, S', rfl, hR, hC, hQ⟩
  refine ⟨Nat.le_of_ble_eq_true rfl, ?_⟩
  refine xrun okX11_who hhX11_who [] 60 ?_
  refine ⟨rfl, rfl, w, rfl, ?_⟩
  rcases hR with ⟨h, rfl, rfl⟩ | ⟨m, rfl, hm, rfl, rfl⟩
  · obtain ⟨S, rfl⟩ : ∃ S, S = S' := ⟨S', rfl⟩
    rw [h]
    (first | refine xbr_t (by decide) ?_ | refine xbr_f (by decide) ?_)
    exact hQ _ _ (frM_0 _ _) hC
  · obtain ⟨S, rfl⟩ : ∃ S, S = S' := ⟨S', rfl⟩
    rw [ib_tt hm (by decide)]
    (first | refine xbr_t (by decide) ?_ | refine xbr_f (by decide) ?_)
    exact ⟨rfl, rfl, S.d, S.D.X, _, m, rfl, hC.pd, hC.nw, hm, hQ _ _ (frM_0 _ _) hC⟩
