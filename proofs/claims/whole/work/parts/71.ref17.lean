/-! THE REFERENCE, 17: a text read; faults; plains -/
theorem skN_100 {v : Nat → Int32} {n p : Nat} (hp : p ≤ 100) (hn : n ≤ 60) : skN v n 60 p ≤ 100 := by
  by_cases h : p ≤ n
  · have := skN_le v n 60 p h
    omega
  · have hc : ¬ sgN v n p = nI 32 := fun q => by
      have := sg_lt q (by decide)
      omega
    rw [sk_s _ hc]
    exact hp
theorem it_sp {v : Nat → Int32} {n : Nat} {q : RS} (h : (itN v n q).2 = true) : q.sp + 1 ≤ (itN v n q).1.sp := by
  unfold itN at *
  by_cases hc : sgN v n q.sp = nI 108
  · rw [if_pos hc] at h ⊢
    unfold rlN at *
    by_cases h1 : q.d.nA = 0 ∨ q.d.nL = 5
    · rw [if_pos h1] at h
      cases h
    · rw [if_neg h1] at h ⊢
      by_cases h2 : (stN v n (q.sp + 1)).2 = 0
      · rw [if_pos h2] at h
        cases h
      · rw [if_neg h2] at h ⊢
        by_cases h3 : fgN v n (q.sp + 3) 4 = 0
        · rw [if_pos h3] at h
          cases h
        · rw [if_neg h3] at h ⊢
          by_cases h4 : fgN v n (q.sp + 4) 4 = 0
          · rw [if_pos h4] at h
            cases h
          · rw [if_neg h4]
            show q.sp + 1 ≤ q.sp + 5
            omega
  · rw [if_neg hc] at h ⊢
    unfold raN at *
    by_cases h1 : blN (sgN v n q.sp) = 0 ∨ q.d.nA = 4 ∨ 0 < q.d.nL
    · rw [if_pos h1] at h
      cases h
    · rw [if_neg h1] at h ⊢
      by_cases h2 : (stN v n (q.sp + 1)).2 = 0
      · rw [if_pos h2] at h
        cases h
      · rw [if_neg h2] at h ⊢
        by_cases h3 : fgN v n (q.sp + 3) 4 = 0
        · rw [if_pos h3] at h
          cases h
        · rw [if_neg h3]
          show q.sp + 1 ≤ q.sp + 4
          omega
theorem ri_it (v : Nat → Int32) (n f : Nat) (q : RS) : riN v n (f + 1) q = if n ≤ skN v n 60 q.sp then (mkR (skN v n 60 q.sp) q.X q.d, decide (0 < q.d.nL)) else if (itN v n (mkR (skN v n 60 q.sp) q.X q.d)).2 then riN v n f (itN v n (mkR (skN v n 60 q.sp) q.X q.d)).1 else itN v n (mkR (skN v n 60 q.sp) q.X q.d) := by
  rw [riN_s]
  by_cases h1 : n ≤ skN v n 60 q.sp
  · rw [if_pos h1, if_pos h1]
  · rw [if_neg h1, if_neg h1]
    by_cases hc : sgN v n (skN v n 60 q.sp) = nI 108
    · have e : itN v n (mkR (skN v n 60 q.sp) q.X q.d) = rlN v n (mkR (skN v n 60 q.sp) q.X q.d) := if_pos hc
      rw [if_pos hc, e]
    · have e : itN v n (mkR (skN v n 60 q.sp) q.X q.d) = raN v n (mkR (skN v n 60 q.sp) q.X q.d) := if_neg hc
      rw [if_neg hc, e]
theorem rd_ad {q : RS} {K d : Nat} (hR : q.d.R < 2 ^ (3 * K)) (hd : d < 8) (i : Nat) : rdN (adR q.d K d) i = if i = K then d else rdN q.d i := or3_get hR hd
theorem sk_ge (v : Nat → Int32) (n : Nat) : ∀ f p, p ≤ skN v n f p
  | 0, p => Nat.le_refl p
  | f + 1, p => by
    show p ≤ (if sgN v n p = nI 32 then skN v n f (p + 1) else p)
    split
    · have := sk_ge v n f (p + 1)
      omega
    · exact Nat.le_refl p
def WR (v : Nat → Int32) (n t k : Nat) (J : xI) : Prop := (∃ r, sgN v n (skN v n 60 0) = nI 110 ∧ rgN v n (mkR (skN v n 60 0 + 1) 0 (mkP 0 0 0 0 0)) k = (r, true) ∧ r.d.nA = 0 ∧ r.d.nL = 0 ∧ stA v n t k r J) ∨ (∃ e p, rrW v n t J ∧ p ≤ 70 + k ∧ J 27 19 = nI p ∧ J 27 20 = nI e ∧ e ≤ n ∧ (rrN v n r0).2 = false ∧ (rrN v n r0).1.sp = e)
def csX11_reads : xCs := [(mX11_skips, sX11_skips), (mX11_byteAt, sX11_byteAt), (mX11_faults, sX11_faults), (mX11_figure, sX11_figure), (mX11_readItem, sX11_readItem)]
theorem okX11_reads : xOkM mX11_reads csX11_reads := ⟨dX11_reads, by decide +kernel, by decide +kernel, ⟨wdX11_19, ⟨wdX11_155, fun h => Bool.noConfusion h⟩, ⟨wdX11_158, fun h => Bool.noConfusion h⟩, ⟨wdX11_161, fun h => Bool.noConfusion h⟩, ⟨wdX11_167, fun h => Bool.noConfusion h⟩, wdX11_43, wdX11_43, wdX11_190, wdX11_161, wdX11_164, wdX11_161, wdX11_170, wdX11_161, ⟨wdX11_161, fun h => Bool.noConfusion h⟩, wdX11_43, wdX11_174, wdX11_190, wdX11_167, wdX11_161, wdX11_155, wdX11_193, wdX11_190, wdX11_167, wdX11_43, wdX11_155, wdX11_170, wdX11_167, wdX11_167, wdX11_155, wdX11_167, wdX11_155, trivial⟩⟩
theorem hhX11_reads : ∀ q ∈ csX11_reads, xHd q.1 := xall1 hX11_skips (xall1 hX11_byteAt (xall1 hX11_faults (xall1 hX11_figure (xall1 hX11_readItem (xall0)))))
theorem kkX11_reads : ∀ q ∈ csX11_reads, ∀ l, xCon l q.1 q.2 := xall1 kX11_skips (xall1 kX11_byteAt (xall1 kX11_faults (xall1 kX11_figure (xall1 kX11_readItem (xall0)))))
def sX11_reads : xSpec := xReg fun as I L Q => ∃ (v : Nat → Int32) (n t : Nat), as = [.ref 27, .int (nI t)] ∧ t < 4 ∧ n ≤ 60 ∧ I 31 t = nI n ∧ (∀ k, k < n → I 32 (60 * t + k) = v k) ∧ (∀ I', scr I L I' L → ((rdF v n).2 = true → rdM (rdF v n).1 5 (I' 39)) → (rdF v n).1.sp ≤ n → Q (some (.int (if (rdF v n).2 then -(nI 9) else nI (rdF v n).1.sp))) I' L)
set_option maxRecDepth 100000 in
theorem kX11_reads : ∀ l, xCon l mX11_reads sX11_reads := by
  refine xcon_of okX11_reads hX11_reads rfl (by decide) hhX11_reads kkX11_reads ?_
  rintro as n0 I L P Q ⟨rfl, rfl, v, n, t, rfl, ht, h60, hz, hv, hQ⟩
  refine ⟨Nat.le_of_ble_eq_true rfl, ?_⟩
  have hrd : rdF v n = if (rrN v n r0).2 then riN v n 61 (rrN v n r0).1 else rrN v n r0 := rfl
  -- the ends, from the loop's head
  have finB : ∀ I' e, scr I L I' L → stB v n t e I' → (rdF v n).2 = false → (rdF v n).1.sp = e → xGo mX11_reads csX11_reads 107 Q [some (.ref 27), some (.int (nI t)), none] [] 0 xN I' L xP0 := by
    intro I' e hs hB f1 f2
    obtain ⟨hW, ⟨p, hp, h19⟩, h20, hen⟩ := hB
    have h17 := hW.1
    have hq := hQ I' hs (fun q => by rw [f1] at q; cases q) (by omega)
    rw [f1, if_neg (by decide), f2] at hq
    refine xrun okX11_reads hhX11_reads [] 60 ?_
    by_cases hlt : e < n
    · repeat (first | (refine xbr_f ?_ ?_; (focus ((simp (disch := omega) only [ix_lt, ix_le, ix_eq, ix_0, nI_clamp, nI_toInt, ng_T, nI_add, nI_mul, nI_sub', Int.neg_zero, not_false_eq_true, not_true_eq_false, h20, h17] <;> omega); done))) | (refine xbr_t ?_ ?_; (focus ((simp (disch := omega) only [ix_lt, ix_le, ix_eq, ix_0, nI_clamp, nI_toInt, ng_T, nI_add, nI_mul, nI_sub', Int.neg_zero, not_false_eq_true, not_true_eq_false, h20, h17] <;> omega); done))) | refine ⟨Or.inl rfl, ?_⟩ | refine ⟨Or.inr rfl, ?_⟩ | (refine ⟨?_, ?_⟩; (focus ((try simp (disch := omega) only [h20, h17, nI_mul, nI_add, nI_sub']); exact in_nI (by omega) (by omega)))))
      rw [← h20] at hq
      exact hq
    · repeat (first | (refine xbr_f ?_ ?_; (focus ((simp (disch := omega) only [ix_lt, ix_le, ix_eq, ix_0, nI_clamp, nI_toInt, ng_T, nI_add, nI_mul, nI_sub', Int.neg_zero, not_false_eq_true, not_true_eq_false, h20, h17] <;> omega); done))) | (refine xbr_t ?_ ?_; (focus ((simp (disch := omega) only [ix_lt, ix_le, ix_eq, ix_0, nI_clamp, nI_toInt, ng_T, nI_add, nI_mul, nI_sub', Int.neg_zero, not_false_eq_true, not_true_eq_false, h20, h17] <;> omega); done))) | refine ⟨Or.inl rfl, ?_⟩ | refine ⟨Or.inr rfl, ?_⟩ | (refine ⟨?_, ?_⟩; (focus ((try simp (disch := omega) only [h20, h17, nI_mul, nI_add, nI_sub']); exact in_nI (by omega) (by omega)))))
      have en : e = n := by omega
      rw [en, ← h17] at hq
      exact hq
  have loop : ∀ f q I', scr I L I' L → stA v n t 5 (mkR (skN v n 60 q.sp) q.X q.d) I' → riN v n f q = rdF v n → q.sp ≤ n → 61 ≤ q.sp + f → xGo mX11_reads csX11_reads 107 Q [some (.ref 27), some (.int (nI t)), none] [] 0 xN I' L xP0 := by
    intro f
    induction f with
    | zero =>
      intro q I' _ _ _ h1 h2
      omega
    | succ f ih =>
      intro q I' hs hA e h1 h2
      have hA' := hA
      obtain ⟨hW, h19, h20, hM, hok, hsn⟩ := hA
      have h17 := hW.1
      have h19 : I' 27 19 = nI (skN v n 60 q.sp) := h19
      have hL : I' 39 1 = nI q.d.nL := hM.2.1
      have h5 : q.d.nL ≤ 5 := hok.2.2.1
      rw [ri_it] at e
      by_cases hn : n ≤ skN v n 60 q.sp
      · rw [if_pos hn] at e
        have hsn2 : skN v n 60 q.sp ≤ n := hsn
        refine xrun okX11_reads hhX11_reads [] 90 ?_
        by_cases h0 : q.d.nL = 0
        · have e2 : (rdF v n).2 = false := by rw [← e]; exact decide_eq_false (by omega)
          have e3 : (rdF v n).1.sp = n := by
            rw [← e]
            show skN v n 60 q.sp = n
            omega
          repeat (first | (refine xbr_f ?_ ?_; (focus ((simp (disch := omega) only [ix_lt, ix_le, ix_eq, ix_0, nI_clamp, nI_toInt, ng_T, nI_add, nI_mul, nI_sub', Int.neg_zero, not_false_eq_true, not_true_eq_false, h20, h19, h17, hL, nI_add] <;> omega); done))) | (refine xbr_t ?_ ?_; (focus ((simp (disch := omega) only [ix_lt, ix_le, ix_eq, ix_0, nI_clamp, nI_toInt, ng_T, nI_add, nI_mul, nI_sub', Int.neg_zero, not_false_eq_true, not_true_eq_false, h20, h19, h17, hL, nI_add] <;> omega); done))) | refine ⟨Or.inl rfl, ?_⟩ | refine ⟨Or.inr rfl, ?_⟩ | (refine ⟨?_, ?_⟩; (focus ((try simp (disch := omega) only [h20, h19, h17, hL, nI_add, nI_mul, nI_add, nI_sub']); exact in_nI (by omega) (by omega)))))
          refine ⟨rfl, rfl, n, none, by rw [h17], h20, fun _ q => (by cases q), ?_⟩
          have h20b : xup I' 27 20 (nI n) 27 20 = nI n := rfl
          have h17b : xup I' 27 20 (nI n) 27 17 = nI n := h17
          have hq := hQ (xup I' 27 20 (nI n)) (scr_t hs (scr_27 (k := 20) (by omega) _ _ _)) (fun q => by rw [e2] at q; cases q) (by omega)
          rw [e2, if_neg (by decide), e3] at hq
          have eN : (Option.none.getD n) = n := rfl
          rw [eN]
          repeat (first | (refine xbr_f ?_ ?_; (focus ((simp (disch := omega) only [ix_lt, ix_le, ix_eq, ix_0, nI_clamp, nI_toInt, ng_T, nI_add, nI_mul, nI_sub', Int.neg_zero, not_false_eq_true, not_true_eq_false, h20b, h17b] <;> omega); done))) | (refine xbr_t ?_ ?_; (focus ((simp (disch := omega) only [ix_lt, ix_le, ix_eq, ix_0, nI_clamp, nI_toInt, ng_T, nI_add, nI_mul, nI_sub', Int.neg_zero, not_false_eq_true, not_true_eq_false, h20b, h17b] <;> omega); done))) | refine ⟨Or.inl rfl, ?_⟩ | refine ⟨Or.inr rfl, ?_⟩ | (refine ⟨?_, ?_⟩; (focus ((try simp (disch := omega) only [h20b, h17b, nI_mul, nI_add, nI_sub']); exact in_nI (by omega) (by omega)))))
          rw [show (some (Value.int (nI n)) : Option Value) = some (Value.int (xup I' 27 20 (nI n) 27 17)) from by rw [h17b]] at hq
          exact hq
        · have e2 : (rdF v n).2 = true := by rw [← e]; exact decide_eq_true (by omega)
          have e3 : (rdF v n).1 = mkR (skN v n 60 q.sp) q.X q.d := by rw [← e]
          have hq := hQ I' hs (fun _ => by rw [e3]; exact hM) (by rw [e3]; exact hsn)
          rw [e2, if_pos rfl] at hq
          repeat (first | (refine xbr_f ?_ ?_; (focus ((simp (disch := omega) only [ix_lt, ix_le, ix_eq, ix_0, nI_clamp, nI_toInt, ng_T, nI_add, nI_mul, nI_sub', Int.neg_zero, not_false_eq_true, not_true_eq_false, h20, h19, h17, hL, nI_add] <;> omega); done))) | (refine xbr_t ?_ ?_; (focus ((simp (disch := omega) only [ix_lt, ix_le, ix_eq, ix_0, nI_clamp, nI_toInt, ng_T, nI_add, nI_mul, nI_sub', Int.neg_zero, not_false_eq_true, not_true_eq_false, h20, h19, h17, hL, nI_add] <;> omega); done))) | refine ⟨Or.inl rfl, ?_⟩ | refine ⟨Or.inr rfl, ?_⟩ | (refine ⟨?_, ?_⟩; (focus ((try simp (disch := omega) only [h20, h19, h17, hL, nI_add, nI_mul, nI_add, nI_sub']); exact in_nI (by omega) (by omega)))))
          exact hq
      · rw [if_neg hn] at e
        refine xrun okX11_reads hhX11_reads [(107, [true, true, false])] 60 ?_
        repeat (first | (refine xbr_f ?_ ?_; (focus ((simp (disch := omega) only [ix_lt, ix_le, ix_eq, ix_0, nI_clamp, nI_toInt, ng_T, nI_add, nI_mul, nI_sub', Int.neg_zero, not_false_eq_true, not_true_eq_false, h20, h19, h17] <;> omega); done))) | (refine xbr_t ?_ ?_; (focus ((simp (disch := omega) only [ix_lt, ix_le, ix_eq, ix_0, nI_clamp, nI_toInt, ng_T, nI_add, nI_mul, nI_sub', Int.neg_zero, not_false_eq_true, not_true_eq_false, h20, h19, h17] <;> omega); done))) | refine ⟨Or.inl rfl, ?_⟩ | refine ⟨Or.inr rfl, ?_⟩ | (refine ⟨?_, ?_⟩; (focus ((try simp (disch := omega) only [h20, h19, h17, nI_mul, nI_add, nI_sub']); exact in_nI (by omega) (by omega)))))
        refine ⟨rfl, rfl, v, n, t, _, rfl, hA', by show skN v n 60 q.sp < n; omega, fun I2 hs2 hR => ?_⟩
        cases hb : (itN v n (mkR (skN v n 60 q.sp) q.X q.d)).2
        · rw [hb, if_neg (by decide)] at e
          obtain ⟨hW2, ⟨p, hp, h19b⟩, h20b, hen⟩ := hR.2 hb
          refine ⟨rfl, rfl, v, n, t, p, rfl, hW2, h19b, hp, ?_⟩
          exact finB _ _ (scr_t (scr_t hs hs2) (scr_27 (k := 19) (by omega) _ _ _)) ⟨hW2, ⟨_, skN_100 hp h60, rfl⟩, h20b, hen⟩ (by rw [← e]; exact hb) (by rw [← e])
        · rw [hb, if_pos rfl] at e
          have hsp : skN v n 60 q.sp + 1 ≤ _ := it_sp hb
          obtain ⟨hW2, h19b, h20b, hM2, hok2, hsn2⟩ := hR.1 hb
          have hge : q.sp ≤ skN v n 60 q.sp := sk_ge v n 60 q.sp
          refine ⟨rfl, rfl, v, n, t, _, rfl, hW2, h19b, by omega, ?_⟩
          exact ih _ _ (scr_t (scr_t hs hs2) (scr_27 (k := 19) (by omega) _ _ _)) ⟨hW2, rfl, h20b, hM2, hok2, skN_le v n 60 _ hsn2⟩ e hsn2 (by omega)
  have hsk := skN_le v n 60 0 (Nat.zero_le n)
  have hrr : rrN v n r0 = if sgN v n (skN v n 60 0) = nI 110 then rgN v n (mkR (skN v n 60 0 + 1) 0 (mkP 0 0 0 0 0)) 5 else (mkR (skN v n 60 0) 0 (mkP 0 0 0 0 0), false) := rfl
  have roads : ∀ J, scr I L J L → WR v n t 0 J → xGo mX11_reads csX11_reads 79 Q [some (.ref 27), some (.int (nI t)), some (.int (nI 0))] [] 0 xN J L xP0 := by
    intro J hJ h0
    refine xlpW (M := mX11_reads) (cs := csX11_reads) (pc := 79) 5 (fun k => [some (.ref 27), some (.int (nI t)), some (.int (nI k))]) (fun k I' L' => L = L' ∧ scr I L I' L ∧ WR v n t k I') ?_ ?_ ⟨rfl, hJ, h0⟩
    · rintro k hk I2 L2 ⟨rfl, hs, hWR⟩ ih
      refine xrun okX11_reads hhX11_reads [(79, [true, true, true])] 60 ?_
      (first | (refine xbr_f ?_ ?_; (focus ((simp (disch := omega) only [ix_lt, ix_le, ix_eq, ix_0, nI_clamp, nI_toInt, ng_T, nI_add, nI_mul, nI_sub', Int.neg_zero, not_false_eq_true, not_true_eq_false] <;> omega); done))) | (refine xbr_t ?_ ?_; (focus ((simp (disch := omega) only [ix_lt, ix_le, ix_eq, ix_0, nI_clamp, nI_toInt, ng_T, nI_add, nI_mul, nI_sub', Int.neg_zero, not_false_eq_true, not_true_eq_false] <;> omega); done))) | refine ⟨Or.inl rfl, ?_⟩ | refine ⟨Or.inr rfl, ?_⟩ | (refine ⟨?_, ?_⟩; (focus (exact in_nI (by omega) (by omega)))))
      rcases hWR with ⟨r, h110, hr, hnA, hnL, hW, h19, h20, hM, hok, hsn⟩ | ⟨e, p, hW, hp, h19, h20, hen, f1, f2⟩
      · have hs2 := rgN_s v n (mkR (skN v n 60 0 + 1) 0 (mkP 0 0 0 0 0)) k
        rw [hr, if_neg (by simp)] at hs2
        have ok2 := rgN_ok (v := v) (n := n) (qOk_0 (skN v n 60 0 + 1)) rfl (k + 1) (by omega)
        have ok1 := (rgN_ok (v := v) (n := n) (qOk_0 (skN v n 60 0 + 1)) rfl k (by omega)).2
        rw [hr] at ok1
        have hR := ok1 rfl
        rw [if_pos h110] at hrr
        refine ⟨rfl, rfl, v, n, t, r.sp, 4, none, rfl, by decide, hW, h19, by omega, h20, fun _ q => (by cases q), ?_⟩
        (first | (refine xbr_f ?_ ?_; (focus ((simp (disch := omega) only [ix_lt, ix_le, ix_eq, ix_0, nI_clamp, nI_toInt, ng_T, nI_add, nI_mul, nI_sub', Int.neg_zero, not_false_eq_true, not_true_eq_false, nI_add] <;> omega); done))) | (refine xbr_t ?_ ?_; (focus ((simp (disch := omega) only [ix_lt, ix_le, ix_eq, ix_0, nI_clamp, nI_toInt, ng_T, nI_add, nI_mul, nI_sub', Int.neg_zero, not_false_eq_true, not_true_eq_false, nI_add] <;> omega); done))) | refine ⟨Or.inl rfl, ?_⟩ | refine ⟨Or.inr rfl, ?_⟩ | (refine ⟨?_, ?_⟩; (focus ((try simp (disch := omega) only [nI_add, nI_mul, nI_add, nI_sub']); exact in_nI (by omega) (by omega)))))
        simp (disch := omega) only [nI_mul, nI_add, nI_clamp, nI_sub']
        refine xgo_eq (ih _ _ ⟨rfl, scr_t hs (scr_t (scr_27 (k := 20) (by omega) _ _ _) (scr_t (scr_27 (k := 19) (by omega) _ _ _) (scr_39 _ _ _ _))), ?_⟩) ?_ rfl rfl
        · by_cases g0 : fgN v n r.sp 4 = 0
          · have ew : fgW none (fgN v n r.sp 4) r.sp = some r.sp := if_pos g0
            have hs3 : rgN v n (mkR (skN v n 60 0 + 1) 0 (mkP 0 0 0 0 0)) (k + 1) = (r, false) := by
              rw [hs2]
              exact if_pos g0
            have hall := rgN_f hs3 (5 - (k + 1))
            rw [show k + 1 + (5 - (k + 1)) = 5 by omega] at hall
            rw [hall] at hrr
            rw [ew]
            exact Or.inr ⟨r.sp, r.sp + 1, hW, by omega, rfl, rfl, hsn, by rw [hrr], by rw [hrr]⟩
          · have ew : fgW none (fgN v n r.sp 4) r.sp = none := if_neg g0
            obtain ⟨d, hd⟩ : ∃ d, fgN v n r.sp 4 = d + 1 := ⟨fgN v n r.sp 4 - 1, by omega⟩
            have hd5 := fgN_le v n r.sp (hi := 4) (by decide)
            obtain ⟨b1, b2⟩ := bt_fg (by decide) hd
            have hs3 : rgN v n (mkR (skN v n 60 0 + 1) 0 (mkP 0 0 0 0 0)) (k + 1) = (mkR (r.sp + 1) r.X (adR r.d k d), true) := by
              rw [hs2]
              show (if fgN v n r.sp 4 = 0 then (r, false) else (mkR (r.sp + 1) r.X (adR r.d k (fgN v n r.sp 4 - 1)), true)) = _
              rw [if_neg g0, hd]
              rfl
            rw [hs3] at ok2
            rw [ew, b1]
            refine Or.inl ⟨_, h110, hs3, hnA, hnL, hW, rfl, rfl, ⟨?_, ?_, fun j hj => ?_, fun i hi => ?_, fun l hl => ?_⟩, ok2.1, b2⟩
            · show (if 0 = 2 + k then nI d else I2 39 0) = nI r.d.nA
              rw [if_neg (by omega)]
              exact hM.1
            · show (if 1 = 2 + k then nI d else I2 39 1) = nI r.d.nL
              rw [if_neg (by omega)]
              exact hM.2.1
            · show (if 2 + j = 2 + k then nI d else I2 39 (2 + j)) = nI (rdN (adR r.d k d) j)
              rw [rd_ad hR (by omega)]
              by_cases e : j = k
              · rw [if_pos e, if_pos (by omega)]
              · rw [if_neg e, if_neg (by omega)]
                exact hM.2.2.1 j (by omega)
            · have : i < r.d.nA := hi
              omega
            · have : l < r.d.nL := hl
              omega
        · ((repeat' (first | (with_reducible rfl) | exact xv_nil | refine xv_cons ?_ ?_ | refine xv_i ?_ | refine xv_l ?_)) <;> (simp (disch := omega) only [↓reduceIte, Bool.false_eq_true, Nat.one_mul, Nat.zero_mul, Nat.or_zero, Nat.add_zero, Nat.zero_add, Bool.toNat_true, Bool.toNat_false, shl_n, shr_n, fa_and, fa_or, nx_xor, nI_add, nI_mul, nI_sub', and_1, and_7, and_3', and_15]))
      · refine ⟨rfl, rfl, v, n, t, p, 4, some e, rfl, by decide, hW, h19, by omega, h20, fun e' q => (by cases q; omega), ?_⟩
        (first | (refine xbr_f ?_ ?_; (focus ((simp (disch := omega) only [ix_lt, ix_le, ix_eq, ix_0, nI_clamp, nI_toInt, ng_T, nI_add, nI_mul, nI_sub', Int.neg_zero, not_false_eq_true, not_true_eq_false, nI_add] <;> omega); done))) | (refine xbr_t ?_ ?_; (focus ((simp (disch := omega) only [ix_lt, ix_le, ix_eq, ix_0, nI_clamp, nI_toInt, ng_T, nI_add, nI_mul, nI_sub', Int.neg_zero, not_false_eq_true, not_true_eq_false, nI_add] <;> omega); done))) | refine ⟨Or.inl rfl, ?_⟩ | refine ⟨Or.inr rfl, ?_⟩ | (refine ⟨?_, ?_⟩; (focus ((try simp (disch := omega) only [nI_add, nI_mul, nI_add, nI_sub']); exact in_nI (by omega) (by omega)))))
        simp (disch := omega) only [nI_mul, nI_add, nI_clamp, nI_sub']
        refine xgo_eq (ih _ _ ⟨rfl, scr_t hs (scr_t (scr_27 (k := 20) (by omega) _ _ _) (scr_t (scr_27 (k := 19) (by omega) _ _ _) (scr_39 _ _ _ _))), Or.inr ⟨e, p + 1, hW, by omega, rfl, rfl, hen, f1, f2⟩⟩) ?_ rfl rfl
        ((repeat' (first | (with_reducible rfl) | exact xv_nil | refine xv_cons ?_ ?_ | refine xv_i ?_ | refine xv_l ?_)) <;> (simp (disch := omega) only [↓reduceIte, Bool.false_eq_true, Nat.one_mul, Nat.zero_mul, Nat.or_zero, Nat.add_zero, Nat.zero_add, Bool.toNat_true, Bool.toNat_false, shl_n, shr_n, fa_and, fa_or, nx_xor, nI_add, nI_mul, nI_sub', and_1, and_7, and_3', and_15]))
    · rintro I2 L2 ⟨rfl, hs, hWR⟩
      refine xrun okX11_reads hhX11_reads [(107, [true, true, false])] 60 ?_
      (first | (refine xbr_f ?_ ?_; (focus ((simp (disch := omega) only [ix_lt, ix_le, ix_eq, ix_0, nI_clamp, nI_toInt, ng_T, nI_add, nI_mul, nI_sub', Int.neg_zero, not_false_eq_true, not_true_eq_false] <;> omega); done))) | (refine xbr_t ?_ ?_; (focus ((simp (disch := omega) only [ix_lt, ix_le, ix_eq, ix_0, nI_clamp, nI_toInt, ng_T, nI_add, nI_mul, nI_sub', Int.neg_zero, not_false_eq_true, not_true_eq_false] <;> omega); done))) | refine ⟨Or.inl rfl, ?_⟩ | refine ⟨Or.inr rfl, ?_⟩ | (refine ⟨?_, ?_⟩; (focus (exact in_nI (by omega) (by omega)))))
      rcases hWR with ⟨r, h110, hr, hnA, hnL, hW, h19, h20, hM, hok, hsn⟩ | ⟨e, p, hW, hp, h19, h20, hen, f1, f2⟩
      · rw [if_pos h110, hr] at hrr
        refine ⟨rfl, rfl, v, n, t, r.sp, rfl, hW, h19, by omega, ?_⟩
        refine loop 61 r _ (scr_t hs (scr_27 (k := 19) (by omega) _ _ _)) ⟨hW, rfl, h20, hM, hok, skN_le v n 60 _ hsn⟩ ?_ hsn (by omega)
        rw [hrd, hrr, if_pos rfl]
      · refine ⟨rfl, rfl, v, n, t, p, rfl, hW, h19, by omega, ?_⟩
        have hrd2 : rdF v n = rrN v n r0 := by rw [hrd, f1, if_neg (by decide)]
        exact finB _ e (scr_t hs (scr_27 (k := 19) (by omega) _ _ _)) ⟨hW, ⟨_, skN_100 (by omega) h60, rfl⟩, h20, hen⟩ (by rw [hrd2]; exact f1) (by rw [hrd2]; exact f2)
  refine xrun okX11_reads hhX11_reads [(79, [true, true, true])] 90 ?_
  (first | (refine xbr_f ?_ ?_; (focus ((simp (disch := omega) only [ix_lt, ix_le, ix_eq, ix_0, nI_clamp, nI_toInt, ng_T, nI_add, nI_mul, nI_sub', Int.neg_zero, not_false_eq_true, not_true_eq_false, nI_add] <;> omega); done))) | (refine xbr_t ?_ ?_; (focus ((simp (disch := omega) only [ix_lt, ix_le, ix_eq, ix_0, nI_clamp, nI_toInt, ng_T, nI_add, nI_mul, nI_sub', Int.neg_zero, not_false_eq_true, not_true_eq_false, nI_add] <;> omega); done))) | refine ⟨Or.inl rfl, ?_⟩ | refine ⟨Or.inr rfl, ?_⟩ | (refine ⟨?_, ?_⟩; (focus ((try simp (disch := omega) only [nI_add, nI_mul, nI_add, nI_sub']); exact in_nI (by omega) (by omega)))))
  (first | (refine xbr_f ?_ ?_; (focus ((simp (disch := omega) only [ix_lt, ix_le, ix_eq, ix_0, nI_clamp, nI_toInt, ng_T, nI_add, nI_mul, nI_sub', Int.neg_zero, not_false_eq_true, not_true_eq_false, nI_add] <;> omega); done))) | (refine xbr_t ?_ ?_; (focus ((simp (disch := omega) only [ix_lt, ix_le, ix_eq, ix_0, nI_clamp, nI_toInt, ng_T, nI_add, nI_mul, nI_sub', Int.neg_zero, not_false_eq_true, not_true_eq_false, nI_add] <;> omega); done))) | refine ⟨Or.inl rfl, ?_⟩ | refine ⟨Or.inr rfl, ?_⟩ | (refine ⟨?_, ?_⟩; (focus ((try simp (disch := omega) only [nI_add, nI_mul, nI_add, nI_sub']); exact in_nI (by omega) (by omega)))))
  (first | (refine xbr_f ?_ ?_; (focus ((simp (disch := omega) only [ix_lt, ix_le, ix_eq, ix_0, nI_clamp, nI_toInt, ng_T, nI_add, nI_mul, nI_sub', Int.neg_zero, not_false_eq_true, not_true_eq_false, nI_add] <;> omega); done))) | (refine xbr_t ?_ ?_; (focus ((simp (disch := omega) only [ix_lt, ix_le, ix_eq, ix_0, nI_clamp, nI_toInt, ng_T, nI_add, nI_mul, nI_sub', Int.neg_zero, not_false_eq_true, not_true_eq_false, nI_add] <;> omega); done))) | refine ⟨Or.inl rfl, ?_⟩ | refine ⟨Or.inr rfl, ?_⟩ | (refine ⟨?_, ?_⟩; (focus ((try simp (disch := omega) only [nI_add, nI_mul, nI_add, nI_sub']); exact in_nI (by omega) (by omega)))))
  simp (disch := omega) only [hz, nI_mul, nI_add, nI_clamp, nI_sub']
  refine ⟨rfl, rfl, v, n, t, 0, rfl, ⟨rfl, h60, rfl, ht, hv⟩, rfl, by omega, ?_⟩
  refine ⟨rfl, rfl, v, n, t, skN v n 60 0, rfl, ⟨rfl, h60, rfl, ht, hv⟩, by omega, ?_⟩
  by_cases hc : sgN v n (skN v n 60 0) = nI 110
  · have hb := (bt_eq (v := v) (n := n) (p := skN v n 60 0) (c := 110) (by decide)).mpr hc
    have hlt := sg_lt hc (by decide)
    (first | refine xbr_t hb ?_ | refine xbr_f hb ?_)
    refine xgo_eq (roads _ ?_ ?_) rfl rfl rfl
    · exact scr_t (scr_27 (k := 17) (by omega) _ _ _) (scr_t (scr_27 (k := 18) (by omega) _ _ _) (scr_t (scr_27 (k := 19) (by omega) _ _ _) (scr_t (scr_27 (k := 20) (by omega) _ _ _) (scr_t (scr_39 _ _ _ _) (scr_t (scr_39 _ _ _ _) (scr_t (scr_27 (k := 19) (by omega) _ _ _) (scr_27 (k := 19) (by omega) _ _ _)))))))
    · refine Or.inl ⟨mkR (skN v n 60 0 + 1) 0 (mkP 0 0 0 0 0), hc, rfl, rfl, rfl, ⟨rfl, h60, rfl, ht, hv⟩, ?_, rfl, ⟨rfl, rfl, fun k hk => absurd hk (Nat.not_lt_zero _), fun k hk => absurd hk (Nat.not_lt_zero _), fun k hk => absurd hk (Nat.not_lt_zero _)⟩, qOk_0 _, hlt⟩
      show nI (skN v n 60 0) + nI 1 = nI (skN v n 60 0 + 1)
      rw [nI_add]
  · have hb : ¬ btN v n (skN v n 60 0) = nI 110 := fun r => hc ((bt_eq (by decide)).mp r)
    rw [if_neg hc] at hrr
    (first | refine xbr_t hb ?_ | refine xbr_f hb ?_)
    refine ⟨rfl, rfl, skN v n 60 0, none, rfl, rfl, fun _ q => (by cases q), ?_⟩
    refine xgo_eq (roads _ ?_ ?_) rfl rfl rfl
    · exact scr_t (scr_27 (k := 17) (by omega) _ _ _) (scr_t (scr_27 (k := 18) (by omega) _ _ _) (scr_t (scr_27 (k := 19) (by omega) _ _ _) (scr_t (scr_27 (k := 20) (by omega) _ _ _) (scr_t (scr_39 _ _ _ _) (scr_t (scr_39 _ _ _ _) (scr_t (scr_27 (k := 19) (by omega) _ _ _) (scr_t (scr_27 (k := 20) (by omega) _ _ _) (scr_27 (k := 19) (by omega) _ _ _))))))))
    · refine Or.inr ⟨skN v n 60 0, skN v n 60 0 + 1, ⟨rfl, h60, rfl, ht, hv⟩, by omega, ?_, rfl, hsk, by rw [hrr], by rw [hrr]; rfl⟩
      show nI (skN v n 60 0) + nI 1 = nI (skN v n 60 0 + 1)
      rw [nI_add]
def csX11_fault : xCs := [(mX11_isText, sX11_isText), (mX11_finds, sX11_finds), (mX11_reads, sX11_reads)]
theorem okX11_fault : xOkM mX11_fault csX11_fault := ⟨dX11_fault, by decide +kernel, by decide +kernel, ⟨wdX11_115, wdX11_19, wdX11_100, wdX11_196, trivial⟩⟩
theorem hhX11_fault : ∀ q ∈ csX11_fault, xHd q.1 := xall1 hX11_isText (xall1 hX11_finds (xall1 hX11_reads (xall0)))
theorem kkX11_fault : ∀ q ∈ csX11_fault, ∀ l, xCon l q.1 q.2 := xall1 kX11_isText (xall1 kX11_finds (xall1 kX11_reads (xall0)))
def sX11_fault : xSpec := xReg fun as I L Q => ∃ (S : ST) (t o : Int32) (S' : ST), as = [.ref 27, .int t] ∧ faultR S t o S' ∧ Ref S I L ∧ (∀ I' L', frM I L I' L' → Ref S' I' L' → Q (some (.int o)) I' L')
theorem tx_rv {S : ST} {I : xI} {L : xL} (h : Ref S I L) {j n : Nat} (hj : j < 4) (hn : S.tz j = n + 1) : I 31 j = nI n ∧ ∀ k, k < n → I 32 (60 * j + k) = txV S j k := by
  have hz := h.tz hj
  rw [hn, szI_s] at hz
  refine ⟨hz, fun k hk => ?_⟩
  have := h.tv (r := j) (k := k) hj (by omega)
  rw [Nat.mul_comm j 60] at this
  exact this
set_option maxRecDepth 100000 in
theorem kX11_fault : ∀ l, xCon l mX11_fault sX11_fault := by
  refine xcon_of okX11_fault hX11_fault rfl (by decide) hhX11_fault kkX11_fault ?_
  rintro as n0 I L P Q ⟨rfl, rfl, S, t, o, S', rfl, hR, hC, hQ⟩
  refine ⟨Nat.le_of_ble_eq_true rfl, ?_⟩
  refine xrun okX11_fault hhX11_fault [] 60 ?_
  refine ⟨rfl, rfl, t, rfl, ?_⟩
  rcases hR with ⟨h, rfl, rfl⟩ | ⟨j, rfl, hj, hR⟩
  · rw [h]
    (first | refine xbr_t (by decide) ?_ | refine xbr_f (by decide) ?_)
    exact hQ _ _ (frM_0 _ _) hC
  · rw [ib_tt hj (by decide)]
    (first | refine xbr_t (by decide) ?_ | refine xbr_f (by decide) ?_)
    rcases hR with ⟨h0, rfl, rfl⟩ | ⟨n, hn, rfl, rfl⟩
    · have hz := hC.tz hj
      rw [h0, szI_0] at hz
      repeat (first | (refine xbr_f ?_ ?_; (focus ((simp (disch := omega) only [ix_lt, ix_le, ix_eq, ix_0, nI_clamp, nI_toInt, ng_T, nI_add, nI_mul, nI_sub', Int.neg_zero, not_false_eq_true, not_true_eq_false, hz] <;> omega); done))) | (refine xbr_t ?_ ?_; (focus ((simp (disch := omega) only [ix_lt, ix_le, ix_eq, ix_0, nI_clamp, nI_toInt, ng_T, nI_add, nI_mul, nI_sub', Int.neg_zero, not_false_eq_true, not_true_eq_false, hz] <;> omega); done))) | refine ⟨Or.inl rfl, ?_⟩ | refine ⟨Or.inr rfl, ?_⟩ | (refine ⟨?_, ?_⟩; (focus ((try simp (disch := omega) only [hz, nI_mul, nI_add, nI_sub']); exact in_nI (by omega) (by omega)))))
      exact ⟨rfl, rfl, S, 1, rfl, by decide, hC, fun I' hf hC' => hQ _ _ hf hC'⟩
    · obtain ⟨S, rfl⟩ : ∃ S, S = S' := ⟨S', rfl⟩
      obtain ⟨hz, hv⟩ := tx_rv hC hj hn
      have h41 := hC.ok.tz j hj
      repeat (first | (refine xbr_f ?_ ?_; (focus ((simp (disch := omega) only [ix_lt, ix_le, ix_eq, ix_0, nI_clamp, nI_toInt, ng_T, nI_add, nI_mul, nI_sub', Int.neg_zero, not_false_eq_true, not_true_eq_false, hz] <;> omega); done))) | (refine xbr_t ?_ ?_; (focus ((simp (disch := omega) only [ix_lt, ix_le, ix_eq, ix_0, nI_clamp, nI_toInt, ng_T, nI_add, nI_mul, nI_sub', Int.neg_zero, not_false_eq_true, not_true_eq_false, hz] <;> omega); done))) | refine ⟨Or.inl rfl, ?_⟩ | refine ⟨Or.inr rfl, ?_⟩ | (refine ⟨?_, ?_⟩; (focus ((try simp (disch := omega) only [hz, nI_mul, nI_add, nI_sub']); exact in_nI (by omega) (by omega)))))
      exact ⟨rfl, rfl, txV S j, n, j, rfl, hj, by omega, hz, hv, fun I' hs _ _ => hQ _ _ (scr_fr hs) (Ref_s hC hs)⟩
