/-! THE REFERENCE, 16: what it has read -/
def rdM (q : RS) (K : Nat) (f : Nat → Int32) : Prop := f 0 = nI q.d.nA ∧ f 1 = nI q.d.nL ∧ (∀ k, k < K → f (2 + k) = nI (rdN q.d k)) ∧ (∀ i, i < q.d.nA → f (7 + 3 * i) = nI (kdN q.d i) ∧ f (8 + 3 * i) = nI (meN q.X i) ∧ f (9 + 3 * i) = nI (inN q.X i)) ∧ (∀ l, l < q.d.nL → f (19 + 3 * l) = nI (mkN q.X l) ∧ f (20 + 3 * l) = nI (plN q.X l) ∧ f (21 + 3 * l) = nI (hmN q.d l))
def stA (v : Nat → Int32) (n t K : Nat) (q : RS) (I : xI) : Prop := rrW v n t I ∧ I 27 19 = nI q.sp ∧ I 27 20 = -(nI 1) ∧ rdM q K (I 39) ∧ qOk q ∧ q.sp ≤ n
def stB (v : Nat → Int32) (n t e : Nat) (I : xI) : Prop := rrW v n t I ∧ (∃ p, p ≤ 100 ∧ I 27 19 = nI p) ∧ I 27 20 = nI e ∧ e ≤ n
def stR (v : Nat → Int32) (n t : Nat) (r : RS × Bool) (I : xI) : Prop := (r.2 = true → stA v n t 5 r.1 I) ∧ (r.2 = false → stB v n t r.1.sp I)
theorem stR_f {v : Nat → Int32} {n t : Nat} {r : RS} {I : xI} (h : stB v n t r.sp I) : stR v n t (r, false) I := ⟨fun q => (by cases q), fun _ => h⟩
theorem stR_t {v : Nat → Int32} {n t : Nat} {r : RS} {I : xI} (h : stA v n t 5 r I) : stR v n t (r, true) I := ⟨fun _ => h, fun q => (by cases q)⟩
theorem stN_f {v : Nat → Int32} {n p : Nat} (hp : p ≤ n) (h : (stN v n p).2 = 0) : (stN v n p).1 ≤ n := by
  unfold stN at *
  by_cases g1 : fgN v n p 9 = 0
  · rw [if_pos g1]
    exact hp
  · rw [if_neg g1] at h ⊢
    have hlt := fgN_lt g1
    by_cases g2 : fgN v n (p + 1) 9 = 0
    · rw [if_pos g2]
      exact hlt
    · rw [if_neg g2] at h ⊢
      by_cases h16 : 10 * (fgN v n p 9 - 1) + (fgN v n (p + 1) 9 - 1) < 16
      · rw [if_pos h16] at h
        cases h
      · rw [if_neg h16]
        exact hp
theorem stN_t {v : Nat → Int32} {n p : Nat} (h : ¬ (stN v n p).2 = 0) : p + 2 ≤ n ∧ (stN v n p).1 = p + 2 ∧ (stN v n p).2 ≤ 16 := by
  refine ⟨?_, ?_, stN_16 v n p⟩
  · unfold stN at h
    by_cases g1 : fgN v n p 9 = 0
    · rw [if_pos g1] at h
      exact absurd rfl h
    · rw [if_neg g1] at h
      by_cases g2 : fgN v n (p + 1) 9 = 0
      · rw [if_pos g2] at h
        exact absurd rfl h
      · exact fgN_lt g2
  · unfold stN at *
    by_cases g1 : fgN v n p 9 = 0
    · rw [if_pos g1] at h
      exact absurd rfl h
    · rw [if_neg g1] at h ⊢
      by_cases g2 : fgN v n (p + 1) 9 = 0
      · rw [if_pos g2] at h
        exact absurd rfl h
      · rw [if_neg g2] at h ⊢
        by_cases h16 : 10 * (fgN v n p 9 - 1) + (fgN v n (p + 1) 9 - 1) < 16
        · rw [if_pos h16]
        · rw [if_neg h16] at h
          exact absurd rfl h
theorem kd_ad {q : RS} (h : qOk q) {k : Nat} (hk : k < 6) (i : Nat) : kdN (adA q.d k) i = if i = q.d.nA then k else kdN q.d i := or3_get h.2.2.2.1 (by omega)
theorem hm_ad {q : RS} (h : qOk q) {k : Nat} (hk : k < 5) (i : Nat) : hmN (adL q.d k) i = if i = q.d.nL then k else hmN q.d i := or3_get h.2.2.2.2.2.1 (by omega)
theorem scr_39 (I : xI) (L : xL) (j : Nat) (x : Int32) : scr I L (xup I 39 j x) L := scr_I (by omega) I L j x
theorem stW_ok {v : Nat → Int32} {n p : Nat} (hp : p ≤ n) (hn : n ≤ 60) : wOk (stW none (stN v n p)) := by
  intro e he
  by_cases h : (stN v n p).2 = 0
  · have e2 : stW none (stN v n p) = some (stN v n p).1 := if_pos h
    rw [e2] at he
    cases he
    have := stN_f hp h
    omega
  · have e2 : stW none (stN v n p) = none := if_neg h
    rw [e2] at he
    cases he
theorem rdM_eq {q : RS} {K : Nat} {f g : Nat → Int32} (h : rdM q K f) (e : g = f) : rdM q K g := by
  rw [e]
  exact h
theorem rd_ass {q : RS} {f0 : Nat → Int32} {k s b sp : Nat} (h : rdM q 5 f0) (hok : qOk q) (h0 : q.d.nL = 0) (h4 : q.d.nA < 4) (hk : k < 6) (hs : s < 16) (hb : b < 5) : rdM (mkR sp (seIn (seMe q.X q.d.nA s) q.d.nA b) (adA q.d k)) 5 (fun j => if j = 0 then nI (q.d.nA + 1) else if j = 7 + 3 * q.d.nA + 2 then nI b else if j = 7 + 3 * q.d.nA + 1 then nI s else if j = 7 + 3 * q.d.nA then nI k else f0 j) := by
  obtain ⟨m1, m2, m3, m4, m5⟩ := h
  refine ⟨rfl, ?_, fun r hr => ?_, fun i hi => ?_, fun l hl => ?_⟩
  · show (if 1 = 0 then nI (q.d.nA + 1) else if 1 = 7 + 3 * q.d.nA + 2 then nI b else if 1 = 7 + 3 * q.d.nA + 1 then nI s else if 1 = 7 + 3 * q.d.nA then nI k else f0 1) = nI q.d.nL
    rw [if_neg (by omega), if_neg (by omega), if_neg (by omega), if_neg (by omega), m2]
  · show (if 2 + r = 0 then nI (q.d.nA + 1) else if 2 + r = 7 + 3 * q.d.nA + 2 then nI b else if 2 + r = 7 + 3 * q.d.nA + 1 then nI s else if 2 + r = 7 + 3 * q.d.nA then nI k else f0 (2 + r)) = nI (rdN q.d r)
    rw [if_neg (by omega), if_neg (by omega), if_neg (by omega), if_neg (by omega), m3 r hr]
  · have hi2 : i < q.d.nA + 1 := hi
    show (if 7 + 3 * i = 0 then nI (q.d.nA + 1) else if 7 + 3 * i = 7 + 3 * q.d.nA + 2 then nI b else if 7 + 3 * i = 7 + 3 * q.d.nA + 1 then nI s else if 7 + 3 * i = 7 + 3 * q.d.nA then nI k else f0 (7 + 3 * i)) = nI (kdN (adA q.d k) i) ∧ (if 8 + 3 * i = 0 then nI (q.d.nA + 1) else if 8 + 3 * i = 7 + 3 * q.d.nA + 2 then nI b else if 8 + 3 * i = 7 + 3 * q.d.nA + 1 then nI s else if 8 + 3 * i = 7 + 3 * q.d.nA then nI k else f0 (8 + 3 * i)) = nI (meN (seIn (seMe q.X q.d.nA s) q.d.nA b) i) ∧ (if 9 + 3 * i = 0 then nI (q.d.nA + 1) else if 9 + 3 * i = 7 + 3 * q.d.nA + 2 then nI b else if 9 + 3 * i = 7 + 3 * q.d.nA + 1 then nI s else if 9 + 3 * i = 7 + 3 * q.d.nA then nI k else f0 (9 + 3 * i)) = nI (inN (seIn (seMe q.X q.d.nA s) q.d.nA b) i)
    rw [kd_ad hok hk, me_in (show b < 8 by omega), me_me hs, in_in (show b < 8 by omega), in_me hs]
    by_cases e : i = q.d.nA
    · rw [if_pos e, if_pos e, if_pos e, if_neg (by omega), if_neg (by omega), if_neg (by omega), if_pos (by omega), if_neg (by omega), if_neg (by omega), if_pos (by omega), if_neg (by omega), if_pos (by omega)]
      exact ⟨rfl, rfl, rfl⟩
    · obtain ⟨x1, x2, x3⟩ := m4 i (by omega)
      rw [if_neg e, if_neg e, if_neg e, if_neg (by omega), if_neg (by omega), if_neg (by omega), if_neg (by omega), if_neg (by omega), if_neg (by omega), if_neg (by omega), if_neg (by omega), if_neg (by omega), if_neg (by omega), if_neg (by omega), if_neg (by omega)]
      exact ⟨x1, x2, x3⟩
  · have hl2 : l < q.d.nL := hl
    omega
theorem rd_load {q : RS} {f0 : Nat → Int32} {c s b sp : Nat} (h : rdM q 5 f0) (hok : qOk q) (h5 : q.d.nL < 5) (hs : s < 16) (hb : b < 5) (hc : c < 5) : rdM (mkR sp (sePl (seMk q.X q.d.nL s) q.d.nL b) (adL q.d c)) 5 (fun j => if j = 1 then nI (q.d.nL + 1) else if j = 19 + 3 * q.d.nL + 2 then nI c else if j = 19 + 3 * q.d.nL + 1 then nI b else if j = 19 + 3 * q.d.nL then nI s else f0 j) := by
  obtain ⟨m1, m2, m3, m4, m5⟩ := h
  have h4 := hok.2.1
  refine ⟨?_, rfl, fun r hr => ?_, fun i hi => ?_, fun l hl => ?_⟩
  · show (if 0 = 1 then nI (q.d.nL + 1) else if 0 = 19 + 3 * q.d.nL + 2 then nI c else if 0 = 19 + 3 * q.d.nL + 1 then nI b else if 0 = 19 + 3 * q.d.nL then nI s else f0 0) = nI q.d.nA
    rw [if_neg (by omega), if_neg (by omega), if_neg (by omega), if_neg (by omega), m1]
  · show (if 2 + r = 1 then nI (q.d.nL + 1) else if 2 + r = 19 + 3 * q.d.nL + 2 then nI c else if 2 + r = 19 + 3 * q.d.nL + 1 then nI b else if 2 + r = 19 + 3 * q.d.nL then nI s else f0 (2 + r)) = nI (rdN q.d r)
    rw [if_neg (by omega), if_neg (by omega), if_neg (by omega), if_neg (by omega), m3 r hr]
  · have hi2 : i < q.d.nA := hi
    obtain ⟨x1, x2, x3⟩ := m4 i hi2
    show (if 7 + 3 * i = 1 then nI (q.d.nL + 1) else if 7 + 3 * i = 19 + 3 * q.d.nL + 2 then nI c else if 7 + 3 * i = 19 + 3 * q.d.nL + 1 then nI b else if 7 + 3 * i = 19 + 3 * q.d.nL then nI s else f0 (7 + 3 * i)) = nI (kdN q.d i) ∧ (if 8 + 3 * i = 1 then nI (q.d.nL + 1) else if 8 + 3 * i = 19 + 3 * q.d.nL + 2 then nI c else if 8 + 3 * i = 19 + 3 * q.d.nL + 1 then nI b else if 8 + 3 * i = 19 + 3 * q.d.nL then nI s else f0 (8 + 3 * i)) = nI (meN (sePl (seMk q.X q.d.nL s) q.d.nL b) i) ∧ (if 9 + 3 * i = 1 then nI (q.d.nL + 1) else if 9 + 3 * i = 19 + 3 * q.d.nL + 2 then nI c else if 9 + 3 * i = 19 + 3 * q.d.nL + 1 then nI b else if 9 + 3 * i = 19 + 3 * q.d.nL then nI s else f0 (9 + 3 * i)) = nI (inN (sePl (seMk q.X q.d.nL s) q.d.nL b) i)
    rw [me_pl (by omega) (show b < 8 by omega), me_mk (by omega) hs, in_pl (by omega) (show b < 8 by omega), in_mk (by omega) hs, if_neg (by omega), if_neg (by omega), if_neg (by omega), if_neg (by omega), if_neg (by omega), if_neg (by omega), if_neg (by omega), if_neg (by omega), if_neg (by omega), if_neg (by omega), if_neg (by omega), if_neg (by omega)]
    exact ⟨x1, x2, x3⟩
  · have hl2 : l < q.d.nL + 1 := hl
    show (if 19 + 3 * l = 1 then nI (q.d.nL + 1) else if 19 + 3 * l = 19 + 3 * q.d.nL + 2 then nI c else if 19 + 3 * l = 19 + 3 * q.d.nL + 1 then nI b else if 19 + 3 * l = 19 + 3 * q.d.nL then nI s else f0 (19 + 3 * l)) = nI (mkN (sePl (seMk q.X q.d.nL s) q.d.nL b) l) ∧ (if 20 + 3 * l = 1 then nI (q.d.nL + 1) else if 20 + 3 * l = 19 + 3 * q.d.nL + 2 then nI c else if 20 + 3 * l = 19 + 3 * q.d.nL + 1 then nI b else if 20 + 3 * l = 19 + 3 * q.d.nL then nI s else f0 (20 + 3 * l)) = nI (plN (sePl (seMk q.X q.d.nL s) q.d.nL b) l) ∧ (if 21 + 3 * l = 1 then nI (q.d.nL + 1) else if 21 + 3 * l = 19 + 3 * q.d.nL + 2 then nI c else if 21 + 3 * l = 19 + 3 * q.d.nL + 1 then nI b else if 21 + 3 * l = 19 + 3 * q.d.nL then nI s else f0 (21 + 3 * l)) = nI (hmN (adL q.d c) l)
    rw [hm_ad hok hc, mk_pl (show b < 8 by omega), mk_mk hs, pl_pl (show b < 8 by omega), pl_mk hs]
    by_cases e : l = q.d.nL
    · rw [if_pos e, if_pos e, if_pos e, if_neg (by omega), if_neg (by omega), if_neg (by omega), if_pos (by omega), if_neg (by omega), if_neg (by omega), if_pos (by omega), if_neg (by omega), if_pos (by omega)]
      exact ⟨rfl, rfl, rfl⟩
    · obtain ⟨x1, x2, x3⟩ := m5 l (by omega)
      rw [if_neg e, if_neg e, if_neg e, if_neg (by omega), if_neg (by omega), if_neg (by omega), if_neg (by omega), if_neg (by omega), if_neg (by omega), if_neg (by omega), if_neg (by omega), if_neg (by omega), if_neg (by omega), if_neg (by omega), if_neg (by omega)]
      exact ⟨x1, x2, x3⟩
def csX11_readAss : xCs := [(mX11_faults, sX11_faults), (mX11_twoFigures, sX11_twoFigures), (mX11_figure, sX11_figure)]
theorem okX11_readAss : xOkM mX11_readAss csX11_readAss := ⟨dX11_readAss, by decide +kernel, by decide +kernel, ⟨wdX11_43, wdX11_43, wdX11_161, wdX11_170, wdX11_161, ⟨wdX11_161, fun h => Bool.noConfusion h⟩, wdX11_43, wdX11_43, wdX11_43, wdX11_177, wdX11_43, wdX11_174, wdX11_43, trivial⟩⟩
theorem hhX11_readAss : ∀ q ∈ csX11_readAss, xHd q.1 := xall1 hX11_faults (xall1 hX11_twoFigures (xall1 hX11_figure (xall0)))
theorem kkX11_readAss : ∀ q ∈ csX11_readAss, ∀ l, xCon l q.1 q.2 := xall1 kX11_faults (xall1 kX11_twoFigures (xall1 kX11_figure (xall0)))
def sX11_readAss : xSpec := xReg fun as I L Q => ∃ (v : Nat → Int32) (n t k : Nat) (q : RS), as = [.ref 27, .int (nI k)] ∧ blN (sgN v n q.sp) = k + 1 ∧ stA v n t 5 q I ∧ q.sp < n ∧ (∀ I', scr I L I' L → stR v n t (raN v n q) I' → Q none I' L)
set_option maxRecDepth 100000 in
theorem kX11_readAss : ∀ l, xCon l mX11_readAss sX11_readAss := by
  refine xcon_of okX11_readAss hX11_readAss rfl (by decide) hhX11_readAss kkX11_readAss ?_
  rintro as n0 I L P Q ⟨rfl, rfl, v, n, t, k, q, rfl, hbl, ⟨hW, h19, h20, hM, hok, hsn⟩, hlt, hQ⟩
  refine ⟨Nat.le_of_ble_eq_true rfl, ?_⟩
  have h60 := hW.2.1
  have hk6 : k < 6 := by
    have := blN_le (sgN v n q.sp)
    omega
  have hA : I 39 0 = nI q.d.nA := hM.1
  have hL : I 39 1 = nI q.d.nL := hM.2.1
  have h4 := hok.2.1
  have h5 := hok.2.2.1
  have hra : raN v n q = if blN (sgN v n q.sp) = 0 ∨ q.d.nA = 4 ∨ 0 < q.d.nL then (q, false) else if (stN v n (q.sp + 1)).2 = 0 then (mkR (stN v n (q.sp + 1)).1 q.X q.d, false) else if fgN v n (q.sp + 3) 4 = 0 then (mkR (q.sp + 3) q.X q.d, false) else (mkR (q.sp + 4) (seIn (seMe q.X q.d.nA ((stN v n (q.sp + 1)).2 - 1)) q.d.nA (fgN v n (q.sp + 3) 4 - 1)) (adA q.d (blN (sgN v n q.sp) - 1)), true) := rfl
  rw [hbl, Nat.add_sub_cancel] at hra
  refine xrun okX11_readAss hhX11_readAss [] 120 ?_
  by_cases hc : q.d.nA = 4 ∨ 0 < q.d.nL
  · rw [if_pos (Or.inr hc)] at hra
    have done : ∀ I', I' = xup I 27 20 (nI q.sp) → Q none xN I' L xP0 := by
      rintro I' rfl
      refine hQ _ (scr_27 (by omega) _ _ _) ?_
      rw [hra]
      exact stR_f ⟨hW, ⟨q.sp, by omega, h19⟩, rfl, hsn⟩
    by_cases c1 : 0 < q.d.nL
    · repeat (first | (refine xbr_f ?_ ?_; (focus ((simp (disch := omega) only [ix_lt, ix_le, ix_eq, ix_0, nI_clamp, nI_toInt, ng_T, nI_add, nI_mul, nI_sub', Int.neg_zero, not_false_eq_true, not_true_eq_false, hA, hL] <;> omega); done))) | (refine xbr_t ?_ ?_; (focus ((simp (disch := omega) only [ix_lt, ix_le, ix_eq, ix_0, nI_clamp, nI_toInt, ng_T, nI_add, nI_mul, nI_sub', Int.neg_zero, not_false_eq_true, not_true_eq_false, hA, hL] <;> omega); done))) | refine ⟨Or.inl rfl, ?_⟩ | refine ⟨Or.inr rfl, ?_⟩ | (refine ⟨?_, ?_⟩; (focus ((try simp (disch := omega) only [hA, hL, nI_mul, nI_add, nI_sub']); exact in_nI (by omega) (by omega)))))
      refine ⟨rfl, rfl, q.sp, none, by rw [h19], h20, fun _ q => (by cases q), ?_⟩
      exact done _ rfl
    · repeat (first | (refine xbr_f ?_ ?_; (focus ((simp (disch := omega) only [ix_lt, ix_le, ix_eq, ix_0, nI_clamp, nI_toInt, ng_T, nI_add, nI_mul, nI_sub', Int.neg_zero, not_false_eq_true, not_true_eq_false, hA, hL] <;> omega); done))) | (refine xbr_t ?_ ?_; (focus ((simp (disch := omega) only [ix_lt, ix_le, ix_eq, ix_0, nI_clamp, nI_toInt, ng_T, nI_add, nI_mul, nI_sub', Int.neg_zero, not_false_eq_true, not_true_eq_false, hA, hL] <;> omega); done))) | refine ⟨Or.inl rfl, ?_⟩ | refine ⟨Or.inr rfl, ?_⟩ | (refine ⟨?_, ?_⟩; (focus ((try simp (disch := omega) only [hA, hL, nI_mul, nI_add, nI_sub']); exact in_nI (by omega) (by omega)))))
      refine ⟨rfl, rfl, q.sp, none, by rw [h19], h20, fun _ q => (by cases q), ?_⟩
      exact done _ rfl
  · rw [if_neg (fun r => by omega)] at hra
    have c1 : ¬ q.d.nA = 4 := fun r => hc (Or.inl r)
    have c2 : q.d.nL = 0 := by omega
    (first | (refine xbr_f ?_ ?_; (focus ((simp (disch := omega) only [ix_lt, ix_le, ix_eq, ix_0, nI_clamp, nI_toInt, ng_T, nI_add, nI_mul, nI_sub', Int.neg_zero, not_false_eq_true, not_true_eq_false, nI_add] <;> omega); done))) | (refine xbr_t ?_ ?_; (focus ((simp (disch := omega) only [ix_lt, ix_le, ix_eq, ix_0, nI_clamp, nI_toInt, ng_T, nI_add, nI_mul, nI_sub', Int.neg_zero, not_false_eq_true, not_true_eq_false, nI_add] <;> omega); done))) | refine ⟨Or.inl rfl, ?_⟩ | refine ⟨Or.inr rfl, ?_⟩ | (refine ⟨?_, ?_⟩; (focus ((try simp (disch := omega) only [nI_add, nI_mul, nI_add, nI_sub']); exact in_nI (by omega) (by omega)))))
    (first | (refine xbr_f ?_ ?_; (focus ((simp (disch := omega) only [ix_lt, ix_le, ix_eq, ix_0, nI_clamp, nI_toInt, ng_T, nI_add, nI_mul, nI_sub', Int.neg_zero, not_false_eq_true, not_true_eq_false, hL] <;> omega); done))) | (refine xbr_t ?_ ?_; (focus ((simp (disch := omega) only [ix_lt, ix_le, ix_eq, ix_0, nI_clamp, nI_toInt, ng_T, nI_add, nI_mul, nI_sub', Int.neg_zero, not_false_eq_true, not_true_eq_false, hL] <;> omega); done))) | refine ⟨Or.inl rfl, ?_⟩ | refine ⟨Or.inr rfl, ?_⟩ | (refine ⟨?_, ?_⟩; (focus ((try simp (disch := omega) only [hL, nI_mul, nI_add, nI_sub']); exact in_nI (by omega) (by omega)))))
    (first | (refine xbr_f ?_ ?_; (focus ((simp (disch := omega) only [ix_lt, ix_le, ix_eq, ix_0, nI_clamp, nI_toInt, ng_T, nI_add, nI_mul, nI_sub', Int.neg_zero, not_false_eq_true, not_true_eq_false, nI_add] <;> omega); done))) | (refine xbr_t ?_ ?_; (focus ((simp (disch := omega) only [ix_lt, ix_le, ix_eq, ix_0, nI_clamp, nI_toInt, ng_T, nI_add, nI_mul, nI_sub', Int.neg_zero, not_false_eq_true, not_true_eq_false, nI_add] <;> omega); done))) | refine ⟨Or.inl rfl, ?_⟩ | refine ⟨Or.inr rfl, ?_⟩ | (refine ⟨?_, ?_⟩; (focus ((try simp (disch := omega) only [nI_add, nI_mul, nI_add, nI_sub']); exact in_nI (by omega) (by omega)))))
    (first | (refine xbr_f ?_ ?_; (focus ((simp (disch := omega) only [ix_lt, ix_le, ix_eq, ix_0, nI_clamp, nI_toInt, ng_T, nI_add, nI_mul, nI_sub', Int.neg_zero, not_false_eq_true, not_true_eq_false, hA] <;> omega); done))) | (refine xbr_t ?_ ?_; (focus ((simp (disch := omega) only [ix_lt, ix_le, ix_eq, ix_0, nI_clamp, nI_toInt, ng_T, nI_add, nI_mul, nI_sub', Int.neg_zero, not_false_eq_true, not_true_eq_false, hA] <;> omega); done))) | refine ⟨Or.inl rfl, ?_⟩ | refine ⟨Or.inr rfl, ?_⟩ | (refine ⟨?_, ?_⟩; (focus ((try simp (disch := omega) only [hA, nI_mul, nI_add, nI_sub']); exact in_nI (by omega) (by omega)))))
    have hA3 : ∀ x, xup I 27 19 x 39 0 = nI q.d.nA := fun x => hA
    (first | (refine xbr_f ?_ ?_; (focus ((simp (disch := omega) only [ix_lt, ix_le, ix_eq, ix_0, nI_clamp, nI_toInt, ng_T, nI_add, nI_mul, nI_sub', Int.neg_zero, not_false_eq_true, not_true_eq_false, nI_add] <;> omega); done))) | (refine xbr_t ?_ ?_; (focus ((simp (disch := omega) only [ix_lt, ix_le, ix_eq, ix_0, nI_clamp, nI_toInt, ng_T, nI_add, nI_mul, nI_sub', Int.neg_zero, not_false_eq_true, not_true_eq_false, nI_add] <;> omega); done))) | refine ⟨Or.inl rfl, ?_⟩ | refine ⟨Or.inr rfl, ?_⟩ | (refine ⟨?_, ?_⟩; (focus ((try simp (disch := omega) only [nI_add, nI_mul, nI_add, nI_sub']); exact in_nI (by omega) (by omega)))))
    (first | (refine xbr_f ?_ ?_; (focus ((simp (disch := omega) only [ix_lt, ix_le, ix_eq, ix_0, nI_clamp, nI_toInt, ng_T, nI_add, nI_mul, nI_sub', Int.neg_zero, not_false_eq_true, not_true_eq_false, hA3, nI_clamp] <;> omega); done))) | (refine xbr_t ?_ ?_; (focus ((simp (disch := omega) only [ix_lt, ix_le, ix_eq, ix_0, nI_clamp, nI_toInt, ng_T, nI_add, nI_mul, nI_sub', Int.neg_zero, not_false_eq_true, not_true_eq_false, hA3, nI_clamp] <;> omega); done))) | refine ⟨Or.inl rfl, ?_⟩ | refine ⟨Or.inr rfl, ?_⟩ | (refine ⟨?_, ?_⟩; (focus ((try simp (disch := omega) only [hA3, nI_clamp, nI_mul, nI_add, nI_sub']); exact in_nI (by omega) (by omega)))))
    simp (disch := omega) only [h19, hA3, nI_mul, nI_add, nI_clamp, nI_sub']
    refine ⟨rfl, rfl, v, n, t, q.sp + 1, none, rfl, hW, rfl, by omega, h20, fun _ q => (by cases q), fun x hx => ?_⟩
    (first | (refine xbr_f ?_ ?_; (focus ((simp (disch := omega) only [ix_lt, ix_le, ix_eq, ix_0, nI_clamp, nI_toInt, ng_T, nI_add, nI_mul, nI_sub', Int.neg_zero, not_false_eq_true, not_true_eq_false, nI_add] <;> omega); done))) | (refine xbr_t ?_ ?_; (focus ((simp (disch := omega) only [ix_lt, ix_le, ix_eq, ix_0, nI_clamp, nI_toInt, ng_T, nI_add, nI_mul, nI_sub', Int.neg_zero, not_false_eq_true, not_true_eq_false, nI_add] <;> omega); done))) | refine ⟨Or.inl rfl, ?_⟩ | refine ⟨Or.inr rfl, ?_⟩ | (refine ⟨?_, ?_⟩; (focus ((try simp (disch := omega) only [nI_add, nI_mul, nI_add, nI_sub']); exact in_nI (by omega) (by omega)))))
    simp (disch := omega) only [nI_mul, nI_add, nI_clamp, nI_sub']
    have hst := hx rfl
    refine ⟨rfl, rfl, v, n, t, q.sp + 1 + 2, 4, stW none (stN v n (q.sp + 1)), rfl, by decide, hW, rfl, by omega, rfl, stW_ok hlt h60, ?_⟩
    (first | (refine xbr_f ?_ ?_; (focus ((simp (disch := omega) only [ix_lt, ix_le, ix_eq, ix_0, nI_clamp, nI_toInt, ng_T, nI_add, nI_mul, nI_sub', Int.neg_zero, not_false_eq_true, not_true_eq_false, nI_add] <;> omega); done))) | (refine xbr_t ?_ ?_; (focus ((simp (disch := omega) only [ix_lt, ix_le, ix_eq, ix_0, nI_clamp, nI_toInt, ng_T, nI_add, nI_mul, nI_sub', Int.neg_zero, not_false_eq_true, not_true_eq_false, nI_add] <;> omega); done))) | refine ⟨Or.inl rfl, ?_⟩ | refine ⟨Or.inr rfl, ?_⟩ | (refine ⟨?_, ?_⟩; (focus ((try simp (disch := omega) only [nI_add, nI_mul, nI_add, nI_sub']); exact in_nI (by omega) (by omega)))))
    simp (disch := omega) only [nI_mul, nI_add, nI_clamp, nI_sub']
    (first | (refine xbr_f ?_ ?_; (focus ((simp (disch := omega) only [ix_lt, ix_le, ix_eq, ix_0, nI_clamp, nI_toInt, ng_T, nI_add, nI_mul, nI_sub', Int.neg_zero, not_false_eq_true, not_true_eq_false, nI_add] <;> omega); done))) | (refine xbr_t ?_ ?_; (focus ((simp (disch := omega) only [ix_lt, ix_le, ix_eq, ix_0, nI_clamp, nI_toInt, ng_T, nI_add, nI_mul, nI_sub', Int.neg_zero, not_false_eq_true, not_true_eq_false, nI_add] <;> omega); done))) | refine ⟨Or.inl rfl, ?_⟩ | refine ⟨Or.inr rfl, ?_⟩ | (refine ⟨?_, ?_⟩; (focus ((try simp (disch := omega) only [nI_add, nI_mul, nI_add, nI_sub']); exact in_nI (by omega) (by omega)))))
    (first | (refine xbr_f ?_ ?_; (focus ((simp (disch := omega) only [ix_lt, ix_le, ix_eq, ix_0, nI_clamp, nI_toInt, ng_T, nI_add, nI_mul, nI_sub', Int.neg_zero, not_false_eq_true, not_true_eq_false, nI_add] <;> omega); done))) | (refine xbr_t ?_ ?_; (focus ((simp (disch := omega) only [ix_lt, ix_le, ix_eq, ix_0, nI_clamp, nI_toInt, ng_T, nI_add, nI_mul, nI_sub', Int.neg_zero, not_false_eq_true, not_true_eq_false, nI_add] <;> omega); done))) | refine ⟨Or.inl rfl, ?_⟩ | refine ⟨Or.inr rfl, ?_⟩ | (refine ⟨?_, ?_⟩; (focus ((try simp (disch := omega) only [nI_add, nI_mul, nI_add, nI_sub']); exact in_nI (by omega) (by omega)))))
    simp (disch := omega) only [nI_mul, nI_add, nI_clamp, nI_sub']
    refine hQ _ (scr_t (scr_27 (k := 19) (by omega) _ _ _) (scr_t (scr_39 _ _ _ _) (scr_t (scr_27 (k := 20) (by omega) _ _ _) (scr_t (scr_27 (k := 19) (by omega) _ _ _) (scr_t (scr_39 _ _ _ _) (scr_t (scr_27 (k := 20) (by omega) _ _ _) (scr_t (scr_27 (k := 19) (by omega) _ _ _) (scr_t (scr_39 _ _ _ _) (scr_39 _ _ _ _))))))))) ?_
    by_cases s0 : (stN v n (q.sp + 1)).2 = 0
    · rw [if_pos s0] at hra
      have ew : stW none (stN v n (q.sp + 1)) = some (stN v n (q.sp + 1)).1 := if_pos s0
      rw [hra, ew]
      exact stR_f ⟨hW, ⟨q.sp + 4, by omega, rfl⟩, rfl, stN_f hlt s0⟩
    · rw [if_neg s0] at hra
      have ew : stW none (stN v n (q.sp + 1)) = none := if_neg s0
      obtain ⟨z1, z2, z3⟩ := stN_t s0
      obtain ⟨s, hs⟩ : ∃ s, (stN v n (q.sp + 1)).2 = s + 1 := ⟨(stN v n (q.sp + 1)).2 - 1, by omega⟩
      have ex := hst s hs
      subst ex
      rw [hs, Nat.add_sub_cancel] at hra
      rw [ew]
      by_cases g0 : fgN v n (q.sp + 3) 4 = 0
      · rw [if_pos g0] at hra
        have eg : fgW none (fgN v n (q.sp + 1 + 2) 4) (q.sp + 1 + 2) = some (q.sp + 1 + 2) := if_pos g0
        rw [hra, eg]
        exact stR_f ⟨hW, ⟨q.sp + 4, by omega, rfl⟩, rfl, z1⟩
      · rw [if_neg g0] at hra
        have eg : fgW none (fgN v n (q.sp + 1 + 2) 4) (q.sp + 1 + 2) = none := if_neg g0
        obtain ⟨b, hb⟩ : ∃ b, fgN v n (q.sp + 3) 4 = b + 1 := ⟨fgN v n (q.sp + 3) 4 - 1, by omega⟩
        have hb5 := fgN_le v n (q.sp + 3) (hi := 4) (by decide)
        obtain ⟨b1, b2⟩ := bt_fg (by decide) hb
        have b1 : btN v n (q.sp + 1 + 2) - nI 48 = nI b := b1
        rw [hb, Nat.add_sub_cancel] at hra
        rw [hra, eg]
        have hok2 : qOk (mkR (q.sp + 4) (seIn (seMe q.X q.d.nA s) q.d.nA b) (adA q.d k)) := by
          have h := raN_ok (v := v) (n := n) hok
          rw [hra] at h
          exact h
        refine stR_t ⟨hW, rfl, rfl, ?_, hok2, b2⟩
        have hr := rd_ass (sp := q.sp + 4) hM hok c2 (by omega) hk6 (show s < 16 by omega) (show b < 5 by omega)
        refine rdM_eq hr ?_
        have e0 : (if 0 = 7 + 3 * q.d.nA + 2 then (btN v n (q.sp + 1 + 2) - nI 48) else if 0 = 7 + 3 * q.d.nA + 1 then nI s else if 0 = 7 + 3 * q.d.nA then nI k else I 39 0) + nI 1 = nI (q.d.nA + 1) := by rw [if_neg (by omega), if_neg (by omega), if_neg (by omega), hA, nI_add]
        funext j
        show (if j = 0 then (if 0 = 7 + 3 * q.d.nA + 2 then (btN v n (q.sp + 1 + 2) - nI 48) else if 0 = 7 + 3 * q.d.nA + 1 then nI s else if 0 = 7 + 3 * q.d.nA then nI k else I 39 0) + nI 1 else if j = 7 + 3 * q.d.nA + 2 then (btN v n (q.sp + 1 + 2) - nI 48) else if j = 7 + 3 * q.d.nA + 1 then nI s else if j = 7 + 3 * q.d.nA then nI k else I 39 j) = _
        rw [e0, b1]
def csX11_readLoad : xCs := [(mX11_faults, sX11_faults), (mX11_twoFigures, sX11_twoFigures), (mX11_figure, sX11_figure)]
theorem okX11_readLoad : xOkM mX11_readLoad csX11_readLoad := ⟨dX11_readLoad, by decide +kernel, by decide +kernel, ⟨wdX11_43, wdX11_43, wdX11_161, wdX11_170, wdX11_161, ⟨wdX11_161, fun h => Bool.noConfusion h⟩, wdX11_43, wdX11_43, wdX11_177, wdX11_43, wdX11_174, wdX11_43, wdX11_174, wdX11_43, trivial⟩⟩
theorem hhX11_readLoad : ∀ q ∈ csX11_readLoad, xHd q.1 := xall1 hX11_faults (xall1 hX11_twoFigures (xall1 hX11_figure (xall0)))
theorem kkX11_readLoad : ∀ q ∈ csX11_readLoad, ∀ l, xCon l q.1 q.2 := xall1 kX11_faults (xall1 kX11_twoFigures (xall1 kX11_figure (xall0)))
def sX11_readLoad : xSpec := xReg fun as I L Q => ∃ (v : Nat → Int32) (n t : Nat) (q : RS), as = [.ref 27] ∧ stA v n t 5 q I ∧ q.sp < n ∧ (∀ I', scr I L I' L → stR v n t (rlN v n q) I' → Q none I' L)
theorem fgW_3 {w : Option Nat} {g p : Nat} {e : Nat} (h : w = some e) : fgW w g p = some e := by
  rw [h]
  rfl
set_option maxRecDepth 100000 in
theorem kX11_readLoad : ∀ l, xCon l mX11_readLoad sX11_readLoad := by
  refine xcon_of okX11_readLoad hX11_readLoad rfl (by decide) hhX11_readLoad kkX11_readLoad ?_
  rintro as n0 I L P Q ⟨rfl, rfl, v, n, t, q, rfl, ⟨hW, h19, h20, hM, hok, hsn⟩, hlt, hQ⟩
  refine ⟨Nat.le_of_ble_eq_true rfl, ?_⟩
  have h60 := hW.2.1
  have hA : I 39 0 = nI q.d.nA := hM.1
  have hL : I 39 1 = nI q.d.nL := hM.2.1
  have h4 := hok.2.1
  have h5 := hok.2.2.1
  have hra : rlN v n q = if q.d.nA = 0 ∨ q.d.nL = 5 then (q, false) else if (stN v n (q.sp + 1)).2 = 0 then (mkR (stN v n (q.sp + 1)).1 q.X q.d, false) else if fgN v n (q.sp + 3) 4 = 0 then (mkR (q.sp + 3) q.X q.d, false) else if fgN v n (q.sp + 4) 4 = 0 then (mkR (q.sp + 4) q.X q.d, false) else (mkR (q.sp + 5) (sePl (seMk q.X q.d.nL ((stN v n (q.sp + 1)).2 - 1)) q.d.nL (fgN v n (q.sp + 3) 4 - 1)) (adL q.d (fgN v n (q.sp + 4) 4 - 1)), true) := rfl
  refine xrun okX11_readLoad hhX11_readLoad [] 120 ?_
  by_cases hc : q.d.nA = 0 ∨ q.d.nL = 5
  · rw [if_pos hc] at hra
    have done : ∀ I', I' = xup I 27 20 (nI q.sp) → Q none xN I' L xP0 := by
      rintro I' rfl
      refine hQ _ (scr_27 (by omega) _ _ _) ?_
      rw [hra]
      exact stR_f ⟨hW, ⟨q.sp, by omega, h19⟩, rfl, hsn⟩
    by_cases c1 : q.d.nA = 0
    · repeat (first | (refine xbr_f ?_ ?_; (focus ((simp (disch := omega) only [ix_lt, ix_le, ix_eq, ix_0, nI_clamp, nI_toInt, ng_T, nI_add, nI_mul, nI_sub', Int.neg_zero, not_false_eq_true, not_true_eq_false, hA, hL] <;> omega); done))) | (refine xbr_t ?_ ?_; (focus ((simp (disch := omega) only [ix_lt, ix_le, ix_eq, ix_0, nI_clamp, nI_toInt, ng_T, nI_add, nI_mul, nI_sub', Int.neg_zero, not_false_eq_true, not_true_eq_false, hA, hL] <;> omega); done))) | refine ⟨Or.inl rfl, ?_⟩ | refine ⟨Or.inr rfl, ?_⟩ | (refine ⟨?_, ?_⟩; (focus ((try simp (disch := omega) only [hA, hL, nI_mul, nI_add, nI_sub']); exact in_nI (by omega) (by omega)))))
      refine ⟨rfl, rfl, q.sp, none, by rw [h19], h20, fun _ q => (by cases q), ?_⟩
      exact done _ rfl
    · repeat (first | (refine xbr_f ?_ ?_; (focus ((simp (disch := omega) only [ix_lt, ix_le, ix_eq, ix_0, nI_clamp, nI_toInt, ng_T, nI_add, nI_mul, nI_sub', Int.neg_zero, not_false_eq_true, not_true_eq_false, hA, hL] <;> omega); done))) | (refine xbr_t ?_ ?_; (focus ((simp (disch := omega) only [ix_lt, ix_le, ix_eq, ix_0, nI_clamp, nI_toInt, ng_T, nI_add, nI_mul, nI_sub', Int.neg_zero, not_false_eq_true, not_true_eq_false, hA, hL] <;> omega); done))) | refine ⟨Or.inl rfl, ?_⟩ | refine ⟨Or.inr rfl, ?_⟩ | (refine ⟨?_, ?_⟩; (focus ((try simp (disch := omega) only [hA, hL, nI_mul, nI_add, nI_sub']); exact in_nI (by omega) (by omega)))))
      refine ⟨rfl, rfl, q.sp, none, by rw [h19], h20, fun _ q => (by cases q), ?_⟩
      exact done _ rfl
  · rw [if_neg hc] at hra
    have c1 : ¬ q.d.nA = 0 := fun r => hc (Or.inl r)
    have c2 : ¬ q.d.nL = 5 := fun r => hc (Or.inr r)
    (first | (refine xbr_f ?_ ?_; (focus ((simp (disch := omega) only [ix_lt, ix_le, ix_eq, ix_0, nI_clamp, nI_toInt, ng_T, nI_add, nI_mul, nI_sub', Int.neg_zero, not_false_eq_true, not_true_eq_false, nI_add] <;> omega); done))) | (refine xbr_t ?_ ?_; (focus ((simp (disch := omega) only [ix_lt, ix_le, ix_eq, ix_0, nI_clamp, nI_toInt, ng_T, nI_add, nI_mul, nI_sub', Int.neg_zero, not_false_eq_true, not_true_eq_false, nI_add] <;> omega); done))) | refine ⟨Or.inl rfl, ?_⟩ | refine ⟨Or.inr rfl, ?_⟩ | (refine ⟨?_, ?_⟩; (focus ((try simp (disch := omega) only [nI_add, nI_mul, nI_add, nI_sub']); exact in_nI (by omega) (by omega)))))
    (first | (refine xbr_f ?_ ?_; (focus ((simp (disch := omega) only [ix_lt, ix_le, ix_eq, ix_0, nI_clamp, nI_toInt, ng_T, nI_add, nI_mul, nI_sub', Int.neg_zero, not_false_eq_true, not_true_eq_false, hA] <;> omega); done))) | (refine xbr_t ?_ ?_; (focus ((simp (disch := omega) only [ix_lt, ix_le, ix_eq, ix_0, nI_clamp, nI_toInt, ng_T, nI_add, nI_mul, nI_sub', Int.neg_zero, not_false_eq_true, not_true_eq_false, hA] <;> omega); done))) | refine ⟨Or.inl rfl, ?_⟩ | refine ⟨Or.inr rfl, ?_⟩ | (refine ⟨?_, ?_⟩; (focus ((try simp (disch := omega) only [hA, nI_mul, nI_add, nI_sub']); exact in_nI (by omega) (by omega)))))
    (first | (refine xbr_f ?_ ?_; (focus ((simp (disch := omega) only [ix_lt, ix_le, ix_eq, ix_0, nI_clamp, nI_toInt, ng_T, nI_add, nI_mul, nI_sub', Int.neg_zero, not_false_eq_true, not_true_eq_false, nI_add] <;> omega); done))) | (refine xbr_t ?_ ?_; (focus ((simp (disch := omega) only [ix_lt, ix_le, ix_eq, ix_0, nI_clamp, nI_toInt, ng_T, nI_add, nI_mul, nI_sub', Int.neg_zero, not_false_eq_true, not_true_eq_false, nI_add] <;> omega); done))) | refine ⟨Or.inl rfl, ?_⟩ | refine ⟨Or.inr rfl, ?_⟩ | (refine ⟨?_, ?_⟩; (focus ((try simp (disch := omega) only [nI_add, nI_mul, nI_add, nI_sub']); exact in_nI (by omega) (by omega)))))
    (first | (refine xbr_f ?_ ?_; (focus ((simp (disch := omega) only [ix_lt, ix_le, ix_eq, ix_0, nI_clamp, nI_toInt, ng_T, nI_add, nI_mul, nI_sub', Int.neg_zero, not_false_eq_true, not_true_eq_false, hL] <;> omega); done))) | (refine xbr_t ?_ ?_; (focus ((simp (disch := omega) only [ix_lt, ix_le, ix_eq, ix_0, nI_clamp, nI_toInt, ng_T, nI_add, nI_mul, nI_sub', Int.neg_zero, not_false_eq_true, not_true_eq_false, hL] <;> omega); done))) | refine ⟨Or.inl rfl, ?_⟩ | refine ⟨Or.inr rfl, ?_⟩ | (refine ⟨?_, ?_⟩; (focus ((try simp (disch := omega) only [hL, nI_mul, nI_add, nI_sub']); exact in_nI (by omega) (by omega)))))
    have hL3 : ∀ x, xup I 27 19 x 39 1 = nI q.d.nL := fun x => hL
    (first | (refine xbr_f ?_ ?_; (focus ((simp (disch := omega) only [ix_lt, ix_le, ix_eq, ix_0, nI_clamp, nI_toInt, ng_T, nI_add, nI_mul, nI_sub', Int.neg_zero, not_false_eq_true, not_true_eq_false, nI_add] <;> omega); done))) | (refine xbr_t ?_ ?_; (focus ((simp (disch := omega) only [ix_lt, ix_le, ix_eq, ix_0, nI_clamp, nI_toInt, ng_T, nI_add, nI_mul, nI_sub', Int.neg_zero, not_false_eq_true, not_true_eq_false, nI_add] <;> omega); done))) | refine ⟨Or.inl rfl, ?_⟩ | refine ⟨Or.inr rfl, ?_⟩ | (refine ⟨?_, ?_⟩; (focus ((try simp (disch := omega) only [nI_add, nI_mul, nI_add, nI_sub']); exact in_nI (by omega) (by omega)))))
    simp (disch := omega) only [h19, hL3, nI_mul, nI_add, nI_clamp, nI_sub']
    refine ⟨rfl, rfl, v, n, t, q.sp + 1, none, rfl, hW, rfl, by omega, h20, fun _ q => (by cases q), fun x hx => ?_⟩
    (first | (refine xbr_f ?_ ?_; (focus ((simp (disch := omega) only [ix_lt, ix_le, ix_eq, ix_0, nI_clamp, nI_toInt, ng_T, nI_add, nI_mul, nI_sub', Int.neg_zero, not_false_eq_true, not_true_eq_false, hL3, nI_clamp] <;> omega); done))) | (refine xbr_t ?_ ?_; (focus ((simp (disch := omega) only [ix_lt, ix_le, ix_eq, ix_0, nI_clamp, nI_toInt, ng_T, nI_add, nI_mul, nI_sub', Int.neg_zero, not_false_eq_true, not_true_eq_false, hL3, nI_clamp] <;> omega); done))) | refine ⟨Or.inl rfl, ?_⟩ | refine ⟨Or.inr rfl, ?_⟩ | (refine ⟨?_, ?_⟩; (focus ((try simp (disch := omega) only [hL3, nI_clamp, nI_mul, nI_add, nI_sub']); exact in_nI (by omega) (by omega)))))
    simp (disch := omega) only [hL3, nI_mul, nI_add, nI_clamp, nI_sub']
    have hst := hx rfl
    refine ⟨rfl, rfl, v, n, t, q.sp + 1 + 2, 4, stW none (stN v n (q.sp + 1)), rfl, by decide, hW, rfl, by omega, rfl, stW_ok hlt h60, ?_⟩
    (first | (refine xbr_f ?_ ?_; (focus ((simp (disch := omega) only [ix_lt, ix_le, ix_eq, ix_0, nI_clamp, nI_toInt, ng_T, nI_add, nI_mul, nI_sub', Int.neg_zero, not_false_eq_true, not_true_eq_false, hL3, nI_clamp] <;> omega); done))) | (refine xbr_t ?_ ?_; (focus ((simp (disch := omega) only [ix_lt, ix_le, ix_eq, ix_0, nI_clamp, nI_toInt, ng_T, nI_add, nI_mul, nI_sub', Int.neg_zero, not_false_eq_true, not_true_eq_false, hL3, nI_clamp] <;> omega); done))) | refine ⟨Or.inl rfl, ?_⟩ | refine ⟨Or.inr rfl, ?_⟩ | (refine ⟨?_, ?_⟩; (focus ((try simp (disch := omega) only [hL3, nI_clamp, nI_mul, nI_add, nI_sub']); exact in_nI (by omega) (by omega)))))
    simp (disch := omega) only [hL3, nI_mul, nI_add, nI_clamp, nI_sub']
    refine ⟨rfl, rfl, v, n, t, q.sp + 1 + 2 + 1, 4, fgW (stW none (stN v n (q.sp + 1))) (fgN v n (q.sp + 1 + 2) 4) (q.sp + 1 + 2), rfl, by decide, hW, rfl, by omega, rfl, fgW_ok (stW_ok hlt h60) (by omega), ?_⟩
    (first | (refine xbr_f ?_ ?_; (focus ((simp (disch := omega) only [ix_lt, ix_le, ix_eq, ix_0, nI_clamp, nI_toInt, ng_T, nI_add, nI_mul, nI_sub', Int.neg_zero, not_false_eq_true, not_true_eq_false, hL3, nI_clamp] <;> omega); done))) | (refine xbr_t ?_ ?_; (focus ((simp (disch := omega) only [ix_lt, ix_le, ix_eq, ix_0, nI_clamp, nI_toInt, ng_T, nI_add, nI_mul, nI_sub', Int.neg_zero, not_false_eq_true, not_true_eq_false, hL3, nI_clamp] <;> omega); done))) | refine ⟨Or.inl rfl, ?_⟩ | refine ⟨Or.inr rfl, ?_⟩ | (refine ⟨?_, ?_⟩; (focus ((try simp (disch := omega) only [hL3, nI_clamp, nI_mul, nI_add, nI_sub']); exact in_nI (by omega) (by omega)))))
    simp (disch := omega) only [hL3, nI_mul, nI_add, nI_clamp, nI_sub']
    (first | (refine xbr_f ?_ ?_; (focus ((simp (disch := omega) only [ix_lt, ix_le, ix_eq, ix_0, nI_clamp, nI_toInt, ng_T, nI_add, nI_mul, nI_sub', Int.neg_zero, not_false_eq_true, not_true_eq_false, nI_add] <;> omega); done))) | (refine xbr_t ?_ ?_; (focus ((simp (disch := omega) only [ix_lt, ix_le, ix_eq, ix_0, nI_clamp, nI_toInt, ng_T, nI_add, nI_mul, nI_sub', Int.neg_zero, not_false_eq_true, not_true_eq_false, nI_add] <;> omega); done))) | refine ⟨Or.inl rfl, ?_⟩ | refine ⟨Or.inr rfl, ?_⟩ | (refine ⟨?_, ?_⟩; (focus ((try simp (disch := omega) only [nI_add, nI_mul, nI_add, nI_sub']); exact in_nI (by omega) (by omega)))))
    (first | (refine xbr_f ?_ ?_; (focus ((simp (disch := omega) only [ix_lt, ix_le, ix_eq, ix_0, nI_clamp, nI_toInt, ng_T, nI_add, nI_mul, nI_sub', Int.neg_zero, not_false_eq_true, not_true_eq_false, nI_add] <;> omega); done))) | (refine xbr_t ?_ ?_; (focus ((simp (disch := omega) only [ix_lt, ix_le, ix_eq, ix_0, nI_clamp, nI_toInt, ng_T, nI_add, nI_mul, nI_sub', Int.neg_zero, not_false_eq_true, not_true_eq_false, nI_add] <;> omega); done))) | refine ⟨Or.inl rfl, ?_⟩ | refine ⟨Or.inr rfl, ?_⟩ | (refine ⟨?_, ?_⟩; (focus ((try simp (disch := omega) only [nI_add, nI_mul, nI_add, nI_sub']); exact in_nI (by omega) (by omega)))))
    simp (disch := omega) only [nI_mul, nI_add, nI_clamp, nI_sub']
    refine hQ _ (scr_t (scr_27 (k := 19) (by omega) _ _ _) (scr_t (scr_27 (k := 20) (by omega) _ _ _) (scr_t (scr_27 (k := 19) (by omega) _ _ _) (scr_t (scr_39 _ _ _ _) (scr_t (scr_27 (k := 20) (by omega) _ _ _) (scr_t (scr_27 (k := 19) (by omega) _ _ _) (scr_t (scr_39 _ _ _ _) (scr_t (scr_27 (k := 20) (by omega) _ _ _) (scr_t (scr_27 (k := 19) (by omega) _ _ _) (scr_t (scr_39 _ _ _ _) (scr_39 _ _ _ _))))))))))) ?_
    by_cases s0 : (stN v n (q.sp + 1)).2 = 0
    · rw [if_pos s0] at hra
      have ew : stW none (stN v n (q.sp + 1)) = some (stN v n (q.sp + 1)).1 := if_pos s0
      rw [hra, ew]
      exact stR_f ⟨hW, ⟨q.sp + 5, by omega, rfl⟩, rfl, stN_f hlt s0⟩
    · rw [if_neg s0] at hra
      have ew : stW none (stN v n (q.sp + 1)) = none := if_neg s0
      obtain ⟨z1, z2, z3⟩ := stN_t s0
      obtain ⟨s, hs⟩ : ∃ s, (stN v n (q.sp + 1)).2 = s + 1 := ⟨(stN v n (q.sp + 1)).2 - 1, by omega⟩
      have ex := hst s hs
      subst ex
      rw [hs, Nat.add_sub_cancel] at hra
      rw [ew]
      by_cases g0 : fgN v n (q.sp + 3) 4 = 0
      · rw [if_pos g0] at hra
        have eg : fgW none (fgN v n (q.sp + 1 + 2) 4) (q.sp + 1 + 2) = some (q.sp + 1 + 2) := if_pos g0
        rw [hra, eg]
        exact stR_f ⟨hW, ⟨q.sp + 5, by omega, rfl⟩, rfl, z1⟩
      · rw [if_neg g0] at hra
        have eg : fgW none (fgN v n (q.sp + 1 + 2) 4) (q.sp + 1 + 2) = none := if_neg g0
        obtain ⟨b, hb⟩ : ∃ b, fgN v n (q.sp + 3) 4 = b + 1 := ⟨fgN v n (q.sp + 3) 4 - 1, by omega⟩
        have hb5 := fgN_le v n (q.sp + 3) (hi := 4) (by decide)
        obtain ⟨b1, b2⟩ := bt_fg (by decide) hb
        have b1 : btN v n (q.sp + 1 + 2) - nI 48 = nI b := b1
        rw [hb, Nat.add_sub_cancel] at hra
        rw [eg]
        by_cases g4 : fgN v n (q.sp + 4) 4 = 0
        · rw [if_pos g4] at hra
          have eg4 : fgW none (fgN v n (q.sp + 1 + 2 + 1) 4) (q.sp + 1 + 2 + 1) = some (q.sp + 1 + 2 + 1) := if_pos g4
          rw [hra, eg4]
          exact stR_f ⟨hW, ⟨q.sp + 5, by omega, rfl⟩, rfl, b2⟩
        · rw [if_neg g4] at hra
          have eg4 : fgW none (fgN v n (q.sp + 1 + 2 + 1) 4) (q.sp + 1 + 2 + 1) = none := if_neg g4
          obtain ⟨c, hc4⟩ : ∃ c, fgN v n (q.sp + 4) 4 = c + 1 := ⟨fgN v n (q.sp + 4) 4 - 1, by omega⟩
          have hc5 := fgN_le v n (q.sp + 4) (hi := 4) (by decide)
          obtain ⟨d1, d2⟩ := bt_fg (by decide) hc4
          have d1 : btN v n (q.sp + 1 + 2 + 1) - nI 48 = nI c := d1
          rw [hc4, Nat.add_sub_cancel] at hra
          rw [hra, eg4]
          have hok2 : qOk (mkR (q.sp + 5) (sePl (seMk q.X q.d.nL s) q.d.nL b) (adL q.d c)) := by
            have h := rlN_ok (v := v) (n := n) hok
            rw [hra] at h
            exact h
          refine stR_t ⟨hW, rfl, rfl, ?_, hok2, d2⟩
          have hr := rd_load (sp := q.sp + 5) hM hok (by omega) (show s < 16 by omega) (show b < 5 by omega) (show c < 5 by omega)
          refine rdM_eq hr ?_
          have e0 : (if 1 = 19 + 3 * q.d.nL + 2 then (btN v n (q.sp + 1 + 2 + 1) - nI 48) else if 1 = 19 + 3 * q.d.nL + 1 then (btN v n (q.sp + 1 + 2) - nI 48) else if 1 = 19 + 3 * q.d.nL then nI s else I 39 1) + nI 1 = nI (q.d.nL + 1) := by rw [if_neg (by omega), if_neg (by omega), if_neg (by omega), hL, nI_add]
          funext j
          show (if j = 1 then (if 1 = 19 + 3 * q.d.nL + 2 then (btN v n (q.sp + 1 + 2 + 1) - nI 48) else if 1 = 19 + 3 * q.d.nL + 1 then (btN v n (q.sp + 1 + 2) - nI 48) else if 1 = 19 + 3 * q.d.nL then nI s else I 39 1) + nI 1 else if j = 19 + 3 * q.d.nL + 2 then (btN v n (q.sp + 1 + 2 + 1) - nI 48) else if j = 19 + 3 * q.d.nL + 1 then (btN v n (q.sp + 1 + 2) - nI 48) else if j = 19 + 3 * q.d.nL then nI s else I 39 j) = _
          rw [e0, b1, d1]
def itN (v : Nat → Int32) (n : Nat) (q : RS) : RS × Bool := if sgN v n q.sp = nI 108 then rlN v n q else raN v n q
def csX11_readItem : xCs := [(mX11_byteAt, sX11_byteAt), (mX11_sortOf, sX11_sortOf), (mX11_readAss, sX11_readAss), (mX11_readLoad, sX11_readLoad), (mX11_faults, sX11_faults)]
theorem okX11_readItem : xOkM mX11_readItem csX11_readItem := ⟨dX11_readItem, by decide +kernel, by decide +kernel, ⟨wdX11_161, wdX11_164, wdX11_181, wdX11_184, wdX11_187, wdX11_161, wdX11_170, trivial⟩⟩
theorem hhX11_readItem : ∀ q ∈ csX11_readItem, xHd q.1 := xall1 hX11_byteAt (xall1 hX11_sortOf (xall1 hX11_readAss (xall1 hX11_readLoad (xall1 hX11_faults (xall0)))))
theorem kkX11_readItem : ∀ q ∈ csX11_readItem, ∀ l, xCon l q.1 q.2 := xall1 kX11_byteAt (xall1 kX11_sortOf (xall1 kX11_readAss (xall1 kX11_readLoad (xall1 kX11_faults (xall0)))))
def sX11_readItem : xSpec := xReg fun as I L Q => ∃ (v : Nat → Int32) (n t : Nat) (q : RS), as = [.ref 27] ∧ stA v n t 5 q I ∧ q.sp < n ∧ (∀ I', scr I L I' L → stR v n t (itN v n q) I' → Q none I' L)
set_option maxRecDepth 100000 in
theorem kX11_readItem : ∀ l, xCon l mX11_readItem sX11_readItem := by
  refine xcon_of okX11_readItem hX11_readItem rfl (by decide) hhX11_readItem kkX11_readItem ?_
  rintro as n0 I L P Q ⟨rfl, rfl, v, n, t, q, rfl, hS, hlt, hQ⟩
  refine ⟨Nat.le_of_ble_eq_true rfl, ?_⟩
  have hS' := hS
  obtain ⟨hW, h19, h20, hM, hok, hsn⟩ := hS
  have h60 := hW.2.1
  refine xrun okX11_readItem hhX11_readItem [] 60 ?_
  refine ⟨rfl, rfl, v, n, t, q.sp, by rw [h19], hW, by omega, ?_⟩
  refine ⟨rfl, rfl, _, rfl, ?_⟩
  rw [bt_bl]
  by_cases hc : sgN v n q.sp = nI 108
  · have ei : itN v n q = rlN v n q := if_pos hc
    rw [ei] at hQ
    have hb := (bt_eq (v := v) (n := n) (p := q.sp) (c := 108) (by decide)).mpr hc
    have e0 : blN (sgN v n q.sp) = 0 := by rw [hc]; decide
    rw [e0, cI_0, hb]
    repeat (first | (refine xbr_f ?_ ?_; (focus ((simp (disch := omega) only [ix_lt, ix_le, ix_eq, ix_0, nI_clamp, nI_toInt, ng_T, nI_add, nI_mul, nI_sub', Int.neg_zero, not_false_eq_true, not_true_eq_false] <;> omega); done))) | (refine xbr_t ?_ ?_; (focus ((simp (disch := omega) only [ix_lt, ix_le, ix_eq, ix_0, nI_clamp, nI_toInt, ng_T, nI_add, nI_mul, nI_sub', Int.neg_zero, not_false_eq_true, not_true_eq_false] <;> omega); done))) | refine ⟨Or.inl rfl, ?_⟩ | refine ⟨Or.inr rfl, ?_⟩ | (refine ⟨?_, ?_⟩; (focus (exact in_nI (by omega) (by omega)))))
    exact ⟨rfl, rfl, v, n, t, q, rfl, hS', hlt, hQ⟩
  · have ei : itN v n q = raN v n q := if_neg hc
    rw [ei] at hQ
    have hb : ¬ btN v n q.sp = nI 108 := fun r => hc ((bt_eq (by decide)).mp r)
    by_cases h0 : blN (sgN v n q.sp) = 0
    · have hra : raN v n q = (q, false) := if_pos (Or.inl h0)
      rw [hra] at hQ
      rw [h0, cI_0]
      (first | (refine xbr_f ?_ ?_; (focus ((simp (disch := omega) only [ix_lt, ix_le, ix_eq, ix_0, nI_clamp, nI_toInt, ng_T, nI_add, nI_mul, nI_sub', Int.neg_zero, not_false_eq_true, not_true_eq_false] <;> omega); done))) | (refine xbr_t ?_ ?_; (focus ((simp (disch := omega) only [ix_lt, ix_le, ix_eq, ix_0, nI_clamp, nI_toInt, ng_T, nI_add, nI_mul, nI_sub', Int.neg_zero, not_false_eq_true, not_true_eq_false] <;> omega); done))) | refine ⟨Or.inl rfl, ?_⟩ | refine ⟨Or.inr rfl, ?_⟩ | (refine ⟨?_, ?_⟩; (focus (exact in_nI (by omega) (by omega)))))
      (first | refine xbr_t hb ?_ | refine xbr_f hb ?_)
      refine ⟨rfl, rfl, q.sp, none, by rw [h19], h20, fun _ q => (by cases q), ?_⟩
      exact hQ _ (scr_27 (k := 20) (by omega) _ _ _) (stR_f ⟨hW, ⟨q.sp, by omega, h19⟩, rfl, hsn⟩)
    · obtain ⟨k, hk⟩ : ∃ k, blN (sgN v n q.sp) = k + 1 := ⟨blN (sgN v n q.sp) - 1, by omega⟩
      have hk6 := blN_le (sgN v n q.sp)
      rw [hk, cI_s]
      (first | (refine xbr_f ?_ ?_; (focus ((simp (disch := omega) only [ix_lt, ix_le, ix_eq, ix_0, nI_clamp, nI_toInt, ng_T, nI_add, nI_mul, nI_sub', Int.neg_zero, not_false_eq_true, not_true_eq_false] <;> omega); done))) | (refine xbr_t ?_ ?_; (focus ((simp (disch := omega) only [ix_lt, ix_le, ix_eq, ix_0, nI_clamp, nI_toInt, ng_T, nI_add, nI_mul, nI_sub', Int.neg_zero, not_false_eq_true, not_true_eq_false] <;> omega); done))) | refine ⟨Or.inl rfl, ?_⟩ | refine ⟨Or.inr rfl, ?_⟩ | (refine ⟨?_, ?_⟩; (focus (exact in_nI (by omega) (by omega)))))
      exact ⟨rfl, rfl, v, n, t, k, q, rfl, hk, hS', hlt, hQ⟩
