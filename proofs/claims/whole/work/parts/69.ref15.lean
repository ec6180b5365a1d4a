/-! THE REFERENCE, 15: it reads -/
def btN (v : Nat → Int32) (n p : Nat) : Int32 := if p < n then v p else -(nI 9)
theorem bt_eq {v : Nat → Int32} {n p c : Nat} (hc : c < 2 ^ 31) : btN v n p = nI c ↔ sgN v n p = nI c := by
  unfold btN sgN
  by_cases h : p < n
  · rw [if_pos h, if_pos h]
  · rw [if_neg h, if_neg h, ix_eq, ix_eq, ng_T (by decide), ng_T (by decide), nI_toInt hc]
    omega
theorem bt_ib {v : Nat → Int32} {n p hi : Nat} : ibB (btN v n p - nI 48) (hi + 1) = ibB (sgN v n p - nI 48) (hi + 1) := by
  unfold btN sgN
  by_cases h : p < n
  · rw [if_pos h, if_pos h]
  · rw [if_neg h, if_neg h]
    unfold ibB
    have e1 : (-(nI 9) - nI 48).toInt = -57 := by decide
    have e2 : (-(nI 1000) - nI 48).toInt = -1048 := by decide
    rw [e1, e2]
    exact decide_eq_decide.mpr (by omega)
theorem bt_bl {v : Nat → Int32} {n p : Nat} : blN (btN v n p) = blN (sgN v n p) := by
  unfold btN sgN
  by_cases h : p < n
  · rw [if_pos h, if_pos h]
  · rw [if_neg h, if_neg h]
    decide
theorem bt_fg {v : Nat → Int32} {n p hi d : Nat} (hh : hi ≤ 9) (h : fgN v n p hi = d + 1) : btN v n p - nI 48 = nI d ∧ p < n := by
  have hp := fgN_lt (v := v) (n := n) (p := p) (hi := hi) (by omega)
  have e : btN v n p = sgN v n p := by
    unfold btN sgN
    rw [if_pos hp, if_pos hp]
  refine ⟨?_, hp⟩
  rw [e]
  unfold fgN at h
  cases hb : ibB (sgN v n p - nI 48) (hi + 1)
  · rw [hb, if_neg (by decide)] at h
    omega
  · rw [hb, if_pos rfl] at h
    obtain ⟨j, hj, e1⟩ := ibB_t hb (by omega)
    rw [e1, nI_clamp (by omega)] at h
    rw [e1]
    exact congrArg nI (by omega)
def wI : Option Nat → Int32
  | none => -(nI 1)
  | some e => nI e
def wOk (w : Option Nat) : Prop := ∀ e, w = some e → e ≤ 100
theorem wI_s (e : Nat) : wI (some e) = nI e := rfl
theorem wI_n : wI none = -(nI 1) := rfl
def rrW (v : Nat → Int32) (n t : Nat) (I : xI) : Prop := I 27 17 = nI n ∧ n ≤ 60 ∧ I 27 18 = nI (60 * t) ∧ t < 4 ∧ ∀ k, k < n → I 32 (60 * t + k) = v k
theorem xup_self {α : Type} {I : Nat → Nat → α} {k j : Nat} {x : α} (h : I k j = x) : xup I k j x = I := by
  funext c t
  rw [xup_at]
  by_cases e : c = k ∧ t = j
  · rw [if_pos e, e.1, e.2, h]
  · rw [if_neg e]
theorem xup_xup {α : Type} (I : Nat → Nat → α) (k j : Nat) (x y : α) : xup (xup I k j x) k j y = xup I k j y := by
  funext c t
  rw [xup_at, xup_at, xup_at]
  by_cases e : c = k ∧ t = j
  · rw [if_pos e, if_pos e]
  · rw [if_neg e, if_neg e, if_neg e]
theorem xup_com {α : Type} (I : Nat → Nat → α) {k j k' j' : Nat} (x y : α) (h : ¬ (k = k' ∧ j = j')) : xup (xup I k j x) k' j' y = xup (xup I k' j' y) k j x := by
  funext c t
  rw [xup_at, xup_at, xup_at, xup_at]
  by_cases e : c = k ∧ t = j
  · rw [if_pos e, if_neg (fun q => h ⟨e.1.symm.trans q.1, e.2.symm.trans q.2⟩), if_pos e]
  · rw [if_neg e, if_neg e]
def csX11_byteAt : xCs := []
theorem okX11_byteAt : xOkM mX11_byteAt csX11_byteAt := ⟨dX11_byteAt, by decide +kernel, by decide +kernel, ⟨wdX11_155, wdX11_22, wdX11_158, trivial⟩⟩
theorem hhX11_byteAt : ∀ q ∈ csX11_byteAt, xHd q.1 := xall0
theorem kkX11_byteAt : ∀ q ∈ csX11_byteAt, ∀ l, xCon l q.1 q.2 := xall0
def sX11_byteAt : xSpec := xReg fun as I L Q => ∃ (v : Nat → Int32) (n t p : Nat), as = [.ref 27, .int (nI p)] ∧ rrW v n t I ∧ p < 2 ^ 20 ∧ Q (some (.int (btN v n p))) I L
set_option maxRecDepth 100000 in
theorem kX11_byteAt : ∀ l, xCon l mX11_byteAt sX11_byteAt := by
  refine xcon_of okX11_byteAt hX11_byteAt rfl (by decide) hhX11_byteAt kkX11_byteAt ?_
  rintro as n0 I L P Q ⟨rfl, rfl, v, n, t, p, rfl, ⟨h17, h60, h18, ht, hv⟩, hp, hQ⟩
  refine ⟨Nat.le_of_ble_eq_true rfl, ?_⟩
  refine xrun okX11_byteAt hhX11_byteAt [] 60 ?_
  unfold btN at hQ
  by_cases h : p < n
  · rw [if_pos h] at hQ
    repeat (first | (refine xbr_f ?_ ?_; (focus ((simp (disch := omega) only [ix_lt, ix_le, ix_eq, ix_0, nI_clamp, nI_toInt, ng_T, nI_add, nI_mul, nI_sub', Int.neg_zero, not_false_eq_true, not_true_eq_false, h17, h18, nI_add] <;> omega); done))) | (refine xbr_t ?_ ?_; (focus ((simp (disch := omega) only [ix_lt, ix_le, ix_eq, ix_0, nI_clamp, nI_toInt, ng_T, nI_add, nI_mul, nI_sub', Int.neg_zero, not_false_eq_true, not_true_eq_false, h17, h18, nI_add] <;> omega); done))) | refine ⟨Or.inl rfl, ?_⟩ | refine ⟨Or.inr rfl, ?_⟩ | (refine ⟨?_, ?_⟩; (focus ((try simp (disch := omega) only [h17, h18, nI_add, nI_mul, nI_add, nI_sub']); exact in_nI (by omega) (by omega)))))
    have ev : v p = I 32 (I 27 18 + nI p).toNatClampNeg := by rw [h18, nI_add, nI_clamp (by omega), hv p h]
    rw [ev] at hQ
    exact hQ
  · rw [if_neg h] at hQ
    repeat (first | (refine xbr_f ?_ ?_; (focus ((simp (disch := omega) only [ix_lt, ix_le, ix_eq, ix_0, nI_clamp, nI_toInt, ng_T, nI_add, nI_mul, nI_sub', Int.neg_zero, not_false_eq_true, not_true_eq_false, h17, h18, nI_add] <;> omega); done))) | (refine xbr_t ?_ ?_; (focus ((simp (disch := omega) only [ix_lt, ix_le, ix_eq, ix_0, nI_clamp, nI_toInt, ng_T, nI_add, nI_mul, nI_sub', Int.neg_zero, not_false_eq_true, not_true_eq_false, h17, h18, nI_add] <;> omega); done))) | refine ⟨Or.inl rfl, ?_⟩ | refine ⟨Or.inr rfl, ?_⟩ | (refine ⟨?_, ?_⟩; (focus ((try simp (disch := omega) only [h17, h18, nI_add, nI_mul, nI_add, nI_sub']); exact in_nI (by omega) (by omega)))))
    exact hQ
theorem sk_s {v : Nat → Int32} {n p : Nat} (f : Nat) (h : ¬ sgN v n p = nI 32) : skN v n f p = p := by
  cases f with
  | zero => rfl
  | succ f => exact if_neg h
def csX11_skips : xCs := [(mX11_byteAt, sX11_byteAt)]
theorem okX11_skips : xOkM mX11_skips csX11_skips := ⟨dX11_skips, by decide +kernel, by decide +kernel, ⟨wdX11_161, wdX11_164, wdX11_161, ⟨wdX11_161, fun h => Bool.noConfusion h⟩, trivial⟩⟩
theorem hhX11_skips : ∀ q ∈ csX11_skips, xHd q.1 := xall1 hX11_byteAt (xall0)
theorem kkX11_skips : ∀ q ∈ csX11_skips, ∀ l, xCon l q.1 q.2 := xall1 kX11_byteAt (xall0)
def sX11_skips : xSpec := xReg fun as I L Q => ∃ (v : Nat → Int32) (n t p : Nat), as = [.ref 27] ∧ rrW v n t I ∧ I 27 19 = nI p ∧ p ≤ 100 ∧ Q none (xup I 27 19 (nI (skN v n 60 p))) L
set_option maxRecDepth 100000 in
theorem kX11_skips : ∀ l, xCon l mX11_skips sX11_skips := by
  refine xcon_of okX11_skips hX11_skips rfl (by decide) hhX11_skips kkX11_skips ?_
  rintro as n0 I L P Q ⟨rfl, rfl, v, n, t, p, rfl, hW, h19, hp, hQ⟩
  refine ⟨Nat.le_of_ble_eq_true rfl, ?_⟩
  have h60 := hW.2.1
  have loop : ∀ f p', p' ≤ 100 → n ≤ p' + f → skN v n f p' = skN v n 60 p → xGo mX11_skips csX11_skips 0 Q [some (.ref 27)] [] 0 xN (xup I 27 19 (nI p')) L xP0 := by
    intro f
    induction f with
    | zero =>
      intro p' hp' hf e
      refine xrun okX11_skips hhX11_skips [] 60 ?_
      refine ⟨rfl, rfl, v, n, t, p', rfl, hW, by omega, ?_⟩
      have hc : ¬ sgN v n p' = nI 32 := fun q => by
        have := sg_lt q (by decide)
        omega
      have hb : ¬ btN v n p' = nI 32 := fun q => hc ((bt_eq (by decide)).mp q)
      (first | refine xbr_t hb ?_ | refine xbr_f hb ?_)
      rw [← e] at hQ
      exact hQ
    | succ f ih =>
      intro p' hp' hf e
      refine xrun okX11_skips hhX11_skips [(0, [true])] 60 ?_
      refine ⟨rfl, rfl, v, n, t, p', rfl, hW, by omega, ?_⟩
      by_cases hc : sgN v n p' = nI 32
      · have hb : btN v n p' = nI 32 := (bt_eq (by decide)).mpr hc
        have hlt := sg_lt hc (by decide)
        (first | refine xbr_t hb ?_ | refine xbr_f hb ?_)
        refine xgo_eq (ih (p' + 1) (by omega) (by omega) (by rw [← e]; exact (if_pos hc).symm)) rfl ?_ rfl
        show xup (xup I 27 19 (nI p')) 27 19 (nI p' + nI 1) = _
        rw [xup_xup, nI_add]
      · have hb : ¬ btN v n p' = nI 32 := fun q => hc ((bt_eq (by decide)).mp q)
        (first | refine xbr_t hb ?_ | refine xbr_f hb ?_)
        rw [← e, sk_s _ hc] at hQ
        exact hQ
  have l := loop 60 p hp (by omega) rfl
  rw [xup_self h19] at l
  exact l
def csX11_faults : xCs := []
theorem okX11_faults : xOkM mX11_faults csX11_faults := ⟨dX11_faults, by decide +kernel, by decide +kernel, ⟨wdX11_167, wdX11_167, ⟨wdX11_167, fun h => Bool.noConfusion h⟩, trivial⟩⟩
theorem hhX11_faults : ∀ q ∈ csX11_faults, xHd q.1 := xall0
theorem kkX11_faults : ∀ q ∈ csX11_faults, ∀ l, xCon l q.1 q.2 := xall0
def sX11_faults : xSpec := xReg fun as I L Q => ∃ (a : Nat) (w : Option Nat), as = [.ref 27, .int (nI a)] ∧ I 27 20 = wI w ∧ wOk w ∧ Q none (xup I 27 20 (nI (w.getD a))) L
set_option maxRecDepth 100000 in
theorem kX11_faults : ∀ l, xCon l mX11_faults sX11_faults := by
  refine xcon_of okX11_faults hX11_faults rfl (by decide) hhX11_faults kkX11_faults ?_
  rintro as n0 I L P Q ⟨rfl, rfl, a, w, rfl, hw, hk, hQ⟩
  refine ⟨Nat.le_of_ble_eq_true rfl, ?_⟩
  refine xrun okX11_faults hhX11_faults [] 60 ?_
  cases w with
  | none =>
    have hw2 : I 27 20 = -(nI 1) := hw
    repeat (first | (refine xbr_f ?_ ?_; (focus ((simp (disch := omega) only [ix_lt, ix_le, ix_eq, ix_0, nI_clamp, nI_toInt, ng_T, nI_add, nI_mul, nI_sub', Int.neg_zero, not_false_eq_true, not_true_eq_false, hw2] <;> omega); done))) | (refine xbr_t ?_ ?_; (focus ((simp (disch := omega) only [ix_lt, ix_le, ix_eq, ix_0, nI_clamp, nI_toInt, ng_T, nI_add, nI_mul, nI_sub', Int.neg_zero, not_false_eq_true, not_true_eq_false, hw2] <;> omega); done))) | refine ⟨Or.inl rfl, ?_⟩ | refine ⟨Or.inr rfl, ?_⟩ | (refine ⟨?_, ?_⟩; (focus ((try simp (disch := omega) only [hw2, nI_mul, nI_add, nI_sub']); exact in_nI (by omega) (by omega)))))
    exact hQ
  | some e =>
    have he := hk e rfl
    have hw2 : I 27 20 = nI e := hw
    repeat (first | (refine xbr_f ?_ ?_; (focus ((simp (disch := omega) only [ix_lt, ix_le, ix_eq, ix_0, nI_clamp, nI_toInt, ng_T, nI_add, nI_mul, nI_sub', Int.neg_zero, not_false_eq_true, not_true_eq_false, hw2] <;> omega); done))) | (refine xbr_t ?_ ?_; (focus ((simp (disch := omega) only [ix_lt, ix_le, ix_eq, ix_0, nI_clamp, nI_toInt, ng_T, nI_add, nI_mul, nI_sub', Int.neg_zero, not_false_eq_true, not_true_eq_false, hw2] <;> omega); done))) | refine ⟨Or.inl rfl, ?_⟩ | refine ⟨Or.inr rfl, ?_⟩ | (refine ⟨?_, ?_⟩; (focus ((try simp (disch := omega) only [hw2, nI_mul, nI_add, nI_sub']); exact in_nI (by omega) (by omega)))))
    have hq : Q none xN (xup I 27 20 (nI e)) L xP0 := hQ
    rw [← hw2] at hq
    exact hq
def fgW (w : Option Nat) (g p : Nat) : Option Nat := match w with
  | some e => some e
  | none => if g = 0 then some p else none
theorem fgW_ok {w : Option Nat} {g p : Nat} (h : wOk w) (hp : p ≤ 100) : wOk (fgW w g p) := by
  intro e he
  cases w with
  | some e' => exact h e he
  | none =>
    by_cases hg : g = 0
    · have : fgW none g p = some p := if_pos hg
      rw [this] at he
      cases he
      exact hp
    · have : fgW none g p = none := if_neg hg
      rw [this] at he
      cases he
def csX11_figure : xCs := [(mX11_byteAt, sX11_byteAt), (mX11_in, sX11_in), (mX11_faults, sX11_faults)]
theorem okX11_figure : xOkM mX11_figure csX11_figure := ⟨dX11_figure, by decide +kernel, by decide +kernel, ⟨wdX11_161, wdX11_164, wdX11_167, wdX11_90, wdX11_161, wdX11_170, wdX11_161, ⟨wdX11_161, fun h => Bool.noConfusion h⟩, trivial⟩⟩
theorem hhX11_figure : ∀ q ∈ csX11_figure, xHd q.1 := xall1 hX11_byteAt (xall1 hX11_in (xall1 hX11_faults (xall0)))
theorem kkX11_figure : ∀ q ∈ csX11_figure, ∀ l, xCon l q.1 q.2 := xall1 kX11_byteAt (xall1 kX11_in (xall1 kX11_faults (xall0)))
def sX11_figure : xSpec := xReg fun as I L Q => ∃ (v : Nat → Int32) (n t p hi : Nat) (w : Option Nat), as = [.ref 27, .int (nI hi)] ∧ hi ≤ 9 ∧ rrW v n t I ∧ I 27 19 = nI p ∧ p ≤ 100 ∧ I 27 20 = wI w ∧ wOk w ∧ Q (some (.int (btN v n p - nI 48))) (xup (xup I 27 20 (wI (fgW w (fgN v n p hi) p))) 27 19 (nI (p + 1))) L
set_option maxRecDepth 100000 in
theorem kX11_figure : ∀ l, xCon l mX11_figure sX11_figure := by
  refine xcon_of okX11_figure hX11_figure rfl (by decide) hhX11_figure kkX11_figure ?_
  rintro as n0 I L P Q ⟨rfl, rfl, v, n, t, p, hi, w, rfl, hh, hW, h19, hp, h20, hk, hQ⟩
  refine ⟨Nat.le_of_ble_eq_true rfl, ?_⟩
  have t0 : (nI 0).toInt = 0 := rfl
  have th : (nI hi).toInt = hi := nI_toInt (by omega)
  refine xrun okX11_figure hhX11_figure [] 60 ?_
  refine ⟨rfl, rfl, v, n, t, p, by rw [h19], hW, by omega, ?_⟩
  cases w with
  | some e =>
    have he := hk e rfl
    have hw2 : I 27 20 = nI e := h20
    have hq : Q (some (.int (btN v n p - nI 48))) xN (xup (xup I 27 20 (nI e)) 27 19 (nI (p + 1))) L xP0 := hQ
    rw [xup_self hw2] at hq
    repeat (first | (refine xbr_f ?_ ?_; (focus ((simp (disch := omega) only [ix_lt, ix_le, ix_eq, ix_0, nI_clamp, nI_toInt, ng_T, nI_add, nI_mul, nI_sub', Int.neg_zero, not_false_eq_true, not_true_eq_false, hw2] <;> omega); done))) | (refine xbr_t ?_ ?_; (focus ((simp (disch := omega) only [ix_lt, ix_le, ix_eq, ix_0, nI_clamp, nI_toInt, ng_T, nI_add, nI_mul, nI_sub', Int.neg_zero, not_false_eq_true, not_true_eq_false, hw2] <;> omega); done))) | refine ⟨Or.inl rfl, ?_⟩ | refine ⟨Or.inr rfl, ?_⟩ | (refine ⟨?_, ?_⟩; (focus ((try simp (disch := omega) only [hw2, nI_mul, nI_add, nI_sub']); exact in_nI (by omega) (by omega)))))
    exact xq_eq (R := fun W V => Q (some (.int (btN v n p - nI 48))) xN W V xP0) hq (by rw [h19, nI_add]) rfl
  | none =>
    have hw2 : I 27 20 = -(nI 1) := h20
    repeat (first | (refine xbr_f ?_ ?_; (focus ((simp (disch := omega) only [ix_lt, ix_le, ix_eq, ix_0, nI_clamp, nI_toInt, ng_T, nI_add, nI_mul, nI_sub', Int.neg_zero, not_false_eq_true, not_true_eq_false, hw2] <;> omega); done))) | (refine xbr_t ?_ ?_; (focus ((simp (disch := omega) only [ix_lt, ix_le, ix_eq, ix_0, nI_clamp, nI_toInt, ng_T, nI_add, nI_mul, nI_sub', Int.neg_zero, not_false_eq_true, not_true_eq_false, hw2] <;> omega); done))) | refine ⟨Or.inl rfl, ?_⟩ | refine ⟨Or.inr rfl, ?_⟩ | (refine ⟨?_, ?_⟩; (focus ((try simp (disch := omega) only [hw2, nI_mul, nI_add, nI_sub']); exact in_nI (by omega) (by omega)))))
    refine ⟨rfl, rfl, _, _, _, btN v n p - nI 48, nI 0, nI hi, rfl, rfl, by decide, rfl, ?_⟩
    have ed : decide ((nI 0).toInt ≤ (btN v n p - nI 48).toInt ∧ (btN v n p - nI 48).toInt ≤ (nI hi).toInt) = ibB (sgN v n p - nI 48) (hi + 1) := by
      rw [in_c (by omega), bt_ib]
    rw [ed]
    have eg : fgN v n p hi = if ibB (sgN v n p - nI 48) (hi + 1) then (sgN v n p - nI 48).toNatClampNeg + 1 else 0 := rfl
    cases hb : ibB (sgN v n p - nI 48) (hi + 1)
    · rw [hb, if_neg (by decide)] at eg
      have ef : fgW none (fgN v n p hi) p = some p := if_pos eg
      rw [ef] at hQ
      (first | refine xbr_t (by decide) ?_ | refine xbr_f (by decide) ?_)
      refine ⟨rfl, rfl, p, none, by rw [h19], h20, hk, ?_⟩
      exact xq_eq (R := fun W V => Q (some (.int (btN v n p - nI 48))) xN W V xP0) hQ (by
        show xup (xup I 27 20 (nI p)) 27 19 (I 27 19 + nI 1) = xup (xup I 27 20 (nI p)) 27 19 (nI (p + 1))
        rw [h19, nI_add]) rfl
    · rw [hb, if_pos rfl] at eg
      have ef : fgW none (fgN v n p hi) p = none := if_neg (by omega)
      rw [ef] at hQ
      have hq : Q (some (.int (btN v n p - nI 48))) xN (xup (xup I 27 20 (-(nI 1))) 27 19 (nI (p + 1))) L xP0 := hQ
      rw [xup_self hw2] at hq
      (first | refine xbr_t (by decide) ?_ | refine xbr_f (by decide) ?_)
      exact xq_eq (R := fun W V => Q (some (.int (btN v n p - nI 48))) xN W V xP0) hq (by rw [h19, nI_add]) rfl
def stW (w : Option Nat) (q : Nat × Nat) : Option Nat := match w with
  | some e => some e
  | none => if q.2 = 0 then some q.1 else none
def csX11_twoFigures : xCs := [(mX11_figure, sX11_figure), (mX11_faults, sX11_faults)]
theorem okX11_twoFigures : xOkM mX11_twoFigures csX11_twoFigures := ⟨dX11_twoFigures, by decide +kernel, by decide +kernel, ⟨wdX11_161, wdX11_174, wdX11_174, wdX11_167, wdX11_170, trivial⟩⟩
theorem hhX11_twoFigures : ∀ q ∈ csX11_twoFigures, xHd q.1 := xall1 hX11_figure (xall1 hX11_faults (xall0))
theorem kkX11_twoFigures : ∀ q ∈ csX11_twoFigures, ∀ l, xCon l q.1 q.2 := xall1 kX11_figure (xall1 kX11_faults (xall0))
def sX11_twoFigures : xSpec := xReg fun as I L Q => ∃ (v : Nat → Int32) (n t p : Nat) (w : Option Nat), as = [.ref 27] ∧ rrW v n t I ∧ I 27 19 = nI p ∧ p ≤ 90 ∧ I 27 20 = wI w ∧ wOk w ∧ (∀ x, (w = none → ∀ s, (stN v n p).2 = s + 1 → x = nI s) → Q (some (.int x)) (xup (xup I 27 20 (wI (stW w (stN v n p)))) 27 19 (nI (p + 2))) L)
theorem w4 (I : xI) (a b c d : Int32) : xup (xup (xup (xup I 27 20 a) 27 19 b) 27 20 c) 27 19 d = xup (xup I 27 20 c) 27 19 d := by
  rw [xup_com (xup I 27 20 a) b c (by decide), xup_xup, xup_xup]
theorem w5 (I : xI) (a b c : Int32) : xup (xup (xup I 27 20 a) 27 19 b) 27 20 c = xup (xup I 27 20 c) 27 19 b := by
  rw [xup_com (xup I 27 20 a) b c (by decide), xup_xup]
set_option maxRecDepth 100000 in
theorem kX11_twoFigures : ∀ l, xCon l mX11_twoFigures sX11_twoFigures := by
  refine xcon_of okX11_twoFigures hX11_twoFigures rfl (by decide) hhX11_twoFigures kkX11_twoFigures ?_
  rintro as n0 I L P Q ⟨rfl, rfl, v, n, t, p, w, rfl, hW, h19, hp, h20, hk, hQ⟩
  refine ⟨Nat.le_of_ble_eq_true rfl, ?_⟩
  refine xrun okX11_twoFigures hhX11_twoFigures [] 60 ?_
  refine ⟨rfl, rfl, v, n, t, p, 9, w, rfl, by decide, hW, h19, by omega, h20, hk, ?_⟩
  refine ⟨rfl, rfl, v, n, t, p + 1, 9, fgW w (fgN v n p 9) p, rfl, by decide, hW, rfl, by omega, rfl, fgW_ok hk (by omega), ?_⟩
  rw [w4]
  have est : stN v n p = if fgN v n p 9 = 0 then (p, 0) else if fgN v n (p + 1) 9 = 0 then (p + 1, 0) else if 10 * (fgN v n p 9 - 1) + (fgN v n (p + 1) 9 - 1) < 16 then (p + 2, 10 * (fgN v n p 9 - 1) + (fgN v n (p + 1) 9 - 1) + 1) else (p, 0) := rfl
  have h20b : ∀ x y, xup (xup I 27 20 x) 27 19 y 27 20 = x := fun _ _ => rfl
  cases w with
  | some e =>
    have he := hk e rfl
    rw [show fgW (fgW (some e) (fgN v n p 9) p) (fgN v n (p + 1) 9) (p + 1) = some e from rfl]
    have hq := hQ (nI 10 * (btN v n p - nI 48) + (btN v n (p + 1) - nI 48)) (fun q => by cases q)
    (first | (refine xbr_f ?_ ?_; (focus ((simp (disch := omega) only [ix_lt, ix_le, ix_eq, ix_0, nI_clamp, nI_toInt, ng_T, nI_add, nI_mul, nI_sub', Int.neg_zero, not_false_eq_true, not_true_eq_false, h20b, wI_s, wI_n] <;> omega); done))) | (refine xbr_t ?_ ?_; (focus ((simp (disch := omega) only [ix_lt, ix_le, ix_eq, ix_0, nI_clamp, nI_toInt, ng_T, nI_add, nI_mul, nI_sub', Int.neg_zero, not_false_eq_true, not_true_eq_false, h20b, wI_s, wI_n] <;> omega); done))) | refine ⟨Or.inl rfl, ?_⟩ | refine ⟨Or.inr rfl, ?_⟩ | (refine ⟨?_, ?_⟩; (focus ((try simp (disch := omega) only [h20b, wI_s, wI_n, nI_mul, nI_add, nI_sub']); exact in_nI (by omega) (by omega)))))
    exact hq
  | none =>
    by_cases g1 : fgN v n p 9 = 0
    · rw [if_pos g1] at est
      have e1 : fgW none (fgN v n p 9) p = some p := if_pos g1
      have hq := hQ (nI 10 * (btN v n p - nI 48) + (btN v n (p + 1) - nI 48)) (fun _ s hs => by rw [est] at hs; cases hs)
      rw [est] at hq
      rw [e1, show fgW (some p) (fgN v n (p + 1) 9) (p + 1) = some p from rfl]
      (first | (refine xbr_f ?_ ?_; (focus ((simp (disch := omega) only [ix_lt, ix_le, ix_eq, ix_0, nI_clamp, nI_toInt, ng_T, nI_add, nI_mul, nI_sub', Int.neg_zero, not_false_eq_true, not_true_eq_false, h20b, wI_s, wI_n] <;> omega); done))) | (refine xbr_t ?_ ?_; (focus ((simp (disch := omega) only [ix_lt, ix_le, ix_eq, ix_0, nI_clamp, nI_toInt, ng_T, nI_add, nI_mul, nI_sub', Int.neg_zero, not_false_eq_true, not_true_eq_false, h20b, wI_s, wI_n] <;> omega); done))) | refine ⟨Or.inl rfl, ?_⟩ | refine ⟨Or.inr rfl, ?_⟩ | (refine ⟨?_, ?_⟩; (focus ((try simp (disch := omega) only [h20b, wI_s, wI_n, nI_mul, nI_add, nI_sub']); exact in_nI (by omega) (by omega)))))
      exact hq
    · rw [if_neg g1] at est
      have e1 : fgW none (fgN v n p 9) p = none := if_neg g1
      rw [e1]
      obtain ⟨a, ha⟩ : ∃ a, fgN v n p 9 = a + 1 := ⟨fgN v n p 9 - 1, by omega⟩
      have ha9 := fgN_le v n p (hi := 9) (by decide)
      obtain ⟨b1, _⟩ := bt_fg (by decide) ha
      by_cases g2 : fgN v n (p + 1) 9 = 0
      · rw [if_pos g2] at est
        have e2 : fgW none (fgN v n (p + 1) 9) (p + 1) = some (p + 1) := if_pos g2
        have hq := hQ (nI 10 * (btN v n p - nI 48) + (btN v n (p + 1) - nI 48)) (fun _ s hs => by rw [est] at hs; cases hs)
        rw [est] at hq
        rw [e2]
        (first | (refine xbr_f ?_ ?_; (focus ((simp (disch := omega) only [ix_lt, ix_le, ix_eq, ix_0, nI_clamp, nI_toInt, ng_T, nI_add, nI_mul, nI_sub', Int.neg_zero, not_false_eq_true, not_true_eq_false, h20b, wI_s, wI_n] <;> omega); done))) | (refine xbr_t ?_ ?_; (focus ((simp (disch := omega) only [ix_lt, ix_le, ix_eq, ix_0, nI_clamp, nI_toInt, ng_T, nI_add, nI_mul, nI_sub', Int.neg_zero, not_false_eq_true, not_true_eq_false, h20b, wI_s, wI_n] <;> omega); done))) | refine ⟨Or.inl rfl, ?_⟩ | refine ⟨Or.inr rfl, ?_⟩ | (refine ⟨?_, ?_⟩; (focus ((try simp (disch := omega) only [h20b, wI_s, wI_n, nI_mul, nI_add, nI_sub']); exact in_nI (by omega) (by omega)))))
        exact hq
      · rw [if_neg g2] at est
        have e2 : fgW none (fgN v n (p + 1) 9) (p + 1) = none := if_neg g2
        rw [e2]
        obtain ⟨b, hb⟩ : ∃ b, fgN v n (p + 1) 9 = b + 1 := ⟨fgN v n (p + 1) 9 - 1, by omega⟩
        have hb9 := fgN_le v n (p + 1) (hi := 9) (by decide)
        obtain ⟨b2, _⟩ := bt_fg (by decide) hb
        have ex : nI 10 * (btN v n p - nI 48) + (btN v n (p + 1) - nI 48) = nI (10 * a + b) := by rw [b1, b2, nI_mul, nI_add]
        rw [ha, hb, Nat.add_sub_cancel, Nat.add_sub_cancel] at est
        by_cases h16 : 10 * a + b < 16
        · rw [if_pos h16] at est
          have hq := hQ (nI 10 * (btN v n p - nI 48) + (btN v n (p + 1) - nI 48)) (fun _ s hs => by
            rw [est] at hs
            have hs2 : 10 * a + b + 1 = s + 1 := hs
            rw [ex]
            exact congrArg nI (by omega))
          rw [est] at hq
          (first | (refine xbr_f ?_ ?_; (focus ((simp (disch := omega) only [ix_lt, ix_le, ix_eq, ix_0, nI_clamp, nI_toInt, ng_T, nI_add, nI_mul, nI_sub', Int.neg_zero, not_false_eq_true, not_true_eq_false, h20b, wI_s, wI_n] <;> omega); done))) | (refine xbr_t ?_ ?_; (focus ((simp (disch := omega) only [ix_lt, ix_le, ix_eq, ix_0, nI_clamp, nI_toInt, ng_T, nI_add, nI_mul, nI_sub', Int.neg_zero, not_false_eq_true, not_true_eq_false, h20b, wI_s, wI_n] <;> omega); done))) | refine ⟨Or.inl rfl, ?_⟩ | refine ⟨Or.inr rfl, ?_⟩ | (refine ⟨?_, ?_⟩; (focus ((try simp (disch := omega) only [h20b, wI_s, wI_n, nI_mul, nI_add, nI_sub']); exact in_nI (by omega) (by omega)))))
          (first | (refine xbr_f ?_ ?_; (focus ((simp (disch := omega) only [ix_lt, ix_le, ix_eq, ix_0, nI_clamp, nI_toInt, ng_T, nI_add, nI_mul, nI_sub', Int.neg_zero, not_false_eq_true, not_true_eq_false, ex] <;> omega); done))) | (refine xbr_t ?_ ?_; (focus ((simp (disch := omega) only [ix_lt, ix_le, ix_eq, ix_0, nI_clamp, nI_toInt, ng_T, nI_add, nI_mul, nI_sub', Int.neg_zero, not_false_eq_true, not_true_eq_false, ex] <;> omega); done))) | refine ⟨Or.inl rfl, ?_⟩ | refine ⟨Or.inr rfl, ?_⟩ | (refine ⟨?_, ?_⟩; (focus ((try simp (disch := omega) only [ex, nI_mul, nI_add, nI_sub']); exact in_nI (by omega) (by omega)))))
          exact hq
        · rw [if_neg h16] at est
          have hq := hQ (nI 10 * (btN v n p - nI 48) + (btN v n (p + 1) - nI 48)) (fun _ s hs => by rw [est] at hs; cases hs)
          rw [est] at hq
          (first | (refine xbr_f ?_ ?_; (focus ((simp (disch := omega) only [ix_lt, ix_le, ix_eq, ix_0, nI_clamp, nI_toInt, ng_T, nI_add, nI_mul, nI_sub', Int.neg_zero, not_false_eq_true, not_true_eq_false, h20b, wI_s, wI_n] <;> omega); done))) | (refine xbr_t ?_ ?_; (focus ((simp (disch := omega) only [ix_lt, ix_le, ix_eq, ix_0, nI_clamp, nI_toInt, ng_T, nI_add, nI_mul, nI_sub', Int.neg_zero, not_false_eq_true, not_true_eq_false, h20b, wI_s, wI_n] <;> omega); done))) | refine ⟨Or.inl rfl, ?_⟩ | refine ⟨Or.inr rfl, ?_⟩ | (refine ⟨?_, ?_⟩; (focus ((try simp (disch := omega) only [h20b, wI_s, wI_n, nI_mul, nI_add, nI_sub']); exact in_nI (by omega) (by omega)))))
          (first | (refine xbr_f ?_ ?_; (focus ((simp (disch := omega) only [ix_lt, ix_le, ix_eq, ix_0, nI_clamp, nI_toInt, ng_T, nI_add, nI_mul, nI_sub', Int.neg_zero, not_false_eq_true, not_true_eq_false, ex] <;> omega); done))) | (refine xbr_t ?_ ?_; (focus ((simp (disch := omega) only [ix_lt, ix_le, ix_eq, ix_0, nI_clamp, nI_toInt, ng_T, nI_add, nI_mul, nI_sub', Int.neg_zero, not_false_eq_true, not_true_eq_false, ex] <;> omega); done))) | refine ⟨Or.inl rfl, ?_⟩ | refine ⟨Or.inr rfl, ?_⟩ | (refine ⟨?_, ?_⟩; (focus ((try simp (disch := omega) only [ex, nI_mul, nI_add, nI_sub']); exact in_nI (by omega) (by omega)))))
          refine ⟨rfl, rfl, p, none, by rw [h19], rfl, hk, ?_⟩
          rw [w5]
          exact hq
def csX11_sortOf : xCs := []
theorem okX11_sortOf : xOkM mX11_sortOf csX11_sortOf := ⟨dX11_sortOf, by decide +kernel, by decide +kernel, trivial⟩
theorem hhX11_sortOf : ∀ q ∈ csX11_sortOf, xHd q.1 := xall0
theorem kkX11_sortOf : ∀ q ∈ csX11_sortOf, ∀ l, xCon l q.1 q.2 := xall0
def sX11_sortOf : xSpec := xReg fun as I L Q => ∃ (x : Int32), as = [.int x] ∧ Q (some (.int (cI (blN x)))) I L
set_option maxRecDepth 100000 in
theorem kX11_sortOf : ∀ l, xCon l mX11_sortOf sX11_sortOf := by
  refine xcon_of okX11_sortOf hX11_sortOf rfl (by decide) hhX11_sortOf kkX11_sortOf ?_
  rintro as n0 I L P Q ⟨rfl, rfl, x, rfl, hQ⟩
  refine ⟨Nat.le_of_ble_eq_true rfl, ?_⟩
  refine xrun okX11_sortOf hhX11_sortOf [] 60 ?_
  unfold blN at hQ
  by_cases h1 : x = nI 97
  · rw [if_pos h1] at hQ
    (first | refine xbr_t h1 ?_ | refine xbr_f h1 ?_)
    exact hQ
  rw [if_neg h1] at hQ
  (first | refine xbr_t h1 ?_ | refine xbr_f h1 ?_)
  by_cases h2 : x = nI 103
  · rw [if_pos h2] at hQ
    (first | refine xbr_t h2 ?_ | refine xbr_f h2 ?_)
    exact hQ
  rw [if_neg h2] at hQ
  (first | refine xbr_t h2 ?_ | refine xbr_f h2 ?_)
  by_cases h3 : x = nI 121
  · rw [if_pos h3] at hQ
    (first | refine xbr_t h3 ?_ | refine xbr_f h3 ?_)
    exact hQ
  rw [if_neg h3] at hQ
  (first | refine xbr_t h3 ?_ | refine xbr_f h3 ?_)
  by_cases h4 : x = nI 115
  · rw [if_pos h4] at hQ
    (first | refine xbr_t h4 ?_ | refine xbr_f h4 ?_)
    exact hQ
  rw [if_neg h4] at hQ
  (first | refine xbr_t h4 ?_ | refine xbr_f h4 ?_)
  by_cases h5 : x = nI 111
  · rw [if_pos h5] at hQ
    (first | refine xbr_t h5 ?_ | refine xbr_f h5 ?_)
    exact hQ
  rw [if_neg h5] at hQ
  (first | refine xbr_t h5 ?_ | refine xbr_f h5 ?_)
  by_cases h6 : x = nI 109
  · rw [if_pos h6] at hQ
    (first | refine xbr_t h6 ?_ | refine xbr_f h6 ?_)
    exact hQ
  rw [if_neg h6] at hQ
  (first | refine xbr_t h6 ?_ | refine xbr_f h6 ?_)
  exact hQ
