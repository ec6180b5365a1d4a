/-! THE REFERENCE, 7: days to come -/
theorem Ref_b {S : ST} {I I' : xI} {L L' : xL} (h : Ref S I L) (e1 : ∀ c, c ≠ 27 → c ≠ 33 → c ≠ 37 → c ≠ 38 → c ≠ 39 → c ≠ 43 → (c < 45 ∨ 48 < c) → I' c = I c) (e2 : ∀ j, (j < 17 ∨ 20 < j) → I' 27 j = I 27 j) (e3 : ∀ k, k < 19 → I' 37 k = I 37 k) (e4 : ∀ c, c ≠ 44 → L' c = L c) : Ref S I' L' := by
  have h1 : Ref S (xrw I 37 (I' 37)) L := ⟨h.ok, h.pd, dnR_eq h.pd.ok h.ok.D.1 h.dn e3 rfl (fun _ _ => rfl), h.kp, h.rw, h.tx, h.mc⟩
  refine Ref_s h1 ⟨fun c a b d e f g => ?_, e2, e4⟩
  by_cases c37 : c = 37
  · rw [c37, xrw_s]
  · rw [xrw_c _ _ _ c37]
    exact e1 c a b c37 d e f g
def dfr (I I' : xI) : Prop := ∀ c, c ≠ 37 → c ≠ 38 → I' c = I c
theorem dfr_s {I I' : xI} {f g : Nat → Int32} (h : dfr I I') : dfr I (xrw (xrw I' 38 f) 37 g) := fun c a b => by
  rw [xrw_c _ _ _ a, xrw_c _ _ _ b]
  exact h c a b
theorem pdR_c {d : PD} {I I' : xI} (h : pdR d I) (e : ∀ c, c = 27 ∨ c = 34 ∨ c = 35 ∨ c = 36 → I' c = I c) : pdR d I' := by
  unfold pdR at *
  rw [e 27 (by omega), e 34 (by omega), e 35 (by omega), e 36 (by omega)]
  exact h
theorem pdR_d {d : PD} {I I' : xI} (h : pdR d I) (e : dfr I I') : pdR d I' := pdR_c h (fun c hc => e c (by omega) (by omega))
theorem XOk_dy {d : PD} (hd : d.ok) {X : Nat} (hX : XOk X) : ∀ n, XOk (dyN d X n)
  | 0 => hX
  | n + 1 => XOk_day hd (XOk_dy hd hX n)
def csX11_asides : xCs := []
theorem okX11_asides : xOkM mX11_asides csX11_asides := ⟨dX11_asides, by decide +kernel, by decide +kernel, ⟨wdX11_55, wdX11_37, trivial⟩⟩
theorem hhX11_asides : ∀ q ∈ csX11_asides, xHd q.1 := xall0
theorem kkX11_asides : ∀ q ∈ csX11_asides, ∀ l, xCon l q.1 q.2 := xall0
def sX11_asides : xSpec := xReg fun as I L Q => as = [.ref 27] ∧ (∀ f, (∀ k, k < 19 → f k = I 37 k) → Q none (xrw I 43 f) L)
set_option maxRecDepth 100000 in
theorem kX11_asides : ∀ l, xCon l mX11_asides sX11_asides := by
  refine xcon_of okX11_asides hX11_asides rfl (by decide) hhX11_asides kkX11_asides ?_
  rintro as n0 I L P Q ⟨rfl, rfl, rfl, hQ⟩
  refine ⟨Nat.le_of_ble_eq_true rfl, ?_⟩
  refine xrun okX11_asides hhX11_asides [(2, [true, true])] 60 ?_
  refine xlpW (M := mX11_asides) (cs := csX11_asides) (pc := 2) 19 (fun k => [some (.ref 27), some (.int (nI k))]) (fun k I' L' => L = L' ∧ ∃ g, I' = xrw I 43 g ∧ (∀ t, t < k → g t = I 37 t)) ?_ ?_ ⟨rfl, I 43, (xrw_self I 43).symm, fun t h => absurd h (by omega)⟩
  · rintro k hk I2 L2 ⟨rfl, g, rfl, hg⟩ ih
    refine xrun okX11_asides hhX11_asides [(2, [true, true])] 60 ?_
    repeat (first | (refine xbr_f ?_ ?_; (focus ((simp (disch := omega) only [ix_lt, ix_le, ix_eq, ix_0, nI_clamp, nI_toInt, ng_T, nI_add, nI_mul, nI_sub', Int.neg_zero, not_false_eq_true, not_true_eq_false, nI_add] <;> omega); done))) | (refine xbr_t ?_ ?_; (focus ((simp (disch := omega) only [ix_lt, ix_le, ix_eq, ix_0, nI_clamp, nI_toInt, ng_T, nI_add, nI_mul, nI_sub', Int.neg_zero, not_false_eq_true, not_true_eq_false, nI_add] <;> omega); done))) | refine ⟨Or.inl rfl, ?_⟩ | refine ⟨Or.inr rfl, ?_⟩ | (refine ⟨?_, ?_⟩; (focus ((try simp (disch := omega) only [nI_add, nI_mul, nI_add, nI_sub']); exact in_nI (by omega) (by omega)))))
    simp (disch := omega) only [nI_mul, nI_add, nI_clamp, nI_sub']
    rw [xrw_up]
    refine xgo_eq (ih _ _ ⟨rfl, _, rfl, fun t ht => ?_⟩) ?_ rfl rfl
    · by_cases e : t = k
      · rw [if_pos e, e]
        rfl
      · rw [if_neg e]
        exact hg t (by omega)
    · ((repeat' (first | (with_reducible rfl) | exact xv_nil | refine xv_cons ?_ ?_ | refine xv_i ?_ | refine xv_l ?_)) <;> (simp (disch := omega) only [↓reduceIte, Bool.false_eq_true, Nat.one_mul, Nat.zero_mul, Nat.or_zero, Nat.add_zero, Nat.zero_add, Bool.toNat_true, Bool.toNat_false, shl_n, shr_n, fa_and, fa_or, nx_xor, nI_add, nI_mul, nI_sub', and_1, and_7, and_3', and_15]))
  · rintro I2 L2 ⟨rfl, g, rfl, hg⟩
    refine xrun okX11_asides hhX11_asides [] 60 ?_
    repeat (first | (refine xbr_f ?_ ?_; (focus ((simp (disch := omega) only [ix_lt, ix_le, ix_eq, ix_0, nI_clamp, nI_toInt, ng_T, nI_add, nI_mul, nI_sub', Int.neg_zero, not_false_eq_true, not_true_eq_false] <;> omega); done))) | (refine xbr_t ?_ ?_; (focus ((simp (disch := omega) only [ix_lt, ix_le, ix_eq, ix_0, nI_clamp, nI_toInt, ng_T, nI_add, nI_mul, nI_sub', Int.neg_zero, not_false_eq_true, not_true_eq_false] <;> omega); done))) | refine ⟨Or.inl rfl, ?_⟩ | refine ⟨Or.inr rfl, ?_⟩ | (refine ⟨?_, ?_⟩; (focus (exact in_nI (by omega) (by omega)))))
    exact hQ g hg
def csX11_backs : xCs := []
theorem okX11_backs : xOkM mX11_backs csX11_backs := ⟨dX11_backs, by decide +kernel, by decide +kernel, ⟨wdX11_37, wdX11_55, trivial⟩⟩
theorem hhX11_backs : ∀ q ∈ csX11_backs, xHd q.1 := xall0
theorem kkX11_backs : ∀ q ∈ csX11_backs, ∀ l, xCon l q.1 q.2 := xall0
def sX11_backs : xSpec := xReg fun as I L Q => as = [.ref 27] ∧ (∀ f, (∀ k, k < 19 → f k = I 43 k) → Q none (xrw I 37 f) L)
set_option maxRecDepth 100000 in
theorem kX11_backs : ∀ l, xCon l mX11_backs sX11_backs := by
  refine xcon_of okX11_backs hX11_backs rfl (by decide) hhX11_backs kkX11_backs ?_
  rintro as n0 I L P Q ⟨rfl, rfl, rfl, hQ⟩
  refine ⟨Nat.le_of_ble_eq_true rfl, ?_⟩
  refine xrun okX11_backs hhX11_backs [(2, [true, true])] 60 ?_
  refine xlpW (M := mX11_backs) (cs := csX11_backs) (pc := 2) 19 (fun k => [some (.ref 27), some (.int (nI k))]) (fun k I' L' => L = L' ∧ ∃ g, I' = xrw I 37 g ∧ (∀ t, t < k → g t = I 43 t)) ?_ ?_ ⟨rfl, I 37, (xrw_self I 37).symm, fun t h => absurd h (by omega)⟩
  · rintro k hk I2 L2 ⟨rfl, g, rfl, hg⟩ ih
    refine xrun okX11_backs hhX11_backs [(2, [true, true])] 60 ?_
    repeat (first | (refine xbr_f ?_ ?_; (focus ((simp (disch := omega) only [ix_lt, ix_le, ix_eq, ix_0, nI_clamp, nI_toInt, ng_T, nI_add, nI_mul, nI_sub', Int.neg_zero, not_false_eq_true, not_true_eq_false, nI_add] <;> omega); done))) | (refine xbr_t ?_ ?_; (focus ((simp (disch := omega) only [ix_lt, ix_le, ix_eq, ix_0, nI_clamp, nI_toInt, ng_T, nI_add, nI_mul, nI_sub', Int.neg_zero, not_false_eq_true, not_true_eq_false, nI_add] <;> omega); done))) | refine ⟨Or.inl rfl, ?_⟩ | refine ⟨Or.inr rfl, ?_⟩ | (refine ⟨?_, ?_⟩; (focus ((try simp (disch := omega) only [nI_add, nI_mul, nI_add, nI_sub']); exact in_nI (by omega) (by omega)))))
    simp (disch := omega) only [nI_mul, nI_add, nI_clamp, nI_sub']
    rw [xrw_up]
    refine xgo_eq (ih _ _ ⟨rfl, _, rfl, fun t ht => ?_⟩) ?_ rfl rfl
    · by_cases e : t = k
      · rw [if_pos e, e]
        rfl
      · rw [if_neg e]
        exact hg t (by omega)
    · ((repeat' (first | (with_reducible rfl) | exact xv_nil | refine xv_cons ?_ ?_ | refine xv_i ?_ | refine xv_l ?_)) <;> (simp (disch := omega) only [↓reduceIte, Bool.false_eq_true, Nat.one_mul, Nat.zero_mul, Nat.or_zero, Nat.add_zero, Nat.zero_add, Bool.toNat_true, Bool.toNat_false, shl_n, shr_n, fa_and, fa_or, nx_xor, nI_add, nI_mul, nI_sub', and_1, and_7, and_3', and_15]))
  · rintro I2 L2 ⟨rfl, g, rfl, hg⟩
    refine xrun okX11_backs hhX11_backs [] 60 ?_
    repeat (first | (refine xbr_f ?_ ?_; (focus ((simp (disch := omega) only [ix_lt, ix_le, ix_eq, ix_0, nI_clamp, nI_toInt, ng_T, nI_add, nI_mul, nI_sub', Int.neg_zero, not_false_eq_true, not_true_eq_false] <;> omega); done))) | (refine xbr_t ?_ ?_; (focus ((simp (disch := omega) only [ix_lt, ix_le, ix_eq, ix_0, nI_clamp, nI_toInt, ng_T, nI_add, nI_mul, nI_sub', Int.neg_zero, not_false_eq_true, not_true_eq_false] <;> omega); done))) | refine ⟨Or.inl rfl, ?_⟩ | refine ⟨Or.inr rfl, ?_⟩ | (refine ⟨?_, ?_⟩; (focus (exact in_nI (by omega) (by omega)))))
    exact hQ g hg
/-- behind asides, days and backs -/
theorem Ref_days {S : ST} {I I' : xI} {L : xL} (h : Ref S I L) {f f2 : Nat → Int32} (hf : ∀ k, k < 19 → f k = I 37 k) (hd : dfr (xrw I 43 f) I') (h2 : ∀ k, k < 19 → f2 k = I' 43 k) : Ref S (xrw I' 37 f2) L ∧ frM I L (xrw I' 37 f2) L := by
  have e43 : I' 43 = f := (hd 43 (by decide) (by decide)).trans (xrw_s _ _ _)
  have e : ∀ c, c ≠ 37 → c ≠ 38 → c ≠ 43 → xrw I' 37 f2 c = I c := fun c a b d => by
    rw [xrw_c _ _ _ a, hd c a b, xrw_c _ _ _ d]
  refine ⟨Ref_b h (fun c _ _ a b _ d _ => e c a b d) (fun j _ => by rw [e 27 (by decide) (by decide) (by decide)]) (fun k hk => ?_) (fun _ _ => rfl), fun c hc => ⟨e c (by omega) (by omega) (by omega), rfl⟩⟩
  rw [xrw_s, h2 k hk, e43, hf k hk]
def csX11_where : xCs := [(mX11_isLoad, sX11_isLoad), (mX11_in, sX11_in), (mX11_asides, sX11_asides), (mX11_goesBy, sX11_goesBy), (mX11_backs, sX11_backs)]
theorem okX11_where : xOkM mX11_where csX11_where := ⟨dX11_where, by decide +kernel, by decide +kernel, ⟨wdX11_211, wdX11_243, wdX11_90, wdX11_245, wdX11_228, wdX11_37, wdX11_248, trivial⟩⟩
theorem hhX11_where : ∀ q ∈ csX11_where, xHd q.1 := xall1 hX11_isLoad (xall1 hX11_in (xall1 hX11_asides (xall1 hX11_goesBy (xall1 hX11_backs (xall0)))))
theorem kkX11_where : ∀ q ∈ csX11_where, ∀ l, xCon l q.1 q.2 := xall1 kX11_isLoad (xall1 kX11_in (xall1 kX11_asides (xall1 kX11_goesBy (xall1 kX11_backs (xall0)))))
def sX11_where : xSpec := xReg fun as I L Q => ∃ (S : ST) (l n o : Int32) (S' : ST), as = [.ref 27, .int l, .int n] ∧ whereR S l n o S' ∧ Ref S I L ∧ (∀ I' L', frM I L I' L' → Ref S' I' L' → Q (some (.int o)) I' L')
set_option maxRecDepth 100000 in
theorem kX11_where : ∀ l, xCon l mX11_where sX11_where := by
  refine xcon_of okX11_where hX11_where rfl (by decide) hhX11_where kkX11_where ?_
  rintro as n0 I L P Q ⟨rfl, rfl, S, l, n, o, S', rfl, hR, hC, hQ⟩
  refine ⟨Nat.le_of_ble_eq_true rfl, ?_⟩
  have h5 := hC.pd.ok.l5
  refine xrun okX11_where hhX11_where [(28, [true, true, true, true])] 60 ?_
  refine ⟨rfl, rfl, S.d, l, rfl, hC.pd, ?_⟩
  rcases hR with ⟨h, rfl, rfl⟩ | ⟨a, m, rfl, ha, rfl, hm, rfl, rfl⟩
  · obtain ⟨S, rfl⟩ : ∃ S, S = S' := ⟨S', rfl⟩
    have done := hQ _ _ (frM_0 _ _) hC
    cases hb : ibB l S.d.nL
    · (first | refine xbr_t (by decide) ?_ | refine xbr_f (by decide) ?_)
      exact done
    · (first | refine xbr_t (by decide) ?_ | refine xbr_f (by decide) ?_)
      refine ⟨rfl, rfl, _, _, _, n, nI 0, nI 60, rfl, rfl, by decide, by decide, ?_⟩
      rw [in_c (by decide)]
      cases hw : ibB n 61
      · (first | refine xbr_t (by decide) ?_ | refine xbr_f (by decide) ?_)
        exact done
      · exact absurd ⟨hb, hw⟩ h
  · obtain ⟨S, rfl⟩ : ∃ S, S = S' := ⟨S', rfl⟩
    rw [ib_tt ha (by omega)]
    (first | refine xbr_t (by decide) ?_ | refine xbr_f (by decide) ?_)
    refine ⟨rfl, rfl, _, _, _, nI m, nI 0, nI 60, rfl, rfl, by decide, by decide, ?_⟩
    rw [in_c (by decide), ib_tt hm (by decide)]
    (first | refine xbr_t (by decide) ?_ | refine xbr_f (by decide) ?_)
    refine ⟨rfl, rfl, rfl, fun f hf => ?_⟩
    obtain ⟨c0, hN0⟩ : ∃ c, nwR S.d S.D.X c (I 37) := ⟨_, hC.nw⟩
    refine xlpW (M := mX11_where) (cs := csX11_where) (pc := 28) m (fun k => [some (.ref 27), some (.int (nI a)), some (.int (nI m)), some (.int (nI k))]) (fun k I' L' => L = L' ∧ dfr (xrw I 43 f) I' ∧ nwR S.d (dyN S.d S.D.X k) (c0 + k) (I' 37)) ?_ ?_ ⟨rfl, fun _ _ _ => rfl, hN0⟩
    · rintro k hk I2 L2 ⟨rfl, hd, hN⟩ ih
      refine xrun okX11_where hhX11_where [(28, [true, true, true, true])] 60 ?_
      repeat (first | (refine xbr_f ?_ ?_; (focus ((simp (disch := omega) only [ix_lt, ix_le, ix_eq, ix_0, nI_clamp, nI_toInt, ng_T, nI_add, nI_mul, nI_sub', Int.neg_zero, not_false_eq_true, not_true_eq_false] <;> omega); done))) | (refine xbr_t ?_ ?_; (focus ((simp (disch := omega) only [ix_lt, ix_le, ix_eq, ix_0, nI_clamp, nI_toInt, ng_T, nI_add, nI_mul, nI_sub', Int.neg_zero, not_false_eq_true, not_true_eq_false] <;> omega); done))) | refine ⟨Or.inl rfl, ?_⟩ | refine ⟨Or.inr rfl, ?_⟩ | (refine ⟨?_, ?_⟩; (focus (exact in_nI (by omega) (by omega)))))
      refine ⟨rfl, rfl, S.d, dyN S.d S.D.X k, _, rfl, pdR_d (I := xrw I 43 f) hC.pd hd, hN, XOk_dy hC.ok.d hC.ok.X k, fun f2 g2 hg2 => ?_⟩
      refine xgo_eq (ih _ _ ⟨rfl, dfr_s hd, hg2⟩) ?_ rfl rfl
      ((repeat' (first | (with_reducible rfl) | exact xv_nil | refine xv_cons ?_ ?_ | refine xv_i ?_ | refine xv_l ?_)) <;> (simp (disch := omega) only [↓reduceIte, Bool.false_eq_true, Nat.one_mul, Nat.zero_mul, Nat.or_zero, Nat.add_zero, Nat.zero_add, Bool.toNat_true, Bool.toNat_false, shl_n, shr_n, fa_and, fa_or, nx_xor, nI_add, nI_mul, nI_sub', and_1, and_7, and_3', and_15]))
    · rintro I2 L2 ⟨rfl, hd, hN⟩
      refine xrun okX11_where hhX11_where [] 60 ?_
      repeat (first | (refine xbr_f ?_ ?_; (focus ((simp (disch := omega) only [ix_lt, ix_le, ix_eq, ix_0, nI_clamp, nI_toInt, ng_T, nI_add, nI_mul, nI_sub', Int.neg_zero, not_false_eq_true, not_true_eq_false, nI_add] <;> omega); done))) | (refine xbr_t ?_ ?_; (focus ((simp (disch := omega) only [ix_lt, ix_le, ix_eq, ix_0, nI_clamp, nI_toInt, ng_T, nI_add, nI_mul, nI_sub', Int.neg_zero, not_false_eq_true, not_true_eq_false, nI_add] <;> omega); done))) | refine ⟨Or.inl rfl, ?_⟩ | refine ⟨Or.inr rfl, ?_⟩ | (refine ⟨?_, ?_⟩; (focus ((try simp (disch := omega) only [nI_add, nI_mul, nI_add, nI_sub']); exact in_nI (by omega) (by omega)))))
      refine ⟨rfl, rfl, rfl, fun f2 hf2 => ?_⟩
      obtain ⟨r1, r2⟩ := Ref_days hC hf hd hf2
      have hq := hQ _ _ r2 r1
      have ev : nI (plN (dyN S.d S.D.X m) a) = I2 37 (nI 14 + nI a).toNatClampNeg := by rw [nI_add, nI_clamp (by omega), hN.p ha]
      rw [ev] at hq
      exact hq
-- where a state is known again
def seA (X : Nat) : Nat → Nat
  | 0 => 0
  | i + 1 => (seA X i * 2 ^ 8 ||| inN X i * 2 ^ 4) ||| meN X i
def seL (d : PD) (X : Nat) : Nat → Nat
  | 0 => seA X d.nA
  | l + 1 => seL d X l * 2 ^ 3 ||| plN X l
theorem or_low {a b k : Nat} (h : b < 2 ^ k) : a * 2 ^ k ||| b = 2 ^ k * a + b := by rw [Nat.mul_comm, Nat.two_pow_add_eq_or_of_lt h a]
theorem im_8 (X i : Nat) : inN X i * 2 ^ 4 ||| meN X i < 2 ^ 8 := by
  have h1 := inN_8 X i
  have h2 := meN_16 X i
  rw [or_low (k := 4) h2]
  omega
theorem seA_s (X i : Nat) : seA X (i + 1) = 2 ^ 8 * seA X i + (2 ^ 4 * inN X i + meN X i) := by
  show (seA X i * 2 ^ 8 ||| inN X i * 2 ^ 4) ||| meN X i = _
  rw [Nat.or_assoc, or_low (im_8 X i), or_low (k := 4) (meN_16 X i)]
theorem seL_s (d : PD) (X l : Nat) : seL d X (l + 1) = 2 ^ 3 * seL d X l + plN X l := or_low (plN_8 X l)
theorem seA_lt (X : Nat) : ∀ i, seA X i < 2 ^ (8 * i)
  | 0 => by
    show 0 < 2 ^ (8 * 0)
    decide
  | i + 1 => by
    have ih := seA_lt X i
    have h1 := inN_8 X i
    have h2 := meN_16 X i
    rw [seA_s, show 8 * (i + 1) = 8 * i + 8 by omega, Nat.pow_add]
    omega
theorem seL_lt {d : PD} (hd : d.ok) (X : Nat) : ∀ l, seL d X l < 2 ^ (32 + 3 * l)
  | 0 => Nat.lt_of_lt_of_le (seA_lt X d.nA) (Nat.pow_le_pow_right (by decide) (by have := hd.a4; omega))
  | l + 1 => by
    have ih := seL_lt hd X l
    have h1 := plN_8 X l
    rw [seL_s, show 32 + 3 * (l + 1) = 32 + 3 * l + 3 by omega, Nat.pow_add 2 (32 + 3 * l) 3]
    omega
theorem seA_inj {X Y : Nat} : ∀ n, seA X n = seA Y n → ∀ i, i < n → inN X i = inN Y i ∧ meN X i = meN Y i
  | 0, _, i, hi => absurd hi (by omega)
  | n + 1, h, i, hi => by
    have x1 := inN_8 X n
    have x2 := meN_16 X n
    have y1 := inN_8 Y n
    have y2 := meN_16 Y n
    rw [seA_s, seA_s] at h
    by_cases e : i = n
    · rw [e]
      omega
    · exact seA_inj n (by omega) i (by omega)
theorem seL_inj {d : PD} {X Y : Nat} : ∀ n, seL d X n = seL d Y n → seA X d.nA = seA Y d.nA ∧ ∀ l, l < n → plN X l = plN Y l
  | 0, h => ⟨h, fun l hl => absurd hl (by omega)⟩
  | n + 1, h => by
    have x1 := plN_8 X n
    have y1 := plN_8 Y n
    rw [seL_s, seL_s] at h
    obtain ⟨h1, h2⟩ := seL_inj (d := d) (X := X) (Y := Y) n (by omega)
    refine ⟨h1, fun l hl => ?_⟩
    by_cases e : l = n
    · rw [e]
      omega
    · exact h2 l (by omega)
theorem fld {X Y f k : Nat} (h : getN X f k = getN Y f k) {j : Nat} (h1 : f ≤ j) (h2 : j < f + k) : X.testBit j = Y.testBit j := by
  have e1 := getN_bit X f k (j - f)
  have e2 := getN_bit Y f k (j - f)
  rw [h, e2] at e1
  rw [show f + (j - f) = j by omega, decide_eq_true (show j - f < k by omega), Bool.true_and, Bool.true_and] at e1
  exact e1.symm
theorem X_ext {X Y : Nat} (hX : X < 2 ^ 63) (hY : Y < 2 ^ 63) (h1 : ∀ i, i < 4 → inN X i = inN Y i ∧ meN X i = meN Y i) (h2 : ∀ l, l < 5 → mkN X l = mkN Y l ∧ plN X l = plN Y l) : X = Y := by
  apply Nat.eq_of_testBit_eq
  intro j
  by_cases c : j < 28
  · obtain ⟨a, b⟩ := h1 (j / 7) (by omega)
    by_cases r : j % 7 < 4
    · exact fld b (by omega) (by omega)
    · exact fld a (by omega) (by omega)
  · by_cases c2 : j < 63
    · obtain ⟨a, b⟩ := h2 ((j - 28) / 7) (by omega)
      by_cases r : (j - 28) % 7 < 4
      · exact fld a (by omega) (by omega)
      · exact fld b (by omega) (by omega)
    · rw [Nat.testBit_lt_two_pow (Nat.lt_of_lt_of_le hX (Nat.pow_le_pow_right (by decide) (by omega))), Nat.testBit_lt_two_pow (Nat.lt_of_lt_of_le hY (Nat.pow_le_pow_right (by decide) (by omega)))]
theorem go_out (d : PD) (X T : Nat) : ∀ n, n ≤ 4 → ∀ j, n ≤ j → j < 4 → inN (goN d X T n) j = inN X j ∧ meN (goN d X T n) j = meN X j
  | 0, _, _, _, _ => ⟨rfl, rfl⟩
  | n + 1, hn, j, h, hj => by
    obtain ⟨i1, i2⟩ := go_out d X T n (by omega) j (by omega) hj
    have hr := rdN_8 d (inN X n)
    rw [goN_s]
    split
    · exact ⟨i1, i2⟩
    · split
      · rw [in_me (mkN_16 _ _), in_pl hj hr, in_in hr, if_neg (by omega), me_me (mkN_16 _ _), if_neg (by omega), me_pl hj hr, me_in hr]
        exact ⟨i1, i2⟩
      · rw [in_pl hj hr, in_in hr, if_neg (by omega), me_pl hj hr, me_in hr]
        exact ⟨i1, i2⟩
theorem go_pl (d : PD) (X T l : Nat) : ∀ n, n ≤ 4 → (∀ i, i < n → ¬ getN T (3 * i) 3 = l + 1) → plN (goN d X T n) l = plN X l
  | 0, _, _ => rfl
  | n + 1, hn, h => by
    have ih := go_pl d X T l n (by omega) (fun i hi => h i (by omega))
    have hr := rdN_8 d (inN X n)
    have hc := h n (by omega)
    rw [goN_s]
    split
    · exact ih
    · rename_i h0
      split
      · rw [pl_me (by omega) (mkN_16 _ _), pl_pl hr, if_neg (by omega), pl_in (by omega) hr, ih]
      · rw [pl_pl hr, if_neg (by omega), pl_in (by omega) hr, ih]
theorem day_out {d : PD} (hd : d.ok) (X : Nat) : (∀ i, d.nA ≤ i → i < 4 → inN (dayN d X) i = inN X i ∧ meN (dayN d X) i = meN X i) ∧ (∀ l, mkN (dayN d X) l = mkN X l) ∧ (∀ l, d.nL ≤ l → plN (dayN d X) l = plN X l) := by
  have h4 := hd.a4
  refine ⟨fun i h1 h2 => go_out d X _ d.nA h4 i h1 h2, fun l => go_mk d X _ l d.nA h4, fun l hl => go_pl d X _ l d.nA h4 (fun i hi => ?_)⟩
  rw [tk27_get hd X 15 d.nA h4 i hi]
  have := coN_le d X 15 i
  omega
theorem dy_out {d : PD} (hd : d.ok) (X : Nat) : ∀ n, (∀ i, d.nA ≤ i → i < 4 → inN (dyN d X n) i = inN X i ∧ meN (dyN d X n) i = meN X i) ∧ (∀ l, mkN (dyN d X n) l = mkN X l) ∧ (∀ l, d.nL ≤ l → plN (dyN d X n) l = plN X l)
  | 0 => ⟨fun _ _ _ => ⟨rfl, rfl⟩, fun _ => rfl, fun _ _ => rfl⟩
  | n + 1 => by
    obtain ⟨a1, a2, a3⟩ := dy_out hd X n
    obtain ⟨b1, b2, b3⟩ := day_out hd (dyN d X n)
    exact ⟨fun i h1 h2 => ⟨(b1 i h1 h2).1.trans (a1 i h1 h2).1, (b1 i h1 h2).2.trans (a1 i h1 h2).2⟩, fun l => (b2 l).trans (a2 l), fun l h => (b3 l h).trans (a3 l h)⟩
theorem se_dy {d : PD} (hd : d.ok) {X : Nat} (hX : X < 2 ^ 63) {m n : Nat} (h : seL d (dyN d X m) d.nL = seL d (dyN d X n) d.nL) : dyN d X m = dyN d X n := by
  obtain ⟨h1, h2⟩ := seL_inj d.nL h
  have h3 := seA_inj d.nA h1
  obtain ⟨a1, a2, a3⟩ := dy_out hd X m
  obtain ⟨b1, b2, b3⟩ := dy_out hd X n
  refine X_ext (dyN_lt hd hX m) (dyN_lt hd hX n) (fun i hi => ?_) (fun l hl => ⟨(a2 l).trans (b2 l).symm, ?_⟩)
  · by_cases c : i < d.nA
    · exact h3 i c
    · exact ⟨(a1 i (by omega) hi).1.trans (b1 i (by omega) hi).1.symm, (a1 i (by omega) hi).2.trans (b1 i (by omega) hi).2.symm⟩
  · by_cases c : l < d.nL
    · exact h2 l c
    · exact (a3 l (by omega)).trans (b3 l (by omega)).symm
theorem nl_l {k n : Nat} (hn : n < 2 ^ 31) (hk : k < 64) : (nI n).toInt64 <<< ((nI k).toInt64 &&& 63) = lN (n * 2 ^ k) := by rw [nI_l hn, lshl_n n hk]
def csX11_state : xCs := []
theorem okX11_state : xOkM mX11_state csX11_state := ⟨dX11_state, by decide +kernel, by decide +kernel, ⟨wdX11_118, wdX11_37, wdX11_37, wdX11_121, wdX11_37, trivial⟩⟩
theorem hhX11_state : ∀ q ∈ csX11_state, xHd q.1 := xall0
theorem kkX11_state : ∀ q ∈ csX11_state, ∀ l, xCon l q.1 q.2 := xall0
def sX11_state : xSpec := xReg fun as I L Q => ∃ (d : PD) (X c : Nat), as = [.ref 27] ∧ pdR d I ∧ nwR d X c (I 37) ∧ Q (some (.long (lN (seL d X d.nL)))) I L
set_option maxRecDepth 100000 in
theorem kX11_state : ∀ l, xCon l mX11_state sX11_state := by
  refine xcon_of okX11_state hX11_state rfl (by decide) hhX11_state kkX11_state ?_
  rintro as n0 I L P Q ⟨rfl, rfl, d, X, c, rfl, hP, hN, hQ⟩
  refine ⟨Nat.le_of_ble_eq_true rfl, ?_⟩
  have ha := hP.a
  have hl := hP.l
  have h4 := hP.ok.a4
  have h5 := hP.ok.l5
  refine xrun okX11_state hhX11_state [(4, [true, true, false, true])] 60 ?_
  refine xlp (M := mX11_state) (cs := csX11_state) (pc := 4) d.nA (fun i => [some (.ref 27), some (.long (lN (seA X i))), none, some (.int (nI i))]) (fun _ => I) (fun _ => L) ?_ ?_
  · intro i hi ih
    refine xrun okX11_state hhX11_state [(4, [true, true, false, true])] 60 ?_
    repeat (first | (refine xbr_f ?_ ?_; (focus ((simp (disch := omega) only [ix_lt, ix_le, ix_eq, ix_0, nI_clamp, nI_toInt, ng_T, nI_add, nI_mul, nI_sub', Int.neg_zero, not_false_eq_true, not_true_eq_false, ha, nI_add] <;> omega); done))) | (refine xbr_t ?_ ?_; (focus ((simp (disch := omega) only [ix_lt, ix_le, ix_eq, ix_0, nI_clamp, nI_toInt, ng_T, nI_add, nI_mul, nI_sub', Int.neg_zero, not_false_eq_true, not_true_eq_false, ha, nI_add] <;> omega); done))) | refine ⟨Or.inl rfl, ?_⟩ | refine ⟨Or.inr rfl, ?_⟩ | (refine ⟨?_, ?_⟩; (focus ((try simp (disch := omega) only [ha, nI_add, nI_mul, nI_add, nI_sub']); exact in_nI (by omega) (by omega)))))
    have h1 := inN_8 X i
    have h2 := meN_16 X i
    have h3 := seA_lt X i
    have h3 : seA X i < 2 ^ 24 := Nat.lt_of_lt_of_le h3 (Nat.pow_le_pow_right (by decide) (by omega))
    have e : ((lN (seA X i) <<< ((nI 8).toInt64 &&& 63)) ||| ((I 37 (nI (5 + i)).toNatClampNeg).toInt64 <<< ((nI 4).toInt64 &&& 63))) ||| (I 37 (nI (1 + i)).toNatClampNeg).toInt64 = lN (seA X (i + 1)) := by
      rw [nI_clamp (by omega), nI_clamp (by omega), hN.i hi, hN.m hi, lshl_n _ (by decide), nl_l (by omega) (by decide), nI_l (by omega), wb_or (by omega) (by omega), wb_or (Nat.or_lt_two_pow (n := 64) (by omega) (by omega)) (by omega)]
      rfl
    refine xgo_eq ih ?_ rfl rfl
    ((repeat' (first | (with_reducible rfl) | exact xv_nil | refine xv_cons ?_ ?_ | refine xv_i ?_ | refine xv_l ?_)) <;> (simp (disch := omega) only [↓reduceIte, Bool.false_eq_true, Nat.one_mul, Nat.zero_mul, Nat.or_zero, Nat.add_zero, Nat.zero_add, Bool.toNat_true, Bool.toNat_false, shl_n, shr_n, fa_and, fa_or, nx_xor, nI_add, nI_mul, nI_sub', and_1, and_7, and_3', and_15, e]))
  · refine xrun okX11_state hhX11_state [(47, [true, true, false, true])] 60 ?_
    repeat (first | (refine xbr_f ?_ ?_; (focus ((simp (disch := omega) only [ix_lt, ix_le, ix_eq, ix_0, nI_clamp, nI_toInt, ng_T, nI_add, nI_mul, nI_sub', Int.neg_zero, not_false_eq_true, not_true_eq_false, ha] <;> omega); done))) | (refine xbr_t ?_ ?_; (focus ((simp (disch := omega) only [ix_lt, ix_le, ix_eq, ix_0, nI_clamp, nI_toInt, ng_T, nI_add, nI_mul, nI_sub', Int.neg_zero, not_false_eq_true, not_true_eq_false, ha] <;> omega); done))) | refine ⟨Or.inl rfl, ?_⟩ | refine ⟨Or.inr rfl, ?_⟩ | (refine ⟨?_, ?_⟩; (focus ((try simp (disch := omega) only [ha, nI_mul, nI_add, nI_sub']); exact in_nI (by omega) (by omega)))))
    refine xlp (M := mX11_state) (cs := csX11_state) (pc := 47) d.nL (fun l => [some (.ref 27), some (.long (lN (seL d X l))), none, some (.int (nI l))]) (fun _ => I) (fun _ => L) ?_ ?_
    · intro l hl2 ih
      refine xrun okX11_state hhX11_state [(47, [true, true, false, true])] 60 ?_
      repeat (first | (refine xbr_f ?_ ?_; (focus ((simp (disch := omega) only [ix_lt, ix_le, ix_eq, ix_0, nI_clamp, nI_toInt, ng_T, nI_add, nI_mul, nI_sub', Int.neg_zero, not_false_eq_true, not_true_eq_false, hl, nI_add] <;> omega); done))) | (refine xbr_t ?_ ?_; (focus ((simp (disch := omega) only [ix_lt, ix_le, ix_eq, ix_0, nI_clamp, nI_toInt, ng_T, nI_add, nI_mul, nI_sub', Int.neg_zero, not_false_eq_true, not_true_eq_false, hl, nI_add] <;> omega); done))) | refine ⟨Or.inl rfl, ?_⟩ | refine ⟨Or.inr rfl, ?_⟩ | (refine ⟨?_, ?_⟩; (focus ((try simp (disch := omega) only [hl, nI_add, nI_mul, nI_add, nI_sub']); exact in_nI (by omega) (by omega)))))
      have h1 := plN_8 X l
      have h3 : seL d X l < 2 ^ 47 := Nat.lt_of_lt_of_le (seL_lt hP.ok X l) (Nat.pow_le_pow_right (by decide) (by omega))
      have e : (lN (seL d X l) <<< ((nI 3).toInt64 &&& 63)) ||| (I 37 (nI (14 + l)).toNatClampNeg).toInt64 = lN (seL d X (l + 1)) := by
        rw [nI_clamp (by omega), hN.p hl2, lshl_n _ (by decide), nI_l (by omega), wb_or (by omega) (by omega)]
        rfl
      refine xgo_eq ih ?_ rfl rfl
      ((repeat' (first | (with_reducible rfl) | exact xv_nil | refine xv_cons ?_ ?_ | refine xv_i ?_ | refine xv_l ?_)) <;> (simp (disch := omega) only [↓reduceIte, Bool.false_eq_true, Nat.one_mul, Nat.zero_mul, Nat.or_zero, Nat.add_zero, Nat.zero_add, Bool.toNat_true, Bool.toNat_false, shl_n, shr_n, fa_and, fa_or, nx_xor, nI_add, nI_mul, nI_sub', and_1, and_7, and_3', and_15, e]))
    · refine xrun okX11_state hhX11_state [] 60 ?_
      repeat (first | (refine xbr_f ?_ ?_; (focus ((simp (disch := omega) only [ix_lt, ix_le, ix_eq, ix_0, nI_clamp, nI_toInt, ng_T, nI_add, nI_mul, nI_sub', Int.neg_zero, not_false_eq_true, not_true_eq_false, hl] <;> omega); done))) | (refine xbr_t ?_ ?_; (focus ((simp (disch := omega) only [ix_lt, ix_le, ix_eq, ix_0, nI_clamp, nI_toInt, ng_T, nI_add, nI_mul, nI_sub', Int.neg_zero, not_false_eq_true, not_true_eq_false, hl] <;> omega); done))) | refine ⟨Or.inl rfl, ?_⟩ | refine ⟨Or.inr rfl, ?_⟩ | (refine ⟨?_, ?_⟩; (focus ((try simp (disch := omega) only [hl, nI_mul, nI_add, nI_sub']); exact in_nI (by omega) (by omega)))))
      exact hQ
