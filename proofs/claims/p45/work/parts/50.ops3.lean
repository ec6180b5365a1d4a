/-! CALLS, 2: plains -/
theorem tv_no {S : ST} (h : SOk S) (k : Nat) : ¬ S.tv k = -(nI 1000) := fun e => by
  have h1 := (h.tv k).1
  rw [e] at h1
  exact absurd h1 (by decide)
def txV (S : ST) (j : Nat) : Nat → Int32 := fun k => S.tv (60 * j + k)
def faultR (S : ST) (t o : Int32) (S' : ST) : Prop := (ibB t 4 = false ∧ o = -(nI 1) ∧ S' = S) ∨ (∃ j, t = nI j ∧ j < 4 ∧ ((S.tz j = 0 ∧ fin S 1 o S') ∨ (∃ n, S.tz j = n + 1 ∧ o = (if (rdF (txV S j) n).2 then -(nI 9) else nI (rdF (txV S j) n).1.sp) ∧ S' = S)))
theorem k14_0 {q : Nat} (h : xP0 14 (nI 0).toNatClampNeg = some q) : q = 21 := by
  rw [nI_clamp (by decide)] at h
  exact (Option.some.inj h).symm
theorem k14_1 {q : Nat} (h : xP0 14 (nI 1).toNatClampNeg = some q) : q = 23 := by
  rw [nI_clamp (by decide)] at h
  exact (Option.some.inj h).symm
theorem k14_2 {q : Nat} (h : xP0 14 (nI 2).toNatClampNeg = some q) : q = 25 := by
  rw [nI_clamp (by decide)] at h
  exact (Option.some.inj h).symm
theorem ib3 {k : Int32} (h : ibB k 3 = true) : k = nI 0 ∨ k = nI 1 ∨ k = nI 2 := by
  obtain ⟨j, hj, rfl⟩ := ibB_t h (by decide)
  rcases (by omega : j = 0 ∨ j = 1 ∨ j = 2) with rfl | rfl | rfl
  · exact Or.inl rfl
  · exact Or.inr (Or.inl rfl)
  · exact Or.inr (Or.inr rfl)
def csX10_keptAt : xCs := []
theorem okX10_keptAt : xOkM mX10_keptAt csX10_keptAt := ⟨dX10_keptAt, by decide +kernel, by decide +kernel, ⟨wdX10_42, wdX10_42, trivial⟩⟩
theorem hhX10_keptAt : ∀ q ∈ csX10_keptAt, xHd q.1 := xall0
theorem kkX10_keptAt : ∀ q ∈ csX10_keptAt, ∀ l, xCon l q.1 q.2 := xall0
def sX10_keptAt : xSpec := xReg fun as I L Q => ∃ (k : Int32), as = [.ref 1, .int k] ∧ (k = nI 0 → Q (some (.ref 21)) I L) ∧ (k = nI 1 → Q (some (.ref 23)) I L) ∧ (k = nI 2 → Q (some (.ref 25)) I L) ∧ (ibB k 3 = false → Q (some .null) I L)
set_option maxRecDepth 100000 in
theorem kX10_keptAt : ∀ l, xCon l mX10_keptAt sX10_keptAt := by
  refine xcon_of okX10_keptAt hX10_keptAt rfl hhX10_keptAt kkX10_keptAt ?_
  rintro as n0 I L P Q ⟨hn9, rfl, k, rfl, h0, h1, h2, h3⟩
  obtain ⟨e9, rfl⟩ := xe9 hn9
  refine ⟨Nat.le_of_ble_eq_true rfl, ?_⟩
  refine xrun okX10_keptAt hhX10_keptAt [] 60 ?_
  cases hb : ibB k 3
  · have hk := ib_f hb
    by_cases hn : k.toInt < 0
    · repeat (first | (refine xbr_f ?_ ?_; (focus ((simp (disch := omega) only [ix_lt, ix_le, ix_eq, ix_0, nI_clamp, nI_toInt, ng_T, nI_add, nI_mul, nI_sub', Int.neg_zero, not_false_eq_true, not_true_eq_false] <;> omega); done))) | (refine xbr_t ?_ ?_; (focus ((simp (disch := omega) only [ix_lt, ix_le, ix_eq, ix_0, nI_clamp, nI_toInt, ng_T, nI_add, nI_mul, nI_sub', Int.neg_zero, not_false_eq_true, not_true_eq_false] <;> omega); done))) | refine ⟨Or.inl rfl, ?_⟩ | refine ⟨Or.inr rfl, ?_⟩ | (refine ⟨?_, ?_⟩; (focus (exact in_nI (by omega) (by omega)))))
      exact h3 hb
    · repeat (first | (refine xbr_f ?_ ?_; (focus ((simp (disch := omega) only [ix_lt, ix_le, ix_eq, ix_0, nI_clamp, nI_toInt, ng_T, nI_add, nI_mul, nI_sub', Int.neg_zero, not_false_eq_true, not_true_eq_false] <;> omega); done))) | (refine xbr_t ?_ ?_; (focus ((simp (disch := omega) only [ix_lt, ix_le, ix_eq, ix_0, nI_clamp, nI_toInt, ng_T, nI_add, nI_mul, nI_sub', Int.neg_zero, not_false_eq_true, not_true_eq_false] <;> omega); done))) | refine ⟨Or.inl rfl, ?_⟩ | refine ⟨Or.inr rfl, ?_⟩ | (refine ⟨?_, ?_⟩; (focus (exact in_nI (by omega) (by omega)))))
      exact h3 hb
  · rcases ib3 hb with rfl | rfl | rfl
    · repeat (first | (refine xbr_f ?_ ?_; (focus ((simp (disch := omega) only [ix_lt, ix_le, ix_eq, ix_0, nI_clamp, nI_toInt, ng_T, nI_add, nI_mul, nI_sub', Int.neg_zero, not_false_eq_true, not_true_eq_false] <;> omega); done))) | (refine xbr_t ?_ ?_; (focus ((simp (disch := omega) only [ix_lt, ix_le, ix_eq, ix_0, nI_clamp, nI_toInt, ng_T, nI_add, nI_mul, nI_sub', Int.neg_zero, not_false_eq_true, not_true_eq_false] <;> omega); done))) | refine ⟨Or.inl rfl, ?_⟩ | refine ⟨Or.inr rfl, ?_⟩ | (refine ⟨?_, ?_⟩; (focus (exact in_nI (by omega) (by omega)))))
      exact ⟨fun h => (by rw [nI_clamp (by decide)] at h; cases h), fun q h => (by rw [k14_0 h]; exact h0 rfl)⟩
    · repeat (first | (refine xbr_f ?_ ?_; (focus ((simp (disch := omega) only [ix_lt, ix_le, ix_eq, ix_0, nI_clamp, nI_toInt, ng_T, nI_add, nI_mul, nI_sub', Int.neg_zero, not_false_eq_true, not_true_eq_false] <;> omega); done))) | (refine xbr_t ?_ ?_; (focus ((simp (disch := omega) only [ix_lt, ix_le, ix_eq, ix_0, nI_clamp, nI_toInt, ng_T, nI_add, nI_mul, nI_sub', Int.neg_zero, not_false_eq_true, not_true_eq_false] <;> omega); done))) | refine ⟨Or.inl rfl, ?_⟩ | refine ⟨Or.inr rfl, ?_⟩ | (refine ⟨?_, ?_⟩; (focus (exact in_nI (by omega) (by omega)))))
      exact ⟨fun h => (by rw [nI_clamp (by decide)] at h; cases h), fun q h => (by rw [k14_1 h]; exact h1 rfl)⟩
    · repeat (first | (refine xbr_f ?_ ?_; (focus ((simp (disch := omega) only [ix_lt, ix_le, ix_eq, ix_0, nI_clamp, nI_toInt, ng_T, nI_add, nI_mul, nI_sub', Int.neg_zero, not_false_eq_true, not_true_eq_false] <;> omega); done))) | (refine xbr_t ?_ ?_; (focus ((simp (disch := omega) only [ix_lt, ix_le, ix_eq, ix_0, nI_clamp, nI_toInt, ng_T, nI_add, nI_mul, nI_sub', Int.neg_zero, not_false_eq_true, not_true_eq_false] <;> omega); done))) | refine ⟨Or.inl rfl, ?_⟩ | refine ⟨Or.inr rfl, ?_⟩ | (refine ⟨?_, ?_⟩; (focus (exact in_nI (by omega) (by omega)))))
      exact ⟨fun h => (by rw [nI_clamp (by decide)] at h; cases h), fun q h => (by rw [k14_2 h]; exact h2 rfl)⟩
def nD : DD := mkD 0 0 0 (fun _ => 0)
theorem nD_ok : DOk nD := ⟨Nat.zero_le _, fun h => absurd h (by decide)⟩
def pD (X : Nat) : DD := mkD X 0 1 (fun _ => 0)
theorem pD_ok {X : Nat} (h : XOk X) : DOk (pD X) := ⟨show 1 ≤ 41 by decide, fun _ => ⟨h, by show 0 < 2 ^ 0; decide, fun n hn => absurd hn (by show ¬ n < 1 - 1; omega)⟩⟩
def plS (S : ST) (d : PD) (X : Nat) : ST := S.wP d (pD X) (fun _ => nD)
theorem plS_ok {S : ST} (h : SOk S) {d : PD} {X : Nat} (hd : d.ok) (hX : XOk X) (hn : d.nL = 0 ↔ d.nA = 0) : SOk (plS S d X) := ⟨hd, pD_ok hX, show 0 < 1 by decide, fun _ _ => nD_ok, h.rz, h.tz, h.tv, hn⟩
theorem Cls_P {S : ST} {I : xI} {L : xL} (h : Cls S I L) {d : PD} {X : Nat} {f : Nat → Int32} (hf : plv d f) (hd : d.ok) (hX : XOk X) (hn : d.nL = 0 ↔ d.nA = 0) : Cls (plS S d X) (xup (xup (xup (xup (xrw I 11 f) 12 3 (nI 0)) 21 3 (-(nI 1))) 23 3 (-(nI 1))) 25 3 (-(nI 1))) (xup (xup L 12 1 (lN X)) 12 2 (lN 0)) :=
  ⟨plS_ok h.ok hd hX hn, ⟨hf.1, hf.2.1, hf.2.2.1, hf.2.2.2.1, hf.2.2.2.2, hd⟩, ⟨rfl, fun _ => ⟨rfl, rfl, fun n hn => absurd hn (by show ¬ n < 1 - 1; omega)⟩⟩, ⟨⟨rfl, fun q => absurd q (show ¬ 0 < 0 by decide)⟩, ⟨rfl, fun q => absurd q (show ¬ 0 < 0 by decide)⟩, ⟨rfl, fun q => absurd q (show ¬ 0 < 0 by decide)⟩⟩, ⟨h.m2, h.rz, h.rv⟩, ⟨h.m5, h.tz, h.tv⟩, h.fc, h.lf, h.to, h.ov, h.un⟩
def plainR (S : ST) (t o : Int32) (S' : ST) : Prop := (ibB t 4 = false ∧ o = -(nI 1) ∧ S' = S) ∨ (∃ j, t = nI j ∧ j < 4 ∧ ((S.tz j = 0 ∧ fin S 1 o S') ∨ (∃ n, S.tz j = n + 1 ∧ (((rdF (txV S j) n).2 = false ∧ o = -(nI 4) ∧ S' = S) ∨ ((rdF (txV S j) n).2 = true ∧ o = nI (rdF (txV S j) n).1.d.nL ∧ S' = plS S (rdF (txV S j) n).1.d (rdF (txV S j) n).1.X)))))
theorem frC_P (I : xI) (L : xL) (f : Nat → Int32) (a b c d : Int32) (x y : Int64) : frC I L (xup (xup (xup (xup (xrw I 11 f) 12 3 a) 21 3 b) 23 3 c) 25 3 d) (xup (xup L 12 1 x) 12 2 y) :=
  frC_t (frC_W (by decide) _ _ f) (frC_t (frC_I (by decide) _ _ 3 a) (frC_t (frC_I (by decide) _ _ 3 b) (frC_t (frC_I (by decide) _ _ 3 c) (frC_t (frC_I (by decide) _ _ 3 d) (frC_t (frC_L (by decide) _ _ 1 x) (frC_L (by decide) _ _ 2 y))))))
def csX10_plain : xCs := [(mX8_isNumber, sX8_isNumber), (mX8_isThere, sX8_isThere), (mX10_refuse, sX10_refuse), (mX6_read, sX6_read), (mX5_become, sX5_become), (mX1_begin, sX1_begin), (mX10_keptAt, sX10_keptAt), (mX1_drop, sX1_drop)]
theorem okX10_plain : xOkM mX10_plain csX10_plain := ⟨dX10_plain, by decide +kernel, by decide +kernel, ⟨wdX10_18, wdX10_75, wdX10_18, wdX10_101, wdX10_79, wdX10_24, wdX10_18, wdX10_123, wdX10_31, wdX10_24, wdX10_127, wdX10_130, wdX10_38, wdX10_24, wdX10_134, wdX10_71, wdX10_138, wdX10_142, wdX10_31, wdX10_144, trivial⟩⟩
theorem hhX10_plain : ∀ q ∈ csX10_plain, xHd q.1 := xall1 hX8_isNumber (xall1 hX8_isThere (xall1 hX10_refuse (xall1 hX6_read (xall1 hX5_become (xall1 hX1_begin (xall1 hX10_keptAt (xall1 hX1_drop (xall0))))))))
theorem kkX10_plain : ∀ q ∈ csX10_plain, ∀ l, xCon l q.1 q.2 := xall1 kX8_isNumber (xall1 kX8_isThere (xall1 kX10_refuse (xall1 kX6_read (xall1 kX5_become (xall1 kX1_begin (xall1 kX10_keptAt (xall1 kX1_drop (xall0))))))))
def sX10_plain : xSpec := xReg fun as I L Q => ∃ (S : ST) (t : Int32), as = [.ref 1, .int t] ∧ Cls S I L ∧ (∀ o S' I' L', plainR S t o S' → frC I L I' L' → Cls S' I' L' → Q (some (.int o)) I' L')
set_option maxRecDepth 100000 in
theorem kX10_plain : ∀ l, xCon l mX10_plain sX10_plain := by
  refine xcon_of okX10_plain hX10_plain rfl hhX10_plain kkX10_plain ?_
  rintro as n0 I L P Q ⟨hn9, rfl, S, t, rfl, hC, hQ⟩
  obtain ⟨e9, rfl⟩ := xe9 hn9
  refine ⟨Nat.le_of_ble_eq_true rfl, ?_⟩
  refine xrun okX10_plain hhX10_plain [] 120 ?_
  refine ⟨rfl, rfl, 5, 6, 7, 4, 60, t, Or.inr ⟨rfl, rfl, rfl, rfl, rfl⟩, rfl, fun hr => ?_, fun hr => ?_⟩
  · have hb := (in_ib (by decide)).mp hr
    obtain ⟨j, hj, rfl⟩ := ibB_t hb (by decide)
    (first | refine xbr_t (by decide) ?_ | refine xbr_f (by decide) ?_)
    have hz := hC.tz j hj
    have hz41 := hC.ok.tz j hj
    by_cases h0 : S.tz j = 0
    · rw [h0, szI_0] at hz
      repeat (first | (refine xbr_f ?_ ?_; (focus ((simp (disch := omega) only [ix_lt, ix_le, ix_eq, ix_0, nI_clamp, nI_toInt, ng_T, nI_add, nI_mul, nI_sub', Int.neg_zero, not_false_eq_true, not_true_eq_false, hz] <;> omega); done))) | (refine xbr_t ?_ ?_; (focus ((simp (disch := omega) only [ix_lt, ix_le, ix_eq, ix_0, nI_clamp, nI_toInt, ng_T, nI_add, nI_mul, nI_sub', Int.neg_zero, not_false_eq_true, not_true_eq_false, hz] <;> omega); done))) | refine ⟨Or.inl rfl, ?_⟩ | refine ⟨Or.inr rfl, ?_⟩ | (refine ⟨?_, ?_⟩; (focus ((try simp (disch := omega) only [hz, nI_mul, nI_add, nI_sub']); exact in_nI (by omega) (by omega)))))
      refine ⟨rfl, rfl, S, 1, rfl, by decide, hC, fun I' hf hC' => ?_⟩
      exact hQ _ _ _ _ (Or.inr ⟨j, rfl, hj, Or.inl ⟨h0, rfl, rfl⟩⟩) hf hC'
    · obtain ⟨s, hs⟩ : ∃ s, S.tz j = s + 1 := ⟨S.tz j - 1, by omega⟩
      rw [hs, szI_s] at hz
      repeat (first | (refine xbr_f ?_ ?_; (focus ((simp (disch := omega) only [ix_lt, ix_le, ix_eq, ix_0, nI_clamp, nI_toInt, ng_T, nI_add, nI_mul, nI_sub', Int.neg_zero, not_false_eq_true, not_true_eq_false, hz] <;> omega); done))) | (refine xbr_t ?_ ?_; (focus ((simp (disch := omega) only [ix_lt, ix_le, ix_eq, ix_0, nI_clamp, nI_toInt, ng_T, nI_add, nI_mul, nI_sub', Int.neg_zero, not_false_eq_true, not_true_eq_false, hz] <;> omega); done))) | refine ⟨Or.inl rfl, ?_⟩ | refine ⟨Or.inr rfl, ?_⟩ | (refine ⟨?_, ?_⟩; (focus ((try simp (disch := omega) only [hz, nI_mul, nI_add, nI_sub']); exact in_nI (by omega) (by omega)))))
      refine ⟨rfl, rfl, txV S j, s, j, rfl, hj, by omega, hz, hC.m5, fun k hk => ⟨by rw [hC.tv]; rfl, tv_no hC.ok _⟩, fun I' L' hW hf => ?_⟩
      have hC' := Cls_s hC (fun c a b d _ => hf.1 c a b d) (fun c a _ => hf.2 c a)
      cases hF : (rdF (txV S j) s).2
      · rw [if_neg (by decide)]
        have hsp : (rdF (txV S j) s).1.sp ≤ 60 := Nat.le_trans hW.2.2.2.2.1 hW.2.1
        (first | (refine xbr_f ?_ ?_; (focus ((simp (disch := omega) only [ix_lt, ix_le, ix_eq, ix_0, nI_clamp, nI_toInt, ng_T, nI_add, nI_mul, nI_sub', Int.neg_zero, not_false_eq_true, not_true_eq_false] <;> omega); done))) | (refine xbr_t ?_ ?_; (focus ((simp (disch := omega) only [ix_lt, ix_le, ix_eq, ix_0, nI_clamp, nI_toInt, ng_T, nI_add, nI_mul, nI_sub', Int.neg_zero, not_false_eq_true, not_true_eq_false] <;> omega); done))) | refine ⟨Or.inl rfl, ?_⟩ | refine ⟨Or.inr rfl, ?_⟩ | (refine ⟨?_, ?_⟩; (focus (exact in_nI (by omega) (by omega)))))
        exact hQ _ _ _ _ (Or.inr ⟨j, rfl, hj, Or.inr ⟨s, hs, Or.inl ⟨hF, rfl, rfl⟩⟩⟩) (frC_D hf) hC'
      · rw [if_pos rfl]
        (first | refine xbr_t (by decide) ?_ | refine xbr_f (by decide) ?_)
        obtain ⟨k1, k2, k3⟩ := rdF_ok hF
        refine ⟨rfl, rfl, _, hW.2.2.2.2.2.2.2.1, rfl, fun f hpl => ?_⟩
        have e8 : L' 8 2 = lN (rdF (txV S j) s).1.X := hW.2.2.2.2.2.1
        have hd := Cls_P hC' hpl k1 k2 k3
        rw [← e8] at hd
        repeat (first | (refine xbr_f ?_ ?_; (focus ((simp (disch := omega) only [ix_lt, ix_le, ix_eq, ix_0, nI_clamp, nI_toInt, ng_T, nI_add, nI_mul, nI_sub', Int.neg_zero, not_false_eq_true, not_true_eq_false] <;> omega); done))) | (refine xbr_t ?_ ?_; (focus ((simp (disch := omega) only [ix_lt, ix_le, ix_eq, ix_0, nI_clamp, nI_toInt, ng_T, nI_add, nI_mul, nI_sub', Int.neg_zero, not_false_eq_true, not_true_eq_false] <;> omega); done))) | refine ⟨Or.inl rfl, ?_⟩ | refine ⟨Or.inr rfl, ?_⟩ | (refine ⟨?_, ?_⟩; (focus (exact in_nI (by omega) (by omega)))))
        refine ⟨rfl, rfl, _, rfl, fun _ => ?_, fun q => absurd q (by decide), fun q => absurd q (by decide), fun q => absurd q (by decide)⟩
        repeat (first | (refine xbr_f ?_ ?_; (focus ((simp (disch := omega) only [ix_lt, ix_le, ix_eq, ix_0, nI_clamp, nI_toInt, ng_T, nI_add, nI_mul, nI_sub', Int.neg_zero, not_false_eq_true, not_true_eq_false] <;> omega); done))) | (refine xbr_t ?_ ?_; (focus ((simp (disch := omega) only [ix_lt, ix_le, ix_eq, ix_0, nI_clamp, nI_toInt, ng_T, nI_add, nI_mul, nI_sub', Int.neg_zero, not_false_eq_true, not_true_eq_false] <;> omega); done))) | refine ⟨Or.inl rfl, ?_⟩ | refine ⟨Or.inr rfl, ?_⟩ | (refine ⟨?_, ?_⟩; (focus (exact in_nI (by omega) (by omega)))))
        refine ⟨rfl, rfl, _, rfl, fun q => absurd q (by decide), fun _ => ?_, fun q => absurd q (by decide), fun q => absurd q (by decide)⟩
        repeat (first | (refine xbr_f ?_ ?_; (focus ((simp (disch := omega) only [ix_lt, ix_le, ix_eq, ix_0, nI_clamp, nI_toInt, ng_T, nI_add, nI_mul, nI_sub', Int.neg_zero, not_false_eq_true, not_true_eq_false] <;> omega); done))) | (refine xbr_t ?_ ?_; (focus ((simp (disch := omega) only [ix_lt, ix_le, ix_eq, ix_0, nI_clamp, nI_toInt, ng_T, nI_add, nI_mul, nI_sub', Int.neg_zero, not_false_eq_true, not_true_eq_false] <;> omega); done))) | refine ⟨Or.inl rfl, ?_⟩ | refine ⟨Or.inr rfl, ?_⟩ | (refine ⟨?_, ?_⟩; (focus (exact in_nI (by omega) (by omega)))))
        refine ⟨rfl, rfl, _, rfl, fun q => absurd q (by decide), fun q => absurd q (by decide), fun _ => ?_, fun q => absurd q (by decide)⟩
        repeat (first | (refine xbr_f ?_ ?_; (focus ((simp (disch := omega) only [ix_lt, ix_le, ix_eq, ix_0, nI_clamp, nI_toInt, ng_T, nI_add, nI_mul, nI_sub', Int.neg_zero, not_false_eq_true, not_true_eq_false] <;> omega); done))) | (refine xbr_t ?_ ?_; (focus ((simp (disch := omega) only [ix_lt, ix_le, ix_eq, ix_0, nI_clamp, nI_toInt, ng_T, nI_add, nI_mul, nI_sub', Int.neg_zero, not_false_eq_true, not_true_eq_false] <;> omega); done))) | refine ⟨Or.inl rfl, ?_⟩ | refine ⟨Or.inr rfl, ?_⟩ | (refine ⟨?_, ?_⟩; (focus (exact in_nI (by omega) (by omega)))))
        refine hQ _ _ _ _ (Or.inr ⟨j, rfl, hj, Or.inr ⟨s, hs, Or.inr ⟨hF, hpl.2.1, rfl⟩⟩⟩) (frC_t (frC_D hf) (frC_P _ _ _ _ _ _ _ _ _)) hd
  · have hb := ib_no (by decide) hr
    (first | refine xbr_t (by decide) ?_ | refine xbr_f (by decide) ?_)
    exact hQ _ _ _ _ (Or.inl ⟨hb, rfl, rfl⟩) (frC_0 _ _) hC
def oaI (d : PD) (X a k : Nat) : Int32 := if k = 0 then nI (kdN d a) else if k = 1 then nI (meN X a) else if k = 2 then nI (inN X a) else cI (getN (tkN d X 27 15 d.nA).1 (3 * a) 3)
def olI (d : PD) (X l k : Nat) : Int32 := if k = 0 then nI (mkN X l) else if k = 1 then nI (plN X l) else if k = 2 then nI (hmN d l) else if k = 3 then bI (hmB d X l) else cI (tkrN (tkN d X 27 15 d.nA).1 l)
def csX10_ofAss : xCs := [(mX5_kindOf, sX5_kindOf), (mX7_memoryOf, sX7_memoryOf), (mX7_innOf, sX7_innOf), (mX5_takesOf, sX5_takesOf), (mX5_loadTaken, sX5_loadTaken)]
theorem okX10_ofAss : xOkM mX10_ofAss csX10_ofAss := ⟨dX10_ofAss, by decide +kernel, by decide +kernel, ⟨wdX10_38, wdX10_169, wdX10_31, wdX10_162, wdX10_172, wdX10_211, wdX10_31, wdX10_365, wdX10_368, trivial⟩⟩
theorem hhX10_ofAss : ∀ q ∈ csX10_ofAss, xHd q.1 := xall1 hX5_kindOf (xall1 hX7_memoryOf (xall1 hX7_innOf (xall1 hX5_takesOf (xall1 hX5_loadTaken (xall0)))))
theorem kkX10_ofAss : ∀ q ∈ csX10_ofAss, ∀ l, xCon l q.1 q.2 := xall1 kX5_kindOf (xall1 kX7_memoryOf (xall1 kX7_innOf (xall1 kX5_takesOf (xall1 kX5_loadTaken (xall0)))))
def sX10_ofAss : xSpec := xReg fun as I L Q => ∃ (S : ST) (a k : Nat), as = [.ref 1, .int (nI a), .int (nI k)] ∧ a < 4 ∧ k < 4 ∧ Cls S I L ∧ Q (some (.int (oaI S.d S.D.X a k))) I L
set_option maxRecDepth 100000 in
theorem kX10_ofAss : ∀ l, xCon l mX10_ofAss sX10_ofAss := by
  refine xcon_of okX10_ofAss hX10_ofAss rfl hhX10_ofAss kkX10_ofAss ?_
  rintro as n0 I L P Q ⟨hn9, rfl, S, a, k, rfl, ha, hk, hC, hQ⟩
  obtain ⟨e9, rfl⟩ := xe9 hn9
  refine ⟨Nat.le_of_ble_eq_true rfl, ?_⟩
  refine xrun okX10_ofAss hhX10_ofAss [] 60 ?_
  have hX : S.D.X < 2 ^ 63 := hC.ok.X.1
  have hT := tkN_lt hC.ok.d S.D.X 27 15 S.d.nA
  have eX := hC.X
  rcases (by omega : k = 0 ∨ k = 1 ∨ k = 2 ∨ k = 3) with rfl | rfl | rfl | rfl
  · repeat (first | (refine xbr_f ?_ ?_; (focus ((simp (disch := omega) only [ix_lt, ix_le, ix_eq, ix_0, nI_clamp, nI_toInt, ng_T, nI_add, nI_mul, nI_sub', Int.neg_zero, not_false_eq_true, not_true_eq_false] <;> omega); done))) | (refine xbr_t ?_ ?_; (focus ((simp (disch := omega) only [ix_lt, ix_le, ix_eq, ix_0, nI_clamp, nI_toInt, ng_T, nI_add, nI_mul, nI_sub', Int.neg_zero, not_false_eq_true, not_true_eq_false] <;> omega); done))) | refine ⟨Or.inl rfl, ?_⟩ | refine ⟨Or.inr rfl, ?_⟩ | (refine ⟨?_, ?_⟩; (focus (exact in_nI (by omega) (by omega)))))
    exact ⟨rfl, rfl, S.d, a, hC.pl, rfl, by omega, hQ⟩
  · repeat (first | (refine xbr_f ?_ ?_; (focus ((simp (disch := omega) only [ix_lt, ix_le, ix_eq, ix_0, nI_clamp, nI_toInt, ng_T, nI_add, nI_mul, nI_sub', Int.neg_zero, not_false_eq_true, not_true_eq_false] <;> omega); done))) | (refine xbr_t ?_ ?_; (focus ((simp (disch := omega) only [ix_lt, ix_le, ix_eq, ix_0, nI_clamp, nI_toInt, ng_T, nI_add, nI_mul, nI_sub', Int.neg_zero, not_false_eq_true, not_true_eq_false] <;> omega); done))) | refine ⟨Or.inl rfl, ?_⟩ | refine ⟨Or.inr rfl, ?_⟩ | (refine ⟨?_, ?_⟩; (focus (exact in_nI (by omega) (by omega)))))
    exact ⟨rfl, rfl, S.D.X, a, by rw [eX], by omega, ha, hQ⟩
  · repeat (first | (refine xbr_f ?_ ?_; (focus ((simp (disch := omega) only [ix_lt, ix_le, ix_eq, ix_0, nI_clamp, nI_toInt, ng_T, nI_add, nI_mul, nI_sub', Int.neg_zero, not_false_eq_true, not_true_eq_false] <;> omega); done))) | (refine xbr_t ?_ ?_; (focus ((simp (disch := omega) only [ix_lt, ix_le, ix_eq, ix_0, nI_clamp, nI_toInt, ng_T, nI_add, nI_mul, nI_sub', Int.neg_zero, not_false_eq_true, not_true_eq_false] <;> omega); done))) | refine ⟨Or.inl rfl, ?_⟩ | refine ⟨Or.inr rfl, ?_⟩ | (refine ⟨?_, ?_⟩; (focus (exact in_nI (by omega) (by omega)))))
    exact ⟨rfl, rfl, S.D.X, a, by rw [eX], by omega, ha, hQ⟩
  · repeat (first | (refine xbr_f ?_ ?_; (focus ((simp (disch := omega) only [ix_lt, ix_le, ix_eq, ix_0, nI_clamp, nI_toInt, ng_T, nI_add, nI_mul, nI_sub', Int.neg_zero, not_false_eq_true, not_true_eq_false] <;> omega); done))) | (refine xbr_t ?_ ?_; (focus ((simp (disch := omega) only [ix_lt, ix_le, ix_eq, ix_0, nI_clamp, nI_toInt, ng_T, nI_add, nI_mul, nI_sub', Int.neg_zero, not_false_eq_true, not_true_eq_false] <;> omega); done))) | refine ⟨Or.inl rfl, ?_⟩ | refine ⟨Or.inr rfl, ?_⟩ | (refine ⟨?_, ?_⟩; (focus (exact in_nI (by omega) (by omega)))))
    exact ⟨rfl, rfl, S.d, S.D.X, 27, 15, hC.pl, by rw [eX], hX, by decide, by decide, rfl, rfl, _, a, rfl, by omega, ha, hQ⟩
def csX10_ofLoad : xCs := [(mX7_marksOf, sX7_marksOf), (mX7_placeOf, sX7_placeOf), (mX5_homeOf, sX5_homeOf), (mX5_isHome, sX5_isHome), (mX5_takesOf, sX5_takesOf), (mX5_takerOf, sX5_takerOf)]
theorem okX10_ofLoad : xOkM mX10_ofLoad csX10_ofLoad := ⟨dX10_ofLoad, by decide +kernel, by decide +kernel, ⟨wdX10_38, wdX10_169, wdX10_208, wdX10_244, wdX10_31, wdX10_371, wdX10_31, wdX10_374, wdX10_31, wdX10_365, wdX10_378, trivial⟩⟩
theorem hhX10_ofLoad : ∀ q ∈ csX10_ofLoad, xHd q.1 := xall1 hX7_marksOf (xall1 hX7_placeOf (xall1 hX5_homeOf (xall1 hX5_isHome (xall1 hX5_takesOf (xall1 hX5_takerOf (xall0))))))
theorem kkX10_ofLoad : ∀ q ∈ csX10_ofLoad, ∀ l, xCon l q.1 q.2 := xall1 kX7_marksOf (xall1 kX7_placeOf (xall1 kX5_homeOf (xall1 kX5_isHome (xall1 kX5_takesOf (xall1 kX5_takerOf (xall0))))))
def sX10_ofLoad : xSpec := xReg fun as I L Q => ∃ (S : ST) (a k : Nat), as = [.ref 1, .int (nI a), .int (nI k)] ∧ a < 5 ∧ k < 5 ∧ Cls S I L ∧ Q (some (.int (olI S.d S.D.X a k))) I L
set_option maxRecDepth 100000 in
theorem kX10_ofLoad : ∀ l, xCon l mX10_ofLoad sX10_ofLoad := by
  refine xcon_of okX10_ofLoad hX10_ofLoad rfl hhX10_ofLoad kkX10_ofLoad ?_
  rintro as n0 I L P Q ⟨hn9, rfl, S, a, k, rfl, ha, hk, hC, hQ⟩
  obtain ⟨e9, rfl⟩ := xe9 hn9
  refine ⟨Nat.le_of_ble_eq_true rfl, ?_⟩
  refine xrun okX10_ofLoad hhX10_ofLoad [] 60 ?_
  have hX : S.D.X < 2 ^ 63 := hC.ok.X.1
  have hT := tkN_lt hC.ok.d S.D.X 27 15 S.d.nA
  have eX := hC.X
  rcases (by omega : k = 0 ∨ k = 1 ∨ k = 2 ∨ k = 3 ∨ k = 4) with rfl | rfl | rfl | rfl | rfl
  · repeat (first | (refine xbr_f ?_ ?_; (focus ((simp (disch := omega) only [ix_lt, ix_le, ix_eq, ix_0, nI_clamp, nI_toInt, ng_T, nI_add, nI_mul, nI_sub', Int.neg_zero, not_false_eq_true, not_true_eq_false] <;> omega); done))) | (refine xbr_t ?_ ?_; (focus ((simp (disch := omega) only [ix_lt, ix_le, ix_eq, ix_0, nI_clamp, nI_toInt, ng_T, nI_add, nI_mul, nI_sub', Int.neg_zero, not_false_eq_true, not_true_eq_false] <;> omega); done))) | refine ⟨Or.inl rfl, ?_⟩ | refine ⟨Or.inr rfl, ?_⟩ | (refine ⟨?_, ?_⟩; (focus (exact in_nI (by omega) (by omega)))))
    exact ⟨rfl, rfl, S.D.X, a, by rw [eX], by omega, ha, hQ⟩
  · repeat (first | (refine xbr_f ?_ ?_; (focus ((simp (disch := omega) only [ix_lt, ix_le, ix_eq, ix_0, nI_clamp, nI_toInt, ng_T, nI_add, nI_mul, nI_sub', Int.neg_zero, not_false_eq_true, not_true_eq_false] <;> omega); done))) | (refine xbr_t ?_ ?_; (focus ((simp (disch := omega) only [ix_lt, ix_le, ix_eq, ix_0, nI_clamp, nI_toInt, ng_T, nI_add, nI_mul, nI_sub', Int.neg_zero, not_false_eq_true, not_true_eq_false] <;> omega); done))) | refine ⟨Or.inl rfl, ?_⟩ | refine ⟨Or.inr rfl, ?_⟩ | (refine ⟨?_, ?_⟩; (focus (exact in_nI (by omega) (by omega)))))
    exact ⟨rfl, rfl, S.D.X, a, by rw [eX], by omega, ha, hQ⟩
  · repeat (first | (refine xbr_f ?_ ?_; (focus ((simp (disch := omega) only [ix_lt, ix_le, ix_eq, ix_0, nI_clamp, nI_toInt, ng_T, nI_add, nI_mul, nI_sub', Int.neg_zero, not_false_eq_true, not_true_eq_false] <;> omega); done))) | (refine xbr_t ?_ ?_; (focus ((simp (disch := omega) only [ix_lt, ix_le, ix_eq, ix_0, nI_clamp, nI_toInt, ng_T, nI_add, nI_mul, nI_sub', Int.neg_zero, not_false_eq_true, not_true_eq_false] <;> omega); done))) | refine ⟨Or.inl rfl, ?_⟩ | refine ⟨Or.inr rfl, ?_⟩ | (refine ⟨?_, ?_⟩; (focus (exact in_nI (by omega) (by omega)))))
    exact ⟨rfl, rfl, S.d, a, hC.pl, rfl, by omega, hQ⟩
  · repeat (first | (refine xbr_f ?_ ?_; (focus ((simp (disch := omega) only [ix_lt, ix_le, ix_eq, ix_0, nI_clamp, nI_toInt, ng_T, nI_add, nI_mul, nI_sub', Int.neg_zero, not_false_eq_true, not_true_eq_false] <;> omega); done))) | (refine xbr_t ?_ ?_; (focus ((simp (disch := omega) only [ix_lt, ix_le, ix_eq, ix_0, nI_clamp, nI_toInt, ng_T, nI_add, nI_mul, nI_sub', Int.neg_zero, not_false_eq_true, not_true_eq_false] <;> omega); done))) | refine ⟨Or.inl rfl, ?_⟩ | refine ⟨Or.inr rfl, ?_⟩ | (refine ⟨?_, ?_⟩; (focus (exact in_nI (by omega) (by omega)))))
    refine ⟨rfl, rfl, S.d, S.D.X, a, hC.pl, by rw [eX], hX, ha, ?_⟩
    have e : olI S.d S.D.X a 3 = bI (hmB S.d S.D.X a) := rfl
    rw [e] at hQ
    cases hb : hmB S.d S.D.X a
    · rw [hb] at hQ
      (first | refine xbr_t (by decide) ?_ | refine xbr_f (by decide) ?_)
      exact hQ
    · rw [hb] at hQ
      (first | refine xbr_t (by decide) ?_ | refine xbr_f (by decide) ?_)
      exact hQ
  · repeat (first | (refine xbr_f ?_ ?_; (focus ((simp (disch := omega) only [ix_lt, ix_le, ix_eq, ix_0, nI_clamp, nI_toInt, ng_T, nI_add, nI_mul, nI_sub', Int.neg_zero, not_false_eq_true, not_true_eq_false] <;> omega); done))) | (refine xbr_t ?_ ?_; (focus ((simp (disch := omega) only [ix_lt, ix_le, ix_eq, ix_0, nI_clamp, nI_toInt, ng_T, nI_add, nI_mul, nI_sub', Int.neg_zero, not_false_eq_true, not_true_eq_false] <;> omega); done))) | refine ⟨Or.inl rfl, ?_⟩ | refine ⟨Or.inr rfl, ?_⟩ | (refine ⟨?_, ?_⟩; (focus (exact in_nI (by omega) (by omega)))))
    exact ⟨rfl, rfl, S.d, S.D.X, 27, 15, hC.pl, by rw [eX], hX, by decide, by decide, rfl, rfl, _, a, rfl, by omega, by omega, hQ⟩
def assR (S : ST) (i w o : Int32) (S' : ST) : Prop := (¬ (ibB i S.d.nA = true ∧ ibB w 4 = true) ∧ o = -(nI 1) ∧ S' = S) ∨ (∃ a k, i = nI a ∧ a < S.d.nA ∧ w = nI k ∧ k < 4 ∧ o = nI 1 ∧ S' = S.wT (oaI S.d S.D.X a k))
def loadR (S : ST) (i w o : Int32) (S' : ST) : Prop := (¬ (ibB i S.d.nL = true ∧ ibB w 5 = true) ∧ o = -(nI 1) ∧ S' = S) ∨ (∃ a k, i = nI a ∧ a < S.d.nL ∧ w = nI k ∧ k < 5 ∧ o = nI 1 ∧ S' = S.wT (olI S.d S.D.X a k))
def csX10_ass : xCs := [(mX5_isAss, sX5_isAss), (mX10_ofAss, sX10_ofAss), (mX10_tell, sX10_tell)]
theorem okX10_ass : xOkM mX10_ass csX10_ass := ⟨dX10_ass, by decide +kernel, by decide +kernel, ⟨wdX10_31, wdX10_148, wdX10_151, wdX10_95, trivial⟩⟩
theorem hhX10_ass : ∀ q ∈ csX10_ass, xHd q.1 := xall1 hX5_isAss (xall1 hX10_ofAss (xall1 hX10_tell (xall0)))
theorem kkX10_ass : ∀ q ∈ csX10_ass, ∀ l, xCon l q.1 q.2 := xall1 kX5_isAss (xall1 kX10_ofAss (xall1 kX10_tell (xall0)))
def sX10_ass : xSpec := xReg fun as I L Q => ∃ (S : ST) (i w : Int32), as = [.ref 1, .int i, .int w] ∧ Cls S I L ∧ (∀ o S' I' L', assR S i w o S' → frC I L I' L' → Cls S' I' L' → Q (some (.int o)) I' L')
set_option maxRecDepth 100000 in
theorem kX10_ass : ∀ l, xCon l mX10_ass sX10_ass := by
  refine xcon_of okX10_ass hX10_ass rfl hhX10_ass kkX10_ass ?_
  rintro as n0 I L P Q ⟨hn9, rfl, S, i, w, rfl, hC, hQ⟩
  obtain ⟨e9, rfl⟩ := xe9 hn9
  refine ⟨Nat.le_of_ble_eq_true rfl, ?_⟩
  refine xrun okX10_ass hhX10_ass [] 60 ?_
  have h4 := hC.ok.d.a4
  refine ⟨rfl, rfl, S.d, i, hC.pl, rfl, ?_⟩
  cases hb : ibB i S.d.nA
  · (first | refine xbr_t (by decide) ?_ | refine xbr_f (by decide) ?_)
    exact hQ _ _ _ _ (Or.inl ⟨fun q => by rw [hb] at q; exact absurd q.1 (by decide), rfl, rfl⟩) (frC_0 _ _) hC
  · (first | refine xbr_t (by decide) ?_ | refine xbr_f (by decide) ?_)
    cases hw : ibB w 4
    · have hk := ib_f hw
      have done := hQ _ _ _ _ (Or.inl ⟨fun q => by rw [hw] at q; exact absurd q.2 (by decide), rfl, rfl⟩) (frC_0 _ _) hC
      by_cases hn : w.toInt < 0
      · repeat (first | (refine xbr_f ?_ ?_; (focus ((simp (disch := omega) only [ix_lt, ix_le, ix_eq, ix_0, nI_clamp, nI_toInt, ng_T, nI_add, nI_mul, nI_sub', Int.neg_zero, not_false_eq_true, not_true_eq_false] <;> omega); done))) | (refine xbr_t ?_ ?_; (focus ((simp (disch := omega) only [ix_lt, ix_le, ix_eq, ix_0, nI_clamp, nI_toInt, ng_T, nI_add, nI_mul, nI_sub', Int.neg_zero, not_false_eq_true, not_true_eq_false] <;> omega); done))) | refine ⟨Or.inl rfl, ?_⟩ | refine ⟨Or.inr rfl, ?_⟩ | (refine ⟨?_, ?_⟩; (focus (exact in_nI (by omega) (by omega)))))
        exact done
      · repeat (first | (refine xbr_f ?_ ?_; (focus ((simp (disch := omega) only [ix_lt, ix_le, ix_eq, ix_0, nI_clamp, nI_toInt, ng_T, nI_add, nI_mul, nI_sub', Int.neg_zero, not_false_eq_true, not_true_eq_false] <;> omega); done))) | (refine xbr_t ?_ ?_; (focus ((simp (disch := omega) only [ix_lt, ix_le, ix_eq, ix_0, nI_clamp, nI_toInt, ng_T, nI_add, nI_mul, nI_sub', Int.neg_zero, not_false_eq_true, not_true_eq_false] <;> omega); done))) | refine ⟨Or.inl rfl, ?_⟩ | refine ⟨Or.inr rfl, ?_⟩ | (refine ⟨?_, ?_⟩; (focus (exact in_nI (by omega) (by omega)))))
        exact done
    · obtain ⟨a, ha, rfl⟩ := ibB_t hb (by omega)
      obtain ⟨k, hk, rfl⟩ := ibB_t hw (by decide)
      repeat (first | (refine xbr_f ?_ ?_; (focus ((simp (disch := omega) only [ix_lt, ix_le, ix_eq, ix_0, nI_clamp, nI_toInt, ng_T, nI_add, nI_mul, nI_sub', Int.neg_zero, not_false_eq_true, not_true_eq_false] <;> omega); done))) | (refine xbr_t ?_ ?_; (focus ((simp (disch := omega) only [ix_lt, ix_le, ix_eq, ix_0, nI_clamp, nI_toInt, ng_T, nI_add, nI_mul, nI_sub', Int.neg_zero, not_false_eq_true, not_true_eq_false] <;> omega); done))) | refine ⟨Or.inl rfl, ?_⟩ | refine ⟨Or.inr rfl, ?_⟩ | (refine ⟨?_, ?_⟩; (focus (exact in_nI (by omega) (by omega)))))
      refine ⟨rfl, rfl, S, a, k, rfl, by omega, hk, hC, ?_⟩
      refine ⟨rfl, rfl, S, _, rfl, hC, fun I' hf hC' => ?_⟩
      exact hQ _ _ _ _ (Or.inr ⟨a, k, rfl, ha, rfl, hk, rfl, rfl⟩) hf hC'
def csX10_load : xCs := [(mX5_isLoad, sX5_isLoad), (mX10_ofLoad, sX10_ofLoad), (mX10_tell, sX10_tell)]
theorem okX10_load : xOkM mX10_load csX10_load := ⟨dX10_load, by decide +kernel, by decide +kernel, ⟨wdX10_31, wdX10_154, wdX10_157, wdX10_95, trivial⟩⟩
theorem hhX10_load : ∀ q ∈ csX10_load, xHd q.1 := xall1 hX5_isLoad (xall1 hX10_ofLoad (xall1 hX10_tell (xall0)))
theorem kkX10_load : ∀ q ∈ csX10_load, ∀ l, xCon l q.1 q.2 := xall1 kX5_isLoad (xall1 kX10_ofLoad (xall1 kX10_tell (xall0)))
def sX10_load : xSpec := xReg fun as I L Q => ∃ (S : ST) (i w : Int32), as = [.ref 1, .int i, .int w] ∧ Cls S I L ∧ (∀ o S' I' L', loadR S i w o S' → frC I L I' L' → Cls S' I' L' → Q (some (.int o)) I' L')
set_option maxRecDepth 100000 in
theorem kX10_load : ∀ l, xCon l mX10_load sX10_load := by
  refine xcon_of okX10_load hX10_load rfl hhX10_load kkX10_load ?_
  rintro as n0 I L P Q ⟨hn9, rfl, S, i, w, rfl, hC, hQ⟩
  obtain ⟨e9, rfl⟩ := xe9 hn9
  refine ⟨Nat.le_of_ble_eq_true rfl, ?_⟩
  refine xrun okX10_load hhX10_load [] 60 ?_
  have h5 := hC.ok.d.l5
  refine ⟨rfl, rfl, S.d, i, hC.pl, rfl, ?_⟩
  cases hb : ibB i S.d.nL
  · (first | refine xbr_t (by decide) ?_ | refine xbr_f (by decide) ?_)
    exact hQ _ _ _ _ (Or.inl ⟨fun q => by rw [hb] at q; exact absurd q.1 (by decide), rfl, rfl⟩) (frC_0 _ _) hC
  · (first | refine xbr_t (by decide) ?_ | refine xbr_f (by decide) ?_)
    cases hw : ibB w 5
    · have hk := ib_f hw
      have done := hQ _ _ _ _ (Or.inl ⟨fun q => by rw [hw] at q; exact absurd q.2 (by decide), rfl, rfl⟩) (frC_0 _ _) hC
      by_cases hn : w.toInt < 0
      · repeat (first | (refine xbr_f ?_ ?_; (focus ((simp (disch := omega) only [ix_lt, ix_le, ix_eq, ix_0, nI_clamp, nI_toInt, ng_T, nI_add, nI_mul, nI_sub', Int.neg_zero, not_false_eq_true, not_true_eq_false] <;> omega); done))) | (refine xbr_t ?_ ?_; (focus ((simp (disch := omega) only [ix_lt, ix_le, ix_eq, ix_0, nI_clamp, nI_toInt, ng_T, nI_add, nI_mul, nI_sub', Int.neg_zero, not_false_eq_true, not_true_eq_false] <;> omega); done))) | refine ⟨Or.inl rfl, ?_⟩ | refine ⟨Or.inr rfl, ?_⟩ | (refine ⟨?_, ?_⟩; (focus (exact in_nI (by omega) (by omega)))))
        exact done
      · repeat (first | (refine xbr_f ?_ ?_; (focus ((simp (disch := omega) only [ix_lt, ix_le, ix_eq, ix_0, nI_clamp, nI_toInt, ng_T, nI_add, nI_mul, nI_sub', Int.neg_zero, not_false_eq_true, not_true_eq_false] <;> omega); done))) | (refine xbr_t ?_ ?_; (focus ((simp (disch := omega) only [ix_lt, ix_le, ix_eq, ix_0, nI_clamp, nI_toInt, ng_T, nI_add, nI_mul, nI_sub', Int.neg_zero, not_false_eq_true, not_true_eq_false] <;> omega); done))) | refine ⟨Or.inl rfl, ?_⟩ | refine ⟨Or.inr rfl, ?_⟩ | (refine ⟨?_, ?_⟩; (focus (exact in_nI (by omega) (by omega)))))
        exact done
    · obtain ⟨a, ha, rfl⟩ := ibB_t hb (by omega)
      obtain ⟨k, hk, rfl⟩ := ibB_t hw (by decide)
      repeat (first | (refine xbr_f ?_ ?_; (focus ((simp (disch := omega) only [ix_lt, ix_le, ix_eq, ix_0, nI_clamp, nI_toInt, ng_T, nI_add, nI_mul, nI_sub', Int.neg_zero, not_false_eq_true, not_true_eq_false] <;> omega); done))) | (refine xbr_t ?_ ?_; (focus ((simp (disch := omega) only [ix_lt, ix_le, ix_eq, ix_0, nI_clamp, nI_toInt, ng_T, nI_add, nI_mul, nI_sub', Int.neg_zero, not_false_eq_true, not_true_eq_false] <;> omega); done))) | refine ⟨Or.inl rfl, ?_⟩ | refine ⟨Or.inr rfl, ?_⟩ | (refine ⟨?_, ?_⟩; (focus (exact in_nI (by omega) (by omega)))))
      refine ⟨rfl, rfl, S, a, k, rfl, by omega, hk, hC, ?_⟩
      refine ⟨rfl, rfl, S, _, rfl, hC, fun I' hf hC' => ?_⟩
      exact hQ _ _ _ _ (Or.inr ⟨a, k, rfl, ha, rfl, hk, rfl, rfl⟩) hf hC'
def mqN (d : PD) (X a k : Nat) : Nat := if k = 1 then pcf 32 (meN X a) else if k = 2 then cnN (fun l => decide (mkN X l = meN X a)) d.nL else if k = 3 then cnN (fun l => !wtB d X a (mkN X l)) d.nL else if k = 4 then mxN (fun l => lkN (kdN d a) (meN X a) (mkN X l)) d.nL else 4
def markR (S : ST) (i w o : Int32) (S' : ST) : Prop := (¬ (ibB i S.d.nA = true ∧ 0 < w.toInt ∧ w.toInt < 6) ∧ o = -(nI 1) ∧ S' = S) ∨ (∃ a k, i = nI a ∧ a < S.d.nA ∧ w = nI k ∧ 0 < k ∧ k < 6 ∧ ((isN (kdN S.d a) k = false ∧ fin S 3 o S') ∨ (isN (kdN S.d a) k = true ∧ o = nI (mqN S.d S.D.X a k) ∧ S' = S)))