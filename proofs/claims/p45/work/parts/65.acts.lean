/-! A DEED ON BOTH -/
theorem WA_mk {d : PD} (hd : d.ok) {X : Nat} {f : Nat → Int32} (h : WA d X f) {a v : Nat} (ha : a < d.nL) (hv : v < 16) : WA d (seMk X a v) (fun t => if t = 21 + 3 * a then nI v else f t) := by
  obtain ⟨w0, w1, w2, w3, w4⟩ := h
  have h4 := hd.a4
  have h5 := hd.l5
  refine ⟨?_, ?_, fun k hk => ?_, fun i hi => ⟨?_, ?_, ?_⟩, fun l hl => ⟨?_, ?_, ?_⟩⟩
  · show (if 0 = 21 + 3 * a then nI v else f 0) = _
    rw [if_neg (by omega)]; exact w0
  · show (if 1 = 21 + 3 * a then nI v else f 1) = _
    rw [if_neg (by omega)]; exact w1
  · show (if 4 + k = 21 + 3 * a then nI v else f (4 + k)) = _
    rw [if_neg (by omega)]; exact w2 k hk
  · show (if 9 + 3 * i = 21 + 3 * a then nI v else f (9 + 3 * i)) = _
    rw [if_neg (by omega)]; exact (w3 i hi).1
  · show (if 10 + 3 * i = 21 + 3 * a then nI v else f (10 + 3 * i)) = _
    rw [if_neg (by omega), me_mk (by omega) hv]; exact (w3 i hi).2.1
  · show (if 11 + 3 * i = 21 + 3 * a then nI v else f (11 + 3 * i)) = _
    rw [if_neg (by omega), in_mk (by omega) hv]; exact (w3 i hi).2.2
  · show (if 21 + 3 * l = 21 + 3 * a then nI v else f (21 + 3 * l)) = _
    rw [mk_mk hv]
    by_cases e : l = a
    · rw [if_pos (by omega), if_pos e]
    · rw [if_neg (by omega), if_neg e]; exact (w4 l hl).1
  · show (if 22 + 3 * l = 21 + 3 * a then nI v else f (22 + 3 * l)) = _
    rw [if_neg (by omega), pl_mk hv]; exact (w4 l hl).2.1
  · show (if 23 + 3 * l = 21 + 3 * a then nI v else f (23 + 3 * l)) = _
    rw [if_neg (by omega)]; exact (w4 l hl).2.2
theorem WA_in {d : PD} (hd : d.ok) {X : Nat} {f : Nat → Int32} (h : WA d X f) {a v : Nat} (ha : a < d.nA) (hv : v < 8) : WA d (seIn X a v) (fun t => if t = 11 + 3 * a then nI v else f t) := by
  obtain ⟨w0, w1, w2, w3, w4⟩ := h
  have h4 := hd.a4
  have h5 := hd.l5
  refine ⟨?_, ?_, fun k hk => ?_, fun i hi => ⟨?_, ?_, ?_⟩, fun l hl => ⟨?_, ?_, ?_⟩⟩
  · show (if 0 = 11 + 3 * a then nI v else f 0) = _
    rw [if_neg (by omega)]; exact w0
  · show (if 1 = 11 + 3 * a then nI v else f 1) = _
    rw [if_neg (by omega)]; exact w1
  · show (if 4 + k = 11 + 3 * a then nI v else f (4 + k)) = _
    rw [if_neg (by omega)]; exact w2 k hk
  · show (if 9 + 3 * i = 11 + 3 * a then nI v else f (9 + 3 * i)) = _
    rw [if_neg (by omega)]; exact (w3 i hi).1
  · show (if 10 + 3 * i = 11 + 3 * a then nI v else f (10 + 3 * i)) = _
    rw [if_neg (by omega), me_in hv]; exact (w3 i hi).2.1
  · show (if 11 + 3 * i = 11 + 3 * a then nI v else f (11 + 3 * i)) = _
    rw [in_in hv]
    by_cases e : i = a
    · rw [if_pos (by omega), if_pos e]
    · rw [if_neg (by omega), if_neg e]; exact (w3 i hi).2.2
  · show (if 21 + 3 * l = 11 + 3 * a then nI v else f (21 + 3 * l)) = _
    rw [if_neg (by omega), mk_in (by omega) hv]; exact (w4 l hl).1
  · show (if 22 + 3 * l = 11 + 3 * a then nI v else f (22 + 3 * l)) = _
    rw [if_neg (by omega), pl_in (by omega) hv]; exact (w4 l hl).2.1
  · show (if 23 + 3 * l = 11 + 3 * a then nI v else f (23 + 3 * l)) = _
    rw [if_neg (by omega)]; exact (w4 l hl).2.2
theorem WA_same {d : PD} {X : Nat} {f : Nat → Int32} (h : WA d X f) {a v : Nat} (ha : a < d.nA) (hv : inN X a = v) : WA d X (fun t => if t = 11 + 3 * a then nI v else f t) := by
  have e : (fun t => if t = 11 + 3 * a then nI v else f t) = f := by
    funext t
    by_cases q : t = 11 + 3 * a
    · rw [if_pos q, q, (h.2.2.2.1 a ha).2.2, hv]
    · rw [if_neg q]
  rw [e]
  exact h
theorem smearR_v {S S' : ST} {a m : Nat} {o : Int32} (h : smearR S (nI a) (nI m) o S') (hd : S.d.ok) (ha : a < S.d.nL) (hm : m < 4) (hz : S.D.z < 41) : o = nI (mkN S.D.X a ^^^ 2 ^ m) ∧ S' = smS S a m := by
  have h5 := hd.l5
  rcases h with ⟨n, -⟩ | ⟨a', m', e1, h1, e2, h2, ⟨h3, -⟩ | ⟨-, h4, h6⟩⟩
  · exact absurd ⟨ibB_n ha (by omega), ibB_n hm (by decide)⟩ n
  · omega
  · obtain rfl := nI_j (by omega) (by omega) e1
    obtain rfl := nI_j (by omega) (by omega) e2
    exact ⟨h4, h6⟩
theorem leadR_v {S S' : ST} {a m : Nat} {o : Int32} (h : leadR S (nI a) (nI m) o S') (hd : S.d.ok) (ha : a < S.d.nA) (hm : m < 5) (hz : S.D.z < 41) : (inN S.D.X a = m ∧ o = -(nI 4) ∧ S' = S) ∨ (¬ inN S.D.X a = m ∧ o = nI (inN S.D.X a) ∧ S' = ldS S a m) := by
  have h5 := hd.a4
  rcases h with ⟨n, -⟩ | ⟨a', m', e1, h1, e2, h2, h | ⟨-, h3, -⟩ | ⟨h6, -, h7⟩⟩
  · exact absurd ⟨ibB_n ha (by omega), ibB_n hm (by decide)⟩ n
  · obtain rfl := nI_j (by omega) (by omega) e1
    obtain rfl := nI_j (by omega) (by omega) e2
    exact Or.inl h
  · omega
  · obtain rfl := nI_j (by omega) (by omega) e1
    obtain rfl := nI_j (by omega) (by omega) e2
    exact Or.inr ⟨h6, h7⟩
theorem dayR_v {S S' : ST} {o : Int32} (h : dayR S o S') (h0 : 0 < S.d.nA) (hz : S.D.z < 41) : o = nI (hmtN (T0 S)) ∧ S' = dyS S := by
  rcases h with ⟨h1, -⟩ | ⟨-, h1, -⟩ | ⟨-, -, h1⟩
  · omega
  · omega
  · exact h1
def csL_acts : xCs := [(mX10_smear, sX10_smear), (mX10_lead, sX10_lead), (mX10_day, sX10_day), (mL_day, sL_day)]
theorem okL_acts : xOkM mL_acts csL_acts := ⟨dL_acts, by decide +kernel, by decide +kernel, ⟨wdL_59, wdL_62, wdL_65, wdL_69, trivial⟩⟩
theorem hhL_acts : ∀ q ∈ csL_acts, xHd q.1 := xall1 hX10_smear (xall1 hX10_lead (xall1 hX10_day (xall1 hL_day (xall0))))
theorem kkL_acts : ∀ q ∈ csL_acts, ∀ l, xCon l q.1 q.2 := xall1 kX10_smear (xall1 kX10_lead (xall1 kX10_day (xall1 kL_day (xall0))))
def sL_acts : xSpec := xRg7 fun as I L Q => ∃ (S : ST) (x : Nat), as = [.ref 1, .ref 27, .int (nI x)] ∧ x < 2 ^ 31 ∧ Lq S I L ∧ 0 < S.d.nA ∧ 0 < S.d.nL ∧ S.D.z < 41 ∧ WA S.d S.D.X (I 27) ∧ ∀ S' I' L', S'.d = S.d → S'.D.z ≤ S.D.z + 1 → Lq S' I' L' → WA S'.d S'.D.X (I' 27) → Q (some (.int (nI 1))) I' L'
theorem xrwC (I : xI) (f : Nat → Int32) {k c : Nat} (hk : 27 ≤ k) (h : c < 27) : xrw I k f c = I c := xrw_c _ _ _ (by omega)
theorem Cls_wk {S : ST} {I : xI} {L : xL} (h : Cls S I L) {k : Nat} (hk : 27 ≤ k) (f : Nat → Int32) : Cls S (xrw I k f) L := by
  unfold Cls xPl dcl at *
  rw [xrwC I f (c := 11) hk (by decide), xrwC I f (c := 12) hk (by decide), xrwC I f (c := 21) hk (by decide), xrwC I f (c := 23) hk (by decide), xrwC I f (c := 25) hk (by decide), xrwC I f (c := 2) hk (by decide), xrwC I f (c := 3) hk (by decide), xrwC I f (c := 4) hk (by decide), xrwC I f (c := 5) hk (by decide), xrwC I f (c := 6) hk (by decide), xrwC I f (c := 7) hk (by decide), xrwC I f (c := 20) hk (by decide), xrwC I f (c := 1) hk (by decide)]
  exact h
theorem Cls_lk {S : ST} {I : xI} {L : xL} (h : Cls S I L) {k : Nat} (hk : 27 ≤ k) (f : Nat → Int64) : Cls S I (xrw L k f) := by
  have e : ∀ c, c < 27 → xrw L k f c = L c := fun c hc => xrw_c _ _ _ (by omega)
  unfold Cls dcl at *
  rw [e 12 (by decide), e 21 (by decide), e 23 (by decide), e 25 (by decide), e (12 + 1) (by decide), e (21 + 1) (by decide), e (23 + 1) (by decide), e (25 + 1) (by decide), e 19 (by decide)]
  exact h
theorem Cls_w {S : ST} {I : xI} {L : xL} (h : Cls S I L) (f : Nat → Int32) : Cls S (xrw I 27 f) L := Cls_wk h (by decide) f
theorem Lq_w {S : ST} {I : xI} {L : xL} (h : Lq S I L) (f : Nat → Int32) : Lq S (xrw I 27 f) L := by
  obtain ⟨v, h⟩ := h
  exact ⟨v, Cls_w h f⟩
theorem Lq_wk {S : ST} {I : xI} {L : xL} (h : Lq S I L) {k : Nat} (hk : 27 ≤ k) (f : Nat → Int32) : Lq S (xrw I k f) L := by
  obtain ⟨v, h⟩ := h
  exact ⟨v, Cls_wk h hk f⟩
theorem xup_k (I : xI) (k j : Nat) (v : Int32) : xup I k j v = xrw I k (fun t => if t = j then v else I k t) := by
  have h := xrw_up I k (I k) j v
  rwa [xrw_self] at h
theorem xup_w (I : xI) (j : Nat) (v : Int32) : xup I 27 j v = xrw I 27 (fun t => if t = j then v else I 27 t) := by
  have h := xrw_up I 27 (I 27) j v
  rwa [xrw_self] at h
theorem xup2 (I : xI) (j k : Nat) (v w : Int32) : xup (xup I 27 j v) 27 k w = xrw I 27 (fun t => if t = k then w else if t = j then v else I 27 t) := by
  rw [xup_w I j v, xrw_up]
theorem xup3 (I : xI) (j k l : Nat) (u v w : Int32) : xup (xup (xup I 27 j u) 27 k v) 27 l w = xrw I 27 (fun t => if t = l then w else if t = k then v else if t = j then u else I 27 t) := by
  rw [xup_w I j u, xrw_up, xrw_up]
set_option maxRecDepth 100000 in
theorem kL_acts : ∀ l, xCon l mL_acts sL_acts := by
  refine xcon_of okL_acts hL_acts rfl hhL_acts kkL_acts ?_
  rintro as n0 I L P Q ⟨hn9, rfl, S, x, rfl, hx, ⟨v, hC⟩, hA, hL, hz, hW, hQ⟩
  obtain ⟨e9, rfl⟩ := xe7 hn9
  refine ⟨Nat.le_of_ble_eq_true rfl, ?_⟩
  have hd := hC.ok.d
  have h4 : S.d.nA ≤ 4 := hd.a4
  have h5 : S.d.nL ≤ 5 := hd.l5
  have hd : S.d.ok := hd
  have hX : XOk S.D.X := hC.ok.X
  have w0' : I 27 (nI 0).toNatClampNeg = nI S.d.nA := hW.1
  have w1' : I 27 (nI 1).toNatClampNeg = nI S.d.nL := by rw [nI_clamp (by decide)]; exact hW.2.1
  have ey : nI x >>> (nI 2 &&& 31) = nI (x / 4) := shr_n (k := 2) hx (by decide)
  have e3 : nI x &&& nI 3 = nI (x % 4) := by rw [fa_and, and_3]
  have hy : x / 4 < 2 ^ 31 := by omega
  generalize x / 4 = y at ey hy
  have em : nI y >>> (nI 3 &&& 31) = nI (y / 8) := shr_n (k := 3) hy (by decide)
  have nzA : ¬ nI S.d.nA = 0 := by
    have e : nI S.d.nA = 0 ↔ S.d.nA = 0 := nI_eq (b := 0) (by omega) (by decide)
    rw [e]; omega
  have nzL : ¬ nI S.d.nL = 0 := by
    have e : nI S.d.nL = 0 ↔ S.d.nL = 0 := nI_eq (b := 0) (by omega) (by decide)
    rw [e]; omega
  have er : nI y - nI y / nI S.d.nA * nI S.d.nA = nI (y % S.d.nA) := pk_rem hy hA (by omega)
  have el : nI y - nI y / nI S.d.nL * nI S.d.nL = nI (y % S.d.nL) := pk_rem hy hL (by omega)
  have ha : y % S.d.nA < S.d.nA := Nat.mod_lt _ hA
  have hl : y % S.d.nL < S.d.nL := Nat.mod_lt _ hL
  generalize y % S.d.nA = a at er ha
  generalize y % S.d.nL = l at el hl
  have i3 : (nI 3).toNatClampNeg = 3 := nI_clamp (by decide)
  have v3 : vp_in (nI 3) 64 := in_nI (by omega) (by decide)
  refine xrun okL_acts hhL_acts [] 150 ?_
  by_cases c0 : x % 4 = 0
  · have em2 : (nI (y / 8) &&& nI 3) = nI (y / 8 % 4) := by rw [fa_and, and_3]
    have hm : y / 8 % 4 < 4 := Nat.mod_lt _ (by decide)
    generalize y / 8 % 4 = m at em2 hm
    have es : nI 1 <<< (nI m &&& 31) = nI (2 ^ m) := by rw [shl_n 1 (by omega), Nat.one_mul]
    have hmk := mkN_16 S.D.X l
    have hm16 : 2 ^ m < 16 := Nat.pow_lt_pow_right (n := 4) (by decide) hm
    have hx16 := xor_16 hmk hm16
    have ex : nI (mkN S.D.X l) ^^^ nI (2 ^ m) = nI (mkN S.D.X l ^^^ 2 ^ m) := nx_xor _ _
    (first | (refine xbr_f ?_ ?_; (focus ((simp (disch := omega) only [ix_lt, ix_le, ix_eq, ix_0, nI_clamp, nI_toInt, ng_T, nI_add, nI_mul, nI_sub', Int.neg_zero, not_false_eq_true, not_true_eq_false, e3] <;> omega); done))) | (refine xbr_t ?_ ?_; (focus ((simp (disch := omega) only [ix_lt, ix_le, ix_eq, ix_0, nI_clamp, nI_toInt, ng_T, nI_add, nI_mul, nI_sub', Int.neg_zero, not_false_eq_true, not_true_eq_false, e3] <;> omega); done))) | refine ⟨Or.inl rfl, ?_⟩ | refine ⟨Or.inr rfl, ?_⟩ | (refine ⟨?_, ?_⟩; (focus ((try simp (disch := omega) only [e3, nI_mul, nI_add, nI_sub']); exact in_nI (by omega) (by omega)))))
    rw [ey]
    refine ⟨in_nI (by omega) (by decide), ?_⟩
    rw [w1']
    refine ⟨nzL, ?_⟩
    rw [el]
    refine ⟨in3 (by omega), in3 (by omega), v3, v3, ?_⟩
    rw [em, em2, es, ix3 (by omega), (hW.2.2.2.2 l hl).1, ex, i3, xup2]
    refine ⟨in_nI (by omega) (by decide), ?_⟩
    have q1 : ∀ V, xrw I 27 (fun t => if t = 3 then V else if t = 21 + 3 * l then nI (mkN S.D.X l ^^^ 2 ^ m) else I 27 t) 27 (nI 1).toNatClampNeg = nI S.d.nL := fun V => by
      rw [xrw_s, nI_clamp (by decide), if_neg (by decide), if_neg (by omega)]
      exact hW.2.1
    rw [q1]
    refine ⟨nzL, ?_⟩
    rw [el]
    refine ⟨rfl, rfl, S.wT v, _, _, rfl, Cls_w hC _, fun o S' I' L' hr hf hC' => ?_⟩
    rw [em, em2] at hr
    obtain ⟨rfl, rfl⟩ := smearR_v hr hd hl hm hz
    refine ⟨in3 (by omega), ?_⟩
    have q2 : I' 27 (21 + 3 * l) = nI (mkN S.D.X l ^^^ 2 ^ m) := by
      rw [f27 hf, xrw_s, if_neg (by omega), if_pos rfl]
    rw [ix3 (by omega), q2]
    refine xbr_t rfl ?_
    refine ⟨Or.inr rfl, ?_⟩
    refine hQ (smS S l m) _ _ rfl (Nat.le_of_eq (by show S.D.z + 1 = _; rfl)) ⟨v, hC'⟩ ?_
    rw [f27 hf, xrw_s]
    exact WA_o hd (WA_mk hd hW hl hx16) (Or.inr (Or.inl rfl)) _
  · (first | (refine xbr_f ?_ ?_; (focus ((simp (disch := omega) only [ix_lt, ix_le, ix_eq, ix_0, nI_clamp, nI_toInt, ng_T, nI_add, nI_mul, nI_sub', Int.neg_zero, not_false_eq_true, not_true_eq_false, e3] <;> omega); done))) | (refine xbr_t ?_ ?_; (focus ((simp (disch := omega) only [ix_lt, ix_le, ix_eq, ix_0, nI_clamp, nI_toInt, ng_T, nI_add, nI_mul, nI_sub', Int.neg_zero, not_false_eq_true, not_true_eq_false, e3] <;> omega); done))) | refine ⟨Or.inl rfl, ?_⟩ | refine ⟨Or.inr rfl, ?_⟩ | (refine ⟨?_, ?_⟩; (focus ((try simp (disch := omega) only [e3, nI_mul, nI_add, nI_sub']); exact in_nI (by omega) (by omega)))))
    by_cases c1 : x % 4 = 1
    · have em2 : nI (y / 8) - nI (y / 8) / nI 5 * nI 5 = nI (y / 8 % 5) := pk_rem (by omega) (by decide) (by decide)
      have hm : y / 8 % 5 < 5 := Nat.mod_lt _ (by decide)
      generalize y / 8 % 5 = m at em2 hm
      have hin := inN_8 S.D.X a
      (first | (refine xbr_f ?_ ?_; (focus ((simp (disch := omega) only [ix_lt, ix_le, ix_eq, ix_0, nI_clamp, nI_toInt, ng_T, nI_add, nI_mul, nI_sub', Int.neg_zero, not_false_eq_true, not_true_eq_false, e3] <;> omega); done))) | (refine xbr_t ?_ ?_; (focus ((simp (disch := omega) only [ix_lt, ix_le, ix_eq, ix_0, nI_clamp, nI_toInt, ng_T, nI_add, nI_mul, nI_sub', Int.neg_zero, not_false_eq_true, not_true_eq_false, e3] <;> omega); done))) | refine ⟨Or.inl rfl, ?_⟩ | refine ⟨Or.inr rfl, ?_⟩ | (refine ⟨?_, ?_⟩; (focus ((try simp (disch := omega) only [e3, nI_mul, nI_add, nI_sub']); exact in_nI (by omega) (by omega)))))
      rw [ey]
      refine ⟨in_nI (by omega) (by decide), ?_⟩
      rw [w0']
      refine ⟨nzA, ?_⟩
      rw [er]
      refine ⟨by decide, ?_⟩
      rw [em, em2]
      refine ⟨in3 (by omega), in3 (by omega), v3, ?_⟩
      rw [ix3 (by omega), (hW.2.2.2.1 a ha).2.2, i3]
      have q1 : ∀ V, xrw I 27 (fun t => if t = 3 then V else if t = 11 + 3 * a then nI m else I 27 t) 27 (nI 0).toNatClampNeg = nI S.d.nA := fun V => by
        rw [xrw_s, nI_clamp (by decide), if_neg (by decide), if_neg (by omega)]
        exact hW.1
      by_cases hw : inN S.D.X a = m
      · (first | (refine xbr_f ?_ ?_; (focus ((simp (disch := omega) only [ix_lt, ix_le, ix_eq, ix_0, nI_clamp, nI_toInt, ng_T, nI_add, nI_mul, nI_sub', Int.neg_zero, not_false_eq_true, not_true_eq_false] <;> omega); done))) | (refine xbr_t ?_ ?_; (focus ((simp (disch := omega) only [ix_lt, ix_le, ix_eq, ix_0, nI_clamp, nI_toInt, ng_T, nI_add, nI_mul, nI_sub', Int.neg_zero, not_false_eq_true, not_true_eq_false] <;> omega); done))) | refine ⟨Or.inl rfl, ?_⟩ | refine ⟨Or.inr rfl, ?_⟩ | (refine ⟨?_, ?_⟩; (focus (exact in_nI (by omega) (by omega)))))
        refine ⟨v3, in_nI (by omega) (by decide), ?_⟩
        rw [i3, xup2, q1]
        refine ⟨nzA, ?_⟩
        rw [er]
        refine ⟨rfl, rfl, S.wT v, _, _, rfl, Cls_w hC _, fun o S' I' L' hr hf hC' => ?_⟩
        rcases leadR_v hr hd ha hm hz with ⟨-, rfl, rfl⟩ | ⟨q, -⟩
        · (first | (refine xbr_f ?_ ?_; (focus ((simp (disch := omega) only [ix_lt, ix_le, ix_eq, ix_0, nI_clamp, nI_toInt, ng_T, nI_add, nI_mul, nI_sub', Int.neg_zero, not_false_eq_true, not_true_eq_false] <;> omega); done))) | (refine xbr_t ?_ ?_; (focus ((simp (disch := omega) only [ix_lt, ix_le, ix_eq, ix_0, nI_clamp, nI_toInt, ng_T, nI_add, nI_mul, nI_sub', Int.neg_zero, not_false_eq_true, not_true_eq_false] <;> omega); done))) | refine ⟨Or.inl rfl, ?_⟩ | refine ⟨Or.inr rfl, ?_⟩ | (refine ⟨?_, ?_⟩; (focus (exact in_nI (by omega) (by omega)))))
          refine xbr_t rfl ?_
          refine ⟨Or.inr rfl, ?_⟩
          refine hQ S _ _ rfl (Nat.le_succ _) ⟨v, hC'⟩ ?_
          rw [f27 hf, xrw_s]
          exact WA_o hd (WA_same hW ha hw) (Or.inr (Or.inl rfl)) _
        · exact absurd hw q
      · (first | (refine xbr_f ?_ ?_; (focus ((simp (disch := omega) only [ix_lt, ix_le, ix_eq, ix_0, nI_clamp, nI_toInt, ng_T, nI_add, nI_mul, nI_sub', Int.neg_zero, not_false_eq_true, not_true_eq_false] <;> omega); done))) | (refine xbr_t ?_ ?_; (focus ((simp (disch := omega) only [ix_lt, ix_le, ix_eq, ix_0, nI_clamp, nI_toInt, ng_T, nI_add, nI_mul, nI_sub', Int.neg_zero, not_false_eq_true, not_true_eq_false] <;> omega); done))) | refine ⟨Or.inl rfl, ?_⟩ | refine ⟨Or.inr rfl, ?_⟩ | (refine ⟨?_, ?_⟩; (focus (exact in_nI (by omega) (by omega)))))
        refine ⟨v3, in_nI (by omega) (by decide), ?_⟩
        rw [i3, xup2, q1]
        refine ⟨nzA, ?_⟩
        rw [er]
        refine ⟨rfl, rfl, S.wT v, _, _, rfl, Cls_w hC _, fun o S' I' L' hr hf hC' => ?_⟩
        rcases leadR_v hr hd ha hm hz with ⟨q, -⟩ | ⟨-, rfl, rfl⟩
        · exact absurd q hw
        · (first | (refine xbr_f ?_ ?_; (focus ((simp (disch := omega) only [ix_lt, ix_le, ix_eq, ix_0, nI_clamp, nI_toInt, ng_T, nI_add, nI_mul, nI_sub', Int.neg_zero, not_false_eq_true, not_true_eq_false] <;> omega); done))) | (refine xbr_t ?_ ?_; (focus ((simp (disch := omega) only [ix_lt, ix_le, ix_eq, ix_0, nI_clamp, nI_toInt, ng_T, nI_add, nI_mul, nI_sub', Int.neg_zero, not_false_eq_true, not_true_eq_false] <;> omega); done))) | refine ⟨Or.inl rfl, ?_⟩ | refine ⟨Or.inr rfl, ?_⟩ | (refine ⟨?_, ?_⟩; (focus (exact in_nI (by omega) (by omega)))))
          refine xbr_t rfl ?_
          refine ⟨Or.inr rfl, ?_⟩
          refine hQ (ldS S a m) _ _ rfl (Nat.le_of_eq (by show S.D.z + 1 = _; rfl)) ⟨v, hC'⟩ ?_
          rw [f27 hf, xrw_s]
          exact WA_o hd (WA_in hd hW ha (by omega)) (Or.inr (Or.inl rfl)) _
    · (first | (refine xbr_f ?_ ?_; (focus ((simp (disch := omega) only [ix_lt, ix_le, ix_eq, ix_0, nI_clamp, nI_toInt, ng_T, nI_add, nI_mul, nI_sub', Int.neg_zero, not_false_eq_true, not_true_eq_false, e3] <;> omega); done))) | (refine xbr_t ?_ ?_; (focus ((simp (disch := omega) only [ix_lt, ix_le, ix_eq, ix_0, nI_clamp, nI_toInt, ng_T, nI_add, nI_mul, nI_sub', Int.neg_zero, not_false_eq_true, not_true_eq_false, e3] <;> omega); done))) | refine ⟨Or.inl rfl, ?_⟩ | refine ⟨Or.inr rfl, ?_⟩ | (refine ⟨?_, ?_⟩; (focus ((try simp (disch := omega) only [e3, nI_mul, nI_add, nI_sub']); exact in_nI (by omega) (by omega)))))
      refine ⟨v3, v3, ?_⟩
      rw [i3, xup_w]
      refine ⟨rfl, rfl, S.wT v, rfl, Cls_w hC _, fun o S' I' L' hr hf hC' => ?_⟩
      obtain ⟨rfl, rfl⟩ := dayR_v hr hA hz
      refine ⟨rfl, rfl, S.d, S.D.X, rfl, hd, hX, hA, ?_, fun f hf2 => ?_⟩
      · rw [f27 hf, xrw_s]
        exact WA_o hd hW (Or.inr (Or.inl rfl)) _
      · refine xbr_t rfl ?_
        refine ⟨Or.inr rfl, ?_⟩
        refine hQ (dyS S) _ _ rfl (Nat.le_of_eq (by show S.D.z + 1 = _; rfl)) (Lq_w (S := dyS S) ⟨v, hC'⟩ f) ?_
        rw [xrw_s]
        exact hf2
