/-! CALLS, 1: ROWS and TEXTS -/
def fin (S : ST) (f : Nat) (o : Int32) (S' : ST) : Prop := o = -(nI 3) ∧ S' = S.wF f
def csX10_refuse : xCs := []
theorem okX10_refuse : xOkM mX10_refuse csX10_refuse := ⟨dX10_refuse, by decide +kernel, by decide +kernel, ⟨wdX10_67, ⟨wdX10_348, fun h => Bool.noConfusion h⟩, wdX10_67, trivial⟩⟩
theorem hhX10_refuse : ∀ q ∈ csX10_refuse, xHd q.1 := xall0
theorem kkX10_refuse : ∀ q ∈ csX10_refuse, ∀ l, xCon l q.1 q.2 := xall0
def sX10_refuse : xSpec := xReg fun as I L Q => ∃ (S : ST) (f : Nat), as = [.ref 1, .int (nI f)] ∧ f < 6 ∧ Cls S I L ∧ (∀ I', frC I L I' L → Cls (S.wF f) I' L → Q (some (.int (-(nI 3)))) I' L)
set_option maxRecDepth 100000 in
theorem kX10_refuse : ∀ l, xCon l mX10_refuse sX10_refuse := by
  refine xcon_of okX10_refuse hX10_refuse rfl hhX10_refuse kkX10_refuse ?_
  rintro as n0 I L P Q ⟨hn9, rfl, S, f, rfl, hf, hC, hQ⟩
  obtain ⟨e9, rfl⟩ := xe9 hn9
  refine ⟨Nat.le_of_ble_eq_true rfl, ?_⟩
  refine xrun okX10_refuse hhX10_refuse [] 60 ?_
  repeat (first | (refine xbr_f ?_ ?_; (focus ((simp (disch := omega) only [ix_lt, ix_le, ix_eq, ix_0, nI_clamp, nI_toInt, ng_T, nI_add, nI_mul, nI_sub', Int.neg_zero, not_false_eq_true, not_true_eq_false] <;> omega); done))) | (refine xbr_t ?_ ?_; (focus ((simp (disch := omega) only [ix_lt, ix_le, ix_eq, ix_0, nI_clamp, nI_toInt, ng_T, nI_add, nI_mul, nI_sub', Int.neg_zero, not_false_eq_true, not_true_eq_false] <;> omega); done))) | refine ⟨Or.inl rfl, ?_⟩ | refine ⟨Or.inr rfl, ?_⟩ | (refine ⟨?_, ?_⟩; (focus (exact in_nI (by omega) (by omega)))))
  simp (disch := omega) only [nI_mul, nI_add, nI_clamp, nI_sub']
  exact hQ _ (frC_t (frC_I (by decide) _ _ _ _) (frC_I (by decide) _ _ _ _)) (Cls_F hC f)
def csX10_tell : xCs := []
theorem okX10_tell : xOkM mX10_tell csX10_tell := ⟨dX10_tell, by decide +kernel, by decide +kernel, ⟨⟨wdX10_324, fun h => Bool.noConfusion h⟩, trivial⟩⟩
theorem hhX10_tell : ∀ q ∈ csX10_tell, xHd q.1 := xall0
theorem kkX10_tell : ∀ q ∈ csX10_tell, ∀ l, xCon l q.1 q.2 := xall0
def sX10_tell : xSpec := xReg fun as I L Q => ∃ (S : ST) (v : Int32), as = [.ref 1, .int v] ∧ Cls S I L ∧ (∀ I', frC I L I' L → Cls (S.wT v) I' L → Q (some (.int (nI 1))) I' L)
set_option maxRecDepth 100000 in
theorem kX10_tell : ∀ l, xCon l mX10_tell sX10_tell := by
  refine xcon_of okX10_tell hX10_tell rfl hhX10_tell kkX10_tell ?_
  rintro as n0 I L P Q ⟨hn9, rfl, S, v, rfl, hC, hQ⟩
  obtain ⟨e9, rfl⟩ := xe9 hn9
  refine ⟨Nat.le_of_ble_eq_true rfl, ?_⟩
  refine xrun okX10_tell hhX10_tell [] 60 ?_
  exact hQ _ (frC_I (by decide) _ _ _ _) (Cls_T hC v)
theorem in_ib {x : Int32} {n : Nat} (hn : n < 2 ^ 31) : vp_in x n ↔ ibB x n = true := by
  rw [vp_in_iff]
  unfold ibB
  rw [decide_eq_true_iff]
theorem ib_f {x : Int32} {n : Nat} (h : ibB x n = false) : ¬ (0 ≤ x.toInt ∧ x.toInt < n) := of_decide_eq_false h
theorem xq_W {S : ST} {I : xI} {L : xL} {Q : xI → xL → Prop} {S' : ST} (hQ : ∀ I' L', frC I L I' L' → Cls S' I' L' → Q I' L') {I' I'' : xI} {L' : xL} (hf : frC I L I' L') (hC : Cls S' I' L') (e : I'' = I') : Q I'' L' := by
  subst e
  exact hQ _ _ hf hC
def rowR (S : ST) (r n o : Int32) (S' : ST) : Prop := (¬ (ibB r 6 = true ∧ n.toInt ≤ 40) ∧ o = -(nI 1) ∧ S' = S) ∨ (ibB r 6 = true ∧ n.toInt < 0 ∧ fin S 5 o S') ∨ (∃ j m, r = nI j ∧ j < 6 ∧ n = nI m ∧ m ≤ 40 ∧ o = nI m ∧ S' = S.wR (fun t => if t = j then m + 1 else S.rz t) (xfil S.rv (j * 40) m (nI 0)))
theorem rz_up {S : ST} {I : xI} {L : xL} (h : Cls S I L) (j m : Nat) (r : Nat) (hr : r < 6) : (if r = j then nI m else I 3 r) = szI (if r = j then m + 1 else S.rz r) := by
  by_cases e : r = j
  · rw [if_pos e, if_pos e, szI_s]
  · rw [if_neg e, if_neg e, h.rz r hr]
theorem rz_le {S : ST} (h : SOk S) {j m : Nat} (hm : m ≤ 40) (r : Nat) (hr : r < 6) : (if r = j then m + 1 else S.rz r) ≤ 41 := by
  have := h.rz r hr
  split <;> omega
theorem Cls_new {S : ST} {I : xI} {L : xL} (h : Cls S I L) (j : Nat) {m : Nat} (hm : m ≤ 40) (v : Int32) : Cls (S.wR (fun t => if t = j then m + 1 else S.rz t) (xfil S.rv (j * 40) m v)) (xrw (xup I 3 j (nI m)) 4 (xfil (I 4) (j * 40) m v)) L := by
  have h2 := Cls_R h (g := fun r => if r = j then nI m else I 3 r) (z := fun t => if t = j then m + 1 else S.rz t) (v := xfil S.rv (j * 40) m v) (rz_up h j m) (rz_le h.ok hm)
  rw [← h.rv] at h2 ⊢
  exact h2
def csX10_row : xCs := [(mX8_isNumber, sX8_isNumber), (mX10_refuse, sX10_refuse), (mX8_renew, sX8_renew)]
theorem okX10_row : xOkM mX10_row csX10_row := ⟨dX10_row, by decide +kernel, by decide +kernel, ⟨wdX10_14, wdX10_75, wdX10_79, wdX10_14, wdX10_83, trivial⟩⟩
theorem hhX10_row : ∀ q ∈ csX10_row, xHd q.1 := xall1 hX8_isNumber (xall1 hX10_refuse (xall1 hX8_renew (xall0)))
theorem kkX10_row : ∀ q ∈ csX10_row, ∀ l, xCon l q.1 q.2 := xall1 kX8_isNumber (xall1 kX10_refuse (xall1 kX8_renew (xall0)))
def sX10_row : xSpec := xReg fun as I L Q => ∃ (S : ST) (r n : Int32), as = [.ref 1, .int r, .int n] ∧ Cls S I L ∧ (∀ o S' I' L', rowR S r n o S' → frC I L I' L' → Cls S' I' L' → Q (some (.int o)) I' L')
set_option maxRecDepth 100000 in
theorem kX10_row : ∀ l, xCon l mX10_row sX10_row := by
  refine xcon_of okX10_row hX10_row rfl hhX10_row kkX10_row ?_
  rintro as n0 I L P Q ⟨hn9, rfl, S, r, n, rfl, hC, hQ⟩
  obtain ⟨e9, rfl⟩ := xe9 hn9
  refine ⟨Nat.le_of_ble_eq_true rfl, ?_⟩
  refine xrun okX10_row hhX10_row [] 60 ?_
  refine ⟨rfl, rfl, 2, 3, 4, 6, 40, r, Or.inl ⟨rfl, rfl, rfl, rfl, rfl⟩, rfl, fun hr => ?_, fun hr => ?_⟩
  · have hb := (in_ib (by decide)).mp hr
    (first | refine xbr_t (by decide) ?_ | refine xbr_f (by decide) ?_)
    by_cases h1 : n.toInt ≤ 40
    · by_cases h2 : n.toInt < 0
      · repeat (first | (refine xbr_f ?_ ?_; (focus ((simp (disch := omega) only [ix_lt, ix_le, ix_eq, ix_0, nI_clamp, nI_toInt, ng_T, nI_add, nI_mul, nI_sub', Int.neg_zero, not_false_eq_true, not_true_eq_false] <;> omega); done))) | (refine xbr_t ?_ ?_; (focus ((simp (disch := omega) only [ix_lt, ix_le, ix_eq, ix_0, nI_clamp, nI_toInt, ng_T, nI_add, nI_mul, nI_sub', Int.neg_zero, not_false_eq_true, not_true_eq_false] <;> omega); done))) | refine ⟨Or.inl rfl, ?_⟩ | refine ⟨Or.inr rfl, ?_⟩ | (refine ⟨?_, ?_⟩; (focus (exact in_nI (by omega) (by omega)))))
        refine ⟨rfl, rfl, S, 5, rfl, by decide, hC, fun I' hf hC' => ?_⟩
        exact hQ _ _ _ _ (Or.inr (Or.inl ⟨hb, h2, rfl, rfl⟩)) hf hC'
      · obtain ⟨m, hm, rfl⟩ := ibB_t (x := n) (n := 41) (decide_eq_true ⟨by omega, by omega⟩) (by decide)
        obtain ⟨j, hj, rfl⟩ := ibB_t hb (by decide)
        repeat (first | (refine xbr_f ?_ ?_; (focus ((simp (disch := omega) only [ix_lt, ix_le, ix_eq, ix_0, nI_clamp, nI_toInt, ng_T, nI_add, nI_mul, nI_sub', Int.neg_zero, not_false_eq_true, not_true_eq_false] <;> omega); done))) | (refine xbr_t ?_ ?_; (focus ((simp (disch := omega) only [ix_lt, ix_le, ix_eq, ix_0, nI_clamp, nI_toInt, ng_T, nI_add, nI_mul, nI_sub', Int.neg_zero, not_false_eq_true, not_true_eq_false] <;> omega); done))) | refine ⟨Or.inl rfl, ?_⟩ | refine ⟨Or.inr rfl, ?_⟩ | (refine ⟨?_, ?_⟩; (focus (exact in_nI (by omega) (by omega)))))
        refine ⟨rfl, rfl, 2, 3, 4, 6, 40, j, m, nI 0, Or.inl ⟨rfl, rfl, rfl, rfl, rfl⟩, rfl, hj, by omega, hC.m2, ?_⟩
        exact hQ _ _ _ _ (Or.inr (Or.inr ⟨j, m, rfl, hj, rfl, by omega, rfl, rfl⟩)) (frC_t (frC_I (by decide) _ _ _ _) (frC_W (by decide) _ _ _)) (Cls_new hC j (by omega) (nI 0))
    · repeat (first | (refine xbr_f ?_ ?_; (focus ((simp (disch := omega) only [ix_lt, ix_le, ix_eq, ix_0, nI_clamp, nI_toInt, ng_T, nI_add, nI_mul, nI_sub', Int.neg_zero, not_false_eq_true, not_true_eq_false] <;> omega); done))) | (refine xbr_t ?_ ?_; (focus ((simp (disch := omega) only [ix_lt, ix_le, ix_eq, ix_0, nI_clamp, nI_toInt, ng_T, nI_add, nI_mul, nI_sub', Int.neg_zero, not_false_eq_true, not_true_eq_false] <;> omega); done))) | refine ⟨Or.inl rfl, ?_⟩ | refine ⟨Or.inr rfl, ?_⟩ | (refine ⟨?_, ?_⟩; (focus (exact in_nI (by omega) (by omega)))))
      exact hQ _ _ _ _ (Or.inl ⟨fun q => h1 q.2, rfl, rfl⟩) (frC_0 _ _) hC
  · (first | refine xbr_t (by decide) ?_ | refine xbr_f (by decide) ?_)
    exact hQ _ _ _ _ (Or.inl ⟨fun q => hr ((in_ib (by decide)).mpr q.1), rfl, rfl⟩) (frC_0 _ _) hC
def layR (S : ST) (r i v o : Int32) (S' : ST) : Prop := (ibB r 6 = false ∧ o = -(nI 1) ∧ S' = S) ∨ (∃ j, r = nI j ∧ j < 6 ∧ ((S.rz j = 0 ∧ fin S 1 o S') ∨ (0 < S.rz j ∧ ibB i (S.rz j - 1) = false ∧ fin S 2 o S') ∨ (∃ m, i = nI m ∧ m < S.rz j - 1 ∧ o = nI 1 ∧ S' = (S.wR S.rz (fun t => if t = j * 40 + m then v else S.rv t)).wT (S.rv (j * 40 + m)))))
def csX10_lay : xCs := [(mX8_isNumber, sX8_isNumber), (mX8_wrongPlace, sX8_wrongPlace), (mX10_refuse, sX10_refuse), (mX8_swap, sX8_swap), (mX10_tell, sX10_tell)]
theorem okX10_lay : xOkM mX10_lay csX10_lay := ⟨dX10_lay, by decide +kernel, by decide +kernel, ⟨wdX10_14, wdX10_75, wdX10_14, wdX10_87, wdX10_79, wdX10_14, wdX10_91, wdX10_95, trivial⟩⟩
theorem hhX10_lay : ∀ q ∈ csX10_lay, xHd q.1 := xall1 hX8_isNumber (xall1 hX8_wrongPlace (xall1 hX10_refuse (xall1 hX8_swap (xall1 hX10_tell (xall0)))))
theorem kkX10_lay : ∀ q ∈ csX10_lay, ∀ l, xCon l q.1 q.2 := xall1 kX8_isNumber (xall1 kX8_wrongPlace (xall1 kX10_refuse (xall1 kX8_swap (xall1 kX10_tell (xall0)))))
def sX10_lay : xSpec := xReg fun as I L Q => ∃ (S : ST) (r i v : Int32), as = [.ref 1, .int r, .int i, .int v] ∧ Cls S I L ∧ (∀ o S' I' L', layR S r i v o S' → frC I L I' L' → Cls S' I' L' → Q (some (.int o)) I' L')
theorem wpl_0 (i : Int32) : wplN 0 i = 1 := rfl
theorem wpl_t {z : Nat} {i : Int32} (h0 : 0 < z) (h : ibB i (z - 1) = true) : wplN z i = 0 := by
  unfold wplN
  rw [if_neg (by omega), if_pos h]
theorem wpl_f {z : Nat} {i : Int32} (h0 : 0 < z) (h : ibB i (z - 1) = false) : wplN z i = 2 := by
  unfold wplN
  rw [if_neg (by omega), if_neg (by rw [h]; decide)]
theorem Cls_set {S : ST} {I : xI} {L : xL} (h : Cls S I L) (k : Nat) (v : Int32) : Cls (S.wR S.rz (fun t => if t = k then v else S.rv t)) (xup I 4 k v) L := by
  have h2 := Cls_R h (g := I 3) (z := S.rz) (v := fun t => if t = k then v else S.rv t) h.rz h.ok.rz
  rw [xrw_self, ← h.rv] at h2
  rw [← h.rv]
  exact h2
set_option maxRecDepth 100000 in
theorem kX10_lay : ∀ l, xCon l mX10_lay sX10_lay := by
  refine xcon_of okX10_lay hX10_lay rfl hhX10_lay kkX10_lay ?_
  rintro as n0 I L P Q ⟨hn9, rfl, S, r, i, v, rfl, hC, hQ⟩
  obtain ⟨e9, rfl⟩ := xe9 hn9
  refine ⟨Nat.le_of_ble_eq_true rfl, ?_⟩
  refine xrun okX10_lay hhX10_lay [] 60 ?_
  refine ⟨rfl, rfl, 2, 3, 4, 6, 40, r, Or.inl ⟨rfl, rfl, rfl, rfl, rfl⟩, rfl, fun hr => ?_, fun hr => ?_⟩
  · have hb := (in_ib (by decide)).mp hr
    obtain ⟨j, hj, rfl⟩ := ibB_t hb (by decide)
    (first | refine xbr_t (by decide) ?_ | refine xbr_f (by decide) ?_)
    have hz := hC.rz j hj
    have hz41 := hC.ok.rz j hj
    refine ⟨rfl, rfl, 2, 3, 4, 6, 40, j, S.rz j, i, Or.inl ⟨rfl, rfl, rfl, rfl, rfl⟩, rfl, hj, hz41, hz, ?_⟩
    by_cases h0 : S.rz j = 0
    · rw [h0, wpl_0]
      (first | refine xbr_t (by decide) ?_ | refine xbr_f (by decide) ?_)
      refine ⟨rfl, rfl, S, 1, rfl, by decide, hC, fun I' hf hC' => ?_⟩
      exact hQ _ _ _ _ (Or.inr ⟨j, rfl, hj, Or.inl ⟨h0, rfl, rfl⟩⟩) hf hC'
    · cases hi : ibB i (S.rz j - 1)
      · rw [wpl_f (by omega) hi]
        (first | refine xbr_t (by decide) ?_ | refine xbr_f (by decide) ?_)
        refine ⟨rfl, rfl, S, 2, rfl, by decide, hC, fun I' hf hC' => ?_⟩
        exact hQ _ _ _ _ (Or.inr ⟨j, rfl, hj, Or.inr (Or.inl ⟨by omega, hi, rfl, rfl⟩)⟩) hf hC'
      · rw [wpl_t (by omega) hi]
        (first | refine xbr_t (by decide) ?_ | refine xbr_f (by decide) ?_)
        obtain ⟨m, hm, rfl⟩ := ibB_t hi (by omega)
        obtain ⟨s, hs⟩ : ∃ s, S.rz j = s + 1 := ⟨S.rz j - 1, by omega⟩
        rw [hs, szI_s] at hz
        refine ⟨rfl, rfl, 2, 3, 4, 6, 40, j, m, s, v, Or.inl ⟨rfl, rfl, rfl, rfl, rfl⟩, rfl, hj, hz, by omega, by omega, hC.m2, ?_⟩
        have hC2 := Cls_set hC (j * 40 + m) v
        refine ⟨rfl, rfl, _, I 4 (j * 40 + m), rfl, hC2, fun I' hf hC' => ?_⟩
        rw [hC.rv] at hC'
        exact hQ _ _ _ _ (Or.inr ⟨j, rfl, hj, Or.inr (Or.inr ⟨m, rfl, hm, rfl, rfl⟩)⟩) (frC_t (frC_I (by decide) _ _ _ _) hf) hC'
  · have hb : ibB r 6 = false := by
      cases h : ibB r 6
      · rfl
      · exact absurd ((in_ib (by decide)).mpr h) hr
    (first | refine xbr_t (by decide) ?_ | refine xbr_f (by decide) ?_)
    exact hQ _ _ _ _ (Or.inl ⟨hb, rfl, rfl⟩) (frC_0 _ _) hC
def atR (S : ST) (r i o : Int32) (S' : ST) : Prop := (ibB r 6 = false ∧ o = -(nI 1) ∧ S' = S) ∨ (∃ j, r = nI j ∧ j < 6 ∧ ((S.rz j = 0 ∧ fin S 1 o S') ∨ (0 < S.rz j ∧ ibB i (S.rz j - 1) = false ∧ fin S 2 o S') ∨ (∃ m, i = nI m ∧ m < S.rz j - 1 ∧ o = nI 1 ∧ S' = S.wT (S.rv (j * 40 + m)))))
def csX10_at : xCs := [(mX8_isNumber, sX8_isNumber), (mX8_wrongPlace, sX8_wrongPlace), (mX10_refuse, sX10_refuse), (mX8_get, sX8_get), (mX10_tell, sX10_tell)]
theorem okX10_at : xOkM mX10_at csX10_at := ⟨dX10_at, by decide +kernel, by decide +kernel, ⟨wdX10_14, wdX10_75, wdX10_14, wdX10_87, wdX10_79, wdX10_14, wdX10_98, wdX10_95, trivial⟩⟩
theorem hhX10_at : ∀ q ∈ csX10_at, xHd q.1 := xall1 hX8_isNumber (xall1 hX8_wrongPlace (xall1 hX10_refuse (xall1 hX8_get (xall1 hX10_tell (xall0)))))
theorem kkX10_at : ∀ q ∈ csX10_at, ∀ l, xCon l q.1 q.2 := xall1 kX8_isNumber (xall1 kX8_wrongPlace (xall1 kX10_refuse (xall1 kX8_get (xall1 kX10_tell (xall0)))))
def sX10_at : xSpec := xReg fun as I L Q => ∃ (S : ST) (r i : Int32), as = [.ref 1, .int r, .int i] ∧ Cls S I L ∧ (∀ o S' I' L', atR S r i o S' → frC I L I' L' → Cls S' I' L' → Q (some (.int o)) I' L')
set_option maxRecDepth 100000 in
theorem kX10_at : ∀ l, xCon l mX10_at sX10_at := by
  refine xcon_of okX10_at hX10_at rfl hhX10_at kkX10_at ?_
  rintro as n0 I L P Q ⟨hn9, rfl, S, r, i, rfl, hC, hQ⟩
  obtain ⟨e9, rfl⟩ := xe9 hn9
  refine ⟨Nat.le_of_ble_eq_true rfl, ?_⟩
  refine xrun okX10_at hhX10_at [] 60 ?_
  refine ⟨rfl, rfl, 2, 3, 4, 6, 40, r, Or.inl ⟨rfl, rfl, rfl, rfl, rfl⟩, rfl, fun hr => ?_, fun hr => ?_⟩
  · have hb := (in_ib (by decide)).mp hr
    obtain ⟨j, hj, rfl⟩ := ibB_t hb (by decide)
    (first | refine xbr_t (by decide) ?_ | refine xbr_f (by decide) ?_)
    have hz := hC.rz j hj
    have hz41 := hC.ok.rz j hj
    refine ⟨rfl, rfl, 2, 3, 4, 6, 40, j, S.rz j, i, Or.inl ⟨rfl, rfl, rfl, rfl, rfl⟩, rfl, hj, hz41, hz, ?_⟩
    by_cases h0 : S.rz j = 0
    · rw [h0, wpl_0]
      (first | refine xbr_t (by decide) ?_ | refine xbr_f (by decide) ?_)
      refine ⟨rfl, rfl, S, 1, rfl, by decide, hC, fun I' hf hC' => ?_⟩
      exact hQ _ _ _ _ (Or.inr ⟨j, rfl, hj, Or.inl ⟨h0, rfl, rfl⟩⟩) hf hC'
    · cases hi : ibB i (S.rz j - 1)
      · rw [wpl_f (by omega) hi]
        (first | refine xbr_t (by decide) ?_ | refine xbr_f (by decide) ?_)
        refine ⟨rfl, rfl, S, 2, rfl, by decide, hC, fun I' hf hC' => ?_⟩
        exact hQ _ _ _ _ (Or.inr ⟨j, rfl, hj, Or.inr (Or.inl ⟨by omega, hi, rfl, rfl⟩)⟩) hf hC'
      · rw [wpl_t (by omega) hi]
        (first | refine xbr_t (by decide) ?_ | refine xbr_f (by decide) ?_)
        obtain ⟨m, hm, rfl⟩ := ibB_t hi (by omega)
        obtain ⟨s, hs⟩ : ∃ s, S.rz j = s + 1 := ⟨S.rz j - 1, by omega⟩
        rw [hs, szI_s] at hz
        refine ⟨rfl, rfl, 2, 3, 4, 6, 40, j, m, s, Or.inl ⟨rfl, rfl, rfl, rfl, rfl⟩, rfl, hj, hz, by omega, by omega, hC.m2, ?_⟩
        refine ⟨rfl, rfl, S, I 4 (j * 40 + m), rfl, hC, fun I' hf hC' => ?_⟩
        rw [hC.rv] at hC'
        exact hQ _ _ _ _ (Or.inr ⟨j, rfl, hj, Or.inr (Or.inr ⟨m, rfl, hm, rfl, rfl⟩)⟩) hf hC'
  · have hb : ibB r 6 = false := by
      cases h : ibB r 6
      · rfl
      · exact absurd ((in_ib (by decide)).mpr h) hr
    (first | refine xbr_t (by decide) ?_ | refine xbr_f (by decide) ?_)
    exact hQ _ _ _ _ (Or.inl ⟨hb, rfl, rfl⟩) (frC_0 _ _) hC
