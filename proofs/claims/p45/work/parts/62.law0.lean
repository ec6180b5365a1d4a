/-! THE LAW'S HELPERS -/
def xRg7 (f : xF) : xSpec := fun as n I L P Q => Nat.ble 27 n = true ∧ P = xP0 ∧ f as I L (fun r I' L' => Q r n I' L' xP0)
theorem xe7 {n : Nat} (h : Nat.ble 27 n = true) : ∃ e, n = e + 27 := ⟨n - 27, by have := Nat.le_of_ble_eq_true h; omega⟩
theorem wT_d (S : ST) (v : Int32) : (S.wT v).d = S.d := rfl
theorem wT_D (S : ST) (v : Int32) : (S.wT v).D = S.D := rfl
theorem wT_kp (S : ST) (v : Int32) : (S.wT v).kp = S.kp := rfl
theorem wT_rz (S : ST) (v : Int32) : (S.wT v).rz = S.rz := rfl
theorem wT_rv (S : ST) (v : Int32) : (S.wT v).rv = S.rv := rfl
theorem wR_d (S : ST) (z : Nat → Nat) (v : Nat → Int32) : (S.wR z v).d = S.d := rfl
theorem wR_D (S : ST) (z : Nat → Nat) (v : Nat → Int32) : (S.wR z v).D = S.D := rfl
theorem wR_kp (S : ST) (z : Nat → Nat) (v : Nat → Int32) : (S.wR z v).kp = S.kp := rfl
theorem wR_rz (S : ST) (z : Nat → Nat) (v : Nat → Int32) : (S.wR z v).rz = z := rfl
theorem wR_rv (S : ST) (z : Nat → Nat) (v : Nat → Int32) : (S.wR z v).rv = v := rfl
theorem wC_d (S : ST) (a b : Int64) : (S.wC a b).d = S.d := rfl
theorem wC_D (S : ST) (a b : Int64) : (S.wC a b).D = S.D := rfl
theorem wC_kp (S : ST) (a b : Int64) : (S.wC a b).kp = S.kp := rfl
theorem wC_rz (S : ST) (a b : Int64) : (S.wC a b).rz = S.rz := rfl
theorem wC_rv (S : ST) (a b : Int64) : (S.wC a b).rv = S.rv := rfl
theorem wD_d (S : ST) (D : DD) : (S.wD D).d = S.d := rfl
theorem wD_D (S : ST) (D : DD) : (S.wD D).D = D := rfl
theorem wD_kp (S : ST) (D : DD) : (S.wD D).kp = S.kp := rfl
theorem wD_rz (S : ST) (D : DD) : (S.wD D).rz = S.rz := rfl
theorem wD_rv (S : ST) (D : DD) : (S.wD D).rv = S.rv := rfl
/-- the class in this state, whatever was told last -/
def Lq (S : ST) (I : xI) (L : xL) : Prop := ∃ v, Cls (S.wT v) I L
theorem Lq.ok {S : ST} {I : xI} {L : xL} (h : Lq S I L) : SOk S := by
  obtain ⟨v, h⟩ := h
  exact h.ok
theorem nI_j {a b : Nat} (ha : a < 2 ^ 31) (hb : b < 2 ^ 31) (h : nI a = nI b) : a = b := (nI_eq ha hb).mp h
theorem ct_no {k : Nat} (hk : k < 11) {X : Prop} (q : ibB (nI k) 11 = false) : X := by
  rw [ibB_n hk (by decide)] at q
  cases q
theorem tb_v (x k : Nat) : x / 2 ^ k % 2 = (tbB x k).toNat := by
  unfold tbB
  by_cases h : x / 2 ^ k % 2 = 1
  · rw [decide_eq_true h, h]
    rfl
  · rw [decide_eq_false h]
    show _ = 0
    omega
theorem in_cell {x : Int32} {k : Nat} (hk : k < 2 ^ 31) (h : ¬ x ≤ nI k) : vp_in (nI k) x.toNatClampNeg := by
  rw [vp_in_iff, nI_toInt hk]
  rw [ix_le, nI_toInt hk] at h
  have : x.toNatClampNeg = x.toInt.toNat := rfl
  omega
def csL_cell : xCs := []
theorem okL_cell : xOkM mL_cell csL_cell := ⟨dL_cell, by decide +kernel, by decide +kernel, ⟨wdL_7, wdL_8, trivial⟩⟩
theorem hhL_cell : ∀ q ∈ csL_cell, xHd q.1 := xall0
theorem kkL_cell : ∀ q ∈ csL_cell, ∀ l, xCon l q.1 q.2 := xall0
def sL_cell : xSpec := xReg fun as I L Q => ∃ (k : Nat), as = [.ref 0, .int (nI k)] ∧ k < 2 ^ 31 ∧ ∀ v, v < 2 ^ 31 → Q (some (.int (nI v))) I L
set_option maxRecDepth 100000 in
theorem kL_cell : ∀ l, xCon l mL_cell sL_cell := by
  refine xcon_of okL_cell hL_cell rfl hhL_cell kkL_cell ?_
  rintro as n0 I L P Q ⟨hn9, rfl, k, rfl, hk, hQ⟩
  obtain ⟨e9, rfl⟩ := xe9 hn9
  refine ⟨Nat.le_of_ble_eq_true rfl, ?_⟩
  have key : ∀ x : Int32, Q (some (.int (x &&& nI 2147483647))) (e9 + 26) I L xP0 := fun x => by
    obtain ⟨j, hj, e⟩ := pk_andE x (m := nI 2147483647) 31 (by decide)
    rw [e]
    exact hQ j hj
  refine xrun okL_cell hhL_cell [] 40 ?_
  refine ⟨fun _ => ?_, fun h => ?_⟩
  · exact key _
  · refine ⟨in_cell hk h, ?_⟩
    exact key _
def csL_size : xCs := []
theorem okL_size : xOkM mL_size csL_size := ⟨dL_size, by decide +kernel, by decide +kernel, trivial⟩
theorem hhL_size : ∀ q ∈ csL_size, xHd q.1 := xall0
theorem kkL_size : ∀ q ∈ csL_size, ∀ l, xCon l q.1 q.2 := xall0
def sL_size : xSpec := xReg fun as I L Q => ∃ (x : Nat), as = [.int (nI x)] ∧ x < 2 ^ 31 ∧ Q (some (.int (nI (cnN (tbB x) 16)))) I L
set_option maxRecDepth 100000 in
theorem kL_size : ∀ l, xCon l mL_size sL_size := by
  refine xcon_of okL_size hL_size rfl hhL_size kkL_size ?_
  rintro as n0 I L P Q ⟨hn9, rfl, x, rfl, hx, hQ⟩
  obtain ⟨e9, rfl⟩ := xe9 hn9
  refine ⟨Nat.le_of_ble_eq_true rfl, ?_⟩
  refine xrun okL_size hhL_size [(4, [true, true, true])] 20 ?_
  refine xlp (M := mL_size) (cs := csL_size) (pc := 4) 16 (fun k => [some (.int (nI x)), some (.int (nI (cnN (tbB x) k))), some (.int (nI k))]) (fun _ => I) (fun _ => L) ?_ ?_
  · intro k hk ih
    refine xrun okL_size hhL_size [(4, [true, true, true])] 60 ?_
    (first | (refine xbr_f ?_ ?_; (focus ((simp (disch := omega) only [ix_lt, ix_le, ix_eq, ix_0, nI_clamp, nI_toInt, ng_T, nI_add, nI_mul, nI_sub', Int.neg_zero, not_false_eq_true, not_true_eq_false] <;> omega); done))) | (refine xbr_t ?_ ?_; (focus ((simp (disch := omega) only [ix_lt, ix_le, ix_eq, ix_0, nI_clamp, nI_toInt, ng_T, nI_add, nI_mul, nI_sub', Int.neg_zero, not_false_eq_true, not_true_eq_false] <;> omega); done))) | refine ⟨Or.inl rfl, ?_⟩ | refine ⟨Or.inr rfl, ?_⟩ | (refine ⟨?_, ?_⟩; (focus (exact in_nI (by omega) (by omega)))))
    refine xgo_eq ih ?_ rfl rfl
    ((repeat' (first | (with_reducible rfl) | exact xv_nil | refine xv_cons ?_ ?_ | refine xv_i ?_ | refine xv_l ?_)) <;> (simp (disch := omega) only [↓reduceIte, Bool.false_eq_true, Nat.one_mul, Nat.zero_mul, Nat.or_zero, Nat.add_zero, Nat.zero_add, Bool.toNat_true, Bool.toNat_false, shl_n, shr_n, fa_and, fa_or, nx_xor, nI_add, nI_mul, nI_sub', and_1, and_7, and_3', and_15, cnN, tb_v]))
  · refine xrun okL_size hhL_size [] 60 ?_
    repeat (first | (refine xbr_f ?_ ?_; (focus ((simp (disch := omega) only [ix_lt, ix_le, ix_eq, ix_0, nI_clamp, nI_toInt, ng_T, nI_add, nI_mul, nI_sub', Int.neg_zero, not_false_eq_true, not_true_eq_false] <;> omega); done))) | (refine xbr_t ?_ ?_; (focus ((simp (disch := omega) only [ix_lt, ix_le, ix_eq, ix_0, nI_clamp, nI_toInt, ng_T, nI_add, nI_mul, nI_sub', Int.neg_zero, not_false_eq_true, not_true_eq_false] <;> omega); done))) | refine ⟨Or.inl rfl, ?_⟩ | refine ⟨Or.inr rfl, ?_⟩ | (refine ⟨?_, ?_⟩; (focus (exact in_nI (by omega) (by omega)))))
    exact hQ
theorem assR_v {S S' : ST} {a k : Nat} {o : Int32} (h : assR S (nI a) (nI k) o S') (hd : S.d.ok) (ha : a < S.d.nA) (hk : k < 4) : o = nI 1 ∧ S' = S.wT (oaI S.d S.D.X a k) := by
  have h4 := hd.a4
  rcases h with ⟨n, -⟩ | ⟨a', k', e1, h1, e2, h2, rfl, rfl⟩
  · exact absurd ⟨ibB_n ha (by omega), ibB_n hk (by decide)⟩ n
  · obtain rfl := nI_j (by omega) (by omega) e1
    obtain rfl := nI_j (by omega) (by omega) e2
    exact ⟨rfl, rfl⟩
theorem loadR_v {S S' : ST} {a k : Nat} {o : Int32} (h : loadR S (nI a) (nI k) o S') (hd : S.d.ok) (ha : a < S.d.nL) (hk : k < 5) : o = nI 1 ∧ S' = S.wT (olI S.d S.D.X a k) := by
  have h4 := hd.l5
  rcases h with ⟨n, -⟩ | ⟨a', k', e1, h1, e2, h2, rfl, rfl⟩
  · exact absurd ⟨ibB_n ha (by omega), ibB_n hk (by decide)⟩ n
  · obtain rfl := nI_j (by omega) (by omega) e1
    obtain rfl := nI_j (by omega) (by omega) e2
    exact ⟨rfl, rfl⟩
def csL_of : xCs := [(mX10_ass, sX10_ass), (mX10_asked, sX10_asked)]
theorem okL_of : xOkM mL_of csL_of := ⟨dL_of, by decide +kernel, by decide +kernel, ⟨wdL_78, wdL_81, trivial⟩⟩
theorem hhL_of : ∀ q ∈ csL_of, xHd q.1 := xall1 hX10_ass (xall1 hX10_asked (xall0))
theorem kkL_of : ∀ q ∈ csL_of, ∀ l, xCon l q.1 q.2 := xall1 kX10_ass (xall1 kX10_asked (xall0))
def sL_of : xSpec := xReg fun as I L Q => ∃ (S : ST) (a k : Nat), as = [.ref 1, .int (nI a), .int (nI k)] ∧ a < S.d.nA ∧ k < 4 ∧ Lq S I L ∧ ∀ I' L', frC I L I' L' → Lq S I' L' → Q (some (.int (oaI S.d S.D.X a k))) I' L'
set_option maxRecDepth 100000 in
theorem kL_of : ∀ l, xCon l mL_of sL_of := by
  refine xcon_of okL_of hL_of rfl hhL_of kkL_of ?_
  rintro as n0 I L P Q ⟨hn9, rfl, S, a, k, rfl, ha, hk, ⟨v, hC⟩, hQ⟩
  obtain ⟨e9, rfl⟩ := xe9 hn9
  refine ⟨Nat.le_of_ble_eq_true rfl, ?_⟩
  refine xrun okL_of hhL_of [] 40 ?_
  refine ⟨rfl, rfl, S.wT v, _, _, rfl, hC, fun o S' I' L' hr hf hC' => ?_⟩
  obtain ⟨rfl, rfl⟩ := assR_v hr hC.ok.d ha hk
  (first | (refine xbr_f ?_ ?_; (focus ((simp (disch := omega) only [ix_lt, ix_le, ix_eq, ix_0, nI_clamp, nI_toInt, ng_T, nI_add, nI_mul, nI_sub', Int.neg_zero, not_false_eq_true, not_true_eq_false] <;> omega); done))) | (refine xbr_t ?_ ?_; (focus ((simp (disch := omega) only [ix_lt, ix_le, ix_eq, ix_0, nI_clamp, nI_toInt, ng_T, nI_add, nI_mul, nI_sub', Int.neg_zero, not_false_eq_true, not_true_eq_false] <;> omega); done))) | refine ⟨Or.inl rfl, ?_⟩ | refine ⟨Or.inr rfl, ?_⟩ | (refine ⟨?_, ?_⟩; (focus (exact in_nI (by omega) (by omega)))))
  refine ⟨rfl, rfl, _, rfl, hC', ?_⟩
  exact hQ _ _ hf ⟨_, hC'⟩
def csL_at : xCs := [(mX10_load, sX10_load), (mX10_asked, sX10_asked)]
theorem okL_at : xOkM mL_at csL_at := ⟨dL_at, by decide +kernel, by decide +kernel, ⟨wdL_84, wdL_81, trivial⟩⟩
theorem hhL_at : ∀ q ∈ csL_at, xHd q.1 := xall1 hX10_load (xall1 hX10_asked (xall0))
theorem kkL_at : ∀ q ∈ csL_at, ∀ l, xCon l q.1 q.2 := xall1 kX10_load (xall1 kX10_asked (xall0))
def sL_at : xSpec := xReg fun as I L Q => ∃ (S : ST) (a k : Nat), as = [.ref 1, .int (nI a), .int (nI k)] ∧ a < S.d.nL ∧ k < 5 ∧ Lq S I L ∧ ∀ I' L', frC I L I' L' → Lq S I' L' → Q (some (.int (olI S.d S.D.X a k))) I' L'
set_option maxRecDepth 100000 in
theorem kL_at : ∀ l, xCon l mL_at sL_at := by
  refine xcon_of okL_at hL_at rfl hhL_at kkL_at ?_
  rintro as n0 I L P Q ⟨hn9, rfl, S, a, k, rfl, ha, hk, ⟨v, hC⟩, hQ⟩
  obtain ⟨e9, rfl⟩ := xe9 hn9
  refine ⟨Nat.le_of_ble_eq_true rfl, ?_⟩
  refine xrun okL_at hhL_at [] 40 ?_
  refine ⟨rfl, rfl, S.wT v, _, _, rfl, hC, fun o S' I' L' hr hf hC' => ?_⟩
  obtain ⟨rfl, rfl⟩ := loadR_v hr hC.ok.d ha hk
  (first | (refine xbr_f ?_ ?_; (focus ((simp (disch := omega) only [ix_lt, ix_le, ix_eq, ix_0, nI_clamp, nI_toInt, ng_T, nI_add, nI_mul, nI_sub', Int.neg_zero, not_false_eq_true, not_true_eq_false] <;> omega); done))) | (refine xbr_t ?_ ?_; (focus ((simp (disch := omega) only [ix_lt, ix_le, ix_eq, ix_0, nI_clamp, nI_toInt, ng_T, nI_add, nI_mul, nI_sub', Int.neg_zero, not_false_eq_true, not_true_eq_false] <;> omega); done))) | refine ⟨Or.inl rfl, ?_⟩ | refine ⟨Or.inr rfl, ?_⟩ | (refine ⟨?_, ?_⟩; (focus (exact in_nI (by omega) (by omega)))))
  refine ⟨rfl, rfl, _, rfl, hC', ?_⟩
  exact hQ _ _ hf ⟨_, hC'⟩
def wok (S : ST) (I : xI) : Prop := I 27 0 = nI S.d.nA ∧ I 27 1 = nI S.d.nL
theorem f27 {I I' : xI} {L L' : xL} (h : frC I L I' L') : I' 27 = I 27 := (h 27 (Or.inr (by decide))).1
theorem f28 {I I' : xI} {L L' : xL} (h : frC I L I' L') : I' 28 = I 28 := (h 28 (Or.inr (by decide))).1
theorem cnt_T (S : ST) (v : Int32) : ∀ k, cntI (S.wT v) k = cntI S k
  | 0 => rfl
  | 1 => rfl
  | 2 => rfl
  | 3 => rfl
  | 4 => rfl
  | 5 => rfl
  | 6 => rfl
  | 7 => rfl
  | 8 => rfl
  | 9 => rfl
  | k + 10 => rfl
/-- the law's sum of a state -/
def hs1 (S : ST) : Nat → Int64
  | 0 => lN 3
  | k + 1 => lN 31 * hs1 S k + (cntI S k).toInt64
def hs2 (S : ST) : Nat → Int64
  | 0 => hs1 S 8
  | i + 1 => lN 31 * (lN 31 * hs2 S i + (oaI S.d S.D.X i 1).toInt64) + (oaI S.d S.D.X i 2).toInt64
def hs3 (S : ST) : Nat → Int64
  | 0 => hs2 S S.d.nA
  | l + 1 => lN 31 * (lN 31 * hs3 S l + (olI S.d S.D.X l 0).toInt64) + (olI S.d S.D.X l 1).toInt64
def hsh (S : ST) : Int64 := hs3 S S.d.nL
theorem hsh_eq {S S' : ST} (hd : S'.d = S.d) (hX : S'.D.X = S.D.X) (hc : ∀ k, k < 8 → cntI S' k = cntI S k) : hsh S' = hsh S := by
  have h1 : ∀ k, k ≤ 8 → hs1 S' k = hs1 S k := by
    intro k
    induction k with
    | zero => exact fun _ => rfl
    | succ k ih =>
      intro hk
      show lN 31 * hs1 S' k + (cntI S' k).toInt64 = lN 31 * hs1 S k + (cntI S k).toInt64
      rw [ih (by omega), hc k (by omega)]
  have h2 : ∀ k, hs2 S' k = hs2 S k := by
    intro k
    induction k with
    | zero => exact h1 8 (Nat.le_refl 8)
    | succ k ih =>
      show lN 31 * (lN 31 * hs2 S' k + (oaI S'.d S'.D.X k 1).toInt64) + (oaI S'.d S'.D.X k 2).toInt64 = _
      rw [ih, hd, hX]
      rfl
  have h3 : ∀ k, hs3 S' k = hs3 S k := by
    intro k
    induction k with
    | zero =>
      show hs2 S' S'.d.nA = hs2 S S.d.nA
      rw [h2, hd]
    | succ k ih =>
      show lN 31 * (lN 31 * hs3 S' k + (olI S'.d S'.D.X k 0).toInt64) + (olI S'.d S'.D.X k 1).toInt64 = _
      rw [ih, hd, hX]
      rfl
  show hs3 S' S'.d.nL = hs3 S S.d.nL
  rw [h3, hd]
def csL_hash : xCs := [(mX10_count, sX10_count), (mL_of, sL_of), (mL_at, sL_at)]
theorem okL_hash : xOkM mL_hash csL_hash := ⟨dL_hash, by decide +kernel, by decide +kernel, ⟨wdL_132, wdL_134, wdL_71, wdL_134, wdL_134, wdL_136, wdL_136, wdL_134, wdL_134, wdL_140, wdL_140, trivial⟩⟩
theorem hhL_hash : ∀ q ∈ csL_hash, xHd q.1 := xall1 hX10_count (xall1 hL_of (xall1 hL_at (xall0)))
theorem kkL_hash : ∀ q ∈ csL_hash, ∀ l, xCon l q.1 q.2 := xall1 kX10_count (xall1 kL_of (xall1 kL_at (xall0)))
def sL_hash : xSpec := xRg7 fun as I L Q => ∃ (S : ST), as = [.ref 1, .ref 27] ∧ Lq S I L ∧ wok S I ∧ ∀ I' L', frC I L I' L' → Lq S I' L' → Q (some (.long (hsh S))) I' L'
set_option maxRecDepth 100000 in
theorem kL_hash : ∀ l, xCon l mL_hash sL_hash := by
  refine xcon_of okL_hash hL_hash rfl hhL_hash kkL_hash ?_
  rintro as n0 I L P Q ⟨hn9, rfl, S, rfl, hC, ⟨h0, h1⟩, hQ⟩
  obtain ⟨e9, rfl⟩ := xe7 hn9
  refine ⟨Nat.le_of_ble_eq_true rfl, ?_⟩
  have h4 := hC.ok.d.a4
  have h5 := hC.ok.d.l5
  refine xrun okL_hash hhL_hash [(7, [true, true, true, false, true])] 20 ?_
  refine xlpW (M := mL_hash) (cs := csL_hash) (pc := 7) 8 (fun k => [some (.ref 1), some (.ref 27), some (.long (hs1 S k)), none, some (.int (nI k))]) (fun k I' L' => Lq S I' L' ∧ frC I L I' L') ?_ ?_ ⟨hC, frC_0 _ _⟩
  · rintro k hk I2 L2 ⟨⟨v, hC2⟩, hf2⟩ ih
    refine xrun okL_hash hhL_hash [(7, [true, true, true, false, true])] 40 ?_
    (first | (refine xbr_f ?_ ?_; (focus ((simp (disch := omega) only [ix_lt, ix_le, ix_eq, ix_0, nI_clamp, nI_toInt, ng_T, nI_add, nI_mul, nI_sub', Int.neg_zero, not_false_eq_true, not_true_eq_false] <;> omega); done))) | (refine xbr_t ?_ ?_; (focus ((simp (disch := omega) only [ix_lt, ix_le, ix_eq, ix_0, nI_clamp, nI_toInt, ng_T, nI_add, nI_mul, nI_sub', Int.neg_zero, not_false_eq_true, not_true_eq_false] <;> omega); done))) | refine ⟨Or.inl rfl, ?_⟩ | refine ⟨Or.inr rfl, ?_⟩ | (refine ⟨?_, ?_⟩; (focus (exact in_nI (by omega) (by omega)))))
    refine ⟨rfl, rfl, S.wT v, _, rfl, hC2, fun q => ?_, fun j e hj => ?_⟩
    · rw [ibB_n (by omega) (by omega)] at q
      cases q
    · obtain rfl := nI_j (by omega) (by omega) e
      rw [cnt_T]
      refine xgo_eq (ih _ _ ⟨⟨v, hC2⟩, hf2⟩) ?_ rfl rfl
      ((repeat' (first | (with_reducible rfl) | exact xv_nil | refine xv_cons ?_ ?_ | refine xv_i ?_ | refine xv_l ?_)) <;> (simp (disch := omega) only [↓reduceIte, Bool.false_eq_true, Nat.one_mul, Nat.zero_mul, Nat.or_zero, Nat.add_zero, Nat.zero_add, Bool.toNat_true, Bool.toNat_false, shl_n, shr_n, fa_and, fa_or, nx_xor, nI_add, nI_mul, nI_sub', and_1, and_7, and_3', and_15, hs1]))
  · rintro I2 L2 ⟨hC2, hf2⟩
    refine xrun okL_hash hhL_hash [(37, [true, true, true, false, true])] 40 ?_
    (first | (refine xbr_f ?_ ?_; (focus ((simp (disch := omega) only [ix_lt, ix_le, ix_eq, ix_0, nI_clamp, nI_toInt, ng_T, nI_add, nI_mul, nI_sub', Int.neg_zero, not_false_eq_true, not_true_eq_false] <;> omega); done))) | (refine xbr_t ?_ ?_; (focus ((simp (disch := omega) only [ix_lt, ix_le, ix_eq, ix_0, nI_clamp, nI_toInt, ng_T, nI_add, nI_mul, nI_sub', Int.neg_zero, not_false_eq_true, not_true_eq_false] <;> omega); done))) | refine ⟨Or.inl rfl, ?_⟩ | refine ⟨Or.inr rfl, ?_⟩ | (refine ⟨?_, ?_⟩; (focus (exact in_nI (by omega) (by omega)))))
    refine xlpW (M := mL_hash) (cs := csL_hash) (pc := 37) S.d.nA (fun k => [some (.ref 1), some (.ref 27), some (.long (hs2 S k)), none, some (.int (nI k))]) (fun k I' L' => Lq S I' L' ∧ frC I L I' L') ?_ ?_ ⟨hC2, hf2⟩
    · rintro k hk I3 L3 ⟨hC3, hf3⟩ ih
      have e0 : I3 27 0 = nI S.d.nA := by rw [f27 hf3]; exact h0
      refine xrun okL_hash hhL_hash [(37, [true, true, true, false, true])] 40 ?_
      (first | (refine xbr_f ?_ ?_; (focus ((simp (disch := omega) only [ix_lt, ix_le, ix_eq, ix_0, nI_clamp, nI_toInt, ng_T, nI_add, nI_mul, nI_sub', Int.neg_zero, not_false_eq_true, not_true_eq_false] <;> omega); done))) | (refine xbr_t ?_ ?_; (focus ((simp (disch := omega) only [ix_lt, ix_le, ix_eq, ix_0, nI_clamp, nI_toInt, ng_T, nI_add, nI_mul, nI_sub', Int.neg_zero, not_false_eq_true, not_true_eq_false] <;> omega); done))) | refine ⟨Or.inl rfl, ?_⟩ | refine ⟨Or.inr rfl, ?_⟩ | (refine ⟨?_, ?_⟩; (focus (exact in_nI (by omega) (by omega)))))
      (first | (refine xbr_f ?_ ?_; (focus ((simp (disch := omega) only [ix_lt, ix_le, ix_eq, ix_0, nI_clamp, nI_toInt, ng_T, nI_add, nI_mul, nI_sub', Int.neg_zero, not_false_eq_true, not_true_eq_false, e0] <;> omega); done))) | (refine xbr_t ?_ ?_; (focus ((simp (disch := omega) only [ix_lt, ix_le, ix_eq, ix_0, nI_clamp, nI_toInt, ng_T, nI_add, nI_mul, nI_sub', Int.neg_zero, not_false_eq_true, not_true_eq_false, e0] <;> omega); done))) | refine ⟨Or.inl rfl, ?_⟩ | refine ⟨Or.inr rfl, ?_⟩ | (refine ⟨?_, ?_⟩; (focus ((try simp (disch := omega) only [e0, nI_mul, nI_add, nI_sub']); exact in_nI (by omega) (by omega)))))
      refine ⟨rfl, rfl, S, k, 1, rfl, hk, by decide, hC3, fun I4 L4 hf4 hC4 => ?_⟩
      refine ⟨rfl, rfl, S, k, 2, rfl, hk, by decide, hC4, fun I5 L5 hf5 hC5 => ?_⟩
      refine xgo_eq (ih _ _ ⟨hC5, frC_t hf3 (frC_t hf4 hf5)⟩) ?_ rfl rfl
      ((repeat' (first | (with_reducible rfl) | exact xv_nil | refine xv_cons ?_ ?_ | refine xv_i ?_ | refine xv_l ?_)) <;> (simp (disch := omega) only [↓reduceIte, Bool.false_eq_true, Nat.one_mul, Nat.zero_mul, Nat.or_zero, Nat.add_zero, Nat.zero_add, Bool.toNat_true, Bool.toNat_false, shl_n, shr_n, fa_and, fa_or, nx_xor, nI_add, nI_mul, nI_sub', and_1, and_7, and_3', and_15, hs2]))
    · rintro I3 L3 ⟨hC3, hf3⟩
      have e0 : I3 27 0 = nI S.d.nA := by rw [f27 hf3]; exact h0
      refine xrun okL_hash hhL_hash [(82, [true, true, true, false, true])] 40 ?_
      (first | (refine xbr_f ?_ ?_; (focus ((simp (disch := omega) only [ix_lt, ix_le, ix_eq, ix_0, nI_clamp, nI_toInt, ng_T, nI_add, nI_mul, nI_sub', Int.neg_zero, not_false_eq_true, not_true_eq_false] <;> omega); done))) | (refine xbr_t ?_ ?_; (focus ((simp (disch := omega) only [ix_lt, ix_le, ix_eq, ix_0, nI_clamp, nI_toInt, ng_T, nI_add, nI_mul, nI_sub', Int.neg_zero, not_false_eq_true, not_true_eq_false] <;> omega); done))) | refine ⟨Or.inl rfl, ?_⟩ | refine ⟨Or.inr rfl, ?_⟩ | (refine ⟨?_, ?_⟩; (focus (exact in_nI (by omega) (by omega)))))
      (first | (refine xbr_f ?_ ?_; (focus ((simp (disch := omega) only [ix_lt, ix_le, ix_eq, ix_0, nI_clamp, nI_toInt, ng_T, nI_add, nI_mul, nI_sub', Int.neg_zero, not_false_eq_true, not_true_eq_false, e0] <;> omega); done))) | (refine xbr_t ?_ ?_; (focus ((simp (disch := omega) only [ix_lt, ix_le, ix_eq, ix_0, nI_clamp, nI_toInt, ng_T, nI_add, nI_mul, nI_sub', Int.neg_zero, not_false_eq_true, not_true_eq_false, e0] <;> omega); done))) | refine ⟨Or.inl rfl, ?_⟩ | refine ⟨Or.inr rfl, ?_⟩ | (refine ⟨?_, ?_⟩; (focus ((try simp (disch := omega) only [e0, nI_mul, nI_add, nI_sub']); exact in_nI (by omega) (by omega)))))
      refine xlpW (M := mL_hash) (cs := csL_hash) (pc := 82) S.d.nL (fun k => [some (.ref 1), some (.ref 27), some (.long (hs3 S k)), none, some (.int (nI k))]) (fun k I' L' => Lq S I' L' ∧ frC I L I' L') ?_ ?_ ⟨hC3, hf3⟩
      · rintro k hk I4 L4 ⟨hC4, hf4⟩ ih
        have e1 : I4 27 1 = nI S.d.nL := by rw [f27 hf4]; exact h1
        refine xrun okL_hash hhL_hash [(82, [true, true, true, false, true])] 40 ?_
        (first | (refine xbr_f ?_ ?_; (focus ((simp (disch := omega) only [ix_lt, ix_le, ix_eq, ix_0, nI_clamp, nI_toInt, ng_T, nI_add, nI_mul, nI_sub', Int.neg_zero, not_false_eq_true, not_true_eq_false] <;> omega); done))) | (refine xbr_t ?_ ?_; (focus ((simp (disch := omega) only [ix_lt, ix_le, ix_eq, ix_0, nI_clamp, nI_toInt, ng_T, nI_add, nI_mul, nI_sub', Int.neg_zero, not_false_eq_true, not_true_eq_false] <;> omega); done))) | refine ⟨Or.inl rfl, ?_⟩ | refine ⟨Or.inr rfl, ?_⟩ | (refine ⟨?_, ?_⟩; (focus (exact in_nI (by omega) (by omega)))))
        (first | (refine xbr_f ?_ ?_; (focus ((simp (disch := omega) only [ix_lt, ix_le, ix_eq, ix_0, nI_clamp, nI_toInt, ng_T, nI_add, nI_mul, nI_sub', Int.neg_zero, not_false_eq_true, not_true_eq_false, e1] <;> omega); done))) | (refine xbr_t ?_ ?_; (focus ((simp (disch := omega) only [ix_lt, ix_le, ix_eq, ix_0, nI_clamp, nI_toInt, ng_T, nI_add, nI_mul, nI_sub', Int.neg_zero, not_false_eq_true, not_true_eq_false, e1] <;> omega); done))) | refine ⟨Or.inl rfl, ?_⟩ | refine ⟨Or.inr rfl, ?_⟩ | (refine ⟨?_, ?_⟩; (focus ((try simp (disch := omega) only [e1, nI_mul, nI_add, nI_sub']); exact in_nI (by omega) (by omega)))))
        refine ⟨rfl, rfl, S, k, 0, rfl, hk, by decide, hC4, fun I5 L5 hf5 hC5 => ?_⟩
        refine ⟨rfl, rfl, S, k, 1, rfl, hk, by decide, hC5, fun I6 L6 hf6 hC6 => ?_⟩
        refine xgo_eq (ih _ _ ⟨hC6, frC_t hf4 (frC_t hf5 hf6)⟩) ?_ rfl rfl
        ((repeat' (first | (with_reducible rfl) | exact xv_nil | refine xv_cons ?_ ?_ | refine xv_i ?_ | refine xv_l ?_)) <;> (simp (disch := omega) only [↓reduceIte, Bool.false_eq_true, Nat.one_mul, Nat.zero_mul, Nat.or_zero, Nat.add_zero, Nat.zero_add, Bool.toNat_true, Bool.toNat_false, shl_n, shr_n, fa_and, fa_or, nx_xor, nI_add, nI_mul, nI_sub', and_1, and_7, and_3', and_15, hs3]))
      · rintro I4 L4 ⟨hC4, hf4⟩
        have e1 : I4 27 1 = nI S.d.nL := by rw [f27 hf4]; exact h1
        refine xrun okL_hash hhL_hash [] 40 ?_
        (first | (refine xbr_f ?_ ?_; (focus ((simp (disch := omega) only [ix_lt, ix_le, ix_eq, ix_0, nI_clamp, nI_toInt, ng_T, nI_add, nI_mul, nI_sub', Int.neg_zero, not_false_eq_true, not_true_eq_false] <;> omega); done))) | (refine xbr_t ?_ ?_; (focus ((simp (disch := omega) only [ix_lt, ix_le, ix_eq, ix_0, nI_clamp, nI_toInt, ng_T, nI_add, nI_mul, nI_sub', Int.neg_zero, not_false_eq_true, not_true_eq_false] <;> omega); done))) | refine ⟨Or.inl rfl, ?_⟩ | refine ⟨Or.inr rfl, ?_⟩ | (refine ⟨?_, ?_⟩; (focus (exact in_nI (by omega) (by omega)))))
        (first | (refine xbr_f ?_ ?_; (focus ((simp (disch := omega) only [ix_lt, ix_le, ix_eq, ix_0, nI_clamp, nI_toInt, ng_T, nI_add, nI_mul, nI_sub', Int.neg_zero, not_false_eq_true, not_true_eq_false, e1] <;> omega); done))) | (refine xbr_t ?_ ?_; (focus ((simp (disch := omega) only [ix_lt, ix_le, ix_eq, ix_0, nI_clamp, nI_toInt, ng_T, nI_add, nI_mul, nI_sub', Int.neg_zero, not_false_eq_true, not_true_eq_false, e1] <;> omega); done))) | refine ⟨Or.inl rfl, ?_⟩ | refine ⟨Or.inr rfl, ?_⟩ | (refine ⟨?_, ?_⟩; (focus ((try simp (disch := omega) only [e1, nI_mul, nI_add, nI_sub']); exact in_nI (by omega) (by omega)))))
        exact hQ _ _ hf4 hC4
/-- inns and memories, as one long -/
def st1 (d : PD) (X : Nat) : Nat → Int64
  | 0 => lN 1
  | i + 1 => lN 16 * (lN 5 * st1 d X i + (oaI d X i 2).toInt64) + (oaI d X i 1).toInt64
def st2 (d : PD) (X : Nat) : Nat → Int64
  | 0 => st1 d X d.nA
  | l + 1 => lN 5 * st2 d X l + (olI d X l 1).toInt64
def stl (S : ST) : Int64 := st2 S.d S.D.X S.d.nL
def csL_state : xCs := [(mL_of, sL_of), (mL_at, sL_at)]
theorem okL_state : xOkM mL_state csL_state := ⟨dL_state, by decide +kernel, by decide +kernel, ⟨wdL_162, wdL_164, wdL_136, wdL_136, wdL_164, wdL_140, trivial⟩⟩
theorem hhL_state : ∀ q ∈ csL_state, xHd q.1 := xall1 hL_of (xall1 hL_at (xall0))
theorem kkL_state : ∀ q ∈ csL_state, ∀ l, xCon l q.1 q.2 := xall1 kL_of (xall1 kL_at (xall0))
def sL_state : xSpec := xRg7 fun as I L Q => ∃ (S : ST), as = [.ref 1, .ref 27] ∧ Lq S I L ∧ wok S I ∧ ∀ I' L', frC I L I' L' → Lq S I' L' → Q (some (.long (stl S))) I' L'
set_option maxRecDepth 100000 in
theorem kL_state : ∀ l, xCon l mL_state sL_state := by
  refine xcon_of okL_state hL_state rfl hhL_state kkL_state ?_
  rintro as n0 I L P Q ⟨hn9, rfl, S, rfl, hC, ⟨h0, h1⟩, hQ⟩
  obtain ⟨e9, rfl⟩ := xe7 hn9
  refine ⟨Nat.le_of_ble_eq_true rfl, ?_⟩
  have h4 := hC.ok.d.a4
  have h5 := hC.ok.d.l5
  refine xrun okL_state hhL_state [(5, [true, true, true, false, true])] 20 ?_
  refine xlpW (M := mL_state) (cs := csL_state) (pc := 5) S.d.nA (fun k => [some (.ref 1), some (.ref 27), some (.long (st1 S.d S.D.X k)), none, some (.int (nI k))]) (fun k I' L' => Lq S I' L' ∧ frC I L I' L') ?_ ?_ ⟨hC, frC_0 _ _⟩
  · rintro k hk I3 L3 ⟨hC3, hf3⟩ ih
    have e0 : I3 27 0 = nI S.d.nA := by rw [f27 hf3]; exact h0
    refine xrun okL_state hhL_state [(5, [true, true, true, false, true])] 40 ?_
    (first | (refine xbr_f ?_ ?_; (focus ((simp (disch := omega) only [ix_lt, ix_le, ix_eq, ix_0, nI_clamp, nI_toInt, ng_T, nI_add, nI_mul, nI_sub', Int.neg_zero, not_false_eq_true, not_true_eq_false] <;> omega); done))) | (refine xbr_t ?_ ?_; (focus ((simp (disch := omega) only [ix_lt, ix_le, ix_eq, ix_0, nI_clamp, nI_toInt, ng_T, nI_add, nI_mul, nI_sub', Int.neg_zero, not_false_eq_true, not_true_eq_false] <;> omega); done))) | refine ⟨Or.inl rfl, ?_⟩ | refine ⟨Or.inr rfl, ?_⟩ | (refine ⟨?_, ?_⟩; (focus (exact in_nI (by omega) (by omega)))))
    (first | (refine xbr_f ?_ ?_; (focus ((simp (disch := omega) only [ix_lt, ix_le, ix_eq, ix_0, nI_clamp, nI_toInt, ng_T, nI_add, nI_mul, nI_sub', Int.neg_zero, not_false_eq_true, not_true_eq_false, e0] <;> omega); done))) | (refine xbr_t ?_ ?_; (focus ((simp (disch := omega) only [ix_lt, ix_le, ix_eq, ix_0, nI_clamp, nI_toInt, ng_T, nI_add, nI_mul, nI_sub', Int.neg_zero, not_false_eq_true, not_true_eq_false, e0] <;> omega); done))) | refine ⟨Or.inl rfl, ?_⟩ | refine ⟨Or.inr rfl, ?_⟩ | (refine ⟨?_, ?_⟩; (focus ((try simp (disch := omega) only [e0, nI_mul, nI_add, nI_sub']); exact in_nI (by omega) (by omega)))))
    refine ⟨rfl, rfl, S, k, 2, rfl, hk, by decide, hC3, fun I4 L4 hf4 hC4 => ?_⟩
    refine ⟨rfl, rfl, S, k, 1, rfl, hk, by decide, hC4, fun I5 L5 hf5 hC5 => ?_⟩
    refine xgo_eq (ih _ _ ⟨hC5, frC_t hf3 (frC_t hf4 hf5)⟩) ?_ rfl rfl
    ((repeat' (first | (with_reducible rfl) | exact xv_nil | refine xv_cons ?_ ?_ | refine xv_i ?_ | refine xv_l ?_)) <;> (simp (disch := omega) only [↓reduceIte, Bool.false_eq_true, Nat.one_mul, Nat.zero_mul, Nat.or_zero, Nat.add_zero, Nat.zero_add, Bool.toNat_true, Bool.toNat_false, shl_n, shr_n, fa_and, fa_or, nx_xor, nI_add, nI_mul, nI_sub', and_1, and_7, and_3', and_15, st1]))
  · rintro I3 L3 ⟨hC3, hf3⟩
    have e0 : I3 27 0 = nI S.d.nA := by rw [f27 hf3]; exact h0
    refine xrun okL_state hhL_state [(50, [true, true, true, false, true])] 40 ?_
    (first | (refine xbr_f ?_ ?_; (focus ((simp (disch := omega) only [ix_lt, ix_le, ix_eq, ix_0, nI_clamp, nI_toInt, ng_T, nI_add, nI_mul, nI_sub', Int.neg_zero, not_false_eq_true, not_true_eq_false] <;> omega); done))) | (refine xbr_t ?_ ?_; (focus ((simp (disch := omega) only [ix_lt, ix_le, ix_eq, ix_0, nI_clamp, nI_toInt, ng_T, nI_add, nI_mul, nI_sub', Int.neg_zero, not_false_eq_true, not_true_eq_false] <;> omega); done))) | refine ⟨Or.inl rfl, ?_⟩ | refine ⟨Or.inr rfl, ?_⟩ | (refine ⟨?_, ?_⟩; (focus (exact in_nI (by omega) (by omega)))))
    (first | (refine xbr_f ?_ ?_; (focus ((simp (disch := omega) only [ix_lt, ix_le, ix_eq, ix_0, nI_clamp, nI_toInt, ng_T, nI_add, nI_mul, nI_sub', Int.neg_zero, not_false_eq_true, not_true_eq_false, e0] <;> omega); done))) | (refine xbr_t ?_ ?_; (focus ((simp (disch := omega) only [ix_lt, ix_le, ix_eq, ix_0, nI_clamp, nI_toInt, ng_T, nI_add, nI_mul, nI_sub', Int.neg_zero, not_false_eq_true, not_true_eq_false, e0] <;> omega); done))) | refine ⟨Or.inl rfl, ?_⟩ | refine ⟨Or.inr rfl, ?_⟩ | (refine ⟨?_, ?_⟩; (focus ((try simp (disch := omega) only [e0, nI_mul, nI_add, nI_sub']); exact in_nI (by omega) (by omega)))))
    refine xlpW (M := mL_state) (cs := csL_state) (pc := 50) S.d.nL (fun k => [some (.ref 1), some (.ref 27), some (.long (st2 S.d S.D.X k)), none, some (.int (nI k))]) (fun k I' L' => Lq S I' L' ∧ frC I L I' L') ?_ ?_ ⟨hC3, hf3⟩
    · rintro k hk I4 L4 ⟨hC4, hf4⟩ ih
      have e1 : I4 27 1 = nI S.d.nL := by rw [f27 hf4]; exact h1
      refine xrun okL_state hhL_state [(50, [true, true, true, false, true])] 40 ?_
      (first | (refine xbr_f ?_ ?_; (focus ((simp (disch := omega) only [ix_lt, ix_le, ix_eq, ix_0, nI_clamp, nI_toInt, ng_T, nI_add, nI_mul, nI_sub', Int.neg_zero, not_false_eq_true, not_true_eq_false] <;> omega); done))) | (refine xbr_t ?_ ?_; (focus ((simp (disch := omega) only [ix_lt, ix_le, ix_eq, ix_0, nI_clamp, nI_toInt, ng_T, nI_add, nI_mul, nI_sub', Int.neg_zero, not_false_eq_true, not_true_eq_false] <;> omega); done))) | refine ⟨Or.inl rfl, ?_⟩ | refine ⟨Or.inr rfl, ?_⟩ | (refine ⟨?_, ?_⟩; (focus (exact in_nI (by omega) (by omega)))))
      (first | (refine xbr_f ?_ ?_; (focus ((simp (disch := omega) only [ix_lt, ix_le, ix_eq, ix_0, nI_clamp, nI_toInt, ng_T, nI_add, nI_mul, nI_sub', Int.neg_zero, not_false_eq_true, not_true_eq_false, e1] <;> omega); done))) | (refine xbr_t ?_ ?_; (focus ((simp (disch := omega) only [ix_lt, ix_le, ix_eq, ix_0, nI_clamp, nI_toInt, ng_T, nI_add, nI_mul, nI_sub', Int.neg_zero, not_false_eq_true, not_true_eq_false, e1] <;> omega); done))) | refine ⟨Or.inl rfl, ?_⟩ | refine ⟨Or.inr rfl, ?_⟩ | (refine ⟨?_, ?_⟩; (focus ((try simp (disch := omega) only [e1, nI_mul, nI_add, nI_sub']); exact in_nI (by omega) (by omega)))))
      refine ⟨rfl, rfl, S, k, 1, rfl, hk, by decide, hC4, fun I5 L5 hf5 hC5 => ?_⟩
      refine xgo_eq (ih _ _ ⟨hC5, frC_t hf4 hf5⟩) ?_ rfl rfl
      ((repeat' (first | (with_reducible rfl) | exact xv_nil | refine xv_cons ?_ ?_ | refine xv_i ?_ | refine xv_l ?_)) <;> (simp (disch := omega) only [↓reduceIte, Bool.false_eq_true, Nat.one_mul, Nat.zero_mul, Nat.or_zero, Nat.add_zero, Nat.zero_add, Bool.toNat_true, Bool.toNat_false, shl_n, shr_n, fa_and, fa_or, nx_xor, nI_add, nI_mul, nI_sub', and_1, and_7, and_3', and_15, st2]))
    · rintro I4 L4 ⟨hC4, hf4⟩
      have e1 : I4 27 1 = nI S.d.nL := by rw [f27 hf4]; exact h1
      refine xrun okL_state hhL_state [] 40 ?_
      (first | (refine xbr_f ?_ ?_; (focus ((simp (disch := omega) only [ix_lt, ix_le, ix_eq, ix_0, nI_clamp, nI_toInt, ng_T, nI_add, nI_mul, nI_sub', Int.neg_zero, not_false_eq_true, not_true_eq_false] <;> omega); done))) | (refine xbr_t ?_ ?_; (focus ((simp (disch := omega) only [ix_lt, ix_le, ix_eq, ix_0, nI_clamp, nI_toInt, ng_T, nI_add, nI_mul, nI_sub', Int.neg_zero, not_false_eq_true, not_true_eq_false] <;> omega); done))) | refine ⟨Or.inl rfl, ?_⟩ | refine ⟨Or.inr rfl, ?_⟩ | (refine ⟨?_, ?_⟩; (focus (exact in_nI (by omega) (by omega)))))
      (first | (refine xbr_f ?_ ?_; (focus ((simp (disch := omega) only [ix_lt, ix_le, ix_eq, ix_0, nI_clamp, nI_toInt, ng_T, nI_add, nI_mul, nI_sub', Int.neg_zero, not_false_eq_true, not_true_eq_false, e1] <;> omega); done))) | (refine xbr_t ?_ ?_; (focus ((simp (disch := omega) only [ix_lt, ix_le, ix_eq, ix_0, nI_clamp, nI_toInt, ng_T, nI_add, nI_mul, nI_sub', Int.neg_zero, not_false_eq_true, not_true_eq_false, e1] <;> omega); done))) | refine ⟨Or.inl rfl, ?_⟩ | refine ⟨Or.inr rfl, ?_⟩ | (refine ⟨?_, ?_⟩; (focus ((try simp (disch := omega) only [e1, nI_mul, nI_add, nI_sub']); exact in_nI (by omega) (by omega)))))
      exact hQ _ _ hf4 hC4
