/-! GOES ON: where it is foretold it comes; homes stay homes; round it is as it was -/
def RW (d : PD) (I : xI) : Prop := I 27 0 = nI d.nA ∧ I 27 1 = nI d.nL ∧ ∀ k, k < 5 → I 27 (4 + k) = nI (rdN d k)
theorem RW_f {d : PD} {I I' : xI} {L L' : xL} (h : RW d I) (f : frC I L I' L') : RW d I' := by
  unfold RW
  rw [f27 f]
  exact h
theorem RW_28 {d : PD} {I : xI} (h : RW d I) (f : Nat → Int32) : RW d (xrw I 28 f) := by
  unfold RW
  rw [xrw_c _ _ _ (show (27 : Nat) ≠ 28 by decide)]
  exact h
theorem RW.wok {S : ST} {I : xI} (h : RW S.d I) : wok S I := ⟨h.1, h.2.1⟩
/-- deeds behind k days -/
def ddN (S : ST) : Nat → DD
  | 0 => S.D
  | k + 1 => adD (ddN S k) (dayN S.d (ddN S k).X) true
theorem dd_X (S : ST) : ∀ k, (ddN S k).X = dyN S.d S.D.X k
  | 0 => rfl
  | k + 1 => by
    show dayN S.d (ddN S k).X = dayN S.d (dyN S.d S.D.X k)
    rw [dd_X S k]
theorem dd_z (S : ST) : ∀ k, (ddN S k).z = S.D.z + k
  | 0 => rfl
  | k + 1 => by
    show (ddN S k).z + 1 = _
    rw [dd_z S k]
    rfl
def hoN (d : PD) (X : Nat) : Nat := ffN (fun k => ahB d (dyN d X k)) 61
def roH (d : PD) (X : Nat) : Nat := ffN (agB d X) 61
def agoN (d : PD) (X : Nat) : Nat := if roH d X = 0 then 0 else dsN (dyN d X) (roH d X - 1)
def thN (d : PD) (X k : Nat) : Int64 := if 0 < roH d X ∧ roH d X - 1 - agoN d X < k then st2 d (dyN d X (roH d X - 1)) d.nL else lN 0
theorem ho_iff {d : PD} (hd : d.ok) {X k : Nat} (hk : k < 61) : ahB d (dyN d X k) = true ↔ 0 < hoN d X ∧ hoN d X - 1 ≤ k := by
  rcases h : hoN d X with _ | m
  · refine ⟨fun q => ?_, fun q => absurd q.1 (Nat.lt_irrefl 0)⟩
    have := ffN_zero.mp h k hk
    rw [this] at q
    cases q
  · obtain ⟨q1, q2, q3⟩ := ffN_iff.mp h
    refine ⟨fun q => ⟨by omega, ?_⟩, fun q => ah_dy hd (k := m) (n := k) (by omega) q2⟩
    by_cases e : m ≤ k
    · omega
    · have := q3 k (by omega)
      rw [this] at q
      cases q
theorem ro_sp {d : PD} {X q : Nat} (h : roH d X = q + 1) : q < 61 ∧ 0 < agoN d X ∧ agoN d X ≤ q ∧ dyN d X (q - agoN d X) = dyN d X q := by
  obtain ⟨q1, q2, -⟩ := ffN_iff.mp h
  obtain ⟨q3, q4⟩ := of_decide_eq_true q2
  have e : agoN d X = dsN (dyN d X) q := by
    unfold agoN
    rw [h, if_neg (by omega)]
    rfl
  rw [e]
  obtain ⟨a, ha⟩ : ∃ a, dsN (dyN d X) q = a + 1 := ⟨dsN (dyN d X) q - 1, by omega⟩
  obtain ⟨p1, p2, -⟩ := ffN_iff.mp ha
  refine ⟨q1, q4, dsN_le _ _, ?_⟩
  rw [ha]
  exact of_decide_eq_true p2
theorem whereR_v {S S' : ST} {a m : Nat} {o : Int32} (h : whereR S (nI a) (nI m) o S') (hd : S.d.ok) (ha : a < S.d.nL) (hm : m < 61) : o = nI (plN (dyN S.d S.D.X m) a) ∧ S' = S := by
  have h5 := hd.l5
  rcases h with ⟨n, -⟩ | ⟨a', m', e1, h1, e2, h2, h3⟩
  · exact absurd ⟨ibB_n ha (by omega), ibB_n hm (by decide)⟩ n
  · obtain rfl := nI_in (by omega) (by omega) e1
    obtain rfl := nI_in (by omega) (by omega) e2
    exact h3
theorem homeR_v {S S' : ST} {o : Int32} (h : homeR S o S') (h0 : 0 < S.d.nA) : o = cI (hoN S.d S.D.X) ∧ S' = S := by
  rcases h with ⟨h1, -⟩ | ⟨-, h1⟩
  · omega
  · exact h1
theorem roundR_v {S S' : ST} {o : Int32} (h : roundR S o S') (h0 : 0 < S.d.nA) : o = cI (roH S.d S.D.X) ∧ ((roH S.d S.D.X = 0 ∧ S' = S) ∨ (0 < roH S.d S.D.X ∧ S' = S.wT (nI (agoN S.d S.D.X)))) := by
  rcases h with ⟨h1, -⟩ | ⟨-, ⟨h1, h2, h3⟩ | ⟨k, hk, h1, h2, h3⟩⟩
  · omega
  · have h1 : roH S.d S.D.X = 0 := h1
    rw [h1]
    exact ⟨h2, Or.inl ⟨rfl, h3⟩⟩
  · have h1 : roH S.d S.D.X = k + 1 := h1
    refine ⟨by rw [h1]; exact h2, Or.inr ⟨by omega, ?_⟩⟩
    unfold agoN
    rw [h1, if_neg (by omega)]
    exact h3
theorem onR_v {S S' : ST} {k : Nat} {o : Int32} (h : onR S (nI k) o S') (hk : k < 3) (hz : 0 < (S.kp k).z) : o = nI ((S.kp k).z - 1) ∧ S' = S.wD (S.kp k) := by
  rcases h with ⟨n, -⟩ | ⟨j, e, hj, ⟨h1, -⟩ | ⟨-, h1⟩⟩
  · rw [ibB_n hk (by decide)] at n
    cases n
  · obtain rfl := nI_in (by omega) (by omega) e
    omega
  · obtain rfl := nI_in (by omega) (by omega) e
    exact h1
theorem cn_tb {f : Nat → Bool} {n : Nat} (hn : n ≤ 16) : cnN (tbB (bsN f n)) 16 = cnN f n := by
  have z : ∀ j, n + j ≤ 16 → cnN (tbB (bsN f n)) (n + j) = cnN f n := by
    intro j
    induction j with
    | zero => exact fun _ => cnN_cong (fun i hi => tb_bs hi)
    | succ j ih =>
      intro hj
      show cnN (tbB (bsN f n)) (n + j) + (tbB (bsN f n) (n + j)).toNat = _
      rw [ih (by omega), tbB_bit, bsN_bit, decide_eq_false (by omega)]
      rfl
  have := z (16 - n) (by omega)
  rwa [show n + (16 - n) = 16 by omega] at this
theorem sub_32 : ∀ a, a < 32 → ∀ b, b < 32 → (∀ i, i < 5 → tbB a i = true → tbB b i = true) → nI a &&& (nI b ^^^ -(nI 1)) = 0 := by decide +kernel
def tfB (d : PD) (X : Nat) : Nat → Bool := fun t => decide (0 < tkrN (tkN d X 27 15 d.nA).1 t)
def csL_goesOn : xCs := [(mL_cell, sL_cell), (mX10_where, sX10_where), (mX10_home, sX10_home), (mX10_round, sX10_round), (mX10_asked, sX10_asked), (mX10_count, sX10_count), (mL_at, sL_at), (mL_state, sL_state), (mX10_day, sX10_day), (mL_size, sL_size), (mX10_on, sX10_on), (mL_hash, sL_hash)]
theorem okL_goesOn : xOkM mL_goesOn csL_goesOn := ⟨dL_goesOn, by decide +kernel, by decide +kernel, ⟨wdL_21, wdL_21, wdL_148, wdL_151, wdL_153, wdL_81, wdAi, wdL_71, wdL_140, wdL_156, wdL_156, wdL_71, wdL_140, wdL_140, wdL_65, wdL_159, wdL_71, wdL_140, wdL_129, wdL_99, trivial⟩⟩
theorem hhL_goesOn : ∀ q ∈ csL_goesOn, xHd q.1 := xall1 hL_cell (xall1 hX10_where (xall1 hX10_home (xall1 hX10_round (xall1 hX10_asked (xall1 hX10_count (xall1 hL_at (xall1 hL_state (xall1 hX10_day (xall1 hL_size (xall1 hX10_on (xall1 hL_hash (xall0))))))))))))
theorem kkL_goesOn : ∀ q ∈ csL_goesOn, ∀ l, xCon l q.1 q.2 := xall1 kL_cell (xall1 kX10_where (xall1 kX10_home (xall1 kX10_round (xall1 kX10_asked (xall1 kX10_count (xall1 kL_at (xall1 kL_state (xall1 kX10_day (xall1 kL_size (xall1 kX10_on (xall1 kL_hash (xall0))))))))))))
def sL_goesOn : xSpec := fun as m I L P Q => m = 27 ∧ P = xP0 ∧ ∃ (S : ST), as = [.ref 1, .ref 0, .ref 27, .long (hsh S)] ∧ Lq S I L ∧ RW S.d I ∧ 0 < S.d.nA ∧ 0 < S.d.nL ∧ S.kp 2 = S.D ∧ S.D.z ≤ 20 ∧ ∀ I' L', RW S.d I' → Lq S I' L' → Q (some (.int (nI 1))) 28 I' L' xP0
set_option maxRecDepth 100000 in
theorem kL_goesOn : ∀ l, xCon l mL_goesOn sL_goesOn := by
  refine xcon_of okL_goesOn hL_goesOn rfl hhL_goesOn kkL_goesOn ?_
  rintro as m I L P Q ⟨rfl, rfl, S, rfl, hC, hW, hA, hL, hkp, hz, hQ⟩
  refine ⟨Nat.le_of_ble_eq_true rfl, ?_⟩
  have hd : S.d.ok := hC.ok.d
  have h4 : S.d.nA ≤ 4 := hd.a4
  have h5 : S.d.nL ≤ 5 := hd.l5
  have hz0 : 0 < S.D.z := hC.ok.z
  have hHo : hoN S.d S.D.X ≤ 61 := ffN_le _ 61
  have hRo : roH S.d S.D.X ≤ 61 := ffN_le _ 61
  have hAg : agoN S.d S.D.X ≤ 61 := by
    rcases h : roH S.d S.D.X with _ | q
    · unfold agoN
      rw [if_pos h]
      omega
    · have := ro_sp h
      omega
  have nzL : ¬ nI S.d.nL = 0 := by
    have e : nI S.d.nL = 0 ↔ S.d.nL = 0 := nI_eq (b := 0) (by omega) (by decide)
    rw [e]; omega
  refine xrun okL_goesOn hhL_goesOn [(62, [true, true, true, false, false, true, true, true, true, true, false, false, false, false, false, false, false, false, false])] 60 ?_
  refine ⟨rfl, rfl, 13, rfl, by decide, fun x hx => ?_⟩
  have w1' : I 27 (nI 1).toNatClampNeg = nI S.d.nL := by rw [nI_clamp (by decide)]; exact hW.2.1
  refine ⟨in_nI (by omega) (by decide), ?_⟩
  rw [w1']
  refine ⟨nzL, ?_⟩
  rw [pk_rem hx hL (by omega)]
  have hl : x % S.d.nL < S.d.nL := Nat.mod_lt _ hL
  generalize x % S.d.nL = l at hl
  refine ⟨rfl, rfl, 13, rfl, by decide, fun y hy => ?_⟩
  refine ⟨by decide, ?_⟩
  rw [shr_n (k := 3) hy (by decide), pk_rem (by omega) (by decide) (by decide)]
  have hn : y / 2 ^ 3 % 21 < 21 := Nat.mod_lt _ (by decide)
  generalize y / 2 ^ 3 % 21 = n at hn
  sorry
