/-! MARKS: by marks changed as told it comes home, by fewer not -/
theorem set_set {X f k v w : Nat} (hv : v < 2 ^ k) (hw : w < 2 ^ k) : setN (setN X f k v) f k w = setN X f k w := by
  apply Nat.eq_of_testBit_eq
  intro i
  rw [setN_bit hw, setN_bit hw]
  by_cases h : f ≤ i ∧ i < f + k
  · rw [if_pos h, if_pos h]
  · rw [if_neg h, if_neg h, setN_bit hv, if_neg h]
theorem set_get {X f k : Nat} : setN X f k (getN X f k) = X := by
  apply Nat.eq_of_testBit_eq
  intro i
  rw [setN_bit (getN_lt X f k)]
  by_cases h : f ≤ i ∧ i < f + k
  · rw [if_pos h, getN_bit, decide_eq_true (by omega), Bool.true_and]
    congr 1
    omega
  · rw [if_neg h]
theorem se_se {X l v w : Nat} (hv : v < 16) (hw : w < 16) : seMk (seMk X l v) l w = seMk X l w := set_set (k := 4) hv hw
theorem se_mk (X l : Nat) : seMk X l (mkN X l) = X := set_get
/-- it comes home within n days, its marks being m -/
def mcB (d : PD) (X l n m : Nat) : Bool := hmB d (dyN d (seMk X l m) n) l
theorem mc_se {d : PD} {X l n v m : Nat} (hv : v < 16) (hm : m < 16) : mcB d (seMk X l v) l n m = mcB d X l n m := by
  unfold mcB
  rw [se_se hv hm]
theorem mc_mk {d : PD} {X l n : Nat} : mcB d X l n (mkN X l) = hmB d (dyN d X n) l := by
  unfold mcB
  rw [se_mk]
theorem mh_sp (d : PD) (X l n : Nat) : ∀ j, j ≤ 16 → ((mhN d X l n j).1 = 0 ∧ (mhN d X l n j).2 = 5 ∧ ∀ m, m < j → mcB d X l n m = false) ∨ (∃ v, (mhN d X l n j).1 = v + 1 ∧ v < j ∧ mcB d X l n v = true ∧ (mhN d X l n j).2 = pcf 32 (v ^^^ mkN X l) ∧ ∀ m, m < j → mcB d X l n m = true → pcf 32 (v ^^^ mkN X l) ≤ pcf 32 (m ^^^ mkN X l))
  | 0, _ => Or.inl ⟨rfl, rfl, fun m h => absurd h (Nat.not_lt_zero m)⟩
  | j + 1, hj => by
    have ih := mh_sp d X l n j (by omega)
    have hp : pcf 32 (j ^^^ mkN X l) ≤ 4 := pc_4 _ (xor_16 (by omega) (mkN_16 X l))
    rw [mhN_s]
    by_cases hc : pcf 32 (j ^^^ mkN X l) < (mhN d X l n j).2 ∧ hmB d (dyN d (seMk X l j) n) l = true
    · rw [if_pos hc]
      refine Or.inr ⟨j, rfl, Nat.lt_succ_self j, hc.2, rfl, fun m hm hb => ?_⟩
      by_cases e : m = j
      · rw [e]
        exact Nat.le_refl _
      · rcases ih with ⟨_, _, h3⟩ | ⟨v, _, _, _, h4, h5⟩
        · have := h3 m (by omega)
          rw [this] at hb
          cases hb
        · have := h5 m (by omega) hb
          omega
    · rw [if_neg hc]
      rcases ih with ⟨h1, h2, h3⟩ | ⟨v, h1, h2, h3, h4, h5⟩
      · refine Or.inl ⟨h1, h2, fun m hm => ?_⟩
        by_cases e : m = j
        · subst e
          cases hb : mcB d X l n m
          · rfl
          · exact absurd ⟨by omega, hb⟩ hc
        · exact h3 m (by omega)
      · refine Or.inr ⟨v, h1, by omega, h3, h4, fun m hm hb => ?_⟩
        by_cases e : m = j
        · subst e
          by_cases q : pcf 32 (m ^^^ mkN X l) < (mhN d X l n m).2
          · exact absurd ⟨q, hb⟩ hc
          · omega
        · exact h5 m (by omega) hb
theorem pc_tri : ∀ a, a < 16 → ∀ b, b < 16 → ∀ c, c < 16 → pcf 32 (a ^^^ b) ≤ pcf 32 (a ^^^ c) + pcf 32 (c ^^^ b) := by decide +kernel
/-- marks on their way from m to v, k of their places done -/
def cuN (v m k : Nat) : Nat := m / 2 ^ k * 2 ^ k + v % 2 ^ k
theorem cu_f : ∀ v, v < 16 → ∀ m, m < 16 → ∀ k, k < 5 → cuN v m k < 16 ∧ pcf 32 (v ^^^ cuN v m k) + pcf 32 (cuN v m k ^^^ m) = pcf 32 (v ^^^ m) := by decide +kernel
theorem cu_s : ∀ v, v < 16 → ∀ m, m < 16 → ∀ k, k < 4 → cuN v m (k + 1) = if tbB (v ^^^ m) k then cuN v m k ^^^ 2 ^ k else cuN v m k := by decide +kernel
theorem cu_4 : ∀ v, v < 16 → ∀ m, m < 16 → cuN v m 4 = v ∧ cuN v m 0 = m := by decide +kernel
/-- on the way the fewest are what is left of it -/
theorem mh_cur {d : PD} {X l n v c : Nat} (hv : v < 16) (hc : c < 16) (hb : mcB d X l n v = true) (hm : ∀ m, m < 16 → mcB d X l n m = true → pcf 32 (v ^^^ mkN X l) ≤ pcf 32 (m ^^^ mkN X l)) (hs : pcf 32 (v ^^^ c) + pcf 32 (c ^^^ mkN X l) = pcf 32 (v ^^^ mkN X l)) : ∃ u, (mhN d (seMk X l c) l n 16).1 = u + 1 ∧ u < 16 ∧ pcf 32 (u ^^^ c) = pcf 32 (v ^^^ c) := by
  have e : mkN (seMk X l c) l = c := by rw [mk_mk hc, if_pos rfl]
  rcases mh_sp d (seMk X l c) l n 16 (Nat.le_refl 16) with ⟨_, _, h⟩ | ⟨u, h1, h2, h3, _, h5⟩
  · have := h v hv
    rw [mc_se hc hv, hb] at this
    cases this
  · rw [e] at h5
    rw [mc_se hc h2] at h3
    have a1 := h5 v hv (by rw [mc_se hc hv]; exact hb)
    have a2 := hm u h2 h3
    have a3 := pc_tri u h2 (mkN X l) (mkN_16 X l) c hc
    exact ⟨u, h1, h2, by omega⟩
theorem cn_pc16 : ∀ x, x < 16 → cnN (tbB x) 16 = pcf 32 x := by decide +kernel
theorem marksR_v {S S' : ST} {a m : Nat} {o : Int32} (h : marksR S (nI a) (nI m) o S') (hd : S.d.ok) (ha : a < S.d.nL) (hm : m < 21) : ((mhN S.d S.D.X a m 16).1 = 0 ∧ o = -(nI 9) ∧ S' = S) ∨ (∃ v, (mhN S.d S.D.X a m 16).1 = v + 1 ∧ o = nI (pcf 32 (v ^^^ mkN S.D.X a)) ∧ S' = S.wT (nI v)) := by
  have h5 := hd.l5
  rcases h with ⟨n, -⟩ | ⟨a', m', e1, h1, e2, h2, h3⟩
  · exact absurd ⟨ibB_n ha (by omega), ibB_n hm (by decide)⟩ n
  · obtain rfl := nI_j (by omega) (by omega) e1
    obtain rfl := nI_j (by omega) (by omega) e2
    exact h3
