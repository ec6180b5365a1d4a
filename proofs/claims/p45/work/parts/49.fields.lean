/-! fields: read over write; what is kept of a state; what is read is in order -/
theorem me_me {X i j v : Nat} (hv : v < 16) : meN (seMe X i v) j = if j = i then v else meN X j := by
  unfold meN seMe
  by_cases h : j = i
  · subst h
    rw [if_pos rfl]
    exact get_set hv
  · rw [if_neg h]
    exact get_off hv (by omega)
theorem in_me {X i j v : Nat} (hv : v < 16) : inN (seMe X i v) j = inN X j := get_off hv (by omega)
theorem mk_me {X i j v : Nat} (hi : i < 4) (hv : v < 16) : mkN (seMe X i v) j = mkN X j := get_off hv (by omega)
theorem pl_me {X i j v : Nat} (hi : i < 4) (hv : v < 16) : plN (seMe X i v) j = plN X j := get_off hv (by omega)
theorem me_in {X i j v : Nat} (hv : v < 8) : meN (seIn X i v) j = meN X j := get_off hv (by omega)
theorem in_in {X i j v : Nat} (hv : v < 8) : inN (seIn X i v) j = if j = i then v else inN X j := by
  unfold inN seIn
  by_cases h : j = i
  · subst h
    rw [if_pos rfl]
    exact get_set hv
  · rw [if_neg h]
    exact get_off hv (by omega)
theorem mk_in {X i j v : Nat} (hi : i < 4) (hv : v < 8) : mkN (seIn X i v) j = mkN X j := get_off hv (by omega)
theorem pl_in {X i j v : Nat} (hi : i < 4) (hv : v < 8) : plN (seIn X i v) j = plN X j := get_off hv (by omega)
theorem me_mk {X i j v : Nat} (hj : j < 4) (hv : v < 16) : meN (seMk X i v) j = meN X j := get_off hv (by omega)
theorem in_mk {X i j v : Nat} (hj : j < 4) (hv : v < 16) : inN (seMk X i v) j = inN X j := get_off hv (by omega)
theorem mk_mk {X i j v : Nat} (hv : v < 16) : mkN (seMk X i v) j = if j = i then v else mkN X j := by
  unfold mkN seMk
  by_cases h : j = i
  · subst h
    rw [if_pos rfl]
    exact get_set hv
  · rw [if_neg h]
    exact get_off hv (by omega)
theorem pl_mk {X i j v : Nat} (hv : v < 16) : plN (seMk X i v) j = plN X j := get_off hv (by omega)
theorem me_pl {X i j v : Nat} (hj : j < 4) (hv : v < 8) : meN (sePl X i v) j = meN X j := get_off hv (by omega)
theorem in_pl {X i j v : Nat} (hj : j < 4) (hv : v < 8) : inN (sePl X i v) j = inN X j := get_off hv (by omega)
theorem mk_pl {X i j v : Nat} (hv : v < 8) : mkN (sePl X i v) j = mkN X j := get_off hv (by omega)
theorem pl_pl {X i j v : Nat} (hv : v < 8) : plN (sePl X i v) j = if j = i then v else plN X j := by
  unfold plN sePl
  by_cases h : j = i
  · subst h
    rw [if_pos rfl]
    exact get_set hv
  · rw [if_neg h]
    exact get_off hv (by omega)
theorem XOk_me {X i v : Nat} (h : XOk X) (hi : i < 4) (hv : v < 16) : XOk (seMe X i v) := ⟨seMe_lt h.1 hi hv, fun j hj => by rw [in_me hv]; exact h.2.1 j hj, fun l hl => by rw [pl_me hi hv]; exact h.2.2 l hl⟩
theorem XOk_in {X i v : Nat} (h : XOk X) (hi : i < 4) (hv : v < 5) : XOk (seIn X i v) := ⟨seIn_lt h.1 hi (by omega), fun j hj => by
  rw [in_in (by omega)]
  split
  · exact hv
  · exact h.2.1 j hj, fun l hl => by rw [pl_in hi (by omega)]; exact h.2.2 l hl⟩
theorem XOk_mk {X i v : Nat} (h : XOk X) (hi : i < 5) (hv : v < 16) : XOk (seMk X i v) := ⟨seMk_lt h.1 hi hv, fun j hj => by rw [in_mk hj hv]; exact h.2.1 j hj, fun l hl => by rw [pl_mk hv]; exact h.2.2 l hl⟩
theorem XOk_pl {X i v : Nat} (h : XOk X) (hi : i < 5) (hv : v < 5) : XOk (sePl X i v) := ⟨sePl_lt h.1 hi (by omega), fun j hj => by rw [in_pl hj (by omega)]; exact h.2.1 j hj, fun l hl => by
  rw [pl_pl (by omega)]
  split
  · exact hv
  · exact h.2.2 l hl⟩
theorem XOk_go {d : PD} (hd : d.ok) {X T : Nat} (hX : XOk X) (hT : ∀ i, i < 4 → getN T (3 * i) 3 ≤ 5) : ∀ n, n ≤ 4 → XOk (goN d X T n)
  | 0, _ => hX
  | i + 1, hn => by
    have ih := XOk_go hd hX hT i (by omega)
    have hc := hT i (by omega)
    have hr := hd.r5 (inN X i)
    rw [goN_s]
    by_cases h0 : getN T (3 * i) 3 = 0
    · rw [if_pos h0]
      exact ih
    · rw [if_neg h0]
      have h1 := XOk_pl (i := getN T (3 * i) 3 - 1) (XOk_in ih (show i < 4 by omega) hr) (by omega) hr
      by_cases h2 : kdN d i = 2
      · rw [if_pos h2]
        exact XOk_me h1 (by omega) (mkN_16 _ _)
      · rw [if_neg h2]
        exact h1
theorem XOk_day {d : PD} (hd : d.ok) {X : Nat} (hX : XOk X) : XOk (dayN d X) := XOk_go hd hX (tk27_5 hd X 15) d.nA hd.a4
theorem XOk_0 : XOk 0 := ⟨by decide, fun i _ => by
  show 0 / 2 ^ (7 * i + 4) % 2 ^ 3 < 5
  rw [Nat.zero_div]
  decide, fun i _ => by
  show 0 / 2 ^ (28 + 7 * i + 4) % 2 ^ 3 < 5
  rw [Nat.zero_div]
  decide⟩
theorem or3_get {K a k i : Nat} (hK : K < 2 ^ (3 * a)) (hk : k < 8) : getN (K ||| k * 2 ^ (3 * a)) (3 * i) 3 = if i = a then k else getN K (3 * i) 3 := by
  by_cases h : i = a
  · subst h
    rw [if_pos rfl]
    exact getN_or hK hk
  · rw [if_neg h]
    by_cases h2 : i < a
    · exact getN_or2 (by omega)
    · rw [getN_big (Nat.lt_of_lt_of_le (or_lt3 hK hk) (Nat.pow_le_pow_right (by decide) (by omega))), getN_big (Nat.lt_of_lt_of_le hK (Nat.pow_le_pow_right (by decide) (by omega)))]
def qOk (q : RS) : Prop := XOk q.X ∧ q.d.nA ≤ 4 ∧ q.d.nL ≤ 5 ∧ q.d.K < 2 ^ (3 * q.d.nA) ∧ q.d.R < 2 ^ 15 ∧ q.d.H < 2 ^ (3 * q.d.nL) ∧ (∀ i, kdN q.d i < 6) ∧ (∀ i, rdN q.d i < 5) ∧ (∀ i, hmN q.d i < 5) ∧ (0 < q.d.nL → 0 < q.d.nA)
theorem stN_16 (v : Nat → Int32) (n p : Nat) : (stN v n p).2 ≤ 16 := by
  unfold stN
  split
  · exact Nat.zero_le _
  · split
    · exact Nat.zero_le _
    · split
      · rename_i h
        exact h
      · exact Nat.zero_le _
theorem raN_ok {v : Nat → Int32} {n : Nat} {q : RS} (h : qOk q) : qOk (raN v n q).1 := by
  unfold raN
  by_cases h1 : blN (sgN v n q.sp) = 0 ∨ q.d.nA = 4 ∨ 0 < q.d.nL
  · rw [if_pos h1]
    exact h
  · rw [if_neg h1]
    by_cases h2 : (stN v n (q.sp + 1)).2 = 0
    · rw [if_pos h2]
      exact h
    · rw [if_neg h2]
      by_cases h3 : fgN v n (q.sp + 3) 4 = 0
      · rw [if_pos h3]
        exact h
      · rw [if_neg h3]
        have a1 := stN_16 v n (q.sp + 1)
        have a2 := fgN_le v n (q.sp + 3) (hi := 4) (by decide)
        have a3 := blN_le (sgN v n q.sp)
        obtain ⟨c1, c2, c3, c4, c5, c6, c7, c8, c9, c10⟩ := h
        refine ⟨XOk_in (XOk_me c1 (by omega) (by omega)) (by omega) (by omega), show q.d.nA + 1 ≤ 4 by omega, c3, or_lt3 c4 (by omega), c5, c6, fun i => ?_, c8, c9, fun _ => Nat.succ_pos _⟩
        show getN (q.d.K ||| (blN (sgN v n q.sp) - 1) * 2 ^ (3 * q.d.nA)) (3 * i) 3 < 6
        rw [or3_get c4 (by omega)]
        split
        · omega
        · exact c7 i
theorem rlN_ok {v : Nat → Int32} {n : Nat} {q : RS} (h : qOk q) : qOk (rlN v n q).1 := by
  unfold rlN
  by_cases h1 : q.d.nA = 0 ∨ q.d.nL = 5
  · rw [if_pos h1]
    exact h
  · rw [if_neg h1]
    by_cases h2 : (stN v n (q.sp + 1)).2 = 0
    · rw [if_pos h2]
      exact h
    · rw [if_neg h2]
      by_cases h3 : fgN v n (q.sp + 3) 4 = 0
      · rw [if_pos h3]
        exact h
      · rw [if_neg h3]
        by_cases h4 : fgN v n (q.sp + 4) 4 = 0
        · rw [if_pos h4]
          exact h
        · rw [if_neg h4]
          have a1 := stN_16 v n (q.sp + 1)
          have a2 := fgN_le v n (q.sp + 3) (hi := 4) (by decide)
          have a3 := fgN_le v n (q.sp + 4) (hi := 4) (by decide)
          obtain ⟨c1, c2, c3, c4, c5, c6, c7, c8, c9, c10⟩ := h
          refine ⟨XOk_pl (XOk_mk c1 (by omega) (by omega)) (by omega) (by omega), c2, show q.d.nL + 1 ≤ 5 by omega, c4, c5, or_lt3 c6 (by omega), c7, c8, fun i => ?_, fun _ => show 0 < q.d.nA by omega⟩
          show getN (q.d.H ||| (fgN v n (q.sp + 4) 4 - 1) * 2 ^ (3 * q.d.nL)) (3 * i) 3 < 5
          rw [or3_get c6 (by omega)]
          split
          · omega
          · exact c9 i
theorem rgN_ok {v : Nat → Int32} {n : Nat} {q : RS} (h : qOk q) (h0 : q.d.R = 0) : ∀ k, k ≤ 5 → qOk (rgN v n q k).1 ∧ ((rgN v n q k).2 = true → (rgN v n q k).1.d.R < 2 ^ (3 * k))
  | 0, _ => ⟨h, fun _ => by
    show q.d.R < 1
    omega⟩
  | k + 1, hk => by
    obtain ⟨i1, i2⟩ := rgN_ok (v := v) (n := n) h h0 k (by omega)
    rw [rgN_s]
    cases hb : (rgN v n q k).2
    · rw [if_pos rfl]
      exact ⟨i1, fun e => by rw [hb] at e; cases e⟩
    · rw [if_neg (by decide)]
      by_cases h3 : fgN v n (rgN v n q k).1.sp 4 = 0
      · rw [if_pos h3]
        exact ⟨i1, fun e => by cases e⟩
      · rw [if_neg h3]
        have a3 := fgN_le v n (rgN v n q k).1.sp (hi := 4) (by decide)
        have i3 := i2 hb
        obtain ⟨c1, c2, c3, c4, c5, c6, c7, c8, c9, c10⟩ := i1
        have hlt := or_lt3 (v := fgN v n (rgN v n q k).1.sp 4 - 1) i3 (by omega)
        refine ⟨⟨c1, c2, c3, c4, Nat.lt_of_lt_of_le hlt (Nat.pow_le_pow_right (by decide) (by omega)), c6, c7, fun i => ?_, c9, c10⟩, fun _ => hlt⟩
        show getN ((rgN v n q k).1.d.R ||| (fgN v n (rgN v n q k).1.sp 4 - 1) * 2 ^ (3 * k)) (3 * i) 3 < 5
        rw [or3_get i3 (by omega)]
        split
        · omega
        · exact c8 i
theorem riN_ok {v : Nat → Int32} {n : Nat} : ∀ f q, qOk q → qOk (riN v n f q).1 ∧ ((riN v n f q).2 = true → 0 < (riN v n f q).1.d.nL)
  | 0, q, h => ⟨h, fun e => by cases e⟩
  | f + 1, q, h => by
    have h' : qOk (mkR (skN v n 60 q.sp) q.X q.d) := h
    rw [riN_s]
    by_cases h1 : n ≤ skN v n 60 q.sp
    · rw [if_pos h1]
      exact ⟨h, fun e => of_decide_eq_true e⟩
    · rw [if_neg h1]
      by_cases h2 : sgN v n (skN v n 60 q.sp) = nI 108
      · rw [if_pos h2]
        cases hb : (rlN v n (mkR (skN v n 60 q.sp) q.X q.d)).2
        · rw [if_neg (by decide)]
          exact ⟨rlN_ok h', fun e => by rw [hb] at e; cases e⟩
        · rw [if_pos rfl]
          exact riN_ok f _ (rlN_ok h')
      · rw [if_neg h2]
        cases hb : (raN v n (mkR (skN v n 60 q.sp) q.X q.d)).2
        · rw [if_neg (by decide)]
          exact ⟨raN_ok h', fun e => by rw [hb] at e; cases e⟩
        · rw [if_pos rfl]
          exact riN_ok f _ (raN_ok h')
theorem g0 (f k : Nat) : getN 0 f k = 0 := by
  unfold getN
  rw [Nat.zero_div, Nat.zero_mod]
theorem qOk_0 (p : Nat) : qOk (mkR p 0 (mkP 0 0 0 0 0)) := ⟨XOk_0, show 0 ≤ 4 by decide, show 0 ≤ 5 by decide, show 0 < 2 ^ (3 * 0) by decide, show 0 < 2 ^ 15 by decide, show 0 < 2 ^ (3 * 0) by decide, fun i => by
  show getN 0 (3 * i) 3 < 6
  rw [g0]
  decide, fun i => by
  show getN 0 (3 * i) 3 < 5
  rw [g0]
  decide, fun i => by
  show getN 0 (3 * i) 3 < 5
  rw [g0]
  decide, fun h => absurd h (show ¬ 0 < 0 by decide)⟩
theorem rrN_ok (v : Nat → Int32) (n : Nat) : qOk (rrN v n r0).1 := by
  unfold rrN
  split
  · exact (rgN_ok (qOk_0 _) rfl 5 (by decide)).1
  · exact qOk_0 _
theorem rdF_ok {v : Nat → Int32} {n : Nat} (h : (rdF v n).2 = true) : (rdF v n).1.d.ok ∧ XOk (rdF v n).1.X ∧ ((rdF v n).1.d.nL = 0 ↔ (rdF v n).1.d.nA = 0) := by
  have hrd : rdF v n = if (rrN v n r0).2 then riN v n 61 (rrN v n r0).1 else rrN v n r0 := rfl
  cases hb : (rrN v n r0).2
  · rw [hb, if_neg (by decide)] at hrd
    rw [hrd, hb] at h
    cases h
  · rw [hb, if_pos rfl] at hrd
    rw [hrd] at h ⊢
    obtain ⟨⟨c1, c2, c3, c4, c5, c6, c7, c8, c9, c10⟩, h2⟩ := riN_ok (v := v) (n := n) 61 _ (rrN_ok v n)
    have h3 := h2 h
    have h4 := c10 h3
    exact ⟨⟨c2, c3, Nat.lt_of_lt_of_le c4 (Nat.pow_le_pow_right (by decide) (by omega)), c5, Nat.lt_of_lt_of_le c6 (Nat.pow_le_pow_right (by decide) (by omega)), c7, c8, c9⟩, c1, by omega⟩
