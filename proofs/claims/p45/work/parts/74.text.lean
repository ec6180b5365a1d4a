/-! LAYS: what is written is what is read -/
def agr (u v : Nat → Int32) (p : Nat) : Prop := ∀ t, t < p → u t = v t
theorem agr_t {u v w : Nat → Int32} {p q : Nat} (h : agr u v p) (h2 : agr v w q) (hq : q ≤ p) : agr u w q := fun t ht => (h t (by omega)).trans (h2 t ht)
theorem sk_no {v : Nat → Int32} {n f p : Nat} (h : ¬ sgN v n p = nI 32) : skN v n f p = p := by
  cases f with
  | zero => rfl
  | succ f => exact if_neg h
theorem sk_end {v : Nat → Int32} : ∀ (f p : Nat), p ≤ 60 → 60 ≤ p + f → (∀ t, p ≤ t → t < 60 → v t = nI 32) → 60 ≤ skN v 60 f p
  | 0, p, _, h, _ => by show 60 ≤ p; omega
  | f + 1, p, h1, h2, h3 => by
    by_cases hp : p < 60
    · have e : sgN v 60 p = nI 32 := (sgN_in hp).trans (h3 p (Nat.le_refl p) hp)
      show 60 ≤ (if sgN v 60 p = nI 32 then skN v 60 f (p + 1) else p)
      rw [if_pos e]
      exact sk_end f (p + 1) (by omega) (by omega) (fun t g1 g2 => h3 t (by omega) g2)
    · have e : ¬ sgN v 60 p = nI 32 := by
        rw [sgN_out (by omega)]
        decide
      show 60 ≤ (if sgN v 60 p = nI 32 then skN v 60 f (p + 1) else p)
      rw [if_neg e]
      omega
theorem fg_d {v : Nat → Int32} {p a hi : Nat} (hp : p < 60) (h : v p = nI (48 + a)) (ha : a ≤ hi) (hhi : hi < 10) : fgN v 60 p hi = a + 1 := by
  unfold fgN
  rw [sgN_in hp, h, nI_sub' (by omega), show 48 + a - 48 = a by omega, if_pos (ibB_n (by omega) (by omega)), nI_clamp (by omega)]
theorem st_d {v : Nat → Int32} {p m : Nat} (hp : p + 1 < 60) (h1 : v p = nI (48 + m / 10)) (h2 : v (p + 1) = nI (48 + m % 10)) (hm : m < 16) : stN v 60 p = (p + 2, m + 1) := by
  unfold stN
  rw [fg_d (by omega) h1 (by omega) (by decide), fg_d hp h2 (by omega) (by decide), if_neg (by omega), if_neg (by omega), if_pos (by omega)]
  congr 1
  omega
def d0 : PD := mkP 0 0 0 0 0
def dRN (r : Nat → Nat) : Nat → PD
  | 0 => d0
  | k + 1 => adR (dRN r k) k (r k)
theorem dR_f (r : Nat → Nat) : ∀ k, (dRN r k).nA = 0 ∧ (dRN r k).nL = 0 ∧ (dRN r k).K = 0 ∧ (dRN r k).H = 0
  | 0 => ⟨rfl, rfl, rfl, rfl⟩
  | k + 1 => dR_f r k
theorem dR_R {r : Nat → Nat} (hr : ∀ k, r k < 5) : ∀ k, (dRN r k).R < 2 ^ (3 * k) ∧ ∀ j, rdN (dRN r k) j = if j < k then r j else 0
  | 0 => ⟨Nat.one_pos, fun j => by
    show getN 0 (3 * j) 3 = _
    rw [zgN]
    rfl⟩
  | k + 1 => by
    obtain ⟨h1, h2⟩ := dR_R hr k
    have h3 := hr k
    refine ⟨or_lt3 h1 (by omega), fun j => ?_⟩
    show getN ((dRN r k).R ||| r k * 2 ^ (3 * k)) (3 * j) 3 = _
    rw [or3_get h1 (by omega)]
    have := h2 j
    by_cases e : j = k
    · subst e
      rw [if_pos rfl, if_pos (by omega)]
    · rw [if_neg e]
      show rdN (dRN r k) j = _
      rw [this]
      by_cases q : j < k
      · rw [if_pos q, if_pos (by omega)]
      · rw [if_neg q, if_neg (by omega)]
theorem rg_k {u : Nat → Int32} {r : Nat → Nat} : ∀ k, k ≤ 5 → (∀ j, j < k → u (1 + j) = nI (48 + r j) ∧ r j < 5) → rgN u 60 (mkR 1 0 d0) k = (mkR (1 + k) 0 (dRN r k), true)
  | 0, _, _ => rfl
  | k + 1, hk, h => by
    have ih := rg_k (u := u) (r := r) k (by omega) (fun j hj => h j (by omega))
    obtain ⟨h1, h2⟩ := h k (Nat.lt_succ_self k)
    have e : fgN u 60 (1 + k) 4 = r k + 1 := fg_d (by omega) h1 (by omega) (by decide)
    rw [rgN_s, ih]
    show (if true = false then _ else if fgN u 60 (1 + k) 4 = 0 then _ else (mkR (1 + k + 1) 0 (adR (dRN r k) k (fgN u 60 (1 + k) 4 - 1)), true)) = _
    rw [if_neg (by decide), e, if_neg (by omega)]
    rfl
/-- read up to p, c items: q -/
def IV (v : Nat → Int32) (p c : Nat) (q : RS) : Prop := p ≤ 60 ∧ q.sp = p ∧ ∀ u, agr u v p → (rrN u 60 r0).2 = true ∧ ∀ f, riN u 60 (c + f) (rrN u 60 r0).1 = riN u 60 f q
theorem IV_0 {v : Nat → Int32} {r : Nat → Nat} (h0 : v 0 = nI 110) (h : ∀ j, j < 5 → v (1 + j) = nI (48 + r j) ∧ r j < 5) : IV v 6 0 (mkR 6 0 (dRN r 5)) := by
  refine ⟨by omega, rfl, fun u hu => ?_⟩
  have e0 : u 0 = nI 110 := (hu 0 (by omega)).trans h0
  have e : rrN u 60 r0 = (mkR 6 0 (dRN r 5), true) := by
    unfold rrN
    have es : sgN u 60 0 = nI 110 := (sgN_in (by omega)).trans e0
    rw [show (r0).sp = 0 from rfl, sk_no (p := 0) (by rw [es]; decide), if_pos es]
    exact rg_k 5 (Nat.le_refl 5) (fun j hj => by rw [hu _ (by omega)]; exact h j hj)
  rw [e]
  exact ⟨rfl, fun f => by rw [Nat.zero_add]⟩
theorem bl_no {x : Int32} {k : Nat} (h : blN x = k + 1) : ¬ x = nI 32 ∧ ¬ x = nI 108 := by
  refine ⟨fun q => ?_, fun q => ?_⟩
  · rw [q, show blN (nI 32) = 0 from by decide] at h
    omega
  · rw [q, show blN (nI 108) = 0 from by decide] at h
    omega
theorem IV_ass {v w : Nat → Int32} {p c k m a : Nat} {q : RS} (h : IV v p c q) (hp : p + 4 ≤ 60) (hA : q.d.nA < 4) (hL : q.d.nL = 0) (hw : agr w v p) (h0 : blN (w p) = k + 1) (h1 : w (p + 1) = nI (48 + m / 10)) (h2 : w (p + 2) = nI (48 + m % 10)) (hm : m < 16) (h3 : w (p + 3) = nI (48 + a)) (ha : a < 5) : IV w (p + 4) (c + 1) (mkR (p + 4) (seIn (seMe q.X q.d.nA m) q.d.nA a) (adA q.d k)) := by
  obtain ⟨_, hsp, hq⟩ := h
  refine ⟨hp, rfl, fun u hu => ?_⟩
  obtain ⟨g1, g2⟩ := hq u (agr_t hu hw (by omega))
  refine ⟨g1, fun f => ?_⟩
  have e := g2 (f + 1)
  rw [show c + 1 + f = c + (f + 1) by omega, e]
  have e0 : sgN u 60 p = w p := (sgN_in (by omega)).trans (hu p (by omega))
  obtain ⟨n1, n2⟩ := bl_no h0
  have es : skN u 60 60 p = p := sk_no (by rw [e0]; exact n1)
  have est : stN u 60 (p + 1) = (p + 3, m + 1) := st_d (by omega) ((hu _ (by omega)).trans h1) ((hu _ (by omega)).trans h2) hm
  have efg : fgN u 60 (p + 3) 4 = a + 1 := fg_d (by omega) ((hu _ (by omega)).trans h3) (by omega) (by decide)
  have ra : raN u 60 (mkR p q.X q.d) = (mkR (p + 4) (seIn (seMe q.X q.d.nA m) q.d.nA a) (adA q.d k), true) := by
    unfold raN
    show (if blN (sgN u 60 p) = 0 ∨ q.d.nA = 4 ∨ 0 < q.d.nL then (mkR p q.X q.d, false)
      else if (stN u 60 (p + 1)).2 = 0 then (mkR (stN u 60 (p + 1)).1 q.X q.d, false)
      else if fgN u 60 (p + 3) 4 = 0 then (mkR (p + 3) q.X q.d, false)
      else (mkR (p + 4) (seIn (seMe q.X q.d.nA ((stN u 60 (p + 1)).2 - 1)) q.d.nA (fgN u 60 (p + 3) 4 - 1)) (adA q.d (blN (sgN u 60 p) - 1)), true)) = _
    rw [e0, h0, est, efg, if_neg (by omega), if_neg (by show ¬ m + 1 = 0; omega), if_neg (by omega)]
    rfl
  rw [riN_s, hsp, es, if_neg (by omega), if_neg (by rw [e0]; exact n2), ra]
  rfl
theorem IV_load {v w : Nat → Int32} {p c m a b : Nat} {q : RS} (h : IV v p c q) (hp : p + 5 ≤ 60) (hA : 0 < q.d.nA) (hL : q.d.nL < 5) (hw : agr w v p) (h0 : w p = nI 108) (h1 : w (p + 1) = nI (48 + m / 10)) (h2 : w (p + 2) = nI (48 + m % 10)) (hm : m < 16) (h3 : w (p + 3) = nI (48 + a)) (ha : a < 5) (h4 : w (p + 4) = nI (48 + b)) (hb : b < 5) : IV w (p + 5) (c + 1) (mkR (p + 5) (sePl (seMk q.X q.d.nL m) q.d.nL a) (adL q.d b)) := by
  obtain ⟨_, hsp, hq⟩ := h
  refine ⟨hp, rfl, fun u hu => ?_⟩
  obtain ⟨g1, g2⟩ := hq u (agr_t hu hw (by omega))
  refine ⟨g1, fun f => ?_⟩
  have e := g2 (f + 1)
  rw [show c + 1 + f = c + (f + 1) by omega, e]
  have e0 : sgN u 60 p = nI 108 := (sgN_in (by omega)).trans ((hu p (by omega)).trans h0)
  have es : skN u 60 60 p = p := sk_no (by rw [e0]; decide)
  have est : stN u 60 (p + 1) = (p + 3, m + 1) := st_d (by omega) ((hu _ (by omega)).trans h1) ((hu _ (by omega)).trans h2) hm
  have efg : fgN u 60 (p + 3) 4 = a + 1 := fg_d (by omega) ((hu _ (by omega)).trans h3) (by omega) (by decide)
  have efg2 : fgN u 60 (p + 4) 4 = b + 1 := fg_d (by omega) ((hu _ (by omega)).trans h4) (by omega) (by decide)
  have rl : rlN u 60 (mkR p q.X q.d) = (mkR (p + 5) (sePl (seMk q.X q.d.nL m) q.d.nL a) (adL q.d b), true) := by
    unfold rlN
    show (if q.d.nA = 0 ∨ q.d.nL = 5 then (mkR p q.X q.d, false)
      else if (stN u 60 (p + 1)).2 = 0 then (mkR (stN u 60 (p + 1)).1 q.X q.d, false)
      else if fgN u 60 (p + 3) 4 = 0 then (mkR (p + 3) q.X q.d, false)
      else if fgN u 60 (p + 4) 4 = 0 then (mkR (p + 4) q.X q.d, false)
      else (mkR (p + 5) (sePl (seMk q.X q.d.nL ((stN u 60 (p + 1)).2 - 1)) q.d.nL (fgN u 60 (p + 3) 4 - 1)) (adL q.d (fgN u 60 (p + 4) 4 - 1)), true)) = _
    rw [est, efg, efg2, if_neg (by omega), if_neg (by show ¬ m + 1 = 0; omega), if_neg (by omega), if_neg (by omega)]
    rfl
  rw [riN_s, hsp, es, if_neg (by omega), if_pos e0, rl]
  rfl
theorem IV_end {v : Nat → Int32} {p c : Nat} {q : RS} (h : IV v p c q) (hc : c < 61) (hb : ∀ t, p ≤ t → t < 60 → v t = nI 32) : rdF v 60 = (mkR (skN v 60 60 p) q.X q.d, decide (0 < q.d.nL)) := by
  obtain ⟨hp, hsp, hq⟩ := h
  obtain ⟨g1, g2⟩ := hq v (fun _ _ => rfl)
  unfold rdF
  rw [g1, if_pos rfl]
  obtain ⟨f, hf⟩ : ∃ f, 61 = c + (f + 1) := ⟨60 - c, by omega⟩
  rw [hf, g2, riN_s, hsp, if_pos (sk_end 60 p hp (by omega) hb)]
/-- what is read is in order -/
def QK (q : RS) : Prop := q.d.nA ≤ 4 ∧ q.d.nL ≤ 5 ∧ q.d.K < 2 ^ (3 * q.d.nA) ∧ q.d.H < 2 ^ (3 * q.d.nL)
theorem WA_ass {q : RS} {f g : Nat → Int32} {k m a p : Nat} (hq : QK q) (hL : q.d.nL = 0) (hA : q.d.nA < 4) (h : WA q.d q.X f) (hk : k < 6) (hm : m < 16) (ha : a < 5) (g0 : g 0 = nI (q.d.nA + 1)) (g1 : g (9 + 3 * q.d.nA) = nI k) (g2 : g (10 + 3 * q.d.nA) = nI m) (g3 : g (11 + 3 * q.d.nA) = nI a) (g4 : ∀ t, t ≠ 0 → t ≠ 9 + 3 * q.d.nA → t ≠ 10 + 3 * q.d.nA → t ≠ 11 + 3 * q.d.nA → t < 36 → g t = f t) : WA (adA q.d k) (seIn (seMe q.X q.d.nA m) q.d.nA a) g ∧ QK (mkR p (seIn (seMe q.X q.d.nA m) q.d.nA a) (adA q.d k)) := by
  obtain ⟨w0, w1, w2, w3, w4⟩ := h
  obtain ⟨k1, k2, k3, k4⟩ := hq
  have ek : ∀ i, kdN (adA q.d k) i = if i = q.d.nA then k else kdN q.d i := fun i => or3_get k3 (by omega)
  refine ⟨⟨g0, ?_, fun j hj => ?_, fun i hi => ?_, fun l hl => ?_⟩, by show q.d.nA + 1 ≤ 4; omega, k2, or_lt3 k3 (by omega), k4⟩
  · rw [g4 1 (by omega) (by omega) (by omega) (by omega) (by omega)]
    exact w1
  · rw [g4 (4 + j) (by omega) (by omega) (by omega) (by omega) (by omega)]
    exact w2 j hj
  · have hi : i < q.d.nA + 1 := hi
    rw [ek]
    by_cases e : i = q.d.nA
    · subst e
      rw [if_pos rfl, me_in (by omega), me_me hm, if_pos rfl, in_in (by omega), if_pos rfl]
      exact ⟨g1, g2, g3⟩
    · rw [if_neg e, me_in (by omega), me_me hm, if_neg e, in_in (by omega), if_neg e, in_me hm, g4 (9 + 3 * i) (by omega) (by omega) (by omega) (by omega) (by omega), g4 (10 + 3 * i) (by omega) (by omega) (by omega) (by omega) (by omega), g4 (11 + 3 * i) (by omega) (by omega) (by omega) (by omega) (by omega)]
      exact w3 i (by omega)
  · have hl : l < q.d.nL := hl
    omega
theorem WA_load {q : RS} {f g : Nat → Int32} {m a b p : Nat} (hq : QK q) (hL : q.d.nL < 5) (h : WA q.d q.X f) (hm : m < 16) (ha : a < 5) (hb : b < 5) (g0 : g 1 = nI (q.d.nL + 1)) (g1 : g (21 + 3 * q.d.nL) = nI m) (g2 : g (22 + 3 * q.d.nL) = nI a) (g3 : g (23 + 3 * q.d.nL) = nI b) (g4 : ∀ t, t ≠ 1 → t ≠ 21 + 3 * q.d.nL → t ≠ 22 + 3 * q.d.nL → t ≠ 23 + 3 * q.d.nL → t < 36 → g t = f t) : WA (adL q.d b) (sePl (seMk q.X q.d.nL m) q.d.nL a) g ∧ QK (mkR p (sePl (seMk q.X q.d.nL m) q.d.nL a) (adL q.d b)) := by
  obtain ⟨w0, w1, w2, w3, w4⟩ := h
  obtain ⟨k1, k2, k3, k4⟩ := hq
  have ek : ∀ i, hmN (adL q.d b) i = if i = q.d.nL then b else hmN q.d i := fun i => or3_get k4 (by omega)
  refine ⟨⟨?_, g0, fun j hj => ?_, fun i hi => ?_, fun l hl => ?_⟩, k1, by show q.d.nL + 1 ≤ 5; omega, k3, or_lt3 k4 (by omega)⟩
  · rw [g4 0 (by omega) (by omega) (by omega) (by omega) (by omega)]
    exact w0
  · rw [g4 (4 + j) (by omega) (by omega) (by omega) (by omega) (by omega)]
    exact w2 j hj
  · have hi : i < q.d.nA := hi
    rw [me_pl (by omega) (by omega), me_mk (by omega) hm, in_pl (by omega) (by omega), in_mk (by omega) hm, g4 (9 + 3 * i) (by omega) (by omega) (by omega) (by omega) (by omega), g4 (10 + 3 * i) (by omega) (by omega) (by omega) (by omega) (by omega), g4 (11 + 3 * i) (by omega) (by omega) (by omega) (by omega) (by omega)]
    exact w3 i hi
  · have hl : l < q.d.nL + 1 := hl
    rw [ek, mk_pl (by omega), mk_mk hm, pl_pl (by omega), pl_mk hm]
    by_cases e : l = q.d.nL
    · subst e
      rw [if_pos rfl, if_pos rfl, if_pos rfl]
      exact ⟨g1, g2, g3⟩
    · rw [if_neg e, if_neg e, if_neg e, g4 (21 + 3 * l) (by omega) (by omega) (by omega) (by omega) (by omega), g4 (22 + 3 * l) (by omega) (by omega) (by omega) (by omega) (by omega), g4 (23 + 3 * l) (by omega) (by omega) (by omega) (by omega) (by omega)]
      exact w4 l (by omega)
