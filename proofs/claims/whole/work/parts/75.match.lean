/-! THE REFERENCE: match -/
theorem moN_b (d : PD) (X i g : Nat) (b : Nat → Nat) : ∀ n, b g ≤ moN d X i g b n
  | 0 => Nat.le_refl _
  | n + 1 => by
    have ih := moN_b d X i g b n
    rw [moN_s]
    repeat' split
    all_goals omega
theorem moN_ge {d : PD} {X i g l : Nat} {b : Nat → Nat} (h : ¬ puN d X i g l = 0) : ∀ {n}, l < n → puN d X i g l + b (g ||| 2 ^ l) ≤ moN d X i g b n
  | 0, hl => absurd hl (Nat.not_lt_zero _)
  | n + 1, hl => by
    by_cases e : l = n
    · subst e
      rw [moN_s, if_neg h]
      split <;> omega
    · have ih := moN_ge (b := b) h (show l < n by omega)
      rw [moN_s]
      repeat' split
      all_goals omega
theorem moN_at (d : PD) (X i g : Nat) (b : Nat → Nat) : ∀ n, moN d X i g b n = b g ∨ ∃ l, l < n ∧ ¬ puN d X i g l = 0 ∧ moN d X i g b n = puN d X i g l + b (g ||| 2 ^ l)
  | 0 => Or.inl rfl
  | n + 1 => by
    have up : moN d X i g b n = b g ∨ (∃ l, l < n + 1 ∧ ¬ puN d X i g l = 0 ∧ moN d X i g b n = puN d X i g l + b (g ||| 2 ^ l)) := by
      rcases moN_at d X i g b n with h | ⟨l, h1, h2⟩
      · exact Or.inl h
      · exact Or.inr ⟨l, by omega, h2⟩
    rw [moN_s]
    by_cases h : puN d X i g n = 0
    · rw [if_pos h]
      exact up
    · rw [if_neg h]
      by_cases h2 : moN d X i g b n < puN d X i g n + b (g ||| 2 ^ n)
      · rw [if_pos h2]
        exact Or.inr ⟨n, Nat.lt_succ_self n, h, rfl⟩
      · rw [if_neg h2]
        exact up
theorem ffN_bef {f : Nat → Bool} {l : Nat} : ∀ {n}, ffN f n = l + 1 → l < n ∧ ffN f l = 0
  | 0, h => by cases h
  | n + 1, h => by
    rw [ffN_s] at h
    by_cases h0 : ffN f n = 0
    · rw [if_pos h0] at h
      by_cases hf : f n = true
      · rw [if_pos hf] at h
        obtain rfl : n = l := by omega
        exact ⟨by omega, h0⟩
      · rw [if_neg hf] at h
        cases h
    · rw [if_neg h0] at h
      obtain ⟨a, b⟩ := ffN_bef h
      exact ⟨by omega, b⟩
theorem pw_pos {B : Nat} (h : 0 < B) : ∀ k, 0 < B ^ k
  | 0 => by
    rw [Nat.pow_zero]
    decide
  | k + 1 => by
    rw [Nat.pow_succ]
    exact Nat.mul_pos (pw_pos h k) h
theorem eu_hi {B M c k : Nat} (hM : M < B ^ k) (hc : c < B) : (M + c * B ^ k) / B ^ k % B = c := by
  rw [Nat.add_mul_div_right _ _ (show 0 < B ^ k by omega), Nat.div_eq_of_lt hM, Nat.zero_add, Nat.mod_eq_of_lt hc]
theorem eu_lo {B M c j k : Nat} (hB : 0 < B) (h : j < k) : (M + c * B ^ k) / B ^ j % B = M / B ^ j % B := by
  obtain ⟨e, rfl⟩ : ∃ e, k = j + 1 + e := ⟨k - (j + 1), by omega⟩
  have e1 : c * B ^ (j + 1 + e) = (c * B ^ e * B) * B ^ j := by
    rw [Nat.pow_add, Nat.pow_succ]
    simp only [Nat.mul_assoc, Nat.mul_comm, Nat.mul_left_comm]
  rw [e1, Nat.add_mul_div_right _ _ (pw_pos hB j), Nat.add_mul_mod_self_right]
theorem fv_cong {d : PD} {X N M : Nat} : ∀ {k g}, (∀ j, j < k → dgN d N j = dgN d M j) → fvN d X N k g = fvN d X M k g
  | 0, _, _ => rfl
  | k + 1, g, h => by rw [fvN_s, fvN_s, h k (by omega), fv_cong (k := k) (g := g) (fun j hj => h j (by omega)), fv_cong (k := k) (g := g ||| 2 ^ (dgN d M k - 1)) (fun j hj => h j (by omega))]
theorem fv_le {d : PD} {X N : Nat} : ∀ {k g s}, fvN d X N k g = some s → s ≤ vN d X k g
  | 0, g, s, h => by
    cases h
    exact Nat.le_refl 0
  | k + 1, g, s, h => by
    rw [fvN_s] at h
    have hv : vN d X (k + 1) g = moN d X (d.nA - (k + 1)) g (vN d X k) d.nL := rfl
    have hdl := dgN_le d N k
    rw [hv]
    by_cases h0 : dgN d N k = 0
    · rw [if_pos h0] at h
      have h1 := fv_le h
      have h2 := moN_b d X (d.nA - (k + 1)) g (vN d X k) d.nL
      omega
    · rw [if_neg h0] at h
      by_cases h1 : puN d X (d.nA - (k + 1)) g (dgN d N k - 1) = 0
      · rw [if_pos h1] at h
        cases h
      · rw [if_neg h1] at h
        cases hs : fvN d X N k (g ||| 2 ^ (dgN d N k - 1)) with
        | none =>
          rw [hs] at h
          cases h
        | some s' =>
          rw [hs] at h
          have e : s' + puN d X (d.nA - (k + 1)) g (dgN d N k - 1) = s := Option.some.inj h
          have h2 := fv_le hs
          have h3 := moN_ge (b := vN d X k) h1 (show dgN d N k - 1 < d.nL by omega)
          omega
theorem fw_iff {d : PD} {X i g m l : Nat} {b : Nat → Nat} (hm : m < 2 ^ 20) (hb : b (g ||| 2 ^ l) < 2 ^ 20) : fwB d X i g m b l = true ↔ (¬ puN d X i g l = 0 ∧ puN d X i g l + b (g ||| 2 ^ l) = m) := by
  have hp := puN_le d X i g l
  unfold fwB mwI
  rw [decide_eq_true_iff]
  by_cases h : puN d X i g l = 0
  · rw [if_pos h]
    constructor
    · intro q
      rw [ix_eq, ng_T (by decide), nI_toInt (by omega)] at q
      omega
    · intro q
      exact absurd h q.1
  · rw [if_neg h]
    constructor
    · intro q
      rw [ix_eq, nI_toInt (by omega), nI_toInt (by omega)] at q
      exact ⟨h, by omega⟩
    · intro q
      rw [q.2]
theorem gc_spec {d : PD} (hd : d.ok) {X k g : Nat} (hk : k + 1 ≤ d.nA) (hg : g < 32) : (gcN d X (d.nA - (k + 1)) g = 0 ∧ vN d X (k + 1) g = vN d X k g) ∨ (∃ l, gcN d X (d.nA - (k + 1)) g = l + 1 ∧ l < d.nL ∧ vN d X k g < vN d X (k + 1) g ∧ ¬ puN d X (d.nA - (k + 1)) g l = 0 ∧ puN d X (d.nA - (k + 1)) g l + vN d X k (g ||| 2 ^ l) = vN d X (k + 1) g ∧ ∀ l', l' < l → ¬ puN d X (d.nA - (k + 1)) g l' = 0 → ¬ puN d X (d.nA - (k + 1)) g l' + vN d X k (g ||| 2 ^ l') = vN d X (k + 1) g) := by
  have h4 := hd.a4
  have h5 := hd.l5
  have e : gcN d X (d.nA - (k + 1)) g = if vN d X k g < vN d X (k + 1) g then ffN (fwB d X (d.nA - (k + 1)) g (vN d X (k + 1) g) (vN d X k)) d.nL else 0 := by
    unfold gcN
    rw [show d.nA - (d.nA - (k + 1) + 1) = k by omega, show d.nA - (d.nA - (k + 1)) = k + 1 by omega]
  have hv : vN d X (k + 1) g = moN d X (d.nA - (k + 1)) g (vN d X k) d.nL := rfl
  have hb := moN_b d X (d.nA - (k + 1)) g (vN d X k) d.nL
  have hm : vN d X (k + 1) g < 2 ^ 20 := by
    have := vN_le hd X (k + 1) g hg
    omega
  have hl : ∀ l, l < 5 → vN d X k (g ||| 2 ^ l) < 2 ^ 20 := fun l h => by
    have := vN_le hd X k _ (or_32 hg h)
    omega
  by_cases hlt : vN d X k g < vN d X (k + 1) g
  · rw [if_pos hlt] at e
    cases hf : ffN (fwB d X (d.nA - (k + 1)) g (vN d X (k + 1) g) (vN d X k)) d.nL with
    | zero =>
      exfalso
      rcases moN_at d X (d.nA - (k + 1)) g (vN d X k) d.nL with q | ⟨l, q1, q2, q3⟩
      · omega
      · have f0 := ffN_none hf q1
        have f1 := (fw_iff (d := d) (X := X) (i := d.nA - (k + 1)) (b := vN d X k) hm (hl l (by omega))).mpr ⟨q2, q3.symm⟩
        rw [f0] at f1
        cases f1
    | succ l =>
      rw [hf] at e
      obtain ⟨b1, b2⟩ := ffN_bef hf
      have ft := (fw_iff (d := d) (X := X) (i := d.nA - (k + 1)) (b := vN d X k) hm (hl l (by omega))).mp (ffN_true hf)
      refine Or.inr ⟨l, e, b1, hlt, ft.1, ft.2, fun l' h1 h2 h3 => ?_⟩
      have f0 := ffN_none b2 h1
      have f1 := (fw_iff (d := d) (X := X) (i := d.nA - (k + 1)) (b := vN d X k) hm (hl l' (by omega))).mpr ⟨h2, h3⟩
      rw [f0] at f1
      cases f1
  · rw [if_neg hlt] at e
    exact Or.inl ⟨e, by omega⟩
/-- the number of what is given out -/
def grN (d : PD) (X : Nat) : Nat → Nat → Nat
  | 0, _ => 0
  | k + 1, g => if gcN d X (d.nA - (k + 1)) g = 0 then grN d X k g else grN d X k (g ||| 2 ^ (gcN d X (d.nA - (k + 1)) g - 1)) + gcN d X (d.nA - (k + 1)) g * (d.nL + 1) ^ k
theorem grN_s (d : PD) (X k g : Nat) : grN d X (k + 1) g = if gcN d X (d.nA - (k + 1)) g = 0 then grN d X k g else grN d X k (g ||| 2 ^ (gcN d X (d.nA - (k + 1)) g - 1)) + gcN d X (d.nA - (k + 1)) g * (d.nL + 1) ^ k := rfl
theorem dg_hi {d : PD} {M c k : Nat} (hM : M < (d.nL + 1) ^ k) (hc : c < d.nL + 1) : dgN d (M + c * (d.nL + 1) ^ k) k = c := eu_hi hM hc
theorem dg_lo {d : PD} {M c j k : Nat} (h : j < k) : dgN d (M + c * (d.nL + 1) ^ k) j = dgN d M j := eu_lo (Nat.succ_pos _) h
theorem dg_0 {d : PD} {M k : Nat} (hM : M < (d.nL + 1) ^ k) : dgN d M k = 0 := by
  unfold dgN
  rw [Nat.div_eq_of_lt hM, Nat.zero_mod]
theorem fv_hi {d : PD} {X M c k g : Nat} (hM : M < (d.nL + 1) ^ k) (hc : c < d.nL + 1) : fvN d X (M + c * (d.nL + 1) ^ k) (k + 1) g = if c = 0 then fvN d X M k g else if puN d X (d.nA - (k + 1)) g (c - 1) = 0 then none else (fvN d X M k (g ||| 2 ^ (c - 1))).map (· + puN d X (d.nA - (k + 1)) g (c - 1)) := by
  have e : ∀ g, fvN d X (M + c * (d.nL + 1) ^ k) k g = fvN d X M k g := fun g => fv_cong (fun j hj => dg_lo hj)
  rw [fvN_s, dg_hi hM hc, e, e]
theorem grN_ok {d : PD} (hd : d.ok) (X : Nat) : ∀ k g, k ≤ d.nA → g < 32 → grN d X k g < (d.nL + 1) ^ k ∧ fvN d X (grN d X k g) k g = some (vN d X k g) ∧ (∀ N s, N < grN d X k g → fvN d X N k g = some s → s < vN d X k g)
  | 0, g, _, _ => ⟨by rw [Nat.pow_zero]; exact Nat.zero_lt_one, rfl, fun N s h => absurd h (Nat.not_lt_zero _)⟩
  | k + 1, g, hk, hg => by
    have h5 := hd.l5
    have hP : 0 < (d.nL + 1) ^ k := pw_pos (Nat.succ_pos _) k
    have hP1 : (d.nL + 1) ^ (k + 1) = d.nL * (d.nL + 1) ^ k + (d.nL + 1) ^ k := by rw [Nat.pow_succ, Nat.mul_comm, Nat.succ_mul]
    rcases gc_spec hd (X := X) hk hg with ⟨c0, ev⟩ | ⟨l, c1, hl, hlt, hp, hpe, hmin⟩
    · obtain ⟨i1, i2, i3⟩ := grN_ok hd X k g (by omega) hg
      rw [grN_s, if_pos c0]
      have i1' : grN d X k g < (d.nL + 1) ^ (k + 1) := by
        have := Nat.zero_le (d.nL * (d.nL + 1) ^ k)
        omega
      have one : ∀ N, N < (d.nL + 1) ^ k → fvN d X N (k + 1) g = fvN d X N k g := fun N h => by rw [fvN_s, dg_0 h, if_pos rfl]
      refine ⟨i1', ?_, fun N s h1 h2 => ?_⟩
      · rw [one _ i1, i2, ev]
      · rw [one _ (by omega)] at h2
        rw [ev]
        exact i3 N s h1 h2
    · obtain ⟨i1, i2, i3⟩ := grN_ok hd X k (g ||| 2 ^ l) (by omega) (or_32 hg (by omega))
      rw [grN_s, c1, if_neg (Nat.succ_ne_zero l), Nat.add_sub_cancel]
      generalize hM0 : grN d X k (g ||| 2 ^ l) = M0 at i1 i2 i3
      refine ⟨?_, ?_, fun N s h1 h2 => ?_⟩
      · have h := Nat.mul_le_mul_right ((d.nL + 1) ^ k) (show l + 1 ≤ d.nL by omega)
        omega
      · rw [fv_hi i1 (by omega), if_neg (Nat.succ_ne_zero l), Nat.add_sub_cancel, if_neg hp, i2]
        show some (vN d X k (g ||| 2 ^ l) + puN d X (d.nA - (k + 1)) g l) = some (vN d X (k + 1) g)
        rw [← hpe, Nat.add_comm]
      · obtain ⟨M, c, hM, rfl⟩ : ∃ M c, M < (d.nL + 1) ^ k ∧ N = M + c * (d.nL + 1) ^ k := ⟨N % (d.nL + 1) ^ k, N / (d.nL + 1) ^ k, Nat.mod_lt _ hP, (Nat.mod_add_div' N _).symm⟩
        have hc : c ≤ l + 1 := by
          apply Decidable.byContradiction
          intro q
          have h := Nat.mul_le_mul_right ((d.nL + 1) ^ k) (show l + 1 + 1 ≤ c by omega)
          rw [Nat.succ_mul] at h
          omega
        rw [fv_hi hM (by omega)] at h2
        by_cases z : c = 0
        · rw [if_pos z] at h2
          have := fv_le h2
          omega
        · rw [if_neg z] at h2
          obtain ⟨l', rfl⟩ : ∃ l', c = l' + 1 := ⟨c - 1, by omega⟩
          rw [Nat.add_sub_cancel] at h2
          by_cases hp' : puN d X (d.nA - (k + 1)) g l' = 0
          · rw [if_pos hp'] at h2
            cases h2
          · rw [if_neg hp'] at h2
            cases hs : fvN d X M k (g ||| 2 ^ l') with
            | none =>
              rw [hs] at h2
              cases h2
            | some s' =>
              rw [hs] at h2
              have e : s' + puN d X (d.nA - (k + 1)) g l' = s := Option.some.inj h2
              by_cases el : l' = l
              · subst el
                have := i3 M s' (by omega) hs
                omega
              · have h3 := hmin l' (by omega) hp'
                have h4 := fv_le hs
                have h5 := moN_ge (b := vN d X k) hp' (show l' < d.nL by omega)
                have hv : vN d X (k + 1) g = moN d X (d.nA - (k + 1)) g (vN d X k) d.nL := rfl
                omega
theorem grN_dg {d : PD} (hd : d.ok) (X : Nat) : ∀ k t, k + t = d.nA → ∀ j, j < k → dgN d (grN d X k (gvN d X t)) j = gcN d X (d.nA - (j + 1)) (gvN d X (d.nA - (j + 1)))
  | 0, _, _, j, hj => absurd hj (Nat.not_lt_zero _)
  | k + 1, t, e, j, hj => by
    obtain rfl : t = d.nA - (k + 1) := by omega
    have hg := gvN_lt hd X (d.nA - (k + 1))
    have hl := gcN_le hd X (d.nA - (k + 1)) (gvN d X (d.nA - (k + 1)))
    have h5 := hd.l5
    have ih := grN_dg hd X k (d.nA - (k + 1) + 1) (by omega)
    rw [gvN_s] at ih
    rw [grN_s]
    by_cases c0 : gcN d X (d.nA - (k + 1)) (gvN d X (d.nA - (k + 1))) = 0
    · rw [if_pos c0] at ih ⊢
      by_cases ej : j = k
      · rw [ej, c0, dg_0 (grN_ok hd X k _ (by omega) hg).1]
      · exact ih j (by omega)
    · rw [if_neg c0] at ih ⊢
      rcases gc_spec hd (X := X) (show k + 1 ≤ d.nA by omega) hg with ⟨q, _⟩ | ⟨l, c1, hl2, _⟩
      · exact absurd q c0
      have hM := (grN_ok hd X k (gvN d X (d.nA - (k + 1)) ||| 2 ^ (gcN d X (d.nA - (k + 1)) (gvN d X (d.nA - (k + 1))) - 1)) (by omega) (or_32 hg (by omega))).1
      by_cases ej : j = k
      · rw [ej, dg_hi hM (by omega)]
      · rw [dg_lo (show j < k by omega)]
        exact ih j (by omega)
theorem fv_0 {d : PD} (hd : d.ok) (X N : Nat) : fvN d X N d.nA 0 = if (bwN d X N d.nA).1 = true then some (bwN d X N d.nA).2.2 else none := by
  rw [fv_bw hd X N d.nA 0 (by decide), Nat.and_zero, decide_eq_true rfl, Bool.and_true]
theorem wv_cs {d : PD} (hd : d.ok) {X N : Nat} {s : Int32} (h : wvT d X N d.nA s) : (∃ w, fvN d X N d.nA 0 = some w ∧ s = nI w ∧ w ≤ 40) ∨ (fvN d X N d.nA 0 = none ∧ s.toInt < 0) := by
  have h4 := hd.a4
  rw [fv_0 hd]
  cases hb : (bwN d X N d.nA).1
  · have := h.2 hb
    exact Or.inr ⟨if_neg Bool.false_ne_true, by omega⟩
  · have h8 := (bwN_lt hd X N d.nA).2
    exact Or.inl ⟨_, if_pos rfl, h.1 hb, by omega⟩
theorem b_1296 {d : PD} (hd : d.ok) {k : Nat} (hk : k ≤ d.nA) : (d.nL + 1) ^ k ≤ 1296 := by
  have h4 := hd.a4
  have h5 := hd.l5
  calc (d.nL + 1) ^ k ≤ 6 ^ k := Nat.pow_le_pow_left (by omega) k
    _ ≤ 6 ^ 4 := Nat.pow_le_pow_right (by decide) (by omega)
    _ = 1296 := rfl
def csX11_match : xCs := [(mX11_isRow, sX11_isRow), (mX11_worth, sX11_worth), (mX11_fresh, sX11_fresh)]
theorem okX11_match : xOkM mX11_match csX11_match := ⟨dX11_match, by decide +kernel, by decide +kernel, ⟨wdX11_96, wdX11_118, wdX11_118, wdX11_121, wdX11_263, wdX11_263, wdX11_118, wdX11_104, wdX11_118, wdX11_16, wdX11_62, trivial⟩⟩
theorem hhX11_match : ∀ q ∈ csX11_match, xHd q.1 := xall1 hX11_isRow (xall1 hX11_worth (xall1 hX11_fresh (xall0)))
theorem kkX11_match : ∀ q ∈ csX11_match, ∀ l, xCon l q.1 q.2 := xall1 kX11_isRow (xall1 kX11_worth (xall1 kX11_fresh (xall0)))
def sX11_match : xSpec := xReg fun as I L Q => ∃ (S : ST) (r o : Int32) (S' : ST), as = [.ref 27, .int r] ∧ matchR S r o S' ∧ Ref S I L ∧ (∀ I' L', frM I L I' L' → Ref S' I' L' → Q (some (.int o)) I' L')
set_option maxRecDepth 100000 in
theorem kX11_match : ∀ l, xCon l mX11_match sX11_match := by
  refine xcon_of okX11_match hX11_match rfl (by decide) hhX11_match kkX11_match ?_
  rintro as n0 I L P Q ⟨rfl, rfl, S, r, o, S', rfl, hR, hC, hQ⟩
  refine ⟨Nat.le_of_ble_eq_true rfl, ?_⟩
  have hA := hC.pd.a
  have hL := hC.pd.l
  have hd := hC.pd.ok
  have h4 := hd.a4
  have h5 := hd.l5
  refine xrun okX11_match hhX11_match [(23, [true, true, true, true, false, false, false])] 60 ?_
  refine ⟨rfl, rfl, r, rfl, ?_⟩
  rcases hR with ⟨h, rfl, rfl⟩ | ⟨j, rfl, hj, hR⟩
  · rw [h]
    (first | refine xbr_t (by decide) ?_ | refine xbr_f (by decide) ?_)
    exact hQ _ _ (frM_0 _ _) hC
  rw [ib_tt hj (by decide)]
  (first | refine xbr_t (by decide) ?_ | refine xbr_f (by decide) ?_)
  rcases hR with ⟨h0, rfl, rfl⟩ | ⟨h0, rfl, rfl⟩
  · obtain ⟨S, rfl⟩ : ∃ S, S = S' := ⟨S', rfl⟩
    rw [h0] at hA
    repeat (first | (refine xbr_f ?_ ?_; (focus ((simp (disch := omega) only [ix_lt, ix_le, ix_eq, ix_0, nI_clamp, nI_toInt, ng_T, nI_add, nI_mul, nI_sub', Int.neg_zero, not_false_eq_true, not_true_eq_false, hA] <;> omega); done))) | (refine xbr_t ?_ ?_; (focus ((simp (disch := omega) only [ix_lt, ix_le, ix_eq, ix_0, nI_clamp, nI_toInt, ng_T, nI_add, nI_mul, nI_sub', Int.neg_zero, not_false_eq_true, not_true_eq_false, hA] <;> omega); done))) | refine ⟨Or.inl rfl, ?_⟩ | refine ⟨Or.inr rfl, ?_⟩ | (refine ⟨?_, ?_⟩; (focus ((try simp (disch := omega) only [hA, nI_mul, nI_add, nI_sub']); exact in_nI (by omega) (by omega)))))
    exact hQ _ _ (frM_0 _ _) hC
  (first | (refine xbr_f ?_ ?_; (focus ((simp (disch := omega) only [ix_lt, ix_le, ix_eq, ix_0, nI_clamp, nI_toInt, ng_T, nI_add, nI_mul, nI_sub', Int.neg_zero, not_false_eq_true, not_true_eq_false, hA] <;> omega); done))) | (refine xbr_t ?_ ?_; (focus ((simp (disch := omega) only [ix_lt, ix_le, ix_eq, ix_0, nI_clamp, nI_toInt, ng_T, nI_add, nI_mul, nI_sub', Int.neg_zero, not_false_eq_true, not_true_eq_false, hA] <;> omega); done))) | refine ⟨Or.inl rfl, ?_⟩ | refine ⟨Or.inr rfl, ?_⟩ | (refine ⟨?_, ?_⟩; (focus ((try simp (disch := omega) only [hA, nI_mul, nI_add, nI_sub']); exact in_nI (by omega) (by omega)))))
  obtain ⟨g1, g2, g3⟩ := grN_ok hd S.D.X S.d.nA 0 (Nat.le_refl _) (by decide)
  have gd := grN_dg hd S.D.X S.d.nA 0 rfl
  have gv0 : gvN S.d S.D.X 0 = 0 := rfl
  rw [gv0] at gd
  have hT := b_1296 hd (Nat.le_refl S.d.nA)
  have hV := vN_le hd S.D.X S.d.nA 0 (by decide)
  -- the rows written
  have last : ∀ (f : Nat → Int32) (x y : Int32), gvR S.d (grN S.d S.D.X S.d.nA 0) f S.d.nA → xGo mX11_match csX11_match 122 Q [some (.ref 27), some (.int (nI j)), some (.int x), some (.int y), some (.int (nI (vN S.d S.D.X S.d.nA 0))), some (.int (nI 0)), none] [] 0 xN (xrw (xup (xrw I 45 f) 29 j (nI S.d.nA)) 30 (xfil (I 30) (40 * j) 40 (nI 0))) L xP0 := by
    intro f x y hf
    refine xlpW (M := mX11_match) (cs := csX11_match) (pc := 122) S.d.nA (fun k => [some (.ref 27), some (.int (nI j)), some (.int x), some (.int y), some (.int (nI (vN S.d S.D.X S.d.nA 0))), some (.int (nI k)), none]) (fun k I' L' => L' = L ∧ ∃ g, I' = xrw (xup (xrw I 45 f) 29 j (nI S.d.nA)) 30 g ∧ (∀ t, t < k → g (40 * j + t) = cI (gcN S.d S.D.X t (gvN S.d S.D.X t))) ∧ (∀ t, (t < 40 * j ∨ 40 * j + 40 ≤ t) → g t = I 30 t)) ?_ ?_ ⟨rfl, _, rfl, fun t ht => absurd ht (Nat.not_lt_zero _), fun t ht => fil_out ht⟩
    · rintro k hk I2 L2 ⟨rfl, g, rfl, w1, w2⟩ ih
      refine xrun okX11_match hhX11_match [(122, [true, true, true, true, true, true, false])] 60 ?_
      have hA2 : xrw (xup (xrw I 45 f) 29 j (nI S.d.nA)) 30 g 27 10 = nI S.d.nA := hA
      have ef : xrw (xup (xrw I 45 f) 29 j (nI S.d.nA)) 30 g 45 k = cI (gcN S.d S.D.X k (gvN S.d S.D.X k)) := by
        show f k = _
        have a := hf (S.d.nA - (k + 1)) (by omega)
        rw [gd _ (by omega), show S.d.nA - (S.d.nA - (k + 1) + 1) = k by omega] at a
        exact a
      (first | (refine xbr_f ?_ ?_; (focus ((simp (disch := omega) only [ix_lt, ix_le, ix_eq, ix_0, nI_clamp, nI_toInt, ng_T, nI_add, nI_mul, nI_sub', Int.neg_zero, not_false_eq_true, not_true_eq_false, hA2] <;> omega); done))) | (refine xbr_t ?_ ?_; (focus ((simp (disch := omega) only [ix_lt, ix_le, ix_eq, ix_0, nI_clamp, nI_toInt, ng_T, nI_add, nI_mul, nI_sub', Int.neg_zero, not_false_eq_true, not_true_eq_false, hA2] <;> omega); done))) | refine ⟨Or.inl rfl, ?_⟩ | refine ⟨Or.inr rfl, ?_⟩ | (refine ⟨?_, ?_⟩; (focus ((try simp (disch := omega) only [hA2, nI_mul, nI_add, nI_sub']); exact in_nI (by omega) (by omega)))))
      (first | (refine xbr_f ?_ ?_; (focus ((simp (disch := omega) only [ix_lt, ix_le, ix_eq, ix_0, nI_clamp, nI_toInt, ng_T, nI_add, nI_mul, nI_sub', Int.neg_zero, not_false_eq_true, not_true_eq_false, nI_add] <;> omega); done))) | (refine xbr_t ?_ ?_; (focus ((simp (disch := omega) only [ix_lt, ix_le, ix_eq, ix_0, nI_clamp, nI_toInt, ng_T, nI_add, nI_mul, nI_sub', Int.neg_zero, not_false_eq_true, not_true_eq_false, nI_add] <;> omega); done))) | refine ⟨Or.inl rfl, ?_⟩ | refine ⟨Or.inr rfl, ?_⟩ | (refine ⟨?_, ?_⟩; (focus ((try simp (disch := omega) only [nI_add, nI_mul, nI_add, nI_sub']); exact in_nI (by omega) (by omega)))))
      (first | (refine xbr_f ?_ ?_; (focus ((simp (disch := omega) only [ix_lt, ix_le, ix_eq, ix_0, nI_clamp, nI_toInt, ng_T, nI_add, nI_mul, nI_sub', Int.neg_zero, not_false_eq_true, not_true_eq_false, nI_add] <;> omega); done))) | (refine xbr_t ?_ ?_; (focus ((simp (disch := omega) only [ix_lt, ix_le, ix_eq, ix_0, nI_clamp, nI_toInt, ng_T, nI_add, nI_mul, nI_sub', Int.neg_zero, not_false_eq_true, not_true_eq_false, nI_add] <;> omega); done))) | refine ⟨Or.inl rfl, ?_⟩ | refine ⟨Or.inr rfl, ?_⟩ | (refine ⟨?_, ?_⟩; (focus ((try simp (disch := omega) only [nI_add, nI_mul, nI_add, nI_sub']); exact in_nI (by omega) (by omega)))))
      simp (disch := omega) only [ef, nI_mul, nI_add, nI_clamp, nI_sub']
      rw [xrw_up]
      refine xgo_eq (ih _ _ ⟨rfl, _, rfl, fun t ht => ?_, fun t ht => ?_⟩) ?_ rfl rfl
      · show (if 40 * j + t = 40 * j + k then _ else g (40 * j + t)) = _
        by_cases e : t = k
        · rw [if_pos (by omega), e]
        · rw [if_neg (by omega)]
          exact w1 t (by omega)
      · show (if t = 40 * j + k then _ else g t) = _
        rw [if_neg (by omega)]
        exact w2 t ht
      · ((repeat' (first | (with_reducible rfl) | exact xv_nil | refine xv_cons ?_ ?_ | refine xv_i ?_ | refine xv_l ?_)) <;> (simp (disch := omega) only [↓reduceIte, Bool.false_eq_true, Nat.one_mul, Nat.zero_mul, Nat.or_zero, Nat.add_zero, Nat.zero_add, Bool.toNat_true, Bool.toNat_false, shl_n, shr_n, fa_and, fa_or, nx_xor, nI_add, nI_mul, nI_sub', and_1, and_7, and_3', and_15]))
    · rintro I2 L2 ⟨rfl, g, rfl, w1, w2⟩
      refine xrun okX11_match hhX11_match [] 60 ?_
      have hA2 : xrw (xup (xrw I 45 f) 29 j (nI S.d.nA)) 30 g 27 10 = nI S.d.nA := hA
      (first | (refine xbr_f ?_ ?_; (focus ((simp (disch := omega) only [ix_lt, ix_le, ix_eq, ix_0, nI_clamp, nI_toInt, ng_T, nI_add, nI_mul, nI_sub', Int.neg_zero, not_false_eq_true, not_true_eq_false, hA2] <;> omega); done))) | (refine xbr_t ?_ ?_; (focus ((simp (disch := omega) only [ix_lt, ix_le, ix_eq, ix_0, nI_clamp, nI_toInt, ng_T, nI_add, nI_mul, nI_sub', Int.neg_zero, not_false_eq_true, not_true_eq_false, hA2] <;> omega); done))) | refine ⟨Or.inl rfl, ?_⟩ | refine ⟨Or.inr rfl, ?_⟩ | (refine ⟨?_, ?_⟩; (focus ((try simp (disch := omega) only [hA2, nI_mul, nI_add, nI_sub']); exact in_nI (by omega) (by omega)))))
      have hC1 : Ref S (xrw I 45 f) L2 := Ref_s hC (scr_W (k := 45) (by omega) _ _ _)
      refine hQ _ _ (frM_t (frM_W (k := 45) (by decide) _ _ _) (frM_t (frM_I (k := 29) (by decide) _ _ _ _) (frM_W (k := 30) (by decide) _ _ _))) (Ref_R hC1 (rz_le hC.ok (by omega)) (rw_new hC.rw hC.ok.rz (m := S.d.nA) (by omega) ?_ ?_ ?_))
      · intro k hk
        rw [w1 k hk]
        unfold mtV
        rw [if_pos (by omega), show j * 40 + k - j * 40 = k by omega]
      · intro t ht
        exact w2 t ht
      · intro t ht
        unfold mtV
        rw [if_neg (by omega)]
  have loop : ∀ j2 n b m f, n + j2 = (S.d.nL + 1) ^ S.d.nA → (grN S.d S.D.X S.d.nA 0 < n → b = grN S.d S.D.X S.d.nA 0 ∧ m = vN S.d S.D.X S.d.nA 0) → (n ≤ grN S.d S.D.X S.d.nA 0 → m < vN S.d S.D.X S.d.nA 0) → b < 2 ^ 20 → m ≤ 40 → xGo mX11_match csX11_match 54 Q [some (.ref 27), some (.int (nI j)), some (.int (nI ((S.d.nL + 1) ^ S.d.nA))), some (.int (nI b)), some (.int (nI m)), some (.int (nI n)), none] [] 0 xN (xrw I 45 f) L xP0 := by
    intro j2
    induction j2 with
    | zero =>
      intro n b m f hn i1 i2 hb hm
      obtain ⟨rfl, rfl⟩ := i1 (by omega)
      refine xrun okX11_match hhX11_match [(122, [true, true, true, true, true, true, false])] 60 ?_
      (first | (refine xbr_f ?_ ?_; (focus ((simp (disch := omega) only [ix_lt, ix_le, ix_eq, ix_0, nI_clamp, nI_toInt, ng_T, nI_add, nI_mul, nI_sub', Int.neg_zero, not_false_eq_true, not_true_eq_false] <;> omega); done))) | (refine xbr_t ?_ ?_; (focus ((simp (disch := omega) only [ix_lt, ix_le, ix_eq, ix_0, nI_clamp, nI_toInt, ng_T, nI_add, nI_mul, nI_sub', Int.neg_zero, not_false_eq_true, not_true_eq_false] <;> omega); done))) | refine ⟨Or.inl rfl, ?_⟩ | refine ⟨Or.inr rfl, ?_⟩ | (refine ⟨?_, ?_⟩; (focus (exact in_nI (by omega) (by omega)))))
      refine ⟨rfl, rfl, S.d, S.D.X, _, _, rfl, hC.pd, hC.nw, hb, fun s f2 hs hf2 => ?_⟩
      rw [xrw_xrw]
      have hA2 : xrw I 45 f2 27 10 = nI S.d.nA := hA
      refine ⟨rfl, rfl, j, nI S.d.nA, by rw [hA2], hj, ?_⟩
      exact last f2 _ _ hf2
    | succ j2 ih =>
      intro n b m f hn i1 i2 hb hm
      refine xrun okX11_match hhX11_match [(54, [true, true, true, true, true, true, false])] 60 ?_
      (first | (refine xbr_f ?_ ?_; (focus ((simp (disch := omega) only [ix_lt, ix_le, ix_eq, ix_0, nI_clamp, nI_toInt, ng_T, nI_add, nI_mul, nI_sub', Int.neg_zero, not_false_eq_true, not_true_eq_false] <;> omega); done))) | (refine xbr_t ?_ ?_; (focus ((simp (disch := omega) only [ix_lt, ix_le, ix_eq, ix_0, nI_clamp, nI_toInt, ng_T, nI_add, nI_mul, nI_sub', Int.neg_zero, not_false_eq_true, not_true_eq_false] <;> omega); done))) | refine ⟨Or.inl rfl, ?_⟩ | refine ⟨Or.inr rfl, ?_⟩ | (refine ⟨?_, ?_⟩; (focus (exact in_nI (by omega) (by omega)))))
      refine ⟨rfl, rfl, S.d, S.D.X, _, n, rfl, hC.pd, hC.nw, by omega, fun s f2 hs hf2 => ?_⟩
      rw [xrw_xrw]
      rcases wv_cs hd hs with ⟨w, e1, rfl, hw⟩ | ⟨e1, hneg⟩
      · have hle := fv_le e1
        by_cases c : m < w
        · (first | (refine xbr_f ?_ ?_; (focus ((simp (disch := omega) only [ix_lt, ix_le, ix_eq, ix_0, nI_clamp, nI_toInt, ng_T, nI_add, nI_mul, nI_sub', Int.neg_zero, not_false_eq_true, not_true_eq_false] <;> omega); done))) | (refine xbr_t ?_ ?_; (focus ((simp (disch := omega) only [ix_lt, ix_le, ix_eq, ix_0, nI_clamp, nI_toInt, ng_T, nI_add, nI_mul, nI_sub', Int.neg_zero, not_false_eq_true, not_true_eq_false] <;> omega); done))) | refine ⟨Or.inl rfl, ?_⟩ | refine ⟨Or.inr rfl, ?_⟩ | (refine ⟨?_, ?_⟩; (focus (exact in_nI (by omega) (by omega)))))
          (first | (refine xbr_f ?_ ?_; (focus ((simp (disch := omega) only [ix_lt, ix_le, ix_eq, ix_0, nI_clamp, nI_toInt, ng_T, nI_add, nI_mul, nI_sub', Int.neg_zero, not_false_eq_true, not_true_eq_false] <;> omega); done))) | (refine xbr_t ?_ ?_; (focus ((simp (disch := omega) only [ix_lt, ix_le, ix_eq, ix_0, nI_clamp, nI_toInt, ng_T, nI_add, nI_mul, nI_sub', Int.neg_zero, not_false_eq_true, not_true_eq_false] <;> omega); done))) | refine ⟨Or.inl rfl, ?_⟩ | refine ⟨Or.inr rfl, ?_⟩ | (refine ⟨?_, ?_⟩; (focus (exact in_nI (by omega) (by omega)))))
          refine xgo_eq (ih (n + 1) n w f2 (by omega) (fun q => ?_) (fun q => ?_) (by omega) hw) ?_ rfl rfl
          · by_cases eg : grN S.d S.D.X S.d.nA 0 = n
            · rw [eg] at g2
              rw [g2] at e1
              cases e1
              exact ⟨eg.symm, rfl⟩
            · have := i1 (by omega)
              omega
          · exact g3 n w (by omega) e1
          · ((repeat' (first | (with_reducible rfl) | exact xv_nil | refine xv_cons ?_ ?_ | refine xv_i ?_ | refine xv_l ?_)) <;> (simp (disch := omega) only [↓reduceIte, Bool.false_eq_true, Nat.one_mul, Nat.zero_mul, Nat.or_zero, Nat.add_zero, Nat.zero_add, Bool.toNat_true, Bool.toNat_false, shl_n, shr_n, fa_and, fa_or, nx_xor, nI_add, nI_mul, nI_sub', and_1, and_7, and_3', and_15]))
        · (first | (refine xbr_f ?_ ?_; (focus ((simp (disch := omega) only [ix_lt, ix_le, ix_eq, ix_0, nI_clamp, nI_toInt, ng_T, nI_add, nI_mul, nI_sub', Int.neg_zero, not_false_eq_true, not_true_eq_false] <;> omega); done))) | (refine xbr_t ?_ ?_; (focus ((simp (disch := omega) only [ix_lt, ix_le, ix_eq, ix_0, nI_clamp, nI_toInt, ng_T, nI_add, nI_mul, nI_sub', Int.neg_zero, not_false_eq_true, not_true_eq_false] <;> omega); done))) | refine ⟨Or.inl rfl, ?_⟩ | refine ⟨Or.inr rfl, ?_⟩ | (refine ⟨?_, ?_⟩; (focus (exact in_nI (by omega) (by omega)))))
          (first | (refine xbr_f ?_ ?_; (focus ((simp (disch := omega) only [ix_lt, ix_le, ix_eq, ix_0, nI_clamp, nI_toInt, ng_T, nI_add, nI_mul, nI_sub', Int.neg_zero, not_false_eq_true, not_true_eq_false] <;> omega); done))) | (refine xbr_t ?_ ?_; (focus ((simp (disch := omega) only [ix_lt, ix_le, ix_eq, ix_0, nI_clamp, nI_toInt, ng_T, nI_add, nI_mul, nI_sub', Int.neg_zero, not_false_eq_true, not_true_eq_false] <;> omega); done))) | refine ⟨Or.inl rfl, ?_⟩ | refine ⟨Or.inr rfl, ?_⟩ | (refine ⟨?_, ?_⟩; (focus (exact in_nI (by omega) (by omega)))))
          refine xgo_eq (ih (n + 1) b m f2 (by omega) (fun q => ?_) (fun q => i2 (by omega)) hb hm) ?_ rfl rfl
          · by_cases eg : grN S.d S.D.X S.d.nA 0 = n
            · rw [eg] at g2
              rw [g2] at e1
              cases e1
              have := i2 (by omega)
              omega
            · exact i1 (by omega)
          · ((repeat' (first | (with_reducible rfl) | exact xv_nil | refine xv_cons ?_ ?_ | refine xv_i ?_ | refine xv_l ?_)) <;> (simp (disch := omega) only [↓reduceIte, Bool.false_eq_true, Nat.one_mul, Nat.zero_mul, Nat.or_zero, Nat.add_zero, Nat.zero_add, Bool.toNat_true, Bool.toNat_false, shl_n, shr_n, fa_and, fa_or, nx_xor, nI_add, nI_mul, nI_sub', and_1, and_7, and_3', and_15]))
      · have c : s ≤ nI m := by
          rw [ix_le, nI_toInt (by omega)]
          omega
        (first | refine xbr_t c ?_ | refine xbr_f c ?_)
        (first | refine xbr_t c ?_ | refine xbr_f c ?_)
        refine xgo_eq (ih (n + 1) b m f2 (by omega) (fun q => ?_) (fun q => i2 (by omega)) hb hm) ?_ rfl rfl
        · by_cases eg : grN S.d S.D.X S.d.nA 0 = n
          · rw [eg] at g2
            rw [g2] at e1
            cases e1
          · exact i1 (by omega)
        · ((repeat' (first | (with_reducible rfl) | exact xv_nil | refine xv_cons ?_ ?_ | refine xv_i ?_ | refine xv_l ?_)) <;> (simp (disch := omega) only [↓reduceIte, Bool.false_eq_true, Nat.one_mul, Nat.zero_mul, Nat.or_zero, Nat.add_zero, Nat.zero_add, Bool.toNat_true, Bool.toNat_false, shl_n, shr_n, fa_and, fa_or, nx_xor, nI_add, nI_mul, nI_sub', and_1, and_7, and_3', and_15]))
  refine xlp (M := mX11_match) (cs := csX11_match) (pc := 23) S.d.nA (fun k => [some (.ref 27), some (.int (nI j)), some (.int (nI ((S.d.nL + 1) ^ k))), some (.int (nI k)), none, none, none]) (fun _ => I) (fun _ => L) ?_ ?_
  · intro k hk ih
    refine xrun okX11_match hhX11_match [(23, [true, true, true, true, false, false, false])] 60 ?_
    have hT := b_1296 hd (show k + 1 ≤ S.d.nA by omega)
    have eB : nI ((S.d.nL + 1) ^ k) * (I 27 11 + nI 1) = nI ((S.d.nL + 1) ^ (k + 1)) := by rw [hL, nI_add, nI_mul, Nat.pow_succ]
    (first | (refine xbr_f ?_ ?_; (focus ((simp (disch := omega) only [ix_lt, ix_le, ix_eq, ix_0, nI_clamp, nI_toInt, ng_T, nI_add, nI_mul, nI_sub', Int.neg_zero, not_false_eq_true, not_true_eq_false, hA] <;> omega); done))) | (refine xbr_t ?_ ?_; (focus ((simp (disch := omega) only [ix_lt, ix_le, ix_eq, ix_0, nI_clamp, nI_toInt, ng_T, nI_add, nI_mul, nI_sub', Int.neg_zero, not_false_eq_true, not_true_eq_false, hA] <;> omega); done))) | refine ⟨Or.inl rfl, ?_⟩ | refine ⟨Or.inr rfl, ?_⟩ | (refine ⟨?_, ?_⟩; (focus ((try simp (disch := omega) only [hA, nI_mul, nI_add, nI_sub']); exact in_nI (by omega) (by omega)))))
    refine xgo_eq ih ?_ rfl rfl
    ((repeat' (first | (with_reducible rfl) | exact xv_nil | refine xv_cons ?_ ?_ | refine xv_i ?_ | refine xv_l ?_)) <;> (simp (disch := omega) only [↓reduceIte, Bool.false_eq_true, Nat.one_mul, Nat.zero_mul, Nat.or_zero, Nat.add_zero, Nat.zero_add, Bool.toNat_true, Bool.toNat_false, shl_n, shr_n, fa_and, fa_or, nx_xor, nI_add, nI_mul, nI_sub', and_1, and_7, and_3', and_15, eB]))
  · refine xrun okX11_match hhX11_match [(54, [true, true, true, true, true, true, false])] 60 ?_
    (first | (refine xbr_f ?_ ?_; (focus ((simp (disch := omega) only [ix_lt, ix_le, ix_eq, ix_0, nI_clamp, nI_toInt, ng_T, nI_add, nI_mul, nI_sub', Int.neg_zero, not_false_eq_true, not_true_eq_false, hA] <;> omega); done))) | (refine xbr_t ?_ ?_; (focus ((simp (disch := omega) only [ix_lt, ix_le, ix_eq, ix_0, nI_clamp, nI_toInt, ng_T, nI_add, nI_mul, nI_sub', Int.neg_zero, not_false_eq_true, not_true_eq_false, hA] <;> omega); done))) | refine ⟨Or.inl rfl, ?_⟩ | refine ⟨Or.inr rfl, ?_⟩ | (refine ⟨?_, ?_⟩; (focus ((try simp (disch := omega) only [hA, nI_mul, nI_add, nI_sub']); exact in_nI (by omega) (by omega)))))
    have hT1 : 0 < (S.d.nL + 1) ^ S.d.nA := pw_pos (Nat.succ_pos _) _
    refine xgo_eq (loop ((S.d.nL + 1) ^ S.d.nA - 1) 1 0 0 (I 45) (by omega) (fun q => ?_) (fun q => ?_) (by decide) (by decide)) rfl (xrw_self I 45).symm rfl
    · have e0 : grN S.d S.D.X S.d.nA 0 = 0 := by omega
      rw [e0] at g2
      have z : ∀ k, fvN S.d S.D.X 0 k 0 = some 0 := by
        intro k
        induction k with
        | zero => rfl
        | succ k ih => rw [fvN_s, dg_0 (pw_pos (Nat.succ_pos _) _), if_pos rfl, ih]
      rw [z] at g2
      exact ⟨e0.symm, Option.some.inj g2⟩
    · have z : ∀ k, fvN S.d S.D.X 0 k 0 = some 0 := by
        intro k
        induction k with
        | zero => rfl
        | succ k ih => rw [fvN_s, dg_0 (pw_pos (Nat.succ_pos _) _), if_pos rfl, ih]
      exact g3 0 0 (by omega) (z _)
