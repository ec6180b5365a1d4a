/-! the steps that read, write, make cells -/
section CELLS
variable {p : Program} {l : Launch} {e : Env} {s : State} {m : MethodId} {args : Array Value} {below : List Frame} {meth : Method} {c : Code} {D : va_G} {cI cJ cD : ClassId} {b base n0 : Nat} {scr : Nat → Int32} {M : xM} {cs : xCs} {Q : xQ} {Z : State → Prop}
variable {pc : Nat} {K : xK} {J : Nat → xK} {ls : xV} {st : List Value} {k n : Nat} {I : xI} {L : xL} {P : xR}
theorem xand {a b : Bool} (h : (a && b) = true) : a = true ∧ b = true := by simpa using h
theorem xar_e {r n t : Nat} {k : Nat → Prop} (h : xar (r + 1) n t k) : r < n ∧ Nat.beq (xSh (r + 1)).1 t = true ∧ k (xSh (r + 1)).2 := by
  unfold xar at h
  cases hr : Nat.blt r n with
  | true =>
    simp only [hr] at h
    split at h
    · rename_i heq
      exact ⟨xblt hr, heq, h⟩
    · exact absurd h (fun q => q)
  | false => simp only [hr] at h
theorem xal_e {r n : Nat} {k : Nat → Prop} (h : xal (r + 1) n k) : r < n ∧ 0 < (xSh (r + 1)).1 ∧ k (xSh (r + 1)).2 := by
  unfold xal at h
  cases hr : Nat.blt r n with
  | true =>
    simp only [hr] at h
    split at h
    · rename_i heq
      exact ⟨xblt hr, xblt heq, h⟩
    · exact absurd h (fun q => q)
  | false => simp only [hr] at h
theorem xmc {α : Type} {a : α} {b : α} {c : Prop} (h : xT true c) : c := h
/-- a class of vwCl: its words, its fields' types -/
theorem xcls {a : Nat} {q : vw_C} (h : vwCl[a]? = some q) : (∀ w ∈ u_ws q.1 q.2.1 q.2.2, w ∈ xG) ∧ q.2.2 = xNf a ∧ (∀ i, i < q.2.2 → ∀ j, j < q.2.2 → i ≠ j → (q.2.1 i).2.1 ≠ (q.2.1 j).2.1) ∧
    ∃ ty : Nat → FieldType, (∀ k, k < q.2.2 → parseFieldDescriptor (q.2.1 k).2.2.1 = some (ty k)) ∧ ∀ k, k < q.2.2 → (match xKd a k with
      | 0 => ty k = .int
      | 1 => ty k = .long
      | _ => (∃ C, ty k = .object C) ∨ ∃ t, ty k = .array t) := by
  match a, h with
  | 0, h => cases h; exact ⟨xin0, rfl, nmX0, tyX0, tyX0_ok, by intro k hk; match k, hk with | 0, _ => exact rfl | 1, _ => exact rfl⟩
  | 1, h => cases h; exact ⟨xin1, rfl, nmX1, tyX1, tyX1_ok, by intro k hk; match k, hk with | 0, _ => exact Or.inr ⟨_, rfl⟩ | 1, _ => exact rfl | 2, _ => exact rfl | 3, _ => exact rfl⟩
  | 2, h => cases h; exact ⟨xin2, rfl, nmX2, tyX2, tyX2_ok, by intro k hk; match k, hk with | 0, _ => exact Or.inr ⟨_, rfl⟩⟩
  | 3, h => cases h; exact ⟨xin3, rfl, nmX5, tyX5, tyX5_ok, by intro k hk; match k, hk with | 0, _ => exact rfl | 1, _ => exact rfl | 2, _ => exact rfl | 3, _ => exact rfl | 4, _ => exact rfl⟩
  | 4, h => cases h; exact ⟨xin4, rfl, nmX6, tyX6, tyX6_ok, by intro k hk; match k, hk with | 0, _ => exact Or.inr ⟨_, rfl⟩ | 1, _ => exact Or.inl ⟨_, rfl⟩ | 2, _ => exact rfl | 3, _ => exact rfl | 4, _ => exact rfl⟩
  | 5, h => cases h; exact ⟨xin5, rfl, nmX8, tyX8, tyX8_ok, by intro k hk; match k, hk with | 0, _ => exact rfl | 1, _ => exact Or.inr ⟨_, rfl⟩ | 2, _ => exact Or.inr ⟨_, rfl⟩⟩
  | 6, h => cases h; exact ⟨xin6, rfl, nmX9, tyX9, tyX9_ok, by intro k hk; match k, hk with | 0, _ => exact Or.inr ⟨_, rfl⟩⟩
  | 7, h => cases h; exact ⟨xin7, rfl, nmX10, tyX10, tyX10_ok, by
      intro k hk
      match k, hk with
      | 0, _ => exact Or.inl ⟨_, rfl⟩
      | 1, _ => exact Or.inl ⟨_, rfl⟩
      | 2, _ => exact Or.inl ⟨_, rfl⟩
      | 3, _ => exact Or.inl ⟨_, rfl⟩
      | 4, _ => exact Or.inl ⟨_, rfl⟩
      | 5, _ => exact Or.inr ⟨_, rfl⟩
      | 6, _ => exact Or.inl ⟨_, rfl⟩
      | 7, _ => exact Or.inl ⟨_, rfl⟩
      | 8, _ => exact Or.inl ⟨_, rfl⟩
      | 9, _ => exact Or.inr ⟨_, rfl⟩
      | 10, _ => exact rfl
      | 11, _ => exact rfl⟩
  | a + 8, h => simp [vwCl] at h
theorem xcl_some {a b9 : Nat} (h : b9 < xNf a) : vwCl[a]? = some (vwCl.getD a (RX0, TX0, 0)) := by
  match a, h with
  | 0, _ => rfl
  | 1, _ => rfl
  | 2, _ => rfl
  | 3, _ => rfl
  | 4, _ => rfl
  | 5, _ => rfl
  | 6, _ => rfl
  | 7, _ => rfl
  | a + 8, h => simp [xNf, xKdL] at h
theorem xent0 {r a : Nat} (h : (Nat.beq (xSh (r + 1)).1 0 && Nat.beq (xSh (r + 1)).2 a) = true) (b base : Nat) (cI cJ cD : ClassId) (I : xI) (L : xL) (P : xR) : xent b base cI cJ cD (r + 1) I L P = .inr (a, xfs b base a (r + 1) I L P) := by
  obtain ⟨h1, h2⟩ := xand h
  have h1 := xbeq h1
  have h2 := xbeq h2
  unfold xent
  rw [h1, h2]
  rfl
theorem xent1 {r : Nat} (h : Nat.beq (xSh (r + 1)).1 1 = true) (b base : Nat) (cI cJ cD : ClassId) (I : xI) (L : xL) (P : xR) : xent b base cI cJ cD (r + 1) I L P = .inl (cI, (xSh (r + 1)).2, .inl (I (r + 1))) := by
  unfold xent
  rw [xbeq h]
  rfl
theorem xent2 {r : Nat} (h : Nat.beq (xSh (r + 1)).1 2 = true) (b base : Nat) (cI cJ cD : ClassId) (I : xI) (L : xL) (P : xR) : xent b base cI cJ cD (r + 1) I L P = .inl (cJ, (xSh (r + 1)).2, .inr (.inl (L (r + 1)))) := by
  unfold xent
  rw [xbeq h]
  rfl
theorem xent3 {r : Nat} (h : Nat.beq (xSh (r + 1)).1 3 = true) (b base : Nat) (cI cJ cD : ClassId) (I : xI) (L : xL) (P : xR) : xent b base cI cJ cD (r + 1) I L P = .inl (cD, (xSh (r + 1)).2, .inr (.inr (.inr (.inr (fun j => xro b base (P (r + 1) j)))))) := by
  unfold xent
  rw [xbeq h]
  rfl
theorem xfs_at {b base a r j : Nat} (h : j < xNf a) (I : xI) (L : xL) (P : xR) : (xfs b base a r I L P)[j]? = some (xv b base (xfv a r j I L P)) := by
  simp [xfs, List.getElem?_map, List.getElem?_range h]
theorem xfs_len (b base a r : Nat) (I : xI) (L : xL) (P : xR) : (xfs b base a r I L P).length = xNf a := by simp [xfs]
theorem xfs_set {b base a r j : Nat} {v : Value} {I I' : xI} {L L' : xL} {P P' : xR} (hv : xv b base (xfv a r j I' L' P') = v) (ho : ∀ i, i ≠ j → i < xNf a → xfv a r i I' L' P' = xfv a r i I L P) : (xfs b base a r I L P).set j v = xfs b base a r I' L' P' := by
  apply List.ext_getElem?
  intro i
  by_cases hi : i < xNf a
  · rw [xfs_at hi]
    by_cases hij : i = j
    · subst hij
      rw [List.getElem?_set_self (by rw [xfs_len]; exact hi), hv]
    · rw [List.getElem?_set_ne (fun q => hij q.symm), xfs_at hi, ho i hij hi]
  · rw [List.getElem?_eq_none (by rw [List.length_set, xfs_len]; omega), List.getElem?_eq_none (by rw [xfs_len]; omega)]
theorem xup_s {α : Type} (I : Nat → Nat → α) (k j : Nat) (v : α) : xup I k j v k j = v := by simp [xup]
theorem xup_c {α : Type} (I : Nat → Nat → α) (k j : Nat) (v : α) {k' : Nat} (h : k' ≠ k) : xup I k j v k' = I k' := by simp [xup, h]
theorem xup_n {α : Type} (I : Nat → Nat → α) (k j : Nat) (v : α) {j' : Nat} (h : j' ≠ j) : xup I k j v k j' = I k j' := by simp [xup, h]
theorem xrw_s {α : Type} (I : Nat → Nat → α) (k : Nat) (f : Nat → α) : xrw I k f k = f := by simp [xrw]
theorem xrw_c {α : Type} (I : Nat → Nat → α) (k : Nat) (f : Nat → α) {k' : Nat} (h : k' ≠ k) : xrw I k f k' = I k' := by simp [xrw, h]
theorem xs_getfield (X : xCtx p l e s m args below meth c D cI cJ cD b base n0 scr M cs) {i a j c9 : Nat} (hj : j < xNf a) (hw : xGw (mY M).cls i a j c9) (hd : decode (mC M) pc = .ok (.getfield i, 3)) (hK : ∀ ls st k n I L P, K Q ls st k n I L P → xAt p l e s m args below meth c D cI cJ cD b base n0 scr M Z (pc + 3) ls st k n I L P)
    (h : xpR st fun r st => xT (xob r n a) (match xKd a j with
          | 0 => K Q ls (.int (I r j) :: st) k n I L P
          | 1 => K Q ls (.long (L r j) :: st) k n I L P
          | _ => (match P r j with
            | none => K Q ls (.null :: st) k n I L P
            | some q => K Q ls (.ref q :: st) k n I L P))) : xAt p l e s m args below meth c D cI cJ cD b base n0 scr M Z pc ls st k n I L P := by
  obtain ⟨r, st, e1, h⟩ := xpR_e h
  subst e1
  cases r with
  | zero => exact absurd h (fun q => q)
  | succ r =>
    obtain ⟨hc, h⟩ := xT_e h
    obtain ⟨hr, hc⟩ := xand hc
    have hr := xblt hr
    have h : K Q ls (xfv a (r + 1) j I L P :: st) k n I L P := by
      unfold xfv
      revert h
      generalize xKd a j = z
      intro h
      match z, h with
      | 0, h => exact h
      | 1, h => exact h
      | z + 2, h =>
        revert h
        show (match P (r + 1) j with
          | none => K Q ls (.null :: st) k n I L P
          | some q => K Q ls (.ref q :: st) k n I L P) → K Q ls (xrf (P (r + 1) j) :: st) k n I L P
        cases P (r + 1) j with
        | none => exact fun h => h
        | some q => exact fun h => h
    intro hn hk hI hl H locs lsA hP hS hL
    have hq := xcl_some hj
    obtain ⟨hu, hN, -, -⟩ := xcls hq
    have hat := xws_at (b := b) (base := base) (cI := cI) (cJ := cJ) (cD := cD) hr I L P
    rw [xent0 hc] at hat
    have go := hK _ _ _ _ _ _ _ h hn hk hI hl H locs lsA hP hS hL
    cases c9 with
    | zero => exact va_get X.1 X.2.1 X.2.2.2.2.1 hu X.2.2.2.1 X.2.2.2.2.2.1.1 hP r hat hq j (by rw [hN]; exact hj) (X.2.2.2.2.1 _ (show xFw (mY M).cls i a j 0 ∈ xG from hw)) (fun _ h9 => h9) (xfs_at hj I L P) hd go
    | succ c9 => exact va_getN X.1 X.2.1 X.2.2.2.2.1 hu X.2.2.2.1 X.2.2.2.2.2.1.1 hP r hat hq j (by rw [hN]; exact hj) (va_Nw.use (xNest_on _ (show xFw (mY M).cls i a j 1 ∈ xNest from hw)) (X.2.2.2.2.2.1.2.1 _ hw)) (fun _ h9 => h9) (xfs_at hj I L P) hd go
/-- a write into a field, once: the world behind it is that of the new maps -/
theorem xs_put (X : xCtx p l e s m args below meth c D cI cJ cD b base n0 scr M cs) {i a j r : Nat} {v : Value} {I' : xI} {L' : xL} {P' : xR} (hj : j < xNf a) (hw : xFw (mY M).cls i a j 0 ∈ xG ∧ (((vwCl.getD a (RX0, TX0, 0)).2.1 j).2.2.2 = true → (mY M).name = "<init>" ∧ ((vwCl.getD a (RX0, TX0, 0)).2.1 j).1 = (mY M).cls))
    (hd : decode (mC M) pc = .ok (.putfield i, 3)) (hK : ∀ ls st k n I L P, K Q ls st k n I L P → xAt p l e s m args below meth c D cI cJ cD b base n0 scr M Z (pc + 3) ls st k n I L P) (hr : r < n) (hc : (Nat.beq (xSh (r + 1)).1 0 && Nat.beq (xSh (r + 1)).2 a) = true) (hv : xv b base (xfv a (r + 1) j I' L' P') = xv b base v) (ho : ∀ q, q ≠ r + 1 → I' q = I q ∧ L' q = L q ∧ P' q = P q) (hf : ∀ i, i ≠ j → i < xNf a → xfv a (r + 1) i I' L' P' = xfv a (r + 1) i I L P)
    (hty : ∀ ty : FieldType, (match xKd a j with
      | 0 => ty = .int
      | 1 => ty = .long
      | _ => (∃ C, ty = .object C) ∨ ∃ t, ty = .array t) → narrow ty (xv b base v) = xv b base v ∧ fits ty (xv b base v) = true)
    (h : K Q ls st k n I' L' P') : xAt p l e s m args below meth c D cI cJ cD b base n0 scr M Z pc ls (v :: .ref (r + 1) :: st) k n I L P := by
  intro hn hk hI hl H locs lsA hP hS hL
  have hq := xcl_some hj
  obtain ⟨hu, hN, hnm, ty, hty1, hty2⟩ := xcls hq
  have hjN : j < (vwCl.getD a (RX0, TX0, 0)).2.2 := by rw [hN]; exact hj
  have hat := xws_at (b := b) (base := base) (cI := cI) (cJ := cJ) (cD := cD) hr I L P
  rw [xent0 hc] at hat
  obtain ⟨t1, t2⟩ := hty (ty j) (hty2 j hjN)
  have hset := xws_set (b := b) (base := base) (cI := cI) (cJ := cJ) (cD := cD) hr (I := I) (L := L) (P := P) (I' := I') (L' := L') (P' := P') (e := .inr (a, (xfs b base a (r + 1) I L P).set j (xv b base v))) (by rw [xent0 hc, xfs_set hv hf]) ho
  have hI' : I' 0 = scr := by rw [(ho 0 (by omega)).1]; exact hI
  by_cases hfin : ((vwCl.getD a (RX0, TX0, 0)).2.1 j).2.2.2 = true
  · obtain ⟨g1, g2⟩ := hw.2 hfin
    refine va_putF (A := xA base) (H0 := s.heap) X.1 X.2.1 X.2.2.2.2.1 hu ty hty1 hnm X.2.2.2.1 X.2.2.2.2.2.1.1 hP (xws_D b base cI cJ cD n I L P) hS r hat hq j hjN (X.2.2.2.2.1 _ hw.1) (fun _ h9 => h9) hfin (X.2.2.2.2.2.2.2.1 g1) g2 (hty1 j hjN) t1 t2 (by rw [xfs_len]; exact hj) hd (fun H1 locs1 hP1 hD1 hS1 => ?_)
    exact hK _ _ _ _ _ _ _ h hn hk hI' hl H1 locs1 lsA (hset ▸ hP1) hS1 hL
  · refine va_put (A := xA base) (H0 := s.heap) X.1 X.2.1 X.2.2.2.2.1 hu ty hty1 hnm X.2.2.2.1 X.2.2.2.2.2.1.1 hP (xws_D b base cI cJ cD n I L P) hS r hat hq j hjN (X.2.2.2.2.1 _ hw.1) (fun _ h9 => h9) (by simpa using hfin) (hty1 j hjN) t1 t2 (by rw [xfs_len]; exact hj) hd (fun H1 locs1 hP1 hD1 hS1 => ?_)
    exact hK _ _ _ _ _ _ _ h hn hk hI' hl H1 locs1 lsA (hset ▸ hP1) hS1 hL
theorem xs_putfield (X : xCtx p l e s m args below meth c D cI cJ cD b base n0 scr M cs) {i a j : Nat} (hj : j < xNf a) (hw : xFw (mY M).cls i a j 0 ∈ xG ∧ (((vwCl.getD a (RX0, TX0, 0)).2.1 j).2.2.2 = true → (mY M).name = "<init>" ∧ ((vwCl.getD a (RX0, TX0, 0)).2.1 j).1 = (mY M).cls))
    (hd : decode (mC M) pc = .ok (.putfield i, 3)) (hK : ∀ ls st k n I L P, K Q ls st k n I L P → xAt p l e s m args below meth c D cI cJ cD b base n0 scr M Z (pc + 3) ls st k n I L P) (h : match xKd a j with
        | 0 => xpI st fun x st => xpR st fun r st => xT (xob r n a) (K Q ls st k n (xup I r j x) L P)
        | 1 => xpL st fun x st => xpR st fun r st => xT (xob r n a) (K Q ls st k n I (xup L r j x) P)
        | _ => xpR st fun x st => xpR st fun r st => xT (xob r n a) (K Q ls st k n I L (xup P r j (some x)))) : xAt p l e s m args below meth c D cI cJ cD b base n0 scr M Z pc ls st k n I L P := by
  have hz : ∃ z, xKd a j = z := ⟨_, rfl⟩
  obtain ⟨z, hz⟩ := hz
  match z, hz with
  | 0, hz =>
    rw [hz] at h
    obtain ⟨x, r1, e1, h1⟩ := xpI_e h
    subst e1
    obtain ⟨r, r2, e2, h2⟩ := xpR_e h1
    subst e2
    cases r with
    | zero => exact absurd h2 (fun q => q)
    | succ r =>
      obtain ⟨hc, h2⟩ := xT_e h2
      obtain ⟨hr, hc⟩ := xand hc
      refine xs_put X hj hw hd hK (xblt hr) hc (v := .int x) (I' := xup I (r + 1) j x) (L' := L) (P' := P) ?_ (fun q hq => ⟨xup_c _ _ _ _ hq, rfl, rfl⟩) (fun q hq _ => ?_) (fun ty hty => ?_) h2
      · unfold xfv; rw [hz]; show Value.int _ = _; rw [xup_s]; rfl
      · unfold xfv; rw [xup_n _ _ _ _ hq]
      · rw [hz] at hty; subst hty; exact ⟨rfl, rfl⟩
  | 1, hz =>
    rw [hz] at h
    obtain ⟨x, r1, e1, h1⟩ := xpL_e h
    subst e1
    obtain ⟨r, r2, e2, h2⟩ := xpR_e h1
    subst e2
    cases r with
    | zero => exact absurd h2 (fun q => q)
    | succ r =>
      obtain ⟨hc, h2⟩ := xT_e h2
      obtain ⟨hr, hc⟩ := xand hc
      refine xs_put X hj hw hd hK (xblt hr) hc (v := .long x) (I' := I) (L' := xup L (r + 1) j x) (P' := P) ?_ (fun q hq => ⟨rfl, xup_c _ _ _ _ hq, rfl⟩) (fun q hq _ => ?_) (fun ty hty => ?_) h2
      · unfold xfv; rw [hz]; show Value.long _ = _; rw [xup_s]; rfl
      · unfold xfv; rw [xup_n _ _ _ _ hq]
      · rw [hz] at hty; subst hty; exact ⟨rfl, rfl⟩
  | z + 2, hz =>
    rw [hz] at h
    obtain ⟨x, r1, e1, h1⟩ := xpR_e h
    subst e1
    obtain ⟨r, r2, e2, h2⟩ := xpR_e h1
    subst e2
    cases r with
    | zero => exact absurd h2 (fun q => q)
    | succ r =>
      obtain ⟨hc, h2⟩ := xT_e h2
      obtain ⟨hr, hc⟩ := xand hc
      refine xs_put X hj hw hd hK (xblt hr) hc (v := .ref x) (I' := I) (L' := L) (P' := xup P (r + 1) j (some x)) ?_ (fun q hq => ⟨rfl, rfl, xup_c _ _ _ _ hq⟩) (fun q hq _ => ?_) (fun ty hty => ?_) h2
      · unfold xfv; rw [hz]; show xv b base (xrf _) = _; rw [xup_s]; rfl
      · unfold xfv; rw [xup_n _ _ _ _ hq]
      · rw [hz] at hty
        rcases hty with ⟨C, rfl⟩ | ⟨t, rfl⟩ <;> exact ⟨rfl, rfl⟩
theorem xs_alen (X : xCtx p l e s m args below meth c D cI cJ cD b base n0 scr M cs) (hd : decode (mC M) pc = .ok (.arraylength, 1)) (hK : ∀ ls st k n I L P, K Q ls st k n I L P → xAt p l e s m args below meth c D cI cJ cD b base n0 scr M Z (pc + 1) ls st k n I L P) (h : xpR st fun r st => (match r with
        | 0 => xT true (K Q ls (.int (I 0 0) :: st) k n I L P)
        | _ + 1 => xal r n fun z => K Q ls (.int (nI z) :: st) k n I L P)) : xAt p l e s m args below meth c D cI cJ cD b base n0 scr M Z pc ls st k n I L P := by
  obtain ⟨r, r1, e1, h2⟩ := xpR_e h
  subst e1
  cases r with
  | zero =>
    obtain ⟨hc, h3⟩ := xT_e h2
    intro hn hk hI hl H locs lsA hP hS hL
    obtain ⟨len, xs, g1, g2, g3, g4, g5, g6⟩ := X.2.2.2.2.2.2.2.2.2
    have go := hK _ _ _ _ _ _ _ h3 hn hk hI hl H locs lsA hP hS hL
    rw [hI, g4] at go
    exact va_slen X.1 X.2.1 g1 g2 (Nat.not_le.mpr g3) hS hd go
  | succ r =>
    obtain ⟨hr, hc, h3⟩ := xal_e h2
    intro hn hk hI hl H locs lsA hP hS hL
    have go := hK _ _ _ _ _ _ _ h3 hn hk hI hl H locs lsA hP hS hL
    have hat := xws_at (b := b) (base := base) (cI := cI) (cJ := cJ) (cD := cD) hr I L P
    have hKs := X.2.2.2.2.2.1.1
    unfold xent at hat
    revert hat
    generalize hz : (xSh (r + 1)).1 = z at hc ⊢
    intro hat
    match z, hc, hat with
    | 1, _, hat => exact va_alen X.1 X.2.1 hKs hP r 0 hat rfl rfl hd go
    | 2, _, hat => exact va_alen X.1 X.2.1 hKs hP r 1 hat rfl rfl hd go
    | z + 3, _, hat => exact va_alen X.1 X.2.1 hKs hP r 2 hat rfl rfl hd go
theorem xs_iald (X : xCtx p l e s m args below meth c D cI cJ cD b base n0 scr M cs) (hd : decode (mC M) pc = .ok (.iaload, 1)) (hK : ∀ ls st k n I L P, K Q ls st k n I L P → xAt p l e s m args below meth c D cI cJ cD b base n0 scr M Z (pc + 1) ls st k n I L P) (h : xpI st fun i st => xpR st fun r st => (match r with
        | 0 => xT true (vp_in i (I 0 0).toNatClampNeg ∧ K Q ls (.int (I 0 (i.toNatClampNeg + 1)) :: st) k n I L P)
        | _ + 1 => xar r n 1 fun z => vp_in i z ∧ K Q ls (.int (I r i.toNatClampNeg) :: st) k n I L P)) : xAt p l e s m args below meth c D cI cJ cD b base n0 scr M Z pc ls st k n I L P := by
  obtain ⟨i, r1, e1, h1⟩ := xpI_e h
  subst e1
  obtain ⟨r, r2, e2, h2⟩ := xpR_e h1
  subst e2
  cases r with
  | zero =>
    obtain ⟨hc, hi, h2⟩ := xT_e h2
    intro hn hk hI hl H locs lsA hP hS hL
    obtain ⟨len, xs, g1, g2, g3, g4, g5, g6⟩ := X.2.2.2.2.2.2.2.2.2
    have go := hK _ _ _ _ _ _ _ h2 hn hk hI hl H locs lsA hP hS hL
    rw [hI, g6] at go
    rw [hI, g4, nI_clamp (by omega)] at hi
    exact va_sld X.1 X.2.1 g1 g2 (Nat.not_le.mpr g3) hS hi hd go
  | succ r =>
    obtain ⟨hr, hc, hi, h2⟩ := xar_e h2
    intro hn hk hI hl H locs lsA hP hS hL
    have go := hK _ _ _ _ _ _ _ h2 hn hk hI hl H locs lsA hP hS hL
    have hat := xws_at (b := b) (base := base) (cI := cI) (cJ := cJ) (cD := cD) hr I L P
    rw [xent1 hc] at hat
    exact va_iald X.1 X.2.1 X.2.2.2.2.2.1.1 hP r 0 hat rfl hi hd go
theorem xs_lald (X : xCtx p l e s m args below meth c D cI cJ cD b base n0 scr M cs) (hd : decode (mC M) pc = .ok (.laload, 1)) (hK : ∀ ls st k n I L P, K Q ls st k n I L P → xAt p l e s m args below meth c D cI cJ cD b base n0 scr M Z (pc + 1) ls st k n I L P) (h : xpI st fun i st => xpR st fun r st => xar r n 2 fun z => vp_in i z ∧ K Q ls (.long (L r i.toNatClampNeg) :: st) k n I L P) : xAt p l e s m args below meth c D cI cJ cD b base n0 scr M Z pc ls st k n I L P := by
  obtain ⟨i, r1, e1, h1⟩ := xpI_e h
  subst e1
  obtain ⟨r, r2, e2, h2⟩ := xpR_e h1
  subst e2
  cases r with
  | zero => exact absurd h2 (fun q => q)
  | succ r =>
    obtain ⟨hr, hc, hi, h2⟩ := xar_e h2
    intro hn hk hI hl H locs lsA hP hS hL
    have go := hK _ _ _ _ _ _ _ h2 hn hk hI hl H locs lsA hP hS hL
    have hat := xws_at (b := b) (base := base) (cI := cI) (cJ := cJ) (cD := cD) hr I L P
    rw [xent2 hc] at hat
    exact va_lald X.1 X.2.1 X.2.2.2.2.2.1.1 hP r 1 hat rfl hi hd go
theorem xs_aald (X : xCtx p l e s m args below meth c D cI cJ cD b base n0 scr M cs) (hd : decode (mC M) pc = .ok (.aaload, 1)) (hK : ∀ ls st k n I L P, K Q ls st k n I L P → xAt p l e s m args below meth c D cI cJ cD b base n0 scr M Z (pc + 1) ls st k n I L P) (h : xpI st fun i st => xpR st fun r st => xar r n 3 fun z => vp_in i z ∧ (P r i.toNatClampNeg = none → K Q ls (.null :: st) k n I L P) ∧ ∀ q : Nat, P r i.toNatClampNeg = some q → K Q ls (.ref q :: st) k n I L P) : xAt p l e s m args below meth c D cI cJ cD b base n0 scr M Z pc ls st k n I L P := by
  obtain ⟨i, r1, e1, h1⟩ := xpI_e h
  subst e1
  obtain ⟨r, r2, e2, h2⟩ := xpR_e h1
  subst e2
  cases r with
  | zero => exact absurd h2 (fun q => q)
  | succ r =>
    obtain ⟨hr, hc, hi, h2, h3⟩ := xar_e h2
    intro hn hk hI hl H locs lsA hP hS hL
    have h4 : K Q ls (xrf (P (r + 1) i.toNatClampNeg) :: r2) k n I L P := by
      cases hq : P (r + 1) i.toNatClampNeg with
      | none => exact h2 hq
      | some q => exact h3 q hq
    have go := hK _ _ _ _ _ _ _ h4 hn hk hI hl H locs lsA hP hS hL
    have hat := xws_at (b := b) (base := base) (cI := cI) (cJ := cJ) (cD := cD) hr I L P
    rw [xent3 hc] at hat
    rw [List.map_cons, xrf_v] at go
    exact va_aldq X.1 X.2.1 X.2.2.2.2.2.1.1 hP r 2 hat rfl hi hd go
theorem xs_iast (X : xCtx p l e s m args below meth c D cI cJ cD b base n0 scr M cs) (hd : decode (mC M) pc = .ok (.iastore, 1)) (hK : ∀ ls st k n I L P, K Q ls st k n I L P → xAt p l e s m args below meth c D cI cJ cD b base n0 scr M Z (pc + 1) ls st k n I L P) (h : xpI st fun x st => xpI st fun i st => xpR st fun r st => xar r n 1 fun z => vp_in i z ∧ K Q ls st k n (xup I r i.toNatClampNeg x) L P) : xAt p l e s m args below meth c D cI cJ cD b base n0 scr M Z pc ls st k n I L P := by
  obtain ⟨x, r0, e0, h0⟩ := xpI_e h
  subst e0
  obtain ⟨i, r1, e1, h1⟩ := xpI_e h0
  subst e1
  obtain ⟨r, r2, e2, h2⟩ := xpR_e h1
  subst e2
  cases r with
  | zero => exact absurd h2 (fun q => q)
  | succ r =>
    obtain ⟨hr, hc, hi, h2⟩ := xar_e h2
    intro hn hk hI hl H locs lsA hP hS hL
    have hat := xws_at (b := b) (base := base) (cI := cI) (cJ := cJ) (cD := cD) hr I L P
    rw [xent1 hc] at hat
    have hset := xws_set (b := b) (base := base) (cI := cI) (cJ := cJ) (cD := cD) hr (I := I) (L := L) (P := P) (I' := xup I (r + 1) i.toNatClampNeg x) (L' := L) (P' := P) (e := .inl (cI, (xSh (r + 1)).2, .inl (upd (I (r + 1)) i.toNatClampNeg x))) (by rw [xent1 hc]; congr 4; funext j; by_cases hj : j = i.toNatClampNeg <;> simp [xup, upd, hj]) (fun q hq => ⟨xup_c _ _ _ _ hq, rfl, rfl⟩)
    refine va_iast (A := xA base) (H0 := s.heap) X.1 X.2.1 X.2.2.2.2.2.1.1 hP (xws_D b base cI cJ cD n I L P) hS r 0 hat rfl hi hd (fun H1 locs1 hP1 hD1 hS1 => ?_)
    exact hK _ _ _ _ _ _ _ h2 hn hk (by rw [xup_c _ _ _ _ (by omega)]; exact hI) hl H1 locs1 lsA (hset ▸ hP1) hS1 hL
theorem xs_last (X : xCtx p l e s m args below meth c D cI cJ cD b base n0 scr M cs) (hd : decode (mC M) pc = .ok (.lastore, 1)) (hK : ∀ ls st k n I L P, K Q ls st k n I L P → xAt p l e s m args below meth c D cI cJ cD b base n0 scr M Z (pc + 1) ls st k n I L P) (h : xpL st fun x st => xpI st fun i st => xpR st fun r st => xar r n 2 fun z => vp_in i z ∧ K Q ls st k n I (xup L r i.toNatClampNeg x) P) : xAt p l e s m args below meth c D cI cJ cD b base n0 scr M Z pc ls st k n I L P := by
  obtain ⟨x, r0, e0, h0⟩ := xpL_e h
  subst e0
  obtain ⟨i, r1, e1, h1⟩ := xpI_e h0
  subst e1
  obtain ⟨r, r2, e2, h2⟩ := xpR_e h1
  subst e2
  cases r with
  | zero => exact absurd h2 (fun q => q)
  | succ r =>
    obtain ⟨hr, hc, hi, h2⟩ := xar_e h2
    intro hn hk hI hl H locs lsA hP hS hL
    have hat := xws_at (b := b) (base := base) (cI := cI) (cJ := cJ) (cD := cD) hr I L P
    rw [xent2 hc] at hat
    have hset := xws_set (b := b) (base := base) (cI := cI) (cJ := cJ) (cD := cD) hr (I := I) (L := L) (P := P) (I' := I) (L' := xup L (r + 1) i.toNatClampNeg x) (P' := P) (e := .inl (cJ, (xSh (r + 1)).2, .inr (.inl (vp_updL (L (r + 1)) i.toNatClampNeg x)))) (by rw [xent2 hc]; congr 5; funext j; by_cases hj : j = i.toNatClampNeg <;> simp [xup, vp_updL, hj]) (fun q hq => ⟨rfl, xup_c _ _ _ _ hq, rfl⟩)
    refine va_last (A := xA base) (H0 := s.heap) X.1 X.2.1 X.2.2.2.2.2.1.1 hP (xws_D b base cI cJ cD n I L P) hS r 1 hat rfl hi hd (fun H1 locs1 hP1 hD1 hS1 => ?_)
    exact hK _ _ _ _ _ _ _ h2 hn hk hI hl H1 locs1 lsA (hset ▸ hP1) hS1 hL
theorem xs_aast (X : xCtx p l e s m args below meth c D cI cJ cD b base n0 scr M cs) (hd : decode (mC M) pc = .ok (.aastore, 1)) (hK : ∀ ls st k n I L P, K Q ls st k n I L P → xAt p l e s m args below meth c D cI cJ cD b base n0 scr M Z (pc + 1) ls st k n I L P) (h : xpR st fun x st => xpI st fun i st => xpR st fun r st => (match r, x with
        | r + 1, x + 1 => xT ((Nat.blt r n && Nat.beq (xSh (r + 1)).1 3) && (Nat.blt x n && (Nat.beq (xSh (x + 1)).1 0 && Nat.beq (xSh (x + 1)).2 1))) (vp_in i (xSh (r + 1)).2 ∧ K Q ls st k n I L (xup P (r + 1) i.toNatClampNeg (some (x + 1))))
        | _, _ => False)) : xAt p l e s m args below meth c D cI cJ cD b base n0 scr M Z pc ls st k n I L P := by
  obtain ⟨x, r0, e0, h0⟩ := xpR_e h
  subst e0
  obtain ⟨i, r1, e1, h1⟩ := xpI_e h0
  subst e1
  obtain ⟨r, r2, e2, h2⟩ := xpR_e h1
  subst e2
  cases r with
  | zero => exact absurd h2 (fun q => q)
  | succ r =>
    cases x with
    | zero => exact absurd h2 (fun q => q)
    | succ x =>
      obtain ⟨hc, hi, h2⟩ := xT_e h2
      obtain ⟨hc, hcx⟩ := xand hc
      obtain ⟨hr, hc⟩ := xand hc
      obtain ⟨hx, hcx⟩ := xand hcx
      intro hn hk hI hl H locs lsA hP hS hL
      have hat := xws_at (b := b) (base := base) (cI := cI) (cJ := cJ) (cD := cD) (xblt hr) I L P
      rw [xent3 hc] at hat
      have hatx := xws_at (b := b) (base := base) (cI := cI) (cJ := cJ) (cD := cD) (xblt hx) I L P
      rw [xent0 hcx] at hatx
      have hset := xws_set (b := b) (base := base) (cI := cI) (cJ := cJ) (cD := cD) (xblt hr) (I := I) (L := L) (P := P) (I' := I) (L' := L) (P' := xup P (r + 1) i.toNatClampNeg (some (x + 1))) (e := .inl (cD, (xSh (r + 1)).2, .inr (.inr (.inr (.inr (va_up (fun j => xro b base (P (r + 1) j)) i.toNatClampNeg (some (base + x)))))))) (by rw [xent3 hc]; congr 7; funext j; by_cases hj : j = i.toNatClampNeg <;> simp [xup, va_up, hj, xro, xad]) (fun q hq => ⟨rfl, rfl, xup_c _ _ _ _ hq⟩)
      refine va_astq (A := xA base) (H0 := s.heap) (r := (RX1, TX1, 4)) X.1 X.2.1 X.2.2.2.2.2.1.1 hP (xws_D b base cI cJ cD n I L P) hS r 2 x 1 hat rfl hatx rfl hi hd (fun H1 locs1 hP1 hD1 hS1 => ?_)
      exact hK _ _ _ _ _ _ _ h2 hn hk hI hl H1 locs1 lsA (hset ▸ hP1) hS1 hL
end CELLS
