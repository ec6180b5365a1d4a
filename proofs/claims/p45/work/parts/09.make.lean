/-! cells made; calls; ends -/
section MAKE
variable {p : Program} {l : Launch} {e : Env} {s : State} {m : MethodId} {args : Array Value} {below : List Frame} {meth : Method} {c : Code} {D : va_G} {cI cJ cD : ClassId} {b base n0 : Nat} {scr : Nat → Int32} {M : xM} {cs : xCs} {Q : xQ} {Z : State → Prop}
variable {pc : Nat} {K : xK} {J : Nat → xK} {ls : xV} {st : List Value} {k n : Nat} {I : xI} {L : xL} {P : xR}
theorem xS_le : ∀ {a d : Nat}, a ≤ d → xS a ≤ xS d := by
  intro a d h
  induction d with
  | zero => rw [Nat.le_zero.mp h]; exact Nat.le_refl _
  | succ d ih =>
    by_cases q : a ≤ d
    · exact Nat.le_trans (ih q) (by show _ ≤ xS d + _; omega)
    · rw [show a = d + 1 by omega]; exact Nat.le_refl _
/-- how large the heap is, where the walk stands -/
theorem xsz {H : Heap} {locs : List Loc} {cells slots : Nat} {R : Room} {g : JFrame} (h : H.size ≤ s.heap.size + cells → W p l e R s m args below meth c H locs cells slots Z g) : W p l e R s m args below meth c H locs cells slots Z g := fun T hT Y => h (hT ▸ Y.heapSize) T hT Y
/-- the address of a cell that has just been made -/
theorem xaddr {H1 : Heap} {n q : Nat} {E E' : va_E} (hP1 : va_P D vwCl (xws b base cI cJ cD n I L P ++ [(q, E)]) H1) (hD1 : va_D (xA base) (xws b base cI cJ cD n I L P ++ [(q, E)])) (hz : H1.size ≤ base + n + 1) : q = base + n := by
  have h1 := (hP1 n (q, E) (by rw [List.getElem?_append_right (by rw [xws_len]; exact Nat.le_refl _), xws_len, Nat.sub_self]; rfl)).lt
  have h2 : base ≤ q := hD1.2 n (q, E) (by rw [List.getElem?_append_right (by rw [xws_len]; exact Nat.le_refl _), xws_len, Nat.sub_self]; rfl)
  have h1 : q < H1.size := h1
  by_cases h3 : q < base + n
  · have hk : q - base < n := by omega
    have e1 : (xws b base cI cJ cD n I L P ++ [(q, E)])[q - base]? = some (base + (q - base), xent b base cI cJ cD (q - base + 1) I L P) := by
      rw [List.getElem?_append_left (by rw [xws_len]; exact hk), xws_at hk]
    have := hD1.1 (q - base) n _ (q, E) e1 (by rw [List.getElem?_append_right (by rw [xws_len]; exact Nat.le_refl _), xws_len, Nat.sub_self]; rfl) (by show base + (q - base) = q; omega)
    omega
  · omega
theorem xws_keep {n : Nat} {I' : xI} {L' : xL} {P' : xR} (ho : ∀ j, j ≤ n → I' j = I j ∧ L' j = L j ∧ P' j = P j) : xws b base cI cJ cD n I' L' P' = xws b base cI cJ cD n I L P := by
  apply List.ext_getElem?
  intro j
  by_cases hj : j < n
  · rw [xws_at hj, xws_at hj]
    obtain ⟨h1, h2, h3⟩ := ho (j + 1) (by omega)
    simp only [xent, xfs, xfv, h1, h2, h3]
  · rw [List.getElem?_eq_none (by rw [xws_len]; omega), List.getElem?_eq_none (by rw [xws_len]; omega)]
theorem xcl9 {a : Nat} (h : a < 8) : vwCl[a]? = some (vwCl.getD a (RX0, TX0, 0)) := by
  match a, h with
  | 0, _ => rfl
  | 1, _ => rfl
  | 2, _ => rfl
  | 3, _ => rfl
  | 4, _ => rfl
  | 5, _ => rfl
  | 6, _ => rfl
  | 7, _ => rfl
theorem xs_new (X : xCtx p l e s m args below meth c D cI cJ cD b base n0 scr M cs) {i a : Nat} (hw : Cond.classLink (mY M).cls i (vwCl.getD a (RX0, TX0, 0)).1 ∈ xG ∧ Cond.instantiable (vwCl.getD a (RX0, TX0, 0)).1 (vwCl.getD a (RX0, TX0, 0)).2.2 ∈ xG ∧ Cond.initialized (vwCl.getD a (RX0, TX0, 0)).1 ∈ xG ∧ a < 8) (hd : decode (mC M) pc = .ok (.new i, 3)) (hK : ∀ ls st k n I L P, K Q ls st k n I L P → xAt p l e s m args below meth c D cI cJ cD b base n0 scr M Z (pc + 3) ls st k n I L P)
    (h : xT (Nat.blt k (mN M) && (Nat.beq (xSh (n + 1)).1 0 && Nat.beq (xSh (n + 1)).2 a)) (K Q ls (.ref (n + 1) :: st) (k + 1) (n + 1) (xrw I (n + 1) fun _ => 0) (xrw L (n + 1) fun _ => 0) (xrw P (n + 1) fun _ => none))) : xAt p l e s m args below meth c D cI cJ cD b base n0 scr M Z pc ls st k n I L P := by
  obtain ⟨hc, h⟩ := xT_e h
  obtain ⟨hkm, hc⟩ := xand hc
  have hkm := xblt hkm
  intro hn hk hI hl H locs lsA hP hS hL
  refine xsz fun hz => ?_
  have hsz : s.heap.size = base + n0 := X.2.2.2.2.2.2.1
  have hq := xcl9 hw.2.2.2
  obtain ⟨hu, hN, hnm, ty, hty1, hty2⟩ := xcls hq
  have hsl : xS (n + 1) = xS n + (vwCl.getD a (RX0, TX0, 0)).2.2 := by
    show xS n + xSl (n + 1) = _
    unfold xSl
    rw [xbeq (xand hc).1, xbeq (xand hc).2, hN]
    rfl
  have hn0 : xS n0 ≤ xS n := xS_le (by omega)
  have hroom : xS (n + 1) ≤ xS (n0 + mN M) := xS_le (by omega)
  refine va_new (A := xA base) (H0 := s.heap) (ci := a) (fs := xfs b base a (n + 1) (xrw I (n + 1) fun _ => 0) (xrw L (n + 1) fun _ => 0) (xrw P (n + 1) fun _ => none)) X.1 X.2.1 X.2.2.2.2.1 hu ty hty1 X.2.2.2.1 (X.2.2.2.2.1 _ hw.1) (X.2.2.2.2.1 _ hw.2.1) (X.2.2.2.2.1 _ hw.2.2.1) X.2.2.2.2.2.1.1 hP (xws_D b base cI cJ cD n I L P) hS (fun q hq => by show base ≤ q; omega) hq (fun j hj => ?_) (by show k + 1 ≤ mN M; omega) (by show xS n - xS n0 + _ ≤ xS (n0 + mN M) - xS n0; omega) hd (fun q H1 hP1 hD1 hS1 => ?_)
  · have hjx : j < xNf a := by rw [← hN]; exact hj
    have hv := hty2 j hj
    unfold vp_V
    rw [List.getD_eq_getElem?_getD, xfs_at hjx]
    unfold xfv
    revert hv
    generalize xKd a j = z
    intro hv
    match z, hv with
    | 0, hv => rw [hv]; simp [xrw, xv, defaultValue]
    | 1, hv => rw [hv]; simp [xrw, xv, defaultValue]
    | z + 2, hv => rcases hv with ⟨C, hv⟩ | ⟨t, hv⟩ <;> (rw [hv]; simp [xrw, xv, xrf, defaultValue])
  · refine xsz fun hz1 => ?_
    have hqa := xaddr (E' := .inr (a, [])) hP1 hD1 (by omega)
    subst hqa
    have e1 : xws b base cI cJ cD n I L P ++ [(base + n, .inr (a, xfs b base a (n + 1) (xrw I (n + 1) fun _ => 0) (xrw L (n + 1) fun _ => 0) (xrw P (n + 1) fun _ => none)))] = xws b base cI cJ cD (n + 1) (xrw I (n + 1) fun _ => 0) (xrw L (n + 1) fun _ => 0) (xrw P (n + 1) fun _ => none) := by
      rw [xws_succ, xent0 hc, xws_keep (n := n) (fun j hj => ⟨xrw_c _ _ _ (by omega), xrw_c _ _ _ (by omega), xrw_c _ _ _ (by omega)⟩)]
    have go := hK _ _ _ _ _ _ _ h (by omega) (by omega) (by rw [xrw_c _ _ _ (by omega)]; exact hI) hl H1 locs lsA (e1 ▸ hP1) hS1 hL
    rw [show xS (n + 1) - xS n0 = xS n - xS n0 + (vwCl.getD a (RX0, TX0, 0)).2.2 by omega] at go
    exact go
theorem xs_newa (X : xCtx p l e s m args below meth c D cI cJ cD b base n0 scr M cs) {t : ArrayType} {c9 : Nat} (ht : xNt t c9 = true) (hw : xNw c9) (hd : decode (mC M) pc = .ok (.newarray t, 2)) (hK : ∀ ls st k n I L P, K Q ls st k n I L P → xAt p l e s m args below meth c D cI cJ cD b base n0 scr M Z (pc + 2) ls st k n I L P)
    (h : xpI st fun v st => xT (Nat.blt k (mN M) && (Nat.beq (xSh (n + 1)).1 c9 && Nat.blt (xSh (n + 1)).2 60000)) (v = nI (xSh (n + 1)).2 ∧ K Q ls (.ref (n + 1) :: st) (k + 1) (n + 1) (xrw I (n + 1) fun _ => 0) (xrw L (n + 1) fun _ => 0) P)) : xAt p l e s m args below meth c D cI cJ cD b base n0 scr M Z pc ls st k n I L P := by
  obtain ⟨v, r1, e1, h1⟩ := xpI_e h
  subst e1
  obtain ⟨hc, hv, h2⟩ := xT_e h1
  subst hv
  obtain ⟨hkm, hc⟩ := xand hc
  obtain ⟨hc, hb⟩ := xand hc
  have hkm := xblt hkm
  have hb := xblt hb
  intro hn hk hI hl H locs lsA hP hS hL
  refine xsz fun hz => ?_
  have hsz : s.heap.size = base + n0 := X.2.2.2.2.2.2.1
  have hKs := X.2.2.2.2.2.1.1
  have hn0 : xS n0 ≤ xS n := xS_le (by omega)
  have hroom : xS (n + 1) ≤ xS (n0 + mN M) := xS_le (by omega)
  have hz0 : ¬ (nI (xSh (n + 1)).2) < 0 := nI_pos (by omega)
  have hz1 : (nI (xSh (n + 1)).2).toNatClampNeg = (xSh (n + 1)).2 := nI_clamp (by omega)
  have e2 := xws_succ b base cI cJ cD n (xrw I (n + 1) fun _ => 0) (xrw L (n + 1) fun _ => 0) P
  rw [xws_keep (n := n) (I := I) (L := L) (P := P) (fun j hj => ⟨xrw_c _ _ _ (by omega), xrw_c _ _ _ (by omega), rfl⟩)] at e2
  match t, c9, ht with
  | .int, 1, _ =>
    have hsl : xS (n + 1) = xS n + (xSh (n + 1)).2 := by
      show xS n + xSl (n + 1) = _
      unfold xSl
      rw [xbeq hc]
      rfl
    rw [xent1 hc, xrw_s] at e2
    refine va_newa (A := xA base) (H0 := s.heap) (atype := .int) (ty := .int) (a0 := ((xSh (n + 1)).2, .inl (fun _ => 0))) X.1 X.2.1 (X.2.2.2.2.1 _ (show Cond.arrayClass .int ∈ xG from hw)) rfl hKs hP (xws_D b base cI cJ cD n I L P) hS (fun q hq => by show base ≤ q; omega) (fun cA => rfl) hz0 hz1 (by show _ * 4 ≤ _; omega) (by show k + 1 ≤ mN M; omega) (by show xS n - xS n0 + _ ≤ xS (n0 + mN M) - xS n0; omega) hd (fun q cA H1 hK1 hP1 hD1 hS1 => ?_)
    refine xsz fun hz2 => ?_
    have hqa := xaddr (E' := .inr (0, [])) hP1 hD1 (by omega)
    subst hqa
    have hA : cA = cI := by
      have q1 : s.vm.findClass ("[" ++ FieldType.int.toString) = some cA := (hK1.2 3 (cA, .int) rfl).2
      have q2 : s.vm.findClass ("[" ++ FieldType.int.toString) = some cI := (hKs.2 0 (cI, .int) rfl).2
      exact Option.some.inj (q1.symm.trans q2)
    subst hA
    have go := hK _ _ _ _ _ _ _ h2 (by omega) (by omega) (by rw [xrw_c _ _ _ (by omega)]; exact hI) hl H1 locs lsA (e2 ▸ hP1) hS1 hL
    rw [show xS (n + 1) - xS n0 = xS n - xS n0 + (xSh (n + 1)).2 by omega] at go
    exact go
  | .long, 2, _ =>
    have hsl : xS (n + 1) = xS n + (xSh (n + 1)).2 := by
      show xS n + xSl (n + 1) = _
      unfold xSl
      rw [xbeq hc]
      rfl
    rw [xent2 hc, xrw_s] at e2
    refine va_newa (A := xA base) (H0 := s.heap) (atype := .long) (ty := .long) (a0 := ((xSh (n + 1)).2, .inr (.inl (fun _ => 0)))) X.1 X.2.1 (X.2.2.2.2.1 _ (show Cond.arrayClass .long ∈ xG from hw)) rfl hKs hP (xws_D b base cI cJ cD n I L P) hS (fun q hq => by show base ≤ q; omega) (fun cA => rfl) hz0 hz1 (by show _ * 8 ≤ _; omega) (by show k + 1 ≤ mN M; omega) (by show xS n - xS n0 + _ ≤ xS (n0 + mN M) - xS n0; omega) hd (fun q cA H1 hK1 hP1 hD1 hS1 => ?_)
    refine xsz fun hz2 => ?_
    have hqa := xaddr (E' := .inr (0, [])) hP1 hD1 (by omega)
    subst hqa
    have hA : cA = cJ := by
      have q1 : s.vm.findClass ("[" ++ FieldType.long.toString) = some cA := (hK1.2 3 (cA, .long) rfl).2
      have q2 : s.vm.findClass ("[" ++ FieldType.long.toString) = some cJ := (hKs.2 1 (cJ, .long) rfl).2
      exact Option.some.inj (q1.symm.trans q2)
    subst hA
    have go := hK _ _ _ _ _ _ _ h2 (by omega) (by omega) (by rw [xrw_c _ _ _ (by omega)]; exact hI) hl H1 locs lsA (e2 ▸ hP1) hS1 hL
    rw [show xS (n + 1) - xS n0 = xS n - xS n0 + (xSh (n + 1)).2 by omega] at go
    exact go
theorem xs_newq (X : xCtx p l e s m args below meth c D cI cJ cD b base n0 scr M cs) {i : Nat} (hw : Cond.classLink (mY M).cls i "SmellBurdens$Deeds" ∈ xG) (hd : decode (mC M) pc = .ok (.anewarray i, 3)) (hK : ∀ ls st k n I L P, K Q ls st k n I L P → xAt p l e s m args below meth c D cI cJ cD b base n0 scr M Z (pc + 3) ls st k n I L P)
    (h : xpI st fun v st => xT (Nat.blt k (mN M) && (Nat.beq (xSh (n + 1)).1 3 && Nat.blt (xSh (n + 1)).2 60000)) (v = nI (xSh (n + 1)).2 ∧ K Q ls (.ref (n + 1) :: st) (k + 1) (n + 1) I L (xrw P (n + 1) fun _ => none))) : xAt p l e s m args below meth c D cI cJ cD b base n0 scr M Z pc ls st k n I L P := by
  obtain ⟨v, r1, e1, h1⟩ := xpI_e h
  subst e1
  obtain ⟨hc, hv, h2⟩ := xT_e h1
  subst hv
  obtain ⟨hkm, hc⟩ := xand hc
  obtain ⟨hc, hb⟩ := xand hc
  have hkm := xblt hkm
  have hb := xblt hb
  intro hn hk hI hl H locs lsA hP hS hL
  refine xsz fun hz => ?_
  have hsz : s.heap.size = base + n0 := X.2.2.2.2.2.2.1
  have hKs := X.2.2.2.2.2.1.1
  have hn0 : xS n0 ≤ xS n := xS_le (by omega)
  have hroom : xS (n + 1) ≤ xS (n0 + mN M) := xS_le (by omega)
  have hz0 : ¬ (nI (xSh (n + 1)).2) < 0 := nI_pos (by omega)
  have hz1 : (nI (xSh (n + 1)).2).toNatClampNeg = (xSh (n + 1)).2 := nI_clamp (by omega)
  have e2 := xws_succ b base cI cJ cD n I L (xrw P (n + 1) fun _ => none)
  rw [xws_keep (n := n) (I := I) (L := L) (P := P) (fun j hj => ⟨rfl, rfl, xrw_c _ _ _ (by omega)⟩)] at e2
  have hsl : xS (n + 1) = xS n + (xSh (n + 1)).2 := by
    show xS n + xSl (n + 1) = _
    unfold xSl
    rw [xbeq hc]
    rfl
  rw [xent3 hc, xrw_s] at e2
  refine va_newq (A := xA base) (H0 := s.heap) X.1 X.2.1 X.2.2.2.1 (X.2.2.2.2.1 _ hw) X.2.2.2.2.2.1.2.2 hKs hP (xws_D b base cI cJ cD n I L P) hS (fun q hq => by show base ≤ q; omega) hz0 hz1 (by omega) (by show k + 1 ≤ mN M; omega) (by show xS n - xS n0 + _ ≤ xS (n0 + mN M) - xS n0; omega) hd (fun q cA H1 hK1 hP1 hD1 hS1 => ?_)
  refine xsz fun hz2 => ?_
  have hqa := xaddr (E' := .inr (0, [])) hP1 hD1 (by omega)
  subst hqa
  have hA : cA = cD := by
    obtain ⟨kA, comp, -, -, -, q1⟩ := (hK1.2 3 (cA, .object "SmellBurdens$Deeds") rfl).2
    obtain ⟨kA2, comp2, -, -, -, q2⟩ := (hKs.2 2 (cD, .object "SmellBurdens$Deeds") rfl).2
    exact Option.some.inj (q1.symm.trans q2)
  subst hA
  have go := hK _ _ _ _ _ _ _ h2 (by omega) (by omega) hI hl H1 locs lsA (e2 ▸ hP1) hS1 hL
  rw [show xS (n + 1) - xS n0 = xS n - xS n0 + (xSh (n + 1)).2 by omega] at go
  exact go
end MAKE
