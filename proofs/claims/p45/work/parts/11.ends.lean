/-! the JDK's own, switches, ends; a whole walk is sound; contracts -/
section ENDS
variable {p : Program} {l : Launch} {e : Env} {s : State} {m : MethodId} {args : Array Value} {below : List Frame} {meth : Method} {c : Code} {D : va_G} {cI cJ cD : ClassId} {b base n0 : Nat} {scr : Nat → Int32} {M : xM} {cs : xCs} {Q : xQ} {Z : State → Prop}
variable {pc : Nat} {K : xK} {J : Nat → xK} {ls : xV} {st : List Value} {k n : Nat} {I : xI} {L : xL} {P : xR}
theorem xcats {st : List Value} (h : xle 8 st = true) : ((st.map (xv b base)).map fun v => v.category).sum ≤ 8 := xle_e h
theorem xs_init (X : xCtx p l e s m args below meth c D cI cJ cD b base n0 scr M cs) {i : Nat} (hf : Nat.ble 1 (mF M) = true ∧ Nat.ble 20 (mW M) = true) (hw : Cond.methodLink (mY M).cls i Lib.objectInit ∈ xG ∧ Cond.instanceMethod Lib.objectInit ∈ xG ∧ Cond.code Lib.objectInit ⟨#[0xb1]⟩ 1 none ∈ xG) (hd : decode (mC M) pc = .ok (.invokespecial i, 3)) (hK : ∀ ls st k n I L P, K Q ls st k n I L P → xAt p l e s m args below meth c D cI cJ cD b base n0 scr M Z (pc + 3) ls st k n I L P)
    (h : xpR st fun _ st => xT (xle 8 st) (K Q ls st k n I L P)) : xAt p l e s m args below meth c D cI cJ cD b base n0 scr M Z pc ls st k n I L P := by
  obtain ⟨r, st', rfl, h2⟩ := xpR_e h
  obtain ⟨hle, h3⟩ := xT_e h2
  intro hn hk hI hl H locs lsA hP hS hL
  have go := hK _ _ _ _ _ _ _ h3 hn hk hI hl H locs lsA hP hS hL
  have h20 : 20 ≤ (mRoom M n0).locals := Nat.le_of_ble_eq_true hf.2
  have h8 := lv_room (m := m) (pc := pc) (ls := lsA) (rest := []) (st := st'.map (xv b base)) (xcats hle)
  exact W.objInit X.1 X.2.1 X.2.2.2.1 (X.2.2.2.2.1 _ hw.1) (X.2.2.2.2.1 _ hw.2.1) (X.2.2.2.2.1 _ hw.2.2) rfl (by rw [X.2.2.1]; exact hL.1.trans hl) rfl hd (Nat.le_of_ble_eq_true hf.1) (by have := xcats (b := b) (base := base) hle; show 2 * 0 + _ + 12 ≤ _; omega) go
theorem xs_max (X : xCtx p l e s m args below meth c D cI cJ cD b base n0 scr M cs) {i : Nat} (hf : Nat.ble 1 (mF M) = true ∧ Nat.ble 21 (mW M) = true) (hw : Cond.methodLink (mY M).cls i Lib.Math.max.name ∈ xG ∧ Cond.static Lib.Math.max.name ∈ xG ∧ Cond.initialized "java/lang/Math" ∈ xG ∧ Cond.code Lib.Math.max.name Lib.Math.max.code 2 (some .int) ∈ xG) (hd : decode (mC M) pc = .ok (.invokestatic i, 3)) (hK : ∀ ls st k n I L P, K Q ls st k n I L P → xAt p l e s m args below meth c D cI cJ cD b base n0 scr M Z (pc + 3) ls st k n I L P)
    (h : xpI st fun y st => xpI st fun x st => xT (xle 8 st) (K Q ls (.int (if x < y then y else x) :: st) k n I L P)) : xAt p l e s m args below meth c D cI cJ cD b base n0 scr M Z pc ls st k n I L P := by
  obtain ⟨y, st1, rfl, h1⟩ := xpI_e h
  obtain ⟨x, st2, e2, h2⟩ := xpI_e h1
  subst e2
  obtain ⟨hle, h3⟩ := xT_e h2
  intro hn hk hI hl H locs lsA hP hS hL
  have go := hK _ _ _ _ _ _ _ h3 hn hk hI hl H locs lsA hP hS hL
  have h21 : 21 ≤ (mRoom M n0).locals := Nat.le_of_ble_eq_true hf.2
  have hs : xS n - xS n0 ≤ (mRoom M n0).slots := by
    show _ ≤ xS (n0 + mN M) - xS n0
    have h2 : xS n ≤ xS (n0 + mN M) := xS_le (by omega)
    omega
  exact va_mmax X.1 X.2.1 (X.2.2.1.trans (hL.1.trans hl).symm) X.2.2.2.1 (X.2.2.2.2.1 _ hw.1) (X.2.2.2.2.1 _ hw.2.1) (X.2.2.2.2.1 _ hw.2.2.1) (X.2.2.2.2.1 _ hw.2.2.2) (Nat.le_of_ble_eq_true hf.1) (by have := xcats (b := b) (base := base) hle; omega) hk hs hd go
theorem xs_min (X : xCtx p l e s m args below meth c D cI cJ cD b base n0 scr M cs) {i : Nat} (hf : Nat.ble 1 (mF M) = true ∧ Nat.ble 21 (mW M) = true) (hw : Cond.methodLink (mY M).cls i Lib.Math.min.name ∈ xG ∧ Cond.static Lib.Math.min.name ∈ xG ∧ Cond.initialized "java/lang/Math" ∈ xG ∧ Cond.code Lib.Math.min.name Lib.Math.min.code 2 (some .int) ∈ xG) (hd : decode (mC M) pc = .ok (.invokestatic i, 3)) (hK : ∀ ls st k n I L P, K Q ls st k n I L P → xAt p l e s m args below meth c D cI cJ cD b base n0 scr M Z (pc + 3) ls st k n I L P)
    (h : xpI st fun y st => xpI st fun x st => xT (xle 8 st) (K Q ls (.int (if y < x then y else x) :: st) k n I L P)) : xAt p l e s m args below meth c D cI cJ cD b base n0 scr M Z pc ls st k n I L P := by
  obtain ⟨y, st1, rfl, h1⟩ := xpI_e h
  obtain ⟨x, st2, e2, h2⟩ := xpI_e h1
  subst e2
  obtain ⟨hle, h3⟩ := xT_e h2
  intro hn hk hI hl H locs lsA hP hS hL
  have go := hK _ _ _ _ _ _ _ h3 hn hk hI hl H locs lsA hP hS hL
  have h21 : 21 ≤ (mRoom M n0).locals := Nat.le_of_ble_eq_true hf.2
  have hs : xS n - xS n0 ≤ (mRoom M n0).slots := by
    show _ ≤ xS (n0 + mN M) - xS n0
    have h2 : xS n ≤ xS (n0 + mN M) := xS_le (by omega)
    omega
  exact va_mmin X.1 X.2.1 (X.2.2.1.trans (hL.1.trans hl).symm) X.2.2.2.1 (X.2.2.2.2.1 _ hw.1) (X.2.2.2.2.1 _ hw.2.1) (X.2.2.2.2.1 _ hw.2.2.1) (X.2.2.2.2.1 _ hw.2.2.2) (Nat.le_of_ble_eq_true hf.1) (by have := xcats (b := b) (base := base) hle; omega) hk hs hd go
theorem xs_copy (X : xCtx p l e s m args below meth c D cI cJ cD b base n0 scr M cs) {i : Nat} (hf : Nat.ble 1 (mF M) = true ∧ Nat.ble (8 + (nativeFrameWords "java/lang/System" "arraycopy" 5 + 11)) (mW M) = true) (hw : Cond.methodLink (mY M).cls i arraycopyName ∈ xG ∧ Cond.native arraycopyName ∈ xG ∧ Cond.static arraycopyName ∈ xG ∧ Cond.initialized "java/lang/System" ∈ xG) (hd : decode (mC M) pc = .ok (.invokestatic i, 3)) (hK : ∀ ls st k n I L P, K Q ls st k n I L P → xAt p l e s m args below meth c D cI cJ cD b base n0 scr M Z (pc + 3) ls st k n I L P)
    (h : xpI st fun mm st => xpI st fun dp st => xpR st fun r1 st => xpI st fun sp st => xpR st fun r0 st => xT (xle 8 st) (match r1, r0 with
          | r1 + 1, r0 + 1 => xT (Nat.blt r1 n && Nat.blt r0 n) (¬ sp < 0 ∧ ¬ dp < 0 ∧ ¬ mm < 0 ∧ sp.toNatClampNeg + mm.toNatClampNeg ≤ (xSh (r0 + 1)).2 ∧ dp.toNatClampNeg + mm.toNatClampNeg ≤ (xSh (r1 + 1)).2 ∧
              (match (xSh (r0 + 1)).1, (xSh (r1 + 1)).1 with
              | 1, 1 => K Q ls st k n (xrw I (r1 + 1) (va_cpy (I (r0 + 1)) (I (r1 + 1)) sp.toNatClampNeg dp.toNatClampNeg mm.toNatClampNeg)) L P
              | 2, 2 => K Q ls st k n I (xrw L (r1 + 1) (va_cpy (L (r0 + 1)) (L (r1 + 1)) sp.toNatClampNeg dp.toNatClampNeg mm.toNatClampNeg)) P
              | _, _ => False))
          | _, _ => False)) : xAt p l e s m args below meth c D cI cJ cD b base n0 scr M Z pc ls st k n I L P := by
  obtain ⟨mm, st1, rfl, h1⟩ := xpI_e h
  obtain ⟨dp, st2, e2, h2⟩ := xpI_e h1
  subst e2
  obtain ⟨r1, st3, e3, h3⟩ := xpR_e h2
  subst e3
  obtain ⟨sp, st4, e4, h4⟩ := xpI_e h3
  subst e4
  obtain ⟨r0, st5, e5, h5⟩ := xpR_e h4
  subst e5
  obtain ⟨hle, h6⟩ := xT_e h5
  match r1, r0, h6 with
  | 0, 0, h6 => exact absurd h6 (fun q => q)
  | 0, r0 + 1, h6 => exact absurd h6 (fun q => q)
  | r1 + 1, 0, h6 => exact absurd h6 (fun q => q)
  | r1 + 1, r0 + 1, h6 =>
    obtain ⟨hrr, g1, g2, g3, g4, g5, g6⟩ := xT_e h6
    obtain ⟨hr1, hr0⟩ := xand hrr
    have hr1 := xblt hr1
    have hr0 := xblt hr0
    intro hn hk hI hl H locs lsA hP hS hL
    have hfr : 1 ≤ (mRoom M n0).frames := Nat.le_of_ble_eq_true hf.1
    have hlo : ((st5.map (xv b base)).map fun v => v.category).sum + (nativeFrameWords "java/lang/System" "arraycopy" 5 + 11) ≤ (mRoom M n0).locals := by
      have h1 : 8 + (nativeFrameWords "java/lang/System" "arraycopy" 5 + 11) ≤ (mRoom M n0).locals := Nat.le_of_ble_eq_true hf.2
      have := xcats (b := b) (base := base) hle
      omega
    revert g6
    generalize e0 : (xSh (r0 + 1)).1 = z0
    generalize e1 : (xSh (r1 + 1)).1 = z1
    intro g6
    split at g6
    · 
      have hc0 : Nat.beq (xSh (r0 + 1)).1 1 = true := by rw [e0]; rfl
      have hc1 : Nat.beq (xSh (r1 + 1)).1 1 = true := by rw [e1]; rfl
      have hat0 := xws_at (b := b) (base := base) (cI := cI) (cJ := cJ) (cD := cD) hr0 I L P
      have hat1 := xws_at (b := b) (base := base) (cI := cI) (cJ := cJ) (cD := cD) hr1 I L P
      rw [xent1 hc0] at hat0
      rw [xent1 hc1] at hat1
      have hset := xws_set (b := b) (base := base) (cI := cI) (cJ := cJ) (cD := cD) hr1 (I := I) (L := L) (P := P) (I' := xrw I (r1 + 1) (va_cpy (I (r0 + 1)) (I (r1 + 1)) sp.toNatClampNeg dp.toNatClampNeg mm.toNatClampNeg)) (L' := L) (P' := P) (e := .inl (cI, (xSh (r1 + 1)).2, .inl (va_cpy (I (r0 + 1)) (I (r1 + 1)) sp.toNatClampNeg dp.toNatClampNeg mm.toNatClampNeg))) (by rw [xent1 hc1, xrw_s]) (fun q hq => ⟨xrw_c _ _ _ hq, rfl, rfl⟩)
      refine va_copyi (R := mRoom M n0) (A := xA base) (H0 := s.heap) (ty := .int) X.1 X.2.1 (X.2.2.1.trans (hL.1.trans hl).symm) X.2.2.2.1 (X.2.2.2.2.1 _ hw.1) (X.2.2.2.2.1 _ hw.2.1) (X.2.2.2.2.1 _ hw.2.2.1) (X.2.2.2.2.1 _ hw.2.2.2) X.2.2.2.2.2.1.1 hP (xws_D b base cI cJ cD n I L P) hS r0 r1 0 0 hat0 hat1 rfl rfl rfl g1 g2 g3 g4 g5 (fun _ _ => rfl) hfr hlo hd (fun H1 locs1 hP1 hD1 hS1 => ?_)
      exact hK _ _ _ _ _ _ _ g6 hn hk (by rw [xrw_c _ _ _ (by omega)]; exact hI) hl H1 locs1 lsA (hset ▸ hP1) hS1 hL
    · 
      have hc0 : Nat.beq (xSh (r0 + 1)).1 2 = true := by rw [e0]; rfl
      have hc1 : Nat.beq (xSh (r1 + 1)).1 2 = true := by rw [e1]; rfl
      have hat0 := xws_at (b := b) (base := base) (cI := cI) (cJ := cJ) (cD := cD) hr0 I L P
      have hat1 := xws_at (b := b) (base := base) (cI := cI) (cJ := cJ) (cD := cD) hr1 I L P
      rw [xent2 hc0] at hat0
      rw [xent2 hc1] at hat1
      have hset := xws_set (b := b) (base := base) (cI := cI) (cJ := cJ) (cD := cD) hr1 (I := I) (L := L) (P := P) (I' := I) (L' := xrw L (r1 + 1) (va_cpy (L (r0 + 1)) (L (r1 + 1)) sp.toNatClampNeg dp.toNatClampNeg mm.toNatClampNeg)) (P' := P) (e := .inl (cJ, (xSh (r1 + 1)).2, .inr (.inl (va_cpy (L (r0 + 1)) (L (r1 + 1)) sp.toNatClampNeg dp.toNatClampNeg mm.toNatClampNeg)))) (by rw [xent2 hc1, xrw_s]) (fun q hq => ⟨rfl, xrw_c _ _ _ hq, rfl⟩)
      refine va_copyl (R := mRoom M n0) (A := xA base) (H0 := s.heap) (ty := .long) X.1 X.2.1 (X.2.2.1.trans (hL.1.trans hl).symm) X.2.2.2.1 (X.2.2.2.2.1 _ hw.1) (X.2.2.2.2.1 _ hw.2.1) (X.2.2.2.2.1 _ hw.2.2.1) (X.2.2.2.2.1 _ hw.2.2.2) X.2.2.2.2.2.1.1 hP (xws_D b base cI cJ cD n I L P) hS r0 r1 1 1 hat0 hat1 rfl rfl rfl g1 g2 g3 g4 g5 (fun _ _ => rfl) hfr hlo hd (fun H1 locs1 hP1 hD1 hS1 => ?_)
      exact hK _ _ _ _ _ _ _ g6 hn hk hI hl H1 locs1 lsA (hset ▸ hP1) hS1 hL
    · exact absurd g6 (fun q => q)
theorem xsw_e {tb : List (Nat × Nat)} {x : Int32} {d : Nat} {J : Nat → Prop} (h : xsw x tb J d) : (∃ q ∈ tb, x = nI q.1 ∧ J q.2) ∨ ((∀ q ∈ tb, ¬ x = nI q.1) ∧ J d) := by
  induction tb with
  | nil => exact Or.inr ⟨fun q hq => absurd hq List.not_mem_nil, h⟩
  | cons q r ih =>
    have h : xbr (x = nI q.1) (J q.2) (xsw x r J d) := h
    by_cases hx : x = nI q.1
    · exact Or.inl ⟨q, List.mem_cons_self, hx, h.1 hx⟩
    · rcases ih (h.2 hx) with ⟨q', h1, h2⟩ | ⟨h1, h2⟩
      · exact Or.inl ⟨q', List.mem_cons_of_mem _ h1, h2⟩
      · refine Or.inr ⟨fun q' hq' => ?_, h2⟩
        rcases List.mem_cons.mp hq' with rfl | hq'
        · exact hx
        · exact h1 q' hq'
theorem xs_table (X : xCtx p l e s m args below meth c D cI cJ cD b base n0 scr M cs) {d lo hi : Int} {offs : Array Int} {len a : Nat} {tb : List (Nat × Nat)} (hc : (decide ((pc : Int) + d = (a : Int)) && (decide (hi = lo + (tb.length : Int) - 1) && (decide (0 ≤ lo) && decide (hi < 1000))) && (List.range tb.length).all fun j => (match tb[j]?, offs[j]? with
        | some q, some o => decide ((q.1 : Int) = lo + (j : Int)) && decide ((pc : Int) + o = (q.2 : Int))
        | _, _ => false)) = true) (hd : decode (mC M) pc = .ok (.tableswitch d lo hi offs, len)) (hJ : ∀ t ls st k n I L P, J t Q ls st k n I L P → xAt p l e s m args below meth c D cI cJ cD b base n0 scr M Z t ls st k n I L P)
    (h : xpI st fun x st => xsw x tb (fun t => J t Q ls st k n I L P) a) : xAt p l e s m args below meth c D cI cJ cD b base n0 scr M Z pc ls st k n I L P := by
  obtain ⟨x, st1, rfl, h1⟩ := xpI_e h
  obtain ⟨hc1, hc2⟩ := xand hc
  obtain ⟨ha, hc1⟩ := xand hc1
  obtain ⟨hhi, hc1⟩ := xand hc1
  obtain ⟨hlo, hhi2⟩ := xand hc1
  have ha := of_decide_eq_true ha
  have hhi := of_decide_eq_true hhi
  have hlo := of_decide_eq_true hlo
  have hhi2 := of_decide_eq_true hhi2
  have key : ∀ j, j < tb.length → ∃ q o, tb[j]? = some q ∧ offs[j]? = some o ∧ (q.1 : Int) = lo + (j : Int) ∧ (pc : Int) + o = (q.2 : Int) := fun j hj => by
    have h2 := List.all_eq_true.mp hc2 j (List.mem_range.mpr hj)
    split at h2
    · rename_i q o e1 e2
      obtain ⟨g1, g2⟩ := xand h2
      exact ⟨q, o, e1, e2, of_decide_eq_true g1, of_decide_eq_true g2⟩
    · cases h2
  intro hn hk hI hl H locs lsA hP hS hL
  rcases xsw_e h1 with ⟨q, hq, hx, h2⟩ | ⟨h3, h2⟩
  · obtain ⟨j, hjq⟩ := List.getElem?_of_mem hq
    have hj : j < tb.length := (List.getElem?_eq_some_iff.mp hjq).1
    obtain ⟨q', o, e1, e2, g1, g2⟩ := key j hj
    have hqq : q' = q := Option.some.inj (e1.symm.trans hjq)
    subst hqq
    have hxi : x.toInt = (q'.1 : Int) := by rw [hx]; exact nI_toInt (by omega)
    exact lv_tableIn X.1 X.2.1 hd (by omega) (by omega) (by rw [show (x.toInt - lo).toNat = j by omega]; exact e2) g2 (hJ _ _ _ _ _ _ _ _ h2 hn hk hI hl H locs lsA hP hS hL)
  · refine lv_tableOut X.1 X.2.1 hd ?_ ha (hJ _ _ _ _ _ _ _ _ h2 hn hk hI hl H locs lsA hP hS hL)
    by_cases g : x.toInt < lo
    · exact Or.inl g
    · right
      apply Classical.byContradiction
      intro g2
      have hj : (x.toInt - lo).toNat < tb.length := by omega
      obtain ⟨q, o, e1, -, g3, -⟩ := key _ hj
      refine h3 q (List.mem_of_getElem? e1) (Int32.toInt_inj.mp ?_)
      rw [nI_toInt (by omega)]
      omega
theorem xlo {pc : Nat} {d : Int} {a : Nat} (ha : (pc : Int) + d = (a : Int)) : ∀ {tb : List (Nat × Nat)} {x : Int32} {J : Nat → Prop}, (tb.all fun q => Nat.blt q.1 1000) = true → xsw x tb J a → ∃ t : Nat, (pc : Int) + Op.lookupswitch.offset (tb.map fun q => ((q.1 : Int), (q.2 : Int) - (pc : Int))) d x.toInt = (t : Int) ∧ J t
  | [], x, J, _, h => ⟨a, ha, h⟩
  | q :: r, x, J, hb, h => by
    have h : xbr (x = nI q.1) (J q.2) (xsw x r J a) := h
    simp only [List.all_cons, Bool.and_eq_true] at hb
    have hq := xblt hb.1
    by_cases hx : x = nI q.1
    · refine ⟨q.2, ?_, h.1 hx⟩
      rw [List.map_cons, Op.lookupswitch.offset_cons, if_pos (by rw [hx, nI_toInt (by omega)])]
      omega
    · obtain ⟨t, h1, h2⟩ := xlo ha (tb := r) hb.2 (h.2 hx)
      refine ⟨t, ?_, h2⟩
      rw [List.map_cons, lv_osw hx (nI_toInt (by omega))]
      exact h1
theorem xs_lookup (X : xCtx p l e s m args below meth c D cI cJ cD b base n0 scr M cs) {d : Int} {ps : Array (Int × Int)} {len a : Nat} {tb : List (Nat × Nat)} (hc : (decide ((pc : Int) + d = (a : Int)) && ((ps.toList.zip (ps.toList.drop 1)).all (fun (a, next) => a.1 < next.1) && decide (ps.toList = tb.map fun q => ((q.1 : Int), (q.2 : Int) - (pc : Int)))) && tb.all fun q => Nat.blt q.1 1000) = true) (hd : decode (mC M) pc = .ok (.lookupswitch d ps, len)) (hJ : ∀ t ls st k n I L P, J t Q ls st k n I L P → xAt p l e s m args below meth c D cI cJ cD b base n0 scr M Z t ls st k n I L P)
    (h : xpI st fun x st => xsw x tb (fun t => J t Q ls st k n I L P) a) : xAt p l e s m args below meth c D cI cJ cD b base n0 scr M Z pc ls st k n I L P := by
  obtain ⟨x, st1, rfl, h1⟩ := xpI_e h
  obtain ⟨hc1, hb⟩ := xand hc
  obtain ⟨ha, hc1⟩ := xand hc1
  obtain ⟨hs, hps⟩ := xand hc1
  have ha := of_decide_eq_true ha
  have hps := of_decide_eq_true hps
  obtain ⟨t, h2, h3⟩ := xlo ha hb h1
  intro hn hk hI hl H locs lsA hP hS hL
  exact lv_lookup X.1 X.2.1 hd hs rfl (by rw [hps]; exact h2) (hJ _ _ _ _ _ _ _ _ h3 hn hk hI hl H locs lsA hP hS hL)
/-- an end -/
theorem xs_end (X : xCtx p l e s m args below meth c D cI cJ cD b base n0 scr M cs) (R : xRt p l e s m args below meth c D cI cJ cD b base n0 scr M Q Z) {ins : Instr} (r : Option Value) (hd : decode (mC M) pc = .ok (ins, 1)) (hr : xRw M r ins) (h : xT (Nat.beq k (mN M)) (Q r n I L P)) : xAt p l e s m args below meth c D cI cJ cD b base n0 scr M Z pc ls r.toList k n I L P := by
  obtain ⟨hk, h2⟩ := xT_e h
  have hk := xbeq hk
  subst hk
  intro hn _ hI hl H locs lsA hP hS hL
  exact R r pc n ins I L P hd hr h2 hn hI H locs lsA hP hS
end ENDS
