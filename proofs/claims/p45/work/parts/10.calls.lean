/-! calls, the JDK's own, ends; a whole walk is sound; contracts -/
section CALLS
variable {p : Program} {l : Launch} {e : Env} {s : State} {m : MethodId} {args : Array Value} {below : List Frame} {meth : Method} {c : Code} {D : va_G} {cI cJ cD : ClassId} {b base n0 : Nat} {scr : Nat → Int32} {M : xM} {cs : xCs} {Q : xQ} {Z : State → Prop}
variable {pc : Nat} {K : xK} {J : Nat → xK} {ls : xV} {st : List Value} {k n : Nat} {I : xI} {L : xL} {P : xR}
theorem xszE (X : xCtx p l e s m args below meth c D cI cJ cD b base n0 scr M cs) (hn : n = n0 + k) {H : Heap} {locs : List Loc} (hP : va_P D vwCl (xws b base cI cJ cD n I L P) H) (hS : va_S (xA base) s.heap H locs) (hz : H.size ≤ s.heap.size + k) : H.size = base + n := by
  have hsz : s.heap.size = base + n0 := X.2.2.2.2.2.2.1
  have h1 := hS.1
  cases n with
  | zero => omega
  | succ n => have := xlt hP (Nat.lt_succ_self n); omega
/-- what a callee is given -/
abbrev xPc (D : va_G) (cI cJ cD : ClassId) (b base n : Nat) (as : List Value) (I : xI) (L : xL) (P : xR) : Array Value → State → Prop := va_Pc (as.map (xv b base)) (fun U => U.heap.size = base + n ∧ va_P D vwCl (xws b base cI cJ cD n I L P) U.heap ∧ xKs D cI cJ cD U ∧ xScr b base (I 0) U U.heap)
abbrev xQc (D : va_G) (cI cJ cD : ClassId) (b base n mc : Nat) (I : xI) (Q : xQ) : Array Value → State → Outcome → State → Prop := fun _ st oc t => (∃ (r : Option Value) (I' : xI) (L' : xL) (P' : xR), oc = .returned (r.map (xv b base)) ∧ Q r (n + mc) I' L' P' ∧ I' 0 = I 0 ∧ va_P D vwCl (xws b base cI cJ cD (n + mc) I' L' P') t.heap) ∧ va_F (xA base) st t
theorem xPc_blind {as : List Value} : FrameBlind (xPc D cI cJ cD b base n as I L P) := fun a U g mk q => ⟨q.1, q.2.1, q.2.2.1, xKs.same (u := U) (U := U.calling g mk a) rfl q.2.2.2.1, by
  obtain ⟨len, xs, g1, g2⟩ := q.2.2.2.2
  exact ⟨len, xs, va_X.moved (u := U) (U := U.calling g mk a) (Vm.Alike.refl _) g1, g2⟩⟩
theorem xPc_at (X : xCtx p l e s m args below meth c D cI cJ cD b base n0 scr M cs) {as : List Value} {H : Heap} {locs : List Loc} (hS : va_S (xA base) s.heap H locs) (hI : I 0 = scr) (hP : va_P D vwCl (xws b base cI cJ cD n I L P) H) (hz : H.size = base + n) : ∀ U : State, U.heap = H → s.WarmedH U.vm → xPc D cI cJ cD b base n as I L P (as.map (xv b base)).toArray U := fun U hU hW => ⟨rfl, by rw [hU]; exact hz, by rw [hU]; exact hP, xKs.warm hW X.2.2.2.2.2.1, by
  obtain ⟨len, xs, g1, g2, g3, g4⟩ := X.2.2.2.2.2.2.2.2.2
  rw [hU]
  exact ⟨len, xs, va_X.moved hW.alike (va_X.kept g1 (hS.2.1 b g2 (Nat.not_le.mpr g3))), Nat.lt_of_lt_of_le g2 hS.1, g3, by rw [hI]; exact g4⟩⟩
/-- behind a call -/
theorem xbehind (X : xCtx p l e s m args below meth c D cI cJ cD b base n0 scr M cs) {q : xM × xSpec} {as st' : List Value} {st0 : List Value} (hK : ∀ ls st k n I L P, K Q ls st k n I L P → xAt p l e s m args below meth c D cI cJ cD b base n0 scr M Z (pc + 3) ls st k n I L P) (hkm : k + mN q.1 ≤ mN M) {lsA : Array Slot} {H : Heap} {locs : List Loc} (hn : n = n0 + k) (hI : I 0 = scr) (hl : ls.length = mL M) (hS : va_S (xA base) s.heap H locs) (hL : xLR b base lsA ls) {ar : Array Value}
    (hr : va_Run p l e (mRoom M n0) s m args below meth c H locs k (xS n - xS n0) (mN q.1) (xS (n + mN q.1) - xS n) (F0 m pc lsA st0) (st'.map (xv b base)) (xQc D cI cJ cD b base n (mN q.1) I (fun r n' I' L' P' => K Q ls (r.toList ++ st') (k + mN q.1) n' I' L' P') ar) (xA base)) :
    W p l e (mRoom M n0) s m args below meth c H locs k (xS n - xS n0) Z (F0 m pc lsA st0) := by
  intro T hT Y
  obtain ⟨v, st₀, t, T', L2, h0, Y', hL2, e1, e2, ⟨⟨r, I', L', P', hv, hq, hI', hP'⟩, hz, hkk⟩, stp⟩ := hr T hT Y
  cases hv
  rw [h0] at hz hkk
  have hs1 : va_S (xA base) s.heap T'.heap (locs ++ L2) := ⟨Nat.le_trans hS.1 (by rw [e1]; exact hz), fun q h1 h2 => by rw [e1, hkk q (Nat.lt_of_lt_of_le h1 hS.1) h2]; exact hS.2.1 q h1 h2, fun q hq => by
      rcases List.mem_append.mp hq with h | h
      · exact hS.2.2 q h
      · exact hL2 q h⟩
  have go := hK _ _ _ _ _ _ _ hq (by omega) hkm (by rw [hI']; exact hI) hl T'.heap (locs ++ L2) lsA (by rw [e1]; exact hP') hs1 hL
  have hn0 : xS n0 ≤ xS n := xS_le (by omega)
  have hn1 : xS n ≤ xS (n + mN q.1) := xS_le (by omega)
  rw [show xS (n + mN q.1) - xS n0 = xS n - xS n0 + (xS (n + mN q.1) - xS n) by omega, List.map_append] at go
  obtain ⟨t2, a1, b1⟩ := go T' rfl Y'
  refine ⟨t2, stp t2 ?_, b1⟩
  cases r <;> exact a1
theorem xroom (X : xCtx p l e s m args below meth c D cI cJ cD b base n0 scr M cs) {q : xM × xSpec} (hn : n = n0 + k) (hkm : k + mN q.1 ≤ mN M) : k + mN q.1 ≤ (mRoom M n0).cells ∧ (xS n - xS n0) + (xS (n + mN q.1) - xS n) ≤ (mRoom M n0).slots := by
  refine ⟨hkm, ?_⟩
  show _ ≤ xS (n0 + mN M) - xS n0
  have h1 : xS n0 ≤ xS n := xS_le (by omega)
  have h2 : xS n ≤ xS (n + mN q.1) := xS_le (by omega)
  have h3 : xS (n + mN q.1) ≤ xS (n0 + mN M) := xS_le (by omega)
  omega
theorem xcb (X : xCtx p l e s m args below meth c D cI cJ cD b base n0 scr M cs) {q : xM × xSpec} {i : Nat} (hh : xHd q.1) (hl : Cond.methodLink (mY M).cls i (mY q.1) ∈ xG) (hR : Nat.ble (mF q.1 + 1) (mF M) = true ∧ Nat.ble (8 + (mL q.1 + 11) + mW q.1) (mW M) = true) : CallB (mRoom M n0) s args (mY M).cls i (mY q.1) (mC q.1) (mL q.1) (mT q.1) (mWs q.1) (mRoom q.1 n) (mN q.1) (xS (n + mN q.1) - xS n) (mA q.1) :=
  callB_of (Ts := xG) (mA q.1) X.2.2.2.2.1 (mWs_pay (M := M) hh.1) rfl rfl rfl (X.2.2.2.2.1 _ hh.2.1) (X.2.2.2.2.1 _ hl) ⟨hh.2.2.1.1, hh.2.2.1.2.1, hh.2.2.1.2.2⟩ ⟨Nat.le_of_ble_eq_true hR.1, Nat.le_of_ble_eq_true hR.2⟩
theorem xcn (X : xCtx p l e s m args below meth c D cI cJ cD b base n0 scr M cs) {q : xM × xSpec} {i : Nat} (hh : xHd q.1) (hl : Cond.methodLinkNest (mY M).cls i (mY q.1) "SmellBurdens" ∈ xNest) (hR : Nat.ble (mF q.1 + 1) (mF M) = true ∧ Nat.ble (8 + (mL q.1 + 11) + mW q.1) (mW M) = true) : va_CN (mRoom M n0) s args (mY M).cls i (mY q.1) "SmellBurdens" (mC q.1) (mL q.1) (mT q.1) (mWs q.1) (mRoom q.1 n) (mN q.1) (xS (n + mN q.1) - xS n) (mA q.1) :=
  va_cnB (Ts := xG) (mA q.1) X.2.2.2.2.1 (mWs_pay (M := M) hh.1) rfl rfl rfl (X.2.2.2.2.2.1.2.1 _ hl) (X.2.2.2.2.1 _ hh.2.1) ⟨hh.2.2.1.1, hh.2.2.1.2.1, hh.2.2.1.2.2⟩ ⟨Nat.le_of_ble_eq_true hR.1, Nat.le_of_ble_eq_true hR.2⟩
theorem xcall_e {kd a : Nat} {K : xM → List Value → xQ} (h : xcall M cs a kd k st n I L P K) : ∃ q, cs[a]? = some q ∧ mK q.1 = kd ∧ k + mN q.1 ≤ mN M ∧ ∃ ar st', st = ar ++ st' ∧ ar.length = xsel (mA q.1 + 1) (mA q.1) (mA q.1 + 1) kd ∧ xle 8 st' = true ∧ xrcv kd ar.reverse n (mO q.1) = true ∧ q.2 ar.reverse n I L P (K q.1 st') := by
  unfold xcall at h
  split at h
  · exact absurd h (fun q => q)
  · rename_i q hq
    obtain ⟨hc, h⟩ := xT_e h
    obtain ⟨h1, h2⟩ := xand hc
    obtain ⟨ar, r, e1, e2, h⟩ := xpop_e h
    obtain ⟨h3, h⟩ := xT_e h
    obtain ⟨h4, h⟩ := xT_e h
    rw [List.append_nil] at h h4
    exact ⟨q, hq, xbeq h1, Nat.le_of_ble_eq_true h2, ar.reverse, r, e1, by simpa using e2, h3, by simpa using h4, by simpa using h⟩
theorem xs_virtual (X : xCtx p l e s m args below meth c D cI cJ cD b base n0 scr M cs) {i a : Nat} (hh : ∀ q ∈ cs, xHd q.1) (hc : xRb M cs a = true) (hw : xcon cs a fun m => Cond.methodLink (mY M).cls i (mY m) ∈ xG) (hd : decode (mC M) pc = .ok (.invokevirtual i, 3)) (hK : ∀ ls st k n I L P, K Q ls st k n I L P → xAt p l e s m args below meth c D cI cJ cD b base n0 scr M Z (pc + 3) ls st k n I L P)
    (h : xcall M cs a 0 k st n I L P fun m st' r n' I' L' P' => K Q ls (r.toList ++ st') (k + mN m) n' I' L' P') : xAt p l e s m args below meth c D cI cJ cD b base n0 scr M Z pc ls st k n I L P := by
  obtain ⟨q, hq, hkd, hkm, ar, st', rfl, har, hle, hrc, hsp⟩ := xcall_e h
  unfold xcon at hw
  unfold xRb at hc
  simp only [hq] at hw hc
  have hqm := List.mem_of_getElem? hq
  have hhd := hh q hqm
  intro hn hk hI hl H locs lsA hP hS hL
  refine xsz fun hz => ?_
  have hz := xszE X hn hP hS hz
  have hM := (X.2.2.2.2.2.2.2.2.1 q hqm) D cI cJ cD b base n ar.reverse I L P _ hsp
  have hk2 := hhd.2.2.2
  rw [hkd] at hk2
  obtain ⟨hin, hse, hcl⟩ := hk2
  generalize har2 : ar.reverse = as at hrc hM hsp
  have har3 : ar = as.reverse := by rw [← har2, List.reverse_reverse]
  have hlen : as.length = mA q.1 + 1 := by rw [← har2, List.length_reverse]; exact har
  subst har3
  match as, hrc, hlen, hM with
  | .ref (r + 1) :: as, hrc, hlen, hM =>
    obtain ⟨hr, hrc⟩ := xand (show (Nat.blt r n && (Nat.beq (xSh (r + 1)).1 0 && Nat.beq (xSh (r + 1)).2 (mO q.1))) = true from hrc)
    have hat := xws_at (b := b) (base := base) (cI := cI) (cJ := cJ) (cD := cD) (xblt hr) I L P
    rw [xent0 hrc] at hat
    obtain ⟨qc, hqc, hqn⟩ := Option.map_eq_some_iff.mp hcl
    have hre := va_recv X.2.2.2.2.2.1.1 hP hqc hat
    rw [hqn] at hre
    refine xbehind (q := q) (as := .ref (r + 1) :: as) (st' := st') X hK hkm hn hI hl hS hL (va_runV (C := (mY q.1).cls) (As := as.map (xv b base)) (b := base + r) ⟨X.1, X.2.1, X.2.2.1, X.2.2.2.1, X.2.2.2.2.1⟩ hM ⟨xcb X hhd hw (xand hc), X.2.2.2.2.1 _ hin, X.2.2.2.2.1 _ hse⟩ ⟨xPc_blind, hre, xPc_at X hS hI hP hz⟩ rfl (by simpa using hlen) (hL.1.trans hl) ?_ (lv_room (xle_e hle)) hd (xroom X hn hkm))
    simp [xv, xad]
theorem xs_static (X : xCtx p l e s m args below meth c D cI cJ cD b base n0 scr M cs) {i a b9 : Nat} (hh : ∀ q ∈ cs, xHd q.1) (hc : xRb M cs a = true) (hw : xMw M cs i a b9) (hd : decode (mC M) pc = .ok (.invokestatic i, 3)) (hK : ∀ ls st k n I L P, K Q ls st k n I L P → xAt p l e s m args below meth c D cI cJ cD b base n0 scr M Z (pc + 3) ls st k n I L P)
    (h : xcall M cs a 1 k st n I L P fun m st' r n' I' L' P' => K Q ls (r.toList ++ st') (k + mN m) n' I' L' P') : xAt p l e s m args below meth c D cI cJ cD b base n0 scr M Z pc ls st k n I L P := by
  obtain ⟨q, hq, hkd, hkm, ar, st', rfl, har, hle, hrc, hsp⟩ := xcall_e h
  unfold xMw xcon at hw
  unfold xRb at hc
  simp only [hq] at hw hc
  have hqm := List.mem_of_getElem? hq
  have hhd := hh q hqm
  intro hn hk hI hl H locs lsA hP hS hL
  refine xsz fun hz => ?_
  have hz := xszE X hn hP hS hz
  have hM := (X.2.2.2.2.2.2.2.2.1 q hqm) D cI cJ cD b base n ar.reverse I L P _ hsp
  have hk2 := hhd.2.2.2
  rw [hkd] at hk2
  generalize har2 : ar.reverse = as at hrc hM hsp
  have har3 : ar = as.reverse := by rw [← har2, List.reverse_reverse]
  have hlen : as.length = mA q.1 := by rw [← har2, List.length_reverse]; exact har
  subst har3
  cases b9 with
  | zero =>
    have hw : Cond.methodLink (mY M).cls i (mY q.1) ∈ xG := hw
    refine xbehind (q := q) (as := as) (st' := st') X hK hkm hn hI hl hS hL (va_runS (As := as.map (xv b base)) ⟨X.1, X.2.1, X.2.2.1, X.2.2.2.1, X.2.2.2.2.1⟩ hM ⟨xcb X hhd hw (xand hc), X.2.2.2.2.1 _ hk2⟩ ⟨xPc_blind, xPc_at X hS hI hP hz⟩ rfl (by simpa using hlen) (hL.1.trans hl) ?_ (lv_room (xle_e hle)) hd (xroom X hn hkm))
    simp
  | succ b9 =>
    have hw : Cond.methodLinkNest (mY M).cls i (mY q.1) "SmellBurdens" ∈ xNest := hw
    refine xbehind (q := q) (as := as) (st' := st') X hK hkm hn hI hl hS hL (va_runSN (host := "SmellBurdens") (As := as.map (xv b base)) ⟨X.1, X.2.1, X.2.2.1, X.2.2.2.1, X.2.2.2.2.1⟩ hM ⟨xcn X hhd hw (xand hc), X.2.2.2.2.1 _ hk2, trivial⟩ ⟨xPc_blind, xPc_at X hS hI hP hz⟩ rfl (by simpa using hlen) (hL.1.trans hl) ?_ (lv_room (xle_e hle)) hd (xroom X hn hkm))
    simp
theorem xs_special (X : xCtx p l e s m args below meth c D cI cJ cD b base n0 scr M cs) {i a b9 : Nat} (hh : ∀ q ∈ cs, xHd q.1) (hc : xRb M cs a = true) (hw : xMw M cs i a b9) (hd : decode (mC M) pc = .ok (.invokespecial i, 3)) (hK : ∀ ls st k n I L P, K Q ls st k n I L P → xAt p l e s m args below meth c D cI cJ cD b base n0 scr M Z (pc + 3) ls st k n I L P)
    (h : xcall M cs a 2 k st n I L P fun m st' r n' I' L' P' => K Q ls (r.toList ++ st') (k + mN m) n' I' L' P') : xAt p l e s m args below meth c D cI cJ cD b base n0 scr M Z pc ls st k n I L P := by
  obtain ⟨q, hq, hkd, hkm, ar, st', rfl, har, hle, hrc, hsp⟩ := xcall_e h
  unfold xMw xcon at hw
  unfold xRb at hc
  simp only [hq] at hw hc
  have hqm := List.mem_of_getElem? hq
  have hhd := hh q hqm
  intro hn hk hI hl H locs lsA hP hS hL
  refine xsz fun hz => ?_
  have hz := xszE X hn hP hS hz
  have hM := (X.2.2.2.2.2.2.2.2.1 q hqm) D cI cJ cD b base n ar.reverse I L P _ hsp
  have hk2 := hhd.2.2.2
  rw [hkd] at hk2
  generalize har2 : ar.reverse = as at hrc hM hsp
  have har3 : ar = as.reverse := by rw [← har2, List.reverse_reverse]
  have hlen : as.length = mA q.1 + 1 := by rw [← har2, List.length_reverse]; exact har
  subst har3
  match as, hrc, hlen, hM with
  | .ref r :: as, hrc, hlen, hM =>
    cases b9 with
    | zero =>
      have hw : Cond.methodLink (mY M).cls i (mY q.1) ∈ xG := hw
      refine xbehind (q := q) (as := .ref r :: as) (st' := st') X hK hkm hn hI hl hS hL (va_runI (As := as.map (xv b base)) (b := xad b base r) ⟨X.1, X.2.1, X.2.2.1, X.2.2.2.1, X.2.2.2.2.1⟩ hM ⟨by have := xcb (n := n) X hhd hw (xand hc); rw [hk2.2.2] at this; exact this, hk2.2.1, X.2.2.2.2.1 _ hk2.1⟩ ⟨xPc_blind, xPc_at X hS hI hP hz⟩ rfl (by simpa using hlen) (hL.1.trans hl) ?_ (lv_room (xle_e hle)) hd (xroom X hn hkm))
      simp [xv]
    | succ b9 =>
      have hw : Cond.methodLinkNest (mY M).cls i (mY q.1) "SmellBurdens" ∈ xNest := hw
      refine xbehind (q := q) (as := .ref r :: as) (st' := st') X hK hkm hn hI hl hS hL (va_runIN (host := "SmellBurdens") (As := as.map (xv b base)) (b := xad b base r) ⟨X.1, X.2.1, X.2.2.1, X.2.2.2.1, X.2.2.2.2.1⟩ hM ⟨by have := xcn (n := n) X hhd hw (xand hc); rw [hk2.2.2] at this; exact this, hk2.2.1, X.2.2.2.2.1 _ hk2.1⟩ ⟨xPc_blind, xPc_at X hS hI hP hz⟩ rfl (by simpa using hlen) (hL.1.trans hl) ?_ (lv_room (xle_e hle)) hd (xroom X hn hkm))
      simp [xv]
end CALLS
