/-! THE START: what the tables say -/
theorem xNest_tab : ∀ w ∈ xNest, w.onTables = true := by decide
theorem xInts {s : State} {args : Array Value} {ty : FieldType} (h : (Cond.arrayClass ty).before args s = true) : ∃ cA : ClassId, ArrOfT s cA ty ∧ s.vm.findClass ("[" ++ ty.toString) = some cA := by
  obtain ⟨cA, kA, comp, h1, h2, h3⟩ := Cond.arrayClass_spec h
  exact ⟨cA, fun n z => ⟨(fun k h => by cases h), kA, h2, comp, h3⟩, h1⟩
theorem xRefs {s : State} {args : Array Value} {C : String} (h : (Cond.arrayOver (.object C)).before args s = true) : ∃ cA : ClassId, ArrOfT s cA (.object C) ∧ va_RA s cA (.object C) := by
  obtain ⟨comp, cA, kA, f1, f2, f3, f4, f5⟩ := Cond.arrayOver_spec h
  exact ⟨cA, fun n z => ⟨(fun k h => by cases h), kA, f3, comp, f4⟩, kA, comp, f3, f4, f1, f5⟩
theorem xKs_of {s : State} {args : Array Value} (hts : ∀ w ∈ lw_tbl, w.before args s = true) : ∃ (D : va_G) (cI cJ cD : ClassId), xKs D cI cJ cD s := by
  have htsG : ∀ w ∈ xG, w.before args s = true := fun w hw => hts w (List.mem_filter.mp hw).1
  obtain ⟨c0, i0, k0⟩ := u_known (C := RX0) (T := TX0) (N := 2) (n := 2) htsG xin0 (htsG _ wdN0.1)
  obtain ⟨c1, i1, k1⟩ := u_known (C := RX1) (T := TX1) (N := 4) (n := 4) htsG xin1 (htsG _ wdN1.1)
  obtain ⟨c2, i2, k2⟩ := u_known (C := RX2) (T := TX2) (N := 1) (n := 1) htsG xin2 (htsG _ wdN2.1)
  obtain ⟨c3, i3, k3⟩ := u_known (C := RX5) (T := TX5) (N := 5) (n := 5) htsG xin3 (htsG _ wdN3.1)
  obtain ⟨c4, i4, k4⟩ := u_known (C := RX6) (T := TX6) (N := 5) (n := 5) htsG xin4 (htsG _ wdN4.1)
  obtain ⟨c5, i5, k5⟩ := u_known (C := RX8) (T := TX8) (N := 3) (n := 3) htsG xin5 (htsG _ wdN5.1)
  obtain ⟨c6, i6, k6⟩ := u_known (C := RX9) (T := TX9) (N := 1) (n := 1) htsG xin6 (htsG _ wdN6.1)
  obtain ⟨c7, i7, k7⟩ := u_known (C := RX10) (T := TX10) (N := 12) (n := 12) htsG xin7 (htsG _ wdN7.1)
  obtain ⟨cI, aI, nI'⟩ := xInts (htsG _ wdAi)
  obtain ⟨cJ, aJ, nJ⟩ := xInts (htsG _ wdAl)
  have hover : (Cond.arrayOver (.object "SmellBurdens$Deeds")).before args s = true := hts _ (xt1 (List.mem_of_getElem? (i := 122) (by decide +kernel)))
  obtain ⟨cD, aD, rD⟩ := xRefs hover
  refine ⟨(fun k => match k with | 0 => c0 | 1 => c1 | 2 => c2 | 3 => c3 | 4 => c4 | 5 => c5 | 6 => c6 | _ => c7, fun k => match k with | 0 => i0 | 1 => i1 | 2 => i2 | 3 => i3 | 4 => i4 | 5 => i5 | 6 => i6 | _ => i7), cI, cJ, cD, ⟨fun k q hq => ?_, fun k q hq => ?_⟩, fun w hw => va_Nw.of (xNest_tab w hw) (hts w (xNest_in w hw)), va_AO.of hover⟩
  · match k, hq with
    | 0, hq => cases hq; exact k0
    | 1, hq => cases hq; exact k1
    | 2, hq => cases hq; exact k2
    | 3, hq => cases hq; exact k3
    | 4, hq => cases hq; exact k4
    | 5, hq => cases hq; exact k5
    | 6, hq => cases hq; exact k6
    | 7, hq => cases hq; exact k7
    | k + 8, hq => simp [vwCl] at hq
  · match k, hq with
    | 0, hq => cases hq; exact ⟨aI, nI'⟩
    | 1, hq => cases hq; exact ⟨aJ, nJ⟩
    | 2, hq => cases hq; exact ⟨aD, rD⟩
    | k + 3, hq => simp [xtys] at hq
theorem xRoom_le {s : State} {pl : Platform} {r r' : Room} (h1 : r'.frames ≤ r.frames) (h2 : r'.cells ≤ r.cells) (h3 : r'.slots ≤ r.slots) (h4 : r'.locals ≤ r.locals) (h : s.hasRoom pl r = true) : s.hasRoom pl r' = true := by
  unfold State.hasRoom at *
  simp only [Bool.and_eq_true, decide_eq_true_eq] at *
  obtain ⟨⟨⟨⟨a, b1, b2, b3, b4, b5⟩, c⟩, d⟩, e⟩ := h
  exact ⟨⟨⟨⟨by omega, by omega, by omega, by omega, by omega, b5⟩, by omega⟩, by omega⟩, e⟩
