/-! which cells a run makes, in their order (0: the script): 0 an object of a class of vwCl, 1 ints, 2 longs, 3 references; how many -/
def xShL : List (Nat × Nat) := [(9, 0), (0, 7), (0, 5), (1, 6), (1, 240), (0, 5), (1, 4), (1, 240), (0, 4), (1, 60), (0, 3), (0, 3), (0, 1), (2, 40), (3, 3), (0, 2), (2, 61), (0, 6), (1, 160), (0, 0), (1, 6), (0, 1), (2, 40), (0, 1), (2, 40), (0, 1), (2, 40), (1, 64), (1, 5)]
def xSh (k : Nat) : Nat × Nat := xShL.getD k (9, 0)
def xKdL : List (List Nat) := [[1, 1], [2, 1, 1, 0], [2], [0, 0, 0, 0, 0], [2, 2, 1, 0, 0], [0, 2, 2], [2], [2, 2, 2, 2, 2, 2, 2, 2, 2, 2, 0, 0]]
def xKd (ci j : Nat) : Nat := (xKdL.getD ci []).getD j 9
def xNf (ci : Nat) : Nat := (xKdL.getD ci []).length
def xN : Nat := 28
-- class 0: 0 over, 1 under
-- class 1: 0 before, 1 now, 2 dayBits, 3 size
-- class 2: 0 seen
-- class 3: 0 asses, 1 loads, 2 kinds, 3 roads, 4 homes
-- class 4: 0 signs, 1 draft, 2 state, 3 size, 4 spot
-- class 5: 0 most, 1 sizes, 2 cells
-- class 6: 0 best
-- class 7: 0 rows, 1 texts, 2 reader, 3 plain, 4 deeds, 5 kept, 6 foresight, 7 wall, 8 chances, 9 findingCounts, 10 latestFinding, 11 told
theorem xt1 {w : Cond} (h : w ∈ tables_1_1) : w ∈ lw_tbl := List.mem_append_right _ (show w ∈ tables_1 from List.mem_append_left _ h)
theorem xt2 {w : Cond} (h : w ∈ tables_1_2) : w ∈ lw_tbl := List.mem_append_right _ (show w ∈ tables_1 from List.mem_append_right _ (List.mem_append_left _ h))
theorem xt3 {w : Cond} (h : w ∈ tables_1_3) : w ∈ lw_tbl := List.mem_append_right _ (show w ∈ tables_1 from List.mem_append_right _ (List.mem_append_right _ (List.mem_append_left _ h)))
theorem xt4 {w : Cond} (h : w ∈ tables_1_4) : w ∈ lw_tbl := List.mem_append_right _ (show w ∈ tables_1 from List.mem_append_right _ (List.mem_append_right _ (List.mem_append_right _ (h))))
theorem xsl {w : Cond} (h : w ∈ k2_sels lw_privs) : w ∈ lw_tbl := List.mem_append_left _ h
def xNest : List Cond := [(Jvm.Cond.methodLinkNest "SmellBurdens" (23 : Nat) ({ cls := "SmellBurdens$Reader", name := "<init>", desc := "()V" } : Jvm.MethodName) "SmellBurdens"), (Jvm.Cond.methodLinkNest "SmellBurdens$Reader" (17 : Nat) ({ cls := "SmellBurdens$Plain", name := "<init>", desc := "()V" } : Jvm.MethodName) "SmellBurdens"), (Jvm.Cond.fieldLinkNest "SmellBurdens$Chances" (18 : Nat) "SmellBurdens$Plain" "asses" "I" "SmellBurdens"), (Jvm.Cond.fieldLinkNest "SmellBurdens$Wall" (19 : Nat) "SmellBurdens$Plain" "asses" "I" "SmellBurdens"), (Jvm.Cond.fieldLinkNest "SmellBurdens$Reader" (81 : Nat) "SmellBurdens$Plain" "asses" "I" "SmellBurdens"), (Jvm.Cond.fieldLinkNest "SmellBurdens" (195 : Nat) "SmellBurdens$Plain" "asses" "I" "SmellBurdens"), (Jvm.Cond.fieldLinkNest "SmellBurdens$Foresight" (29 : Nat) "SmellBurdens$Plain" "loads" "I" "SmellBurdens"), (Jvm.Cond.fieldLinkNest "SmellBurdens$Wall" (33 : Nat) "SmellBurdens$Plain" "loads" "I" "SmellBurdens"), (Jvm.Cond.fieldLinkNest "SmellBurdens$Reader" (67 : Nat) "SmellBurdens$Plain" "loads" "I" "SmellBurdens"), (Jvm.Cond.fieldLinkNest "SmellBurdens" (144 : Nat) "SmellBurdens$Plain" "loads" "I" "SmellBurdens"), (Jvm.Cond.fieldLinkNest "SmellBurdens" (127 : Nat) "SmellBurdens$Reader" "draft" "LSmellBurdens$Plain;" "SmellBurdens"), (Jvm.Cond.fieldLinkNest "SmellBurdens" (134 : Nat) "SmellBurdens$Reader" "state" "J" "SmellBurdens"), (Jvm.Cond.methodLinkNest "SmellBurdens" (30 : Nat) ({ cls := "SmellBurdens$Plain", name := "<init>", desc := "()V" } : Jvm.MethodName) "SmellBurdens"), (Jvm.Cond.methodLinkNest "SmellBurdens" (37 : Nat) ({ cls := "SmellBurdens$Deeds", name := "<init>", desc := "()V" } : Jvm.MethodName) "SmellBurdens"), (Jvm.Cond.fieldLinkNest "SmellBurdens" (169 : Nat) "SmellBurdens$Deeds" "now" "J" "SmellBurdens"), (Jvm.Cond.fieldLinkNest "SmellBurdens" (217 : Nat) "SmellBurdens$Deeds" "size" "I" "SmellBurdens"), (Jvm.Cond.methodLinkNest "SmellBurdens" (48 : Nat) ({ cls := "SmellBurdens$Foresight", name := "<init>", desc := "()V" } : Jvm.MethodName) "SmellBurdens"), (Jvm.Cond.methodLinkNest "SmellBurdens" (55 : Nat) ({ cls := "SmellBurdens$Wall", name := "<init>", desc := "()V" } : Jvm.MethodName) "SmellBurdens"), (Jvm.Cond.methodLinkNest "SmellBurdens" (62 : Nat) ({ cls := "SmellBurdens$Chances", name := "<init>", desc := "()V" } : Jvm.MethodName) "SmellBurdens"), (Jvm.Cond.fieldLinkNest "SmellBurdens" (327 : Nat) "SmellBurdens$Chances" "over" "J" "SmellBurdens"), (Jvm.Cond.fieldLinkNest "SmellBurdens" (330 : Nat) "SmellBurdens$Chances" "under" "J" "SmellBurdens"), (Jvm.Cond.methodLinkNest "SmellBurdens$Guess" (23 : Nat) ({ cls := "SmellBurdens", name := "isSet", desc := "(I)Z" } : Jvm.MethodName) "SmellBurdens")]
theorem xNest_in : ∀ w ∈ xNest, w ∈ lw_tbl := List.forall_mem_cons.mpr ⟨xt1 (List.mem_of_getElem? (i := 46) (by decide +kernel)), List.forall_mem_cons.mpr ⟨xt1 (List.mem_of_getElem? (i := 52) (by decide +kernel)), List.forall_mem_cons.mpr ⟨xt1 (List.mem_of_getElem? (i := 57) (by decide +kernel)), List.forall_mem_cons.mpr ⟨xt1 (List.mem_of_getElem? (i := 58) (by decide +kernel)), List.forall_mem_cons.mpr ⟨xt1 (List.mem_of_getElem? (i := 59) (by decide +kernel)), List.forall_mem_cons.mpr ⟨xt1 (List.mem_of_getElem? (i := 60) (by decide +kernel)), List.forall_mem_cons.mpr ⟨xt1 (List.mem_of_getElem? (i := 62) (by decide +kernel)), List.forall_mem_cons.mpr ⟨xt1 (List.mem_of_getElem? (i := 63) (by decide +kernel)), List.forall_mem_cons.mpr ⟨xt1 (List.mem_of_getElem? (i := 64) (by decide +kernel)), List.forall_mem_cons.mpr ⟨xt1 (List.mem_of_getElem? (i := 65) (by decide +kernel)), List.forall_mem_cons.mpr ⟨xt1 (List.mem_of_getElem? (i := 82) (by decide +kernel)), List.forall_mem_cons.mpr ⟨xt1 (List.mem_of_getElem? (i := 84) (by decide +kernel)), List.forall_mem_cons.mpr ⟨xt1 (List.mem_of_getElem? (i := 99) (by decide +kernel)), List.forall_mem_cons.mpr ⟨xt1 (List.mem_of_getElem? (i := 102) (by decide +kernel)), List.forall_mem_cons.mpr ⟨xt1 (List.mem_of_getElem? (i := 108) (by decide +kernel)), List.forall_mem_cons.mpr ⟨xt1 (List.mem_of_getElem? (i := 111) (by decide +kernel)), List.forall_mem_cons.mpr ⟨xt1 (List.mem_of_getElem? (i := 125) (by decide +kernel)), List.forall_mem_cons.mpr ⟨xt1 (List.mem_of_getElem? (i := 135) (by decide +kernel)), List.forall_mem_cons.mpr ⟨xt1 (List.mem_of_getElem? (i := 145) (by decide +kernel)), List.forall_mem_cons.mpr ⟨xt1 (List.mem_of_getElem? (i := 150) (by decide +kernel)), List.forall_mem_cons.mpr ⟨xt1 (List.mem_of_getElem? (i := 152) (by decide +kernel)), List.forall_mem_cons.mpr ⟨xt4 (List.mem_of_getElem? (i := 94) (by decide +kernel)), fun _ h => absurd h List.not_mem_nil⟩⟩⟩⟩⟩⟩⟩⟩⟩⟩⟩⟩⟩⟩⟩⟩⟩⟩⟩⟩⟩⟩
/-- the words that every method has beside its own code -/
def xG : List Cond := lw_tbl.filter goodWord
theorem xg {w : Cond} (h : w ∈ lw_tbl) (hg : goodWord w = true) : w ∈ xG := List.mem_filter.mpr ⟨h, hg⟩
theorem xin0 : ∀ w ∈ u_ws RX0 TX0 2, w ∈ xG := by
  intro w h
  obtain ⟨k, hk, rfl⟩ := List.mem_map.mp h
  have hk := List.mem_range.mp hk
  match k, hk with
  | 0, _ => exact xg (w := (Jvm.Cond.lays "SmellBurdens$Chances" "SmellBurdens$Chances" "over" "J")) (xt1 (List.mem_of_getElem? (i := 153) (by decide +kernel))) rfl
  | 1, _ => exact xg (w := (Jvm.Cond.lays "SmellBurdens$Chances" "SmellBurdens$Chances" "under" "J")) (xt1 (List.mem_of_getElem? (i := 155) (by decide +kernel))) rfl
  | k + 2, hk => exact absurd hk (by omega)
theorem xin1 : ∀ w ∈ u_ws RX1 TX1 4, w ∈ xG := by
  intro w h
  obtain ⟨k, hk, rfl⟩ := List.mem_map.mp h
  have hk := List.mem_range.mp hk
  match k, hk with
  | 0, _ => exact xg (w := (Jvm.Cond.laysFinal "SmellBurdens$Deeds" "SmellBurdens$Deeds" "before" "[J")) (xt1 (List.mem_of_getElem? (i := 112) (by decide +kernel))) rfl
  | 1, _ => exact xg (w := (Jvm.Cond.lays "SmellBurdens$Deeds" "SmellBurdens$Deeds" "now" "J")) (xt1 (List.mem_of_getElem? (i := 114) (by decide +kernel))) rfl
  | 2, _ => exact xg (w := (Jvm.Cond.lays "SmellBurdens$Deeds" "SmellBurdens$Deeds" "dayBits" "J")) (xt1 (List.mem_of_getElem? (i := 116) (by decide +kernel))) rfl
  | 3, _ => exact xg (w := (Jvm.Cond.lays "SmellBurdens$Deeds" "SmellBurdens$Deeds" "size" "I")) (xt1 (List.mem_of_getElem? (i := 118) (by decide +kernel))) rfl
  | k + 4, hk => exact absurd hk (by omega)
theorem xin2 : ∀ w ∈ u_ws RX2 TX2 1, w ∈ xG := by
  intro w h
  obtain ⟨k, hk, rfl⟩ := List.mem_map.mp h
  have hk := List.mem_range.mp hk
  match k, hk with
  | 0, _ => exact xg (w := (Jvm.Cond.laysFinal "SmellBurdens$Foresight" "SmellBurdens$Foresight" "seen" "[J")) (xt1 (List.mem_of_getElem? (i := 130) (by decide +kernel))) rfl
  | k + 1, hk => exact absurd hk (by omega)
theorem xin3 : ∀ w ∈ u_ws RX5 TX5 5, w ∈ xG := by
  intro w h
  obtain ⟨k, hk, rfl⟩ := List.mem_map.mp h
  have hk := List.mem_range.mp hk
  match k, hk with
  | 0, _ => exact xg (w := (Jvm.Cond.lays "SmellBurdens$Plain" "SmellBurdens$Plain" "asses" "I")) (xt1 (List.mem_of_getElem? (i := 69) (by decide +kernel))) rfl
  | 1, _ => exact xg (w := (Jvm.Cond.lays "SmellBurdens$Plain" "SmellBurdens$Plain" "loads" "I")) (xt1 (List.mem_of_getElem? (i := 71) (by decide +kernel))) rfl
  | 2, _ => exact xg (w := (Jvm.Cond.lays "SmellBurdens$Plain" "SmellBurdens$Plain" "kinds" "I")) (xt1 (List.mem_of_getElem? (i := 73) (by decide +kernel))) rfl
  | 3, _ => exact xg (w := (Jvm.Cond.lays "SmellBurdens$Plain" "SmellBurdens$Plain" "roads" "I")) (xt1 (List.mem_of_getElem? (i := 75) (by decide +kernel))) rfl
  | 4, _ => exact xg (w := (Jvm.Cond.lays "SmellBurdens$Plain" "SmellBurdens$Plain" "homes" "I")) (xt1 (List.mem_of_getElem? (i := 77) (by decide +kernel))) rfl
  | k + 5, hk => exact absurd hk (by omega)
theorem xin4 : ∀ w ∈ u_ws RX6 TX6 5, w ∈ xG := by
  intro w h
  obtain ⟨k, hk, rfl⟩ := List.mem_map.mp h
  have hk := List.mem_range.mp hk
  match k, hk with
  | 0, _ => exact xg (w := (Jvm.Cond.laysFinal "SmellBurdens$Reader" "SmellBurdens$Reader" "signs" "[I")) (xt1 (List.mem_of_getElem? (i := 87) (by decide +kernel))) rfl
  | 1, _ => exact xg (w := (Jvm.Cond.laysFinal "SmellBurdens$Reader" "SmellBurdens$Reader" "draft" "LSmellBurdens$Plain;")) (xt1 (List.mem_of_getElem? (i := 89) (by decide +kernel))) rfl
  | 2, _ => exact xg (w := (Jvm.Cond.lays "SmellBurdens$Reader" "SmellBurdens$Reader" "state" "J")) (xt1 (List.mem_of_getElem? (i := 91) (by decide +kernel))) rfl
  | 3, _ => exact xg (w := (Jvm.Cond.lays "SmellBurdens$Reader" "SmellBurdens$Reader" "size" "I")) (xt1 (List.mem_of_getElem? (i := 93) (by decide +kernel))) rfl
  | 4, _ => exact xg (w := (Jvm.Cond.lays "SmellBurdens$Reader" "SmellBurdens$Reader" "spot" "I")) (xt1 (List.mem_of_getElem? (i := 95) (by decide +kernel))) rfl
  | k + 5, hk => exact absurd hk (by omega)
theorem xin5 : ∀ w ∈ u_ws RX8 TX8 3, w ∈ xG := by
  intro w h
  obtain ⟨k, hk, rfl⟩ := List.mem_map.mp h
  have hk := List.mem_range.mp hk
  match k, hk with
  | 0, _ => exact xg (w := (Jvm.Cond.laysFinal "SmellBurdens$Shelf" "SmellBurdens$Shelf" "most" "I")) (xt1 (List.mem_of_getElem? (i := 36) (by decide +kernel))) rfl
  | 1, _ => exact xg (w := (Jvm.Cond.laysFinal "SmellBurdens$Shelf" "SmellBurdens$Shelf" "sizes" "[I")) (xt1 (List.mem_of_getElem? (i := 38) (by decide +kernel))) rfl
  | 2, _ => exact xg (w := (Jvm.Cond.laysFinal "SmellBurdens$Shelf" "SmellBurdens$Shelf" "cells" "[I")) (xt1 (List.mem_of_getElem? (i := 40) (by decide +kernel))) rfl
  | k + 3, hk => exact absurd hk (by omega)
theorem xin6 : ∀ w ∈ u_ws RX9 TX9 1, w ∈ xG := by
  intro w h
  obtain ⟨k, hk, rfl⟩ := List.mem_map.mp h
  have hk := List.mem_range.mp hk
  match k, hk with
  | 0, _ => exact xg (w := (Jvm.Cond.laysFinal "SmellBurdens$Wall" "SmellBurdens$Wall" "best" "[I")) (xt1 (List.mem_of_getElem? (i := 140) (by decide +kernel))) rfl
  | k + 1, hk => exact absurd hk (by omega)
theorem xin7 : ∀ w ∈ u_ws RX10 TX10 12, w ∈ xG := by
  intro w h
  obtain ⟨k, hk, rfl⟩ := List.mem_map.mp h
  have hk := List.mem_range.mp hk
  match k, hk with
  | 0, _ => exact xg (w := (Jvm.Cond.laysFinal "SmellBurdens" "SmellBurdens" "rows" "LSmellBurdens$Shelf;")) (xt1 (List.mem_of_getElem? (i := 174) (by decide +kernel))) rfl
  | 1, _ => exact xg (w := (Jvm.Cond.laysFinal "SmellBurdens" "SmellBurdens" "texts" "LSmellBurdens$Shelf;")) (xt1 (List.mem_of_getElem? (i := 176) (by decide +kernel))) rfl
  | 2, _ => exact xg (w := (Jvm.Cond.laysFinal "SmellBurdens" "SmellBurdens" "reader" "LSmellBurdens$Reader;")) (xt1 (List.mem_of_getElem? (i := 178) (by decide +kernel))) rfl
  | 3, _ => exact xg (w := (Jvm.Cond.laysFinal "SmellBurdens" "SmellBurdens" "plain" "LSmellBurdens$Plain;")) (xt1 (List.mem_of_getElem? (i := 180) (by decide +kernel))) rfl
  | 4, _ => exact xg (w := (Jvm.Cond.laysFinal "SmellBurdens" "SmellBurdens" "deeds" "LSmellBurdens$Deeds;")) (xt1 (List.mem_of_getElem? (i := 182) (by decide +kernel))) rfl
  | 5, _ => exact xg (w := (Jvm.Cond.laysFinal "SmellBurdens" "SmellBurdens" "kept" "[LSmellBurdens$Deeds;")) (xt1 (List.mem_of_getElem? (i := 184) (by decide +kernel))) rfl
  | 6, _ => exact xg (w := (Jvm.Cond.laysFinal "SmellBurdens" "SmellBurdens" "foresight" "LSmellBurdens$Foresight;")) (xt1 (List.mem_of_getElem? (i := 186) (by decide +kernel))) rfl
  | 7, _ => exact xg (w := (Jvm.Cond.laysFinal "SmellBurdens" "SmellBurdens" "wall" "LSmellBurdens$Wall;")) (xt1 (List.mem_of_getElem? (i := 188) (by decide +kernel))) rfl
  | 8, _ => exact xg (w := (Jvm.Cond.laysFinal "SmellBurdens" "SmellBurdens" "chances" "LSmellBurdens$Chances;")) (xt1 (List.mem_of_getElem? (i := 190) (by decide +kernel))) rfl
  | 9, _ => exact xg (w := (Jvm.Cond.laysFinal "SmellBurdens" "SmellBurdens" "findingCounts" "[I")) (xt1 (List.mem_of_getElem? (i := 192) (by decide +kernel))) rfl
  | 10, _ => exact xg (w := (Jvm.Cond.lays "SmellBurdens" "SmellBurdens" "latestFinding" "I")) (xt1 (List.mem_of_getElem? (i := 194) (by decide +kernel))) rfl
  | 11, _ => exact xg (w := (Jvm.Cond.lays "SmellBurdens" "SmellBurdens" "told" "I")) (xt1 (List.mem_of_getElem? (i := 196) (by decide +kernel))) rfl
  | k + 12, hk => exact absurd hk (by omega)
