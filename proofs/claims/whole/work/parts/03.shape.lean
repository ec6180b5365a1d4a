/-! which cells a run makes, in their order (0: the script): 0 an object of a class of vwCl, 1 ints, 2 longs, 3 references; how many -/
def xShL : List (Nat × Nat) := [(9, 0), (0, 7), (0, 5), (1, 6), (1, 240), (0, 5), (1, 4), (1, 240), (0, 4), (1, 60), (0, 3), (0, 3), (0, 1), (2, 40), (3, 3), (0, 2), (2, 61), (0, 6), (1, 160), (0, 0), (1, 6), (0, 1), (2, 40), (0, 1), (2, 40), (0, 1), (2, 40), (0, 8), (1, 6), (1, 6), (1, 240), (1, 4), (1, 240), (1, 40), (1, 5), (1, 4), (1, 5), (1, 19), (1, 4), (1, 34), (1, 760), (1, 3), (1, 2337), (1, 19), (2, 61), (1, 4), (1, 4), (1, 16), (1, 16)]
def xSh (k : Nat) : Nat × Nat := xShL.getD k (9, 0)
def xKdL : List (List Nat) := [[1, 1], [2, 1, 1, 0], [2], [0, 0, 0, 0, 0], [2, 2, 1, 0, 0], [0, 2, 2], [2], [2, 2, 2, 2, 2, 2, 2, 2, 2, 2, 0, 0], [0, 1, 1, 0, 2, 2, 2, 2, 2, 2, 0, 0, 2, 2, 2, 2, 2, 0, 0, 0, 0, 2, 0, 2, 2, 2, 2, 2, 2, 2, 2, 2]]
def xKd (ci j : Nat) : Nat := (xKdL.getD ci []).getD j 9
def xNf (ci : Nat) : Nat := (xKdL.getD ci []).length
def xN : Nat := 48
-- class 0: 0 over, 1 under
-- class 1: 0 before, 1 now, 2 dayBits, 3 size
-- class 2: 0 seen
-- class 3: 0 asses, 1 loads, 2 kinds, 3 roads, 4 homes
-- class 4: 0 signs, 1 draft, 2 state, 3 size, 4 spot
-- class 5: 0 most, 1 sizes, 2 cells
-- class 6: 0 best
-- class 7: 0 rows, 1 texts, 2 reader, 3 plain, 4 deeds, 5 kept, 6 foresight, 7 wall, 8 chances, 9 findingCounts, 10 latestFinding, 11 told
-- class 8: 0 told, 1 over, 2 under, 3 latest, 4 found, 5 rowSizes, 6 rows, 7 textSizes, 8 texts, 9 moved, 10 asses, 11 loads, 12 roads, 13 sorts, 14 homes, 15 now, 16 takes, 17 size, 18 from, 19 place, 20 wrong, 21 read, 22 deeds, 23 history, 24 keptDeeds, 25 kept, 26 aside, 27 met, 28 given, 29 order, 30 worths, 31 then
theorem xt1 {w : Cond} (h : w ∈ tables_1_1) : w ∈ lw_tbl := List.mem_append_right _ (show w ∈ tables_1 from List.mem_append_left _ h)
theorem xt2 {w : Cond} (h : w ∈ tables_1_2) : w ∈ lw_tbl := List.mem_append_right _ (show w ∈ tables_1 from List.mem_append_right _ (List.mem_append_left _ h))
theorem xt3 {w : Cond} (h : w ∈ tables_1_3) : w ∈ lw_tbl := List.mem_append_right _ (show w ∈ tables_1 from List.mem_append_right _ (List.mem_append_right _ (List.mem_append_left _ h)))
theorem xt4 {w : Cond} (h : w ∈ tables_1_4) : w ∈ lw_tbl := List.mem_append_right _ (show w ∈ tables_1 from List.mem_append_right _ (List.mem_append_right _ (List.mem_append_right _ (List.mem_append_left _ h))))
theorem xt5 {w : Cond} (h : w ∈ tables_1_5) : w ∈ lw_tbl := List.mem_append_right _ (show w ∈ tables_1 from List.mem_append_right _ (List.mem_append_right _ (List.mem_append_right _ (List.mem_append_right _ (List.mem_append_left _ h)))))
theorem xt6 {w : Cond} (h : w ∈ tables_1_6) : w ∈ lw_tbl := List.mem_append_right _ (show w ∈ tables_1 from List.mem_append_right _ (List.mem_append_right _ (List.mem_append_right _ (List.mem_append_right _ (List.mem_append_right _ (h))))))
theorem xsl {w : Cond} (h : w ∈ k2_sels lw_privs) : w ∈ lw_tbl := List.mem_append_left _ h
def xNest : List Cond := [(Jvm.Cond.methodLinkNest "SmellBurdens" (23 : Nat) ({ cls := "SmellBurdens$Reader", name := "<init>", desc := "()V" } : Jvm.MethodName) "SmellBurdens"), (Jvm.Cond.methodLinkNest "SmellBurdens$Reader" (17 : Nat) ({ cls := "SmellBurdens$Plain", name := "<init>", desc := "()V" } : Jvm.MethodName) "SmellBurdens"), (Jvm.Cond.fieldLinkNest "SmellBurdens$Chances" (18 : Nat) "SmellBurdens$Plain" "asses" "I" "SmellBurdens"), (Jvm.Cond.fieldLinkNest "SmellBurdens$Wall" (19 : Nat) "SmellBurdens$Plain" "asses" "I" "SmellBurdens"), (Jvm.Cond.fieldLinkNest "SmellBurdens$Reader" (81 : Nat) "SmellBurdens$Plain" "asses" "I" "SmellBurdens"), (Jvm.Cond.fieldLinkNest "SmellBurdens" (195 : Nat) "SmellBurdens$Plain" "asses" "I" "SmellBurdens"), (Jvm.Cond.fieldLinkNest "SmellBurdens$Foresight" (29 : Nat) "SmellBurdens$Plain" "loads" "I" "SmellBurdens"), (Jvm.Cond.fieldLinkNest "SmellBurdens$Wall" (33 : Nat) "SmellBurdens$Plain" "loads" "I" "SmellBurdens"), (Jvm.Cond.fieldLinkNest "SmellBurdens$Reader" (67 : Nat) "SmellBurdens$Plain" "loads" "I" "SmellBurdens"), (Jvm.Cond.fieldLinkNest "SmellBurdens" (144 : Nat) "SmellBurdens$Plain" "loads" "I" "SmellBurdens"), (Jvm.Cond.fieldLinkNest "SmellBurdens" (127 : Nat) "SmellBurdens$Reader" "draft" "LSmellBurdens$Plain;" "SmellBurdens"), (Jvm.Cond.fieldLinkNest "SmellBurdens" (134 : Nat) "SmellBurdens$Reader" "state" "J" "SmellBurdens"), (Jvm.Cond.methodLinkNest "SmellBurdens" (30 : Nat) ({ cls := "SmellBurdens$Plain", name := "<init>", desc := "()V" } : Jvm.MethodName) "SmellBurdens"), (Jvm.Cond.methodLinkNest "SmellBurdens" (37 : Nat) ({ cls := "SmellBurdens$Deeds", name := "<init>", desc := "()V" } : Jvm.MethodName) "SmellBurdens"), (Jvm.Cond.fieldLinkNest "SmellBurdens" (169 : Nat) "SmellBurdens$Deeds" "now" "J" "SmellBurdens"), (Jvm.Cond.fieldLinkNest "SmellBurdens" (217 : Nat) "SmellBurdens$Deeds" "size" "I" "SmellBurdens"), (Jvm.Cond.methodLinkNest "SmellBurdens" (48 : Nat) ({ cls := "SmellBurdens$Foresight", name := "<init>", desc := "()V" } : Jvm.MethodName) "SmellBurdens"), (Jvm.Cond.methodLinkNest "SmellBurdens" (55 : Nat) ({ cls := "SmellBurdens$Wall", name := "<init>", desc := "()V" } : Jvm.MethodName) "SmellBurdens"), (Jvm.Cond.methodLinkNest "SmellBurdens" (62 : Nat) ({ cls := "SmellBurdens$Chances", name := "<init>", desc := "()V" } : Jvm.MethodName) "SmellBurdens"), (Jvm.Cond.fieldLinkNest "SmellBurdens" (327 : Nat) "SmellBurdens$Chances" "over" "J" "SmellBurdens"), (Jvm.Cond.fieldLinkNest "SmellBurdens" (330 : Nat) "SmellBurdens$Chances" "under" "J" "SmellBurdens"), (Jvm.Cond.methodLinkNest "SmellBurdens$Guess" (23 : Nat) ({ cls := "SmellBurdens", name := "isSet", desc := "(I)Z" } : Jvm.MethodName) "SmellBurdens")]
theorem xNest_in : ∀ w ∈ xNest, w ∈ lw_tbl := List.forall_mem_cons.mpr ⟨xt1 (List.mem_of_getElem? (i := 47) (by decide +kernel)), List.forall_mem_cons.mpr ⟨xt1 (List.mem_of_getElem? (i := 53) (by decide +kernel)), List.forall_mem_cons.mpr ⟨xt1 (List.mem_of_getElem? (i := 58) (by decide +kernel)), List.forall_mem_cons.mpr ⟨xt1 (List.mem_of_getElem? (i := 59) (by decide +kernel)), List.forall_mem_cons.mpr ⟨xt1 (List.mem_of_getElem? (i := 60) (by decide +kernel)), List.forall_mem_cons.mpr ⟨xt1 (List.mem_of_getElem? (i := 61) (by decide +kernel)), List.forall_mem_cons.mpr ⟨xt1 (List.mem_of_getElem? (i := 63) (by decide +kernel)), List.forall_mem_cons.mpr ⟨xt1 (List.mem_of_getElem? (i := 64) (by decide +kernel)), List.forall_mem_cons.mpr ⟨xt1 (List.mem_of_getElem? (i := 65) (by decide +kernel)), List.forall_mem_cons.mpr ⟨xt1 (List.mem_of_getElem? (i := 66) (by decide +kernel)), List.forall_mem_cons.mpr ⟨xt1 (List.mem_of_getElem? (i := 83) (by decide +kernel)), List.forall_mem_cons.mpr ⟨xt1 (List.mem_of_getElem? (i := 85) (by decide +kernel)), List.forall_mem_cons.mpr ⟨xt1 (List.mem_of_getElem? (i := 100) (by decide +kernel)), List.forall_mem_cons.mpr ⟨xt1 (List.mem_of_getElem? (i := 103) (by decide +kernel)), List.forall_mem_cons.mpr ⟨xt1 (List.mem_of_getElem? (i := 109) (by decide +kernel)), List.forall_mem_cons.mpr ⟨xt1 (List.mem_of_getElem? (i := 112) (by decide +kernel)), List.forall_mem_cons.mpr ⟨xt1 (List.mem_of_getElem? (i := 126) (by decide +kernel)), List.forall_mem_cons.mpr ⟨xt1 (List.mem_of_getElem? (i := 136) (by decide +kernel)), List.forall_mem_cons.mpr ⟨xt1 (List.mem_of_getElem? (i := 146) (by decide +kernel)), List.forall_mem_cons.mpr ⟨xt1 (List.mem_of_getElem? (i := 151) (by decide +kernel)), List.forall_mem_cons.mpr ⟨xt1 (List.mem_of_getElem? (i := 153) (by decide +kernel)), List.forall_mem_cons.mpr ⟨xt4 (List.mem_of_getElem? (i := 17) (by decide +kernel)), fun _ h => absurd h List.not_mem_nil⟩⟩⟩⟩⟩⟩⟩⟩⟩⟩⟩⟩⟩⟩⟩⟩⟩⟩⟩⟩⟩⟩
/-- the words that every method has beside its own code -/
def xG : List Cond := lw_tbl.filter goodWord
theorem xg {w : Cond} (h : w ∈ lw_tbl) (hg : goodWord w = true) : w ∈ xG := List.mem_filter.mpr ⟨h, hg⟩
theorem xin0 : ∀ w ∈ u_ws RX0 TX0 2, w ∈ xG := by
  intro w h
  obtain ⟨k, hk, rfl⟩ := List.mem_map.mp h
  have hk := List.mem_range.mp hk
  match k, hk with
  | 0, _ => exact xg (w := (Jvm.Cond.lays "SmellBurdens$Chances" "SmellBurdens$Chances" "over" "J")) (xt1 (List.mem_of_getElem? (i := 154) (by decide +kernel))) rfl
  | 1, _ => exact xg (w := (Jvm.Cond.lays "SmellBurdens$Chances" "SmellBurdens$Chances" "under" "J")) (xt1 (List.mem_of_getElem? (i := 156) (by decide +kernel))) rfl
  | k + 2, hk => exact absurd hk (by omega)
theorem xin1 : ∀ w ∈ u_ws RX1 TX1 4, w ∈ xG := by
  intro w h
  obtain ⟨k, hk, rfl⟩ := List.mem_map.mp h
  have hk := List.mem_range.mp hk
  match k, hk with
  | 0, _ => exact xg (w := (Jvm.Cond.laysFinal "SmellBurdens$Deeds" "SmellBurdens$Deeds" "before" "[J")) (xt1 (List.mem_of_getElem? (i := 113) (by decide +kernel))) rfl
  | 1, _ => exact xg (w := (Jvm.Cond.lays "SmellBurdens$Deeds" "SmellBurdens$Deeds" "now" "J")) (xt1 (List.mem_of_getElem? (i := 115) (by decide +kernel))) rfl
  | 2, _ => exact xg (w := (Jvm.Cond.lays "SmellBurdens$Deeds" "SmellBurdens$Deeds" "dayBits" "J")) (xt1 (List.mem_of_getElem? (i := 117) (by decide +kernel))) rfl
  | 3, _ => exact xg (w := (Jvm.Cond.lays "SmellBurdens$Deeds" "SmellBurdens$Deeds" "size" "I")) (xt1 (List.mem_of_getElem? (i := 119) (by decide +kernel))) rfl
  | k + 4, hk => exact absurd hk (by omega)
theorem xin2 : ∀ w ∈ u_ws RX2 TX2 1, w ∈ xG := by
  intro w h
  obtain ⟨k, hk, rfl⟩ := List.mem_map.mp h
  have hk := List.mem_range.mp hk
  match k, hk with
  | 0, _ => exact xg (w := (Jvm.Cond.laysFinal "SmellBurdens$Foresight" "SmellBurdens$Foresight" "seen" "[J")) (xt1 (List.mem_of_getElem? (i := 131) (by decide +kernel))) rfl
  | k + 1, hk => exact absurd hk (by omega)
theorem xin3 : ∀ w ∈ u_ws RX5 TX5 5, w ∈ xG := by
  intro w h
  obtain ⟨k, hk, rfl⟩ := List.mem_map.mp h
  have hk := List.mem_range.mp hk
  match k, hk with
  | 0, _ => exact xg (w := (Jvm.Cond.lays "SmellBurdens$Plain" "SmellBurdens$Plain" "asses" "I")) (xt1 (List.mem_of_getElem? (i := 70) (by decide +kernel))) rfl
  | 1, _ => exact xg (w := (Jvm.Cond.lays "SmellBurdens$Plain" "SmellBurdens$Plain" "loads" "I")) (xt1 (List.mem_of_getElem? (i := 72) (by decide +kernel))) rfl
  | 2, _ => exact xg (w := (Jvm.Cond.lays "SmellBurdens$Plain" "SmellBurdens$Plain" "kinds" "I")) (xt1 (List.mem_of_getElem? (i := 74) (by decide +kernel))) rfl
  | 3, _ => exact xg (w := (Jvm.Cond.lays "SmellBurdens$Plain" "SmellBurdens$Plain" "roads" "I")) (xt1 (List.mem_of_getElem? (i := 76) (by decide +kernel))) rfl
  | 4, _ => exact xg (w := (Jvm.Cond.lays "SmellBurdens$Plain" "SmellBurdens$Plain" "homes" "I")) (xt1 (List.mem_of_getElem? (i := 78) (by decide +kernel))) rfl
  | k + 5, hk => exact absurd hk (by omega)
theorem xin4 : ∀ w ∈ u_ws RX6 TX6 5, w ∈ xG := by
  intro w h
  obtain ⟨k, hk, rfl⟩ := List.mem_map.mp h
  have hk := List.mem_range.mp hk
  match k, hk with
  | 0, _ => exact xg (w := (Jvm.Cond.laysFinal "SmellBurdens$Reader" "SmellBurdens$Reader" "signs" "[I")) (xt1 (List.mem_of_getElem? (i := 88) (by decide +kernel))) rfl
  | 1, _ => exact xg (w := (Jvm.Cond.laysFinal "SmellBurdens$Reader" "SmellBurdens$Reader" "draft" "LSmellBurdens$Plain;")) (xt1 (List.mem_of_getElem? (i := 90) (by decide +kernel))) rfl
  | 2, _ => exact xg (w := (Jvm.Cond.lays "SmellBurdens$Reader" "SmellBurdens$Reader" "state" "J")) (xt1 (List.mem_of_getElem? (i := 92) (by decide +kernel))) rfl
  | 3, _ => exact xg (w := (Jvm.Cond.lays "SmellBurdens$Reader" "SmellBurdens$Reader" "size" "I")) (xt1 (List.mem_of_getElem? (i := 94) (by decide +kernel))) rfl
  | 4, _ => exact xg (w := (Jvm.Cond.lays "SmellBurdens$Reader" "SmellBurdens$Reader" "spot" "I")) (xt1 (List.mem_of_getElem? (i := 96) (by decide +kernel))) rfl
  | k + 5, hk => exact absurd hk (by omega)
theorem xin5 : ∀ w ∈ u_ws RX8 TX8 3, w ∈ xG := by
  intro w h
  obtain ⟨k, hk, rfl⟩ := List.mem_map.mp h
  have hk := List.mem_range.mp hk
  match k, hk with
  | 0, _ => exact xg (w := (Jvm.Cond.laysFinal "SmellBurdens$Shelf" "SmellBurdens$Shelf" "most" "I")) (xt1 (List.mem_of_getElem? (i := 37) (by decide +kernel))) rfl
  | 1, _ => exact xg (w := (Jvm.Cond.laysFinal "SmellBurdens$Shelf" "SmellBurdens$Shelf" "sizes" "[I")) (xt1 (List.mem_of_getElem? (i := 39) (by decide +kernel))) rfl
  | 2, _ => exact xg (w := (Jvm.Cond.laysFinal "SmellBurdens$Shelf" "SmellBurdens$Shelf" "cells" "[I")) (xt1 (List.mem_of_getElem? (i := 41) (by decide +kernel))) rfl
  | k + 3, hk => exact absurd hk (by omega)
theorem xin6 : ∀ w ∈ u_ws RX9 TX9 1, w ∈ xG := by
  intro w h
  obtain ⟨k, hk, rfl⟩ := List.mem_map.mp h
  have hk := List.mem_range.mp hk
  match k, hk with
  | 0, _ => exact xg (w := (Jvm.Cond.laysFinal "SmellBurdens$Wall" "SmellBurdens$Wall" "best" "[I")) (xt1 (List.mem_of_getElem? (i := 141) (by decide +kernel))) rfl
  | k + 1, hk => exact absurd hk (by omega)
theorem xin7 : ∀ w ∈ u_ws RX10 TX10 12, w ∈ xG := by
  intro w h
  obtain ⟨k, hk, rfl⟩ := List.mem_map.mp h
  have hk := List.mem_range.mp hk
  match k, hk with
  | 0, _ => exact xg (w := (Jvm.Cond.laysFinal "SmellBurdens" "SmellBurdens" "rows" "LSmellBurdens$Shelf;")) (xt1 (List.mem_of_getElem? (i := 175) (by decide +kernel))) rfl
  | 1, _ => exact xg (w := (Jvm.Cond.laysFinal "SmellBurdens" "SmellBurdens" "texts" "LSmellBurdens$Shelf;")) (xt1 (List.mem_of_getElem? (i := 177) (by decide +kernel))) rfl
  | 2, _ => exact xg (w := (Jvm.Cond.laysFinal "SmellBurdens" "SmellBurdens" "reader" "LSmellBurdens$Reader;")) (xt1 (List.mem_of_getElem? (i := 179) (by decide +kernel))) rfl
  | 3, _ => exact xg (w := (Jvm.Cond.laysFinal "SmellBurdens" "SmellBurdens" "plain" "LSmellBurdens$Plain;")) (xt1 (List.mem_of_getElem? (i := 181) (by decide +kernel))) rfl
  | 4, _ => exact xg (w := (Jvm.Cond.laysFinal "SmellBurdens" "SmellBurdens" "deeds" "LSmellBurdens$Deeds;")) (xt1 (List.mem_of_getElem? (i := 183) (by decide +kernel))) rfl
  | 5, _ => exact xg (w := (Jvm.Cond.laysFinal "SmellBurdens" "SmellBurdens" "kept" "[LSmellBurdens$Deeds;")) (xt1 (List.mem_of_getElem? (i := 185) (by decide +kernel))) rfl
  | 6, _ => exact xg (w := (Jvm.Cond.laysFinal "SmellBurdens" "SmellBurdens" "foresight" "LSmellBurdens$Foresight;")) (xt1 (List.mem_of_getElem? (i := 187) (by decide +kernel))) rfl
  | 7, _ => exact xg (w := (Jvm.Cond.laysFinal "SmellBurdens" "SmellBurdens" "wall" "LSmellBurdens$Wall;")) (xt1 (List.mem_of_getElem? (i := 189) (by decide +kernel))) rfl
  | 8, _ => exact xg (w := (Jvm.Cond.laysFinal "SmellBurdens" "SmellBurdens" "chances" "LSmellBurdens$Chances;")) (xt1 (List.mem_of_getElem? (i := 191) (by decide +kernel))) rfl
  | 9, _ => exact xg (w := (Jvm.Cond.laysFinal "SmellBurdens" "SmellBurdens" "findingCounts" "[I")) (xt1 (List.mem_of_getElem? (i := 193) (by decide +kernel))) rfl
  | 10, _ => exact xg (w := (Jvm.Cond.lays "SmellBurdens" "SmellBurdens" "latestFinding" "I")) (xt1 (List.mem_of_getElem? (i := 195) (by decide +kernel))) rfl
  | 11, _ => exact xg (w := (Jvm.Cond.lays "SmellBurdens" "SmellBurdens" "told" "I")) (xt1 (List.mem_of_getElem? (i := 197) (by decide +kernel))) rfl
  | k + 12, hk => exact absurd hk (by omega)
theorem xin8 : ∀ w ∈ u_ws RX11 TX11 32, w ∈ xG := by
  intro w h
  obtain ⟨k, hk, rfl⟩ := List.mem_map.mp h
  have hk := List.mem_range.mp hk
  match k, hk with
  | 0, _ => exact xg (w := (Jvm.Cond.lays "SmellBurdensModel" "SmellBurdensModel" "told" "I")) (xt4 (List.mem_of_getElem? (i := 215) (by decide +kernel))) rfl
  | 1, _ => exact xg (w := (Jvm.Cond.lays "SmellBurdensModel" "SmellBurdensModel" "over" "J")) (xt4 (List.mem_of_getElem? (i := 217) (by decide +kernel))) rfl
  | 2, _ => exact xg (w := (Jvm.Cond.lays "SmellBurdensModel" "SmellBurdensModel" "under" "J")) (xt4 (List.mem_of_getElem? (i := 219) (by decide +kernel))) rfl
  | 3, _ => exact xg (w := (Jvm.Cond.lays "SmellBurdensModel" "SmellBurdensModel" "latest" "I")) (xt4 (List.mem_of_getElem? (i := 221) (by decide +kernel))) rfl
  | 4, _ => exact xg (w := (Jvm.Cond.laysFinal "SmellBurdensModel" "SmellBurdensModel" "found" "[I")) (xt4 (List.mem_of_getElem? (i := 223) (by decide +kernel))) rfl
  | 5, _ => exact xg (w := (Jvm.Cond.laysFinal "SmellBurdensModel" "SmellBurdensModel" "rowSizes" "[I")) (xt4 (List.mem_of_getElem? (i := 225) (by decide +kernel))) rfl
  | 6, _ => exact xg (w := (Jvm.Cond.laysFinal "SmellBurdensModel" "SmellBurdensModel" "rows" "[I")) (xt4 (List.mem_of_getElem? (i := 227) (by decide +kernel))) rfl
  | 7, _ => exact xg (w := (Jvm.Cond.laysFinal "SmellBurdensModel" "SmellBurdensModel" "textSizes" "[I")) (xt4 (List.mem_of_getElem? (i := 229) (by decide +kernel))) rfl
  | 8, _ => exact xg (w := (Jvm.Cond.laysFinal "SmellBurdensModel" "SmellBurdensModel" "texts" "[I")) (xt4 (List.mem_of_getElem? (i := 231) (by decide +kernel))) rfl
  | 9, _ => exact xg (w := (Jvm.Cond.laysFinal "SmellBurdensModel" "SmellBurdensModel" "moved" "[I")) (xt4 (List.mem_of_getElem? (i := 233) (by decide +kernel))) rfl
  | 10, _ => exact xg (w := (Jvm.Cond.lays "SmellBurdensModel" "SmellBurdensModel" "asses" "I")) (xt4 (List.mem_of_getElem? (i := 235) (by decide +kernel))) rfl
  | 11, _ => exact xg (w := (Jvm.Cond.lays "SmellBurdensModel" "SmellBurdensModel" "loads" "I")) (xt4 (List.mem_of_getElem? (i := 237) (by decide +kernel))) rfl
  | 12, _ => exact xg (w := (Jvm.Cond.laysFinal "SmellBurdensModel" "SmellBurdensModel" "roads" "[I")) (xt4 (List.mem_of_getElem? (i := 239) (by decide +kernel))) rfl
  | 13, _ => exact xg (w := (Jvm.Cond.laysFinal "SmellBurdensModel" "SmellBurdensModel" "sorts" "[I")) (xt5 (List.mem_of_getElem? (i := 1) (by decide +kernel))) rfl
  | 14, _ => exact xg (w := (Jvm.Cond.laysFinal "SmellBurdensModel" "SmellBurdensModel" "homes" "[I")) (xt5 (List.mem_of_getElem? (i := 3) (by decide +kernel))) rfl
  | 15, _ => exact xg (w := (Jvm.Cond.laysFinal "SmellBurdensModel" "SmellBurdensModel" "now" "[I")) (xt5 (List.mem_of_getElem? (i := 5) (by decide +kernel))) rfl
  | 16, _ => exact xg (w := (Jvm.Cond.laysFinal "SmellBurdensModel" "SmellBurdensModel" "takes" "[I")) (xt5 (List.mem_of_getElem? (i := 7) (by decide +kernel))) rfl
  | 17, _ => exact xg (w := (Jvm.Cond.lays "SmellBurdensModel" "SmellBurdensModel" "size" "I")) (xt5 (List.mem_of_getElem? (i := 9) (by decide +kernel))) rfl
  | 18, _ => exact xg (w := (Jvm.Cond.lays "SmellBurdensModel" "SmellBurdensModel" "from" "I")) (xt5 (List.mem_of_getElem? (i := 11) (by decide +kernel))) rfl
  | 19, _ => exact xg (w := (Jvm.Cond.lays "SmellBurdensModel" "SmellBurdensModel" "place" "I")) (xt5 (List.mem_of_getElem? (i := 13) (by decide +kernel))) rfl
  | 20, _ => exact xg (w := (Jvm.Cond.lays "SmellBurdensModel" "SmellBurdensModel" "wrong" "I")) (xt5 (List.mem_of_getElem? (i := 15) (by decide +kernel))) rfl
  | 21, _ => exact xg (w := (Jvm.Cond.laysFinal "SmellBurdensModel" "SmellBurdensModel" "read" "[I")) (xt5 (List.mem_of_getElem? (i := 17) (by decide +kernel))) rfl
  | 22, _ => exact xg (w := (Jvm.Cond.lays "SmellBurdensModel" "SmellBurdensModel" "deeds" "I")) (xt5 (List.mem_of_getElem? (i := 19) (by decide +kernel))) rfl
  | 23, _ => exact xg (w := (Jvm.Cond.laysFinal "SmellBurdensModel" "SmellBurdensModel" "history" "[I")) (xt5 (List.mem_of_getElem? (i := 21) (by decide +kernel))) rfl
  | 24, _ => exact xg (w := (Jvm.Cond.laysFinal "SmellBurdensModel" "SmellBurdensModel" "keptDeeds" "[I")) (xt5 (List.mem_of_getElem? (i := 23) (by decide +kernel))) rfl
  | 25, _ => exact xg (w := (Jvm.Cond.laysFinal "SmellBurdensModel" "SmellBurdensModel" "kept" "[I")) (xt5 (List.mem_of_getElem? (i := 25) (by decide +kernel))) rfl
  | 26, _ => exact xg (w := (Jvm.Cond.laysFinal "SmellBurdensModel" "SmellBurdensModel" "aside" "[I")) (xt5 (List.mem_of_getElem? (i := 27) (by decide +kernel))) rfl
  | 27, _ => exact xg (w := (Jvm.Cond.laysFinal "SmellBurdensModel" "SmellBurdensModel" "met" "[J")) (xt5 (List.mem_of_getElem? (i := 29) (by decide +kernel))) rfl
  | 28, _ => exact xg (w := (Jvm.Cond.laysFinal "SmellBurdensModel" "SmellBurdensModel" "given" "[I")) (xt5 (List.mem_of_getElem? (i := 31) (by decide +kernel))) rfl
  | 29, _ => exact xg (w := (Jvm.Cond.laysFinal "SmellBurdensModel" "SmellBurdensModel" "order" "[I")) (xt5 (List.mem_of_getElem? (i := 33) (by decide +kernel))) rfl
  | 30, _ => exact xg (w := (Jvm.Cond.laysFinal "SmellBurdensModel" "SmellBurdensModel" "worths" "[I")) (xt5 (List.mem_of_getElem? (i := 35) (by decide +kernel))) rfl
  | 31, _ => exact xg (w := (Jvm.Cond.laysFinal "SmellBurdensModel" "SmellBurdensModel" "then" "[I")) (xt5 (List.mem_of_getElem? (i := 37) (by decide +kernel))) rfl
  | k + 32, hk => exact absurd hk (by omega)
