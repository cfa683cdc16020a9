/-! THE START: what the Statement gives of the statics, of the texts, of the tables -/
def nwL : List Cond := flatC (Jvm.Cond.and given_1 narrow_1)
abbrev xTm (i : Nat) : Term := .string (xSs i).1 (xSs i).2.1
abbrev xVl (i : Nat) : Term := .field (xTm i) "java/lang/String" "value" "[B"
abbrev xTt (i : Nat) : Term := .static RX11 (xTs i).1 "[I"
theorem lt_1 {w : Cond} (h : w ∈ tables_1_1) : w ∈ lw_tbl := List.mem_append_right _ (List.mem_append_left _ h)
theorem lt_2 {w : Cond} (h : w ∈ tables_1_2) : w ∈ lw_tbl := List.mem_append_right _ (List.mem_append_right _ (List.mem_append_left _ h))
theorem lt_3 {w : Cond} (h : w ∈ tables_1_3) : w ∈ lw_tbl := List.mem_append_right _ (List.mem_append_right _ (List.mem_append_right _ (List.mem_append_left _ h)))
theorem lt_4 {w : Cond} (h : w ∈ tables_1_4) : w ∈ lw_tbl := List.mem_append_right _ (List.mem_append_right _ (List.mem_append_right _ (List.mem_append_right _ (List.mem_append_left _ h))))
def nwB : List Nat := [155, 164, 176, 189, 201, 214, 229, 244, 260, 279, 295, 313, 332, 349, 101]
def nwT : List Nat := [9, 20, 53, 42, 31]
def nwR : List Nat := [114, 115, 116, 117, 118, 119, 120, 121, 122, 123, 124, 125, 126, 136, 21]
def nwP : List (Nat × Nat × Nat) := [(0, 1, 175), (0, 2, 187), (0, 3, 198), (0, 4, 210), (0, 5, 224), (0, 6, 238), (0, 7, 253), (0, 8, 271), (0, 9, 286), (0, 10, 303), (0, 11, 321), (0, 12, 337), (0, 13, 362), (1, 2, 188), (1, 3, 199), (1, 4, 211), (1, 5, 225), (1, 6, 239), (1, 7, 254), (1, 8, 272), (1, 9, 287), (1, 10, 304), (1, 11, 322), (1, 12, 338), (1, 13, 363), (2, 3, 200), (2, 4, 212), (2, 5, 226), (2, 6, 240), (2, 7, 255), (2, 8, 273), (2, 9, 288), (2, 10, 305), (2, 11, 323), (2, 12, 339), (2, 13, 364), (3, 4, 213), (3, 5, 227), (3, 6, 241), (3, 7, 256), (3, 8, 274), (3, 9, 289), (3, 10, 306), (3, 11, 324), (3, 12, 340), (3, 13, 365), (4, 5, 228), (4, 6, 242), (4, 7, 257), (4, 8, 275), (4, 9, 290), (4, 10, 307), (4, 11, 325), (4, 12, 341), (4, 13, 366), (5, 6, 243), (5, 7, 258), (5, 8, 276), (5, 9, 291), (5, 10, 308), (5, 11, 326), (5, 12, 342), (5, 13, 367), (6, 7, 259), (6, 8, 277), (6, 9, 292), (6, 10, 309), (6, 11, 327), (6, 12, 343), (6, 13, 368), (7, 8, 278), (7, 9, 293), (7, 10, 310), (7, 11, 328), (7, 12, 344), (7, 13, 369), (8, 9, 294), (8, 10, 311), (8, 11, 329), (8, 12, 345), (8, 13, 370), (9, 10, 312), (9, 11, 330), (9, 12, 346), (9, 13, 371), (10, 11, 331), (10, 12, 347), (10, 13, 372), (11, 12, 348), (11, 13, 373), (12, 13, 374), (14, 0, 163), (14, 1, 174), (14, 2, 186), (14, 3, 197), (14, 4, 209), (14, 5, 223), (14, 6, 237), (14, 7, 252), (14, 8, 270), (14, 9, 285), (14, 10, 302), (14, 11, 320), (14, 12, 336), (14, 13, 361)]
set_option maxRecDepth 100000 in
theorem nw_T : ∀ i : Fin 5, nwL[nwT.getD i.val 0 + 1]? = some (Cond.arrayOf (xTt i.val) .int) ∧ nwL[nwT.getD i.val 0 + 2]? = some (Cond.eq (.length (xTt i.val)) (.int (Int32.ofNat (xTs i.val).2.length))) ∧ (xTs i.val).2.length ≤ 8 := by decide +kernel
set_option maxRecDepth 100000 in
theorem nw_TE : ∀ i : Fin 5, ∀ j : Fin 8, j.val < (xTs i.val).2.length → nwL[nwT.getD i.val 0 + 3 + j.val]? = some (Cond.eq (.elem (xTt i.val) (.int (Int32.ofNat j.val))) (.int ((xTs i.val).2.getD j.val 0))) := by decide +kernel
set_option maxRecDepth 100000 in
theorem nw_S : ∀ i : Fin 15, nwL[nwB.getD i.val 0]? = some (Cond.exactly (xTm i.val) "java/lang/String") ∧ nwL[nwB.getD i.val 0 + 1]? = some (Cond.eq (.field (xTm i.val) "java/lang/String" "coder" "B") (.int 0)) ∧ xLen.getD i.val 0 ≤ 50 := by decide +kernel
set_option maxRecDepth 100000 in
theorem nw_S2 : ∀ i : Fin 15, nwL[nwB.getD i.val 0 + 2]? = some (Cond.arrayOf (xVl i.val) .byte) ∧ nwL[nwB.getD i.val 0 + 3]? = some (Cond.eq (.length (xVl i.val)) (.int (Int32.ofNat (xLen.getD i.val 0)))) := by decide +kernel
set_option maxRecDepth 100000 in
theorem nw_SR : ∀ i : Fin 15, tables_1_2[nwR.getD i.val 0]? = some (Cond.stringRef (xSs i.val).1 (xSs i.val).2.1 (xSs i.val).2.2) := by decide +kernel
set_option maxRecDepth 100000 in
theorem nw_SE1 : ∀ i : Fin 14, ∀ j : Fin 8, j.val < xLen.getD i.val 0 → nwL[nwB.getD i.val 0 + 4 + j.val]? = some (Cond.eq (.elem (xVl i.val) (.int (Int32.ofNat j.val))) (.int ((xByt.getD i.val []).getD j.val 0))) := by decide +kernel
set_option maxRecDepth 100000 in
theorem nw_SE2 : ∀ j : Fin 50, nwL[nwB.getD 14 0 + 4 + j.val]? = some (Cond.eq (.elem (xVl 14) (.int (Int32.ofNat j.val))) (.int ((xByt.getD 14 []).getD j.val 0))) := by decide +kernel
set_option maxRecDepth 100000 in
theorem nw_SL : ∀ i : Fin 14, xLen.getD i.val 0 ≤ 8 := by decide +kernel
set_option maxRecDepth 100000 in
theorem nw_P0 : ∀ q ∈ (nwP.drop 0).take 35, nwL[q.2.2]? = some (Cond.not (Cond.eq (xTm q.1) (xTm q.2.1))) := by decide +kernel
set_option maxRecDepth 100000 in
theorem nw_P1 : ∀ q ∈ (nwP.drop 35).take 35, nwL[q.2.2]? = some (Cond.not (Cond.eq (xTm q.1) (xTm q.2.1))) := by decide +kernel
set_option maxRecDepth 100000 in
theorem nw_P2 : ∀ q ∈ (nwP.drop 70).take 35, nwL[q.2.2]? = some (Cond.not (Cond.eq (xTm q.1) (xTm q.2.1))) := by decide +kernel
set_option maxRecDepth 100000 in
theorem nw_SC : ∀ i : Fin 15, ∀ j : Fin 15, i.val ≠ j.val → (∃ q ∈ nwP, q.1 = i.val ∧ q.2.1 = j.val) ∨ (∃ q ∈ nwP, q.1 = j.val ∧ q.2.1 = i.val) := by decide +kernel
theorem nw_P (q : Nat × Nat × Nat) (h : q ∈ nwP) : nwL[q.2.2]? = some (Cond.not (Cond.eq (xTm q.1) (xTm q.2.1))) := by
  have e : nwP = (nwP.drop 0).take 35 ++ ((nwP.drop 35).take 35 ++ (nwP.drop 70).take 35) := by decide +kernel
  rw [e] at h
  rcases List.mem_append.mp h with h | h
  · exact nw_P0 q h
  · rcases List.mem_append.mp h with h | h
    · exact nw_P1 q h
    · exact nw_P2 q h
set_option maxRecDepth 100000 in
theorem nw_1 : nwL[4]? = some (Cond.eq (.static "java/lang/String" "COMPACT_STRINGS" "Z") (.int 1)) ∧ nwL[5]? = some (Cond.isRef (.static "jdk/internal/util/Preconditions" "SIOOBE_FORMATTER" "Ljava/util/function/BiFunction;")) := by decide +kernel
theorem nw_lay : ∀ i : Nat, i < 5 → Cond.laysStatic RX11 (xTs i).1 "[I" ∈ lw_tbl
  | 0, _ => lt_3 (List.mem_of_getElem? (i := 39) (by decide +kernel))
  | 1, _ => lt_3 (List.mem_of_getElem? (i := 41) (by decide +kernel))
  | 2, _ => lt_4 (List.mem_of_getElem? (i := 154) (by decide +kernel))
  | 3, _ => lt_4 (List.mem_of_getElem? (i := 68) (by decide +kernel))
  | 4, _ => lt_4 (List.mem_of_getElem? (i := 66) (by decide +kernel))
  | i + 5, h => absurd h (by omega)
theorem nw_w0 : (.methodLinkNest RX6 39 yX1_init RX11 : Cond) ∈ lw_tbl := lt_1 (List.mem_of_getElem? (i := 39) (by decide +kernel))
theorem nw_w1 : (.methodLinkNest RX11 28 yX7_init RX11 : Cond) ∈ lw_tbl := lt_1 (List.mem_of_getElem? (i := 117) (by decide +kernel))
theorem nw_w2 : (.methodLinkNest RX11 35 yX3_init RX11 : Cond) ∈ lw_tbl := lt_1 (List.mem_of_getElem? (i := 133) (by decide +kernel))
theorem nw_w3 : (.methodLinkNest RX3 11 yX10_init RX11 : Cond) ∈ lw_tbl := lt_1 (List.mem_of_getElem? (i := 139) (by decide +kernel))
theorem nw_w4 : (.methodLinkNest RX9 21 yX8_init RX11 : Cond) ∈ lw_tbl := lt_1 (List.mem_of_getElem? (i := 172) (by decide +kernel))
theorem nw_w5 : (.methodLinkNest RX11 58 yX0_init RX11 : Cond) ∈ lw_tbl := lt_1 (List.mem_of_getElem? (i := 211) (by decide +kernel))
theorem nw_w6 : (.methodLinkNest RX11 65 yX2_init RX11 : Cond) ∈ lw_tbl := lt_1 (List.mem_of_getElem? (i := 228) (by decide +kernel))
theorem nw_w7 : (.methodLinkNest RX11 76 yX5_init RX11 : Cond) ∈ lw_tbl := lt_2 (List.mem_of_getElem? (i := 4) (by decide +kernel))
theorem nw_w8 : (.methodLinkNest RX8 37 yX11_bounded RX11 : Cond) ∈ lw_tbl := lt_3 (List.mem_of_getElem? (i := 106) (by decide +kernel))
theorem nw_w9 : (.methodLinkNest RX4 38 yX11_bounded RX11 : Cond) ∈ lw_tbl := lt_3 (List.mem_of_getElem? (i := 111) (by decide +kernel))
theorem nw_w10 : (.methodLinkNest RX5 22 yX11_bounded RX11 : Cond) ∈ lw_tbl := lt_4 (List.mem_of_getElem? (i := 81) (by decide +kernel))
theorem nw_w11 : (.arrayOver (.object RX1) : Cond) ∈ lw_tbl := lt_1 (List.mem_of_getElem? (i := 37) (by decide +kernel))
theorem nw_w12 : (.arrayOver (.object RX5) : Cond) ∈ lw_tbl := lt_2 (List.mem_of_getElem? (i := 2) (by decide +kernel))
theorem nw_w13 : (.arrayOver (.object RX8) : Cond) ∈ lw_tbl := lt_1 (List.mem_of_getElem? (i := 170) (by decide +kernel))
theorem nw_w14 : (.native arraycopyName : Cond) ∈ lw_tbl := lt_4 (List.mem_of_getElem? (i := 140) (by decide +kernel))
theorem nw_w15 : (.laysStatic "java/lang/String" "COMPACT_STRINGS" "Z" : Cond) ∈ lw_tbl := lt_2 (List.mem_of_getElem? (i := 31) (by decide +kernel))
theorem nw_w16 : (.laysStatic "jdk/internal/util/Preconditions" "SIOOBE_FORMATTER" "Ljava/util/function/BiFunction;" : Cond) ∈ lw_tbl := lt_2 (List.mem_of_getElem? (i := 47) (by decide +kernel))
theorem nw_w17 : (.initialized "java/lang/String" : Cond) ∈ lw_tbl := lt_1 (List.mem_of_getElem? (i := 13) (by decide +kernel))
theorem nw_w18 : (.initialized "jdk/internal/util/Preconditions" : Cond) ∈ lw_tbl := lt_1 (List.mem_of_getElem? (i := 15) (by decide +kernel))
theorem nw_w19 : (.initialized RX11 : Cond) ∈ lw_tbl := lt_1 (List.mem_of_getElem? (i := 1) (by decide +kernel))
