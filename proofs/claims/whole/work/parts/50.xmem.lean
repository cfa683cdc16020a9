/-! THE CLASS'S WORLD: 75 places -/
def shX (k : Nat) : mw_Sh :=
  if k < 3 then .inr (6, [0, 0, 0, 0, 0, 0, 0, 3 + k + 2])
  else if k < 6 then .inl (2, 8, 6 + 8 * (k - 3))
  else if k < 30 then .inr (1, [0, 0, 0, 0, 0])
  else if k < 39 then (match k with
    | 30 => .inr (11, [0 + 2, 1 + 2, 2 + 2, 0, 31 + 2, 33 + 2, 37 + 2, 63 + 2, 64 + 2, 65 + 2, 66 + 2])
    | 31 => .inr (7, [32 + 2, 0])
    | 32 => .inl (0, 160, 0)
    | 33 => .inr (3, [34 + 2, 0, 0])
    | 34 => .inr (10, [35 + 2, 36 + 2, 0])
    | 35 => .inl (0, 161, 0)
    | 36 => .inl (0, 161, 0)
    | 37 => .inr (9, [38 + 2, 0])
    | _ => .inl (4, 6, 39))
  else if k < 45 then .inr (8, [45 + (k - 39) + 2, 51 + (k - 39) + 2, 57 + (k - 39) + 2, 0])
  else if k < 51 then .inl (0, 160, 0)
  else if k < 57 then .inl (0, 3, 0)
  else if k < 63 then .inl (0, 40, 0)
  else if k < 67 then (match k with
    | 63 => .inr (4, [37 + 2])
    | 64 => .inr (0, [0, 0, 0])
    | 65 => .inr (2, [1, 1])
    | _ => .inl (3, 4, 67))
  else if k < 71 then .inr (5, [0, 0, 71 + (k - 67) + 2])
  else .inl (0, 40, 0)
theorem sx_0 : shX 0 = .inr (6, [0, 0, 0, 0, 0, 0, 0, 3 + 2]) := rfl
theorem sx_1 : shX 1 = .inr (6, [0, 0, 0, 0, 0, 0, 0, 4 + 2]) := rfl
theorem sx_2 : shX 2 = .inr (6, [0, 0, 0, 0, 0, 0, 0, 5 + 2]) := rfl
theorem sx_3 : shX 3 = .inl (2, 8, 6) := rfl
theorem sx_4 : shX 4 = .inl (2, 8, 14) := rfl
theorem sx_5 : shX 5 = .inl (2, 8, 22) := rfl
theorem sx_6 : shX 6 = .inr (1, [0, 0, 0, 0, 0]) := rfl
theorem sx_7 : shX 7 = .inr (1, [0, 0, 0, 0, 0]) := rfl
theorem sx_8 : shX 8 = .inr (1, [0, 0, 0, 0, 0]) := rfl
theorem sx_9 : shX 9 = .inr (1, [0, 0, 0, 0, 0]) := rfl
theorem sx_10 : shX 10 = .inr (1, [0, 0, 0, 0, 0]) := rfl
theorem sx_11 : shX 11 = .inr (1, [0, 0, 0, 0, 0]) := rfl
theorem sx_12 : shX 12 = .inr (1, [0, 0, 0, 0, 0]) := rfl
theorem sx_13 : shX 13 = .inr (1, [0, 0, 0, 0, 0]) := rfl
theorem sx_14 : shX 14 = .inr (1, [0, 0, 0, 0, 0]) := rfl
theorem sx_15 : shX 15 = .inr (1, [0, 0, 0, 0, 0]) := rfl
theorem sx_16 : shX 16 = .inr (1, [0, 0, 0, 0, 0]) := rfl
theorem sx_17 : shX 17 = .inr (1, [0, 0, 0, 0, 0]) := rfl
theorem sx_18 : shX 18 = .inr (1, [0, 0, 0, 0, 0]) := rfl
theorem sx_19 : shX 19 = .inr (1, [0, 0, 0, 0, 0]) := rfl
theorem sx_20 : shX 20 = .inr (1, [0, 0, 0, 0, 0]) := rfl
theorem sx_21 : shX 21 = .inr (1, [0, 0, 0, 0, 0]) := rfl
theorem sx_22 : shX 22 = .inr (1, [0, 0, 0, 0, 0]) := rfl
theorem sx_23 : shX 23 = .inr (1, [0, 0, 0, 0, 0]) := rfl
theorem sx_24 : shX 24 = .inr (1, [0, 0, 0, 0, 0]) := rfl
theorem sx_25 : shX 25 = .inr (1, [0, 0, 0, 0, 0]) := rfl
theorem sx_26 : shX 26 = .inr (1, [0, 0, 0, 0, 0]) := rfl
theorem sx_27 : shX 27 = .inr (1, [0, 0, 0, 0, 0]) := rfl
theorem sx_28 : shX 28 = .inr (1, [0, 0, 0, 0, 0]) := rfl
theorem sx_29 : shX 29 = .inr (1, [0, 0, 0, 0, 0]) := rfl
theorem sx_30 : shX 30 = .inr (11, [0 + 2, 1 + 2, 2 + 2, 0, 31 + 2, 33 + 2, 37 + 2, 63 + 2, 64 + 2, 65 + 2, 66 + 2]) := rfl
theorem sx_31 : shX 31 = .inr (7, [32 + 2, 0]) := rfl
theorem sx_32 : shX 32 = .inl (0, 160, 0) := rfl
theorem sx_33 : shX 33 = .inr (3, [34 + 2, 0, 0]) := rfl
theorem sx_34 : shX 34 = .inr (10, [35 + 2, 36 + 2, 0]) := rfl
theorem sx_35 : shX 35 = .inl (0, 161, 0) := rfl
theorem sx_36 : shX 36 = .inl (0, 161, 0) := rfl
theorem sx_37 : shX 37 = .inr (9, [38 + 2, 0]) := rfl
theorem sx_38 : shX 38 = .inl (4, 6, 39) := rfl
theorem sx_39 : shX 39 = .inr (8, [45 + 2, 51 + 2, 57 + 2, 0]) := rfl
theorem sx_40 : shX 40 = .inr (8, [46 + 2, 52 + 2, 58 + 2, 0]) := rfl
theorem sx_41 : shX 41 = .inr (8, [47 + 2, 53 + 2, 59 + 2, 0]) := rfl
theorem sx_42 : shX 42 = .inr (8, [48 + 2, 54 + 2, 60 + 2, 0]) := rfl
theorem sx_43 : shX 43 = .inr (8, [49 + 2, 55 + 2, 61 + 2, 0]) := rfl
theorem sx_44 : shX 44 = .inr (8, [50 + 2, 56 + 2, 62 + 2, 0]) := rfl
theorem sx_45 : shX 45 = .inl (0, 160, 0) := rfl
theorem sx_46 : shX 46 = .inl (0, 160, 0) := rfl
theorem sx_47 : shX 47 = .inl (0, 160, 0) := rfl
theorem sx_48 : shX 48 = .inl (0, 160, 0) := rfl
theorem sx_49 : shX 49 = .inl (0, 160, 0) := rfl
theorem sx_50 : shX 50 = .inl (0, 160, 0) := rfl
theorem sx_51 : shX 51 = .inl (0, 3, 0) := rfl
theorem sx_52 : shX 52 = .inl (0, 3, 0) := rfl
theorem sx_53 : shX 53 = .inl (0, 3, 0) := rfl
theorem sx_54 : shX 54 = .inl (0, 3, 0) := rfl
theorem sx_55 : shX 55 = .inl (0, 3, 0) := rfl
theorem sx_56 : shX 56 = .inl (0, 3, 0) := rfl
theorem sx_57 : shX 57 = .inl (0, 40, 0) := rfl
theorem sx_58 : shX 58 = .inl (0, 40, 0) := rfl
theorem sx_59 : shX 59 = .inl (0, 40, 0) := rfl
theorem sx_60 : shX 60 = .inl (0, 40, 0) := rfl
theorem sx_61 : shX 61 = .inl (0, 40, 0) := rfl
theorem sx_62 : shX 62 = .inl (0, 40, 0) := rfl
theorem sx_63 : shX 63 = .inr (4, [37 + 2]) := rfl
theorem sx_64 : shX 64 = .inr (0, [0, 0, 0]) := rfl
theorem sx_65 : shX 65 = .inr (2, [1, 1]) := rfl
theorem sx_66 : shX 66 = .inl (3, 4, 67) := rfl
theorem sx_67 : shX 67 = .inr (5, [0, 0, 71 + 2]) := rfl
theorem sx_68 : shX 68 = .inr (5, [0, 0, 72 + 2]) := rfl
theorem sx_69 : shX 69 = .inr (5, [0, 0, 73 + 2]) := rfl
theorem sx_70 : shX 70 = .inr (5, [0, 0, 74 + 2]) := rfl
theorem sx_71 : shX 71 = .inl (0, 40, 0) := rfl
theorem sx_72 : shX 72 = .inl (0, 40, 0) := rfl
theorem sx_73 : shX 73 = .inl (0, 40, 0) := rfl
theorem sx_74 : shX 74 = .inl (0, 40, 0) := rfl
theorem sx_st {s : Nat} (h : s < 3) : shX s = .inr (6, [0, 0, 0, 0, 0, 0, 0, 3 + s + 2]) := by unfold shX; rw [if_pos h]
theorem sx_ca {s : Nat} (h : s < 3) : shX (3 + s) = .inl (2, 8, 6 + 8 * s) := by unfold shX; rw [if_neg (by omega), if_pos (by omega), Nat.add_sub_cancel_left]
theorem sx_cu {c : Nat} (h : 6 ≤ c) (h2 : c < 30) : shX c = .inr (1, [0, 0, 0, 0, 0]) := by unfold shX; rw [if_neg (by omega), if_neg (by omega), if_pos (by omega)]
theorem sx_tx {j : Nat} (h : j < 6) : shX (39 + j) = .inr (8, [45 + j + 2, 51 + j + 2, 57 + j + 2, 0]) := by unfold shX; rw [if_neg (by omega), if_neg (by omega), if_neg (by omega), if_neg (by omega), if_pos (by omega), Nat.add_sub_cancel_left]
theorem sx_ts {j : Nat} (h : j < 6) : shX (45 + j) = .inl (0, 160, 0) := by unfold shX; rw [if_neg (by omega), if_neg (by omega), if_neg (by omega), if_neg (by omega), if_neg (by omega), if_pos (by omega)]
theorem sx_te {j : Nat} (h : j < 6) : shX (51 + j) = .inl (0, 3, 0) := by unfold shX; rw [if_neg (by omega), if_neg (by omega), if_neg (by omega), if_neg (by omega), if_neg (by omega), if_neg (by omega), if_pos (by omega)]
theorem sx_tk {j : Nat} (h : j < 6) : shX (57 + j) = .inl (0, 40, 0) := by unfold shX; rw [if_neg (by omega), if_neg (by omega), if_neg (by omega), if_neg (by omega), if_neg (by omega), if_neg (by omega), if_neg (by omega), if_pos (by omega)]
theorem sx_sh {k : Nat} (h : k < 4) : shX (67 + k) = .inr (5, [0, 0, 71 + k + 2]) := by unfold shX; rw [if_neg (by omega), if_neg (by omega), if_neg (by omega), if_neg (by omega), if_neg (by omega), if_neg (by omega), if_neg (by omega), if_neg (by omega), if_neg (by omega), if_pos (by omega), Nat.add_sub_cancel_left]
theorem sx_ce {k : Nat} (h : k < 4) : shX (71 + k) = .inl (0, 40, 0) := by unfold shX; rw [if_neg (by omega), if_neg (by omega), if_neg (by omega), if_neg (by omega), if_neg (by omega), if_neg (by omega), if_neg (by omega), if_neg (by omega), if_neg (by omega), if_neg (by omega)]
/-- the class's constant rows and texts -/
def xTab : List (String × List Int32) := [("LEAST_SET", [1, 1, 0, 0, 0, 0, 0, 0]), ("MOST_SET", [40, 6, 1, 1023, 99, 9, 9, 99]), ("UNDER", [-1, 0, 0, 1, 2, 0]), ("LEAST_TOLD_OF", [0, 0, 0, 0, 0, 0, 1, 0]), ("MOST_TOLD_OF", [0, 5, 9, 99, 99, 9, 6, 5])]
def xByt : List (List Int32) := wordsF ++ [[], signsF, [101, 97, 116, 115, 32, 49, 32, 43, 32, 104, 117, 110, 103, 101, 114, 32, 60, 32, 50, 48, 32, 59, 32, 111, 100, 100, 115, 32, 54, 32, 45, 32, 103, 105, 114, 108, 32, 59, 32, 115, 112, 101, 110, 100, 115, 32, 51, 48, 32, 59]]
def xLen : List Nat := [4, 6, 6, 4, 4, 5, 4, 4, 6, 2, 3, 3, 0, 8, 50]
def xStr : List (String × Nat × String) := [(RX10, 80, "hour"), (RX10, 82, "hunger"), (RX10, 84, "number"), (RX10, 86, "girl"), (RX10, 88, "cube"), (RX10, 90, "sorts"), (RX10, 92, "eats"), (RX10, 94, "odds"), (RX10, 96, "spends"), (RX10, 98, "or"), (RX10, 100, "and"), (RX10, 102, "not"), (RX10, 104, ""), (RX10, 53, "();+-*<="), (RX11, 77, "eats 1 + hunger < 20 ; odds 6 - girl ; spends 30 ;")]
def xTs (i : Nat) : String × List Int32 := xTab.getD i ("", [])
def xSs (i : Nat) : String × Nat × String := xStr.getD i ("", 0, "")
def gX (E : mw_E) (U : State) : Prop :=
  (∀ i, i < 5 → va_Z RX11 (xTs i).1 "[I" (.ref (mw_t E i)) (mw_A 75 E) U U.heap ∧ va_T .int (mw_t E i) (xTs i).2.length (fun j => .int ((xTs i).2.getD j 0)) (mw_A 75 E) U U.heap)
  ∧ va_Z "java/lang/String" "COMPACT_STRINGS" "Z" (.int 1) (mw_A 75 E) U U.heap
  ∧ va_Zq "jdk/internal/util/Preconditions" "SIOOBE_FORMATTER" "Ljava/util/function/BiFunction;" (mw_A 75 E) U U.heap
  ∧ vk_S 15 xLen xByt (mw_k E) (mw_v E) (mw_A 75 E) U U.heap
  ∧ (∀ i, i < 15 → vk_R (xSs i).1 (xSs i).2.1 (xSs i).2.2 (mw_k E i) U)
  ∧ va_Nw (.methodLinkNest RX8 37 yX11_bounded RX11) U ∧ va_Nw (.methodLinkNest RX4 38 yX11_bounded RX11) U ∧ va_Nw (.methodLinkNest RX5 22 yX11_bounded RX11) U ∧ va_Nw (.native arraycopyName) U
theorem gX_ok : mw_Go 75 gX := by
  constructor
  · intro E U g mk a h
    obtain ⟨h1, h2, h3, h4, h5, n1, n2, n3, n4⟩ := h
    have hA : U.vm.Alike (U.calling g mk a).vm := Vm.Alike.refl U.vm
    exact ⟨fun i hi => ⟨va_Z.moved hA (h1 i hi).1, va_T.moved hA (h1 i hi).2⟩, va_Z.moved hA h2, va_Zq.moved hA h3, vk_S.moved hA h4, fun i hi => vk_R.same rfl (h5 i hi), va_Nw.same rfl rfl n1, va_Nw.same rfl rfl n2, va_Nw.same rfl rfl n3, va_Nw.same rfl rfl n4⟩
  · intro E U V h hW hq
    obtain ⟨h1, h2, h3, h4, h5, n1, n2, n3, n4⟩ := h
    have hA := hW.alike
    exact ⟨fun i hi => ⟨va_Z.kept (va_Z.moved hA (h1 i hi).1) hq, va_T.kept (va_T.moved hA (h1 i hi).2) hq⟩, va_Z.kept (va_Z.moved hA h2) hq, va_Zq.kept (va_Zq.moved hA h3) hq, vk_S.kept (vk_S.moved hA h4) hq, fun i hi => vk_R.warm hW (h5 i hi), va_Nw.warmM hW n1, va_Nw.warmM hW n2, va_Nw.warmM hW n3, va_tabs rfl (rfl : (U.setVm V.vm).vm = V.vm) (by rw [Cond.native_setVm hW.alike]; exact n4)⟩
abbrev xCi := mw_Ci shX 75 gX
abbrev xWi (p : Program) (l : Launch) (e : Env) (rm : Room) (s : State) (m : MethodId) (av : List Value) (below : List Frame) (meth : Method) (c : Code) (E : mw_E) (post : Int32 → mw_M → Prop) (H : Heap) (locs : List Loc) (g : JFrame) : Prop := W p l e rm s m av.toArray below meth c H locs 0 0 (MQ below (va_Qi post (mw_In shX 75 gX E) (mw_A 75 E)) av.toArray s 0 0 (mw_A 75 E)) g
abbrev xWl (p : Program) (l : Launch) (e : Env) (rm : Room) (s : State) (m : MethodId) (av : List Value) (below : List Frame) (meth : Method) (c : Code) (E : mw_E) (post : Int64 → mw_M → Prop) (H : Heap) (locs : List Loc) (g : JFrame) : Prop := W p l e rm s m av.toArray below meth c H locs 0 0 (MQ below (va_Ql post (mw_In shX 75 gX E) (mw_A 75 E)) av.toArray s 0 0 (mw_A 75 E)) g
abbrev xWv (p : Program) (l : Launch) (e : Env) (rm : Room) (s : State) (m : MethodId) (av : List Value) (below : List Frame) (meth : Method) (c : Code) (E : mw_E) (post : mw_M → Prop) (H : Heap) (locs : List Loc) (g : JFrame) : Prop := W p l e rm s m av.toArray below meth c H locs 0 0 (MQ below (va_Qv post (mw_In shX 75 gX E) (mw_A 75 E)) av.toArray s 0 0 (mw_A 75 E)) g
/-- a contract of a JDK method out of the walk of its body -/
theorem mw_ofJ {l : Launch} {y : MethodName} {cc : ByteArray} {nL : Nat} {rt : Option FieldType} {rm : Room} {sh : Nat → mw_Sh} {N : Nat} {G : mw_E → State → Prop} {E : mw_E} {σ : mw_M} {av : List Value} {Qc : Array Value → State → Outcome → State → Prop} (hy : plainFor y = true) (hGo : mw_Go N G) (hlen : (lg_sl av).length ≤ nL)
    (body : ∀ (p : Program) (e : Env) (s : State) (m : MethodId) (below : List Frame) (meth : Method) (c : Code), CallFix p m c cc nL s av.toArray lw_good y.cls → meth.sig.returnType = rt → meth.locks = false → mw_Z N G E s → va_P (mw_D E) vwCl (mw_ws sh N E σ) s.heap → ∀ ls : Array Slot, lv_has ls nL (lv_args 0 av) → W p l e rm s m av.toArray below meth c s.heap [] 0 0 (MQ below Qc av.toArray s 0 0 (mw_A N E)) (F0 m 0 ls [])) : Met l y (wT y cc nL rt) rm (va_Pc av (mw_In sh N G E σ)) Qc 0 0 (mw_A N E) := by
  refine MetFree.of_bodySF (code := cc) (maxLocals := nL) (ret := rt) hy ?_ ?_
  · intro args s m h hn
    obtain ⟨meth, c, h1, h2, h3, h4, h5, h6, -, -⟩ := Cond.code_spec hn (atoms_spec (ws := wT y cc nL rt) h _ List.mem_cons_self)
    exact ⟨meth, c, h1, h2, h3, h4, h5, h6⟩
  · intro p e s m args below meth c s₁ B hml hv _
    obtain ⟨rfl, hP, hK, hJ, hG⟩ := hv
    have hh0 : s₁.heap = s.heap := by rw [B.state]; rfl
    have hts := atoms_spec (ws := wT y cc nL rt) B.pre
    have bd : W p l e rm s m av.toArray below meth c s.heap [] 0 0 (MQ below Qc av.toArray s 0 0 (mw_A N E)) (entryFrame m av.toArray nL) := by
      rw [lg_entry_eq]
      exact body p e s m below meth c ⟨B.exec, B.bytes, hml, findClass_of_methodNamed B.named, fun w h => hts w (List.mem_cons_of_mem _ h)⟩ B.returns B.notSynchronized ⟨hK, hJ, hG, hGo⟩ hP _ (lv_entry av hlen)
    obtain ⟨t, a1, o, b1, b2, b3⟩ := bd s₁ hh0 (Stand.of_body B)
    exact ⟨t, o, a1, b1, b2, ⟨b3.1, b3.2⟩⟩
section XWR
variable {p : Program} {l : Launch} {e : Env} {R : Room} {s : State} {m : MethodId} {args : Array Value} {below : List Frame} {meth : Method} {c : Code} {H : Heap} {locs : List Loc} {cells slots : Nat} {Q : State → Prop}
variable {cc : ByteArray} {nL pc : Nat} {ls : Array Slot} {rest : List Value} {Ts : List Cond} {own : String} {sh : Nat → mw_Sh} {N : Nat} {G : mw_E → State → Prop} {E : mw_E} {σ : mw_M}
/-- a constant row's address, an int of it, its length -/
theorem xw_gets (C : CallFix p m c cc nL s args Ts own) (Z : mw_Z 75 gX E s) (hS : va_S (mw_A 75 E) s.heap H locs) (i : Nat) {index : Nat} (hi : i < 5) (hl : Cond.fieldLink own index RX11 (xTs i).1 "[I" ∈ Ts) (hd : decode cc pc = .ok (.getstatic index, 3))
    (kk : W p l e R s m args below meth c H locs cells slots Q (F0 m (pc + 3) ls (.ref (mw_t E i) :: rest))) : W p l e R s m args below meth c H locs cells slots Q (F0 m pc ls rest) :=
  va_gets C.1 C.2.1 (Z.2.2.1.1 i hi).1 hS C.2.2.2.1 (C.2.2.2.2 _ hl) (fun _ h => h) hd kk
theorem xw_tld (C : CallFix p m c cc nL s args Ts own) (Z : mw_Z 75 gX E s) (hS : va_S (mw_A 75 E) s.heap H locs) (i j : Nat) {x : Int32} (hi : i < 5) (he : x = nI j) (hj : j < (xTs i).2.length) (hn : (xTs i).2.length < 2 ^ 31) (hd : decode cc pc = .ok (.iaload, 1))
    (kk : W p l e R s m args below meth c H locs cells slots Q (F0 m (pc + 1) ls (.int ((xTs i).2.getD j 0) :: rest))) : W p l e R s m args below meth c H locs cells slots Q (F0 m pc ls (.int x :: .ref (mw_t E i) :: rest)) := by
  subst he
  refine va_ti C.1 C.2.1 (Z.2.2.1.1 i hi).2 hS (vp_in_nI hj hn) (v := .int ((xTs i).2.getD j 0)) ?_ hd kk
  rw [nI_clamp (by omega)]
theorem xw_tlen (C : CallFix p m c cc nL s args Ts own) (Z : mw_Z 75 gX E s) (hS : va_S (mw_A 75 E) s.heap H locs) (i : Nat) (hi : i < 5) {v : Int32} (hv : Int32.ofNat (xTs i).2.length = v) (hd : decode cc pc = .ok (.arraylength, 1))
    (kk : W p l e R s m args below meth c H locs cells slots Q (F0 m (pc + 1) ls (.int v :: rest))) : W p l e R s m args below meth c H locs cells slots Q (F0 m pc ls (.ref (mw_t E i) :: rest)) :=
  va_tlen C.1 C.2.1 (Z.2.2.1.1 i hi).2 hS hv hd kk
/-- a text -/
theorem xw_ldcS (C : CallFix p m c cc nL s args Ts own) (Z : mw_Z 75 gX E s) (i : Nat) (hi : i < 15) {index : Nat} (hx : (xSs i).1 = own ∧ (xSs i).2.1 = index) (hd : decode cc pc = .ok (.ldc index, 2))
    (kk : W p l e R s m args below meth c H locs cells slots Q (F0 m (pc + 2) ls (.ref (mw_k E i) :: rest))) : W p l e R s m args below meth c H locs cells slots Q (F0 m pc ls rest) := by
  obtain ⟨rfl, rfl⟩ := hx
  exact va_ldcS C.1 C.2.1 C.2.2.2.1 (Z.2.2.1.2.2.2.2.1 i hi) hd kk
/-- a reference as an answer -/
theorem mw_aret {w : Nat} {ty : FieldType} {postv : mw_M → Prop} (C : CallFix p m c cc nL s args Ts own) (hr : meth.sig.returnType = some ty) (hlk : meth.locks = false) (Z : mw_Z N G E s) (hP : va_P (mw_D E) vwCl (mw_ws sh N E σ) H) (hS : va_S (mw_A N E) s.heap H locs) (hty : (∃ n, ty = .object n) ∨ ∃ t, ty = .array t) (hd : decode cc pc = .ok (.areturn, 1)) (hq : postv σ) : W p l e R s m args below meth c H locs cells slots (MQ below (va_Qr postv (fun u a t => a = w ∧ mw_In sh N G E u t) (mw_A N E)) args s cells slots (mw_A N E)) (F0 m pc ls [.ref w]) :=
  W.aret C.1 C.2.1 hr hty (Or.inr ⟨w, rfl⟩) (fun t ht hW => ⟨⟨σ, w, rfl, hq, rfl, Z.goes hP hS ht hW⟩, hS.F ht⟩) hS.2.2 hd (hlocks := hlk)
variable {y : MethodName} {bytes : ByteArray} {maxL n index : Nat} {ret : Option FieldType} {rm : Room} {Cn host : String} {As st0 : List Value} {post : Int32 → mw_M → Prop} {postl : Int64 → mw_M → Prop} {postv : mw_M → Prop}
theorem mw_cSv (C : CallFix p m c cc nL s args lw_good own) (Z : mw_Z N G E s) (hP : va_P (mw_D E) vwCl (mw_ws sh N E σ) H) (hS : va_S (mw_A N E) s.heap H locs) (hM : mw_Cv sh N G l y bytes maxL ret rm E As σ postv) (hB : mw_SB y bytes maxL ret n) (hl : .methodLink own index y ∈ lw_good) (hrc : rm.cells = 0 ∧ rm.slots = 0) (hR : rm.frames + 1 ≤ R.frames ∧ 8 + (maxL + 11) + rm.locals ≤ R.locals) (hn : As.length = n) (hsz : ls.size = nL) (hst : st0 = As.reverse ++ rest) (hro : (rest.map fun v => v.category).sum ≤ 8) (hd : decode cc pc = .ok (.invokestatic index, 3)) (hf : cells ≤ R.cells ∧ slots ≤ R.slots)
    (kk : ∀ (u : mw_M) (H1 : Heap) (locs1 : List Loc), postv u → va_P (mw_D E) vwCl (mw_ws sh N E u) H1 → va_S (mw_A N E) s.heap H1 locs1 → W p l e R s m args below meth c H1 locs1 cells slots Q (F0 m (pc + 3) ls rest)) : W p l e R s m args below meth c H locs cells slots Q (F0 m pc ls st0) :=
  va_callv (va_runS C hM (va_cwS n C.2.2.2.2 (mw_gS hl hB) rfl hrc.1 hrc.2 hB.2 hR) ⟨mw_blind Z _, fun U hU hW => ⟨rfl, Z.goes hP hS hU hW⟩⟩ rfl hn hsz hst (lv_room hro) hd hf) hS (fun _ _ h => h) (fun _ h => h) (fun u t H1 locs1 ht _ hp hB _ _ hS1 => kk u H1 locs1 hp (by rw [← ht]; exact hB.1) hS1)
theorem mw_cSr {w : Nat} (C : CallFix p m c cc nL s args lw_good own) (Z : mw_Z N G E s) (hP : va_P (mw_D E) vwCl (mw_ws sh N E σ) H) (hS : va_S (mw_A N E) s.heap H locs) (hM : mw_Cr sh N G l y bytes maxL ret rm E As σ postv w) (hB : mw_SB y bytes maxL ret n) (hl : .methodLink own index y ∈ lw_good) (hrc : rm.cells = 0 ∧ rm.slots = 0) (hR : rm.frames + 1 ≤ R.frames ∧ 8 + (maxL + 11) + rm.locals ≤ R.locals) (hn : As.length = n) (hsz : ls.size = nL) (hst : st0 = As.reverse ++ rest) (hro : (rest.map fun v => v.category).sum ≤ 8) (hd : decode cc pc = .ok (.invokestatic index, 3)) (hf : cells ≤ R.cells ∧ slots ≤ R.slots)
    (kk : ∀ (u : mw_M) (H1 : Heap) (locs1 : List Loc), postv u → va_P (mw_D E) vwCl (mw_ws sh N E u) H1 → va_S (mw_A N E) s.heap H1 locs1 → W p l e R s m args below meth c H1 locs1 cells slots Q (F0 m (pc + 3) ls (.ref w :: rest))) : W p l e R s m args below meth c H locs cells slots Q (F0 m pc ls st0) :=
  va_callr (va_runS C hM (va_cwS n C.2.2.2.2 (mw_gS hl hB) rfl hrc.1 hrc.2 hB.2 hR) ⟨mw_blind Z _, fun U hU hW => ⟨rfl, Z.goes hP hS hU hW⟩⟩ rfl hn hsz hst (lv_room hro) hd hf) hS (fun _ _ h => h) (fun _ h => h) (fun u ra t H1 locs1 ht _ hp hB _ _ hS1 => by obtain ⟨rfl, hB⟩ := hB; exact kk u H1 locs1 hp (by rw [← ht]; exact hB.1) hS1)
/-- a nest mate's static method -/
theorem mw_cSiN (C : CallFix p m c cc nL s args lw_good own) (Z : mw_Z N G E s) (hP : va_P (mw_D E) vwCl (mw_ws sh N E σ) H) (hS : va_S (mw_A N E) s.heap H locs) (hM : mw_Ci sh N G l y bytes maxL ret rm E As σ post) (hB : mw_SB y bytes maxL ret n) (hl : va_Nw (.methodLinkNest own index y host) s) (hrc : rm.cells = 0 ∧ rm.slots = 0) (hR : rm.frames + 1 ≤ R.frames ∧ 8 + (maxL + 11) + rm.locals ≤ R.locals) (hn : As.length = n) (hsz : ls.size = nL) (hst : st0 = As.reverse ++ rest) (hro : (rest.map fun v => v.category).sum ≤ 8) (hd : decode cc pc = .ok (.invokestatic index, 3)) (hf : cells ≤ R.cells ∧ slots ≤ R.slots)
    (kk : ∀ (r : Int32) (u : mw_M) (H1 : Heap) (locs1 : List Loc), post r u → va_P (mw_D E) vwCl (mw_ws sh N E u) H1 → va_S (mw_A N E) s.heap H1 locs1 → W p l e R s m args below meth c H1 locs1 cells slots Q (F0 m (pc + 3) ls (.int r :: rest))) : W p l e R s m args below meth c H locs cells slots Q (F0 m pc ls st0) :=
  va_calli (va_runSN C hM ⟨va_cnB n C.2.2.2.2 (wT_good hB.1.2.2) rfl hrc.1 hrc.2 hl (C.2.2.2.2 _ hB.1.2.1) hB.2 hR, C.2.2.2.2 _ hB.1.1, trivial⟩ ⟨mw_blind Z _, fun U hU hW => ⟨rfl, Z.goes hP hS hU hW⟩⟩ rfl hn hsz hst (lv_room hro) hd hf) hS (fun _ _ h => h) (fun _ h => h) (fun r u t H1 locs1 ht _ hp hB _ _ hS1 => kk r u H1 locs1 hp (by rw [← ht]; exact hB.1) hS1)
/-- a call of a constant text's method -/
theorem xw_cTi (C : CallFix p m c cc nL s args lw_good own) (Z : mw_Z 75 gX E s) (hP : va_P (mw_D E) vwCl (mw_ws shX 75 E σ) H) (hS : va_S (mw_A 75 E) s.heap H locs) (i : Nat) (hi : i < 15) (hM : mw_Ci shX 75 gX l y bytes maxL ret rm E (.ref (mw_k E i) :: As) σ post) (hB : mw_VB y "java/lang/String" bytes maxL ret n) (hl : .methodLink own index y ∈ lw_good) (hrc : rm.cells = 0 ∧ rm.slots = 0) (hR : rm.frames + 1 ≤ R.frames ∧ 8 + (maxL + 11) + rm.locals ≤ R.locals) (hn : As.length = n) (hsz : ls.size = nL) (hst : st0 = As.reverse ++ .ref (mw_k E i) :: rest) (hro : (rest.map fun v => v.category).sum ≤ 8) (hd : decode cc pc = .ok (.invokevirtual index, 3)) (hf : cells ≤ R.cells ∧ slots ≤ R.slots)
    (kk : ∀ (r : Int32) (u : mw_M) (H1 : Heap) (locs1 : List Loc), post r u → va_P (mw_D E) vwCl (mw_ws shX 75 E u) H1 → va_S (mw_A 75 E) s.heap H1 locs1 → W p l e R s m args below meth c H1 locs1 cells slots Q (F0 m (pc + 3) ls (.int r :: rest))) : W p l e R s m args below meth c H locs cells slots Q (F0 m pc ls st0) :=
  va_calli (va_runV C hM (cwV n C.2.2.2.2 (mw_gV hl hB) rfl hrc.1 hrc.2 hB.2 hR) ⟨mw_blind Z _, vk_recv Z.2.2.1.2.2.2.1 hi hS, fun U hU hW => ⟨rfl, Z.goes hP hS hU hW⟩⟩ rfl hn hsz hst (lv_room hro) hd hf) hS (fun _ _ h => h) (fun _ h => h) (fun r u t H1 locs1 ht _ hp hB _ _ hS1 => kk r u H1 locs1 hp (by rw [← ht]; exact hB.1) hS1)
/-- a constant text's own fields, its bytes -/
theorem xw_val (C : CallFix p m c cc nL s args Ts own) (Z : mw_Z 75 gX E s) (hS : va_S (mw_A 75 E) s.heap H locs) (i : Nat) (hi : i < 15) (hl : Cond.fieldLink own index "java/lang/String" "value" "[B" ∈ Ts) (hd : decode cc pc = .ok (.getfield index, 3))
    (kk : W p l e R s m args below meth c H locs cells slots Q (F0 m (pc + 3) ls (.ref (mw_v E i) :: rest))) : W p l e R s m args below meth c H locs cells slots Q (F0 m pc ls (.ref (mw_k E i) :: rest)) :=
  vk_getf C.1 C.2.1 (Z.2.2.1.2.2.2.1.1 i hi).2.2.1 hS C.2.2.2.1 (C.2.2.2.2 _ hl) (fun _ h => h) hd kk
theorem xw_cod (C : CallFix p m c cc nL s args Ts own) (Z : mw_Z 75 gX E s) (hS : va_S (mw_A 75 E) s.heap H locs) (i : Nat) (hi : i < 15) (hl : Cond.fieldLink own index "java/lang/String" "coder" "B" ∈ Ts) (hd : decode cc pc = .ok (.getfield index, 3))
    (kk : W p l e R s m args below meth c H locs cells slots Q (F0 m (pc + 3) ls (.int 0 :: rest))) : W p l e R s m args below meth c H locs cells slots Q (F0 m pc ls (.ref (mw_k E i) :: rest)) :=
  vk_getf C.1 C.2.1 (Z.2.2.1.2.2.2.1.1 i hi).2.1 hS C.2.2.2.1 (C.2.2.2.2 _ hl) (fun _ h => h) hd kk
theorem xw_com (C : CallFix p m c cc nL s args Ts own) (Z : mw_Z 75 gX E s) (hS : va_S (mw_A 75 E) s.heap H locs) (hl : Cond.fieldLink own index "java/lang/String" "COMPACT_STRINGS" "Z" ∈ Ts) (hd : decode cc pc = .ok (.getstatic index, 3))
    (kk : W p l e R s m args below meth c H locs cells slots Q (F0 m (pc + 3) ls (.int 1 :: rest))) : W p l e R s m args below meth c H locs cells slots Q (F0 m pc ls rest) :=
  va_gets C.1 C.2.1 Z.2.2.1.2.1 hS C.2.2.2.1 (C.2.2.2.2 _ hl) (fun _ h => h) hd kk
theorem xw_bld (C : CallFix p m c cc nL s args Ts own) (Z : mw_Z 75 gX E s) (hS : va_S (mw_A 75 E) s.heap H locs) (i j : Nat) {x : Int32} (hi : i < 15) (he : x = nI j) (hj : j < xLen.getD i 0) (hn : xLen.getD i 0 < 2 ^ 31) (hd : decode cc pc = .ok (.baload, 1))
    (kk : W p l e R s m args below meth c H locs cells slots Q (F0 m (pc + 1) ls (.int ((xByt.getD i []).getD j 0) :: rest))) : W p l e R s m args below meth c H locs cells slots Q (F0 m pc ls (.int x :: .ref (mw_v E i) :: rest)) := by
  subst he
  refine va_tb C.1 C.2.1 (Z.2.2.1.2.2.2.1.1 i hi).2.2.2 hS (vp_in_nI hj hn) (v := .int ((xByt.getD i []).getD j 0)) ?_ hd kk
  rw [nI_clamp (by omega)]
theorem xw_blen (C : CallFix p m c cc nL s args Ts own) (Z : mw_Z 75 gX E s) (hS : va_S (mw_A 75 E) s.heap H locs) (i : Nat) (hi : i < 15) (hd : decode cc pc = .ok (.arraylength, 1))
    (kk : W p l e R s m args below meth c H locs cells slots Q (F0 m (pc + 1) ls (.int (nI (xLen.getD i 0)) :: rest))) : W p l e R s m args below meth c H locs cells slots Q (F0 m pc ls (.ref (mw_v E i) :: rest)) :=
  va_tlen C.1 C.2.1 (Z.2.2.1.2.2.2.1.1 i hi).2.2.2 hS rfl hd kk
def mw_sA (σ : mw_M) (k : Nat) (g : Nat → Int32) : mw_M := (σ.1, va_up σ.2.1 k g, σ.2.2)
theorem mw_upA {k ty n b : Nat} {g : Nat → Int32} (hk : k < N) (hs : sh k = .inl (ty, n, b)) (ht : ty < 2) : (mw_ws sh N E σ).set k (mw_a E k, .inl (mw_c E ty, n, .inl g)) = mw_ws sh N E (mw_sA σ k g) := by
  refine mw_upd hk ?_ (fun j hj => ?_)
  · rw [hs]
    show Sum.inl (mw_c E ty, n, if ty < 2 then Sum.inl (va_up σ.2.1 k g k) else _) = _
    rw [if_pos ht, va_up_self]
  · exact mw_cel_congr E (σ := σ) (σ' := mw_sA σ k g) rfl (va_up_ne _ _ hj) rfl _
/-- a row copied -/
theorem mw_acopy (C : CallFix p m c cc nL s args Ts own) (Z : mw_Z N G E s) (hP : va_P (mw_D E) vwCl (mw_ws sh N E σ) H) (hS : va_S (mw_A N E) s.heap H locs) (k0 k1 a b d : Nat) {n0 b0 n1 b1 : Nat} (hk0 : k0 < N) (hs0 : sh k0 = .inl (0, n0, b0)) (hk1 : k1 < N) (hs1 : sh k1 = .inl (0, n1, b1)) (h4 : a + d ≤ n0) (h5 : b + d ≤ n1) (hn0 : n0 < 2 ^ 30) (hn1 : n1 < 2 ^ 30) (hl : Cond.methodLink own index arraycopyName ∈ Ts) (hnat : va_Nw (.native arraycopyName) s) (hst : Cond.static arraycopyName ∈ Ts) (hini : Cond.initialized "java/lang/System" ∈ Ts) (hsz : ls.size = nL) (hfr : 1 ≤ R.frames) (hlo : (rest.map fun v => v.category).sum + (nativeFrameWords "java/lang/System" "arraycopy" 5 + 11) ≤ R.locals) (hd : decode cc pc = .ok (.invokestatic index, 3))
    (kk : ∀ (H1 : Heap) (locs1 : List Loc), va_P (mw_D E) vwCl (mw_ws sh N E (mw_sA σ k1 (va_cpy (σ.2.1 k0) (σ.2.1 k1) a b d))) H1 → va_S (mw_A N E) s.heap H1 locs1 → W p l e R s m args below meth c H1 locs1 cells slots Q (F0 m (pc + 3) ls rest)) : W p l e R s m args below meth c H locs cells slots Q (F0 m pc ls (.int (nI d) :: .int (nI b) :: .ref (mw_a E k1) :: .int (nI a) :: .ref (mw_a E k0) :: rest)) := by
  refine va_copyi C.1 C.2.1 (C.2.2.1.trans hsz.symm) C.2.2.2.1 (C.2.2.2.2 _ hl) (va_Nw.use rfl hnat) (C.2.2.2.2 _ hst) (C.2.2.2.2 _ hini) Z.1 hP (mw_DD Z.2.1) hS k0 k1 0 0 (mw_ca hk0 hs0 (by decide)) (mw_ca hk1 hs1 (by decide)) rfl rfl rfl (nI_pos (by omega)) (nI_pos (by omega)) (nI_pos (by omega)) ?_ ?_ (fun _ _ => rfl) hfr hlo hd (fun H1 locs1 h1 _ h3 => kk H1 locs1 ?_ h3)
  · rw [nI_clamp (by omega), nI_clamp (by omega)]; exact h4
  · rw [nI_clamp (by omega), nI_clamp (by omega)]; exact h5
  · rw [nI_clamp (by omega), nI_clamp (by omega), nI_clamp (by omega), mw_upA hk1 hs1 (by decide)] at h1
    exact h1
end XWR
