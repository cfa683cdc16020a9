/-! THE LAW: what its own rows stand on (the skeleton), the two worlds side by side -/
def R_law : String := "OneCubeEachLaw"
def lw_P (b : Addr) (xs : List Int32) (args : Array Value) (s : State) : Prop := args = #[.ref b] ∧ s.IntsAt b xs ∧ xs.length ≤ 3072 ∧ (Jvm.Cond.and given_1 narrow_1).before args s = true
def lw_Q (_ : Array Value) (s : State) (o : Outcome) (t : State) : Prop := o = .returned (some (.int 1)) ∧ Framed s o t [] 600000 7302250
def lw_Z (below : List Frame) (a : Array Value) (s : State) : State → Prop := fun t => ∃ o, t.status = .running ∧ Ended t below o ∧ lw_Q a s o t
/-- the law's own end, with 1 on the stack, nothing written that was there before, its room as the claim has it -/
theorem lw_ret {p : Program} {l : Launch} {e : Env} {s : State} {m : MethodId} {below : List Frame} {meth : Method} {c : Code} {b : Nat} (hx : p.tables.exec = Jvm.exec) (hb : c.code = code) (hr : meth.sig.returnType = ret) (hlocks : meth.locks = false) {pc : Nat} {H : Heap} {ls : Array Slot} (hdg : decode code pc = .ok (.ireturn, 1)) : W p l e room_1 s m #[Value.ref b] below meth c H [] 600000 7302250 (lw_Z below #[Value.ref b] s) (F0 m pc ls [.int 1]) := by
  intro T hT X
  obtain ⟨fs, hret, hrun, hended, hW, hframe⟩ := X.leave (v := some (.int 1)) (hlocks := hlocks) (fun h => by rw [hr] at h; cases h)
  have hmeth' : T.vm.method? m = some meth := X.method'
  refine ⟨T.setFrames fs, ?_, .returned (some (.int 1)), hrun, hended, rfl, ⟨_, rfl⟩, hW, hframe⟩
  jvm_step X.here [X.here.top, hx, hb, hdg, hmeth', hr, ret, narrow_b1]
  (try refine ⟨rfl, ?_⟩); (try refine ⟨rfl, ?_⟩)
  first | (intro acts; rw [hret _ acts rfl rfl rfl]) | rw [hret _ _ rfl rfl rfl]
  exact Steps.refl _
/-- what holds at the law's entry: the machine, the code, the tables' words (any of lw_tbl by 'hts w (by decide +kernel)'), the script of L ints xs at the cell b, what the Statement gives of the start (any of its parts by flat_of_before) -/
def lw_At (p : Program) (s : State) (m : MethodId) (meth : Method) (c : Code) (b L : Nat) (xs : Nat → Int32) : Prop :=
  p.tables.exec = Jvm.exec ∧ c.code = code ∧ meth.sig.returnType = ret ∧ c.maxLocals = 4 ∧ s.vm.findClass R_law = some m.cls ∧ (∀ w ∈ lw_tbl, w.before #[Value.ref b] s = true) ∧ va_X b L xs s s.heap ∧ b < s.heap.size ∧ meth.locks = false ∧ (Jvm.Cond.and given_1 narrow_1).before #[Value.ref b] s = true
theorem lw_kept {sh : Nat → mw_Sh} {N : Nat} {E : mw_E} {σ : mw_M} {H H1 : Heap} {A : Nat → Prop} (hP : va_P (mw_D E) vwCl (mw_ws sh N E σ) H) (hk : ∀ q : Nat, q < H.size → ¬ A q → H1[q]? = H[q]?) (hap : ∀ q, mw_A N E q → ¬ A q) : va_P (mw_D E) vwCl (mw_ws sh N E σ) H1 :=
  hP.kept (fun k x hx => hk x.1 ((hP k x hx).lt) (hap _ (by
    have hkN : k < N := by rw [← mw_len (sh := sh) (N := N) (E := E) (σ := σ)]; exact (List.getElem?_eq_some_iff.mp hx).1
    rw [mw_at hkN] at hx
    cases hx
    exact ⟨k, hkN, rfl⟩)))
/-- what stands through the law: its words, the script, the two worlds apart -/
def lwB (p : Program) (s : State) (m : MethodId) (meth : Method) (c : Code) (b L : Nat) (xs : Nat → Int32) (E F : mw_E) : Prop :=
  CallFix p m c cL_law 4 s #[Value.ref b] lw_good RL ∧ (meth.sig.returnType = ret ∧ meth.locks = false) ∧ (va_X b L xs s s.heap ∧ b < s.heap.size ∧ L ≤ 3072) ∧ geZ 75 gX E (gA s.heap.size) s ∧ geZ 13 gM F (gA s.heap.size) s ∧ ∀ q, mw_A 75 E q → ¬ mw_A 13 F q
abbrev lwL (b : Nat) (E F : mw_E) (i : Nat) : List (Nat × Value) := [(0, .ref b), (1, .ref (mw_a E 30)), (2, .ref (mw_a F 0)), (3, .int (nI i))]
def lwI (s : State) (E F : mw_E) (σ τ : mw_M) (H : Heap) (locs : List Loc) : Prop := RX σ τ ∧ va_P (mw_D E) vwCl (mw_ws shX 75 E σ) H ∧ va_P (mw_D F) vwCl (mw_ws shM 13 F τ) H ∧ va_S (gA s.heap.size) s.heap H locs
section LW
variable {p : Program} {l : Launch} {e : Env} {s : State} {m : MethodId} {below : List Frame} {meth : Method} {c : Code} {H : Heap} {locs : List Loc} {cells slots : Nat} {Q : State → Prop} {ls : Array Slot} {rest : List Value} {b L : Nat} {xs : Nat → Int32} {E F : mw_E} {σ τ : mw_M}
theorem lw_arg {pc i : Nat} {K : Int} (k : Nat) (B : lwB p s m meth c b L xs E F) (hS : va_S (gA s.heap.size) s.heap H locs) (hl : lv_has ls 4 (lwL b E F i)) (hi : i + 6 ≤ L) (hk : k < 6) (hK : Int32.ofInt K = nI k) (d0 : decode cL_law pc = .ok (.aload_n 0, 1)) (d1 : decode cL_law (pc + 1) = .ok (.iload_n 3, 1)) (d2 : decode cL_law (pc + 2) = .ok (.iconst K, 1)) (d3 : decode cL_law (pc + 3) = .ok (.iadd, 1)) (d4 : decode cL_law (pc + 4) = .ok (.iaload, 1)) (kk : W p l e room_1 s m #[Value.ref b] below meth c H locs cells slots Q (F0 m (pc + 5) ls (.int (xs (i + k)) :: rest))) : W p l e room_1 s m #[Value.ref b] below meth c H locs cells slots Q (F0 m pc ls rest) := by
  obtain ⟨C, -, ⟨hX, hbl, hL⟩, -, -, -⟩ := B
  have hbA : ¬ gA s.heap.size b := Nat.not_le.mpr hbl
  refine lv_aload_n C.1 C.2.1 d0 rfl (lv_at hl 0 rfl) ?_
  refine lv_iload_n C.1 C.2.1 d1 rfl (lv_at hl 3 rfl) ?_
  refine lv_iconst (v := nI k) C.1 C.2.1 d2 hK ?_
  refine lv_iadd C.1 C.2.1 d3 ?_
  refine mw_top (y := nI (i + k)) (nI_add i k) ?_
  refine va_sld C.1 C.2.1 hX hbl hbA hS (vp_in_nI (by omega) (by omega)) d4 ?_
  rw [nI_clamp (by omega)]
  exact kk
end LW
