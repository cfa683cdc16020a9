/-! THE CLASS'S STATICS APART FROM ITS CELLS; CALLS BESIDE OTHER CELLS -/
def sX (A : Nat → Prop) (tt kk vv : Nat → Nat) (U : State) : Prop :=
  (∀ i, i < 5 → va_Z RX11 (xTs i).1 "[I" (.ref (tt i)) A U U.heap ∧ va_T .int (tt i) (xTs i).2.length (fun j => .int ((xTs i).2.getD j 0)) A U U.heap)
  ∧ va_Z "java/lang/String" "COMPACT_STRINGS" "Z" (.int 1) A U U.heap
  ∧ va_Zq "jdk/internal/util/Preconditions" "SIOOBE_FORMATTER" "Ljava/util/function/BiFunction;" A U U.heap
  ∧ vk_S 15 xLen xByt kk vv A U U.heap
  ∧ (∀ i, i < 15 → vk_R (xSs i).1 (xSs i).2.1 (xSs i).2.2 (kk i) U)
  ∧ va_Nw (.methodLinkNest RX8 37 yX11_bounded RX11) U ∧ va_Nw (.methodLinkNest RX4 38 yX11_bounded RX11) U ∧ va_Nw (.methodLinkNest RX5 22 yX11_bounded RX11) U ∧ va_Nw (.native arraycopyName) U
theorem sX_g {E : mw_E} {U : State} (h : sX (mw_A 75 E) (mw_t E) (mw_k E) (mw_v E) U) : gX E U := h
theorem sX.narrow {A B : Nat → Prop} {tt kk vv : Nat → Nat} {U : State} (h : sX A tt kk vv U) (hAB : ∀ q, B q → A q) : sX B tt kk vv U :=
  ⟨fun i hi => ⟨(h.1 i hi).1.narrow hAB, (h.1 i hi).2.narrow hAB⟩, h.2.1.narrow hAB, h.2.2.1.narrow hAB, h.2.2.2.1.narrow hAB, h.2.2.2.2⟩
theorem sX_ok (b : Nat) (tt kk vv : Nat → Nat) : gOk b (sX (gA b) tt kk vv) := by
  constructor
  · intro U g mk a h
    obtain ⟨h1, h2, h3, h4, h5, n1, n2, n3, n4⟩ := h
    have hA : U.vm.Alike (U.calling g mk a).vm := Vm.Alike.refl U.vm
    exact ⟨fun i hi => ⟨va_Z.moved hA (h1 i hi).1, va_T.moved hA (h1 i hi).2⟩, va_Z.moved hA h2, va_Zq.moved hA h3, vk_S.moved hA h4, fun i hi => vk_R.same rfl (h5 i hi), va_Nw.same rfl rfl n1, va_Nw.same rfl rfl n2, va_Nw.same rfl rfl n3, va_Nw.same rfl rfl n4⟩
  · intro U V h hW hq
    obtain ⟨h1, h2, h3, h4, h5, n1, n2, n3, n4⟩ := h
    have hA := hW.alike
    exact ⟨fun i hi => ⟨va_Z.kept (va_Z.moved hA (h1 i hi).1) hq, va_T.kept (va_T.moved hA (h1 i hi).2) hq⟩, va_Z.kept (va_Z.moved hA h2) hq, va_Zq.kept (va_Zq.moved hA h3) hq, vk_S.kept (vk_S.moved hA h4) hq, fun i hi => vk_R.warm hW (h5 i hi), va_Nw.warmM hW n1, va_Nw.warmM hW n2, va_Nw.warmM hW n3, va_tabs rfl (rfl : (U.setVm V.vm).vm = V.vm) (by rw [Cond.native_setVm hW.alike]; exact n4)⟩
/-- a world among others: what a caller needs of it -/
def geZ (N : Nat) (G : mw_E → State → Prop) (E : mw_E) (A : Nat → Prop) (s : State) : Prop := va_K (mw_D E) vwCl (mw_ty E) s ∧ mw_J N E ∧ (∀ q, mw_A N E q → A q) ∧ mw_Go N G ∧ ∀ (H : Heap) (locs : List Loc) (U : State), va_S A s.heap H locs → U.heap = H → s.WarmedH U.vm → G E U
section GE
variable {p : Program} {l : Launch} {e : Env} {R : Room} {s : State} {m : MethodId} {args : Array Value} {below : List Frame} {meth : Method} {c : Code} {H : Heap} {locs : List Loc} {cells slots : Nat} {Q : State → Prop}
variable {cc : ByteArray} {nL pc : Nat} {ls : Array Slot} {rest : List Value} {own : String} {sh : Nat → mw_Sh} {N : Nat} {G : mw_E → State → Prop} {E : mw_E} {σ : mw_M} {A : Nat → Prop}
theorem geZ.goes {U : State} (Z : geZ N G E A s) (hP : va_P (mw_D E) vwCl (mw_ws sh N E σ) H) (hS : va_S A s.heap H locs) (hU : U.heap = H) (hW : s.WarmedH U.vm) : mw_In sh N G E σ U :=
  ⟨by rw [hU]; exact hP, va_K.moved hW.alike Z.1, Z.2.1, Z.2.2.2.2 H locs U hS hU hW⟩
theorem geZ.blind (Z : geZ N G E A s) (av : List Value) : FrameBlind (va_Pc av (mw_In sh N G E σ)) := by
  intro a U g mk q
  obtain ⟨h1, h2, h3, h4, h5⟩ := q
  exact ⟨h1, h2, va_K.moved (u := U) (U := U.calling g mk a) (Vm.Alike.refl U.vm) h3, h4, Z.2.2.2.1.1 E U g mk a h5⟩
theorem ge_getr (C : CallFix p m c cc nL s args lw_good own) (Z : geZ N G E A s) (hP : va_P (mw_D E) vwCl (mw_ws sh N E σ) H) (k f q : Nat) {ci Nf index : Nat} {ds : List Nat} {Cn : String} {T : u_T} (hk : k < N) (hs : sh k = .inr (ci, ds)) (hf : ds[f]? = some (q + 2)) (hc : vwCl[ci]? = some (Cn, T, Nf)) (hfN : f < Nf) (hin : ∀ w ∈ u_ws Cn T Nf, w ∈ lw_good) (hl : Cond.fieldLink own index (T f).1 (T f).2.1 (T f).2.2.1 ∈ lw_good) (hd : decode cc pc = .ok (.getfield index, 3))
    (kk : W p l e R s m args below meth c H locs cells slots Q (F0 m (pc + 3) ls (.ref (mw_a E q) :: rest))) : W p l e R s m args below meth c H locs cells slots Q (F0 m pc ls (.ref (mw_a E k) :: rest)) := by
  refine va_get (D := mw_D E) (ci := ci) (fs := mw_fs E (σ.1 k) (σ.2.2 k) 0 ds) C.1 C.2.1 C.2.2.2.2 hin C.2.2.2.1 Z.1 hP k (by rw [mw_at hk, hs]; rfl) hc f hfN (C.2.2.2.2 _ hl) (fun _ h => h) ?_ hd kk
  rw [mw_fs_get E _ _ ds 0 f (q + 2) hf]
  rfl
theorem geZ.DD (Z : geZ N G E A s) : va_D A (mw_ws sh N E σ) := (mw_DD Z.2.1).weaken (fun _ _ _ h => Z.2.2.1 _ h)
variable {y : MethodName} {bytes : ByteArray} {maxL n index : Nat} {ret : Option FieldType} {rm : Room} {Cn : String} {As st0 : List Value} {post : Int32 → mw_M → Prop} {postl : Int64 → mw_M → Prop} {postv : mw_M → Prop}
theorem ge_cVi (C : CallFix p m c cc nL s args lw_good own) (Z : geZ N G E A s) (hP : va_P (mw_D E) vwCl (mw_ws sh N E σ) H) (hS : va_S A s.heap H locs) (k : Nat) (hM : mw_Ci sh N G l y bytes maxL ret rm E (.ref (mw_a E k) :: As) σ post) (hB : mw_VB y Cn bytes maxL ret n) (hl : .methodLink own index y ∈ lw_good) (hrc : rm.cells = 0 ∧ rm.slots = 0) (hR : rm.frames + 1 ≤ R.frames ∧ 8 + (maxL + 11) + rm.locals ≤ R.locals) {ci : Nat} {ds : List Nat} {q : vw_C} (hk : k < N) (hs : sh k = .inr (ci, ds)) (hc : vwCl[ci]? = some q) (hq : q.1 = Cn) (hn : As.length = n) (hsz : ls.size = nL) (hst : st0 = As.reverse ++ .ref (mw_a E k) :: rest) (hro : (rest.map fun v => v.category).sum ≤ 8) (hd : decode cc pc = .ok (.invokevirtual index, 3)) (hf : cells ≤ R.cells ∧ slots ≤ R.slots)
    (kk : ∀ (r : Int32) (u : mw_M) (H1 : Heap) (locs1 : List Loc), post r u → va_P (mw_D E) vwCl (mw_ws sh N E u) H1 → va_S A s.heap H1 locs1 → (∀ q : Nat, q < H.size → ¬ mw_A N E q → H1[q]? = H[q]?) → W p l e R s m args below meth c H1 locs1 cells slots Q (F0 m (pc + 3) ls (.int r :: rest))) : W p l e R s m args below meth c H locs cells slots Q (F0 m pc ls st0) := by
  subst hq
  exact va_calli (va_runV C hM (cwV n C.2.2.2.2 (mw_gV hl hB) rfl hrc.1 hrc.2 hB.2 hR) ⟨geZ.blind Z _, va_recv Z.1 hP hc (by rw [mw_at hk, hs]; rfl), fun U hU hW => ⟨rfl, Z.goes hP hS hU hW⟩⟩ rfl hn hsz hst (lv_room hro) hd hf) hS (fun _ _ h => Z.2.2.1 _ h) (fun _ h => Z.2.2.1 _ h) (fun r u t H1 locs1 ht _ hp hB _ hk1 hS1 => kk r u H1 locs1 hp (by rw [← ht]; exact hB.1) hS1 hk1)
theorem ge_cVl (C : CallFix p m c cc nL s args lw_good own) (Z : geZ N G E A s) (hP : va_P (mw_D E) vwCl (mw_ws sh N E σ) H) (hS : va_S A s.heap H locs) (k : Nat) (hM : mw_Cl sh N G l y bytes maxL ret rm E (.ref (mw_a E k) :: As) σ postl) (hB : mw_VB y Cn bytes maxL ret n) (hl : .methodLink own index y ∈ lw_good) (hrc : rm.cells = 0 ∧ rm.slots = 0) (hR : rm.frames + 1 ≤ R.frames ∧ 8 + (maxL + 11) + rm.locals ≤ R.locals) {ci : Nat} {ds : List Nat} {q : vw_C} (hk : k < N) (hs : sh k = .inr (ci, ds)) (hc : vwCl[ci]? = some q) (hq : q.1 = Cn) (hn : As.length = n) (hsz : ls.size = nL) (hst : st0 = As.reverse ++ .ref (mw_a E k) :: rest) (hro : (rest.map fun v => v.category).sum ≤ 8) (hd : decode cc pc = .ok (.invokevirtual index, 3)) (hf : cells ≤ R.cells ∧ slots ≤ R.slots)
    (kk : ∀ (r : Int64) (u : mw_M) (H1 : Heap) (locs1 : List Loc), postl r u → va_P (mw_D E) vwCl (mw_ws sh N E u) H1 → va_S A s.heap H1 locs1 → (∀ q : Nat, q < H.size → ¬ mw_A N E q → H1[q]? = H[q]?) → W p l e R s m args below meth c H1 locs1 cells slots Q (F0 m (pc + 3) ls (.long r :: rest))) : W p l e R s m args below meth c H locs cells slots Q (F0 m pc ls st0) := by
  subst hq
  exact va_calll (va_runV C hM (cwV n C.2.2.2.2 (mw_gV hl hB) rfl hrc.1 hrc.2 hB.2 hR) ⟨geZ.blind Z _, va_recv Z.1 hP hc (by rw [mw_at hk, hs]; rfl), fun U hU hW => ⟨rfl, Z.goes hP hS hU hW⟩⟩ rfl hn hsz hst (lv_room hro) hd hf) hS (fun _ _ h => Z.2.2.1 _ h) (fun _ h => Z.2.2.1 _ h) (fun r u t H1 locs1 ht _ hp hB _ hk1 hS1 => kk r u H1 locs1 hp (by rw [← ht]; exact hB.1) hS1 hk1)
theorem ge_cVv (C : CallFix p m c cc nL s args lw_good own) (Z : geZ N G E A s) (hP : va_P (mw_D E) vwCl (mw_ws sh N E σ) H) (hS : va_S A s.heap H locs) (k : Nat) (hM : mw_Cv sh N G l y bytes maxL ret rm E (.ref (mw_a E k) :: As) σ postv) (hB : mw_VB y Cn bytes maxL ret n) (hl : .methodLink own index y ∈ lw_good) (hrc : rm.cells = 0 ∧ rm.slots = 0) (hR : rm.frames + 1 ≤ R.frames ∧ 8 + (maxL + 11) + rm.locals ≤ R.locals) {ci : Nat} {ds : List Nat} {q : vw_C} (hk : k < N) (hs : sh k = .inr (ci, ds)) (hc : vwCl[ci]? = some q) (hq : q.1 = Cn) (hn : As.length = n) (hsz : ls.size = nL) (hst : st0 = As.reverse ++ .ref (mw_a E k) :: rest) (hro : (rest.map fun v => v.category).sum ≤ 8) (hd : decode cc pc = .ok (.invokevirtual index, 3)) (hf : cells ≤ R.cells ∧ slots ≤ R.slots)
    (kk : ∀ (u : mw_M) (H1 : Heap) (locs1 : List Loc), postv u → va_P (mw_D E) vwCl (mw_ws sh N E u) H1 → va_S A s.heap H1 locs1 → (∀ q : Nat, q < H.size → ¬ mw_A N E q → H1[q]? = H[q]?) → W p l e R s m args below meth c H1 locs1 cells slots Q (F0 m (pc + 3) ls rest)) : W p l e R s m args below meth c H locs cells slots Q (F0 m pc ls st0) := by
  subst hq
  exact va_callv (va_runV C hM (cwV n C.2.2.2.2 (mw_gV hl hB) rfl hrc.1 hrc.2 hB.2 hR) ⟨geZ.blind Z _, va_recv Z.1 hP hc (by rw [mw_at hk, hs]; rfl), fun U hU hW => ⟨rfl, Z.goes hP hS hU hW⟩⟩ rfl hn hsz hst (lv_room hro) hd hf) hS (fun _ _ h => Z.2.2.1 _ h) (fun _ h => Z.2.2.1 _ h) (fun u t H1 locs1 ht _ hp hB _ hk1 hS1 => kk u H1 locs1 hp (by rw [← ht]; exact hB.1) hS1 hk1)
theorem ge_cTi (C : CallFix p m c cc nL s args lw_good own) (Z : geZ 75 gX E A s) (hV : vk_S 15 xLen xByt (mw_k E) (mw_v E) A s s.heap) (hP : va_P (mw_D E) vwCl (mw_ws shX 75 E σ) H) (hS : va_S A s.heap H locs) (i : Nat) (hi : i < 15) (hM : mw_Ci shX 75 gX l y bytes maxL ret rm E (.ref (mw_k E i) :: As) σ post) (hB : mw_VB y "java/lang/String" bytes maxL ret n) (hl : .methodLink own index y ∈ lw_good) (hrc : rm.cells = 0 ∧ rm.slots = 0) (hR : rm.frames + 1 ≤ R.frames ∧ 8 + (maxL + 11) + rm.locals ≤ R.locals) (hn : As.length = n) (hsz : ls.size = nL) (hst : st0 = As.reverse ++ .ref (mw_k E i) :: rest) (hro : (rest.map fun v => v.category).sum ≤ 8) (hd : decode cc pc = .ok (.invokevirtual index, 3)) (hf : cells ≤ R.cells ∧ slots ≤ R.slots)
    (kk : ∀ (r : Int32) (u : mw_M) (H1 : Heap) (locs1 : List Loc), post r u → va_P (mw_D E) vwCl (mw_ws shX 75 E u) H1 → va_S A s.heap H1 locs1 → (∀ q : Nat, q < H.size → ¬ mw_A 75 E q → H1[q]? = H[q]?) → W p l e R s m args below meth c H1 locs1 cells slots Q (F0 m (pc + 3) ls (.int r :: rest))) : W p l e R s m args below meth c H locs cells slots Q (F0 m pc ls st0) :=
  va_calli (va_runV C hM (cwV n C.2.2.2.2 (mw_gV hl hB) rfl hrc.1 hrc.2 hB.2 hR) ⟨geZ.blind Z _, vk_recv hV hi hS, fun U hU hW => ⟨rfl, Z.goes hP hS hU hW⟩⟩ rfl hn hsz hst (lv_room hro) hd hf) hS (fun _ _ h => Z.2.2.1 _ h) (fun _ h => Z.2.2.1 _ h) (fun r u t H1 locs1 ht _ hp hB _ hk1 hS1 => kk r u H1 locs1 hp (by rw [← ht]; exact hB.1) hS1 hk1)
end GE
