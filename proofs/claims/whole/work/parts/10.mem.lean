/-! THE MEMORY: a world of N cells, each with a shape that never changes; what they hold stands in three functions (ints of objects, ints of arrays, longs of objects), by place. -/
/-- a shape: an array (kind of its class, length, the place of its first reference), or an object (class, its fields: 0 an int, 1 a long, q + 2 the cell at place q) -/
abbrev mw_Sh : Type := (Nat × Nat × Nat) ⊕ (Nat × List Nat)
abbrev mw_M : Type := (Nat → Nat → Int32) × (Nat → Nat → Int32) × (Nat → Nat → Int64)
/-- tables, array classes, addresses of places, of static arrays, of texts and their bytes -/
abbrev mw_E : Type := va_G × (Nat → ClassId) × (Nat → Nat) × (Nat → Nat) × (Nat → Nat) × (Nat → Nat)
abbrev mw_D (E : mw_E) : va_G := E.1
abbrev mw_c (E : mw_E) : Nat → ClassId := E.2.1
def mw_a (E : mw_E) : Nat → Nat := E.2.2.1
abbrev mw_t (E : mw_E) : Nat → Nat := E.2.2.2.1
abbrev mw_k (E : mw_E) : Nat → Nat := E.2.2.2.2.1
abbrev mw_v (E : mw_E) : Nat → Nat := E.2.2.2.2.2
def mw_fv (E : mw_E) (I : Nat → Int32) (J : Nat → Int64) (f : Nat) : Nat → Value
  | 0 => .int (I f)
  | 1 => .long (J f)
  | q + 2 => .ref (mw_a E q)
def mw_fs (E : mw_E) (I : Nat → Int32) (J : Nat → Int64) : Nat → List Nat → List Value
  | _, [] => []
  | f, d :: ds => mw_fv E I J f d :: mw_fs E I J (f + 1) ds
def mw_cel (E : mw_E) (σ : mw_M) (k : Nat) : mw_Sh → va_E
  | .inl (ty, n, b) => .inl (mw_c E ty, n, if ty < 2 then .inl (σ.2.1 k) else .inr (.inr (.inr (.inr (fun i => some (mw_a E (b + i)))))))
  | .inr (ci, ds) => .inr (ci, mw_fs E (σ.1 k) (σ.2.2 k) 0 ds)
def mw_ws (sh : Nat → mw_Sh) (N : Nat) (E : mw_E) (σ : mw_M) : va_W := (List.range N).map (fun k => (mw_a E k, mw_cel E σ k (sh k)))
def mw_si (σ : mw_M) (k f : Nat) (v : Int32) : mw_M := (va_up σ.1 k (va_up (σ.1 k) f v), σ.2.1, σ.2.2)
def mw_sa (σ : mw_M) (k i : Nat) (v : Int32) : mw_M := (σ.1, va_up σ.2.1 k (upd (σ.2.1 k) i v), σ.2.2)
def mw_sl (σ : mw_M) (k f : Nat) (v : Int64) : mw_M := (σ.1, σ.2.1, va_up σ.2.2 k (va_up (σ.2.2 k) f v))
theorem mw_at {sh : Nat → mw_Sh} {N : Nat} {E : mw_E} {σ : mw_M} {k : Nat} (h : k < N) : (mw_ws sh N E σ)[k]? = some (mw_a E k, mw_cel E σ k (sh k)) := by
  simp [mw_ws, List.getElem?_map, List.getElem?_range h]
theorem mw_len {sh : Nat → mw_Sh} {N : Nat} {E : mw_E} {σ : mw_M} : (mw_ws sh N E σ).length = N := by simp [mw_ws]
theorem mw_fs_get (E : mw_E) (I : Nat → Int32) (J : Nat → Int64) : ∀ (ds : List Nat) (o f d : Nat), ds[f]? = some d → (mw_fs E I J o ds)[f]? = some (mw_fv E I J (o + f) d)
  | [], _, f, d, h => by simp at h
  | a :: ds, o, 0, d, h => by
    rw [List.getElem?_cons_zero] at h
    cases h
    rfl
  | a :: ds, o, f + 1, d, h => by
    rw [List.getElem?_cons_succ] at h
    have := mw_fs_get E I J ds (o + 1) f d h
    show (mw_fs E I J (o + 1) ds)[f]? = _
    rw [this, show o + 1 + f = o + (f + 1) by omega]
theorem mw_fs_len (E : mw_E) (I : Nat → Int32) (J : Nat → Int64) : ∀ (ds : List Nat) (o : Nat), (mw_fs E I J o ds).length = ds.length
  | [], _ => rfl
  | a :: ds, o => by show (mw_fs E I J (o + 1) ds).length + 1 = ds.length + 1; rw [mw_fs_len E I J ds (o + 1)]
theorem mw_fs_congr (E : mw_E) {I I' : Nat → Int32} {J J' : Nat → Int64} : ∀ (ds : List Nat) (o : Nat), (∀ j, o ≤ j → I j = I' j ∧ J j = J' j) → mw_fs E I J o ds = mw_fs E I' J' o ds
  | [], _, _ => rfl
  | a :: ds, o, h => by
    have h1 := h o (Nat.le_refl o)
    have h2 : mw_fv E I J o a = mw_fv E I' J' o a := by
      match a with
      | 0 => show Value.int _ = Value.int _; rw [h1.1]
      | 1 => show Value.long _ = Value.long _; rw [h1.2]
      | q + 2 => rfl
    show mw_fv E I J o a :: mw_fs E I J (o + 1) ds = mw_fv E I' J' o a :: mw_fs E I' J' (o + 1) ds
    rw [h2, mw_fs_congr E ds (o + 1) (fun j hj => h j (by omega))]
theorem mw_fs_set (E : mw_E) (I : Nat → Int32) (J : Nat → Int64) (v : Int32) : ∀ (ds : List Nat) (o f : Nat), ds[f]? = some 0 → (mw_fs E I J o ds).set f (.int v) = mw_fs E (va_up I (o + f) v) J o ds
  | [], _, f, h => by simp at h
  | a :: ds, o, 0, h => by
    rw [List.getElem?_cons_zero] at h
    cases h
    show Value.int v :: mw_fs E I J (o + 1) ds = Value.int (va_up I o v o) :: mw_fs E (va_up I o v) J (o + 1) ds
    rw [va_up_self, mw_fs_congr E (I := I) (I' := va_up I o v) (J' := J) ds (o + 1) (fun j hj => ⟨(va_up_ne I v (by omega)).symm, rfl⟩)]
  | a :: ds, o, f + 1, h => by
    rw [List.getElem?_cons_succ] at h
    have := mw_fs_set E I J v ds (o + 1) f h
    have h2 : mw_fv E (va_up I (o + (f + 1)) v) J o a = mw_fv E I J o a := by
      match a with
      | 0 => show Value.int _ = Value.int _; rw [va_up_ne I v (by omega)]
      | 1 => rfl
      | q + 2 => rfl
    show mw_fv E I J o a :: (mw_fs E I J (o + 1) ds).set f (.int v) = mw_fv E (va_up I (o + (f + 1)) v) J o a :: mw_fs E (va_up I (o + (f + 1)) v) J (o + 1) ds
    rw [this, h2, show o + 1 + f = o + (f + 1) by omega]
theorem mw_fs_setl (E : mw_E) (I : Nat → Int32) (J : Nat → Int64) (v : Int64) : ∀ (ds : List Nat) (o f : Nat), ds[f]? = some 1 → (mw_fs E I J o ds).set f (.long v) = mw_fs E I (va_up J (o + f) v) o ds
  | [], _, f, h => by simp at h
  | a :: ds, o, 0, h => by
    rw [List.getElem?_cons_zero] at h
    cases h
    show Value.long v :: mw_fs E I J (o + 1) ds = Value.long (va_up J o v o) :: mw_fs E I (va_up J o v) (o + 1) ds
    rw [va_up_self, mw_fs_congr E (I := I) (I' := I) (J' := va_up J o v) ds (o + 1) (fun j hj => ⟨rfl, (va_up_ne J v (by omega)).symm⟩)]
  | a :: ds, o, f + 1, h => by
    rw [List.getElem?_cons_succ] at h
    have := mw_fs_setl E I J v ds (o + 1) f h
    have h2 : mw_fv E I (va_up J (o + (f + 1)) v) o a = mw_fv E I J o a := by
      match a with
      | 0 => rfl
      | 1 => show Value.long _ = Value.long _; rw [va_up_ne J v (by omega)]
      | q + 2 => rfl
    show mw_fv E I J o a :: (mw_fs E I J (o + 1) ds).set f (.long v) = mw_fv E I (va_up J (o + (f + 1)) v) o a :: mw_fs E I (va_up J (o + (f + 1)) v) (o + 1) ds
    rw [this, h2, show o + 1 + f = o + (f + 1) by omega]
theorem mw_upd {sh : Nat → mw_Sh} {N : Nat} {E : mw_E} {σ σ' : mw_M} {k : Nat} {e : va_E} (hk : k < N) (he : mw_cel E σ' k (sh k) = e) (ho : ∀ j, j ≠ k → mw_cel E σ' j (sh j) = mw_cel E σ j (sh j)) : (mw_ws sh N E σ).set k (mw_a E k, e) = mw_ws sh N E σ' := by
  apply List.ext_getElem?
  intro j
  by_cases hj : j = k
  · subst hj
    rw [List.getElem?_set_self (by rw [mw_len]; exact hk), mw_at hk, he]
  · rw [List.getElem?_set_ne (Ne.symm hj)]
    by_cases hjN : j < N
    · rw [mw_at hjN, mw_at hjN, ho j hj]
    · rw [List.getElem?_eq_none (by rw [mw_len]; omega), List.getElem?_eq_none (by rw [mw_len]; omega)]
theorem mw_cel_congr (E : mw_E) {σ σ' : mw_M} {j : Nat} (h1 : σ'.1 j = σ.1 j) (h2 : σ'.2.1 j = σ.2.1 j) (h3 : σ'.2.2 j = σ.2.2 j) (s : mw_Sh) : mw_cel E σ' j s = mw_cel E σ j s := by
  match s with
  | .inl (ty, n, b) => show Sum.inl _ = Sum.inl _; rw [h2]
  | .inr (ci, ds) => show Sum.inr _ = Sum.inr _; rw [h1, h3]
theorem mw_upi {sh : Nat → mw_Sh} {N : Nat} {E : mw_E} {σ : mw_M} {k f ci : Nat} {ds : List Nat} {v : Int32} (hk : k < N) (hs : sh k = .inr (ci, ds)) (hf : ds[f]? = some 0) : (mw_ws sh N E σ).set k (mw_a E k, .inr (ci, (mw_fs E (σ.1 k) (σ.2.2 k) 0 ds).set f (.int v))) = mw_ws sh N E (mw_si σ k f v) := by
  refine mw_upd hk ?_ (fun j hj => ?_)
  · rw [hs, mw_fs_set E _ _ v ds 0 f hf]
    show Sum.inr (ci, mw_fs E (va_up σ.1 k (va_up (σ.1 k) f v) k) (σ.2.2 k) 0 ds) = _
    rw [va_up_self, Nat.zero_add]
  · exact mw_cel_congr E (σ := σ) (σ' := mw_si σ k f v) (va_up_ne _ _ hj) rfl rfl _
theorem mw_upl {sh : Nat → mw_Sh} {N : Nat} {E : mw_E} {σ : mw_M} {k f ci : Nat} {ds : List Nat} {v : Int64} (hk : k < N) (hs : sh k = .inr (ci, ds)) (hf : ds[f]? = some 1) : (mw_ws sh N E σ).set k (mw_a E k, .inr (ci, (mw_fs E (σ.1 k) (σ.2.2 k) 0 ds).set f (.long v))) = mw_ws sh N E (mw_sl σ k f v) := by
  refine mw_upd hk ?_ (fun j hj => ?_)
  · rw [hs, mw_fs_setl E _ _ v ds 0 f hf]
    show Sum.inr (ci, mw_fs E (σ.1 k) (va_up σ.2.2 k (va_up (σ.2.2 k) f v) k) 0 ds) = _
    rw [va_up_self, Nat.zero_add]
  · exact mw_cel_congr E (σ := σ) (σ' := mw_sl σ k f v) rfl rfl (va_up_ne _ _ hj) _
theorem mw_upa {sh : Nat → mw_Sh} {N : Nat} {E : mw_E} {σ : mw_M} {k i ty n b : Nat} {v : Int32} (hk : k < N) (hs : sh k = .inl (ty, n, b)) (ht : ty < 2) : (mw_ws sh N E σ).set k (mw_a E k, .inl (mw_c E ty, n, .inl (upd (σ.2.1 k) i v))) = mw_ws sh N E (mw_sa σ k i v) := by
  refine mw_upd hk ?_ (fun j hj => ?_)
  · rw [hs]
    show Sum.inl (mw_c E ty, n, if ty < 2 then Sum.inl (va_up σ.2.1 k (upd (σ.2.1 k) i v) k) else _) = _
    rw [if_pos ht, va_up_self]
  · exact mw_cel_congr E (σ := σ) (σ' := mw_sa σ k i v) rfl (va_up_ne _ _ hj) rfl _
/-- which addresses are the world's -/
def mw_A (N : Nat) (E : mw_E) : Nat → Prop := fun q => ∃ k, k < N ∧ q = mw_a E k
def mw_J (N : Nat) (E : mw_E) : Prop := ∀ i j, i < N → j < N → mw_a E i = mw_a E j → i = j
theorem mw_DD {sh : Nat → mw_Sh} {N : Nat} {E : mw_E} {σ : mw_M} (h : mw_J N E) : va_D (mw_A N E) (mw_ws sh N E σ) := by
  have key : ∀ (k : Nat) (q : Nat × va_E), (mw_ws sh N E σ)[k]? = some q → k < N ∧ q.1 = mw_a E k := by
    intro k q hq
    have hk : k < N := by rw [← mw_len (sh := sh) (N := N) (E := E) (σ := σ)]; exact (List.getElem?_eq_some_iff.mp hq).1
    rw [mw_at hk] at hq
    cases hq
    exact ⟨hk, rfl⟩
  refine ⟨fun i j p q hi hj hpq => ?_, fun k q hq => ⟨k, key k q hq⟩⟩
  obtain ⟨h1, e1⟩ := key i p hi
  obtain ⟨h2, e2⟩ := key j q hj
  exact h i j h1 h2 (by rw [← e1, ← e2, hpq])
def mw_ty (E : mw_E) : List (ClassId × FieldType) := [(mw_c E 0, .int), (mw_c E 1, .boolean), (mw_c E 2, .object RX1), (mw_c E 3, .object RX5), (mw_c E 4, .object RX8)]
/-- what a state must say of a world: its cells, the tables, that addresses are apart, and what else never changes (G: statics) -/
def mw_In (sh : Nat → mw_Sh) (N : Nat) (G : mw_E → State → Prop) (E : mw_E) (σ : mw_M) (U : State) : Prop := va_P (mw_D E) vwCl (mw_ws sh N E σ) U.heap ∧ va_K (mw_D E) vwCl (mw_ty E) U ∧ mw_J N E ∧ G E U
def mw_Go (N : Nat) (G : mw_E → State → Prop) : Prop := (∀ (E : mw_E) (U : State) (g : JFrame) (mk : MethodId) (a : Array Value), G E U → G E (U.calling g mk a)) ∧ ∀ (E : mw_E) (U V : State), G E U → U.WarmedH V.vm → (∀ q : Nat, q < U.heap.size → ¬ mw_A N E q → V.heap[q]? = U.heap[q]?) → G E V
/-- what stands through a method: the tables, apartness, G, at its start -/
def mw_Z (N : Nat) (G : mw_E → State → Prop) (E : mw_E) (s : State) : Prop := va_K (mw_D E) vwCl (mw_ty E) s ∧ mw_J N E ∧ G E s ∧ mw_Go N G
abbrev mw_Ci (sh : Nat → mw_Sh) (N : Nat) (G : mw_E → State → Prop) (l : Launch) (y : MethodName) (cc : ByteArray) (nL : Nat) (rt : Option FieldType) (rm : Room) (E : mw_E) (av : List Value) (σ : mw_M) (post : Int32 → mw_M → Prop) : Prop := Met l y (wT y cc nL rt) rm (va_Pc av (mw_In sh N G E σ)) (va_Qi post (mw_In sh N G E) (mw_A N E)) 0 0 (mw_A N E)
abbrev mw_Cl (sh : Nat → mw_Sh) (N : Nat) (G : mw_E → State → Prop) (l : Launch) (y : MethodName) (cc : ByteArray) (nL : Nat) (rt : Option FieldType) (rm : Room) (E : mw_E) (av : List Value) (σ : mw_M) (post : Int64 → mw_M → Prop) : Prop := Met l y (wT y cc nL rt) rm (va_Pc av (mw_In sh N G E σ)) (va_Ql post (mw_In sh N G E) (mw_A N E)) 0 0 (mw_A N E)
abbrev mw_Cv (sh : Nat → mw_Sh) (N : Nat) (G : mw_E → State → Prop) (l : Launch) (y : MethodName) (cc : ByteArray) (nL : Nat) (rt : Option FieldType) (rm : Room) (E : mw_E) (av : List Value) (σ : mw_M) (post : mw_M → Prop) : Prop := Met l y (wT y cc nL rt) rm (va_Pc av (mw_In sh N G E σ)) (va_Qv post (mw_In sh N G E) (mw_A N E)) 0 0 (mw_A N E)
/-- the answer is the address of a cell: which, the post says -/
abbrev mw_Cr (sh : Nat → mw_Sh) (N : Nat) (G : mw_E → State → Prop) (l : Launch) (y : MethodName) (cc : ByteArray) (nL : Nat) (rt : Option FieldType) (rm : Room) (E : mw_E) (av : List Value) (σ : mw_M) (post : mw_M → Prop) (w : Nat) : Prop := Met l y (wT y cc nL rt) rm (va_Pc av (mw_In sh N G E σ)) (va_Qr post (fun u a t => a = w ∧ mw_In sh N G E u t) (mw_A N E)) 0 0 (mw_A N E)
section MWR
variable {p : Program} {l : Launch} {e : Env} {R : Room} {s : State} {m : MethodId} {args : Array Value} {below : List Frame} {meth : Method} {c : Code} {H : Heap} {locs : List Loc} {cells slots : Nat} {Q : State → Prop}
variable {cc : ByteArray} {nL pc : Nat} {ls : Array Slot} {rest : List Value} {Ts : List Cond} {own : String} {sh : Nat → mw_Sh} {N : Nat} {G : mw_E → State → Prop} {E : mw_E} {σ : mw_M}
theorem mw_geti (C : CallFix p m c cc nL s args Ts own) (Z : mw_Z N G E s) (hP : va_P (mw_D E) vwCl (mw_ws sh N E σ) H) (k f : Nat) {ci Nf index : Nat} {ds : List Nat} {Cn : String} {T : u_T} (hk : k < N) (hs : sh k = .inr (ci, ds)) (hf : ds[f]? = some 0) (hc : vwCl[ci]? = some (Cn, T, Nf)) (hfN : f < Nf) (hin : ∀ w ∈ u_ws Cn T Nf, w ∈ Ts) (hl : Cond.fieldLink own index (T f).1 (T f).2.1 (T f).2.2.1 ∈ Ts) (hd : decode cc pc = .ok (.getfield index, 3))
    (kk : W p l e R s m args below meth c H locs cells slots Q (F0 m (pc + 3) ls (.int (σ.1 k f) :: rest))) : W p l e R s m args below meth c H locs cells slots Q (F0 m pc ls (.ref (mw_a E k) :: rest)) := by
  refine va_get (D := mw_D E) (ci := ci) (fs := mw_fs E (σ.1 k) (σ.2.2 k) 0 ds) C.1 C.2.1 C.2.2.2.2 hin C.2.2.2.1 Z.1 hP k (by rw [mw_at hk, hs]; rfl) hc f hfN (C.2.2.2.2 _ hl) (fun _ h => h) ?_ hd kk
  rw [mw_fs_get E _ _ ds 0 f 0 hf, Nat.zero_add]
  rfl
theorem mw_getl (C : CallFix p m c cc nL s args Ts own) (Z : mw_Z N G E s) (hP : va_P (mw_D E) vwCl (mw_ws sh N E σ) H) (k f : Nat) {ci Nf index : Nat} {ds : List Nat} {Cn : String} {T : u_T} (hk : k < N) (hs : sh k = .inr (ci, ds)) (hf : ds[f]? = some 1) (hc : vwCl[ci]? = some (Cn, T, Nf)) (hfN : f < Nf) (hin : ∀ w ∈ u_ws Cn T Nf, w ∈ Ts) (hl : Cond.fieldLink own index (T f).1 (T f).2.1 (T f).2.2.1 ∈ Ts) (hd : decode cc pc = .ok (.getfield index, 3))
    (kk : W p l e R s m args below meth c H locs cells slots Q (F0 m (pc + 3) ls (.long (σ.2.2 k f) :: rest))) : W p l e R s m args below meth c H locs cells slots Q (F0 m pc ls (.ref (mw_a E k) :: rest)) := by
  refine va_get (D := mw_D E) (ci := ci) (fs := mw_fs E (σ.1 k) (σ.2.2 k) 0 ds) C.1 C.2.1 C.2.2.2.2 hin C.2.2.2.1 Z.1 hP k (by rw [mw_at hk, hs]; rfl) hc f hfN (C.2.2.2.2 _ hl) (fun _ h => h) ?_ hd kk
  rw [mw_fs_get E _ _ ds 0 f 1 hf, Nat.zero_add]
  rfl
theorem mw_getr (C : CallFix p m c cc nL s args Ts own) (Z : mw_Z N G E s) (hP : va_P (mw_D E) vwCl (mw_ws sh N E σ) H) (k f q : Nat) {ci Nf index : Nat} {ds : List Nat} {Cn : String} {T : u_T} (hk : k < N) (hs : sh k = .inr (ci, ds)) (hf : ds[f]? = some (q + 2)) (hc : vwCl[ci]? = some (Cn, T, Nf)) (hfN : f < Nf) (hin : ∀ w ∈ u_ws Cn T Nf, w ∈ Ts) (hl : Cond.fieldLink own index (T f).1 (T f).2.1 (T f).2.2.1 ∈ Ts) (hd : decode cc pc = .ok (.getfield index, 3))
    (kk : W p l e R s m args below meth c H locs cells slots Q (F0 m (pc + 3) ls (.ref (mw_a E q) :: rest))) : W p l e R s m args below meth c H locs cells slots Q (F0 m pc ls (.ref (mw_a E k) :: rest)) := by
  refine va_get (D := mw_D E) (ci := ci) (fs := mw_fs E (σ.1 k) (σ.2.2 k) 0 ds) C.1 C.2.1 C.2.2.2.2 hin C.2.2.2.1 Z.1 hP k (by rw [mw_at hk, hs]; rfl) hc f hfN (C.2.2.2.2 _ hl) (fun _ h => h) ?_ hd kk
  rw [mw_fs_get E _ _ ds 0 f (q + 2) hf]
  rfl
theorem mw_puti (C : CallFix p m c cc nL s args Ts own) (Z : mw_Z N G E s) (hP : va_P (mw_D E) vwCl (mw_ws sh N E σ) H) (hS : va_S (mw_A N E) s.heap H locs) (k f : Nat) {ci Nf index : Nat} {ds : List Nat} {Cn : String} {T : u_T} {v : Int32} (hk : k < N) (hs : sh k = .inr (ci, ds)) (hf : ds[f]? = some 0) (hc : vwCl[ci]? = some (Cn, T, Nf)) (hfN : f < Nf) (hin : ∀ w ∈ u_ws Cn T Nf, w ∈ Ts) (ty0 : Nat → FieldType) (hty : ∀ k, k < Nf → parseFieldDescriptor (T k).2.2.1 = some (ty0 k)) (hnm : ∀ a, a < Nf → ∀ b, b < Nf → a ≠ b → (T a).2.1 ≠ (T b).2.1) (hfin : (T f).2.2.2 = false) (hl : Cond.fieldLink own index (T f).1 (T f).2.1 (T f).2.2.1 ∈ Ts) (hn : narrow (ty0 f) (.int v) = .int v) (hfit : fits (ty0 f) (.int v) = true) (hd : decode cc pc = .ok (.putfield index, 3))
    (kk : ∀ (H1 : Heap) (locs1 : List Loc), va_P (mw_D E) vwCl (mw_ws sh N E (mw_si σ k f v)) H1 → va_S (mw_A N E) s.heap H1 locs1 → W p l e R s m args below meth c H1 locs1 cells slots Q (F0 m (pc + 3) ls rest)) : W p l e R s m args below meth c H locs cells slots Q (F0 m pc ls (.int v :: .ref (mw_a E k) :: rest)) := by
  refine va_put (D := mw_D E) (ci := ci) (fs := mw_fs E (σ.1 k) (σ.2.2 k) 0 ds) C.1 C.2.1 C.2.2.2.2 hin ty0 hty hnm C.2.2.2.1 Z.1 hP (mw_DD Z.2.1) hS k (by rw [mw_at hk, hs]; rfl) hc f hfN (C.2.2.2.2 _ hl) (fun _ h => h) hfin (hty f hfN) hn hfit ?_ hd (fun H1 locs1 h1 _ h3 => kk H1 locs1 (by rw [mw_upi hk hs hf] at h1; exact h1) h3)
  rw [mw_fs_len]
  exact (List.getElem?_eq_some_iff.mp hf).1
theorem mw_putl (C : CallFix p m c cc nL s args Ts own) (Z : mw_Z N G E s) (hP : va_P (mw_D E) vwCl (mw_ws sh N E σ) H) (hS : va_S (mw_A N E) s.heap H locs) (k f : Nat) {ci Nf index : Nat} {ds : List Nat} {Cn : String} {T : u_T} {v : Int64} (hk : k < N) (hs : sh k = .inr (ci, ds)) (hf : ds[f]? = some 1) (hc : vwCl[ci]? = some (Cn, T, Nf)) (hfN : f < Nf) (hin : ∀ w ∈ u_ws Cn T Nf, w ∈ Ts) (ty0 : Nat → FieldType) (hty : ∀ k, k < Nf → parseFieldDescriptor (T k).2.2.1 = some (ty0 k)) (hnm : ∀ a, a < Nf → ∀ b, b < Nf → a ≠ b → (T a).2.1 ≠ (T b).2.1) (hfin : (T f).2.2.2 = false) (hl : Cond.fieldLink own index (T f).1 (T f).2.1 (T f).2.2.1 ∈ Ts) (hn : narrow (ty0 f) (.long v) = .long v) (hfit : fits (ty0 f) (.long v) = true) (hd : decode cc pc = .ok (.putfield index, 3))
    (kk : ∀ (H1 : Heap) (locs1 : List Loc), va_P (mw_D E) vwCl (mw_ws sh N E (mw_sl σ k f v)) H1 → va_S (mw_A N E) s.heap H1 locs1 → W p l e R s m args below meth c H1 locs1 cells slots Q (F0 m (pc + 3) ls rest)) : W p l e R s m args below meth c H locs cells slots Q (F0 m pc ls (.long v :: .ref (mw_a E k) :: rest)) := by
  refine va_put (D := mw_D E) (ci := ci) (fs := mw_fs E (σ.1 k) (σ.2.2 k) 0 ds) C.1 C.2.1 C.2.2.2.2 hin ty0 hty hnm C.2.2.2.1 Z.1 hP (mw_DD Z.2.1) hS k (by rw [mw_at hk, hs]; rfl) hc f hfN (C.2.2.2.2 _ hl) (fun _ h => h) hfin (hty f hfN) hn hfit ?_ hd (fun H1 locs1 h1 _ h3 => kk H1 locs1 (by rw [mw_upl hk hs hf] at h1; exact h1) h3)
  rw [mw_fs_len]
  exact (List.getElem?_eq_some_iff.mp hf).1
theorem mw_ca {k ty n b : Nat} (hk : k < N) (hs : sh k = .inl (ty, n, b)) (ht : ty < 2) : (mw_ws sh N E σ)[k]? = some (mw_a E k, .inl (mw_c E ty, n, .inl (σ.2.1 k))) := by
  rw [mw_at hk, hs]
  show some (mw_a E k, Sum.inl (mw_c E ty, n, if ty < 2 then _ else _)) = _
  rw [if_pos ht]
/-- an int out of an array, at the place j -/
theorem mw_iald (C : CallFix p m c cc nL s args Ts own) (Z : mw_Z N G E s) (hP : va_P (mw_D E) vwCl (mw_ws sh N E σ) H) (k j : Nat) {n b : Nat} {i : Int32} (hk : k < N) (hs : sh k = .inl (0, n, b)) (hn : n < 2 ^ 31) (he : i = nI j) (hj : j < n) (hd : decode cc pc = .ok (.iaload, 1))
    (kk : W p l e R s m args below meth c H locs cells slots Q (F0 m (pc + 1) ls (.int (σ.2.1 k j) :: rest))) : W p l e R s m args below meth c H locs cells slots Q (F0 m pc ls (.int i :: .ref (mw_a E k) :: rest)) := by
  subst he
  refine va_iald C.1 C.2.1 Z.1 hP k 0 (mw_ca hk hs (by decide)) rfl (vp_in_nI hj hn) hd ?_
  rw [nI_clamp (by omega)]
  exact kk
theorem mw_zald (C : CallFix p m c cc nL s args Ts own) (Z : mw_Z N G E s) (hP : va_P (mw_D E) vwCl (mw_ws sh N E σ) H) (k j : Nat) {n b : Nat} {i : Int32} (hk : k < N) (hs : sh k = .inl (1, n, b)) (hn : n < 2 ^ 31) (he : i = nI j) (hj : j < n) (hd : decode cc pc = .ok (.baload, 1))
    (kk : W p l e R s m args below meth c H locs cells slots Q (F0 m (pc + 1) ls (.int (σ.2.1 k j) :: rest))) : W p l e R s m args below meth c H locs cells slots Q (F0 m pc ls (.int i :: .ref (mw_a E k) :: rest)) := by
  subst he
  refine va_zald C.1 C.2.1 Z.1 hP k 1 (mw_ca hk hs (by decide)) rfl (vp_in_nI hj hn) hd ?_
  rw [nI_clamp (by omega)]
  exact kk
theorem mw_iast (C : CallFix p m c cc nL s args Ts own) (Z : mw_Z N G E s) (hP : va_P (mw_D E) vwCl (mw_ws sh N E σ) H) (hS : va_S (mw_A N E) s.heap H locs) (k j : Nat) {n b : Nat} {i v : Int32} (hk : k < N) (hs : sh k = .inl (0, n, b)) (hn : n < 2 ^ 31) (he : i = nI j) (hj : j < n) (hd : decode cc pc = .ok (.iastore, 1))
    (kk : ∀ (H1 : Heap) (locs1 : List Loc), va_P (mw_D E) vwCl (mw_ws sh N E (mw_sa σ k j v)) H1 → va_S (mw_A N E) s.heap H1 locs1 → W p l e R s m args below meth c H1 locs1 cells slots Q (F0 m (pc + 1) ls rest)) : W p l e R s m args below meth c H locs cells slots Q (F0 m pc ls (.int v :: .int i :: .ref (mw_a E k) :: rest)) := by
  subst he
  refine va_iast C.1 C.2.1 Z.1 hP (mw_DD Z.2.1) hS k 0 (mw_ca hk hs (by decide)) rfl (vp_in_nI hj hn) hd (fun H1 locs1 h1 _ h3 => kk H1 locs1 ?_ h3)
  rw [nI_clamp (by omega), mw_upa hk hs (by decide)] at h1
  exact h1
theorem mw_zast (C : CallFix p m c cc nL s args Ts own) (Z : mw_Z N G E s) (hP : va_P (mw_D E) vwCl (mw_ws sh N E σ) H) (hS : va_S (mw_A N E) s.heap H locs) (k j : Nat) {n b : Nat} {i v : Int32} (hk : k < N) (hs : sh k = .inl (1, n, b)) (hn : n < 2 ^ 31) (he : i = nI j) (hj : j < n) (hv : vp_nar .boolean v = v) (hd : decode cc pc = .ok (.bastore, 1))
    (kk : ∀ (H1 : Heap) (locs1 : List Loc), va_P (mw_D E) vwCl (mw_ws sh N E (mw_sa σ k j v)) H1 → va_S (mw_A N E) s.heap H1 locs1 → W p l e R s m args below meth c H1 locs1 cells slots Q (F0 m (pc + 1) ls rest)) : W p l e R s m args below meth c H locs cells slots Q (F0 m pc ls (.int v :: .int i :: .ref (mw_a E k) :: rest)) := by
  subst he
  refine va_zast C.1 C.2.1 Z.1 hP (mw_DD Z.2.1) hS k 1 (mw_ca hk hs (by decide)) rfl (vp_in_nI hj hn) hd (fun H1 locs1 h1 _ h3 => kk H1 locs1 ?_ h3)
  rw [nI_clamp (by omega), hv, mw_upa hk hs (by decide)] at h1
  exact h1
/-- a reference out of an array -/
theorem mw_aald (C : CallFix p m c cc nL s args Ts own) (Z : mw_Z N G E s) (hP : va_P (mw_D E) vwCl (mw_ws sh N E σ) H) (k j : Nat) {ty n b : Nat} {i : Int32} {Cn : String} (hk : k < N) (hs : sh k = .inl (ty, n, b)) (ht : 2 ≤ ty) (hty : (mw_ty E)[ty]? = some (mw_c E ty, .object Cn)) (hn : n < 2 ^ 31) (he : i = nI j) (hj : j < n) (hd : decode cc pc = .ok (.aaload, 1))
    (kk : W p l e R s m args below meth c H locs cells slots Q (F0 m (pc + 1) ls (.ref (mw_a E (b + j)) :: rest))) : W p l e R s m args below meth c H locs cells slots Q (F0 m pc ls (.int i :: .ref (mw_a E k) :: rest)) := by
  subst he
  refine va_aldq C.1 C.2.1 Z.1 hP k ty (cA := mw_c E ty) (n := n) (f := fun i => some (mw_a E (b + i))) ?_ hty (vp_in_nI hj hn) hd ?_
  · rw [mw_at hk, hs]
    show some (mw_a E k, Sum.inl (mw_c E ty, n, if ty < 2 then _ else _)) = _
    rw [if_neg (by omega)]
  · rw [nI_clamp (by omega)]
    exact kk
theorem mw_alen (C : CallFix p m c cc nL s args Ts own) (Z : mw_Z N G E s) (hP : va_P (mw_D E) vwCl (mw_ws sh N E σ) H) (k : Nat) {n b : Nat} (hk : k < N) (hs : sh k = .inl (0, n, b)) (hd : decode cc pc = .ok (.arraylength, 1))
    (kk : W p l e R s m args below meth c H locs cells slots Q (F0 m (pc + 1) ls (.int (nI n) :: rest))) : W p l e R s m args below meth c H locs cells slots Q (F0 m pc ls (.ref (mw_a E k) :: rest)) :=
  va_alen C.1 C.2.1 Z.1 hP k 0 (mw_ca hk hs (by decide)) rfl rfl hd kk
/-- how the world stands behind a method's own steps: for a callee, and for the end -/
theorem mw_Z.goes {U : State} (Z : mw_Z N G E s) (hP : va_P (mw_D E) vwCl (mw_ws sh N E σ) H) (hS : va_S (mw_A N E) s.heap H locs) (hU : U.heap = H) (hW : s.WarmedH U.vm) : mw_In sh N G E σ U := by
  obtain ⟨hK, hJ, hG, hGo⟩ := Z
  refine ⟨by rw [hU]; exact hP, va_K.moved hW.alike hK, hJ, hGo.2 E s U hG hW (fun q h1 h2 => ?_)⟩
  rw [hU]
  exact hS.2.1 q h1 h2
theorem mw_blind (Z : mw_Z N G E s) (av : List Value) : FrameBlind (va_Pc av (mw_In sh N G E σ)) := by
  intro a U g mk q
  obtain ⟨h1, h2, h3, h4, h5⟩ := q
  exact ⟨h1, h2, va_K.moved (u := U) (U := U.calling g mk a) (Vm.Alike.refl U.vm) h3, h4, Z.2.2.2.1 E U g mk a h5⟩
variable {post : Int32 → mw_M → Prop} {postl : Int64 → mw_M → Prop} {postv : mw_M → Prop}
theorem mw_iret (C : CallFix p m c cc nL s args Ts own) (hr : meth.sig.returnType = some .int) (hlk : meth.locks = false) (Z : mw_Z N G E s) (hP : va_P (mw_D E) vwCl (mw_ws sh N E σ) H) (hS : va_S (mw_A N E) s.heap H locs) {v : Int32} (hd : decode cc pc = .ok (.ireturn, 1)) (hq : post v σ) : W p l e R s m args below meth c H locs cells slots (MQ below (va_Qi post (mw_In sh N G E) (mw_A N E)) args s cells slots (mw_A N E)) (F0 m pc ls [.int v]) :=
  W.iret C.1 C.2.1 hr (fun t ht hW => ⟨⟨v, σ, rfl, hq, Z.goes hP hS ht hW⟩, hS.F ht⟩) hS.2.2 hd (hlocks := hlk)
theorem mw_zret (C : CallFix p m c cc nL s args Ts own) {ty : FieldType} (hr : meth.sig.returnType = some ty) (hlk : meth.locks = false) (Z : mw_Z N G E s) (hP : va_P (mw_D E) vwCl (mw_ws sh N E σ) H) (hS : va_S (mw_A N E) s.heap H locs) {v : Int32} (hn : narrow ty (.int v) = .int v) (hd : decode cc pc = .ok (.ireturn, 1)) (hq : post v σ) : W p l e R s m args below meth c H locs cells slots (MQ below (va_Qi post (mw_In sh N G E) (mw_A N E)) args s cells slots (mw_A N E)) (F0 m pc ls [.int v]) :=
  W.zret C.1 C.2.1 hr hn (fun t ht hW => ⟨⟨v, σ, rfl, hq, Z.goes hP hS ht hW⟩, hS.F ht⟩) hS.2.2 hd (hlocks := hlk)
theorem mw_lret (C : CallFix p m c cc nL s args Ts own) (hr : meth.sig.returnType = some .long) (hlk : meth.locks = false) (Z : mw_Z N G E s) (hP : va_P (mw_D E) vwCl (mw_ws sh N E σ) H) (hS : va_S (mw_A N E) s.heap H locs) {v : Int64} (hd : decode cc pc = .ok (.lreturn, 1)) (hq : postl v σ) : W p l e R s m args below meth c H locs cells slots (MQ below (va_Ql postl (mw_In sh N G E) (mw_A N E)) args s cells slots (mw_A N E)) (F0 m pc ls [.long v]) :=
  W.lret C.1 C.2.1 hr (fun t ht hW => ⟨⟨v, σ, rfl, hq, Z.goes hP hS ht hW⟩, hS.F ht⟩) hS.2.2 hd (hlocks := hlk)
theorem mw_vret (C : CallFix p m c cc nL s args Ts own) (hr : meth.sig.returnType = none) (hlk : meth.locks = false) (Z : mw_Z N G E s) (hP : va_P (mw_D E) vwCl (mw_ws sh N E σ) H) (hS : va_S (mw_A N E) s.heap H locs) (hd : decode cc pc = .ok (.return_, 1)) (hq : postv σ) : W p l e R s m args below meth c H locs cells slots (MQ below (va_Qv postv (mw_In sh N G E) (mw_A N E)) args s cells slots (mw_A N E)) (F0 m pc ls []) :=
  W.vret C.1 C.2.1 hr (fun t ht hW => ⟨⟨σ, rfl, hq, Z.goes hP hS ht hW⟩, hS.F ht⟩) hS.2.2 hd (hlocks := hlk)
variable {y : MethodName} {bytes : ByteArray} {maxL n index : Nat} {ret : Option FieldType} {rm : Room} {Cn : String} {As st0 : List Value}
/-- a call of an instance method that answers an int -/
theorem mw_cVi (C : CallFix p m c cc nL s args lw_good own) (Z : mw_Z N G E s) (hP : va_P (mw_D E) vwCl (mw_ws sh N E σ) H) (hS : va_S (mw_A N E) s.heap H locs) (k : Nat) (hM : mw_Ci sh N G l y bytes maxL ret rm E (.ref (mw_a E k) :: As) σ post) (hB : mw_VB y Cn bytes maxL ret n) (hl : .methodLink own index y ∈ lw_good) (hrc : rm.cells = 0 ∧ rm.slots = 0) (hR : rm.frames + 1 ≤ R.frames ∧ 8 + (maxL + 11) + rm.locals ≤ R.locals) {ci : Nat} {ds : List Nat} {q : vw_C} (hk : k < N) (hs : sh k = .inr (ci, ds)) (hc : vwCl[ci]? = some q) (hq : q.1 = Cn) (hn : As.length = n) (hsz : ls.size = nL) (hst : st0 = As.reverse ++ .ref (mw_a E k) :: rest) (hro : (rest.map fun v => v.category).sum ≤ 8) (hd : decode cc pc = .ok (.invokevirtual index, 3)) (hf : cells ≤ R.cells ∧ slots ≤ R.slots)
    (kk : ∀ (r : Int32) (u : mw_M) (H1 : Heap) (locs1 : List Loc), post r u → va_P (mw_D E) vwCl (mw_ws sh N E u) H1 → va_S (mw_A N E) s.heap H1 locs1 → W p l e R s m args below meth c H1 locs1 cells slots Q (F0 m (pc + 3) ls (.int r :: rest))) : W p l e R s m args below meth c H locs cells slots Q (F0 m pc ls st0) := by
  subst hq
  refine va_calli (va_runV C hM (cwV n C.2.2.2.2 (mw_gV hl hB) rfl hrc.1 hrc.2 hB.2 hR) ⟨mw_blind Z _, va_recv Z.1 hP hc (by rw [mw_at hk, hs]; rfl), fun U hU hW => ⟨rfl, Z.goes hP hS hU hW⟩⟩ rfl hn hsz hst (lv_room hro) hd hf) hS (fun _ _ h => h) (fun _ h => h) (fun r u t H1 locs1 ht _ hp hB _ _ hS1 => kk r u H1 locs1 hp (by rw [← ht]; exact hB.1) hS1)
theorem mw_cVl (C : CallFix p m c cc nL s args lw_good own) (Z : mw_Z N G E s) (hP : va_P (mw_D E) vwCl (mw_ws sh N E σ) H) (hS : va_S (mw_A N E) s.heap H locs) (k : Nat) (hM : mw_Cl sh N G l y bytes maxL ret rm E (.ref (mw_a E k) :: As) σ postl) (hB : mw_VB y Cn bytes maxL ret n) (hl : .methodLink own index y ∈ lw_good) (hrc : rm.cells = 0 ∧ rm.slots = 0) (hR : rm.frames + 1 ≤ R.frames ∧ 8 + (maxL + 11) + rm.locals ≤ R.locals) {ci : Nat} {ds : List Nat} {q : vw_C} (hk : k < N) (hs : sh k = .inr (ci, ds)) (hc : vwCl[ci]? = some q) (hq : q.1 = Cn) (hn : As.length = n) (hsz : ls.size = nL) (hst : st0 = As.reverse ++ .ref (mw_a E k) :: rest) (hro : (rest.map fun v => v.category).sum ≤ 8) (hd : decode cc pc = .ok (.invokevirtual index, 3)) (hf : cells ≤ R.cells ∧ slots ≤ R.slots)
    (kk : ∀ (r : Int64) (u : mw_M) (H1 : Heap) (locs1 : List Loc), postl r u → va_P (mw_D E) vwCl (mw_ws sh N E u) H1 → va_S (mw_A N E) s.heap H1 locs1 → W p l e R s m args below meth c H1 locs1 cells slots Q (F0 m (pc + 3) ls (.long r :: rest))) : W p l e R s m args below meth c H locs cells slots Q (F0 m pc ls st0) := by
  subst hq
  refine va_calll (va_runV C hM (cwV n C.2.2.2.2 (mw_gV hl hB) rfl hrc.1 hrc.2 hB.2 hR) ⟨mw_blind Z _, va_recv Z.1 hP hc (by rw [mw_at hk, hs]; rfl), fun U hU hW => ⟨rfl, Z.goes hP hS hU hW⟩⟩ rfl hn hsz hst (lv_room hro) hd hf) hS (fun _ _ h => h) (fun _ h => h) (fun r u t H1 locs1 ht _ hp hB _ _ hS1 => kk r u H1 locs1 hp (by rw [← ht]; exact hB.1) hS1)
theorem mw_cVv (C : CallFix p m c cc nL s args lw_good own) (Z : mw_Z N G E s) (hP : va_P (mw_D E) vwCl (mw_ws sh N E σ) H) (hS : va_S (mw_A N E) s.heap H locs) (k : Nat) (hM : mw_Cv sh N G l y bytes maxL ret rm E (.ref (mw_a E k) :: As) σ postv) (hB : mw_VB y Cn bytes maxL ret n) (hl : .methodLink own index y ∈ lw_good) (hrc : rm.cells = 0 ∧ rm.slots = 0) (hR : rm.frames + 1 ≤ R.frames ∧ 8 + (maxL + 11) + rm.locals ≤ R.locals) {ci : Nat} {ds : List Nat} {q : vw_C} (hk : k < N) (hs : sh k = .inr (ci, ds)) (hc : vwCl[ci]? = some q) (hq : q.1 = Cn) (hn : As.length = n) (hsz : ls.size = nL) (hst : st0 = As.reverse ++ .ref (mw_a E k) :: rest) (hro : (rest.map fun v => v.category).sum ≤ 8) (hd : decode cc pc = .ok (.invokevirtual index, 3)) (hf : cells ≤ R.cells ∧ slots ≤ R.slots)
    (kk : ∀ (u : mw_M) (H1 : Heap) (locs1 : List Loc), postv u → va_P (mw_D E) vwCl (mw_ws sh N E u) H1 → va_S (mw_A N E) s.heap H1 locs1 → W p l e R s m args below meth c H1 locs1 cells slots Q (F0 m (pc + 3) ls rest)) : W p l e R s m args below meth c H locs cells slots Q (F0 m pc ls st0) := by
  subst hq
  refine va_callv (va_runV C hM (cwV n C.2.2.2.2 (mw_gV hl hB) rfl hrc.1 hrc.2 hB.2 hR) ⟨mw_blind Z _, va_recv Z.1 hP hc (by rw [mw_at hk, hs]; rfl), fun U hU hW => ⟨rfl, Z.goes hP hS hU hW⟩⟩ rfl hn hsz hst (lv_room hro) hd hf) hS (fun _ _ h => h) (fun _ h => h) (fun u t H1 locs1 ht _ hp hB _ _ hS1 => kk u H1 locs1 hp (by rw [← ht]; exact hB.1) hS1)
theorem mw_cVr {w : Nat} (C : CallFix p m c cc nL s args lw_good own) (Z : mw_Z N G E s) (hP : va_P (mw_D E) vwCl (mw_ws sh N E σ) H) (hS : va_S (mw_A N E) s.heap H locs) (k : Nat) (hM : mw_Cr sh N G l y bytes maxL ret rm E (.ref (mw_a E k) :: As) σ postv w) (hB : mw_VB y Cn bytes maxL ret n) (hl : .methodLink own index y ∈ lw_good) (hrc : rm.cells = 0 ∧ rm.slots = 0) (hR : rm.frames + 1 ≤ R.frames ∧ 8 + (maxL + 11) + rm.locals ≤ R.locals) {ci : Nat} {ds : List Nat} {q : vw_C} (hk : k < N) (hs : sh k = .inr (ci, ds)) (hc : vwCl[ci]? = some q) (hq : q.1 = Cn) (hn : As.length = n) (hsz : ls.size = nL) (hst : st0 = As.reverse ++ .ref (mw_a E k) :: rest) (hro : (rest.map fun v => v.category).sum ≤ 8) (hd : decode cc pc = .ok (.invokevirtual index, 3)) (hf : cells ≤ R.cells ∧ slots ≤ R.slots)
    (kk : ∀ (u : mw_M) (H1 : Heap) (locs1 : List Loc), postv u → va_P (mw_D E) vwCl (mw_ws sh N E u) H1 → va_S (mw_A N E) s.heap H1 locs1 → W p l e R s m args below meth c H1 locs1 cells slots Q (F0 m (pc + 3) ls (.ref w :: rest))) : W p l e R s m args below meth c H locs cells slots Q (F0 m pc ls st0) := by
  subst hq
  refine va_callr (va_runV C hM (cwV n C.2.2.2.2 (mw_gV hl hB) rfl hrc.1 hrc.2 hB.2 hR) ⟨mw_blind Z _, va_recv Z.1 hP hc (by rw [mw_at hk, hs]; rfl), fun U hU hW => ⟨rfl, Z.goes hP hS hU hW⟩⟩ rfl hn hsz hst (lv_room hro) hd hf) hS (fun _ _ h => h) (fun _ h => h) (fun u ra t H1 locs1 ht _ hp hB _ _ hS1 => by obtain ⟨rfl, hB⟩ := hB; exact kk u H1 locs1 hp (by rw [← ht]; exact hB.1) hS1)
/-- calls of static methods -/
theorem mw_cSi (C : CallFix p m c cc nL s args lw_good own) (Z : mw_Z N G E s) (hP : va_P (mw_D E) vwCl (mw_ws sh N E σ) H) (hS : va_S (mw_A N E) s.heap H locs) (hM : mw_Ci sh N G l y bytes maxL ret rm E As σ post) (hB : mw_SB y bytes maxL ret n) (hl : .methodLink own index y ∈ lw_good) (hrc : rm.cells = 0 ∧ rm.slots = 0) (hR : rm.frames + 1 ≤ R.frames ∧ 8 + (maxL + 11) + rm.locals ≤ R.locals) (hn : As.length = n) (hsz : ls.size = nL) (hst : st0 = As.reverse ++ rest) (hro : (rest.map fun v => v.category).sum ≤ 8) (hd : decode cc pc = .ok (.invokestatic index, 3)) (hf : cells ≤ R.cells ∧ slots ≤ R.slots)
    (kk : ∀ (r : Int32) (u : mw_M) (H1 : Heap) (locs1 : List Loc), post r u → va_P (mw_D E) vwCl (mw_ws sh N E u) H1 → va_S (mw_A N E) s.heap H1 locs1 → W p l e R s m args below meth c H1 locs1 cells slots Q (F0 m (pc + 3) ls (.int r :: rest))) : W p l e R s m args below meth c H locs cells slots Q (F0 m pc ls st0) :=
  va_calli (va_runS C hM (va_cwS n C.2.2.2.2 (mw_gS hl hB) rfl hrc.1 hrc.2 hB.2 hR) ⟨mw_blind Z _, fun U hU hW => ⟨rfl, Z.goes hP hS hU hW⟩⟩ rfl hn hsz hst (lv_room hro) hd hf) hS (fun _ _ h => h) (fun _ h => h) (fun r u t H1 locs1 ht _ hp hB _ _ hS1 => kk r u H1 locs1 hp (by rw [← ht]; exact hB.1) hS1)
theorem mw_cSl (C : CallFix p m c cc nL s args lw_good own) (Z : mw_Z N G E s) (hP : va_P (mw_D E) vwCl (mw_ws sh N E σ) H) (hS : va_S (mw_A N E) s.heap H locs) (hM : mw_Cl sh N G l y bytes maxL ret rm E As σ postl) (hB : mw_SB y bytes maxL ret n) (hl : .methodLink own index y ∈ lw_good) (hrc : rm.cells = 0 ∧ rm.slots = 0) (hR : rm.frames + 1 ≤ R.frames ∧ 8 + (maxL + 11) + rm.locals ≤ R.locals) (hn : As.length = n) (hsz : ls.size = nL) (hst : st0 = As.reverse ++ rest) (hro : (rest.map fun v => v.category).sum ≤ 8) (hd : decode cc pc = .ok (.invokestatic index, 3)) (hf : cells ≤ R.cells ∧ slots ≤ R.slots)
    (kk : ∀ (r : Int64) (u : mw_M) (H1 : Heap) (locs1 : List Loc), postl r u → va_P (mw_D E) vwCl (mw_ws sh N E u) H1 → va_S (mw_A N E) s.heap H1 locs1 → W p l e R s m args below meth c H1 locs1 cells slots Q (F0 m (pc + 3) ls (.long r :: rest))) : W p l e R s m args below meth c H locs cells slots Q (F0 m pc ls st0) :=
  va_calll (va_runS C hM (va_cwS n C.2.2.2.2 (mw_gS hl hB) rfl hrc.1 hrc.2 hB.2 hR) ⟨mw_blind Z _, fun U hU hW => ⟨rfl, Z.goes hP hS hU hW⟩⟩ rfl hn hsz hst (lv_room hro) hd hf) hS (fun _ _ h => h) (fun _ h => h) (fun r u t H1 locs1 ht _ hp hB _ _ hS1 => kk r u H1 locs1 hp (by rw [← ht]; exact hB.1) hS1)
theorem mw_top {x y : Int32} (h : x = y) (k : W p l e R s m args below meth c H locs cells slots Q (F0 m pc ls (.int y :: rest))) : W p l e R s m args below meth c H locs cells slots Q (F0 m pc ls (.int x :: rest)) := by rw [h]; exact k
theorem mw_topl {x y : Int64} (h : x = y) (k : W p l e R s m args below meth c H locs cells slots Q (F0 m pc ls (.long y :: rest))) : W p l e R s m args below meth c H locs cells slots Q (F0 m pc ls (.long x :: rest)) := by rw [h]; exact k
end MWR
/-- a method's contract out of the walk of its body -/
theorem mw_of {l : Launch} {y : MethodName} {cc : ByteArray} {nL : Nat} {rt : Option FieldType} {rm : Room} {sh : Nat → mw_Sh} {N : Nat} {G : mw_E → State → Prop} {E : mw_E} {σ : mw_M} {av : List Value} {Qc : Array Value → State → Outcome → State → Prop} (hy : plainName y.cls = true) (hGo : mw_Go N G) (hlen : (lg_sl av).length ≤ nL)
    (body : ∀ (p : Program) (e : Env) (s : State) (m : MethodId) (below : List Frame) (meth : Method) (c : Code), CallFix p m c cc nL s av.toArray lw_good y.cls → meth.sig.returnType = rt → meth.locks = false → mw_Z N G E s → va_P (mw_D E) vwCl (mw_ws sh N E σ) s.heap → ∀ ls : Array Slot, lv_has ls nL (lv_args 0 av) → W p l e rm s m av.toArray below meth c s.heap [] 0 0 (MQ below Qc av.toArray s 0 0 (mw_A N E)) (F0 m 0 ls [])) : Met l y (wT y cc nL rt) rm (va_Pc av (mw_In sh N G E σ)) Qc 0 0 (mw_A N E) := by
  refine Met.ofW (cc := cc) (maxL := nL) (ret := rt) hy rfl ?_
  intro p e s m args below meth c s₁ B hml hv
  obtain ⟨rfl, hP, hK, hJ, hG⟩ := hv
  have hts := atoms_spec (ws := wT y cc nL rt) B.pre
  rw [lg_entry_eq]
  exact body p e s m below meth c ⟨B.exec, B.bytes, hml, findClass_of_methodNamed B.named, fun w h => hts w (List.mem_cons_of_mem _ h)⟩ B.returns B.notSynchronized ⟨hK, hJ, hG, hGo⟩ hP _ (lv_entry av hlen)
/-- a truth as an int, and what a branch on it says -/
def bI (c : Prop) [Decidable c] : Int32 := if c then 1 else 0
theorem bI_t {c : Prop} [Decidable c] (h : c) : bI c = 1 := if_pos h
theorem bI_f {c : Prop} [Decidable c] (h : ¬ c) : bI c = 0 := if_neg h
theorem bI_0 {c : Prop} [Decidable c] : bI c = 0 ↔ ¬ c := by
  by_cases h : c
  · rw [bI_t h]; exact ⟨fun q => absurd q (by decide), fun q => absurd h q⟩
  · rw [bI_f h]; exact ⟨fun _ => h, fun _ => rfl⟩
theorem bI_n {c : Prop} [Decidable c] : ¬ bI c = 0 ↔ c := by
  rw [bI_0]
  exact Decidable.not_not
theorem mw_lit (n : Nat) : (OfNat.ofNat n : Int32) = nI n := rfl
/-- the reference's world -/
def shM (k : Nat) : mw_Sh := match k with
  | 0 => .inr (12, [0, 1 + 2, 2 + 2, 0, 0, 3 + 2, 0, 4 + 2, 5 + 2, 6 + 2, 0, 0, 0, 0, 0, 0, 0, 0, 0, 0, 0, 0, 1, 0, 0, 0, 7 + 2, 8 + 2, 0, 0, 9 + 2, 10 + 2, 11 + 2, 12 + 2])
  | 1 => .inl (0, 960, 0)
  | 2 => .inl (0, 6, 0)
  | 3 => .inl (0, 160, 0)
  | 4 => .inl (0, 5, 0)
  | 5 => .inl (0, 8, 0)
  | 6 => .inl (0, 32, 0)
  | 7 => .inl (0, 5, 0)
  | 8 => .inl (0, 32, 0)
  | 9 => .inl (1, 4, 0)
  | 10 => .inl (0, 4, 0)
  | 11 => .inl (0, 4, 0)
  | _ => .inl (0, 160, 0)
abbrev gM : mw_E → State → Prop := fun _ _ => True
theorem gM_ok : mw_Go 13 gM := ⟨fun _ _ _ _ _ _ => trivial, fun _ _ _ _ _ _ => trivial⟩
abbrev mCi := mw_Ci shM 13 gM
abbrev mCl := mw_Cl shM 13 gM
abbrev mCv := mw_Cv shM 13 gM
abbrev rmF (f n : Nat) : Room := { frames := f, cells := 0, slots := 0, locals := n }
abbrev mWi (p : Program) (l : Launch) (e : Env) (rm : Room) (s : State) (m : MethodId) (av : List Value) (below : List Frame) (meth : Method) (c : Code) (E : mw_E) (post : Int32 → mw_M → Prop) (H : Heap) (locs : List Loc) (g : JFrame) : Prop := W p l e rm s m av.toArray below meth c H locs 0 0 (MQ below (va_Qi post (mw_In shM 13 gM E) (mw_A 13 E)) av.toArray s 0 0 (mw_A 13 E)) g
abbrev mWl (p : Program) (l : Launch) (e : Env) (rm : Room) (s : State) (m : MethodId) (av : List Value) (below : List Frame) (meth : Method) (c : Code) (E : mw_E) (post : Int64 → mw_M → Prop) (H : Heap) (locs : List Loc) (g : JFrame) : Prop := W p l e rm s m av.toArray below meth c H locs 0 0 (MQ below (va_Ql post (mw_In shM 13 gM E) (mw_A 13 E)) av.toArray s 0 0 (mw_A 13 E)) g
abbrev mWv (p : Program) (l : Launch) (e : Env) (rm : Room) (s : State) (m : MethodId) (av : List Value) (below : List Frame) (meth : Method) (c : Code) (E : mw_E) (post : mw_M → Prop) (H : Heap) (locs : List Loc) (g : JFrame) : Prop := W p l e rm s m av.toArray below meth c H locs 0 0 (MQ below (va_Qv post (mw_In shM 13 gM E) (mw_A 13 E)) av.toArray s 0 0 (mw_A 13 E)) g
