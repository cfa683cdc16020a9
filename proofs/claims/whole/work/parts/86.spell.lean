/-! CELLS BESIDE A WORLD, IN ONE LIST; THE REFERENCE'S SPELL -/
theorem va_D_fst {A : Nat → Prop} {ws ws2 : va_W} (h : va_D A ws) (e : ws.map Prod.fst = ws2.map Prod.fst) : va_D A ws2 := by
  have key : ∀ (k : Nat) (q : Nat × va_E), ws2[k]? = some q → ∃ x, ws[k]? = some x ∧ x.1 = q.1 := by
    intro k q hq
    have h1 : (ws2.map Prod.fst)[k]? = some q.1 := by rw [List.getElem?_map, hq]; rfl
    rw [← e, List.getElem?_map] at h1
    cases hx : ws[k]? with
    | none => rw [hx] at h1; cases h1
    | some x => rw [hx] at h1; exact ⟨x, rfl, Option.some.inj h1⟩
  refine ⟨fun i j p q hi hj hpq => ?_, fun k q hq => ?_⟩
  · obtain ⟨x, h1, e1⟩ := key i p hi
    obtain ⟨y, h2, e2⟩ := key j q hj
    exact h.1 i j x y h1 h2 (by rw [e1, e2, hpq])
  · obtain ⟨x, h1, e1⟩ := key k q hq
    rw [← e1]
    exact h.2 k x h1
theorem mw_fst (sh : Nat → mw_Sh) (N : Nat) (E : mw_E) (σ : mw_M) : (mw_ws sh N E σ).map Prod.fst = (List.range N).map (mw_a E) := by
  unfold mw_ws
  rw [List.map_map]
  rfl
theorem gm_D {A : Nat → Prop} {w : va_W} {sh : Nat → mw_Sh} {N : Nat} {E : mw_E} {σ : mw_M} (u : mw_M) (h : va_D A (w ++ mw_ws sh N E σ)) : va_D A (w ++ mw_ws sh N E u) := va_D_fst h (by rw [List.map_append, List.map_append, mw_fst, mw_fst])
section GM
variable {p : Program} {l : Launch} {e : Env} {R : Room} {s : State} {m : MethodId} {args : Array Value} {below : List Frame} {meth : Method} {c : Code} {H : Heap} {locs : List Loc} {cells slots : Nat} {Q : State → Prop}
variable {cc : ByteArray} {nL pc : Nat} {ls : Array Slot} {rest : List Value} {own : String} {sh : Nat → mw_Sh} {N : Nat} {G : mw_E → State → Prop} {E : mw_E} {σ : mw_M} {A : Nat → Prop} {w : va_W}
theorem gm_right {D : va_G} {t : va_W} (hP : va_P D vwCl (w ++ t) H) : va_P D vwCl t H := fun k q hk => hP (w.length + k) q ((gt_get k).trans hk)
theorem gm_left {D : va_G} {t : va_W} (hP : va_P D vwCl (w ++ t) H) : va_P D vwCl w H := fun k q hk => hP k q (by rw [List.getElem?_append_left (List.getElem?_eq_some_iff.mp hk).1]; exact hk)
theorem gm_apart (hD : va_D A (w ++ mw_ws sh N E σ)) {k : Nat} {x : Nat × va_E} (hk : w[k]? = some x) : ¬ mw_A N E x.1 := by
  rintro ⟨j, hj, e⟩
  have hl := (List.getElem?_eq_some_iff.mp hk).1
  have := hD.1 k (w.length + j) x (mw_a E j, _) (by rw [List.getElem?_append_left hl]; exact hk) ((gt_get j).trans (mw_at hj)) e
  omega
theorem gm_kept {H1 : Heap} {u : mw_M} (hP : va_P (mw_D E) vwCl (w ++ mw_ws sh N E σ) H) (hD : va_D A (w ++ mw_ws sh N E σ)) (h1 : va_P (mw_D E) vwCl (mw_ws sh N E u) H1) (hk1 : ∀ q : Nat, q < H.size → ¬ mw_A N E q → H1[q]? = H[q]?) : va_P (mw_D E) vwCl (w ++ mw_ws sh N E u) H1 :=
  ((gm_left hP).kept (fun k x hk => hk1 x.1 ((gm_left hP k x hk).lt) (gm_apart hD hk))).app h1
theorem gm_getr (C : CallFix p m c cc nL s args lw_good own) (hK : va_K (mw_D E) vwCl (mw_ty E) s) (hP : va_P (mw_D E) vwCl (w ++ mw_ws sh N E σ) H) (k f q : Nat) {ci Nf index : Nat} {ds : List Nat} {Cn : String} {T : u_T} (hk : k < N) (hs : sh k = .inr (ci, ds)) (hf : ds[f]? = some (q + 2)) (hc : vwCl[ci]? = some (Cn, T, Nf)) (hfN : f < Nf) (hin : ∀ w ∈ u_ws Cn T Nf, w ∈ lw_good) (hl : Cond.fieldLink own index (T f).1 (T f).2.1 (T f).2.2.1 ∈ lw_good) (hd : decode cc pc = .ok (.getfield index, 3))
    (kk : W p l e R s m args below meth c H locs cells slots Q (F0 m (pc + 3) ls (.ref (mw_a E q) :: rest))) : W p l e R s m args below meth c H locs cells slots Q (F0 m pc ls (.ref (mw_a E k) :: rest)) := by
  refine va_get (D := mw_D E) (ci := ci) (fs := mw_fs E (σ.1 k) (σ.2.2 k) 0 ds) C.1 C.2.1 C.2.2.2.2 hin C.2.2.2.1 hK hP (w.length + k) ((gt_get k).trans (by rw [mw_at hk, hs]; rfl)) hc f hfN (C.2.2.2.2 _ hl) (fun _ h => h) ?_ hd kk
  rw [mw_fs_get E _ _ ds 0 f (q + 2) hf]
  rfl
theorem gm_iast (C : CallFix p m c cc nL s args lw_good own) (hK : va_K (mw_D E) vwCl (mw_ty E) s) (hP : va_P (mw_D E) vwCl (w ++ mw_ws sh N E σ) H) (hD : va_D A (w ++ mw_ws sh N E σ)) (hS : va_S A s.heap H locs) (k j : Nat) {n b : Nat} {i v : Int32} (hk : k < N) (hs : sh k = .inl (0, n, b)) (hn : n < 2 ^ 31) (he : i = nI j) (hj : j < n) (hd : decode cc pc = .ok (.iastore, 1))
    (kk : ∀ (H1 : Heap) (locs1 : List Loc), va_P (mw_D E) vwCl (w ++ mw_ws sh N E (mw_sa σ k j v)) H1 → va_D A (w ++ mw_ws sh N E (mw_sa σ k j v)) → va_S A s.heap H1 locs1 → W p l e R s m args below meth c H1 locs1 cells slots Q (F0 m (pc + 1) ls rest)) : W p l e R s m args below meth c H locs cells slots Q (F0 m pc ls (.int v :: .int i :: .ref (mw_a E k) :: rest)) := by
  subst he
  refine va_iast C.1 C.2.1 hK hP hD hS (w.length + k) 0 ((gt_get k).trans (mw_ca hk hs (by decide))) rfl (vp_in_nI hj hn) hd (fun H1 locs1 h1 _ h3 => kk H1 locs1 ?_ (gm_D _ hD) h3)
  rw [nI_clamp (by omega), gt_set, mw_upa hk hs (by decide)] at h1
  exact h1
theorem gm_puti (C : CallFix p m c cc nL s args lw_good own) (hK : va_K (mw_D E) vwCl (mw_ty E) s) (hP : va_P (mw_D E) vwCl (w ++ mw_ws sh N E σ) H) (hD : va_D A (w ++ mw_ws sh N E σ)) (hS : va_S A s.heap H locs) (k f : Nat) {ci Nf index : Nat} {ds : List Nat} {Cn : String} {T : u_T} {v : Int32} (hk : k < N) (hs : sh k = .inr (ci, ds)) (hf : ds[f]? = some 0) (hc : vwCl[ci]? = some (Cn, T, Nf)) (hfN : f < Nf) (hin : ∀ w ∈ u_ws Cn T Nf, w ∈ lw_good) (ty0 : Nat → FieldType) (hty : ∀ k, k < Nf → parseFieldDescriptor (T k).2.2.1 = some (ty0 k)) (hnm : ∀ a, a < Nf → ∀ b, b < Nf → a ≠ b → (T a).2.1 ≠ (T b).2.1) (hfin : (T f).2.2.2 = false) (hl : Cond.fieldLink own index (T f).1 (T f).2.1 (T f).2.2.1 ∈ lw_good) (hn : narrow (ty0 f) (.int v) = .int v) (hfit : fits (ty0 f) (.int v) = true) (hd : decode cc pc = .ok (.putfield index, 3))
    (kk : ∀ (H1 : Heap) (locs1 : List Loc), va_P (mw_D E) vwCl (w ++ mw_ws sh N E (mw_si σ k f v)) H1 → va_D A (w ++ mw_ws sh N E (mw_si σ k f v)) → va_S A s.heap H1 locs1 → W p l e R s m args below meth c H1 locs1 cells slots Q (F0 m (pc + 3) ls rest)) : W p l e R s m args below meth c H locs cells slots Q (F0 m pc ls (.int v :: .ref (mw_a E k) :: rest)) := by
  refine va_put (D := mw_D E) (ci := ci) (fs := mw_fs E (σ.1 k) (σ.2.2 k) 0 ds) C.1 C.2.1 C.2.2.2.2 hin ty0 hty hnm C.2.2.2.1 hK hP hD hS (w.length + k) ((gt_get k).trans (by rw [mw_at hk, hs]; rfl)) hc f hfN (C.2.2.2.2 _ hl) (fun _ h => h) hfin (hty f hfN) hn hfit ?_ hd (fun H1 locs1 h1 _ h3 => kk H1 locs1 (by rw [gt_set, mw_upi hk hs hf] at h1; exact h1) (gm_D _ hD) h3)
  rw [mw_fs_len]
  exact (List.getElem?_eq_some_iff.mp hf).1
end GM
def spM (σ : mw_M) (i : Nat) (b0 b1 b2 b3 b4 b5 b6 b7 : Int32) : mw_M := mw_sa (mw_sa (mw_sa (mw_sa (mw_sa (mw_sa (mw_sa (mw_sa σ 1 i b0) 1 (i + 1) b1) 1 (i + 2) b2) 1 (i + 3) b3) 1 (i + 4) b4) 1 (i + 5) b5) 1 (i + 6) b6) 1 (i + 7) b7

set_option maxHeartbeats 4000000 in
set_option maxRecDepth 100000 in
theorem cM_spell (l : Launch) (E : mw_E) (σ : mw_M) (i : Nat) (hi : i + 7 < 960) (b0 b1 b2 b3 b4 b5 b6 b7 : Int32) : mw_Cv shM 13 gM l yX12_spell cX12_spell 10 none (rmF 0 0) E [.ref (mw_a E 0), .int (nI i), .int b0, .int b1, .int b2, .int b3, .int b4, .int b5, .int b6, .int b7] σ (fun u => u = spM σ i b0 b1 b2 b3 b4 b5 b6 b7) := by
  refine mw_of (by decide) gM_ok (Nat.le_of_ble_eq_true rfl) ?_
  intro p_ e_ s_ m_ below meth c_ C hr hlk Z hP ls hl
  have C : CallFix p_ m_ c_ cX12_spell 10 s_ _ lw_good RX12 := C
  have hl : lv_has ls 10 [(0, .ref (mw_a E 0)), (1, .int (nI i)), (2, .int b0), (3, .int b1), (4, .int b2), (5, .int b3), (6, .int b4), (7, .int b5), (8, .int b6), (9, .int b7)] := hl
  have hS : va_S (mw_A 13 E) s_.heap s_.heap [] := va_S.rf
  refine lv_aload_n C.1 C.2.1 dX12_spell_0 rfl (lv_at hl 0 rfl) ?_
  refine mw_getr C Z hP (0) 1 (1) (by decide) rfl rfl rfl (by decide) inX12 tw_4_165 dX12_spell_1 ?_
  refine lv_iload_n C.1 C.2.1 dX12_spell_4 rfl (lv_at hl 1 rfl) ?_
  refine lv_iload_n C.1 C.2.1 dX12_spell_5 rfl (lv_at hl 2 rfl) ?_
  refine mw_iast C Z hP hS (1) (i) (by decide) rfl (Nat.lt_of_lt_of_le (by decide : 960 < 961) (Nat.le_of_ble_eq_true rfl)) rfl (by omega) dX12_spell_6 (fun H locs hP hS => ?_)
  refine lv_aload_n C.1 C.2.1 dX12_spell_7 rfl (lv_at hl 0 rfl) ?_
  refine mw_getr C Z hP (0) 1 (1) (by decide) rfl rfl rfl (by decide) inX12 tw_4_165 dX12_spell_8 ?_
  refine lv_iload_n C.1 C.2.1 dX12_spell_11 rfl (lv_at hl 1 rfl) ?_
  refine lv_iconst (v := 1) C.1 C.2.1 dX12_spell_12 (by decide) ?_
  refine lv_iadd C.1 C.2.1 dX12_spell_13 ?_
  refine mw_top (y := nI (i + 1)) (nI_1 _) ?_
  refine lv_iload_n C.1 C.2.1 dX12_spell_14 rfl (lv_at hl 3 rfl) ?_
  refine mw_iast C Z hP hS (1) (i + 1) (by decide) rfl (Nat.lt_of_lt_of_le (by decide : 960 < 961) (Nat.le_of_ble_eq_true rfl)) rfl (by omega) dX12_spell_15 (fun H locs hP hS => ?_)
  refine lv_aload_n C.1 C.2.1 dX12_spell_16 rfl (lv_at hl 0 rfl) ?_
  refine mw_getr C Z hP (0) 1 (1) (by decide) rfl rfl rfl (by decide) inX12 tw_4_165 dX12_spell_17 ?_
  refine lv_iload_n C.1 C.2.1 dX12_spell_20 rfl (lv_at hl 1 rfl) ?_
  refine lv_iconst (v := 2) C.1 C.2.1 dX12_spell_21 (by decide) ?_
  refine lv_iadd C.1 C.2.1 dX12_spell_22 ?_
  refine mw_top (y := nI (i + 2)) (nI_add _ 2) ?_
  refine lv_iload C.1 C.2.1 dX12_spell_23 (lv_at hl 4 rfl) ?_
  refine mw_iast C Z hP hS (1) (i + 2) (by decide) rfl (Nat.lt_of_lt_of_le (by decide : 960 < 961) (Nat.le_of_ble_eq_true rfl)) rfl (by omega) dX12_spell_25 (fun H locs hP hS => ?_)
  refine lv_aload_n C.1 C.2.1 dX12_spell_26 rfl (lv_at hl 0 rfl) ?_
  refine mw_getr C Z hP (0) 1 (1) (by decide) rfl rfl rfl (by decide) inX12 tw_4_165 dX12_spell_27 ?_
  refine lv_iload_n C.1 C.2.1 dX12_spell_30 rfl (lv_at hl 1 rfl) ?_
  refine lv_iconst (v := 3) C.1 C.2.1 dX12_spell_31 (by decide) ?_
  refine lv_iadd C.1 C.2.1 dX12_spell_32 ?_
  refine mw_top (y := nI (i + 3)) (nI_add _ 3) ?_
  refine lv_iload C.1 C.2.1 dX12_spell_33 (lv_at hl 5 rfl) ?_
  refine mw_iast C Z hP hS (1) (i + 3) (by decide) rfl (Nat.lt_of_lt_of_le (by decide : 960 < 961) (Nat.le_of_ble_eq_true rfl)) rfl (by omega) dX12_spell_35 (fun H locs hP hS => ?_)
  refine lv_aload_n C.1 C.2.1 dX12_spell_36 rfl (lv_at hl 0 rfl) ?_
  refine mw_getr C Z hP (0) 1 (1) (by decide) rfl rfl rfl (by decide) inX12 tw_4_165 dX12_spell_37 ?_
  refine lv_iload_n C.1 C.2.1 dX12_spell_40 rfl (lv_at hl 1 rfl) ?_
  refine lv_iconst (v := 4) C.1 C.2.1 dX12_spell_41 (by decide) ?_
  refine lv_iadd C.1 C.2.1 dX12_spell_42 ?_
  refine mw_top (y := nI (i + 4)) (nI_add _ 4) ?_
  refine lv_iload C.1 C.2.1 dX12_spell_43 (lv_at hl 6 rfl) ?_
  refine mw_iast C Z hP hS (1) (i + 4) (by decide) rfl (Nat.lt_of_lt_of_le (by decide : 960 < 961) (Nat.le_of_ble_eq_true rfl)) rfl (by omega) dX12_spell_45 (fun H locs hP hS => ?_)
  refine lv_aload_n C.1 C.2.1 dX12_spell_46 rfl (lv_at hl 0 rfl) ?_
  refine mw_getr C Z hP (0) 1 (1) (by decide) rfl rfl rfl (by decide) inX12 tw_4_165 dX12_spell_47 ?_
  refine lv_iload_n C.1 C.2.1 dX12_spell_50 rfl (lv_at hl 1 rfl) ?_
  refine lv_iconst (v := 5) C.1 C.2.1 dX12_spell_51 (by decide) ?_
  refine lv_iadd C.1 C.2.1 dX12_spell_52 ?_
  refine mw_top (y := nI (i + 5)) (nI_add _ 5) ?_
  refine lv_iload C.1 C.2.1 dX12_spell_53 (lv_at hl 7 rfl) ?_
  refine mw_iast C Z hP hS (1) (i + 5) (by decide) rfl (Nat.lt_of_lt_of_le (by decide : 960 < 961) (Nat.le_of_ble_eq_true rfl)) rfl (by omega) dX12_spell_55 (fun H locs hP hS => ?_)
  refine lv_aload_n C.1 C.2.1 dX12_spell_56 rfl (lv_at hl 0 rfl) ?_
  refine mw_getr C Z hP (0) 1 (1) (by decide) rfl rfl rfl (by decide) inX12 tw_4_165 dX12_spell_57 ?_
  refine lv_iload_n C.1 C.2.1 dX12_spell_60 rfl (lv_at hl 1 rfl) ?_
  refine lv_bipush (v := 6) C.1 C.2.1 dX12_spell_61 (by decide) ?_
  refine lv_iadd C.1 C.2.1 dX12_spell_63 ?_
  refine mw_top (y := nI (i + 6)) (nI_add _ 6) ?_
  refine lv_iload C.1 C.2.1 dX12_spell_64 (lv_at hl 8 rfl) ?_
  refine mw_iast C Z hP hS (1) (i + 6) (by decide) rfl (Nat.lt_of_lt_of_le (by decide : 960 < 961) (Nat.le_of_ble_eq_true rfl)) rfl (by omega) dX12_spell_66 (fun H locs hP hS => ?_)
  refine lv_aload_n C.1 C.2.1 dX12_spell_67 rfl (lv_at hl 0 rfl) ?_
  refine mw_getr C Z hP (0) 1 (1) (by decide) rfl rfl rfl (by decide) inX12 tw_4_165 dX12_spell_68 ?_
  refine lv_iload_n C.1 C.2.1 dX12_spell_71 rfl (lv_at hl 1 rfl) ?_
  refine lv_bipush (v := 7) C.1 C.2.1 dX12_spell_72 (by decide) ?_
  refine lv_iadd C.1 C.2.1 dX12_spell_74 ?_
  refine mw_top (y := nI (i + 7)) (nI_add _ 7) ?_
  refine lv_iload C.1 C.2.1 dX12_spell_75 (lv_at hl 9 rfl) ?_
  refine mw_iast C Z hP hS (1) (i + 7) (by decide) rfl (Nat.lt_of_lt_of_le (by decide : 960 < 961) (Nat.le_of_ble_eq_true rfl)) rfl (by omega) dX12_spell_77 (fun H locs hP hS => ?_)
  exact mw_vret C hr hlk Z hP hS dX12_spell_78 (rfl)
