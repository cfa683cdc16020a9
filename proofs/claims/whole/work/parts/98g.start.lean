/-! THE LAW, from its entry -/
set_option maxHeartbeats 4000000 in
set_option maxRecDepth 100000 in
theorem whole_start {p : Program} {e : Env} {s : State} {m : MethodId} {below : List Frame} {meth : Method} {c : Code} (l : Launch) (hflags : l.flags = flags0) {b L : Nat} {xs : Nat → Int32} (hL : L ≤ 3072) (C0 : lw_At p s m meth c b L xs) : W p l e room_1 s m #[Value.ref b] below meth c s.heap [] 0 0 (lw_Z below #[Value.ref b] s) (entryFrame m ([Value.ref b] : List Value).toArray 4) := by
  obtain ⟨hx, hb, hr, hml, hown, hts, hX, hbl, hlocks, hgv⟩ := C0
  have h2 : ∀ w ∈ lw_good, w.before #[Value.ref b] s = true := fun w h => hts w (List.mem_filter.mp h).1
  have C : CallFix p m c cL_law 4 s #[Value.ref b] lw_good RL := ⟨hx, hb, hml, hown, h2⟩
  have hN := lw_NW hts
  obtain ⟨D, ci, hK⟩ := lw_K h2 hN
  obtain ⟨tt, kk, vv, hsX⟩ := lw_sX hts hgv
  have Z : gZ s.heap.size D ci s := ⟨hK, Nat.le_refl _, hN⟩
  have hS : va_S (gA s.heap.size) s.heap s.heap [] := va_S.rf
  have hP : va_P D vwCl (([] : va_W) ++ []) s.heap := fun k q h => by simp at h
  have hD : va_D (gA s.heap.size) (([] : va_W) ++ []) := ⟨fun i j p q h => by simp at h, fun k q h => by simp at h⟩
  have hl := lv_entry ([.ref b]) (n := 4) (Nat.le_of_ble_eq_true rfl)
  rw [lg_entry_eq]
  generalize (lg_sl ([.ref b]) ++ List.replicate (4 - (lg_sl ([.ref b])).length) Slot.unset).toArray = ls at hl ⊢
  have hl : lv_has ls 4 [(0, .ref b)] := hl
  refine gt_new (w := []) (t := []) (k := 11) (fs := [.null, .null, .null, .int 0, .null, .null, .null, .null, .null, .null, .null]) C Z hP hD hS inX11 tyX11 tyX11_ok tw_1_22 tw_1_23 tw_1_1 rfl (fun j hj => by match j, hj with | 0, _ => rfl | 1, _ => rfl | 2, _ => rfl | 3, _ => rfl | 4, _ => rfl | 5, _ => rfl | 6, _ => rfl | 7, _ => rfl | 8, _ => rfl | 9, _ => rfl | 10, _ => rfl | j + 11, hj => exact absurd hj (by omega)) (Nat.le_of_ble_eq_true rfl) (Nat.le_of_ble_eq_true rfl) dL_law_0 (fun q H hP hD hS => ?_)
  have hP : va_P D vwCl ([] ++ [(q, .inr (11, [.null, .null, .null, .int 0, .null, .null, .null, .null, .null, .null, .null]))]) H := hP
  have hD : va_D (gA s.heap.size) ([] ++ [(q, .inr (11, [.null, .null, .null, .int 0, .null, .null, .null, .null, .null, .null, .null]))]) := hD
  refine W.widen (k := 1) (n := 11) (Nat.le_of_ble_eq_true rfl) (Nat.le_of_ble_eq_true rfl) ?_
  refine lv_dup C.1 C.2.1 dL_law_3 rfl ?_
  refine va_callv (va_runI (As := []) (rest := [.ref q]) C (gc_11 l s.heap.size D ci tt kk vv q) (cwI 0 C.2.2.2.2 (wT_good tw_1_26) rfl rfl rfl (C.2.2.2.2 _ tw_1_1) (C.2.2.2.2 _ tw_1_24) (C.2.2.2.2 _ tw_1_25) rfl (by decide +kernel) ⟨Nat.le_of_ble_eq_true rfl, Nat.le_of_ble_eq_true rfl⟩) ⟨gt_blind (sX_ok _ _ _ _) _, fun U hU hW => ⟨rfl, Z.goes (sX_ok _ _ _ _) hsX hP hD hS hU hW⟩⟩ rfl rfl hl.1 rfl (lv_room (Nat.le_of_ble_eq_true rfl)) dL_law_4 ⟨Nat.le_of_ble_eq_true rfl, Nat.le_of_ble_eq_true rfl⟩) hS (fun _ _ h => h) (fun _ h => h) (fun z U H1 locs1 ht _ hp hB _ _ hS1 => ?_)
  obtain ⟨E, u⟩ := z
  obtain ⟨⟨e1, e2, e3, e4, e5⟩, hJ, ea, hsub, h0⟩ := hp
  obtain ⟨g1, -⟩ := hB
  have e1 : mw_D E = D := e1
  have e2 : mw_c E = ci := e2
  have e3 : mw_t E = tt := e3
  have e4 : mw_k E = kk := e4
  have e5 : mw_v E = vv := e5
  have ea : mw_a E 30 = q := ea
  have g1 : va_P D vwCl (mw_ws shX 75 E u) U.heap := g1
  rw [ht] at g1
  subst e1 e2 e3 e4 e5 ea
  exact lw_t1 C hr hlocks hX hbl hL Z hsX hJ hsub (RX_start h0) g1 hS1 hl
