/-! THE LAW: its beginning, from the back -/
set_option maxHeartbeats 4000000 in
set_option maxRecDepth 100000 in
theorem lw_t2 {p : Program} {l : Launch} {e : Env} {s : State} {m : MethodId} {below : List Frame} {meth : Method} {c : Code} {H : Heap} {locs : List Loc} {ls : Array Slot} {b L : Nat} {xs : Nat → Int32} {E F : mw_E} {u τ : mw_M} (C : CallFix p m c cL_law 4 s #[Value.ref b] lw_good RL) (hr : meth.sig.returnType = ret) (hlocks : meth.locks = false) (hX : va_X b L xs s s.heap) (hbl : b < s.heap.size) (hL : L ≤ 3072) (ZX : geZ 75 gX E (gA s.heap.size) s) (hKF : va_K (mw_D F) vwCl (mw_ty F) s) (hu : RX u τ) (hP : va_P (mw_D E) vwCl (mw_ws shX 75 E u) H) (hP2 : va_P (mw_D F) vwCl (mw_ws shM 13 F τ) H) (hD : va_D (gA s.heap.size) (mw_ws shX 75 E u ++ mw_ws shM 13 F τ)) (hS : va_S (gA s.heap.size) s.heap H locs) (hl : lv_has ls 4 [(1, .ref (mw_a E 30)), (0, .ref b)]) : W p l e room_1 s m #[Value.ref b] below meth c H locs 88 3515 (lw_Z below #[Value.ref b] s) (F0 m 15 ls [.ref (mw_a F 0)]) := by
  have ZM : geZ 13 gM F (gA s.heap.size) s := geM hKF hD
  have hap : ∀ q, mw_A 75 E q → ¬ mw_A 13 F q := fun q hq => by
    obtain ⟨k, hk, rfl⟩ := hq
    exact gm_apart hD (mw_at hk)
  have B : lwB p s m meth c b L xs E F := ⟨C, ⟨hr, hlocks⟩, ⟨hX, hbl, hL⟩, ZX, ZM, hap⟩
  refine lv_astore_n (lv' := [(2, .ref (mw_a F 0)), (1, .ref (mw_a E 30)), (0, .ref b)]) C.1 C.2.1 dL_law_15 rfl hl (by decide) rfl (fun ls hl => ?_)
  refine lv_iconst (v := nI 0) C.1 C.2.1 dL_law_16 (by decide) ?_
  refine lv_istore_n (lv' := [(3, .int (nI 0)), (2, .ref (mw_a F 0)), (1, .ref (mw_a E 30)), (0, .ref b)]) C.1 C.2.1 dL_law_17 rfl hl (by decide) rfl (fun ls hl => ?_)
  exact lw_loop B (L + 1) 0 (Nat.zero_le L) (by omega) u τ H locs ⟨hu, hP, hP2, hS⟩ ls (lv_sub hl [3, 2, 1, 0] rfl)
theorem gOkT (b : Nat) : gOk b (fun _ => True) := ⟨fun _ _ _ _ _ => trivial, fun _ _ _ _ _ => trivial⟩
set_option maxHeartbeats 4000000 in
set_option maxRecDepth 100000 in
theorem lw_t1 {p : Program} {l : Launch} {e : Env} {s : State} {m : MethodId} {below : List Frame} {meth : Method} {c : Code} {H : Heap} {locs : List Loc} {ls : Array Slot} {b L : Nat} {xs : Nat → Int32} {E : mw_E} {u : mw_M} (C : CallFix p m c cL_law 4 s #[Value.ref b] lw_good RL) (hr : meth.sig.returnType = ret) (hlocks : meth.locks = false) (hX : va_X b L xs s s.heap) (hbl : b < s.heap.size) (hL : L ≤ 3072) (Z : gZ s.heap.size (mw_D E) (mw_c E) s) (hx : sX (gA s.heap.size) (mw_t E) (mw_k E) (mw_v E) s) (hJ : mw_J 75 E) (hsub : ∀ q, mw_A 75 E q → gA s.heap.size q) (hu : RX u m0M) (hP : va_P (mw_D E) vwCl (mw_ws shX 75 E u) H) (hS : va_S (gA s.heap.size) s.heap H locs) (hl : lv_has ls 4 [(0, .ref b)]) : W p l e room_1 s m #[Value.ref b] below meth c H locs 75 2101 (lw_Z below #[Value.ref b] s) (F0 m 7 ls [.ref (mw_a E 30)]) := by
  have ZX : geZ 75 gX E (gA s.heap.size) s := geX Z.1 hJ hsub hx
  refine lv_astore_n (lv' := [(1, .ref (mw_a E 30)), (0, .ref b)]) C.1 C.2.1 dL_law_7 rfl hl (by decide) rfl (fun ls hl => ?_)
  have hD : va_D (gA s.heap.size) (mw_ws shX 75 E u) := ZX.DD
  generalize hw : mw_ws shX 75 E u = w at hP hD
  have hP : va_P (mw_D E) vwCl (w ++ []) H := by rw [List.append_nil]; exact hP
  have hD : va_D (gA s.heap.size) (w ++ []) := by rw [List.append_nil]; exact hD
  refine gt_new (k := 12) (fs := [.int 0, .null, .null, .int 0, .int 0, .null, .int 0, .null, .null, .null, .int 0, .int 0, .int 0, .int 0, .int 0, .int 0, .int 0, .int 0, .int 0, .int 0, .int 0, .int 0, .long 0, .int 0, .int 0, .int 0, .null, .null, .int 0, .int 0, .null, .null, .null, .null]) C Z hP hD hS inX12 tyX12 tyX12_ok tw_4_155 tw_4_156 tw_1_19 rfl (fun j hj => by match j, hj with | 0, _ => rfl | 1, _ => rfl | 2, _ => rfl | 3, _ => rfl | 4, _ => rfl | 5, _ => rfl | 6, _ => rfl | 7, _ => rfl | 8, _ => rfl | 9, _ => rfl | 10, _ => rfl | 11, _ => rfl | 12, _ => rfl | 13, _ => rfl | 14, _ => rfl | 15, _ => rfl | 16, _ => rfl | 17, _ => rfl | 18, _ => rfl | 19, _ => rfl | 20, _ => rfl | 21, _ => rfl | 22, _ => rfl | 23, _ => rfl | 24, _ => rfl | 25, _ => rfl | 26, _ => rfl | 27, _ => rfl | 28, _ => rfl | 29, _ => rfl | 30, _ => rfl | 31, _ => rfl | 32, _ => rfl | 33, _ => rfl | j + 34, hj => exact absurd hj (by omega)) (Nat.le_of_ble_eq_true rfl) (Nat.le_of_ble_eq_true rfl) dL_law_8 (fun q H hP hD hS => ?_)
  have hP : va_P (mw_D E) vwCl (w ++ [(q, .inr (12, [.int 0, .null, .null, .int 0, .int 0, .null, .int 0, .null, .null, .null, .int 0, .int 0, .int 0, .int 0, .int 0, .int 0, .int 0, .int 0, .int 0, .int 0, .int 0, .int 0, .long 0, .int 0, .int 0, .int 0, .null, .null, .int 0, .int 0, .null, .null, .null, .null]))]) H := hP
  have hD : va_D (gA s.heap.size) (w ++ [(q, .inr (12, [.int 0, .null, .null, .int 0, .int 0, .null, .int 0, .null, .null, .null, .int 0, .int 0, .int 0, .int 0, .int 0, .int 0, .int 0, .int 0, .int 0, .int 0, .int 0, .int 0, .long 0, .int 0, .int 0, .int 0, .null, .null, .int 0, .int 0, .null, .null, .null, .null]))]) := hD
  refine W.widen (k := 76) (n := 2135) (Nat.le_of_ble_eq_true rfl) (Nat.le_of_ble_eq_true rfl) ?_
  refine lv_dup C.1 C.2.1 dL_law_11 rfl ?_
  refine va_callv (va_runI (As := []) (rest := [.ref q]) C (gc_12 l s.heap.size (mw_D E) (mw_c E) (fun _ => True) (gOkT _) w q) (cwI 0 C.2.2.2.2 (wT_good tw_4_159) rfl rfl rfl (C.2.2.2.2 _ tw_1_19) (C.2.2.2.2 _ tw_4_157) (C.2.2.2.2 _ tw_4_158) rfl (by decide +kernel) ⟨Nat.le_of_ble_eq_true rfl, Nat.le_of_ble_eq_true rfl⟩) ⟨gt_blind (gOkT _) _, fun U hU hW => ⟨rfl, Z.goes (gOkT _) trivial hP hD hS hU hW⟩⟩ rfl rfl hl.1 rfl (lv_room (Nat.le_of_ble_eq_true rfl)) dL_law_12 ⟨Nat.le_of_ble_eq_true rfl, Nat.le_of_ble_eq_true rfl⟩) hS (fun _ _ h => h) (fun _ h => h) (fun z U H1 locs1 ht _ hp hB _ _ hS1 => ?_)
  obtain ⟨F, v⟩ := z
  obtain ⟨⟨e1, e2⟩, e3, e4⟩ := hp
  obtain ⟨g1, g2, -⟩ := hB
  have e1 : mw_D F = mw_D E := e1
  have e2 : mw_c F = mw_c E := e2
  have e3 : mw_a F 0 = q := e3
  have e4 : v = m0M := e4
  have g1 : va_P (mw_D E) vwCl (w ++ mw_ws shM 13 F v) U.heap := g1
  have g2 : va_D (gA s.heap.size) (w ++ mw_ws shM 13 F v) := g2
  rw [ht] at g1
  subst hw
  have hKF : va_K (mw_D F) vwCl (mw_ty F) s := by
    show va_K (mw_D F) vwCl (gTy (mw_c F)) s
    rw [e1, e2]
    exact Z.1
  have hP2 : va_P (mw_D F) vwCl (mw_ws shM 13 F v) H1 := by
    rw [e1]
    exact gm_right g1
  rw [← e3]
  exact lw_t2 C hr hlocks hX hbl hL ZX hKF (by rw [e4]; exact hu) (gm_left g1) hP2 g2 hS1 hl
