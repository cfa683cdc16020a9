/-! THE CLASS IS MADE -/
set_option maxHeartbeats 8000000 in
set_option maxRecDepth 100000 in
theorem gc_11 (l : Launch) (b : Nat) (D : va_G) (ci : Nat → ClassId) (tt kk vv : Nat → Nat) (h0 : Nat) : Met l yX11_init (wT yX11_init cX11_init 2 none) (rmG 48 74 2090 1208) (va_Pc [.ref h0] (fun U => gI b D ci [] [(h0, .inr (11, [.null, .null, .null, .int 0, .null, .null, .null, .null, .null, .null, .null]))] U ∧ sX (gA b) tt kk vv U)) (va_Qv (fun z : mw_E × mw_M => (mw_D z.1 = D ∧ mw_c z.1 = ci ∧ mw_t z.1 = tt ∧ mw_k z.1 = kk ∧ mw_v z.1 = vv) ∧ mw_J 75 z.1 ∧ mw_a z.1 30 = h0 ∧ (∀ q, mw_A 75 z.1 q → gA b q) ∧ x0R z.2) (fun z U => va_P D vwCl (mw_ws shX 75 z.1 z.2) U.heap ∧ va_K D vwCl (gTy ci) U ∧ b ≤ U.heap.size ∧ gNW U ∧ sX (gA b) tt kk vv U) (gA b)) 74 2090 (gA b) := by
  refine gt_of (by decide) (Nat.le_of_ble_eq_true rfl) ?_
  intro p_ e_ s_ m_ below meth c_ C hr hlk hin Z hx hP hD ls hl
  have C : CallFix p_ m_ c_ cX11_init 2 s_ _ lw_good RX11 := C
  have hl : lv_has ls 2 [(0, .ref (h0))] := hl
  have hS : va_S (gA b) s_.heap s_.heap [] := va_S.rf
  have hX := sX_ok b tt kk vv
  have hP : va_P D vwCl (([] : va_W) ++ [(h0, .inr (11, [.null, .null, .null, .int 0, .null, .null, .null, .null, .null, .null, .null]))]) s_.heap := hP
  refine lv_aload_n C.1 C.2.1 dX11_init_0 rfl (lv_at hl 0 rfl) ?_
  refine W.objInit C.1 C.2.1 C.2.2.2.1 (C.2.2.2.2 _ tw_1_27) (C.2.2.2.2 _ tw_1_28) (C.2.2.2.2 _ tw_1_29) rfl (hl.1.trans C.2.2.1.symm) rfl dX11_init_1 (Nat.le_of_ble_eq_true rfl) (Nat.le_of_ble_eq_true rfl) ?_
  refine W.eq (g2 := F0 m_ 4 ls []) rfl ?_
  refine lv_aload_n C.1 C.2.1 dX11_init_4 rfl (lv_at hl 0 rfl) ?_
  refine gt_new (k := 6) (fs := [.int 0, .int 0, .int 0, .int 0, .int 0, .int 0, .int 0, .null]) C Z hP hD hS inX6 tyX6 tyX6_ok tw_1_30 tw_1_31 tw_1_2 rfl (fun j hj => by match j, hj with | 0, _ => rfl | 1, _ => rfl | 2, _ => rfl | 3, _ => rfl | 4, _ => rfl | 5, _ => rfl | 6, _ => rfl | 7, _ => rfl) (Nat.le_of_ble_eq_true rfl) (Nat.le_of_ble_eq_true rfl) dX11_init_5 (fun q1 H hP hD hS => ?_)
  have hP : va_P D vwCl (([] : va_W) ++ [(h0, .inr (11, [.null, .null, .null, .int 0, .null, .null, .null, .null, .null, .null, .null])), (q1, .inr (6, [.int 0, .int 0, .int 0, .int 0, .int 0, .int 0, .int 0, .null]))]) H := hP
  have hD : va_D (gA b) (([] : va_W) ++ [(h0, .inr (11, [.null, .null, .null, .int 0, .null, .null, .null, .null, .null, .null, .null])), (q1, .inr (6, [.int 0, .int 0, .int 0, .int 0, .int 0, .int 0, .int 0, .null]))]) := hD
  refine W.widen (k := 1) (n := 8) (Nat.le_of_ble_eq_true rfl) (Nat.le_of_ble_eq_true rfl) ?_
  refine lv_dup C.1 C.2.1 dX11_init_8 rfl ?_
  refine gt_cI  (n := 0) (As := []) (rest := [.ref (q1), .ref (h0)]) (t := [(h0, .inr (11, [.null, .null, .null, .int 0, .null, .null, .null, .null, .null, .null, .null]))]) (x := (q1, .inr (6, [.int 0, .int 0, .int 0, .int 0, .int 0, .int 0, .int 0, .null]))) hX hx C Z hP hD hS (gc_6 l b D ci _ hX (([] : va_W) ++ [(h0, .inr (11, [.null, .null, .null, .int 0, .null, .null, .null, .null, .null, .null, .null]))]) q1 ) tw_1_34 tw_1_2 tw_1_32 tw_1_33 (by decide +kernel) ⟨rfl, rfl⟩ ⟨Nat.le_of_ble_eq_true rfl, Nat.le_of_ble_eq_true rfl⟩ rfl hl.1 rfl (Nat.le_of_ble_eq_true rfl) dX11_init_9 ⟨Nat.le_of_ble_eq_true rfl, Nat.le_of_ble_eq_true rfl⟩ (fun t4 H locs hp3 hP hD hS => ?_)
  obtain ⟨u2, rfl⟩ := hp3
  have hP : va_P D vwCl (([] : va_W) ++ ([(h0, .inr (11, [.null, .null, .null, .int 0, .null, .null, .null, .null, .null, .null, .null]))] ++ gd_6 ci q1 u2)) H := hP
  have hD : va_D (gA b) (([] : va_W) ++ ([(h0, .inr (11, [.null, .null, .null, .int 0, .null, .null, .null, .null, .null, .null, .null]))] ++ gd_6 ci q1 u2)) := hD
  have hP : va_P D vwCl ((([] : va_W) ++ gd_6 ci q1 u2) ++ [(h0, .inr (11, [.null, .null, .null, .int 0, .null, .null, .null, .null, .null, .null, .null]))]) H := by rw [← List.append_assoc] at hP; exact hP.swap
  have hD : va_D (gA b) ((([] : va_W) ++ gd_6 ci q1 u2) ++ [(h0, .inr (11, [.null, .null, .null, .int 0, .null, .null, .null, .null, .null, .null, .null]))]) := by rw [← List.append_assoc] at hD; exact hD.swap
  generalize hW1 : ([] : va_W) ++ gd_6 ci q1 u2 = W1 at hP hD
  refine W.widen (k := 10) (n := 56) (Nat.le_of_ble_eq_true rfl) (Nat.le_of_ble_eq_true rfl) ?_
  refine gt_putF (k := 11) (v := .ref (q1)) C Z hP hD hS inX11 tyX11 tyX11_ok nmX11 0 rfl rfl 0 (by decide) tw_2_239 rfl hin rfl rfl rfl (Nat.le_of_ble_eq_true rfl) dX11_init_12 (fun H locs hP hD hS => ?_)
  have hP : va_P D vwCl (W1 ++ [(h0, .inr (11, [.ref (q1), .null, .null, .int 0, .null, .null, .null, .null, .null, .null, .null]))]) H := hP
  have hD : va_D (gA b) (W1 ++ [(h0, .inr (11, [.ref (q1), .null, .null, .int 0, .null, .null, .null, .null, .null, .null, .null]))]) := hD
  refine lv_aload_n C.1 C.2.1 dX11_init_15 rfl (lv_at hl 0 rfl) ?_
  refine gt_new (k := 6) (fs := [.int 0, .int 0, .int 0, .int 0, .int 0, .int 0, .int 0, .null]) C Z hP hD hS inX6 tyX6 tyX6_ok tw_1_30 tw_1_31 tw_1_2 rfl (fun j hj => by match j, hj with | 0, _ => rfl | 1, _ => rfl | 2, _ => rfl | 3, _ => rfl | 4, _ => rfl | 5, _ => rfl | 6, _ => rfl | 7, _ => rfl) (Nat.le_of_ble_eq_true rfl) (Nat.le_of_ble_eq_true rfl) dX11_init_16 (fun q5 H hP hD hS => ?_)
  have hP : va_P D vwCl (W1 ++ [(h0, .inr (11, [.ref (q1), .null, .null, .int 0, .null, .null, .null, .null, .null, .null, .null])), (q5, .inr (6, [.int 0, .int 0, .int 0, .int 0, .int 0, .int 0, .int 0, .null]))]) H := hP
  have hD : va_D (gA b) (W1 ++ [(h0, .inr (11, [.ref (q1), .null, .null, .int 0, .null, .null, .null, .null, .null, .null, .null])), (q5, .inr (6, [.int 0, .int 0, .int 0, .int 0, .int 0, .int 0, .int 0, .null]))]) := hD
  refine W.widen (k := 11) (n := 64) (Nat.le_of_ble_eq_true rfl) (Nat.le_of_ble_eq_true rfl) ?_
  refine lv_dup C.1 C.2.1 dX11_init_19 rfl ?_
  refine gt_cI  (n := 0) (As := []) (rest := [.ref (q5), .ref (h0)]) (t := [(h0, .inr (11, [.ref (q1), .null, .null, .int 0, .null, .null, .null, .null, .null, .null, .null]))]) (x := (q5, .inr (6, [.int 0, .int 0, .int 0, .int 0, .int 0, .int 0, .int 0, .null]))) hX hx C Z hP hD hS (gc_6 l b D ci _ hX (W1 ++ [(h0, .inr (11, [.ref (q1), .null, .null, .int 0, .null, .null, .null, .null, .null, .null, .null]))]) q5 ) tw_1_34 tw_1_2 tw_1_32 tw_1_33 (by decide +kernel) ⟨rfl, rfl⟩ ⟨Nat.le_of_ble_eq_true rfl, Nat.le_of_ble_eq_true rfl⟩ rfl hl.1 rfl (Nat.le_of_ble_eq_true rfl) dX11_init_20 ⟨Nat.le_of_ble_eq_true rfl, Nat.le_of_ble_eq_true rfl⟩ (fun t8 H locs hp7 hP hD hS => ?_)
  obtain ⟨u6, rfl⟩ := hp7
  have hP : va_P D vwCl (W1 ++ ([(h0, .inr (11, [.ref (q1), .null, .null, .int 0, .null, .null, .null, .null, .null, .null, .null]))] ++ gd_6 ci q5 u6)) H := hP
  have hD : va_D (gA b) (W1 ++ ([(h0, .inr (11, [.ref (q1), .null, .null, .int 0, .null, .null, .null, .null, .null, .null, .null]))] ++ gd_6 ci q5 u6)) := hD
  have hP : va_P D vwCl ((W1 ++ gd_6 ci q5 u6) ++ [(h0, .inr (11, [.ref (q1), .null, .null, .int 0, .null, .null, .null, .null, .null, .null, .null]))]) H := by rw [← List.append_assoc] at hP; exact hP.swap
  have hD : va_D (gA b) ((W1 ++ gd_6 ci q5 u6) ++ [(h0, .inr (11, [.ref (q1), .null, .null, .int 0, .null, .null, .null, .null, .null, .null, .null]))]) := by rw [← List.append_assoc] at hD; exact hD.swap
  generalize hW2 : W1 ++ gd_6 ci q5 u6 = W2 at hP hD
  refine W.widen (k := 20) (n := 112) (Nat.le_of_ble_eq_true rfl) (Nat.le_of_ble_eq_true rfl) ?_
  refine gt_putF (k := 11) (v := .ref (q5)) C Z hP hD hS inX11 tyX11 tyX11_ok nmX11 0 rfl rfl 1 (by decide) tw_3_0 rfl hin rfl rfl rfl (Nat.le_of_ble_eq_true rfl) dX11_init_23 (fun H locs hP hD hS => ?_)
  have hP : va_P D vwCl (W2 ++ [(h0, .inr (11, [.ref (q1), .ref (q5), .null, .int 0, .null, .null, .null, .null, .null, .null, .null]))]) H := hP
  have hD : va_D (gA b) (W2 ++ [(h0, .inr (11, [.ref (q1), .ref (q5), .null, .int 0, .null, .null, .null, .null, .null, .null, .null]))]) := hD
  refine lv_aload_n C.1 C.2.1 dX11_init_26 rfl (lv_at hl 0 rfl) ?_
  refine gt_new (k := 6) (fs := [.int 0, .int 0, .int 0, .int 0, .int 0, .int 0, .int 0, .null]) C Z hP hD hS inX6 tyX6 tyX6_ok tw_1_30 tw_1_31 tw_1_2 rfl (fun j hj => by match j, hj with | 0, _ => rfl | 1, _ => rfl | 2, _ => rfl | 3, _ => rfl | 4, _ => rfl | 5, _ => rfl | 6, _ => rfl | 7, _ => rfl) (Nat.le_of_ble_eq_true rfl) (Nat.le_of_ble_eq_true rfl) dX11_init_27 (fun q9 H hP hD hS => ?_)
  have hP : va_P D vwCl (W2 ++ [(h0, .inr (11, [.ref (q1), .ref (q5), .null, .int 0, .null, .null, .null, .null, .null, .null, .null])), (q9, .inr (6, [.int 0, .int 0, .int 0, .int 0, .int 0, .int 0, .int 0, .null]))]) H := hP
  have hD : va_D (gA b) (W2 ++ [(h0, .inr (11, [.ref (q1), .ref (q5), .null, .int 0, .null, .null, .null, .null, .null, .null, .null])), (q9, .inr (6, [.int 0, .int 0, .int 0, .int 0, .int 0, .int 0, .int 0, .null]))]) := hD
  refine W.widen (k := 21) (n := 120) (Nat.le_of_ble_eq_true rfl) (Nat.le_of_ble_eq_true rfl) ?_
  refine lv_dup C.1 C.2.1 dX11_init_30 rfl ?_
  refine gt_cI  (n := 0) (As := []) (rest := [.ref (q9), .ref (h0)]) (t := [(h0, .inr (11, [.ref (q1), .ref (q5), .null, .int 0, .null, .null, .null, .null, .null, .null, .null]))]) (x := (q9, .inr (6, [.int 0, .int 0, .int 0, .int 0, .int 0, .int 0, .int 0, .null]))) hX hx C Z hP hD hS (gc_6 l b D ci _ hX (W2 ++ [(h0, .inr (11, [.ref (q1), .ref (q5), .null, .int 0, .null, .null, .null, .null, .null, .null, .null]))]) q9 ) tw_1_34 tw_1_2 tw_1_32 tw_1_33 (by decide +kernel) ⟨rfl, rfl⟩ ⟨Nat.le_of_ble_eq_true rfl, Nat.le_of_ble_eq_true rfl⟩ rfl hl.1 rfl (Nat.le_of_ble_eq_true rfl) dX11_init_31 ⟨Nat.le_of_ble_eq_true rfl, Nat.le_of_ble_eq_true rfl⟩ (fun t12 H locs hp11 hP hD hS => ?_)
  obtain ⟨u10, rfl⟩ := hp11
  have hP : va_P D vwCl (W2 ++ ([(h0, .inr (11, [.ref (q1), .ref (q5), .null, .int 0, .null, .null, .null, .null, .null, .null, .null]))] ++ gd_6 ci q9 u10)) H := hP
  have hD : va_D (gA b) (W2 ++ ([(h0, .inr (11, [.ref (q1), .ref (q5), .null, .int 0, .null, .null, .null, .null, .null, .null, .null]))] ++ gd_6 ci q9 u10)) := hD
  have hP : va_P D vwCl ((W2 ++ gd_6 ci q9 u10) ++ [(h0, .inr (11, [.ref (q1), .ref (q5), .null, .int 0, .null, .null, .null, .null, .null, .null, .null]))]) H := by rw [← List.append_assoc] at hP; exact hP.swap
  have hD : va_D (gA b) ((W2 ++ gd_6 ci q9 u10) ++ [(h0, .inr (11, [.ref (q1), .ref (q5), .null, .int 0, .null, .null, .null, .null, .null, .null, .null]))]) := by rw [← List.append_assoc] at hD; exact hD.swap
  generalize hW3 : W2 ++ gd_6 ci q9 u10 = W3 at hP hD
  refine W.widen (k := 30) (n := 168) (Nat.le_of_ble_eq_true rfl) (Nat.le_of_ble_eq_true rfl) ?_
  refine gt_putF (k := 11) (v := .ref (q9)) C Z hP hD hS inX11 tyX11 tyX11_ok nmX11 0 rfl rfl 2 (by decide) tw_3_1 rfl hin rfl rfl rfl (Nat.le_of_ble_eq_true rfl) dX11_init_34 (fun H locs hP hD hS => ?_)
  have hP : va_P D vwCl (W3 ++ [(h0, .inr (11, [.ref (q1), .ref (q5), .ref (q9), .int 0, .null, .null, .null, .null, .null, .null, .null]))]) H := hP
  have hD : va_D (gA b) (W3 ++ [(h0, .inr (11, [.ref (q1), .ref (q5), .ref (q9), .int 0, .null, .null, .null, .null, .null, .null, .null]))]) := hD
  refine lv_aload_n C.1 C.2.1 dX11_init_37 rfl (lv_at hl 0 rfl) ?_
  refine lv_iconst (v := 0) C.1 C.2.1 dX11_init_38 (by decide) ?_
  refine gt_put (k := 11) (v := .int 0) C Z hP hD hS inX11 tyX11 tyX11_ok nmX11 0 rfl rfl 3 (by decide) tw_3_2 rfl rfl rfl (Nat.le_of_ble_eq_true rfl) dX11_init_39 (fun H locs hP hD hS => ?_)
  have hP : va_P D vwCl (W3 ++ [(h0, .inr (11, [.ref (q1), .ref (q5), .ref (q9), .int 0, .null, .null, .null, .null, .null, .null, .null]))]) H := hP
  have hD : va_D (gA b) (W3 ++ [(h0, .inr (11, [.ref (q1), .ref (q5), .ref (q9), .int 0, .null, .null, .null, .null, .null, .null, .null]))]) := hD
  refine lv_aload_n C.1 C.2.1 dX11_init_42 rfl (lv_at hl 0 rfl) ?_
  refine gt_new (k := 7) (fs := [.null, .int 0]) C Z hP hD hS inX7 tyX7 tyX7_ok tw_1_115 tw_1_116 tw_1_4 rfl (fun j hj => by match j, hj with | 0, _ => rfl | 1, _ => rfl) (Nat.le_of_ble_eq_true rfl) (Nat.le_of_ble_eq_true rfl) dX11_init_43 (fun q13 H hP hD hS => ?_)
  have hP : va_P D vwCl (W3 ++ [(h0, .inr (11, [.ref (q1), .ref (q5), .ref (q9), .int 0, .null, .null, .null, .null, .null, .null, .null])), (q13, .inr (7, [.null, .int 0]))]) H := hP
  have hD : va_D (gA b) (W3 ++ [(h0, .inr (11, [.ref (q1), .ref (q5), .ref (q9), .int 0, .null, .null, .null, .null, .null, .null, .null])), (q13, .inr (7, [.null, .int 0]))]) := hD
  refine W.widen (k := 31) (n := 170) (Nat.le_of_ble_eq_true rfl) (Nat.le_of_ble_eq_true rfl) ?_
  refine lv_dup C.1 C.2.1 dX11_init_46 rfl ?_
  refine gt_cIN (host := RX11) (n := 0) (As := []) (rest := [.ref (q13), .ref (h0)]) (t := [(h0, .inr (11, [.ref (q1), .ref (q5), .ref (q9), .int 0, .null, .null, .null, .null, .null, .null, .null]))]) (x := (q13, .inr (7, [.null, .int 0]))) hX hx C Z hP hD hS (gc_7 l b D ci _ hX (W3 ++ [(h0, .inr (11, [.ref (q1), .ref (q5), .ref (q9), .int 0, .null, .null, .null, .null, .null, .null, .null]))]) q13 ) tw_1_119 tw_1_4 Z.2.2.1.2.1 tw_1_118 (by decide +kernel) ⟨rfl, rfl⟩ ⟨Nat.le_of_ble_eq_true rfl, Nat.le_of_ble_eq_true rfl⟩ rfl hl.1 rfl (Nat.le_of_ble_eq_true rfl) dX11_init_47 ⟨Nat.le_of_ble_eq_true rfl, Nat.le_of_ble_eq_true rfl⟩ (fun t16 H locs hp15 hP hD hS => ?_)
  obtain ⟨u14, rfl⟩ := hp15
  have hP : va_P D vwCl (W3 ++ ([(h0, .inr (11, [.ref (q1), .ref (q5), .ref (q9), .int 0, .null, .null, .null, .null, .null, .null, .null]))] ++ gd_7 ci q13 u14)) H := hP
  have hD : va_D (gA b) (W3 ++ ([(h0, .inr (11, [.ref (q1), .ref (q5), .ref (q9), .int 0, .null, .null, .null, .null, .null, .null, .null]))] ++ gd_7 ci q13 u14)) := hD
  have hP : va_P D vwCl ((W3 ++ gd_7 ci q13 u14) ++ [(h0, .inr (11, [.ref (q1), .ref (q5), .ref (q9), .int 0, .null, .null, .null, .null, .null, .null, .null]))]) H := by rw [← List.append_assoc] at hP; exact hP.swap
  have hD : va_D (gA b) ((W3 ++ gd_7 ci q13 u14) ++ [(h0, .inr (11, [.ref (q1), .ref (q5), .ref (q9), .int 0, .null, .null, .null, .null, .null, .null, .null]))]) := by rw [← List.append_assoc] at hD; exact hD.swap
  generalize hW4 : W3 ++ gd_7 ci q13 u14 = W4 at hP hD
  refine W.widen (k := 32) (n := 330) (Nat.le_of_ble_eq_true rfl) (Nat.le_of_ble_eq_true rfl) ?_
  refine gt_putF (k := 11) (v := .ref (q13)) C Z hP hD hS inX11 tyX11 tyX11_ok nmX11 0 rfl rfl 4 (by decide) tw_3_3 rfl hin rfl rfl rfl (Nat.le_of_ble_eq_true rfl) dX11_init_50 (fun H locs hP hD hS => ?_)
  have hP : va_P D vwCl (W4 ++ [(h0, .inr (11, [.ref (q1), .ref (q5), .ref (q9), .int 0, .ref (q13), .null, .null, .null, .null, .null, .null]))]) H := hP
  have hD : va_D (gA b) (W4 ++ [(h0, .inr (11, [.ref (q1), .ref (q5), .ref (q9), .int 0, .ref (q13), .null, .null, .null, .null, .null, .null]))]) := hD
  refine lv_aload_n C.1 C.2.1 dX11_init_53 rfl (lv_at hl 0 rfl) ?_
  refine gt_new (k := 3) (fs := [.null, .int 0, .int 0]) C Z hP hD hS inX3 tyX3 tyX3_ok tw_1_131 tw_1_132 tw_1_5 rfl (fun j hj => by match j, hj with | 0, _ => rfl | 1, _ => rfl | 2, _ => rfl) (Nat.le_of_ble_eq_true rfl) (Nat.le_of_ble_eq_true rfl) dX11_init_54 (fun q17 H hP hD hS => ?_)
  have hP : va_P D vwCl (W4 ++ [(h0, .inr (11, [.ref (q1), .ref (q5), .ref (q9), .int 0, .ref (q13), .null, .null, .null, .null, .null, .null])), (q17, .inr (3, [.null, .int 0, .int 0]))]) H := hP
  have hD : va_D (gA b) (W4 ++ [(h0, .inr (11, [.ref (q1), .ref (q5), .ref (q9), .int 0, .ref (q13), .null, .null, .null, .null, .null, .null])), (q17, .inr (3, [.null, .int 0, .int 0]))]) := hD
  refine W.widen (k := 33) (n := 333) (Nat.le_of_ble_eq_true rfl) (Nat.le_of_ble_eq_true rfl) ?_
  refine lv_dup C.1 C.2.1 dX11_init_57 rfl ?_
  refine gt_cIN (host := RX11) (n := 0) (As := []) (rest := [.ref (q17), .ref (h0)]) (t := [(h0, .inr (11, [.ref (q1), .ref (q5), .ref (q9), .int 0, .ref (q13), .null, .null, .null, .null, .null, .null]))]) (x := (q17, .inr (3, [.null, .int 0, .int 0]))) hX hx C Z hP hD hS (gc_3 l b D ci _ hX (W4 ++ [(h0, .inr (11, [.ref (q1), .ref (q5), .ref (q9), .int 0, .ref (q13), .null, .null, .null, .null, .null, .null]))]) q17 ) tw_1_135 tw_1_5 Z.2.2.1.2.2.1 tw_1_134 (by decide +kernel) ⟨rfl, rfl⟩ ⟨Nat.le_of_ble_eq_true rfl, Nat.le_of_ble_eq_true rfl⟩ rfl hl.1 rfl (Nat.le_of_ble_eq_true rfl) dX11_init_58 ⟨Nat.le_of_ble_eq_true rfl, Nat.le_of_ble_eq_true rfl⟩ (fun t20 H locs hp19 hP hD hS => ?_)
  obtain ⟨u18, rfl⟩ := hp19
  have hP : va_P D vwCl (W4 ++ ([(h0, .inr (11, [.ref (q1), .ref (q5), .ref (q9), .int 0, .ref (q13), .null, .null, .null, .null, .null, .null]))] ++ gd_3 ci q17 u18)) H := hP
  have hD : va_D (gA b) (W4 ++ ([(h0, .inr (11, [.ref (q1), .ref (q5), .ref (q9), .int 0, .ref (q13), .null, .null, .null, .null, .null, .null]))] ++ gd_3 ci q17 u18)) := hD
  have hP : va_P D vwCl ((W4 ++ gd_3 ci q17 u18) ++ [(h0, .inr (11, [.ref (q1), .ref (q5), .ref (q9), .int 0, .ref (q13), .null, .null, .null, .null, .null, .null]))]) H := by rw [← List.append_assoc] at hP; exact hP.swap
  have hD : va_D (gA b) ((W4 ++ gd_3 ci q17 u18) ++ [(h0, .inr (11, [.ref (q1), .ref (q5), .ref (q9), .int 0, .ref (q13), .null, .null, .null, .null, .null, .null]))]) := by rw [← List.append_assoc] at hD; exact hD.swap
  generalize hW5 : W4 ++ gd_3 ci q17 u18 = W5 at hP hD
  refine W.widen (k := 36) (n := 658) (Nat.le_of_ble_eq_true rfl) (Nat.le_of_ble_eq_true rfl) ?_
  refine gt_putF (k := 11) (v := .ref (q17)) C Z hP hD hS inX11 tyX11 tyX11_ok nmX11 0 rfl rfl 5 (by decide) tw_3_4 rfl hin rfl rfl rfl (Nat.le_of_ble_eq_true rfl) dX11_init_61 (fun H locs hP hD hS => ?_)
  have hP : va_P D vwCl (W5 ++ [(h0, .inr (11, [.ref (q1), .ref (q5), .ref (q9), .int 0, .ref (q13), .ref (q17), .null, .null, .null, .null, .null]))]) H := hP
  have hD : va_D (gA b) (W5 ++ [(h0, .inr (11, [.ref (q1), .ref (q5), .ref (q9), .int 0, .ref (q13), .ref (q17), .null, .null, .null, .null, .null]))]) := hD
  refine lv_aload_n C.1 C.2.1 dX11_init_64 rfl (lv_at hl 0 rfl) ?_
  refine gt_new (k := 9) (fs := [.null, .int 0]) C Z hP hD hS inX9 tyX9 tyX9_ok tw_1_163 tw_1_164 tw_1_7 rfl (fun j hj => by match j, hj with | 0, _ => rfl | 1, _ => rfl) (Nat.le_of_ble_eq_true rfl) (Nat.le_of_ble_eq_true rfl) dX11_init_65 (fun q21 H hP hD hS => ?_)
  have hP : va_P D vwCl (W5 ++ [(h0, .inr (11, [.ref (q1), .ref (q5), .ref (q9), .int 0, .ref (q13), .ref (q17), .null, .null, .null, .null, .null])), (q21, .inr (9, [.null, .int 0]))]) H := hP
  have hD : va_D (gA b) (W5 ++ [(h0, .inr (11, [.ref (q1), .ref (q5), .ref (q9), .int 0, .ref (q13), .ref (q17), .null, .null, .null, .null, .null])), (q21, .inr (9, [.null, .int 0]))]) := hD
  refine W.widen (k := 37) (n := 660) (Nat.le_of_ble_eq_true rfl) (Nat.le_of_ble_eq_true rfl) ?_
  refine lv_dup C.1 C.2.1 dX11_init_68 rfl ?_
  refine gt_cI  (n := 0) (As := []) (rest := [.ref (q21), .ref (h0)]) (t := [(h0, .inr (11, [.ref (q1), .ref (q5), .ref (q9), .int 0, .ref (q13), .ref (q17), .null, .null, .null, .null, .null]))]) (x := (q21, .inr (9, [.null, .int 0]))) hX hx C Z hP hD hS (gc_9 l b D ci _ hX (W5 ++ [(h0, .inr (11, [.ref (q1), .ref (q5), .ref (q9), .int 0, .ref (q13), .ref (q17), .null, .null, .null, .null, .null]))]) q21 ) tw_1_167 tw_1_7 tw_1_165 tw_1_166 (by decide +kernel) ⟨rfl, rfl⟩ ⟨Nat.le_of_ble_eq_true rfl, Nat.le_of_ble_eq_true rfl⟩ rfl hl.1 rfl (Nat.le_of_ble_eq_true rfl) dX11_init_69 ⟨Nat.le_of_ble_eq_true rfl, Nat.le_of_ble_eq_true rfl⟩ (fun t24 H locs hp23 hP hD hS => ?_)
  obtain ⟨u22, rfl⟩ := hp23
  have hP : va_P D vwCl (W5 ++ ([(h0, .inr (11, [.ref (q1), .ref (q5), .ref (q9), .int 0, .ref (q13), .ref (q17), .null, .null, .null, .null, .null]))] ++ gd_9 ci q21 u22)) H := hP
  have hD : va_D (gA b) (W5 ++ ([(h0, .inr (11, [.ref (q1), .ref (q5), .ref (q9), .int 0, .ref (q13), .ref (q17), .null, .null, .null, .null, .null]))] ++ gd_9 ci q21 u22)) := hD
  have hP : va_P D vwCl ((W5 ++ gd_9 ci q21 u22) ++ [(h0, .inr (11, [.ref (q1), .ref (q5), .ref (q9), .int 0, .ref (q13), .ref (q17), .null, .null, .null, .null, .null]))]) H := by rw [← List.append_assoc] at hP; exact hP.swap
  have hD : va_D (gA b) ((W5 ++ gd_9 ci q21 u22) ++ [(h0, .inr (11, [.ref (q1), .ref (q5), .ref (q9), .int 0, .ref (q13), .ref (q17), .null, .null, .null, .null, .null]))]) := by rw [← List.append_assoc] at hD; exact hD.swap
  generalize hW6 : W5 ++ gd_9 ci q21 u22 = W6 at hP hD
  refine W.widen (k := 62) (n := 1908) (Nat.le_of_ble_eq_true rfl) (Nat.le_of_ble_eq_true rfl) ?_
  refine gt_putF (k := 11) (v := .ref (q21)) C Z hP hD hS inX11 tyX11 tyX11_ok nmX11 0 rfl rfl 6 (by decide) tw_3_5 rfl hin rfl rfl rfl (Nat.le_of_ble_eq_true rfl) dX11_init_72 (fun H locs hP hD hS => ?_)
  have hP : va_P D vwCl (W6 ++ [(h0, .inr (11, [.ref (q1), .ref (q5), .ref (q9), .int 0, .ref (q13), .ref (q17), .ref (q21), .null, .null, .null, .null]))]) H := hP
  have hD : va_D (gA b) (W6 ++ [(h0, .inr (11, [.ref (q1), .ref (q5), .ref (q9), .int 0, .ref (q13), .ref (q17), .ref (q21), .null, .null, .null, .null]))]) := hD
  refine lv_aload_n C.1 C.2.1 dX11_init_75 rfl (lv_at hl 0 rfl) ?_
  refine gt_new (k := 4) (fs := [.null]) C Z hP hD hS inX4 tyX4 tyX4_ok tw_1_199 tw_1_200 tw_1_9 rfl (fun j hj => by match j, hj with | 0, _ => rfl) (Nat.le_of_ble_eq_true rfl) (Nat.le_of_ble_eq_true rfl) dX11_init_76 (fun q25 H hP hD hS => ?_)
  have hP : va_P D vwCl (W6 ++ [(h0, .inr (11, [.ref (q1), .ref (q5), .ref (q9), .int 0, .ref (q13), .ref (q17), .ref (q21), .null, .null, .null, .null])), (q25, .inr (4, [.null]))]) H := hP
  have hD : va_D (gA b) (W6 ++ [(h0, .inr (11, [.ref (q1), .ref (q5), .ref (q9), .int 0, .ref (q13), .ref (q17), .ref (q21), .null, .null, .null, .null])), (q25, .inr (4, [.null]))]) := hD
  refine W.widen (k := 63) (n := 1909) (Nat.le_of_ble_eq_true rfl) (Nat.le_of_ble_eq_true rfl) ?_
  refine lv_dup C.1 C.2.1 dX11_init_79 rfl ?_
  refine lv_aload_n C.1 C.2.1 dX11_init_80 rfl (lv_at hl 0 rfl) ?_
  refine gt_getf C Z hP inX11 0 rfl rfl 6 (by decide) tw_3_5 rfl dX11_init_81 ?_
  refine gt_cI  (n := 1) (As := [.ref (q21)]) (rest := [.ref (q25), .ref (h0)]) (t := [(h0, .inr (11, [.ref (q1), .ref (q5), .ref (q9), .int 0, .ref (q13), .ref (q17), .ref (q21), .null, .null, .null, .null]))]) (x := (q25, .inr (4, [.null]))) hX hx C Z hP hD hS (gc_4 l b D ci _ hX (W6 ++ [(h0, .inr (11, [.ref (q1), .ref (q5), .ref (q9), .int 0, .ref (q13), .ref (q17), .ref (q21), .null, .null, .null, .null]))]) q25 q21) tw_1_203 tw_1_9 tw_1_201 tw_1_202 (by decide +kernel) ⟨rfl, rfl⟩ ⟨Nat.le_of_ble_eq_true rfl, Nat.le_of_ble_eq_true rfl⟩ rfl hl.1 rfl (Nat.le_of_ble_eq_true rfl) dX11_init_84 ⟨Nat.le_of_ble_eq_true rfl, Nat.le_of_ble_eq_true rfl⟩ (fun t28 H locs hp27 hP hD hS => ?_)
  obtain ⟨u26, rfl⟩ := hp27
  have hP : va_P D vwCl (W6 ++ ([(h0, .inr (11, [.ref (q1), .ref (q5), .ref (q9), .int 0, .ref (q13), .ref (q17), .ref (q21), .null, .null, .null, .null]))] ++ gd_4 ci q25 q21 u26)) H := hP
  have hD : va_D (gA b) (W6 ++ ([(h0, .inr (11, [.ref (q1), .ref (q5), .ref (q9), .int 0, .ref (q13), .ref (q17), .ref (q21), .null, .null, .null, .null]))] ++ gd_4 ci q25 q21 u26)) := hD
  have hP : va_P D vwCl ((W6 ++ gd_4 ci q25 q21 u26) ++ [(h0, .inr (11, [.ref (q1), .ref (q5), .ref (q9), .int 0, .ref (q13), .ref (q17), .ref (q21), .null, .null, .null, .null]))]) H := by rw [← List.append_assoc] at hP; exact hP.swap
  have hD : va_D (gA b) ((W6 ++ gd_4 ci q25 q21 u26) ++ [(h0, .inr (11, [.ref (q1), .ref (q5), .ref (q9), .int 0, .ref (q13), .ref (q17), .ref (q21), .null, .null, .null, .null]))]) := by rw [← List.append_assoc] at hD; exact hD.swap
  generalize hW7 : W6 ++ gd_4 ci q25 q21 u26 = W7 at hP hD
  refine W.widen (k := 63) (n := 1909) (Nat.le_of_ble_eq_true rfl) (Nat.le_of_ble_eq_true rfl) ?_
  refine gt_putF (k := 11) (v := .ref (q25)) C Z hP hD hS inX11 tyX11 tyX11_ok nmX11 0 rfl rfl 7 (by decide) tw_3_6 rfl hin rfl rfl rfl (Nat.le_of_ble_eq_true rfl) dX11_init_87 (fun H locs hP hD hS => ?_)
  have hP : va_P D vwCl (W7 ++ [(h0, .inr (11, [.ref (q1), .ref (q5), .ref (q9), .int 0, .ref (q13), .ref (q17), .ref (q21), .ref (q25), .null, .null, .null]))]) H := hP
  have hD : va_D (gA b) (W7 ++ [(h0, .inr (11, [.ref (q1), .ref (q5), .ref (q9), .int 0, .ref (q13), .ref (q17), .ref (q21), .ref (q25), .null, .null, .null]))]) := hD
  refine lv_aload_n C.1 C.2.1 dX11_init_90 rfl (lv_at hl 0 rfl) ?_
  refine gt_new (k := 0) (fs := [.int 0, .int 0, .int 0]) C Z hP hD hS inX0 tyX0 tyX0_ok tw_1_209 tw_1_210 tw_1_10 rfl (fun j hj => by match j, hj with | 0, _ => rfl | 1, _ => rfl | 2, _ => rfl) (Nat.le_of_ble_eq_true rfl) (Nat.le_of_ble_eq_true rfl) dX11_init_91 (fun q29 H hP hD hS => ?_)
  have hP : va_P D vwCl (W7 ++ [(h0, .inr (11, [.ref (q1), .ref (q5), .ref (q9), .int 0, .ref (q13), .ref (q17), .ref (q21), .ref (q25), .null, .null, .null])), (q29, .inr (0, [.int 0, .int 0, .int 0]))]) H := hP
  have hD : va_D (gA b) (W7 ++ [(h0, .inr (11, [.ref (q1), .ref (q5), .ref (q9), .int 0, .ref (q13), .ref (q17), .ref (q21), .ref (q25), .null, .null, .null])), (q29, .inr (0, [.int 0, .int 0, .int 0]))]) := hD
  refine W.widen (k := 64) (n := 1912) (Nat.le_of_ble_eq_true rfl) (Nat.le_of_ble_eq_true rfl) ?_
  refine lv_dup C.1 C.2.1 dX11_init_94 rfl ?_
  refine gt_cIN (host := RX11) (n := 0) (As := []) (rest := [.ref (q29), .ref (h0)]) (t := [(h0, .inr (11, [.ref (q1), .ref (q5), .ref (q9), .int 0, .ref (q13), .ref (q17), .ref (q21), .ref (q25), .null, .null, .null]))]) (x := (q29, .inr (0, [.int 0, .int 0, .int 0]))) hX hx C Z hP hD hS (gc_0 l b D ci _ hX (W7 ++ [(h0, .inr (11, [.ref (q1), .ref (q5), .ref (q9), .int 0, .ref (q13), .ref (q17), .ref (q21), .ref (q25), .null, .null, .null]))]) q29 ) tw_1_213 tw_1_10 Z.2.2.1.2.2.2.2.2.1 tw_1_212 (by decide +kernel) ⟨rfl, rfl⟩ ⟨Nat.le_of_ble_eq_true rfl, Nat.le_of_ble_eq_true rfl⟩ rfl hl.1 rfl (Nat.le_of_ble_eq_true rfl) dX11_init_95 ⟨Nat.le_of_ble_eq_true rfl, Nat.le_of_ble_eq_true rfl⟩ (fun t32 H locs hp31 hP hD hS => ?_)
  obtain ⟨u30, rfl⟩ := hp31
  have hP : va_P D vwCl (W7 ++ ([(h0, .inr (11, [.ref (q1), .ref (q5), .ref (q9), .int 0, .ref (q13), .ref (q17), .ref (q21), .ref (q25), .null, .null, .null]))] ++ gd_0 ci q29 u30)) H := hP
  have hD : va_D (gA b) (W7 ++ ([(h0, .inr (11, [.ref (q1), .ref (q5), .ref (q9), .int 0, .ref (q13), .ref (q17), .ref (q21), .ref (q25), .null, .null, .null]))] ++ gd_0 ci q29 u30)) := hD
  have hP : va_P D vwCl ((W7 ++ gd_0 ci q29 u30) ++ [(h0, .inr (11, [.ref (q1), .ref (q5), .ref (q9), .int 0, .ref (q13), .ref (q17), .ref (q21), .ref (q25), .null, .null, .null]))]) H := by rw [← List.append_assoc] at hP; exact hP.swap
  have hD : va_D (gA b) ((W7 ++ gd_0 ci q29 u30) ++ [(h0, .inr (11, [.ref (q1), .ref (q5), .ref (q9), .int 0, .ref (q13), .ref (q17), .ref (q21), .ref (q25), .null, .null, .null]))]) := by rw [← List.append_assoc] at hD; exact hD.swap
  generalize hW8 : W7 ++ gd_0 ci q29 u30 = W8 at hP hD
  refine W.widen (k := 64) (n := 1912) (Nat.le_of_ble_eq_true rfl) (Nat.le_of_ble_eq_true rfl) ?_
  refine gt_putF (k := 11) (v := .ref (q29)) C Z hP hD hS inX11 tyX11 tyX11_ok nmX11 0 rfl rfl 8 (by decide) tw_3_7 rfl hin rfl rfl rfl (Nat.le_of_ble_eq_true rfl) dX11_init_98 (fun H locs hP hD hS => ?_)
  have hP : va_P D vwCl (W8 ++ [(h0, .inr (11, [.ref (q1), .ref (q5), .ref (q9), .int 0, .ref (q13), .ref (q17), .ref (q21), .ref (q25), .ref (q29), .null, .null]))]) H := hP
  have hD : va_D (gA b) (W8 ++ [(h0, .inr (11, [.ref (q1), .ref (q5), .ref (q9), .int 0, .ref (q13), .ref (q17), .ref (q21), .ref (q25), .ref (q29), .null, .null]))]) := hD
  refine lv_aload_n C.1 C.2.1 dX11_init_101 rfl (lv_at hl 0 rfl) ?_
  refine gt_new (k := 2) (fs := [.long 0, .long 0]) C Z hP hD hS inX2 tyX2 tyX2_ok tw_1_226 tw_1_227 tw_1_11 rfl (fun j hj => by match j, hj with | 0, _ => rfl | 1, _ => rfl) (Nat.le_of_ble_eq_true rfl) (Nat.le_of_ble_eq_true rfl) dX11_init_102 (fun q33 H hP hD hS => ?_)
  have hP : va_P D vwCl (W8 ++ [(h0, .inr (11, [.ref (q1), .ref (q5), .ref (q9), .int 0, .ref (q13), .ref (q17), .ref (q21), .ref (q25), .ref (q29), .null, .null])), (q33, .inr (2, [.long 0, .long 0]))]) H := hP
  have hD : va_D (gA b) (W8 ++ [(h0, .inr (11, [.ref (q1), .ref (q5), .ref (q9), .int 0, .ref (q13), .ref (q17), .ref (q21), .ref (q25), .ref (q29), .null, .null])), (q33, .inr (2, [.long 0, .long 0]))]) := hD
  refine W.widen (k := 65) (n := 1914) (Nat.le_of_ble_eq_true rfl) (Nat.le_of_ble_eq_true rfl) ?_
  refine lv_dup C.1 C.2.1 dX11_init_105 rfl ?_
  refine gt_cIN (host := RX11) (n := 0) (As := []) (rest := [.ref (q33), .ref (h0)]) (t := [(h0, .inr (11, [.ref (q1), .ref (q5), .ref (q9), .int 0, .ref (q13), .ref (q17), .ref (q21), .ref (q25), .ref (q29), .null, .null]))]) (x := (q33, .inr (2, [.long 0, .long 0]))) hX hx C Z hP hD hS (gc_2 l b D ci _ hX (W8 ++ [(h0, .inr (11, [.ref (q1), .ref (q5), .ref (q9), .int 0, .ref (q13), .ref (q17), .ref (q21), .ref (q25), .ref (q29), .null, .null]))]) q33 ) tw_1_230 tw_1_11 Z.2.2.1.2.2.2.2.2.2.1 tw_1_229 (by decide +kernel) ⟨rfl, rfl⟩ ⟨Nat.le_of_ble_eq_true rfl, Nat.le_of_ble_eq_true rfl⟩ rfl hl.1 rfl (Nat.le_of_ble_eq_true rfl) dX11_init_106 ⟨Nat.le_of_ble_eq_true rfl, Nat.le_of_ble_eq_true rfl⟩ (fun t36 H locs hp35 hP hD hS => ?_)
  obtain ⟨u34, rfl⟩ := hp35
  have hP : va_P D vwCl (W8 ++ ([(h0, .inr (11, [.ref (q1), .ref (q5), .ref (q9), .int 0, .ref (q13), .ref (q17), .ref (q21), .ref (q25), .ref (q29), .null, .null]))] ++ gd_2 ci q33 u34)) H := hP
  have hD : va_D (gA b) (W8 ++ ([(h0, .inr (11, [.ref (q1), .ref (q5), .ref (q9), .int 0, .ref (q13), .ref (q17), .ref (q21), .ref (q25), .ref (q29), .null, .null]))] ++ gd_2 ci q33 u34)) := hD
  have hP : va_P D vwCl ((W8 ++ gd_2 ci q33 u34) ++ [(h0, .inr (11, [.ref (q1), .ref (q5), .ref (q9), .int 0, .ref (q13), .ref (q17), .ref (q21), .ref (q25), .ref (q29), .null, .null]))]) H := by rw [← List.append_assoc] at hP; exact hP.swap
  have hD : va_D (gA b) ((W8 ++ gd_2 ci q33 u34) ++ [(h0, .inr (11, [.ref (q1), .ref (q5), .ref (q9), .int 0, .ref (q13), .ref (q17), .ref (q21), .ref (q25), .ref (q29), .null, .null]))]) := by rw [← List.append_assoc] at hD; exact hD.swap
  generalize hW9 : W8 ++ gd_2 ci q33 u34 = W9 at hP hD
  refine W.widen (k := 65) (n := 1914) (Nat.le_of_ble_eq_true rfl) (Nat.le_of_ble_eq_true rfl) ?_
  refine gt_putF (k := 11) (v := .ref (q33)) C Z hP hD hS inX11 tyX11 tyX11_ok nmX11 0 rfl rfl 9 (by decide) tw_3_8 rfl hin rfl rfl rfl (Nat.le_of_ble_eq_true rfl) dX11_init_109 (fun H locs hP hD hS => ?_)
  have hP : va_P D vwCl (W9 ++ [(h0, .inr (11, [.ref (q1), .ref (q5), .ref (q9), .int 0, .ref (q13), .ref (q17), .ref (q21), .ref (q25), .ref (q29), .ref (q33), .null]))]) H := hP
  have hD : va_D (gA b) (W9 ++ [(h0, .inr (11, [.ref (q1), .ref (q5), .ref (q9), .int 0, .ref (q13), .ref (q17), .ref (q21), .ref (q25), .ref (q29), .ref (q33), .null]))]) := hD
  refine lv_aload_n C.1 C.2.1 dX11_init_112 rfl (lv_at hl 0 rfl) ?_
  refine lv_iconst (v := 4) C.1 C.2.1 dX11_init_113 (by decide) ?_
  refine gt_newq (N' := 4) C Z hP hD hS 3 rfl tw_2_1 Z.2.2.2.2.1 (by decide) (by decide) (Nat.le_of_ble_eq_true rfl) (Nat.le_of_ble_eq_true rfl) (Nat.le_of_ble_eq_true rfl) dX11_init_114 (fun q37 H hP hD hS => ?_)
  have hP : va_P D vwCl (W9 ++ [(h0, .inr (11, [.ref (q1), .ref (q5), .ref (q9), .int 0, .ref (q13), .ref (q17), .ref (q21), .ref (q25), .ref (q29), .ref (q33), .null])), (q37, .inl (ci 3, 4, .inr (.inr (.inr (.inr (fun _ => none))))))]) H := hP
  have hD : va_D (gA b) (W9 ++ [(h0, .inr (11, [.ref (q1), .ref (q5), .ref (q9), .int 0, .ref (q13), .ref (q17), .ref (q21), .ref (q25), .ref (q29), .ref (q33), .null])), (q37, .inl (ci 3, 4, .inr (.inr (.inr (.inr (fun _ => none))))))]) := hD
  refine W.widen (k := 66) (n := 1918) (Nat.le_of_ble_eq_true rfl) (Nat.le_of_ble_eq_true rfl) ?_
  refine gt_putF (k := 11) (v := .ref (q37)) C Z hP hD hS inX11 tyX11 tyX11_ok nmX11 0 rfl rfl 10 (by decide) tw_3_9 rfl hin rfl rfl rfl (Nat.le_of_ble_eq_true rfl) dX11_init_117 (fun H locs hP hD hS => ?_)
  have hP : va_P D vwCl (W9 ++ [(h0, .inr (11, [.ref (q1), .ref (q5), .ref (q9), .int 0, .ref (q13), .ref (q17), .ref (q21), .ref (q25), .ref (q29), .ref (q33), .ref (q37)])), (q37, .inl (ci 3, 4, .inr (.inr (.inr (.inr (fun _ => none))))))]) H := hP
  have hD : va_D (gA b) (W9 ++ [(h0, .inr (11, [.ref (q1), .ref (q5), .ref (q9), .int 0, .ref (q13), .ref (q17), .ref (q21), .ref (q25), .ref (q29), .ref (q33), .ref (q37)])), (q37, .inl (ci 3, 4, .inr (.inr (.inr (.inr (fun _ => none))))))]) := hD
  refine lv_iconst (v := 0) C.1 C.2.1 dX11_init_120 (by decide) ?_
  refine lv_istore_n (lv' := [(1, .int 0), (0, .ref (h0))]) C.1 C.2.1 dX11_init_121 rfl hl (by decide) rfl (fun ls hl => ?_)
  refine lv_iload_n C.1 C.2.1 dX11_init_122 rfl (lv_at hl 0 rfl) ?_
  refine lv_iconst (v := 4) C.1 C.2.1 dX11_init_123 (by decide) ?_
  refine lv_icmp_ge (tgt := 146) C.1 C.2.1 dX11_init_124 (by decide) (fun c38 => ?_) (fun c38 => ?_)
  · exact absurd c38 (by decide)
  · refine lv_aload_n C.1 C.2.1 dX11_init_127 rfl (lv_at hl 1 rfl) ?_
    refine gt_getf C Z hP inX11 0 rfl rfl 10 (by decide) tw_3_9 rfl dX11_init_128 ?_
    refine lv_iload_n C.1 C.2.1 dX11_init_131 rfl (lv_at hl 0 rfl) ?_
    refine gt_new (k := 5) (fs := [.int 0, .int 0, .null]) C Z hP hD hS inX5 tyX5 tyX5_ok tw_2_1 tw_2_3 tw_1_12 rfl (fun j hj => by match j, hj with | 0, _ => rfl | 1, _ => rfl | 2, _ => rfl) (Nat.le_of_ble_eq_true rfl) (Nat.le_of_ble_eq_true rfl) dX11_init_132 (fun q39 H hP hD hS => ?_)
    have hP : va_P D vwCl (W9 ++ [(h0, .inr (11, [.ref (q1), .ref (q5), .ref (q9), .int 0, .ref (q13), .ref (q17), .ref (q21), .ref (q25), .ref (q29), .ref (q33), .ref (q37)])), (q37, .inl (ci 3, 4, .inr (.inr (.inr (.inr (fun _ => none)))))), (q39, .inr (5, [.int 0, .int 0, .null]))]) H := hP
    have hD : va_D (gA b) (W9 ++ [(h0, .inr (11, [.ref (q1), .ref (q5), .ref (q9), .int 0, .ref (q13), .ref (q17), .ref (q21), .ref (q25), .ref (q29), .ref (q33), .ref (q37)])), (q37, .inl (ci 3, 4, .inr (.inr (.inr (.inr (fun _ => none)))))), (q39, .inr (5, [.int 0, .int 0, .null]))]) := hD
    refine W.widen (k := 67) (n := 1921) (Nat.le_of_ble_eq_true rfl) (Nat.le_of_ble_eq_true rfl) ?_
    refine lv_dup C.1 C.2.1 dX11_init_135 rfl ?_
    refine gt_cIN (host := RX11) (n := 0) (As := []) (rest := [.ref (q39), .int 0, .ref (q37)]) (t := [(h0, .inr (11, [.ref (q1), .ref (q5), .ref (q9), .int 0, .ref (q13), .ref (q17), .ref (q21), .ref (q25), .ref (q29), .ref (q33), .ref (q37)])), (q37, .inl (ci 3, 4, .inr (.inr (.inr (.inr (fun _ => none))))))]) (x := (q39, .inr (5, [.int 0, .int 0, .null]))) hX hx C Z hP hD hS (gc_5 l b D ci _ hX (W9 ++ [(h0, .inr (11, [.ref (q1), .ref (q5), .ref (q9), .int 0, .ref (q13), .ref (q17), .ref (q21), .ref (q25), .ref (q29), .ref (q33), .ref (q37)])), (q37, .inl (ci 3, 4, .inr (.inr (.inr (.inr (fun _ => none))))))]) q39 ) tw_2_6 tw_1_12 Z.2.2.1.2.2.2.2.2.2.2 tw_2_5 (by decide +kernel) ⟨rfl, rfl⟩ ⟨Nat.le_of_ble_eq_true rfl, Nat.le_of_ble_eq_true rfl⟩ rfl hl.1 rfl (Nat.le_of_ble_eq_true rfl) dX11_init_136 ⟨Nat.le_of_ble_eq_true rfl, Nat.le_of_ble_eq_true rfl⟩ (fun t42 H locs hp41 hP hD hS => ?_)
    obtain ⟨u40, rfl⟩ := hp41
    have hP : va_P D vwCl (W9 ++ [(h0, .inr (11, [.ref (q1), .ref (q5), .ref (q9), .int 0, .ref (q13), .ref (q17), .ref (q21), .ref (q25), .ref (q29), .ref (q33), .ref (q37)])), (q37, .inl (ci 3, 4, .inr (.inr (.inr (.inr (fun _ => none)))))), (q39, .inr (5, [.int (-1), .int 0, .ref ((u40 0))])), ((u40 0), .inl (ci 0, 40, .inl (fun _ => 0)))]) H := hP
    have hD : va_D (gA b) (W9 ++ [(h0, .inr (11, [.ref (q1), .ref (q5), .ref (q9), .int 0, .ref (q13), .ref (q17), .ref (q21), .ref (q25), .ref (q29), .ref (q33), .ref (q37)])), (q37, .inl (ci 3, 4, .inr (.inr (.inr (.inr (fun _ => none)))))), (q39, .inr (5, [.int (-1), .int 0, .ref ((u40 0))])), ((u40 0), .inl (ci 0, 40, .inl (fun _ => 0)))]) := hD
    refine W.widen (k := 68) (n := 1961) (Nat.le_of_ble_eq_true rfl) (Nat.le_of_ble_eq_true rfl) ?_
    refine gt_ast (z := 0) C Z hP hD hS 1 3 2 5 rfl rfl rfl rfl rfl (by decide) (by decide) dX11_init_139 (fun H locs hP hD hS => ?_)
    have hP : va_P D vwCl (W9 ++ [(h0, .inr (11, [.ref (q1), .ref (q5), .ref (q9), .int 0, .ref (q13), .ref (q17), .ref (q21), .ref (q25), .ref (q29), .ref (q33), .ref (q37)])), (q37, .inl (ci 3, 4, .inr (.inr (.inr (.inr (va_up (fun _ => none) 0 (some (q39)))))))), (q39, .inr (5, [.int (-1), .int 0, .ref ((u40 0))])), ((u40 0), .inl (ci 0, 40, .inl (fun _ => 0)))]) H := hP
    have hD : va_D (gA b) (W9 ++ [(h0, .inr (11, [.ref (q1), .ref (q5), .ref (q9), .int 0, .ref (q13), .ref (q17), .ref (q21), .ref (q25), .ref (q29), .ref (q33), .ref (q37)])), (q37, .inl (ci 3, 4, .inr (.inr (.inr (.inr (va_up (fun _ => none) 0 (some (q39)))))))), (q39, .inr (5, [.int (-1), .int 0, .ref ((u40 0))])), ((u40 0), .inl (ci 0, 40, .inl (fun _ => 0)))]) := hD
    have hP : va_P D vwCl (W9 ++ ([(h0, .inr (11, [.ref (q1), .ref (q5), .ref (q9), .int 0, .ref (q13), .ref (q17), .ref (q21), .ref (q25), .ref (q29), .ref (q33), .ref (q37)])), (q37, .inl (ci 3, 4, .inr (.inr (.inr (.inr (va_up (fun _ => none) 0 (some (q39))))))))] ++ gd_5 ci q39 u40)) H := hP
    have hD : va_D (gA b) (W9 ++ ([(h0, .inr (11, [.ref (q1), .ref (q5), .ref (q9), .int 0, .ref (q13), .ref (q17), .ref (q21), .ref (q25), .ref (q29), .ref (q33), .ref (q37)])), (q37, .inl (ci 3, 4, .inr (.inr (.inr (.inr (va_up (fun _ => none) 0 (some (q39))))))))] ++ gd_5 ci q39 u40)) := hD
    have hP : va_P D vwCl ((W9 ++ gd_5 ci q39 u40) ++ [(h0, .inr (11, [.ref (q1), .ref (q5), .ref (q9), .int 0, .ref (q13), .ref (q17), .ref (q21), .ref (q25), .ref (q29), .ref (q33), .ref (q37)])), (q37, .inl (ci 3, 4, .inr (.inr (.inr (.inr (va_up (fun _ => none) 0 (some (q39))))))))]) H := by rw [← List.append_assoc] at hP; exact hP.swap
    have hD : va_D (gA b) ((W9 ++ gd_5 ci q39 u40) ++ [(h0, .inr (11, [.ref (q1), .ref (q5), .ref (q9), .int 0, .ref (q13), .ref (q17), .ref (q21), .ref (q25), .ref (q29), .ref (q33), .ref (q37)])), (q37, .inl (ci 3, 4, .inr (.inr (.inr (.inr (va_up (fun _ => none) 0 (some (q39))))))))]) := by rw [← List.append_assoc] at hD; exact hD.swap
    generalize hW10 : W9 ++ gd_5 ci q39 u40 = W10 at hP hD
    refine lv_iinc (v := 1) (lv' := [(1, .int 1), (0, .ref (h0))]) C.1 C.2.1 dX11_init_140 hl (k := 0) rfl (by decide) (by decide) rfl (fun ls hl => ?_)
    refine lv_goto (tgt := 122) C.1 C.2.1 dX11_init_143 (by decide) ?_
    refine lv_iload_n C.1 C.2.1 dX11_init_122 rfl (lv_at hl 0 rfl) ?_
    refine lv_iconst (v := 4) C.1 C.2.1 dX11_init_123 (by decide) ?_
    refine lv_icmp_ge (tgt := 146) C.1 C.2.1 dX11_init_124 (by decide) (fun c43 => ?_) (fun c43 => ?_)
    · exact absurd c43 (by decide)
    · refine lv_aload_n C.1 C.2.1 dX11_init_127 rfl (lv_at hl 1 rfl) ?_
      refine gt_getf C Z hP inX11 0 rfl rfl 10 (by decide) tw_3_9 rfl dX11_init_128 ?_
      refine lv_iload_n C.1 C.2.1 dX11_init_131 rfl (lv_at hl 0 rfl) ?_
      refine gt_new (k := 5) (fs := [.int 0, .int 0, .null]) C Z hP hD hS inX5 tyX5 tyX5_ok tw_2_1 tw_2_3 tw_1_12 rfl (fun j hj => by match j, hj with | 0, _ => rfl | 1, _ => rfl | 2, _ => rfl) (Nat.le_of_ble_eq_true rfl) (Nat.le_of_ble_eq_true rfl) dX11_init_132 (fun q44 H hP hD hS => ?_)
      have hP : va_P D vwCl (W10 ++ [(h0, .inr (11, [.ref (q1), .ref (q5), .ref (q9), .int 0, .ref (q13), .ref (q17), .ref (q21), .ref (q25), .ref (q29), .ref (q33), .ref (q37)])), (q37, .inl (ci 3, 4, .inr (.inr (.inr (.inr (va_up (fun _ => none) 0 (some (q39)))))))), (q44, .inr (5, [.int 0, .int 0, .null]))]) H := hP
      have hD : va_D (gA b) (W10 ++ [(h0, .inr (11, [.ref (q1), .ref (q5), .ref (q9), .int 0, .ref (q13), .ref (q17), .ref (q21), .ref (q25), .ref (q29), .ref (q33), .ref (q37)])), (q37, .inl (ci 3, 4, .inr (.inr (.inr (.inr (va_up (fun _ => none) 0 (some (q39)))))))), (q44, .inr (5, [.int 0, .int 0, .null]))]) := hD
      refine W.widen (k := 69) (n := 1964) (Nat.le_of_ble_eq_true rfl) (Nat.le_of_ble_eq_true rfl) ?_
      refine lv_dup C.1 C.2.1 dX11_init_135 rfl ?_
      refine gt_cIN (host := RX11) (n := 0) (As := []) (rest := [.ref (q44), .int 1, .ref (q37)]) (t := [(h0, .inr (11, [.ref (q1), .ref (q5), .ref (q9), .int 0, .ref (q13), .ref (q17), .ref (q21), .ref (q25), .ref (q29), .ref (q33), .ref (q37)])), (q37, .inl (ci 3, 4, .inr (.inr (.inr (.inr (va_up (fun _ => none) 0 (some (q39))))))))]) (x := (q44, .inr (5, [.int 0, .int 0, .null]))) hX hx C Z hP hD hS (gc_5 l b D ci _ hX (W10 ++ [(h0, .inr (11, [.ref (q1), .ref (q5), .ref (q9), .int 0, .ref (q13), .ref (q17), .ref (q21), .ref (q25), .ref (q29), .ref (q33), .ref (q37)])), (q37, .inl (ci 3, 4, .inr (.inr (.inr (.inr (va_up (fun _ => none) 0 (some (q39))))))))]) q44 ) tw_2_6 tw_1_12 Z.2.2.1.2.2.2.2.2.2.2 tw_2_5 (by decide +kernel) ⟨rfl, rfl⟩ ⟨Nat.le_of_ble_eq_true rfl, Nat.le_of_ble_eq_true rfl⟩ rfl hl.1 rfl (Nat.le_of_ble_eq_true rfl) dX11_init_136 ⟨Nat.le_of_ble_eq_true rfl, Nat.le_of_ble_eq_true rfl⟩ (fun t47 H locs hp46 hP hD hS => ?_)
      obtain ⟨u45, rfl⟩ := hp46
      have hP : va_P D vwCl (W10 ++ [(h0, .inr (11, [.ref (q1), .ref (q5), .ref (q9), .int 0, .ref (q13), .ref (q17), .ref (q21), .ref (q25), .ref (q29), .ref (q33), .ref (q37)])), (q37, .inl (ci 3, 4, .inr (.inr (.inr (.inr (va_up (fun _ => none) 0 (some (q39)))))))), (q44, .inr (5, [.int (-1), .int 0, .ref ((u45 0))])), ((u45 0), .inl (ci 0, 40, .inl (fun _ => 0)))]) H := hP
      have hD : va_D (gA b) (W10 ++ [(h0, .inr (11, [.ref (q1), .ref (q5), .ref (q9), .int 0, .ref (q13), .ref (q17), .ref (q21), .ref (q25), .ref (q29), .ref (q33), .ref (q37)])), (q37, .inl (ci 3, 4, .inr (.inr (.inr (.inr (va_up (fun _ => none) 0 (some (q39)))))))), (q44, .inr (5, [.int (-1), .int 0, .ref ((u45 0))])), ((u45 0), .inl (ci 0, 40, .inl (fun _ => 0)))]) := hD
      refine W.widen (k := 70) (n := 2004) (Nat.le_of_ble_eq_true rfl) (Nat.le_of_ble_eq_true rfl) ?_
      refine gt_ast (z := 1) C Z hP hD hS 1 3 2 5 rfl rfl rfl rfl rfl (by decide) (by decide) dX11_init_139 (fun H locs hP hD hS => ?_)
      have hP : va_P D vwCl (W10 ++ [(h0, .inr (11, [.ref (q1), .ref (q5), .ref (q9), .int 0, .ref (q13), .ref (q17), .ref (q21), .ref (q25), .ref (q29), .ref (q33), .ref (q37)])), (q37, .inl (ci 3, 4, .inr (.inr (.inr (.inr (va_up (va_up (fun _ => none) 0 (some (q39))) 1 (some (q44)))))))), (q44, .inr (5, [.int (-1), .int 0, .ref ((u45 0))])), ((u45 0), .inl (ci 0, 40, .inl (fun _ => 0)))]) H := hP
      have hD : va_D (gA b) (W10 ++ [(h0, .inr (11, [.ref (q1), .ref (q5), .ref (q9), .int 0, .ref (q13), .ref (q17), .ref (q21), .ref (q25), .ref (q29), .ref (q33), .ref (q37)])), (q37, .inl (ci 3, 4, .inr (.inr (.inr (.inr (va_up (va_up (fun _ => none) 0 (some (q39))) 1 (some (q44)))))))), (q44, .inr (5, [.int (-1), .int 0, .ref ((u45 0))])), ((u45 0), .inl (ci 0, 40, .inl (fun _ => 0)))]) := hD
      have hP : va_P D vwCl (W10 ++ ([(h0, .inr (11, [.ref (q1), .ref (q5), .ref (q9), .int 0, .ref (q13), .ref (q17), .ref (q21), .ref (q25), .ref (q29), .ref (q33), .ref (q37)])), (q37, .inl (ci 3, 4, .inr (.inr (.inr (.inr (va_up (va_up (fun _ => none) 0 (some (q39))) 1 (some (q44))))))))] ++ gd_5 ci q44 u45)) H := hP
      have hD : va_D (gA b) (W10 ++ ([(h0, .inr (11, [.ref (q1), .ref (q5), .ref (q9), .int 0, .ref (q13), .ref (q17), .ref (q21), .ref (q25), .ref (q29), .ref (q33), .ref (q37)])), (q37, .inl (ci 3, 4, .inr (.inr (.inr (.inr (va_up (va_up (fun _ => none) 0 (some (q39))) 1 (some (q44))))))))] ++ gd_5 ci q44 u45)) := hD
      have hP : va_P D vwCl ((W10 ++ gd_5 ci q44 u45) ++ [(h0, .inr (11, [.ref (q1), .ref (q5), .ref (q9), .int 0, .ref (q13), .ref (q17), .ref (q21), .ref (q25), .ref (q29), .ref (q33), .ref (q37)])), (q37, .inl (ci 3, 4, .inr (.inr (.inr (.inr (va_up (va_up (fun _ => none) 0 (some (q39))) 1 (some (q44))))))))]) H := by rw [← List.append_assoc] at hP; exact hP.swap
      have hD : va_D (gA b) ((W10 ++ gd_5 ci q44 u45) ++ [(h0, .inr (11, [.ref (q1), .ref (q5), .ref (q9), .int 0, .ref (q13), .ref (q17), .ref (q21), .ref (q25), .ref (q29), .ref (q33), .ref (q37)])), (q37, .inl (ci 3, 4, .inr (.inr (.inr (.inr (va_up (va_up (fun _ => none) 0 (some (q39))) 1 (some (q44))))))))]) := by rw [← List.append_assoc] at hD; exact hD.swap
      generalize hW11 : W10 ++ gd_5 ci q44 u45 = W11 at hP hD
      refine lv_iinc (v := 2) (lv' := [(1, .int 2), (0, .ref (h0))]) C.1 C.2.1 dX11_init_140 hl (k := 0) rfl (by decide) (by decide) rfl (fun ls hl => ?_)
      refine lv_goto (tgt := 122) C.1 C.2.1 dX11_init_143 (by decide) ?_
      refine lv_iload_n C.1 C.2.1 dX11_init_122 rfl (lv_at hl 0 rfl) ?_
      refine lv_iconst (v := 4) C.1 C.2.1 dX11_init_123 (by decide) ?_
      refine lv_icmp_ge (tgt := 146) C.1 C.2.1 dX11_init_124 (by decide) (fun c48 => ?_) (fun c48 => ?_)
      · exact absurd c48 (by decide)
      · refine lv_aload_n C.1 C.2.1 dX11_init_127 rfl (lv_at hl 1 rfl) ?_
        refine gt_getf C Z hP inX11 0 rfl rfl 10 (by decide) tw_3_9 rfl dX11_init_128 ?_
        refine lv_iload_n C.1 C.2.1 dX11_init_131 rfl (lv_at hl 0 rfl) ?_
        refine gt_new (k := 5) (fs := [.int 0, .int 0, .null]) C Z hP hD hS inX5 tyX5 tyX5_ok tw_2_1 tw_2_3 tw_1_12 rfl (fun j hj => by match j, hj with | 0, _ => rfl | 1, _ => rfl | 2, _ => rfl) (Nat.le_of_ble_eq_true rfl) (Nat.le_of_ble_eq_true rfl) dX11_init_132 (fun q49 H hP hD hS => ?_)
        have hP : va_P D vwCl (W11 ++ [(h0, .inr (11, [.ref (q1), .ref (q5), .ref (q9), .int 0, .ref (q13), .ref (q17), .ref (q21), .ref (q25), .ref (q29), .ref (q33), .ref (q37)])), (q37, .inl (ci 3, 4, .inr (.inr (.inr (.inr (va_up (va_up (fun _ => none) 0 (some (q39))) 1 (some (q44)))))))), (q49, .inr (5, [.int 0, .int 0, .null]))]) H := hP
        have hD : va_D (gA b) (W11 ++ [(h0, .inr (11, [.ref (q1), .ref (q5), .ref (q9), .int 0, .ref (q13), .ref (q17), .ref (q21), .ref (q25), .ref (q29), .ref (q33), .ref (q37)])), (q37, .inl (ci 3, 4, .inr (.inr (.inr (.inr (va_up (va_up (fun _ => none) 0 (some (q39))) 1 (some (q44)))))))), (q49, .inr (5, [.int 0, .int 0, .null]))]) := hD
        refine W.widen (k := 71) (n := 2007) (Nat.le_of_ble_eq_true rfl) (Nat.le_of_ble_eq_true rfl) ?_
        refine lv_dup C.1 C.2.1 dX11_init_135 rfl ?_
        refine gt_cIN (host := RX11) (n := 0) (As := []) (rest := [.ref (q49), .int 2, .ref (q37)]) (t := [(h0, .inr (11, [.ref (q1), .ref (q5), .ref (q9), .int 0, .ref (q13), .ref (q17), .ref (q21), .ref (q25), .ref (q29), .ref (q33), .ref (q37)])), (q37, .inl (ci 3, 4, .inr (.inr (.inr (.inr (va_up (va_up (fun _ => none) 0 (some (q39))) 1 (some (q44))))))))]) (x := (q49, .inr (5, [.int 0, .int 0, .null]))) hX hx C Z hP hD hS (gc_5 l b D ci _ hX (W11 ++ [(h0, .inr (11, [.ref (q1), .ref (q5), .ref (q9), .int 0, .ref (q13), .ref (q17), .ref (q21), .ref (q25), .ref (q29), .ref (q33), .ref (q37)])), (q37, .inl (ci 3, 4, .inr (.inr (.inr (.inr (va_up (va_up (fun _ => none) 0 (some (q39))) 1 (some (q44))))))))]) q49 ) tw_2_6 tw_1_12 Z.2.2.1.2.2.2.2.2.2.2 tw_2_5 (by decide +kernel) ⟨rfl, rfl⟩ ⟨Nat.le_of_ble_eq_true rfl, Nat.le_of_ble_eq_true rfl⟩ rfl hl.1 rfl (Nat.le_of_ble_eq_true rfl) dX11_init_136 ⟨Nat.le_of_ble_eq_true rfl, Nat.le_of_ble_eq_true rfl⟩ (fun t52 H locs hp51 hP hD hS => ?_)
        obtain ⟨u50, rfl⟩ := hp51
        have hP : va_P D vwCl (W11 ++ [(h0, .inr (11, [.ref (q1), .ref (q5), .ref (q9), .int 0, .ref (q13), .ref (q17), .ref (q21), .ref (q25), .ref (q29), .ref (q33), .ref (q37)])), (q37, .inl (ci 3, 4, .inr (.inr (.inr (.inr (va_up (va_up (fun _ => none) 0 (some (q39))) 1 (some (q44)))))))), (q49, .inr (5, [.int (-1), .int 0, .ref ((u50 0))])), ((u50 0), .inl (ci 0, 40, .inl (fun _ => 0)))]) H := hP
        have hD : va_D (gA b) (W11 ++ [(h0, .inr (11, [.ref (q1), .ref (q5), .ref (q9), .int 0, .ref (q13), .ref (q17), .ref (q21), .ref (q25), .ref (q29), .ref (q33), .ref (q37)])), (q37, .inl (ci 3, 4, .inr (.inr (.inr (.inr (va_up (va_up (fun _ => none) 0 (some (q39))) 1 (some (q44)))))))), (q49, .inr (5, [.int (-1), .int 0, .ref ((u50 0))])), ((u50 0), .inl (ci 0, 40, .inl (fun _ => 0)))]) := hD
        refine W.widen (k := 72) (n := 2047) (Nat.le_of_ble_eq_true rfl) (Nat.le_of_ble_eq_true rfl) ?_
        refine gt_ast (z := 2) C Z hP hD hS 1 3 2 5 rfl rfl rfl rfl rfl (by decide) (by decide) dX11_init_139 (fun H locs hP hD hS => ?_)
        have hP : va_P D vwCl (W11 ++ [(h0, .inr (11, [.ref (q1), .ref (q5), .ref (q9), .int 0, .ref (q13), .ref (q17), .ref (q21), .ref (q25), .ref (q29), .ref (q33), .ref (q37)])), (q37, .inl (ci 3, 4, .inr (.inr (.inr (.inr (va_up (va_up (va_up (fun _ => none) 0 (some (q39))) 1 (some (q44))) 2 (some (q49)))))))), (q49, .inr (5, [.int (-1), .int 0, .ref ((u50 0))])), ((u50 0), .inl (ci 0, 40, .inl (fun _ => 0)))]) H := hP
        have hD : va_D (gA b) (W11 ++ [(h0, .inr (11, [.ref (q1), .ref (q5), .ref (q9), .int 0, .ref (q13), .ref (q17), .ref (q21), .ref (q25), .ref (q29), .ref (q33), .ref (q37)])), (q37, .inl (ci 3, 4, .inr (.inr (.inr (.inr (va_up (va_up (va_up (fun _ => none) 0 (some (q39))) 1 (some (q44))) 2 (some (q49)))))))), (q49, .inr (5, [.int (-1), .int 0, .ref ((u50 0))])), ((u50 0), .inl (ci 0, 40, .inl (fun _ => 0)))]) := hD
        have hP : va_P D vwCl (W11 ++ ([(h0, .inr (11, [.ref (q1), .ref (q5), .ref (q9), .int 0, .ref (q13), .ref (q17), .ref (q21), .ref (q25), .ref (q29), .ref (q33), .ref (q37)])), (q37, .inl (ci 3, 4, .inr (.inr (.inr (.inr (va_up (va_up (va_up (fun _ => none) 0 (some (q39))) 1 (some (q44))) 2 (some (q49))))))))] ++ gd_5 ci q49 u50)) H := hP
        have hD : va_D (gA b) (W11 ++ ([(h0, .inr (11, [.ref (q1), .ref (q5), .ref (q9), .int 0, .ref (q13), .ref (q17), .ref (q21), .ref (q25), .ref (q29), .ref (q33), .ref (q37)])), (q37, .inl (ci 3, 4, .inr (.inr (.inr (.inr (va_up (va_up (va_up (fun _ => none) 0 (some (q39))) 1 (some (q44))) 2 (some (q49))))))))] ++ gd_5 ci q49 u50)) := hD
        have hP : va_P D vwCl ((W11 ++ gd_5 ci q49 u50) ++ [(h0, .inr (11, [.ref (q1), .ref (q5), .ref (q9), .int 0, .ref (q13), .ref (q17), .ref (q21), .ref (q25), .ref (q29), .ref (q33), .ref (q37)])), (q37, .inl (ci 3, 4, .inr (.inr (.inr (.inr (va_up (va_up (va_up (fun _ => none) 0 (some (q39))) 1 (some (q44))) 2 (some (q49))))))))]) H := by rw [← List.append_assoc] at hP; exact hP.swap
        have hD : va_D (gA b) ((W11 ++ gd_5 ci q49 u50) ++ [(h0, .inr (11, [.ref (q1), .ref (q5), .ref (q9), .int 0, .ref (q13), .ref (q17), .ref (q21), .ref (q25), .ref (q29), .ref (q33), .ref (q37)])), (q37, .inl (ci 3, 4, .inr (.inr (.inr (.inr (va_up (va_up (va_up (fun _ => none) 0 (some (q39))) 1 (some (q44))) 2 (some (q49))))))))]) := by rw [← List.append_assoc] at hD; exact hD.swap
        generalize hW12 : W11 ++ gd_5 ci q49 u50 = W12 at hP hD
        refine lv_iinc (v := 3) (lv' := [(1, .int 3), (0, .ref (h0))]) C.1 C.2.1 dX11_init_140 hl (k := 0) rfl (by decide) (by decide) rfl (fun ls hl => ?_)
        refine lv_goto (tgt := 122) C.1 C.2.1 dX11_init_143 (by decide) ?_
        refine lv_iload_n C.1 C.2.1 dX11_init_122 rfl (lv_at hl 0 rfl) ?_
        refine lv_iconst (v := 4) C.1 C.2.1 dX11_init_123 (by decide) ?_
        refine lv_icmp_ge (tgt := 146) C.1 C.2.1 dX11_init_124 (by decide) (fun c53 => ?_) (fun c53 => ?_)
        · exact absurd c53 (by decide)
        · refine lv_aload_n C.1 C.2.1 dX11_init_127 rfl (lv_at hl 1 rfl) ?_
          refine gt_getf C Z hP inX11 0 rfl rfl 10 (by decide) tw_3_9 rfl dX11_init_128 ?_
          refine lv_iload_n C.1 C.2.1 dX11_init_131 rfl (lv_at hl 0 rfl) ?_
          refine gt_new (k := 5) (fs := [.int 0, .int 0, .null]) C Z hP hD hS inX5 tyX5 tyX5_ok tw_2_1 tw_2_3 tw_1_12 rfl (fun j hj => by match j, hj with | 0, _ => rfl | 1, _ => rfl | 2, _ => rfl) (Nat.le_of_ble_eq_true rfl) (Nat.le_of_ble_eq_true rfl) dX11_init_132 (fun q54 H hP hD hS => ?_)
          have hP : va_P D vwCl (W12 ++ [(h0, .inr (11, [.ref (q1), .ref (q5), .ref (q9), .int 0, .ref (q13), .ref (q17), .ref (q21), .ref (q25), .ref (q29), .ref (q33), .ref (q37)])), (q37, .inl (ci 3, 4, .inr (.inr (.inr (.inr (va_up (va_up (va_up (fun _ => none) 0 (some (q39))) 1 (some (q44))) 2 (some (q49)))))))), (q54, .inr (5, [.int 0, .int 0, .null]))]) H := hP
          have hD : va_D (gA b) (W12 ++ [(h0, .inr (11, [.ref (q1), .ref (q5), .ref (q9), .int 0, .ref (q13), .ref (q17), .ref (q21), .ref (q25), .ref (q29), .ref (q33), .ref (q37)])), (q37, .inl (ci 3, 4, .inr (.inr (.inr (.inr (va_up (va_up (va_up (fun _ => none) 0 (some (q39))) 1 (some (q44))) 2 (some (q49)))))))), (q54, .inr (5, [.int 0, .int 0, .null]))]) := hD
          refine W.widen (k := 73) (n := 2050) (Nat.le_of_ble_eq_true rfl) (Nat.le_of_ble_eq_true rfl) ?_
          refine lv_dup C.1 C.2.1 dX11_init_135 rfl ?_
          refine gt_cIN (host := RX11) (n := 0) (As := []) (rest := [.ref (q54), .int 3, .ref (q37)]) (t := [(h0, .inr (11, [.ref (q1), .ref (q5), .ref (q9), .int 0, .ref (q13), .ref (q17), .ref (q21), .ref (q25), .ref (q29), .ref (q33), .ref (q37)])), (q37, .inl (ci 3, 4, .inr (.inr (.inr (.inr (va_up (va_up (va_up (fun _ => none) 0 (some (q39))) 1 (some (q44))) 2 (some (q49))))))))]) (x := (q54, .inr (5, [.int 0, .int 0, .null]))) hX hx C Z hP hD hS (gc_5 l b D ci _ hX (W12 ++ [(h0, .inr (11, [.ref (q1), .ref (q5), .ref (q9), .int 0, .ref (q13), .ref (q17), .ref (q21), .ref (q25), .ref (q29), .ref (q33), .ref (q37)])), (q37, .inl (ci 3, 4, .inr (.inr (.inr (.inr (va_up (va_up (va_up (fun _ => none) 0 (some (q39))) 1 (some (q44))) 2 (some (q49))))))))]) q54 ) tw_2_6 tw_1_12 Z.2.2.1.2.2.2.2.2.2.2 tw_2_5 (by decide +kernel) ⟨rfl, rfl⟩ ⟨Nat.le_of_ble_eq_true rfl, Nat.le_of_ble_eq_true rfl⟩ rfl hl.1 rfl (Nat.le_of_ble_eq_true rfl) dX11_init_136 ⟨Nat.le_of_ble_eq_true rfl, Nat.le_of_ble_eq_true rfl⟩ (fun t57 H locs hp56 hP hD hS => ?_)
          obtain ⟨u55, rfl⟩ := hp56
          have hP : va_P D vwCl (W12 ++ [(h0, .inr (11, [.ref (q1), .ref (q5), .ref (q9), .int 0, .ref (q13), .ref (q17), .ref (q21), .ref (q25), .ref (q29), .ref (q33), .ref (q37)])), (q37, .inl (ci 3, 4, .inr (.inr (.inr (.inr (va_up (va_up (va_up (fun _ => none) 0 (some (q39))) 1 (some (q44))) 2 (some (q49)))))))), (q54, .inr (5, [.int (-1), .int 0, .ref ((u55 0))])), ((u55 0), .inl (ci 0, 40, .inl (fun _ => 0)))]) H := hP
          have hD : va_D (gA b) (W12 ++ [(h0, .inr (11, [.ref (q1), .ref (q5), .ref (q9), .int 0, .ref (q13), .ref (q17), .ref (q21), .ref (q25), .ref (q29), .ref (q33), .ref (q37)])), (q37, .inl (ci 3, 4, .inr (.inr (.inr (.inr (va_up (va_up (va_up (fun _ => none) 0 (some (q39))) 1 (some (q44))) 2 (some (q49)))))))), (q54, .inr (5, [.int (-1), .int 0, .ref ((u55 0))])), ((u55 0), .inl (ci 0, 40, .inl (fun _ => 0)))]) := hD
          refine W.widen (k := 74) (n := 2090) (Nat.le_of_ble_eq_true rfl) (Nat.le_of_ble_eq_true rfl) ?_
          refine gt_ast (z := 3) C Z hP hD hS 1 3 2 5 rfl rfl rfl rfl rfl (by decide) (by decide) dX11_init_139 (fun H locs hP hD hS => ?_)
          have hP : va_P D vwCl (W12 ++ [(h0, .inr (11, [.ref (q1), .ref (q5), .ref (q9), .int 0, .ref (q13), .ref (q17), .ref (q21), .ref (q25), .ref (q29), .ref (q33), .ref (q37)])), (q37, .inl (ci 3, 4, .inr (.inr (.inr (.inr (va_up (va_up (va_up (va_up (fun _ => none) 0 (some (q39))) 1 (some (q44))) 2 (some (q49))) 3 (some (q54)))))))), (q54, .inr (5, [.int (-1), .int 0, .ref ((u55 0))])), ((u55 0), .inl (ci 0, 40, .inl (fun _ => 0)))]) H := hP
          have hD : va_D (gA b) (W12 ++ [(h0, .inr (11, [.ref (q1), .ref (q5), .ref (q9), .int 0, .ref (q13), .ref (q17), .ref (q21), .ref (q25), .ref (q29), .ref (q33), .ref (q37)])), (q37, .inl (ci 3, 4, .inr (.inr (.inr (.inr (va_up (va_up (va_up (va_up (fun _ => none) 0 (some (q39))) 1 (some (q44))) 2 (some (q49))) 3 (some (q54)))))))), (q54, .inr (5, [.int (-1), .int 0, .ref ((u55 0))])), ((u55 0), .inl (ci 0, 40, .inl (fun _ => 0)))]) := hD
          have hP : va_P D vwCl (W12 ++ ([(h0, .inr (11, [.ref (q1), .ref (q5), .ref (q9), .int 0, .ref (q13), .ref (q17), .ref (q21), .ref (q25), .ref (q29), .ref (q33), .ref (q37)])), (q37, .inl (ci 3, 4, .inr (.inr (.inr (.inr (va_up (va_up (va_up (va_up (fun _ => none) 0 (some (q39))) 1 (some (q44))) 2 (some (q49))) 3 (some (q54))))))))] ++ gd_5 ci q54 u55)) H := hP
          have hD : va_D (gA b) (W12 ++ ([(h0, .inr (11, [.ref (q1), .ref (q5), .ref (q9), .int 0, .ref (q13), .ref (q17), .ref (q21), .ref (q25), .ref (q29), .ref (q33), .ref (q37)])), (q37, .inl (ci 3, 4, .inr (.inr (.inr (.inr (va_up (va_up (va_up (va_up (fun _ => none) 0 (some (q39))) 1 (some (q44))) 2 (some (q49))) 3 (some (q54))))))))] ++ gd_5 ci q54 u55)) := hD
          have hP : va_P D vwCl ((W12 ++ gd_5 ci q54 u55) ++ [(h0, .inr (11, [.ref (q1), .ref (q5), .ref (q9), .int 0, .ref (q13), .ref (q17), .ref (q21), .ref (q25), .ref (q29), .ref (q33), .ref (q37)])), (q37, .inl (ci 3, 4, .inr (.inr (.inr (.inr (va_up (va_up (va_up (va_up (fun _ => none) 0 (some (q39))) 1 (some (q44))) 2 (some (q49))) 3 (some (q54))))))))]) H := by rw [← List.append_assoc] at hP; exact hP.swap
          have hD : va_D (gA b) ((W12 ++ gd_5 ci q54 u55) ++ [(h0, .inr (11, [.ref (q1), .ref (q5), .ref (q9), .int 0, .ref (q13), .ref (q17), .ref (q21), .ref (q25), .ref (q29), .ref (q33), .ref (q37)])), (q37, .inl (ci 3, 4, .inr (.inr (.inr (.inr (va_up (va_up (va_up (va_up (fun _ => none) 0 (some (q39))) 1 (some (q44))) 2 (some (q49))) 3 (some (q54))))))))]) := by rw [← List.append_assoc] at hD; exact hD.swap
          generalize hW13 : W12 ++ gd_5 ci q54 u55 = W13 at hP hD
          refine lv_iinc (v := 4) (lv' := [(1, .int 4), (0, .ref (h0))]) C.1 C.2.1 dX11_init_140 hl (k := 0) rfl (by decide) (by decide) rfl (fun ls hl => ?_)
          refine lv_goto (tgt := 122) C.1 C.2.1 dX11_init_143 (by decide) ?_
          refine lv_iload_n C.1 C.2.1 dX11_init_122 rfl (lv_at hl 0 rfl) ?_
          refine lv_iconst (v := 4) C.1 C.2.1 dX11_init_123 (by decide) ?_
          refine lv_icmp_ge (tgt := 146) C.1 C.2.1 dX11_init_124 (by decide) (fun c58 => ?_) (fun c58 => ?_)
          · rw [← hW13, ← hW12, ← hW11, ← hW10, ← hW9, ← hW8, ← hW7, ← hW6, ← hW5, ← hW4, ← hW3, ← hW2, ← hW1] at hP hD
            have hP : va_P D vwCl (x11L ci h0 (fun i => [0, q1, q5, q9, q13, q17, q21, q25, q29, q33, q37, q39, q44, q49, q54].getD i 0) (fun i => [(fun _ => 0), u2, u6, u10, u14, u18, u22, u26, u30, u34, (fun _ => 0), u40, u45, u50, u55].getD i (fun _ => 0))) H := by
              simp only [List.append_assoc, List.nil_append] at hP
              exact hP
            have hD : va_D (gA b) (x11L ci h0 (fun i => [0, q1, q5, q9, q13, q17, q21, q25, q29, q33, q37, q39, q44, q49, q54].getD i 0) (fun i => [(fun _ => 0), u2, u6, u10, u14, u18, u22, u26, u30, u34, (fun _ => 0), u40, u45, u50, u55].getD i (fun _ => 0))) := by
              simp only [List.append_assoc, List.nil_append] at hD
              exact hD
            obtain ⟨hP9, hJ, hsub⟩ := x11_conv tt kk vv hP hD
            have Ze := geX (E := (x11E D ci h0 (fun i => [0, q1, q5, q9, q13, q17, q21, q25, q29, q33, q37, q39, q44, q49, q54].getD i 0) (fun i => [(fun _ => 0), u2, u6, u10, u14, u18, u22, u26, u30, u34, (fun _ => 0), u40, u45, u50, u55].getD i (fun _ => 0)) tt kk vv)) Z.1 hJ hsub hx
            refine x11_tail (E := (x11E D ci h0 (fun i => [0, q1, q5, q9, q13, q17, q21, q25, q29, q33, q37, q39, q44, q49, q54].getD i 0) (fun i => [(fun _ => 0), u2, u6, u10, u14, u18, u22, u26, u30, u34, (fun _ => 0), u40, u45, u50, u55].getD i (fun _ => 0)) tt kk vv)) C Ze hx hP9 hS (lv_sub hl [1] rfl) (fun u H locs ls hu hP hS => ?_)
            exact W.vret C.1 C.2.1 hr (fun t ht hW => ⟨⟨((x11E D ci h0 (fun i => [0, q1, q5, q9, q13, q17, q21, q25, q29, q33, q37, q39, q44, q49, q54].getD i 0) (fun i => [(fun _ => 0), u2, u6, u10, u14, u18, u22, u26, u30, u34, (fun _ => 0), u40, u45, u50, u55].getD i (fun _ => 0)) tt kk vv), u), rfl, ⟨⟨rfl, rfl, rfl, rfl, rfl⟩, hJ, rfl, hsub, hu⟩, by rw [ht]; exact hP, va_K.moved hW.alike Z.1, by rw [ht]; exact Nat.le_trans Z.2.1 hS.1, Z.2.2.warm hW, (sX_ok b _ _ _).2 s_ t hx hW (fun q h1 h2 => by rw [ht]; exact hS.2.1 q h1 h2)⟩, hS.F ht⟩) hS.2.2 dX11_init_182 (hlocks := hlk)
          · exact absurd c58 (by decide)
