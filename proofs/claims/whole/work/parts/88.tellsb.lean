/-! THE REFERENCE: TELLS, ASKED FOR WHAT IS NOT -/
set_option maxHeartbeats 4000000 in
set_option maxRecDepth 100000 in
theorem cM_tellsB (l : Launch) (E : mw_E) (σ : mw_M) (n : Nat) (hn : σ.1 0 10 = nI n) (h8 : n ≤ 8) (ss oo ww : Int32) (hw : ¬ (0 ≤ ww.toInt ∧ ww.toInt ≤ 7)) : mw_Ci shM 13 gM l yX12_tells cX12_tells 11 (some .int) (rmF 47 1041) E [.ref (mw_a E 0), .int ss, .int oo, .int ww] σ (fun r u => r = -2 ∧ mFs σ u) := by
  refine mw_of (by decide) gM_ok (Nat.le_of_ble_eq_true rfl) ?_
  intro p_ e_ s_ m_ below meth c_ C hr hlk Z hP ls hl
  have C : CallFix p_ m_ c_ cX12_tells 11 s_ _ lw_good RX12 := C
  have hl : lv_has ls 11 [(0, .ref (mw_a E 0)), (1, .int ss), (2, .int oo), (3, .int ww)] := hl
  have hS : va_S (mw_A 13 E) s_.heap s_.heap [] := va_S.rf
  refine lv_iload_n C.1 C.2.1 dX12_tells_0 rfl (lv_at hl 1 rfl) ?_
  refine mw_cSi (As := [.int ss]) (rest := []) C Z hP hS (cM_isSheet l E σ ss) sb_X12_isSheet tw_6_130 ⟨rfl, rfl⟩ ⟨Nat.le_of_ble_eq_true rfl, Nat.le_of_ble_eq_true rfl⟩ rfl hl.1 rfl (Nat.le_of_ble_eq_true rfl) dX12_tells_1 ⟨Nat.zero_le _, Nat.zero_le _⟩ (fun r1 u2 H locs q3 hP hS => ?_)
  obtain ⟨rfl, q3u⟩ := q3
  rw [q3u] at hP; clear q3u
  refine lv_if_eq (tgt := 27) C.1 C.2.1 dX12_tells_4 (by decide) (fun c4 => ?_) (fun c4 => ?_)
  · have c4 := bI_0.mp c4
    refine lv_bipush (v := -2) C.1 C.2.1 dX12_tells_27 (by decide) ?_
    exact mw_iret C hr hlk Z hP hS dX12_tells_29 (⟨rfl, (mFs.rf σ)⟩)
  · have c4 := bI_n.mp c4
    refine lv_aload_n C.1 C.2.1 dX12_tells_7 rfl (lv_at hl 0 rfl) ?_
    refine lv_iload_n C.1 C.2.1 dX12_tells_8 rfl (lv_at hl 2 rfl) ?_
    refine mw_cVi (As := [.int oo]) (rest := []) C Z hP hS (0) (cM_isOne l E σ oo n hn h8) vb_X12_isOne tw_5_36 ⟨rfl, rfl⟩ ⟨Nat.le_of_ble_eq_true rfl, Nat.le_of_ble_eq_true rfl⟩ (by decide) rfl rfl rfl rfl hl.1 rfl (Nat.le_of_ble_eq_true rfl) dX12_tells_9 ⟨Nat.zero_le _, Nat.zero_le _⟩ (fun r5 u6 H locs q7 hP hS => ?_)
    obtain ⟨rfl, q7u⟩ := q7
    rw [q7u] at hP; clear q7u
    refine lv_if_eq (tgt := 27) C.1 C.2.1 dX12_tells_12 (by decide) (fun c8 => ?_) (fun c8 => ?_)
    · have c8 := bI_0.mp c8
      refine lv_bipush (v := -2) C.1 C.2.1 dX12_tells_27 (by decide) ?_
      exact mw_iret C hr hlk Z hP hS dX12_tells_29 (⟨rfl, (mFs.rf σ)⟩)
    · have c8 := bI_n.mp c8
      refine lv_iload_n C.1 C.2.1 dX12_tells_15 rfl (lv_at hl 3 rfl) ?_
      refine lv_i2l C.1 C.2.1 dX12_tells_16 rfl ?_
      refine lv_lconst (v := 0) C.1 C.2.1 dX12_tells_17 (by decide) ?_
      refine lv_ldc2 (own := RX12) C.1 C.2.1 C.2.2.2.1 (C.2.2.2.2 _ tw_5_32) dX12_tells_18 ?_
      refine mw_cSi (As := [.long (ww.toInt64), .long (0), .long (7)]) (rest := []) C Z hP hS (cM_in l E σ (ww.toInt64) 0 7 (0 ≤ ww.toInt ∧ ww.toInt ≤ 7) (by first | (simp only [nl_i]; exact Iff.rfl) | (simp only [nl_i]; decide) | simp [nl_i])) sb_X12_in tw_5_33 ⟨rfl, rfl⟩ ⟨Nat.le_of_ble_eq_true rfl, Nat.le_of_ble_eq_true rfl⟩ rfl hl.1 rfl (Nat.le_of_ble_eq_true rfl) dX12_tells_21 ⟨Nat.zero_le _, Nat.zero_le _⟩ (fun r9 u10 H locs q11 hP hS => ?_)
      obtain ⟨rfl, q11u⟩ := q11
      rw [q11u] at hP; clear q11u
      refine lv_if_ne (tgt := 30) C.1 C.2.1 dX12_tells_24 (by decide) (fun c12 => ?_) (fun c12 => ?_)
      · have c12 := bI_n.mp c12
        exact absurd c12 hw
      · have c12 := bI_0.mp c12
        refine lv_bipush (v := -2) C.1 C.2.1 dX12_tells_27 (by decide) ?_
        exact mw_iret C hr hlk Z hP hS dX12_tells_29 (⟨rfl, (mFs.rf σ)⟩)
