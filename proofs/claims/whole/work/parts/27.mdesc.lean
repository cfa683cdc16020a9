/-! THE REFERENCE'S RECURSIVE DESCENT -/
theorem gA_0 : (gD 0).1 = gAt none := rfl
theorem gN_0 : (gD 0).2.1 = gNot none (gCmp (gLevel gAdd (gLevel gTim (gD 0).1))) := rfl
theorem gE_0 : (gD 0).2.2 = gLevel gOr (gLevel gAnd (gD 0).2.1) := rfl
theorem gA_1 : (gD 1).1 = gAt (some ((gD 0).1, (gD 0).2.2)) := rfl
theorem gN_1 : (gD 1).2.1 = gNot (some (gD 0).2.1) (gCmp (gLevel gAdd (gLevel gTim (gD 1).1))) := rfl
theorem gE_1 : (gD 1).2.2 = gLevel gOr (gLevel gAnd (gD 1).2.1) := rfl
theorem gA_2 : (gD 2).1 = gAt (some ((gD 1).1, (gD 1).2.2)) := rfl
theorem gN_2 : (gD 2).2.1 = gNot (some (gD 1).2.1) (gCmp (gLevel gAdd (gLevel gTim (gD 2).1))) := rfl
theorem gE_2 : (gD 2).2.2 = gLevel gOr (gLevel gAnd (gD 2).2.1) := rfl
theorem gA_3 : (gD 3).1 = gAt (some ((gD 2).1, (gD 2).2.2)) := rfl
theorem gN_3 : (gD 3).2.1 = gNot (some (gD 2).2.1) (gCmp (gLevel gAdd (gLevel gTim (gD 3).1))) := rfl
theorem gE_3 : (gD 3).2.2 = gLevel gOr (gLevel gAnd (gD 3).2.1) := rfl
theorem gA_4 : (gD 4).1 = gAt (some ((gD 3).1, (gD 3).2.2)) := rfl
theorem gN_4 : (gD 4).2.1 = gNot (some (gD 3).2.1) (gCmp (gLevel gAdd (gLevel gTim (gD 4).1))) := rfl
theorem gE_4 : (gD 4).2.2 = gLevel gOr (gLevel gAnd (gD 4).2.1) := rfl
theorem gA_5 : (gD 5).1 = gAt (some ((gD 4).1, (gD 4).2.2)) := rfl
theorem gN_5 : (gD 5).2.1 = gNot (some (gD 4).2.1) (gCmp (gLevel gAdd (gLevel gTim (gD 5).1))) := rfl
theorem gE_5 : (gD 5).2.2 = gLevel gOr (gLevel gAnd (gD 5).2.1) := rfl
set_option maxHeartbeats 4000000 in
set_option maxRecDepth 100000 in
theorem cM_opens5 (l : Launch) (E : mw_E) (σ : mw_M) (t n : Nat) (bs : Nat → Int32) (k p : Nat) (ts : List (Nat × Nat)) (h : mPS σ t n bs k p ts 5) (h1 : k ≠ 21) (h2 : k ≠ 22) : mw_Ci shM 13 gM l yX12_opens cX12_opens 1 (some .boolean) (rmF 2 52) E [.ref (mw_a E 0)] σ (fun r u => r = 0 ∧ mBd u p ∧ mFp σ u) := by
  refine mw_of (by decide) gM_ok (Nat.le_of_ble_eq_true rfl) ?_
  intro p_ e_ s_ m_ below meth c_ C hr hlk Z hP ls hl
  have C : CallFix p_ m_ c_ cX12_opens 1 s_ _ lw_good RX12 := C
  have hl : lv_has ls 1 [(0, .ref (mw_a E 0))] := hl
  have hS : va_S (mw_A 13 E) s_.heap s_.heap [] := va_S.rf
  refine lv_aload_n C.1 C.2.1 dX12_opens_0 rfl (lv_at hl 0 rfl) ?_
  refine mw_geti C Z hP (0) 23 (by decide) rfl rfl rfl (by decide) inX12 tw_4_187 dX12_opens_1 ?_
  refine mw_top (y := nI 5) (h.2.2.1) ?_
  refine lv_iconst (v := 5) C.1 C.2.1 dX12_opens_4 (by decide) ?_
  refine lv_icmp_ne (tgt := 14) C.1 C.2.1 dX12_opens_5 (by decide) (fun c1 => ?_) (fun c1 => ?_)
  · exact absurd rfl c1
  · refine lv_aload_n C.1 C.2.1 dX12_opens_8 rfl (lv_at hl 0 rfl) ?_
    refine mw_cVv (As := []) (rest := []) C Z hP hS (0) (cM_failP l E σ t n bs k p ts 5 h) vb_X12_fail tw_5_89 ⟨rfl, rfl⟩ ⟨Nat.le_of_ble_eq_true rfl, Nat.le_of_ble_eq_true rfl⟩ (by decide) rfl rfl rfl rfl hl.1 rfl (Nat.le_of_ble_eq_true rfl) dX12_opens_9 ⟨Nat.zero_le _, Nat.zero_le _⟩ (fun u3 H locs q4 hP hS => ?_)
    obtain ⟨hb5, f6⟩ := q4
    refine lv_iconst (v := 0) C.1 C.2.1 dX12_opens_12 (by decide) ?_
    exact mw_zret C hr hlk Z hP hS rfl dX12_opens_13 (⟨rfl, hb5, ((mFp.rf σ).tr f6)⟩)

set_option maxHeartbeats 4000000 in
set_option maxRecDepth 100000 in
theorem cM_opens (l : Launch) (E : mw_E) (σ : mw_M) (t n : Nat) (bs : Nat → Int32) (k p : Nat) (ts : List (Nat × Nat)) (o : Nat) (ho : o < 5) (h : mPS σ t n bs k p ts o) (h1 : k ≠ 21) (h2 : k ≠ 22) : mw_Ci shM 13 gM l yX12_opens cX12_opens 1 (some .boolean) (rmF 2 52) E [.ref (mw_a E 0)] σ (fun r u => r = 1 ∧ mPL u t n bs ts (o + 1) ∧ mFp σ u) := by
  refine mw_of (by decide) gM_ok (Nat.le_of_ble_eq_true rfl) ?_
  intro p_ e_ s_ m_ below meth c_ C hr hlk Z hP ls hl
  have C : CallFix p_ m_ c_ cX12_opens 1 s_ _ lw_good RX12 := C
  have hl : lv_has ls 1 [(0, .ref (mw_a E 0))] := hl
  have hS : va_S (mw_A 13 E) s_.heap s_.heap [] := va_S.rf
  refine lv_aload_n C.1 C.2.1 dX12_opens_0 rfl (lv_at hl 0 rfl) ?_
  refine mw_geti C Z hP (0) 23 (by decide) rfl rfl rfl (by decide) inX12 tw_4_187 dX12_opens_1 ?_
  refine mw_top (y := nI o) (h.2.2.1) ?_
  refine lv_iconst (v := 5) C.1 C.2.1 dX12_opens_4 (by decide) ?_
  refine lv_icmp_ne (tgt := 14) C.1 C.2.1 dX12_opens_5 (by decide) (fun c1 => ?_) (fun c1 => ?_)
  · refine lv_aload_n C.1 C.2.1 dX12_opens_14 rfl (lv_at hl 0 rfl) ?_
    refine lv_dup C.1 C.2.1 dX12_opens_15 rfl ?_
    refine mw_geti C Z hP (0) 23 (by decide) rfl rfl rfl (by decide) inX12 tw_4_187 dX12_opens_16 ?_
    refine mw_top (y := nI o) (h.2.2.1) ?_
    refine lv_iconst (v := 1) C.1 C.2.1 dX12_opens_19 (by decide) ?_
    refine lv_iadd C.1 C.2.1 dX12_opens_20 ?_
    refine mw_top (y := nI (o + 1)) (nI_1 _) ?_
    refine mw_puti C Z hP hS (0) 23 (by decide) rfl rfl rfl (by decide) inX12 tyX12 tyX12_ok nmX12 rfl tw_4_187 rfl rfl dX12_opens_21 (fun H locs hP hS => ?_)
    have h9 : mPS (mw_si σ 0 23 (nI (o + 1))) t n bs k p ts (o + 1) := ⟨h.1, h.2.1, rfl, h.2.2.2⟩
    refine lv_aload_n C.1 C.2.1 dX12_opens_24 rfl (lv_at hl 0 rfl) ?_
    refine mw_cVv (As := []) (rest := []) C Z hP hS (0) (cM_nextP l E (mw_si σ 0 23 (nI (o + 1))) t n bs k p ts (o + 1) h9 (by omega) (by omega)) vb_X12_next tw_5_64 ⟨rfl, rfl⟩ ⟨Nat.le_of_ble_eq_true rfl, Nat.le_of_ble_eq_true rfl⟩ (by decide) rfl rfl rfl rfl hl.1 rfl (Nat.le_of_ble_eq_true rfl) dX12_opens_25 ⟨Nat.zero_le _, Nat.zero_le _⟩ (fun u3 H locs q4 hP hS => ?_)
    obtain ⟨⟨k5, p6, ts7, e8, h9⟩, f10⟩ := q4
    refine lv_iconst (v := 1) C.1 C.2.1 dX12_opens_28 (by decide) ?_
    exact mw_zret C hr hlk Z hP hS rfl dX12_opens_29 (⟨rfl, ⟨k5, p6, ts7, e8, h9⟩, (((mFp.rf σ).si (by decide) _).tr f10)⟩)
  · exact absurd ((nI_eq (a := o) (b := 5) (by omega) (by decide)).mp c1) (by omega)

/-- what a name says, or the fault -/
def mNm (σ u : mw_M) (t n : Nat) (bs : Nat → Int32) (k p : Nat) (ts : List (Nat × Nat)) (o : Nat) (r : Int32) : Prop := mFp σ u ∧ ((k ≤ 5 ∧ u = σ ∧ r = mEv σ k) ∨ (¬ k ≤ 5 ∧ mBd u p))

set_option maxHeartbeats 4000000 in
set_option maxRecDepth 100000 in
theorem cM_name (l : Launch) (E : mw_E) (σ : mw_M) (t n : Nat) (bs : Nat → Int32) (k p : Nat) (ts : List (Nat × Nat)) (o : Nat) (h : mPS σ t n bs k p ts o) : mw_Ci shM 13 gM l yX12_name cX12_name 1 (some .int) (rmF 3 71) E [.ref (mw_a E 0)] σ (fun r u => mNm σ u t n bs k p ts o r) := by
  refine mw_of (by decide) gM_ok (Nat.le_of_ble_eq_true rfl) ?_
  intro p_ e_ s_ m_ below meth c_ C hr hlk Z hP ls hl
  have C : CallFix p_ m_ c_ cX12_name 1 s_ _ lw_good RX12 := C
  have hl : lv_has ls 1 [(0, .ref (mw_a E 0))] := hl
  have hS : va_S (mw_A 13 E) s_.heap s_.heap [] := va_S.rf
  refine lv_aload_n C.1 C.2.1 dX12_name_0 rfl (lv_at hl 0 rfl) ?_
  refine lv_bipush (v := 104) C.1 C.2.1 dX12_name_1 (by decide) ?_
  refine lv_bipush (v := 111) C.1 C.2.1 dX12_name_3 (by decide) ?_
  refine lv_bipush (v := 117) C.1 C.2.1 dX12_name_5 (by decide) ?_
  refine lv_bipush (v := 114) C.1 C.2.1 dX12_name_7 (by decide) ?_
  refine lv_iconst (v := 0) C.1 C.2.1 dX12_name_9 (by decide) ?_
  refine lv_iconst (v := 0) C.1 C.2.1 dX12_name_10 (by decide) ?_
  refine lv_iconst (v := 0) C.1 C.2.1 dX12_name_11 (by decide) ?_
  refine lv_iconst (v := 0) C.1 C.2.1 dX12_name_12 (by decide) ?_
  refine mw_cVi (As := [.int 104, .int 111, .int 117, .int 114, .int 0, .int 0, .int 0, .int 0]) (rest := []) C Z hP hS (0) (cM_isWordP l E σ t n bs k p ts o h 0 (by decide)) vb_X12_isWord tw_5_77 ⟨rfl, rfl⟩ ⟨Nat.le_of_ble_eq_true rfl, Nat.le_of_ble_eq_true rfl⟩ (by decide) rfl rfl rfl rfl hl.1 rfl (Nat.le_of_ble_eq_true rfl) dX12_name_13 ⟨Nat.zero_le _, Nat.zero_le _⟩ (fun r1 u2 H locs q3 hP hS => ?_)
  obtain ⟨rfl, q3u⟩ := q3
  rw [q3u] at hP; clear q3u
  refine lv_if_eq (tgt := 24) C.1 C.2.1 dX12_name_16 (by decide) (fun c4 => ?_) (fun c4 => ?_)
  · have c4 := bI_0.mp c4
    refine lv_aload_n C.1 C.2.1 dX12_name_24 rfl (lv_at hl 0 rfl) ?_
    refine lv_bipush (v := 104) C.1 C.2.1 dX12_name_25 (by decide) ?_
    refine lv_bipush (v := 117) C.1 C.2.1 dX12_name_27 (by decide) ?_
    refine lv_bipush (v := 110) C.1 C.2.1 dX12_name_29 (by decide) ?_
    refine lv_bipush (v := 103) C.1 C.2.1 dX12_name_31 (by decide) ?_
    refine lv_bipush (v := 101) C.1 C.2.1 dX12_name_33 (by decide) ?_
    refine lv_bipush (v := 114) C.1 C.2.1 dX12_name_35 (by decide) ?_
    refine lv_iconst (v := 0) C.1 C.2.1 dX12_name_37 (by decide) ?_
    refine lv_iconst (v := 0) C.1 C.2.1 dX12_name_38 (by decide) ?_
    refine mw_cVi (As := [.int 104, .int 117, .int 110, .int 103, .int 101, .int 114, .int 0, .int 0]) (rest := []) C Z hP hS (0) (cM_isWordP l E σ t n bs k p ts o h 1 (by decide)) vb_X12_isWord tw_5_77 ⟨rfl, rfl⟩ ⟨Nat.le_of_ble_eq_true rfl, Nat.le_of_ble_eq_true rfl⟩ (by decide) rfl rfl rfl rfl hl.1 rfl (Nat.le_of_ble_eq_true rfl) dX12_name_39 ⟨Nat.zero_le _, Nat.zero_le _⟩ (fun r5 u6 H locs q7 hP hS => ?_)
    obtain ⟨rfl, q7u⟩ := q7
    rw [q7u] at hP; clear q7u
    refine lv_if_eq (tgt := 50) C.1 C.2.1 dX12_name_42 (by decide) (fun c8 => ?_) (fun c8 => ?_)
    · have c8 := bI_0.mp c8
      refine lv_aload_n C.1 C.2.1 dX12_name_50 rfl (lv_at hl 0 rfl) ?_
      refine lv_bipush (v := 110) C.1 C.2.1 dX12_name_51 (by decide) ?_
      refine lv_bipush (v := 117) C.1 C.2.1 dX12_name_53 (by decide) ?_
      refine lv_bipush (v := 109) C.1 C.2.1 dX12_name_55 (by decide) ?_
      refine lv_bipush (v := 98) C.1 C.2.1 dX12_name_57 (by decide) ?_
      refine lv_bipush (v := 101) C.1 C.2.1 dX12_name_59 (by decide) ?_
      refine lv_bipush (v := 114) C.1 C.2.1 dX12_name_61 (by decide) ?_
      refine lv_iconst (v := 0) C.1 C.2.1 dX12_name_63 (by decide) ?_
      refine lv_iconst (v := 0) C.1 C.2.1 dX12_name_64 (by decide) ?_
      refine mw_cVi (As := [.int 110, .int 117, .int 109, .int 98, .int 101, .int 114, .int 0, .int 0]) (rest := []) C Z hP hS (0) (cM_isWordP l E σ t n bs k p ts o h 2 (by decide)) vb_X12_isWord tw_5_77 ⟨rfl, rfl⟩ ⟨Nat.le_of_ble_eq_true rfl, Nat.le_of_ble_eq_true rfl⟩ (by decide) rfl rfl rfl rfl hl.1 rfl (Nat.le_of_ble_eq_true rfl) dX12_name_65 ⟨Nat.zero_le _, Nat.zero_le _⟩ (fun r9 u10 H locs q11 hP hS => ?_)
      obtain ⟨rfl, q11u⟩ := q11
      rw [q11u] at hP; clear q11u
      refine lv_if_eq (tgt := 76) C.1 C.2.1 dX12_name_68 (by decide) (fun c12 => ?_) (fun c12 => ?_)
      · have c12 := bI_0.mp c12
        refine lv_aload_n C.1 C.2.1 dX12_name_76 rfl (lv_at hl 0 rfl) ?_
        refine lv_bipush (v := 103) C.1 C.2.1 dX12_name_77 (by decide) ?_
        refine lv_bipush (v := 105) C.1 C.2.1 dX12_name_79 (by decide) ?_
        refine lv_bipush (v := 114) C.1 C.2.1 dX12_name_81 (by decide) ?_
        refine lv_bipush (v := 108) C.1 C.2.1 dX12_name_83 (by decide) ?_
        refine lv_iconst (v := 0) C.1 C.2.1 dX12_name_85 (by decide) ?_
        refine lv_iconst (v := 0) C.1 C.2.1 dX12_name_86 (by decide) ?_
        refine lv_iconst (v := 0) C.1 C.2.1 dX12_name_87 (by decide) ?_
        refine lv_iconst (v := 0) C.1 C.2.1 dX12_name_88 (by decide) ?_
        refine mw_cVi (As := [.int 103, .int 105, .int 114, .int 108, .int 0, .int 0, .int 0, .int 0]) (rest := []) C Z hP hS (0) (cM_isWordP l E σ t n bs k p ts o h 3 (by decide)) vb_X12_isWord tw_5_77 ⟨rfl, rfl⟩ ⟨Nat.le_of_ble_eq_true rfl, Nat.le_of_ble_eq_true rfl⟩ (by decide) rfl rfl rfl rfl hl.1 rfl (Nat.le_of_ble_eq_true rfl) dX12_name_89 ⟨Nat.zero_le _, Nat.zero_le _⟩ (fun r13 u14 H locs q15 hP hS => ?_)
        obtain ⟨rfl, q15u⟩ := q15
        rw [q15u] at hP; clear q15u
        refine lv_if_eq (tgt := 100) C.1 C.2.1 dX12_name_92 (by decide) (fun c16 => ?_) (fun c16 => ?_)
        · have c16 := bI_0.mp c16
          refine lv_aload_n C.1 C.2.1 dX12_name_100 rfl (lv_at hl 0 rfl) ?_
          refine lv_bipush (v := 99) C.1 C.2.1 dX12_name_101 (by decide) ?_
          refine lv_bipush (v := 117) C.1 C.2.1 dX12_name_103 (by decide) ?_
          refine lv_bipush (v := 98) C.1 C.2.1 dX12_name_105 (by decide) ?_
          refine lv_bipush (v := 101) C.1 C.2.1 dX12_name_107 (by decide) ?_
          refine lv_iconst (v := 0) C.1 C.2.1 dX12_name_109 (by decide) ?_
          refine lv_iconst (v := 0) C.1 C.2.1 dX12_name_110 (by decide) ?_
          refine lv_iconst (v := 0) C.1 C.2.1 dX12_name_111 (by decide) ?_
          refine lv_iconst (v := 0) C.1 C.2.1 dX12_name_112 (by decide) ?_
          refine mw_cVi (As := [.int 99, .int 117, .int 98, .int 101, .int 0, .int 0, .int 0, .int 0]) (rest := []) C Z hP hS (0) (cM_isWordP l E σ t n bs k p ts o h 4 (by decide)) vb_X12_isWord tw_5_77 ⟨rfl, rfl⟩ ⟨Nat.le_of_ble_eq_true rfl, Nat.le_of_ble_eq_true rfl⟩ (by decide) rfl rfl rfl rfl hl.1 rfl (Nat.le_of_ble_eq_true rfl) dX12_name_113 ⟨Nat.zero_le _, Nat.zero_le _⟩ (fun r17 u18 H locs q19 hP hS => ?_)
          obtain ⟨rfl, q19u⟩ := q19
          rw [q19u] at hP; clear q19u
          refine lv_if_eq (tgt := 124) C.1 C.2.1 dX12_name_116 (by decide) (fun c20 => ?_) (fun c20 => ?_)
          · have c20 := bI_0.mp c20
            refine lv_aload_n C.1 C.2.1 dX12_name_124 rfl (lv_at hl 0 rfl) ?_
            refine lv_bipush (v := 115) C.1 C.2.1 dX12_name_125 (by decide) ?_
            refine lv_bipush (v := 111) C.1 C.2.1 dX12_name_127 (by decide) ?_
            refine lv_bipush (v := 114) C.1 C.2.1 dX12_name_129 (by decide) ?_
            refine lv_bipush (v := 116) C.1 C.2.1 dX12_name_131 (by decide) ?_
            refine lv_bipush (v := 115) C.1 C.2.1 dX12_name_133 (by decide) ?_
            refine lv_iconst (v := 0) C.1 C.2.1 dX12_name_135 (by decide) ?_
            refine lv_iconst (v := 0) C.1 C.2.1 dX12_name_136 (by decide) ?_
            refine lv_iconst (v := 0) C.1 C.2.1 dX12_name_137 (by decide) ?_
            refine mw_cVi (As := [.int 115, .int 111, .int 114, .int 116, .int 115, .int 0, .int 0, .int 0]) (rest := []) C Z hP hS (0) (cM_isWordP l E σ t n bs k p ts o h 5 (by decide)) vb_X12_isWord tw_5_77 ⟨rfl, rfl⟩ ⟨Nat.le_of_ble_eq_true rfl, Nat.le_of_ble_eq_true rfl⟩ (by decide) rfl rfl rfl rfl hl.1 rfl (Nat.le_of_ble_eq_true rfl) dX12_name_138 ⟨Nat.zero_le _, Nat.zero_le _⟩ (fun r21 u22 H locs q23 hP hS => ?_)
            obtain ⟨rfl, q23u⟩ := q23
            rw [q23u] at hP; clear q23u
            refine lv_if_eq (tgt := 149) C.1 C.2.1 dX12_name_141 (by decide) (fun c24 => ?_) (fun c24 => ?_)
            · have c24 := bI_0.mp c24
              refine lv_aload_n C.1 C.2.1 dX12_name_149 rfl (lv_at hl 0 rfl) ?_
              refine mw_cVv (As := []) (rest := []) C Z hP hS (0) (cM_failP l E σ t n bs k p ts o h) vb_X12_fail tw_5_89 ⟨rfl, rfl⟩ ⟨Nat.le_of_ble_eq_true rfl, Nat.le_of_ble_eq_true rfl⟩ (by decide) rfl rfl rfl rfl hl.1 rfl (Nat.le_of_ble_eq_true rfl) dX12_name_150 ⟨Nat.zero_le _, Nat.zero_le _⟩ (fun u26 H locs q27 hP hS => ?_)
              obtain ⟨hb28, f29⟩ := q27
              refine lv_iconst (v := 0) C.1 C.2.1 dX12_name_153 (by decide) ?_
              exact mw_iret C hr hlk Z hP hS dX12_name_154 (⟨((mFp.rf σ).tr f29), Or.inr ⟨by omega, hb28⟩⟩)
            · have c24 := bI_n.mp c24
              refine lv_aload_n C.1 C.2.1 dX12_name_144 rfl (lv_at hl 0 rfl) ?_
              refine mw_geti C Z hP (0) 16 (by decide) rfl rfl rfl (by decide) inX12 tw_4_180 dX12_name_145 ?_
              exact mw_iret C hr hlk Z hP hS dX12_name_148 (⟨(mFp.rf σ), Or.inl ⟨by omega, rfl, by rw [c24]; rfl⟩⟩)
          · have c20 := bI_n.mp c20
            refine lv_aload_n C.1 C.2.1 dX12_name_119 rfl (lv_at hl 0 rfl) ?_
            refine mw_geti C Z hP (0) 15 (by decide) rfl rfl rfl (by decide) inX12 tw_4_179 dX12_name_120 ?_
            exact mw_iret C hr hlk Z hP hS dX12_name_123 (⟨(mFp.rf σ), Or.inl ⟨by omega, rfl, by rw [c20]; rfl⟩⟩)
        · have c16 := bI_n.mp c16
          refine lv_aload_n C.1 C.2.1 dX12_name_95 rfl (lv_at hl 0 rfl) ?_
          refine mw_geti C Z hP (0) 14 (by decide) rfl rfl rfl (by decide) inX12 tw_4_178 dX12_name_96 ?_
          exact mw_iret C hr hlk Z hP hS dX12_name_99 (⟨(mFp.rf σ), Or.inl ⟨by omega, rfl, by rw [c16]; rfl⟩⟩)
      · have c12 := bI_n.mp c12
        refine lv_aload_n C.1 C.2.1 dX12_name_71 rfl (lv_at hl 0 rfl) ?_
        refine mw_geti C Z hP (0) 13 (by decide) rfl rfl rfl (by decide) inX12 tw_4_177 dX12_name_72 ?_
        exact mw_iret C hr hlk Z hP hS dX12_name_75 (⟨(mFp.rf σ), Or.inl ⟨by omega, rfl, by rw [c12]; rfl⟩⟩)
    · have c8 := bI_n.mp c8
      refine lv_aload_n C.1 C.2.1 dX12_name_45 rfl (lv_at hl 0 rfl) ?_
      refine mw_geti C Z hP (0) 12 (by decide) rfl rfl rfl (by decide) inX12 tw_4_176 dX12_name_46 ?_
      exact mw_iret C hr hlk Z hP hS dX12_name_49 (⟨(mFp.rf σ), Or.inl ⟨by omega, rfl, by rw [c8]; rfl⟩⟩)
  · have c4 := bI_n.mp c4
    refine lv_aload_n C.1 C.2.1 dX12_name_19 rfl (lv_at hl 0 rfl) ?_
    refine mw_geti C Z hP (0) 11 (by decide) rfl rfl rfl (by decide) inX12 tw_4_175 dX12_name_20 ?_
    exact mw_iret C hr hlk Z hP hS dX12_name_23 (⟨(mFp.rf σ), Or.inl ⟨by omega, rfl, by rw [c4]; rfl⟩⟩)

set_option maxHeartbeats 4000000 in
set_option maxRecDepth 100000 in
theorem cM_atom5 (l : Launch) (E : mw_E) (σ : mw_M) (t n : Nat) (bs : Nat → Int32) (k p : Nat) (ts : List (Nat × Nat)) (h : mPS σ t n bs k p ts 5) : mw_Ci shM 13 gM l yX12_atom5 cX12_atom5 2 (some .int) (rmF 4 91) E [.ref (mw_a E 0)] σ (fun r u => mOK σ u t n bs 5 r ((gD 0).1 ((k, p) :: ts))) := by
  refine mw_of (by decide) gM_ok (Nat.le_of_ble_eq_true rfl) ?_
  intro p_ e_ s_ m_ below meth c_ C hr hlk Z hP ls hl
  have C : CallFix p_ m_ c_ cX12_atom5 2 s_ _ lw_good RX12 := C
  have hl : lv_has ls 2 [(0, .ref (mw_a E 0))] := hl
  have hS : va_S (mw_A 13 E) s_.heap s_.heap [] := va_S.rf
  refine lv_iconst (v := 0) C.1 C.2.1 dX12_atom5_0 (by decide) ?_
  refine lv_istore_n (lv' := [(1, .int 0), (0, .ref (mw_a E 0))]) C.1 C.2.1 dX12_atom5_1 rfl hl (by decide) rfl (fun ls hl => ?_)
  refine lv_aload_n C.1 C.2.1 dX12_atom5_2 rfl (lv_at hl 1 rfl) ?_
  refine lv_bipush (v := 45) C.1 C.2.1 dX12_atom5_3 (by decide) ?_
  refine mw_cVi (As := [.int 45]) (rest := []) C Z hP hS (0) (cM_isSignP l E σ t n bs k p ts 5 h 4 (by decide)) vb_X12_isSign tw_5_141 ⟨rfl, rfl⟩ ⟨Nat.le_of_ble_eq_true rfl, Nat.le_of_ble_eq_true rfl⟩ (by decide) rfl rfl rfl rfl hl.1 rfl (Nat.le_of_ble_eq_true rfl) dX12_atom5_5 ⟨Nat.zero_le _, Nat.zero_le _⟩ (fun r1 u2 H locs q3 hP hS => ?_)
  obtain ⟨rfl, q3u⟩ := q3
  rw [q3u] at hP; clear q3u
  refine lv_if_eq (tgt := 19) C.1 C.2.1 dX12_atom5_8 (by decide) (fun c4 => ?_) (fun c4 => ?_)
  · have c4 := bI_0.mp c4
    refine lv_aload_n C.1 C.2.1 dX12_atom5_19 rfl (lv_at hl 1 rfl) ?_
    refine lv_bipush (v := 40) C.1 C.2.1 dX12_atom5_20 (by decide) ?_
    refine mw_cVi (As := [.int 40]) (rest := []) C Z hP hS (0) (cM_isSignP l E σ t n bs k p ts 5 h 0 (by decide)) vb_X12_isSign tw_5_141 ⟨rfl, rfl⟩ ⟨Nat.le_of_ble_eq_true rfl, Nat.le_of_ble_eq_true rfl⟩ (by decide) rfl rfl rfl rfl hl.1 rfl (Nat.le_of_ble_eq_true rfl) dX12_atom5_22 ⟨Nat.zero_le _, Nat.zero_le _⟩ (fun r5 u6 H locs q7 hP hS => ?_)
    obtain ⟨rfl, q7u⟩ := q7
    rw [q7u] at hP; clear q7u
    refine lv_if_eq (tgt := 36) C.1 C.2.1 dX12_atom5_25 (by decide) (fun c8 => ?_) (fun c8 => ?_)
    · have c8 := bI_0.mp c8
      refine lv_aload_n C.1 C.2.1 dX12_atom5_36 rfl (lv_at hl 1 rfl) ?_
      refine mw_geti C Z hP (0) 24 (by decide) rfl rfl rfl (by decide) inX12 tw_4_188 dX12_atom5_37 ?_
      refine mw_top (y := 0) (h.2.1) ?_
      refine lv_if_ne (tgt := 64) C.1 C.2.1 dX12_atom5_40 (by decide) (fun c9 => ?_) (fun c9 => ?_)
      · exact absurd c9 (by decide)
      · refine lv_aload_n C.1 C.2.1 dX12_atom5_43 rfl (lv_at hl 1 rfl) ?_
        refine mw_geti C Z hP (0) 20 (by decide) rfl rfl rfl (by decide) inX12 tw_4_184 dX12_atom5_44 ?_
        refine lv_iconst (v := 2) C.1 C.2.1 dX12_atom5_47 (by decide) ?_
        refine lv_icmp_ne (tgt := 64) C.1 C.2.1 dX12_atom5_48 (by decide) (fun c10 => ?_) (fun c10 => ?_)
        · have hnn : ¬ 100 ≤ k := fun y => c10 (h.2.2.2.1.2.2.2.1.mpr y)
          refine lv_aload_n C.1 C.2.1 dX12_atom5_64 rfl (lv_at hl 1 rfl) ?_
          refine mw_geti C Z hP (0) 24 (by decide) rfl rfl rfl (by decide) inX12 tw_4_188 dX12_atom5_65 ?_
          refine mw_top (y := 0) (h.2.1) ?_
          refine lv_if_ne (tgt := 98) C.1 C.2.1 dX12_atom5_68 (by decide) (fun c11 => ?_) (fun c11 => ?_)
          · exact absurd c11 (by decide)
          · refine lv_aload_n C.1 C.2.1 dX12_atom5_71 rfl (lv_at hl 1 rfl) ?_
            refine mw_geti C Z hP (0) 20 (by decide) rfl rfl rfl (by decide) inX12 tw_4_184 dX12_atom5_72 ?_
            refine lv_iconst (v := 1) C.1 C.2.1 dX12_atom5_75 (by decide) ?_
            refine lv_icmp_ne (tgt := 98) C.1 C.2.1 dX12_atom5_76 (by decide) (fun c12 => ?_) (fun c12 => ?_)
            · have hnw : ¬ k ≤ 5 := fun y => c12 (h.2.2.2.2.2.2.1 (by omega))
              refine lv_aload_n C.1 C.2.1 dX12_atom5_98 rfl (lv_at hl 1 rfl) ?_
              refine mw_cVv (As := []) (rest := []) C Z hP hS (0) (cM_failP l E σ t n bs k p ts 5 h) vb_X12_fail tw_5_89 ⟨rfl, rfl⟩ ⟨Nat.le_of_ble_eq_true rfl, Nat.le_of_ble_eq_true rfl⟩ (by decide) rfl rfl rfl rfl hl.1 rfl (Nat.le_of_ble_eq_true rfl) dX12_atom5_99 ⟨Nat.zero_le _, Nat.zero_le _⟩ (fun u14 H locs q15 hP hS => ?_)
              obtain ⟨hb16, f17⟩ := q15
              refine lv_iload_n C.1 C.2.1 dX12_atom5_102 rfl (lv_at hl 0 rfl) ?_
              exact mw_iret C hr hlk Z hP hS dX12_atom5_103 (⟨((mFp.rf σ).tr f17), by rw [gA_0, gAt_bad (fun y => y.elim hnw hnn) (by omega) (by omega)]; exact hb16⟩)
            · have hk21 : k ≠ 21 := fun y => by have z := h.2.2.2.1.2.2.1.mpr y; rw [c12] at z; exact absurd z (by decide)
              refine lv_aload_n C.1 C.2.1 dX12_atom5_79 rfl (lv_at hl 1 rfl) ?_
              refine mw_cVi (As := []) (rest := []) C Z hP hS (0) (cM_name l E σ t n bs k p ts 5 h) vb_X12_name tw_5_145 ⟨rfl, rfl⟩ ⟨Nat.le_of_ble_eq_true rfl, Nat.le_of_ble_eq_true rfl⟩ (by decide) rfl rfl rfl rfl hl.1 rfl (Nat.le_of_ble_eq_true rfl) dX12_atom5_80 ⟨Nat.zero_le _, Nat.zero_le _⟩ (fun r18 u19 H locs q20 hP hS => ?_)
              obtain ⟨f25, ⟨z21, z22, z23⟩ | ⟨z21, hb24⟩⟩ := q20
              · rw [z22] at hP; clear z22
                refine lv_istore_n (lv' := [(1, .int r18), (0, .ref (mw_a E 0))]) C.1 C.2.1 dX12_atom5_83 rfl hl (by decide) rfl (fun ls hl => ?_)
                refine lv_aload_n C.1 C.2.1 dX12_atom5_84 rfl (lv_at hl 1 rfl) ?_
                refine mw_geti C Z hP (0) 24 (by decide) rfl rfl rfl (by decide) inX12 tw_4_188 dX12_atom5_85 ?_
                refine mw_top (y := 0) (h.2.1) ?_
                refine lv_if_ne (tgt := 102) C.1 C.2.1 dX12_atom5_88 (by decide) (fun c26 => ?_) (fun c26 => ?_)
                · exact absurd c26 (by decide)
                · refine lv_aload_n C.1 C.2.1 dX12_atom5_91 rfl (lv_at hl 1 rfl) ?_
                  refine mw_cVv (As := []) (rest := []) C Z hP hS (0) (cM_nextP l E σ t n bs k p ts 5 h (by omega) (by omega)) vb_X12_next tw_5_64 ⟨rfl, rfl⟩ ⟨Nat.le_of_ble_eq_true rfl, Nat.le_of_ble_eq_true rfl⟩ (by decide) rfl rfl rfl rfl hl.1 rfl (Nat.le_of_ble_eq_true rfl) dX12_atom5_92 ⟨Nat.zero_le _, Nat.zero_le _⟩ (fun u28 H locs q29 hP hS => ?_)
                  obtain ⟨⟨k30, p31, ts32, e33, h34⟩, f35⟩ := q29
                  refine lv_goto (tgt := 102) C.1 C.2.1 dX12_atom5_95 (by decide) ?_
                  refine lv_iload_n C.1 C.2.1 dX12_atom5_102 rfl (lv_at hl 0 rfl) ?_
                  exact mw_iret C hr hlk Z hP hS dX12_atom5_103 (⟨((mFp.rf σ).tr f35), by rw [gA_0, gAt_one (Or.inl z21)]; exact ⟨⟨k30, p31, ts32, e33, h34⟩, by rw [z23]; exact ruV_nm z21⟩⟩)
              · refine lv_istore_n (lv' := [(1, .int r18), (0, .ref (mw_a E 0))]) C.1 C.2.1 dX12_atom5_83 rfl hl (by decide) rfl (fun ls hl => ?_)
                refine lv_aload_n C.1 C.2.1 dX12_atom5_84 rfl (lv_at hl 1 rfl) ?_
                refine mw_geti C Z hP (0) 24 (by decide) rfl rfl rfl (by decide) inX12 tw_4_188 dX12_atom5_85 ?_
                refine mw_top (y := 1) (hb24.1) ?_
                refine lv_if_ne (tgt := 102) C.1 C.2.1 dX12_atom5_88 (by decide) (fun c36 => ?_) (fun c36 => ?_)
                · refine lv_iload_n C.1 C.2.1 dX12_atom5_102 rfl (lv_at hl 0 rfl) ?_
                  exact mw_iret C hr hlk Z hP hS dX12_atom5_103 (⟨((mFp.rf σ).tr f25), by rw [gA_0, gAt_bad (fun y => y.elim (fun y => z21 y) hnn) (by omega) (by omega)]; exact hb24⟩)
                · exact absurd c36 (by decide)
        · have hnum : 100 ≤ k := h.2.2.2.1.2.2.2.1.mp c10
          have hval : nI (k - 100) = (σ.2.2 0 22).toInt32 := by rw [(h.2.2.2.1.2.2.2.2 hnum).1, lN_i]
          refine lv_aload_n C.1 C.2.1 dX12_atom5_51 rfl (lv_at hl 1 rfl) ?_
          refine mw_getl C Z hP (0) 22 (by decide) rfl rfl rfl (by decide) inX12 tw_4_186 dX12_atom5_52 ?_
          refine lv_l2i C.1 C.2.1 dX12_atom5_55 rfl ?_
          refine lv_istore_n (lv' := [(1, .int ((σ.2.2 0 22).toInt32)), (0, .ref (mw_a E 0))]) C.1 C.2.1 dX12_atom5_56 rfl hl (by decide) rfl (fun ls hl => ?_)
          refine lv_aload_n C.1 C.2.1 dX12_atom5_57 rfl (lv_at hl 1 rfl) ?_
          refine mw_cVv (As := []) (rest := []) C Z hP hS (0) (cM_nextP l E σ t n bs k p ts 5 h (by omega) (by omega)) vb_X12_next tw_5_64 ⟨rfl, rfl⟩ ⟨Nat.le_of_ble_eq_true rfl, Nat.le_of_ble_eq_true rfl⟩ (by decide) rfl rfl rfl rfl hl.1 rfl (Nat.le_of_ble_eq_true rfl) dX12_atom5_58 ⟨Nat.zero_le _, Nat.zero_le _⟩ (fun u38 H locs q39 hP hS => ?_)
          obtain ⟨⟨k40, p41, ts42, e43, h44⟩, f45⟩ := q39
          refine lv_goto (tgt := 102) C.1 C.2.1 dX12_atom5_61 (by decide) ?_
          refine lv_iload_n C.1 C.2.1 dX12_atom5_102 rfl (lv_at hl 0 rfl) ?_
          exact mw_iret C hr hlk Z hP hS dX12_atom5_103 (⟨((mFp.rf σ).tr f45), by rw [gA_0, gAt_one (Or.inr hnum)]; exact ⟨⟨k40, p41, ts42, e43, h44⟩, hval ▸ ruV_nu hnum⟩⟩)
    · have c8 := bI_n.mp c8
      refine lv_aload_n C.1 C.2.1 dX12_atom5_28 rfl (lv_at hl 1 rfl) ?_
      refine mw_cVi (As := []) (rest := []) C Z hP hS (0) (cM_opens5 l E σ t n bs k p ts h (by omega) (by omega)) vb_X12_opens tw_5_105 ⟨rfl, rfl⟩ ⟨Nat.le_of_ble_eq_true rfl, Nat.le_of_ble_eq_true rfl⟩ (by decide) rfl rfl rfl rfl hl.1 rfl (Nat.le_of_ble_eq_true rfl) dX12_atom5_29 ⟨Nat.zero_le _, Nat.zero_le _⟩ (fun r46 u47 H locs q48 hP hS => ?_)
      obtain ⟨rfl, hb49, f50⟩ := q48
      refine lv_pop C.1 C.2.1 dX12_atom5_32 rfl ?_
      refine lv_goto (tgt := 102) C.1 C.2.1 dX12_atom5_33 (by decide) ?_
      refine lv_iload_n C.1 C.2.1 dX12_atom5_102 rfl (lv_at hl 0 rfl) ?_
      exact mw_iret C hr hlk Z hP hS dX12_atom5_103 (⟨((mFp.rf σ).tr f50), by rw [gA_0, gAt_par0 (by omega : k = 12)]; exact hb49⟩)
  · have c4 := bI_n.mp c4
    refine lv_aload_n C.1 C.2.1 dX12_atom5_11 rfl (lv_at hl 1 rfl) ?_
    refine mw_cVi (As := []) (rest := []) C Z hP hS (0) (cM_opens5 l E σ t n bs k p ts h (by omega) (by omega)) vb_X12_opens tw_5_105 ⟨rfl, rfl⟩ ⟨Nat.le_of_ble_eq_true rfl, Nat.le_of_ble_eq_true rfl⟩ (by decide) rfl rfl rfl rfl hl.1 rfl (Nat.le_of_ble_eq_true rfl) dX12_atom5_12 ⟨Nat.zero_le _, Nat.zero_le _⟩ (fun r51 u52 H locs q53 hP hS => ?_)
    obtain ⟨rfl, hb54, f55⟩ := q53
    refine lv_pop C.1 C.2.1 dX12_atom5_15 rfl ?_
    refine lv_goto (tgt := 102) C.1 C.2.1 dX12_atom5_16 (by decide) ?_
    refine lv_iload_n C.1 C.2.1 dX12_atom5_102 rfl (lv_at hl 0 rfl) ?_
    exact mw_iret C hr hlk Z hP hS dX12_atom5_103 (⟨((mFp.rf σ).tr f55), by rw [gA_0, gAt_neg0 (by omega : k = 16)]; exact hb54⟩)

set_option maxHeartbeats 4000000 in
set_option maxRecDepth 100000 in
theorem cM_term5 (l : Launch) (E : mw_E) (σ : mw_M) (t n : Nat) (bs : Nat → Int32) (k p : Nat) (ts : List (Nat × Nat)) (h : mPS σ t n bs k p ts 5) : mw_Ci shM 13 gM l yX12_term5 cX12_term5 2 (some .int) (rmF 5 112) E [.ref (mw_a E 0)] σ (fun r u => mOK σ u t n bs 5 r (gLevel gTim (gD 0).1 ((k, p) :: ts))) := by
  refine mw_of (by decide) gM_ok (Nat.le_of_ble_eq_true rfl) ?_
  intro p_ e_ s_ m_ below meth c_ C hr hlk Z hP ls hl
  have C : CallFix p_ m_ c_ cX12_term5 2 s_ _ lw_good RX12 := C
  have hl : lv_has ls 2 [(0, .ref (mw_a E 0))] := hl
  have hS : va_S (mw_A 13 E) s_.heap s_.heap [] := va_S.rf
  refine lv_aload_n C.1 C.2.1 dX12_term5_0 rfl (lv_at hl 0 rfl) ?_
  refine mw_cVi (As := []) (rest := []) C Z hP hS (0) (cM_atom5 l E σ t n bs k p ts h) vb_X12_atom5 tw_5_137 ⟨rfl, rfl⟩ ⟨Nat.le_of_ble_eq_true rfl, Nat.le_of_ble_eq_true rfl⟩ (by decide) rfl rfl rfl rfl hl.1 rfl (Nat.le_of_ble_eq_true rfl) dX12_term5_1 ⟨Nat.zero_le _, Nat.zero_le _⟩ (fun r1 u2 H locs q3 hP hS => ?_)
  rcases hg4 : ((gD 0).1) ((k, p) :: ts) with zz5 | qq6
  · obtain ⟨cs8, ts9⟩ := zz5
    rw [hg4] at q3
    obtain ⟨f7, ⟨k10, p11, ts12, e13, h14⟩, v15⟩ := q3
    have v15 := (mFp.rf σ).evv v15
    refine lv_istore_n (lv' := [(1, .int r1), (0, .ref (mw_a E 0))]) C.1 C.2.1 dX12_term5_4 rfl hl (by decide) rfl (fun ls hl => ?_)
    have lp : ∀ (N : Nat) (cs : List Nat) (k2 p2 : Nat) (ts2 : List (Nat × Nat)) (v : Int32) (ς : mw_M) (H : Heap) (locs : List Loc), ts2.length + 1 ≤ N → mPS ς t n bs k2 p2 ts2 5 → mFp σ ς → ruV (mEv σ) cs v → gLevel gTim (gD 0).1 ((k, p) :: ts) = gLoop gTim ((gD 0).1) N cs ((k2, p2) :: ts2) → va_P (mw_D E) vwCl (mw_ws shM 13 E ς) H → va_S (mw_A 13 E) s_.heap H locs → ∀ (ls : Array Slot), lv_has ls 2 [(0, .ref (mw_a E 0)), (1, .int v)] → mWi p_ l e_ (rmF 5 112) s_ m_ [.ref (mw_a E 0)] below meth c_ E (fun r u => mOK σ u t n bs 5 r (gLevel gTim (gD 0).1 ((k, p) :: ts))) H locs (F0 m_ 5 ls []) := by
      intro N
      induction N with
      | zero => intro cs k2 p2 ts2 v ς H locs hN; exact absurd hN (by omega)
      | succ N ih =>
        intro cs k2 p2 ts2 v ς H locs hN h2 f2 hv hR hP hS ls hl
        refine lv_aload_n C.1 C.2.1 dX12_term5_5 rfl (lv_at hl 0 rfl) ?_
        refine lv_bipush (v := 42) C.1 C.2.1 dX12_term5_6 (by decide) ?_
        refine mw_cVi (As := [.int 42]) (rest := []) C Z hP hS (0) (cM_isSignP l E ς t n bs k2 p2 ts2 5 h2 5 (by decide)) vb_X12_isSign tw_5_141 ⟨rfl, rfl⟩ ⟨Nat.le_of_ble_eq_true rfl, Nat.le_of_ble_eq_true rfl⟩ (by decide) rfl rfl rfl rfl hl.1 rfl (Nat.le_of_ble_eq_true rfl) dX12_term5_8 ⟨Nat.zero_le _, Nat.zero_le _⟩ (fun r17 u18 H locs q19 hP hS => ?_)
        obtain ⟨rfl, q19u⟩ := q19
        rw [q19u] at hP; clear q19u
        refine lv_if_eq (tgt := 28) C.1 C.2.1 dX12_term5_11 (by decide) (fun c20 => ?_) (fun c20 => ?_)
        · have c20 := bI_0.mp c20
          refine lv_iload_n C.1 C.2.1 dX12_term5_28 rfl (lv_at hl 1 rfl) ?_
          exact mw_iret C hr hlk Z hP hS dX12_term5_29 (⟨f2, by rw [hR, gLoop_e (by simp only [gTim, gAdd, gAnd, gOr, beq_iff_eq, Bool.or_eq_true]; omega)]; exact ⟨⟨k2, p2, ts2, rfl, h2⟩, hv⟩⟩)
        · have c20 := bI_n.mp c20
          refine lv_aload_n C.1 C.2.1 dX12_term5_14 rfl (lv_at hl 0 rfl) ?_
          refine mw_cVv (As := []) (rest := []) C Z hP hS (0) (cM_nextP l E ς t n bs k2 p2 ts2 5 h2 (by omega) (by omega)) vb_X12_next tw_5_64 ⟨rfl, rfl⟩ ⟨Nat.le_of_ble_eq_true rfl, Nat.le_of_ble_eq_true rfl⟩ (by decide) rfl rfl rfl rfl hl.1 rfl (Nat.le_of_ble_eq_true rfl) dX12_term5_15 ⟨Nat.zero_le _, Nat.zero_le _⟩ (fun u22 H locs q23 hP hS => ?_)
          obtain ⟨⟨k24, p25, ts26, e27, h28⟩, f29⟩ := q23
          refine lv_iload_n C.1 C.2.1 dX12_term5_18 rfl (lv_at hl 1 rfl) ?_
          refine lv_aload_n C.1 C.2.1 dX12_term5_19 rfl (lv_at hl 0 rfl) ?_
          refine mw_cVi (As := []) (rest := [.int v]) C Z hP hS (0) (cM_atom5 l E u22 t n bs k24 p25 ts26 h28) vb_X12_atom5 tw_5_137 ⟨rfl, rfl⟩ ⟨Nat.le_of_ble_eq_true rfl, Nat.le_of_ble_eq_true rfl⟩ (by decide) rfl rfl rfl rfl hl.1 rfl (Nat.le_of_ble_eq_true rfl) dX12_term5_20 ⟨Nat.zero_le _, Nat.zero_le _⟩ (fun r30 u31 H locs q32 hP hS => ?_)
          rcases hg33 : ((gD 0).1) ((k24, p25) :: ts26) with zz34 | qq35
          · obtain ⟨cs37, ts38⟩ := zz34
            rw [hg33] at q32
            obtain ⟨f36, ⟨k39, p40, ts41, e42, h43⟩, v44⟩ := q32
            have v44 := (f2.tr f29).evv v44
            refine lv_imul C.1 C.2.1 dX12_term5_23 ?_
            refine lv_istore_n (lv' := [(1, .int (v * r30)), (0, .ref (mw_a E 0))]) C.1 C.2.1 dX12_term5_24 rfl hl (by decide) rfl (fun ls hl => ?_)
            refine lv_goto (tgt := 5) C.1 C.2.1 dX12_term5_25 (by decide) ?_
            exact ih (cs ++ cs37 ++ [k2]) k39 p40 ts41 (v * r30) u31 _ _ (by have d := (gD_dec 0).1 _ _ _ hg33; rw [e42, List.length_cons, List.length_cons] at d; rw [e27, List.length_cons] at hN; omega) h43 ((f2.tr f29).tr f36) (by have z := ruV_op (c := k2) hv v44 (by omega); rwa [show opF k2 v r30 = v * r30 by rw [c20]; rfl] at z) (by rw [hR, gLoop_s (by simp only [gTim, gAdd, gAnd, gOr, beq_iff_eq, Bool.or_eq_true]; omega) (by rw [e27]; exact hg33), e42]) hP hS ls (lv_sub hl [1, 0] rfl)
          · rw [hg33] at q32
            obtain ⟨f36, hb45⟩ := q32
            refine lv_imul C.1 C.2.1 dX12_term5_23 ?_
            refine lv_istore_n (lv' := [(1, .int (v * r30)), (0, .ref (mw_a E 0))]) C.1 C.2.1 dX12_term5_24 rfl hl (by decide) rfl (fun ls hl => ?_)
            refine lv_goto (tgt := 5) C.1 C.2.1 dX12_term5_25 (by decide) ?_
            refine lv_aload_n C.1 C.2.1 dX12_term5_5 rfl (lv_at hl 1 rfl) ?_
            refine lv_bipush (v := 42) C.1 C.2.1 dX12_term5_6 (by decide) ?_
            refine mw_cVi (As := [.int 42]) (rest := []) C Z hP hS (0) (cM_isSignB l E u31 42 hb45.1) vb_X12_isSign tw_5_141 ⟨rfl, rfl⟩ ⟨Nat.le_of_ble_eq_true rfl, Nat.le_of_ble_eq_true rfl⟩ (by decide) rfl rfl rfl rfl hl.1 rfl (Nat.le_of_ble_eq_true rfl) dX12_term5_8 ⟨Nat.zero_le _, Nat.zero_le _⟩ (fun r46 u47 H locs q48 hP hS => ?_)
            obtain ⟨rfl, q48u⟩ := q48
            rw [q48u] at hP; clear q48u
            refine lv_if_eq (tgt := 28) C.1 C.2.1 dX12_term5_11 (by decide) (fun c49 => ?_) (fun c49 => ?_)
            · refine lv_iload_n C.1 C.2.1 dX12_term5_28 rfl (lv_at hl 0 rfl) ?_
              exact mw_iret C hr hlk Z hP hS dX12_term5_29 (⟨((f2.tr f29).tr f36), by rw [hR, gLoop_f (by simp only [gTim, gAdd, gAnd, gOr, beq_iff_eq, Bool.or_eq_true]; omega) (by rw [e27]; exact hg33)]; exact hb45⟩)
            · exact absurd c49 (by decide)
    exact lp (ts12.length + 1) cs8 k10 p11 ts12 r1 u2 _ _ (Nat.le_refl _) h14 ((mFp.rf σ).tr f7) v15 (by rw [gLevel_I hg4, e13]; rfl) hP hS ls (lv_sub hl [1, 0] rfl)
  · rw [hg4] at q3
    obtain ⟨f7, hb16⟩ := q3
    refine lv_istore_n (lv' := [(1, .int r1), (0, .ref (mw_a E 0))]) C.1 C.2.1 dX12_term5_4 rfl hl (by decide) rfl (fun ls hl => ?_)
    refine lv_aload_n C.1 C.2.1 dX12_term5_5 rfl (lv_at hl 1 rfl) ?_
    refine lv_bipush (v := 42) C.1 C.2.1 dX12_term5_6 (by decide) ?_
    refine mw_cVi (As := [.int 42]) (rest := []) C Z hP hS (0) (cM_isSignB l E u2 42 hb16.1) vb_X12_isSign tw_5_141 ⟨rfl, rfl⟩ ⟨Nat.le_of_ble_eq_true rfl, Nat.le_of_ble_eq_true rfl⟩ (by decide) rfl rfl rfl rfl hl.1 rfl (Nat.le_of_ble_eq_true rfl) dX12_term5_8 ⟨Nat.zero_le _, Nat.zero_le _⟩ (fun r50 u51 H locs q52 hP hS => ?_)
    obtain ⟨rfl, q52u⟩ := q52
    rw [q52u] at hP; clear q52u
    refine lv_if_eq (tgt := 28) C.1 C.2.1 dX12_term5_11 (by decide) (fun c53 => ?_) (fun c53 => ?_)
    · refine lv_iload_n C.1 C.2.1 dX12_term5_28 rfl (lv_at hl 0 rfl) ?_
      exact mw_iret C hr hlk Z hP hS dX12_term5_29 (⟨((mFp.rf σ).tr f7), by rw [gLevel_F hg4]; exact hb16⟩)
    · exact absurd c53 (by decide)

set_option maxHeartbeats 4000000 in
set_option maxRecDepth 100000 in
theorem cM_added5 (l : Launch) (E : mw_E) (σ : mw_M) (t n : Nat) (bs : Nat → Int32) (k p : Nat) (ts : List (Nat × Nat)) (h : mPS σ t n bs k p ts 5) : mw_Ci shM 13 gM l yX12_added5 cX12_added5 4 (some .int) (rmF 6 133) E [.ref (mw_a E 0)] σ (fun r u => mOK σ u t n bs 5 r (gLevel gAdd (gLevel gTim (gD 0).1) ((k, p) :: ts))) := by
  refine mw_of (by decide) gM_ok (Nat.le_of_ble_eq_true rfl) ?_
  intro p_ e_ s_ m_ below meth c_ C hr hlk Z hP ls hl
  have C : CallFix p_ m_ c_ cX12_added5 4 s_ _ lw_good RX12 := C
  have hl : lv_has ls 4 [(0, .ref (mw_a E 0))] := hl
  have hS : va_S (mw_A 13 E) s_.heap s_.heap [] := va_S.rf
  refine lv_aload_n C.1 C.2.1 dX12_added5_0 rfl (lv_at hl 0 rfl) ?_
  refine mw_cVi (As := []) (rest := []) C Z hP hS (0) (cM_term5 l E σ t n bs k p ts h) vb_X12_term5 tw_5_133 ⟨rfl, rfl⟩ ⟨Nat.le_of_ble_eq_true rfl, Nat.le_of_ble_eq_true rfl⟩ (by decide) rfl rfl rfl rfl hl.1 rfl (Nat.le_of_ble_eq_true rfl) dX12_added5_1 ⟨Nat.zero_le _, Nat.zero_le _⟩ (fun r1 u2 H locs q3 hP hS => ?_)
  rcases hg4 : (gLevel gTim (gD 0).1) ((k, p) :: ts) with zz5 | qq6
  · obtain ⟨cs8, ts9⟩ := zz5
    rw [hg4] at q3
    obtain ⟨f7, ⟨k10, p11, ts12, e13, h14⟩, v15⟩ := q3
    have v15 := (mFp.rf σ).evv v15
    refine lv_istore_n (lv' := [(1, .int r1), (0, .ref (mw_a E 0))]) C.1 C.2.1 dX12_added5_4 rfl hl (by decide) rfl (fun ls hl => ?_)
    have lp : ∀ (N : Nat) (cs : List Nat) (k2 p2 : Nat) (ts2 : List (Nat × Nat)) (v : Int32) (ς : mw_M) (H : Heap) (locs : List Loc), ts2.length + 1 ≤ N → mPS ς t n bs k2 p2 ts2 5 → mFp σ ς → ruV (mEv σ) cs v → gLevel gAdd (gLevel gTim (gD 0).1) ((k, p) :: ts) = gLoop gAdd (gLevel gTim (gD 0).1) N cs ((k2, p2) :: ts2) → va_P (mw_D E) vwCl (mw_ws shM 13 E ς) H → va_S (mw_A 13 E) s_.heap H locs → ∀ (ls : Array Slot), lv_has ls 4 [(0, .ref (mw_a E 0)), (1, .int v)] → mWi p_ l e_ (rmF 6 133) s_ m_ [.ref (mw_a E 0)] below meth c_ E (fun r u => mOK σ u t n bs 5 r (gLevel gAdd (gLevel gTim (gD 0).1) ((k, p) :: ts))) H locs (F0 m_ 5 ls []) := by
      intro N
      induction N with
      | zero => intro cs k2 p2 ts2 v ς H locs hN; exact absurd hN (by omega)
      | succ N ih =>
        intro cs k2 p2 ts2 v ς H locs hN h2 f2 hv hR hP hS ls hl
        refine lv_aload_n C.1 C.2.1 dX12_added5_5 rfl (lv_at hl 0 rfl) ?_
        refine lv_bipush (v := 43) C.1 C.2.1 dX12_added5_6 (by decide) ?_
        refine mw_cVi (As := [.int 43]) (rest := []) C Z hP hS (0) (cM_isSignP l E ς t n bs k2 p2 ts2 5 h2 3 (by decide)) vb_X12_isSign tw_5_141 ⟨rfl, rfl⟩ ⟨Nat.le_of_ble_eq_true rfl, Nat.le_of_ble_eq_true rfl⟩ (by decide) rfl rfl rfl rfl hl.1 rfl (Nat.le_of_ble_eq_true rfl) dX12_added5_8 ⟨Nat.zero_le _, Nat.zero_le _⟩ (fun r17 u18 H locs q19 hP hS => ?_)
        obtain ⟨rfl, q19u⟩ := q19
        rw [q19u] at hP; clear q19u
        refine lv_if_ne (tgt := 23) C.1 C.2.1 dX12_added5_11 (by decide) (fun c20 => ?_) (fun c20 => ?_)
        · have c20 := bI_n.mp c20
          refine lv_aload_n C.1 C.2.1 dX12_added5_23 rfl (lv_at hl 0 rfl) ?_
          refine mw_getl C Z hP (0) 22 (by decide) rfl rfl rfl (by decide) inX12 tw_4_186 dX12_added5_24 ?_
          refine mw_topl (y := 43) (((h2.2.2.2.2.2.1 3 (by decide)).mpr c20).2) ?_
          refine lv_ldc2 (own := RX12) C.1 C.2.1 C.2.2.2.1 (C.2.2.2.2 _ tw_5_149) dX12_added5_27 ?_
          refine W.lcmp C.1 C.2.1 dX12_added5_30 ?_
          refine lv_if_ne (tgt := 38) C.1 C.2.1 dX12_added5_31 (by decide) (fun c21 => ?_) (fun c21 => ?_)
          · have c21 := (not_congr (lg_cmp_eq _ _)).mp c21
            exact absurd c21 (by decide)
          · have c21 := (lg_cmp_eq _ _).mp c21
            refine lv_iconst (v := 1) C.1 C.2.1 dX12_added5_34 (by decide) ?_
            refine lv_goto (tgt := 39) C.1 C.2.1 dX12_added5_35 (by decide) ?_
            refine lv_istore_n (lv' := [(2, .int 1), (0, .ref (mw_a E 0)), (1, .int v)]) C.1 C.2.1 dX12_added5_39 rfl hl (by decide) rfl (fun ls hl => ?_)
            refine lv_aload_n C.1 C.2.1 dX12_added5_40 rfl (lv_at hl 1 rfl) ?_
            refine mw_cVv (As := []) (rest := []) C Z hP hS (0) (cM_nextP l E ς t n bs k2 p2 ts2 5 h2 (by omega) (by omega)) vb_X12_next tw_5_64 ⟨rfl, rfl⟩ ⟨Nat.le_of_ble_eq_true rfl, Nat.le_of_ble_eq_true rfl⟩ (by decide) rfl rfl rfl rfl hl.1 rfl (Nat.le_of_ble_eq_true rfl) dX12_added5_41 ⟨Nat.zero_le _, Nat.zero_le _⟩ (fun u23 H locs q24 hP hS => ?_)
            obtain ⟨⟨k25, p26, ts27, e28, h29⟩, f30⟩ := q24
            refine lv_aload_n C.1 C.2.1 dX12_added5_44 rfl (lv_at hl 1 rfl) ?_
            refine mw_cVi (As := []) (rest := []) C Z hP hS (0) (cM_term5 l E u23 t n bs k25 p26 ts27 h29) vb_X12_term5 tw_5_133 ⟨rfl, rfl⟩ ⟨Nat.le_of_ble_eq_true rfl, Nat.le_of_ble_eq_true rfl⟩ (by decide) rfl rfl rfl rfl hl.1 rfl (Nat.le_of_ble_eq_true rfl) dX12_added5_45 ⟨Nat.zero_le _, Nat.zero_le _⟩ (fun r31 u32 H locs q33 hP hS => ?_)
            rcases hg34 : (gLevel gTim (gD 0).1) ((k25, p26) :: ts27) with zz35 | qq36
            · obtain ⟨cs38, ts39⟩ := zz35
              rw [hg34] at q33
              obtain ⟨f37, ⟨k40, p41, ts42, e43, h44⟩, v45⟩ := q33
              have v45 := (f2.tr f30).evv v45
              refine lv_istore_n (lv' := [(3, .int r31), (2, .int 1), (0, .ref (mw_a E 0)), (1, .int v)]) C.1 C.2.1 dX12_added5_48 rfl hl (by decide) rfl (fun ls hl => ?_)
              refine lv_iload_n C.1 C.2.1 dX12_added5_49 rfl (lv_at hl 1 rfl) ?_
              refine lv_if_eq (tgt := 59) C.1 C.2.1 dX12_added5_50 (by decide) (fun c47 => ?_) (fun c47 => ?_)
              · exact absurd c47 (by decide)
              · refine lv_iload_n C.1 C.2.1 dX12_added5_53 rfl (lv_at hl 3 rfl) ?_
                refine lv_iload_n C.1 C.2.1 dX12_added5_54 rfl (lv_at hl 0 rfl) ?_
                refine lv_iadd C.1 C.2.1 dX12_added5_55 ?_
                refine lv_goto (tgt := 62) C.1 C.2.1 dX12_added5_56 (by decide) ?_
                refine lv_istore_n (lv' := [(1, .int (v + r31)), (3, .int r31), (2, .int 1), (0, .ref (mw_a E 0))]) C.1 C.2.1 dX12_added5_62 rfl hl (by decide) rfl (fun ls hl => ?_)
                refine lv_goto (tgt := 5) C.1 C.2.1 dX12_added5_63 (by decide) ?_
                exact ih (cs ++ cs38 ++ [k2]) k40 p41 ts42 (v + r31) u32 _ _ (by have d := (gLevel_dec (gD_dec 0).1) _ _ _ hg34; rw [e43, List.length_cons, List.length_cons] at d; rw [e28, List.length_cons] at hN; omega) h44 ((f2.tr f30).tr f37) (by have z := ruV_op (c := k2) hv v45 (by omega); rwa [show opF k2 v r31 = v + r31 by rw [c20]; rfl] at z) (by rw [hR, gLoop_s (by simp only [gTim, gAdd, gAnd, gOr, beq_iff_eq, Bool.or_eq_true]; omega) (by rw [e28]; exact hg34), e43]) hP hS ls (lv_sub hl [3, 0] rfl)
            · rw [hg34] at q33
              obtain ⟨f37, hb46⟩ := q33
              refine lv_istore_n (lv' := [(3, .int r31), (2, .int 1), (0, .ref (mw_a E 0)), (1, .int v)]) C.1 C.2.1 dX12_added5_48 rfl hl (by decide) rfl (fun ls hl => ?_)
              refine lv_iload_n C.1 C.2.1 dX12_added5_49 rfl (lv_at hl 1 rfl) ?_
              refine lv_if_eq (tgt := 59) C.1 C.2.1 dX12_added5_50 (by decide) (fun c48 => ?_) (fun c48 => ?_)
              · exact absurd c48 (by decide)
              · refine lv_iload_n C.1 C.2.1 dX12_added5_53 rfl (lv_at hl 3 rfl) ?_
                refine lv_iload_n C.1 C.2.1 dX12_added5_54 rfl (lv_at hl 0 rfl) ?_
                refine lv_iadd C.1 C.2.1 dX12_added5_55 ?_
                refine lv_goto (tgt := 62) C.1 C.2.1 dX12_added5_56 (by decide) ?_
                refine lv_istore_n (lv' := [(1, .int (v + r31)), (3, .int r31), (2, .int 1), (0, .ref (mw_a E 0))]) C.1 C.2.1 dX12_added5_62 rfl hl (by decide) rfl (fun ls hl => ?_)
                refine lv_goto (tgt := 5) C.1 C.2.1 dX12_added5_63 (by decide) ?_
                refine lv_aload_n C.1 C.2.1 dX12_added5_5 rfl (lv_at hl 3 rfl) ?_
                refine lv_bipush (v := 43) C.1 C.2.1 dX12_added5_6 (by decide) ?_
                refine mw_cVi (As := [.int 43]) (rest := []) C Z hP hS (0) (cM_isSignB l E u32 43 hb46.1) vb_X12_isSign tw_5_141 ⟨rfl, rfl⟩ ⟨Nat.le_of_ble_eq_true rfl, Nat.le_of_ble_eq_true rfl⟩ (by decide) rfl rfl rfl rfl hl.1 rfl (Nat.le_of_ble_eq_true rfl) dX12_added5_8 ⟨Nat.zero_le _, Nat.zero_le _⟩ (fun r49 u50 H locs q51 hP hS => ?_)
                obtain ⟨rfl, q51u⟩ := q51
                rw [q51u] at hP; clear q51u
                refine lv_if_ne (tgt := 23) C.1 C.2.1 dX12_added5_11 (by decide) (fun c52 => ?_) (fun c52 => ?_)
                · exact absurd c52 (by decide)
                · refine lv_aload_n C.1 C.2.1 dX12_added5_14 rfl (lv_at hl 3 rfl) ?_
                  refine lv_bipush (v := 45) C.1 C.2.1 dX12_added5_15 (by decide) ?_
                  refine mw_cVi (As := [.int 45]) (rest := []) C Z hP hS (0) (cM_isSignB l E u32 45 hb46.1) vb_X12_isSign tw_5_141 ⟨rfl, rfl⟩ ⟨Nat.le_of_ble_eq_true rfl, Nat.le_of_ble_eq_true rfl⟩ (by decide) rfl rfl rfl rfl hl.1 rfl (Nat.le_of_ble_eq_true rfl) dX12_added5_17 ⟨Nat.zero_le _, Nat.zero_le _⟩ (fun r53 u54 H locs q55 hP hS => ?_)
                  obtain ⟨rfl, q55u⟩ := q55
                  rw [q55u] at hP; clear q55u
                  refine lv_if_eq (tgt := 66) C.1 C.2.1 dX12_added5_20 (by decide) (fun c56 => ?_) (fun c56 => ?_)
                  · refine lv_iload_n C.1 C.2.1 dX12_added5_66 rfl (lv_at hl 0 rfl) ?_
                    exact mw_iret C hr hlk Z hP hS dX12_added5_67 (⟨((f2.tr f30).tr f37), by rw [hR, gLoop_f (by simp only [gTim, gAdd, gAnd, gOr, beq_iff_eq, Bool.or_eq_true]; omega) (by rw [e28]; exact hg34)]; exact hb46⟩)
                  · exact absurd c56 (by decide)
        · have c20 := bI_0.mp c20
          refine lv_aload_n C.1 C.2.1 dX12_added5_14 rfl (lv_at hl 0 rfl) ?_
          refine lv_bipush (v := 45) C.1 C.2.1 dX12_added5_15 (by decide) ?_
          refine mw_cVi (As := [.int 45]) (rest := []) C Z hP hS (0) (cM_isSignP l E ς t n bs k2 p2 ts2 5 h2 4 (by decide)) vb_X12_isSign tw_5_141 ⟨rfl, rfl⟩ ⟨Nat.le_of_ble_eq_true rfl, Nat.le_of_ble_eq_true rfl⟩ (by decide) rfl rfl rfl rfl hl.1 rfl (Nat.le_of_ble_eq_true rfl) dX12_added5_17 ⟨Nat.zero_le _, Nat.zero_le _⟩ (fun r57 u58 H locs q59 hP hS => ?_)
          obtain ⟨rfl, q59u⟩ := q59
          rw [q59u] at hP; clear q59u
          refine lv_if_eq (tgt := 66) C.1 C.2.1 dX12_added5_20 (by decide) (fun c60 => ?_) (fun c60 => ?_)
          · have c60 := bI_0.mp c60
            refine lv_iload_n C.1 C.2.1 dX12_added5_66 rfl (lv_at hl 1 rfl) ?_
            exact mw_iret C hr hlk Z hP hS dX12_added5_67 (⟨f2, by rw [hR, gLoop_e (by simp only [gTim, gAdd, gAnd, gOr, beq_iff_eq, Bool.or_eq_true]; omega)]; exact ⟨⟨k2, p2, ts2, rfl, h2⟩, hv⟩⟩)
          · have c60 := bI_n.mp c60
            refine lv_aload_n C.1 C.2.1 dX12_added5_23 rfl (lv_at hl 0 rfl) ?_
            refine mw_getl C Z hP (0) 22 (by decide) rfl rfl rfl (by decide) inX12 tw_4_186 dX12_added5_24 ?_
            refine mw_topl (y := 45) (((h2.2.2.2.2.2.1 4 (by decide)).mpr c60).2) ?_
            refine lv_ldc2 (own := RX12) C.1 C.2.1 C.2.2.2.1 (C.2.2.2.2 _ tw_5_149) dX12_added5_27 ?_
            refine W.lcmp C.1 C.2.1 dX12_added5_30 ?_
            refine lv_if_ne (tgt := 38) C.1 C.2.1 dX12_added5_31 (by decide) (fun c61 => ?_) (fun c61 => ?_)
            · have c61 := (not_congr (lg_cmp_eq _ _)).mp c61
              refine lv_iconst (v := 0) C.1 C.2.1 dX12_added5_38 (by decide) ?_
              refine lv_istore_n (lv' := [(2, .int 0), (0, .ref (mw_a E 0)), (1, .int v)]) C.1 C.2.1 dX12_added5_39 rfl hl (by decide) rfl (fun ls hl => ?_)
              refine lv_aload_n C.1 C.2.1 dX12_added5_40 rfl (lv_at hl 1 rfl) ?_
              refine mw_cVv (As := []) (rest := []) C Z hP hS (0) (cM_nextP l E ς t n bs k2 p2 ts2 5 h2 (by omega) (by omega)) vb_X12_next tw_5_64 ⟨rfl, rfl⟩ ⟨Nat.le_of_ble_eq_true rfl, Nat.le_of_ble_eq_true rfl⟩ (by decide) rfl rfl rfl rfl hl.1 rfl (Nat.le_of_ble_eq_true rfl) dX12_added5_41 ⟨Nat.zero_le _, Nat.zero_le _⟩ (fun u63 H locs q64 hP hS => ?_)
              obtain ⟨⟨k65, p66, ts67, e68, h69⟩, f70⟩ := q64
              refine lv_aload_n C.1 C.2.1 dX12_added5_44 rfl (lv_at hl 1 rfl) ?_
              refine mw_cVi (As := []) (rest := []) C Z hP hS (0) (cM_term5 l E u63 t n bs k65 p66 ts67 h69) vb_X12_term5 tw_5_133 ⟨rfl, rfl⟩ ⟨Nat.le_of_ble_eq_true rfl, Nat.le_of_ble_eq_true rfl⟩ (by decide) rfl rfl rfl rfl hl.1 rfl (Nat.le_of_ble_eq_true rfl) dX12_added5_45 ⟨Nat.zero_le _, Nat.zero_le _⟩ (fun r71 u72 H locs q73 hP hS => ?_)
              rcases hg74 : (gLevel gTim (gD 0).1) ((k65, p66) :: ts67) with zz75 | qq76
              · obtain ⟨cs78, ts79⟩ := zz75
                rw [hg74] at q73
                obtain ⟨f77, ⟨k80, p81, ts82, e83, h84⟩, v85⟩ := q73
                have v85 := (f2.tr f70).evv v85
                refine lv_istore_n (lv' := [(3, .int r71), (2, .int 0), (0, .ref (mw_a E 0)), (1, .int v)]) C.1 C.2.1 dX12_added5_48 rfl hl (by decide) rfl (fun ls hl => ?_)
                refine lv_iload_n C.1 C.2.1 dX12_added5_49 rfl (lv_at hl 1 rfl) ?_
                refine lv_if_eq (tgt := 59) C.1 C.2.1 dX12_added5_50 (by decide) (fun c87 => ?_) (fun c87 => ?_)
                · refine lv_iload_n C.1 C.2.1 dX12_added5_59 rfl (lv_at hl 3 rfl) ?_
                  refine lv_iload_n C.1 C.2.1 dX12_added5_60 rfl (lv_at hl 0 rfl) ?_
                  refine lv_isub C.1 C.2.1 dX12_added5_61 ?_
                  refine lv_istore_n (lv' := [(1, .int (v - r71)), (3, .int r71), (2, .int 0), (0, .ref (mw_a E 0))]) C.1 C.2.1 dX12_added5_62 rfl hl (by decide) rfl (fun ls hl => ?_)
                  refine lv_goto (tgt := 5) C.1 C.2.1 dX12_added5_63 (by decide) ?_
                  exact ih (cs ++ cs78 ++ [k2]) k80 p81 ts82 (v - r71) u72 _ _ (by have d := (gLevel_dec (gD_dec 0).1) _ _ _ hg74; rw [e83, List.length_cons, List.length_cons] at d; rw [e68, List.length_cons] at hN; omega) h84 ((f2.tr f70).tr f77) (by have z := ruV_op (c := k2) hv v85 (by omega); rwa [show opF k2 v r71 = v - r71 by rw [c60]; rfl] at z) (by rw [hR, gLoop_s (by simp only [gTim, gAdd, gAnd, gOr, beq_iff_eq, Bool.or_eq_true]; omega) (by rw [e68]; exact hg74), e83]) hP hS ls (lv_sub hl [3, 0] rfl)
                · exact absurd c87 (by decide)
              · rw [hg74] at q73
                obtain ⟨f77, hb86⟩ := q73
                refine lv_istore_n (lv' := [(3, .int r71), (2, .int 0), (0, .ref (mw_a E 0)), (1, .int v)]) C.1 C.2.1 dX12_added5_48 rfl hl (by decide) rfl (fun ls hl => ?_)
                refine lv_iload_n C.1 C.2.1 dX12_added5_49 rfl (lv_at hl 1 rfl) ?_
                refine lv_if_eq (tgt := 59) C.1 C.2.1 dX12_added5_50 (by decide) (fun c88 => ?_) (fun c88 => ?_)
                · refine lv_iload_n C.1 C.2.1 dX12_added5_59 rfl (lv_at hl 3 rfl) ?_
                  refine lv_iload_n C.1 C.2.1 dX12_added5_60 rfl (lv_at hl 0 rfl) ?_
                  refine lv_isub C.1 C.2.1 dX12_added5_61 ?_
                  refine lv_istore_n (lv' := [(1, .int (v - r71)), (3, .int r71), (2, .int 0), (0, .ref (mw_a E 0))]) C.1 C.2.1 dX12_added5_62 rfl hl (by decide) rfl (fun ls hl => ?_)
                  refine lv_goto (tgt := 5) C.1 C.2.1 dX12_added5_63 (by decide) ?_
                  refine lv_aload_n C.1 C.2.1 dX12_added5_5 rfl (lv_at hl 3 rfl) ?_
                  refine lv_bipush (v := 43) C.1 C.2.1 dX12_added5_6 (by decide) ?_
                  refine mw_cVi (As := [.int 43]) (rest := []) C Z hP hS (0) (cM_isSignB l E u72 43 hb86.1) vb_X12_isSign tw_5_141 ⟨rfl, rfl⟩ ⟨Nat.le_of_ble_eq_true rfl, Nat.le_of_ble_eq_true rfl⟩ (by decide) rfl rfl rfl rfl hl.1 rfl (Nat.le_of_ble_eq_true rfl) dX12_added5_8 ⟨Nat.zero_le _, Nat.zero_le _⟩ (fun r89 u90 H locs q91 hP hS => ?_)
                  obtain ⟨rfl, q91u⟩ := q91
                  rw [q91u] at hP; clear q91u
                  refine lv_if_ne (tgt := 23) C.1 C.2.1 dX12_added5_11 (by decide) (fun c92 => ?_) (fun c92 => ?_)
                  · exact absurd c92 (by decide)
                  · refine lv_aload_n C.1 C.2.1 dX12_added5_14 rfl (lv_at hl 3 rfl) ?_
                    refine lv_bipush (v := 45) C.1 C.2.1 dX12_added5_15 (by decide) ?_
                    refine mw_cVi (As := [.int 45]) (rest := []) C Z hP hS (0) (cM_isSignB l E u72 45 hb86.1) vb_X12_isSign tw_5_141 ⟨rfl, rfl⟩ ⟨Nat.le_of_ble_eq_true rfl, Nat.le_of_ble_eq_true rfl⟩ (by decide) rfl rfl rfl rfl hl.1 rfl (Nat.le_of_ble_eq_true rfl) dX12_added5_17 ⟨Nat.zero_le _, Nat.zero_le _⟩ (fun r93 u94 H locs q95 hP hS => ?_)
                    obtain ⟨rfl, q95u⟩ := q95
                    rw [q95u] at hP; clear q95u
                    refine lv_if_eq (tgt := 66) C.1 C.2.1 dX12_added5_20 (by decide) (fun c96 => ?_) (fun c96 => ?_)
                    · refine lv_iload_n C.1 C.2.1 dX12_added5_66 rfl (lv_at hl 0 rfl) ?_
                      exact mw_iret C hr hlk Z hP hS dX12_added5_67 (⟨((f2.tr f70).tr f77), by rw [hR, gLoop_f (by simp only [gTim, gAdd, gAnd, gOr, beq_iff_eq, Bool.or_eq_true]; omega) (by rw [e68]; exact hg74)]; exact hb86⟩)
                    · exact absurd c96 (by decide)
                · exact absurd c88 (by decide)
            · have c61 := (lg_cmp_eq _ _).mp c61
              exact absurd c61 (by decide)
    exact lp (ts12.length + 1) cs8 k10 p11 ts12 r1 u2 _ _ (Nat.le_refl _) h14 ((mFp.rf σ).tr f7) v15 (by rw [gLevel_I hg4, e13]; rfl) hP hS ls (lv_sub hl [1, 0] rfl)
  · rw [hg4] at q3
    obtain ⟨f7, hb16⟩ := q3
    refine lv_istore_n (lv' := [(1, .int r1), (0, .ref (mw_a E 0))]) C.1 C.2.1 dX12_added5_4 rfl hl (by decide) rfl (fun ls hl => ?_)
    refine lv_aload_n C.1 C.2.1 dX12_added5_5 rfl (lv_at hl 1 rfl) ?_
    refine lv_bipush (v := 43) C.1 C.2.1 dX12_added5_6 (by decide) ?_
    refine mw_cVi (As := [.int 43]) (rest := []) C Z hP hS (0) (cM_isSignB l E u2 43 hb16.1) vb_X12_isSign tw_5_141 ⟨rfl, rfl⟩ ⟨Nat.le_of_ble_eq_true rfl, Nat.le_of_ble_eq_true rfl⟩ (by decide) rfl rfl rfl rfl hl.1 rfl (Nat.le_of_ble_eq_true rfl) dX12_added5_8 ⟨Nat.zero_le _, Nat.zero_le _⟩ (fun r97 u98 H locs q99 hP hS => ?_)
    obtain ⟨rfl, q99u⟩ := q99
    rw [q99u] at hP; clear q99u
    refine lv_if_ne (tgt := 23) C.1 C.2.1 dX12_added5_11 (by decide) (fun c100 => ?_) (fun c100 => ?_)
    · exact absurd c100 (by decide)
    · refine lv_aload_n C.1 C.2.1 dX12_added5_14 rfl (lv_at hl 1 rfl) ?_
      refine lv_bipush (v := 45) C.1 C.2.1 dX12_added5_15 (by decide) ?_
      refine mw_cVi (As := [.int 45]) (rest := []) C Z hP hS (0) (cM_isSignB l E u2 45 hb16.1) vb_X12_isSign tw_5_141 ⟨rfl, rfl⟩ ⟨Nat.le_of_ble_eq_true rfl, Nat.le_of_ble_eq_true rfl⟩ (by decide) rfl rfl rfl rfl hl.1 rfl (Nat.le_of_ble_eq_true rfl) dX12_added5_17 ⟨Nat.zero_le _, Nat.zero_le _⟩ (fun r101 u102 H locs q103 hP hS => ?_)
      obtain ⟨rfl, q103u⟩ := q103
      rw [q103u] at hP; clear q103u
      refine lv_if_eq (tgt := 66) C.1 C.2.1 dX12_added5_20 (by decide) (fun c104 => ?_) (fun c104 => ?_)
      · refine lv_iload_n C.1 C.2.1 dX12_added5_66 rfl (lv_at hl 0 rfl) ?_
        exact mw_iret C hr hlk Z hP hS dX12_added5_67 (⟨((mFp.rf σ).tr f7), by rw [gLevel_F hg4]; exact hb16⟩)
      · exact absurd c104 (by decide)

set_option maxHeartbeats 4000000 in
set_option maxRecDepth 100000 in
theorem cM_not5 (l : Launch) (E : mw_E) (σ : mw_M) (t n : Nat) (bs : Nat → Int32) (k p : Nat) (ts : List (Nat × Nat)) (h : mPS σ t n bs k p ts 5) : mw_Ci shM 13 gM l yX12_not5 cX12_not5 4 (some .int) (rmF 7 156) E [.ref (mw_a E 0)] σ (fun r u => mOK σ u t n bs 5 r ((gD 0).2.1 ((k, p) :: ts))) := by
  refine mw_of (by decide) gM_ok (Nat.le_of_ble_eq_true rfl) ?_
  intro p_ e_ s_ m_ below meth c_ C hr hlk Z hP ls hl
  have C : CallFix p_ m_ c_ cX12_not5 4 s_ _ lw_good RX12 := C
  have hl : lv_has ls 4 [(0, .ref (mw_a E 0))] := hl
  have hS : va_S (mw_A 13 E) s_.heap s_.heap [] := va_S.rf
  refine lv_aload_n C.1 C.2.1 dX12_not5_0 rfl (lv_at hl 0 rfl) ?_
  refine lv_bipush (v := 110) C.1 C.2.1 dX12_not5_1 (by decide) ?_
  refine lv_bipush (v := 111) C.1 C.2.1 dX12_not5_3 (by decide) ?_
  refine lv_bipush (v := 116) C.1 C.2.1 dX12_not5_5 (by decide) ?_
  refine lv_iconst (v := 0) C.1 C.2.1 dX12_not5_7 (by decide) ?_
  refine lv_iconst (v := 0) C.1 C.2.1 dX12_not5_8 (by decide) ?_
  refine lv_iconst (v := 0) C.1 C.2.1 dX12_not5_9 (by decide) ?_
  refine lv_iconst (v := 0) C.1 C.2.1 dX12_not5_10 (by decide) ?_
  refine lv_iconst (v := 0) C.1 C.2.1 dX12_not5_11 (by decide) ?_
  refine mw_cVi (As := [.int 110, .int 111, .int 116, .int 0, .int 0, .int 0, .int 0, .int 0]) (rest := []) C Z hP hS (0) (cM_isWordP l E σ t n bs k p ts 5 h 11 (by decide)) vb_X12_isWord tw_5_77 ⟨rfl, rfl⟩ ⟨Nat.le_of_ble_eq_true rfl, Nat.le_of_ble_eq_true rfl⟩ (by decide) rfl rfl rfl rfl hl.1 rfl (Nat.le_of_ble_eq_true rfl) dX12_not5_12 ⟨Nat.zero_le _, Nat.zero_le _⟩ (fun r1 u2 H locs q3 hP hS => ?_)
  obtain ⟨rfl, q3u⟩ := q3
  rw [q3u] at hP; clear q3u
  refine lv_if_eq (tgt := 25) C.1 C.2.1 dX12_not5_15 (by decide) (fun c4 => ?_) (fun c4 => ?_)
  · have c4 := bI_0.mp c4
    refine lv_aload_n C.1 C.2.1 dX12_not5_25 rfl (lv_at hl 0 rfl) ?_
    refine mw_cVi (As := []) (rest := []) C Z hP hS (0) (cM_added5 l E σ t n bs k p ts h) vb_X12_added5 tw_5_129 ⟨rfl, rfl⟩ ⟨Nat.le_of_ble_eq_true rfl, Nat.le_of_ble_eq_true rfl⟩ (by decide) rfl rfl rfl rfl hl.1 rfl (Nat.le_of_ble_eq_true rfl) dX12_not5_26 ⟨Nat.zero_le _, Nat.zero_le _⟩ (fun r5 u6 H locs q7 hP hS => ?_)
    rcases hg8 : (gLevel gAdd (gLevel gTim (gD 0).1)) ((k, p) :: ts) with zz9 | qq10
    · obtain ⟨cs12, ts13⟩ := zz9
      rw [hg8] at q7
      obtain ⟨f11, ⟨k14, p15, ts16, e17, h18⟩, v19⟩ := q7
      have v19 := (mFp.rf σ).evv v19
      refine lv_istore_n (lv' := [(1, .int r5), (0, .ref (mw_a E 0))]) C.1 C.2.1 dX12_not5_29 rfl hl (by decide) rfl (fun ls hl => ?_)
      refine lv_aload_n C.1 C.2.1 dX12_not5_30 rfl (lv_at hl 1 rfl) ?_
      refine lv_bipush (v := 60) C.1 C.2.1 dX12_not5_31 (by decide) ?_
      refine mw_cVi (As := [.int 60]) (rest := []) C Z hP hS (0) (cM_isSignP l E u6 t n bs k14 p15 ts16 5 h18 6 (by decide)) vb_X12_isSign tw_5_141 ⟨rfl, rfl⟩ ⟨Nat.le_of_ble_eq_true rfl, Nat.le_of_ble_eq_true rfl⟩ (by decide) rfl rfl rfl rfl hl.1 rfl (Nat.le_of_ble_eq_true rfl) dX12_not5_33 ⟨Nat.zero_le _, Nat.zero_le _⟩ (fun r21 u22 H locs q23 hP hS => ?_)
      obtain ⟨rfl, q23u⟩ := q23
      rw [q23u] at hP; clear q23u
      refine lv_if_ne (tgt := 50) C.1 C.2.1 dX12_not5_36 (by decide) (fun c24 => ?_) (fun c24 => ?_)
      · have c24 := bI_n.mp c24
        refine lv_aload_n C.1 C.2.1 dX12_not5_50 rfl (lv_at hl 1 rfl) ?_
        refine mw_getl C Z hP (0) 22 (by decide) rfl rfl rfl (by decide) inX12 tw_4_186 dX12_not5_51 ?_
        refine mw_topl (y := 60) (((h18.2.2.2.2.2.1 6 (by decide)).mpr c24).2) ?_
        refine lv_ldc2 (own := RX12) C.1 C.2.1 C.2.2.2.1 (C.2.2.2.2 _ tw_5_150) dX12_not5_54 ?_
        refine W.lcmp C.1 C.2.1 dX12_not5_57 ?_
        refine lv_if_ne (tgt := 65) C.1 C.2.1 dX12_not5_58 (by decide) (fun c25 => ?_) (fun c25 => ?_)
        · have c25 := (not_congr (lg_cmp_eq _ _)).mp c25
          exact absurd c25 (by decide)
        · have c25 := (lg_cmp_eq _ _).mp c25
          refine lv_iconst (v := 1) C.1 C.2.1 dX12_not5_61 (by decide) ?_
          refine lv_goto (tgt := 66) C.1 C.2.1 dX12_not5_62 (by decide) ?_
          refine lv_istore_n (lv' := [(2, .int 1), (1, .int r5), (0, .ref (mw_a E 0))]) C.1 C.2.1 dX12_not5_66 rfl hl (by decide) rfl (fun ls hl => ?_)
          refine lv_aload_n C.1 C.2.1 dX12_not5_67 rfl (lv_at hl 2 rfl) ?_
          refine mw_cVv (As := []) (rest := []) C Z hP hS (0) (cM_nextP l E u6 t n bs k14 p15 ts16 5 h18 (by omega) (by omega)) vb_X12_next tw_5_64 ⟨rfl, rfl⟩ ⟨Nat.le_of_ble_eq_true rfl, Nat.le_of_ble_eq_true rfl⟩ (by decide) rfl rfl rfl rfl hl.1 rfl (Nat.le_of_ble_eq_true rfl) dX12_not5_68 ⟨Nat.zero_le _, Nat.zero_le _⟩ (fun u27 H locs q28 hP hS => ?_)
          obtain ⟨⟨k29, p30, ts31, e32, h33⟩, f34⟩ := q28
          refine lv_aload_n C.1 C.2.1 dX12_not5_71 rfl (lv_at hl 2 rfl) ?_
          refine mw_cVi (As := []) (rest := []) C Z hP hS (0) (cM_added5 l E u27 t n bs k29 p30 ts31 h33) vb_X12_added5 tw_5_129 ⟨rfl, rfl⟩ ⟨Nat.le_of_ble_eq_true rfl, Nat.le_of_ble_eq_true rfl⟩ (by decide) rfl rfl rfl rfl hl.1 rfl (Nat.le_of_ble_eq_true rfl) dX12_not5_72 ⟨Nat.zero_le _, Nat.zero_le _⟩ (fun r35 u36 H locs q37 hP hS => ?_)
          rcases hg38 : (gLevel gAdd (gLevel gTim (gD 0).1)) ((k29, p30) :: ts31) with zz39 | qq40
          · obtain ⟨cs42, ts43⟩ := zz39
            rw [hg38] at q37
            obtain ⟨f41, ⟨k44, p45, ts46, e47, h48⟩, v49⟩ := q37
            have v49 := (((mFp.rf σ).tr f11).tr f34).evv v49
            refine lv_istore_n (lv' := [(3, .int r35), (2, .int 1), (1, .int r5), (0, .ref (mw_a E 0))]) C.1 C.2.1 dX12_not5_75 rfl hl (by decide) rfl (fun ls hl => ?_)
            refine lv_iload_n C.1 C.2.1 dX12_not5_76 rfl (lv_at hl 1 rfl) ?_
            refine lv_if_eq (tgt := 88) C.1 C.2.1 dX12_not5_77 (by decide) (fun c51 => ?_) (fun c51 => ?_)
            · exact absurd c51 (by decide)
            · refine lv_iload_n C.1 C.2.1 dX12_not5_80 rfl (lv_at hl 2 rfl) ?_
              refine lv_iload_n C.1 C.2.1 dX12_not5_81 rfl (lv_at hl 0 rfl) ?_
              refine lv_icmp_ge (tgt := 97) C.1 C.2.1 dX12_not5_82 (by decide) (fun c52 => ?_) (fun c52 => ?_)
              · refine lv_iconst (v := 0) C.1 C.2.1 dX12_not5_97 (by decide) ?_
                exact mw_iret C hr hlk Z hP hS dX12_not5_98 (⟨((((mFp.rf σ).tr f11).tr f34).tr f41), by rw [gN_0, gNot_n (by omega), gCmp_2I (by rw [← e17]; exact hg8) (by omega) (by rw [e32]; exact hg38)]; exact ⟨⟨k44, p45, ts46, e47, h48⟩, by have z := ruV_op (c := k14) v19 v49 (by omega); rwa [show opF k14 r5 r35 = 0 by rw [c24]; exact bI_f (by rw [ni_le] at c52; rw [ni_lt]; omega)] at z⟩⟩)
              · refine lv_goto (tgt := 93) C.1 C.2.1 dX12_not5_85 (by decide) ?_
                refine lv_iconst (v := 1) C.1 C.2.1 dX12_not5_93 (by decide) ?_
                refine lv_goto (tgt := 98) C.1 C.2.1 dX12_not5_94 (by decide) ?_
                exact mw_iret C hr hlk Z hP hS dX12_not5_98 (⟨((((mFp.rf σ).tr f11).tr f34).tr f41), by rw [gN_0, gNot_n (by omega), gCmp_2I (by rw [← e17]; exact hg8) (by omega) (by rw [e32]; exact hg38)]; exact ⟨⟨k44, p45, ts46, e47, h48⟩, by have z := ruV_op (c := k14) v19 v49 (by omega); rwa [show opF k14 r5 r35 = 1 by rw [c24]; exact bI_t (by rw [ni_le] at c52; rw [ni_lt]; omega)] at z⟩⟩)
          · rw [hg38] at q37
            obtain ⟨f41, hb50⟩ := q37
            refine lv_istore_n (lv' := [(3, .int r35), (2, .int 1), (1, .int r5), (0, .ref (mw_a E 0))]) C.1 C.2.1 dX12_not5_75 rfl hl (by decide) rfl (fun ls hl => ?_)
            refine lv_iload_n C.1 C.2.1 dX12_not5_76 rfl (lv_at hl 1 rfl) ?_
            refine lv_if_eq (tgt := 88) C.1 C.2.1 dX12_not5_77 (by decide) (fun c53 => ?_) (fun c53 => ?_)
            · exact absurd c53 (by decide)
            · refine lv_iload_n C.1 C.2.1 dX12_not5_80 rfl (lv_at hl 2 rfl) ?_
              refine lv_iload_n C.1 C.2.1 dX12_not5_81 rfl (lv_at hl 0 rfl) ?_
              refine lv_icmp_ge (tgt := 97) C.1 C.2.1 dX12_not5_82 (by decide) (fun c54 => ?_) (fun c54 => ?_)
              · refine lv_iconst (v := 0) C.1 C.2.1 dX12_not5_97 (by decide) ?_
                exact mw_iret C hr hlk Z hP hS dX12_not5_98 (⟨((((mFp.rf σ).tr f11).tr f34).tr f41), by rw [gN_0, gNot_n (by omega), gCmp_2F (by rw [← e17]; exact hg8) (by omega) (by rw [e32]; exact hg38)]; exact hb50⟩)
              · refine lv_goto (tgt := 93) C.1 C.2.1 dX12_not5_85 (by decide) ?_
                refine lv_iconst (v := 1) C.1 C.2.1 dX12_not5_93 (by decide) ?_
                refine lv_goto (tgt := 98) C.1 C.2.1 dX12_not5_94 (by decide) ?_
                exact mw_iret C hr hlk Z hP hS dX12_not5_98 (⟨((((mFp.rf σ).tr f11).tr f34).tr f41), by rw [gN_0, gNot_n (by omega), gCmp_2F (by rw [← e17]; exact hg8) (by omega) (by rw [e32]; exact hg38)]; exact hb50⟩)
      · have c24 := bI_0.mp c24
        refine lv_aload_n C.1 C.2.1 dX12_not5_39 rfl (lv_at hl 1 rfl) ?_
        refine lv_bipush (v := 61) C.1 C.2.1 dX12_not5_40 (by decide) ?_
        refine mw_cVi (As := [.int 61]) (rest := []) C Z hP hS (0) (cM_isSignP l E u6 t n bs k14 p15 ts16 5 h18 7 (by decide)) vb_X12_isSign tw_5_141 ⟨rfl, rfl⟩ ⟨Nat.le_of_ble_eq_true rfl, Nat.le_of_ble_eq_true rfl⟩ (by decide) rfl rfl rfl rfl hl.1 rfl (Nat.le_of_ble_eq_true rfl) dX12_not5_42 ⟨Nat.zero_le _, Nat.zero_le _⟩ (fun r55 u56 H locs q57 hP hS => ?_)
        obtain ⟨rfl, q57u⟩ := q57
        rw [q57u] at hP; clear q57u
        refine lv_if_ne (tgt := 50) C.1 C.2.1 dX12_not5_45 (by decide) (fun c58 => ?_) (fun c58 => ?_)
        · have c58 := bI_n.mp c58
          refine lv_aload_n C.1 C.2.1 dX12_not5_50 rfl (lv_at hl 1 rfl) ?_
          refine mw_getl C Z hP (0) 22 (by decide) rfl rfl rfl (by decide) inX12 tw_4_186 dX12_not5_51 ?_
          refine mw_topl (y := 61) (((h18.2.2.2.2.2.1 7 (by decide)).mpr c58).2) ?_
          refine lv_ldc2 (own := RX12) C.1 C.2.1 C.2.2.2.1 (C.2.2.2.2 _ tw_5_150) dX12_not5_54 ?_
          refine W.lcmp C.1 C.2.1 dX12_not5_57 ?_
          refine lv_if_ne (tgt := 65) C.1 C.2.1 dX12_not5_58 (by decide) (fun c59 => ?_) (fun c59 => ?_)
          · have c59 := (not_congr (lg_cmp_eq _ _)).mp c59
            refine lv_iconst (v := 0) C.1 C.2.1 dX12_not5_65 (by decide) ?_
            refine lv_istore_n (lv' := [(2, .int 0), (1, .int r5), (0, .ref (mw_a E 0))]) C.1 C.2.1 dX12_not5_66 rfl hl (by decide) rfl (fun ls hl => ?_)
            refine lv_aload_n C.1 C.2.1 dX12_not5_67 rfl (lv_at hl 2 rfl) ?_
            refine mw_cVv (As := []) (rest := []) C Z hP hS (0) (cM_nextP l E u6 t n bs k14 p15 ts16 5 h18 (by omega) (by omega)) vb_X12_next tw_5_64 ⟨rfl, rfl⟩ ⟨Nat.le_of_ble_eq_true rfl, Nat.le_of_ble_eq_true rfl⟩ (by decide) rfl rfl rfl rfl hl.1 rfl (Nat.le_of_ble_eq_true rfl) dX12_not5_68 ⟨Nat.zero_le _, Nat.zero_le _⟩ (fun u61 H locs q62 hP hS => ?_)
            obtain ⟨⟨k63, p64, ts65, e66, h67⟩, f68⟩ := q62
            refine lv_aload_n C.1 C.2.1 dX12_not5_71 rfl (lv_at hl 2 rfl) ?_
            refine mw_cVi (As := []) (rest := []) C Z hP hS (0) (cM_added5 l E u61 t n bs k63 p64 ts65 h67) vb_X12_added5 tw_5_129 ⟨rfl, rfl⟩ ⟨Nat.le_of_ble_eq_true rfl, Nat.le_of_ble_eq_true rfl⟩ (by decide) rfl rfl rfl rfl hl.1 rfl (Nat.le_of_ble_eq_true rfl) dX12_not5_72 ⟨Nat.zero_le _, Nat.zero_le _⟩ (fun r69 u70 H locs q71 hP hS => ?_)
            rcases hg72 : (gLevel gAdd (gLevel gTim (gD 0).1)) ((k63, p64) :: ts65) with zz73 | qq74
            · obtain ⟨cs76, ts77⟩ := zz73
              rw [hg72] at q71
              obtain ⟨f75, ⟨k78, p79, ts80, e81, h82⟩, v83⟩ := q71
              have v83 := (((mFp.rf σ).tr f11).tr f68).evv v83
              refine lv_istore_n (lv' := [(3, .int r69), (2, .int 0), (1, .int r5), (0, .ref (mw_a E 0))]) C.1 C.2.1 dX12_not5_75 rfl hl (by decide) rfl (fun ls hl => ?_)
              refine lv_iload_n C.1 C.2.1 dX12_not5_76 rfl (lv_at hl 1 rfl) ?_
              refine lv_if_eq (tgt := 88) C.1 C.2.1 dX12_not5_77 (by decide) (fun c85 => ?_) (fun c85 => ?_)
              · refine lv_iload_n C.1 C.2.1 dX12_not5_88 rfl (lv_at hl 2 rfl) ?_
                refine lv_iload_n C.1 C.2.1 dX12_not5_89 rfl (lv_at hl 0 rfl) ?_
                refine lv_icmp_ne (tgt := 97) C.1 C.2.1 dX12_not5_90 (by decide) (fun c86 => ?_) (fun c86 => ?_)
                · refine lv_iconst (v := 0) C.1 C.2.1 dX12_not5_97 (by decide) ?_
                  exact mw_iret C hr hlk Z hP hS dX12_not5_98 (⟨((((mFp.rf σ).tr f11).tr f68).tr f75), by rw [gN_0, gNot_n (by omega), gCmp_2I (by rw [← e17]; exact hg8) (by omega) (by rw [e66]; exact hg72)]; exact ⟨⟨k78, p79, ts80, e81, h82⟩, by have z := ruV_op (c := k14) v19 v83 (by omega); rwa [show opF k14 r5 r69 = 0 by rw [c58]; exact bI_f c86] at z⟩⟩)
                · refine lv_iconst (v := 1) C.1 C.2.1 dX12_not5_93 (by decide) ?_
                  refine lv_goto (tgt := 98) C.1 C.2.1 dX12_not5_94 (by decide) ?_
                  exact mw_iret C hr hlk Z hP hS dX12_not5_98 (⟨((((mFp.rf σ).tr f11).tr f68).tr f75), by rw [gN_0, gNot_n (by omega), gCmp_2I (by rw [← e17]; exact hg8) (by omega) (by rw [e66]; exact hg72)]; exact ⟨⟨k78, p79, ts80, e81, h82⟩, by have z := ruV_op (c := k14) v19 v83 (by omega); rwa [show opF k14 r5 r69 = 1 by rw [c58]; exact bI_t c86] at z⟩⟩)
              · exact absurd c85 (by decide)
            · rw [hg72] at q71
              obtain ⟨f75, hb84⟩ := q71
              refine lv_istore_n (lv' := [(3, .int r69), (2, .int 0), (1, .int r5), (0, .ref (mw_a E 0))]) C.1 C.2.1 dX12_not5_75 rfl hl (by decide) rfl (fun ls hl => ?_)
              refine lv_iload_n C.1 C.2.1 dX12_not5_76 rfl (lv_at hl 1 rfl) ?_
              refine lv_if_eq (tgt := 88) C.1 C.2.1 dX12_not5_77 (by decide) (fun c87 => ?_) (fun c87 => ?_)
              · refine lv_iload_n C.1 C.2.1 dX12_not5_88 rfl (lv_at hl 2 rfl) ?_
                refine lv_iload_n C.1 C.2.1 dX12_not5_89 rfl (lv_at hl 0 rfl) ?_
                refine lv_icmp_ne (tgt := 97) C.1 C.2.1 dX12_not5_90 (by decide) (fun c88 => ?_) (fun c88 => ?_)
                · refine lv_iconst (v := 0) C.1 C.2.1 dX12_not5_97 (by decide) ?_
                  exact mw_iret C hr hlk Z hP hS dX12_not5_98 (⟨((((mFp.rf σ).tr f11).tr f68).tr f75), by rw [gN_0, gNot_n (by omega), gCmp_2F (by rw [← e17]; exact hg8) (by omega) (by rw [e66]; exact hg72)]; exact hb84⟩)
                · refine lv_iconst (v := 1) C.1 C.2.1 dX12_not5_93 (by decide) ?_
                  refine lv_goto (tgt := 98) C.1 C.2.1 dX12_not5_94 (by decide) ?_
                  exact mw_iret C hr hlk Z hP hS dX12_not5_98 (⟨((((mFp.rf σ).tr f11).tr f68).tr f75), by rw [gN_0, gNot_n (by omega), gCmp_2F (by rw [← e17]; exact hg8) (by omega) (by rw [e66]; exact hg72)]; exact hb84⟩)
              · exact absurd c87 (by decide)
          · have c59 := (lg_cmp_eq _ _).mp c59
            exact absurd c59 (by decide)
        · have c58 := bI_0.mp c58
          refine lv_iload_n C.1 C.2.1 dX12_not5_48 rfl (lv_at hl 0 rfl) ?_
          exact mw_iret C hr hlk Z hP hS dX12_not5_49 (⟨((mFp.rf σ).tr f11), by rw [gN_0, gNot_n (by omega), gCmp_1 (by rw [← e17]; exact hg8) (by omega)]; exact ⟨⟨k14, p15, ts16, rfl, h18⟩, v19⟩⟩)
    · rw [hg8] at q7
      obtain ⟨f11, hb20⟩ := q7
      refine lv_istore_n (lv' := [(1, .int r5), (0, .ref (mw_a E 0))]) C.1 C.2.1 dX12_not5_29 rfl hl (by decide) rfl (fun ls hl => ?_)
      refine lv_aload_n C.1 C.2.1 dX12_not5_30 rfl (lv_at hl 1 rfl) ?_
      refine lv_bipush (v := 60) C.1 C.2.1 dX12_not5_31 (by decide) ?_
      refine mw_cVi (As := [.int 60]) (rest := []) C Z hP hS (0) (cM_isSignB l E u6 60 hb20.1) vb_X12_isSign tw_5_141 ⟨rfl, rfl⟩ ⟨Nat.le_of_ble_eq_true rfl, Nat.le_of_ble_eq_true rfl⟩ (by decide) rfl rfl rfl rfl hl.1 rfl (Nat.le_of_ble_eq_true rfl) dX12_not5_33 ⟨Nat.zero_le _, Nat.zero_le _⟩ (fun r89 u90 H locs q91 hP hS => ?_)
      obtain ⟨rfl, q91u⟩ := q91
      rw [q91u] at hP; clear q91u
      refine lv_if_ne (tgt := 50) C.1 C.2.1 dX12_not5_36 (by decide) (fun c92 => ?_) (fun c92 => ?_)
      · exact absurd c92 (by decide)
      · refine lv_aload_n C.1 C.2.1 dX12_not5_39 rfl (lv_at hl 1 rfl) ?_
        refine lv_bipush (v := 61) C.1 C.2.1 dX12_not5_40 (by decide) ?_
        refine mw_cVi (As := [.int 61]) (rest := []) C Z hP hS (0) (cM_isSignB l E u6 61 hb20.1) vb_X12_isSign tw_5_141 ⟨rfl, rfl⟩ ⟨Nat.le_of_ble_eq_true rfl, Nat.le_of_ble_eq_true rfl⟩ (by decide) rfl rfl rfl rfl hl.1 rfl (Nat.le_of_ble_eq_true rfl) dX12_not5_42 ⟨Nat.zero_le _, Nat.zero_le _⟩ (fun r93 u94 H locs q95 hP hS => ?_)
        obtain ⟨rfl, q95u⟩ := q95
        rw [q95u] at hP; clear q95u
        refine lv_if_ne (tgt := 50) C.1 C.2.1 dX12_not5_45 (by decide) (fun c96 => ?_) (fun c96 => ?_)
        · exact absurd c96 (by decide)
        · refine lv_iload_n C.1 C.2.1 dX12_not5_48 rfl (lv_at hl 0 rfl) ?_
          exact mw_iret C hr hlk Z hP hS dX12_not5_49 (⟨((mFp.rf σ).tr f11), by rw [gN_0, gNot_n (by omega), gCmp_F hg8]; exact hb20⟩)
  · have c4 := bI_n.mp c4
    refine lv_aload_n C.1 C.2.1 dX12_not5_18 rfl (lv_at hl 0 rfl) ?_
    refine mw_cVi (As := []) (rest := []) C Z hP hS (0) (cM_opens5 l E σ t n bs k p ts h (by omega) (by omega)) vb_X12_opens tw_5_105 ⟨rfl, rfl⟩ ⟨Nat.le_of_ble_eq_true rfl, Nat.le_of_ble_eq_true rfl⟩ (by decide) rfl rfl rfl rfl hl.1 rfl (Nat.le_of_ble_eq_true rfl) dX12_not5_19 ⟨Nat.zero_le _, Nat.zero_le _⟩ (fun r97 u98 H locs q99 hP hS => ?_)
    obtain ⟨rfl, hb100, f101⟩ := q99
    refine lv_pop C.1 C.2.1 dX12_not5_22 rfl ?_
    refine lv_iconst (v := 0) C.1 C.2.1 dX12_not5_23 (by decide) ?_
    exact mw_iret C hr hlk Z hP hS dX12_not5_24 (⟨((mFp.rf σ).tr f101), by rw [gN_0, gNot_0 (by omega)]; exact hb100⟩)

set_option maxHeartbeats 4000000 in
set_option maxRecDepth 100000 in
theorem cM_both5 (l : Launch) (E : mw_E) (σ : mw_M) (t n : Nat) (bs : Nat → Int32) (k p : Nat) (ts : List (Nat × Nat)) (h : mPS σ t n bs k p ts 5) : mw_Ci shM 13 gM l yX12_both5 cX12_both5 3 (some .int) (rmF 8 179) E [.ref (mw_a E 0)] σ (fun r u => mOK σ u t n bs 5 r (gLevel gAnd (gD 0).2.1 ((k, p) :: ts))) := by
  refine mw_of (by decide) gM_ok (Nat.le_of_ble_eq_true rfl) ?_
  intro p_ e_ s_ m_ below meth c_ C hr hlk Z hP ls hl
  have C : CallFix p_ m_ c_ cX12_both5 3 s_ _ lw_good RX12 := C
  have hl : lv_has ls 3 [(0, .ref (mw_a E 0))] := hl
  have hS : va_S (mw_A 13 E) s_.heap s_.heap [] := va_S.rf
  refine lv_aload_n C.1 C.2.1 dX12_both5_0 rfl (lv_at hl 0 rfl) ?_
  refine mw_cVi (As := []) (rest := []) C Z hP hS (0) (cM_not5 l E σ t n bs k p ts h) vb_X12_not5 tw_5_125 ⟨rfl, rfl⟩ ⟨Nat.le_of_ble_eq_true rfl, Nat.le_of_ble_eq_true rfl⟩ (by decide) rfl rfl rfl rfl hl.1 rfl (Nat.le_of_ble_eq_true rfl) dX12_both5_1 ⟨Nat.zero_le _, Nat.zero_le _⟩ (fun r1 u2 H locs q3 hP hS => ?_)
  rcases hg4 : ((gD 0).2.1) ((k, p) :: ts) with zz5 | qq6
  · obtain ⟨cs8, ts9⟩ := zz5
    rw [hg4] at q3
    obtain ⟨f7, ⟨k10, p11, ts12, e13, h14⟩, v15⟩ := q3
    have v15 := (mFp.rf σ).evv v15
    refine lv_istore_n (lv' := [(1, .int r1), (0, .ref (mw_a E 0))]) C.1 C.2.1 dX12_both5_4 rfl hl (by decide) rfl (fun ls hl => ?_)
    have lp : ∀ (N : Nat) (cs : List Nat) (k2 p2 : Nat) (ts2 : List (Nat × Nat)) (v : Int32) (ς : mw_M) (H : Heap) (locs : List Loc), ts2.length + 1 ≤ N → mPS ς t n bs k2 p2 ts2 5 → mFp σ ς → ruV (mEv σ) cs v → gLevel gAnd (gD 0).2.1 ((k, p) :: ts) = gLoop gAnd ((gD 0).2.1) N cs ((k2, p2) :: ts2) → va_P (mw_D E) vwCl (mw_ws shM 13 E ς) H → va_S (mw_A 13 E) s_.heap H locs → ∀ (ls : Array Slot), lv_has ls 3 [(0, .ref (mw_a E 0)), (1, .int v)] → mWi p_ l e_ (rmF 8 179) s_ m_ [.ref (mw_a E 0)] below meth c_ E (fun r u => mOK σ u t n bs 5 r (gLevel gAnd (gD 0).2.1 ((k, p) :: ts))) H locs (F0 m_ 5 ls []) := by
      intro N
      induction N with
      | zero => intro cs k2 p2 ts2 v ς H locs hN; exact absurd hN (by omega)
      | succ N ih =>
        intro cs k2 p2 ts2 v ς H locs hN h2 f2 hv hR hP hS ls hl
        refine lv_aload_n C.1 C.2.1 dX12_both5_5 rfl (lv_at hl 0 rfl) ?_
        refine lv_bipush (v := 97) C.1 C.2.1 dX12_both5_6 (by decide) ?_
        refine lv_bipush (v := 110) C.1 C.2.1 dX12_both5_8 (by decide) ?_
        refine lv_bipush (v := 100) C.1 C.2.1 dX12_both5_10 (by decide) ?_
        refine lv_iconst (v := 0) C.1 C.2.1 dX12_both5_12 (by decide) ?_
        refine lv_iconst (v := 0) C.1 C.2.1 dX12_both5_13 (by decide) ?_
        refine lv_iconst (v := 0) C.1 C.2.1 dX12_both5_14 (by decide) ?_
        refine lv_iconst (v := 0) C.1 C.2.1 dX12_both5_15 (by decide) ?_
        refine lv_iconst (v := 0) C.1 C.2.1 dX12_both5_16 (by decide) ?_
        refine mw_cVi (As := [.int 97, .int 110, .int 100, .int 0, .int 0, .int 0, .int 0, .int 0]) (rest := []) C Z hP hS (0) (cM_isWordP l E ς t n bs k2 p2 ts2 5 h2 10 (by decide)) vb_X12_isWord tw_5_77 ⟨rfl, rfl⟩ ⟨Nat.le_of_ble_eq_true rfl, Nat.le_of_ble_eq_true rfl⟩ (by decide) rfl rfl rfl rfl hl.1 rfl (Nat.le_of_ble_eq_true rfl) dX12_both5_17 ⟨Nat.zero_le _, Nat.zero_le _⟩ (fun r17 u18 H locs q19 hP hS => ?_)
        obtain ⟨rfl, q19u⟩ := q19
        rw [q19u] at hP; clear q19u
        refine lv_if_eq (tgt := 49) C.1 C.2.1 dX12_both5_20 (by decide) (fun c20 => ?_) (fun c20 => ?_)
        · have c20 := bI_0.mp c20
          refine lv_iload_n C.1 C.2.1 dX12_both5_49 rfl (lv_at hl 1 rfl) ?_
          exact mw_iret C hr hlk Z hP hS dX12_both5_50 (⟨f2, by rw [hR, gLoop_e (by simp only [gTim, gAdd, gAnd, gOr, beq_iff_eq, Bool.or_eq_true]; omega)]; exact ⟨⟨k2, p2, ts2, rfl, h2⟩, hv⟩⟩)
        · have c20 := bI_n.mp c20
          refine lv_aload_n C.1 C.2.1 dX12_both5_23 rfl (lv_at hl 0 rfl) ?_
          refine mw_cVv (As := []) (rest := []) C Z hP hS (0) (cM_nextP l E ς t n bs k2 p2 ts2 5 h2 (by omega) (by omega)) vb_X12_next tw_5_64 ⟨rfl, rfl⟩ ⟨Nat.le_of_ble_eq_true rfl, Nat.le_of_ble_eq_true rfl⟩ (by decide) rfl rfl rfl rfl hl.1 rfl (Nat.le_of_ble_eq_true rfl) dX12_both5_24 ⟨Nat.zero_le _, Nat.zero_le _⟩ (fun u22 H locs q23 hP hS => ?_)
          obtain ⟨⟨k24, p25, ts26, e27, h28⟩, f29⟩ := q23
          refine lv_aload_n C.1 C.2.1 dX12_both5_27 rfl (lv_at hl 0 rfl) ?_
          refine mw_cVi (As := []) (rest := []) C Z hP hS (0) (cM_not5 l E u22 t n bs k24 p25 ts26 h28) vb_X12_not5 tw_5_125 ⟨rfl, rfl⟩ ⟨Nat.le_of_ble_eq_true rfl, Nat.le_of_ble_eq_true rfl⟩ (by decide) rfl rfl rfl rfl hl.1 rfl (Nat.le_of_ble_eq_true rfl) dX12_both5_28 ⟨Nat.zero_le _, Nat.zero_le _⟩ (fun r30 u31 H locs q32 hP hS => ?_)
          rcases hg33 : ((gD 0).2.1) ((k24, p25) :: ts26) with zz34 | qq35
          · obtain ⟨cs37, ts38⟩ := zz34
            rw [hg33] at q32
            obtain ⟨f36, ⟨k39, p40, ts41, e42, h43⟩, v44⟩ := q32
            have v44 := (f2.tr f29).evv v44
            refine lv_istore_n (lv' := [(2, .int r30), (0, .ref (mw_a E 0)), (1, .int v)]) C.1 C.2.1 dX12_both5_31 rfl hl (by decide) rfl (fun ls hl => ?_)
            refine lv_iload_n C.1 C.2.1 dX12_both5_32 rfl (lv_at hl 2 rfl) ?_
            refine lv_if_eq (tgt := 44) C.1 C.2.1 dX12_both5_33 (by decide) (fun c46 => ?_) (fun c46 => ?_)
            · refine lv_iconst (v := 0) C.1 C.2.1 dX12_both5_44 (by decide) ?_
              refine lv_istore_n (lv' := [(1, .int 0), (2, .int r30), (0, .ref (mw_a E 0))]) C.1 C.2.1 dX12_both5_45 rfl hl (by decide) rfl (fun ls hl => ?_)
              refine lv_goto (tgt := 5) C.1 C.2.1 dX12_both5_46 (by decide) ?_
              exact ih (cs ++ cs37 ++ [k2]) k39 p40 ts41 0 u31 _ _ (by have d := (gD_dec 0).2.1 _ _ _ hg33; rw [e42, List.length_cons, List.length_cons] at d; rw [e27, List.length_cons] at hN; omega) h43 ((f2.tr f29).tr f36) (by have z := ruV_op (c := k2) hv v44 (by omega); rwa [show opF k2 v r30 = 0 by rw [c20]; simp [opF, bI, c46]] at z) (by rw [hR, gLoop_s (by simp only [gTim, gAdd, gAnd, gOr, beq_iff_eq, Bool.or_eq_true]; omega) (by rw [e27]; exact hg33), e42]) hP hS ls (lv_sub hl [2, 0] rfl)
            · refine lv_iload_n C.1 C.2.1 dX12_both5_36 rfl (lv_at hl 0 rfl) ?_
              refine lv_if_eq (tgt := 44) C.1 C.2.1 dX12_both5_37 (by decide) (fun c47 => ?_) (fun c47 => ?_)
              · refine lv_iconst (v := 0) C.1 C.2.1 dX12_both5_44 (by decide) ?_
                refine lv_istore_n (lv' := [(1, .int 0), (2, .int r30), (0, .ref (mw_a E 0))]) C.1 C.2.1 dX12_both5_45 rfl hl (by decide) rfl (fun ls hl => ?_)
                refine lv_goto (tgt := 5) C.1 C.2.1 dX12_both5_46 (by decide) ?_
                exact ih (cs ++ cs37 ++ [k2]) k39 p40 ts41 0 u31 _ _ (by have d := (gD_dec 0).2.1 _ _ _ hg33; rw [e42, List.length_cons, List.length_cons] at d; rw [e27, List.length_cons] at hN; omega) h43 ((f2.tr f29).tr f36) (by have z := ruV_op (c := k2) hv v44 (by omega); rwa [show opF k2 v r30 = 0 by rw [c20]; simp [opF, bI, c46, c47]] at z) (by rw [hR, gLoop_s (by simp only [gTim, gAdd, gAnd, gOr, beq_iff_eq, Bool.or_eq_true]; omega) (by rw [e27]; exact hg33), e42]) hP hS ls (lv_sub hl [2, 0] rfl)
              · refine lv_iconst (v := 1) C.1 C.2.1 dX12_both5_40 (by decide) ?_
                refine lv_goto (tgt := 45) C.1 C.2.1 dX12_both5_41 (by decide) ?_
                refine lv_istore_n (lv' := [(1, .int 1), (2, .int r30), (0, .ref (mw_a E 0))]) C.1 C.2.1 dX12_both5_45 rfl hl (by decide) rfl (fun ls hl => ?_)
                refine lv_goto (tgt := 5) C.1 C.2.1 dX12_both5_46 (by decide) ?_
                exact ih (cs ++ cs37 ++ [k2]) k39 p40 ts41 1 u31 _ _ (by have d := (gD_dec 0).2.1 _ _ _ hg33; rw [e42, List.length_cons, List.length_cons] at d; rw [e27, List.length_cons] at hN; omega) h43 ((f2.tr f29).tr f36) (by have z := ruV_op (c := k2) hv v44 (by omega); rwa [show opF k2 v r30 = 1 by rw [c20]; simp [opF, bI, c46, c47]] at z) (by rw [hR, gLoop_s (by simp only [gTim, gAdd, gAnd, gOr, beq_iff_eq, Bool.or_eq_true]; omega) (by rw [e27]; exact hg33), e42]) hP hS ls (lv_sub hl [2, 0] rfl)
          · rw [hg33] at q32
            obtain ⟨f36, hb45⟩ := q32
            refine lv_istore_n (lv' := [(2, .int r30), (0, .ref (mw_a E 0)), (1, .int v)]) C.1 C.2.1 dX12_both5_31 rfl hl (by decide) rfl (fun ls hl => ?_)
            refine lv_iload_n C.1 C.2.1 dX12_both5_32 rfl (lv_at hl 2 rfl) ?_
            refine lv_if_eq (tgt := 44) C.1 C.2.1 dX12_both5_33 (by decide) (fun c48 => ?_) (fun c48 => ?_)
            · refine lv_iconst (v := 0) C.1 C.2.1 dX12_both5_44 (by decide) ?_
              refine lv_istore_n (lv' := [(1, .int 0), (2, .int r30), (0, .ref (mw_a E 0))]) C.1 C.2.1 dX12_both5_45 rfl hl (by decide) rfl (fun ls hl => ?_)
              refine lv_goto (tgt := 5) C.1 C.2.1 dX12_both5_46 (by decide) ?_
              refine lv_aload_n C.1 C.2.1 dX12_both5_5 rfl (lv_at hl 2 rfl) ?_
              refine lv_bipush (v := 97) C.1 C.2.1 dX12_both5_6 (by decide) ?_
              refine lv_bipush (v := 110) C.1 C.2.1 dX12_both5_8 (by decide) ?_
              refine lv_bipush (v := 100) C.1 C.2.1 dX12_both5_10 (by decide) ?_
              refine lv_iconst (v := 0) C.1 C.2.1 dX12_both5_12 (by decide) ?_
              refine lv_iconst (v := 0) C.1 C.2.1 dX12_both5_13 (by decide) ?_
              refine lv_iconst (v := 0) C.1 C.2.1 dX12_both5_14 (by decide) ?_
              refine lv_iconst (v := 0) C.1 C.2.1 dX12_both5_15 (by decide) ?_
              refine lv_iconst (v := 0) C.1 C.2.1 dX12_both5_16 (by decide) ?_
              refine mw_cVi (As := [.int 97, .int 110, .int 100, .int 0, .int 0, .int 0, .int 0, .int 0]) (rest := []) C Z hP hS (0) (cM_isWordB l E u31 hb45.1 97 110 100 0 0 0 0 0) vb_X12_isWord tw_5_77 ⟨rfl, rfl⟩ ⟨Nat.le_of_ble_eq_true rfl, Nat.le_of_ble_eq_true rfl⟩ (by decide) rfl rfl rfl rfl hl.1 rfl (Nat.le_of_ble_eq_true rfl) dX12_both5_17 ⟨Nat.zero_le _, Nat.zero_le _⟩ (fun r49 u50 H locs q51 hP hS => ?_)
              obtain ⟨rfl, q51u⟩ := q51
              rw [q51u] at hP; clear q51u
              refine lv_if_eq (tgt := 49) C.1 C.2.1 dX12_both5_20 (by decide) (fun c52 => ?_) (fun c52 => ?_)
              · refine lv_iload_n C.1 C.2.1 dX12_both5_49 rfl (lv_at hl 0 rfl) ?_
                exact mw_iret C hr hlk Z hP hS dX12_both5_50 (⟨((f2.tr f29).tr f36), by rw [hR, gLoop_f (by simp only [gTim, gAdd, gAnd, gOr, beq_iff_eq, Bool.or_eq_true]; omega) (by rw [e27]; exact hg33)]; exact hb45⟩)
              · exact absurd c52 (by decide)
            · refine lv_iload_n C.1 C.2.1 dX12_both5_36 rfl (lv_at hl 0 rfl) ?_
              refine lv_if_eq (tgt := 44) C.1 C.2.1 dX12_both5_37 (by decide) (fun c53 => ?_) (fun c53 => ?_)
              · refine lv_iconst (v := 0) C.1 C.2.1 dX12_both5_44 (by decide) ?_
                refine lv_istore_n (lv' := [(1, .int 0), (2, .int r30), (0, .ref (mw_a E 0))]) C.1 C.2.1 dX12_both5_45 rfl hl (by decide) rfl (fun ls hl => ?_)
                refine lv_goto (tgt := 5) C.1 C.2.1 dX12_both5_46 (by decide) ?_
                refine lv_aload_n C.1 C.2.1 dX12_both5_5 rfl (lv_at hl 2 rfl) ?_
                refine lv_bipush (v := 97) C.1 C.2.1 dX12_both5_6 (by decide) ?_
                refine lv_bipush (v := 110) C.1 C.2.1 dX12_both5_8 (by decide) ?_
                refine lv_bipush (v := 100) C.1 C.2.1 dX12_both5_10 (by decide) ?_
                refine lv_iconst (v := 0) C.1 C.2.1 dX12_both5_12 (by decide) ?_
                refine lv_iconst (v := 0) C.1 C.2.1 dX12_both5_13 (by decide) ?_
                refine lv_iconst (v := 0) C.1 C.2.1 dX12_both5_14 (by decide) ?_
                refine lv_iconst (v := 0) C.1 C.2.1 dX12_both5_15 (by decide) ?_
                refine lv_iconst (v := 0) C.1 C.2.1 dX12_both5_16 (by decide) ?_
                refine mw_cVi (As := [.int 97, .int 110, .int 100, .int 0, .int 0, .int 0, .int 0, .int 0]) (rest := []) C Z hP hS (0) (cM_isWordB l E u31 hb45.1 97 110 100 0 0 0 0 0) vb_X12_isWord tw_5_77 ⟨rfl, rfl⟩ ⟨Nat.le_of_ble_eq_true rfl, Nat.le_of_ble_eq_true rfl⟩ (by decide) rfl rfl rfl rfl hl.1 rfl (Nat.le_of_ble_eq_true rfl) dX12_both5_17 ⟨Nat.zero_le _, Nat.zero_le _⟩ (fun r54 u55 H locs q56 hP hS => ?_)
                obtain ⟨rfl, q56u⟩ := q56
                rw [q56u] at hP; clear q56u
                refine lv_if_eq (tgt := 49) C.1 C.2.1 dX12_both5_20 (by decide) (fun c57 => ?_) (fun c57 => ?_)
                · refine lv_iload_n C.1 C.2.1 dX12_both5_49 rfl (lv_at hl 0 rfl) ?_
                  exact mw_iret C hr hlk Z hP hS dX12_both5_50 (⟨((f2.tr f29).tr f36), by rw [hR, gLoop_f (by simp only [gTim, gAdd, gAnd, gOr, beq_iff_eq, Bool.or_eq_true]; omega) (by rw [e27]; exact hg33)]; exact hb45⟩)
                · exact absurd c57 (by decide)
              · refine lv_iconst (v := 1) C.1 C.2.1 dX12_both5_40 (by decide) ?_
                refine lv_goto (tgt := 45) C.1 C.2.1 dX12_both5_41 (by decide) ?_
                refine lv_istore_n (lv' := [(1, .int 1), (2, .int r30), (0, .ref (mw_a E 0))]) C.1 C.2.1 dX12_both5_45 rfl hl (by decide) rfl (fun ls hl => ?_)
                refine lv_goto (tgt := 5) C.1 C.2.1 dX12_both5_46 (by decide) ?_
                refine lv_aload_n C.1 C.2.1 dX12_both5_5 rfl (lv_at hl 2 rfl) ?_
                refine lv_bipush (v := 97) C.1 C.2.1 dX12_both5_6 (by decide) ?_
                refine lv_bipush (v := 110) C.1 C.2.1 dX12_both5_8 (by decide) ?_
                refine lv_bipush (v := 100) C.1 C.2.1 dX12_both5_10 (by decide) ?_
                refine lv_iconst (v := 0) C.1 C.2.1 dX12_both5_12 (by decide) ?_
                refine lv_iconst (v := 0) C.1 C.2.1 dX12_both5_13 (by decide) ?_
                refine lv_iconst (v := 0) C.1 C.2.1 dX12_both5_14 (by decide) ?_
                refine lv_iconst (v := 0) C.1 C.2.1 dX12_both5_15 (by decide) ?_
                refine lv_iconst (v := 0) C.1 C.2.1 dX12_both5_16 (by decide) ?_
                refine mw_cVi (As := [.int 97, .int 110, .int 100, .int 0, .int 0, .int 0, .int 0, .int 0]) (rest := []) C Z hP hS (0) (cM_isWordB l E u31 hb45.1 97 110 100 0 0 0 0 0) vb_X12_isWord tw_5_77 ⟨rfl, rfl⟩ ⟨Nat.le_of_ble_eq_true rfl, Nat.le_of_ble_eq_true rfl⟩ (by decide) rfl rfl rfl rfl hl.1 rfl (Nat.le_of_ble_eq_true rfl) dX12_both5_17 ⟨Nat.zero_le _, Nat.zero_le _⟩ (fun r58 u59 H locs q60 hP hS => ?_)
                obtain ⟨rfl, q60u⟩ := q60
                rw [q60u] at hP; clear q60u
                refine lv_if_eq (tgt := 49) C.1 C.2.1 dX12_both5_20 (by decide) (fun c61 => ?_) (fun c61 => ?_)
                · refine lv_iload_n C.1 C.2.1 dX12_both5_49 rfl (lv_at hl 0 rfl) ?_
                  exact mw_iret C hr hlk Z hP hS dX12_both5_50 (⟨((f2.tr f29).tr f36), by rw [hR, gLoop_f (by simp only [gTim, gAdd, gAnd, gOr, beq_iff_eq, Bool.or_eq_true]; omega) (by rw [e27]; exact hg33)]; exact hb45⟩)
                · exact absurd c61 (by decide)
    exact lp (ts12.length + 1) cs8 k10 p11 ts12 r1 u2 _ _ (Nat.le_refl _) h14 ((mFp.rf σ).tr f7) v15 (by rw [gLevel_I hg4, e13]; rfl) hP hS ls (lv_sub hl [1, 0] rfl)
  · rw [hg4] at q3
    obtain ⟨f7, hb16⟩ := q3
    refine lv_istore_n (lv' := [(1, .int r1), (0, .ref (mw_a E 0))]) C.1 C.2.1 dX12_both5_4 rfl hl (by decide) rfl (fun ls hl => ?_)
    refine lv_aload_n C.1 C.2.1 dX12_both5_5 rfl (lv_at hl 1 rfl) ?_
    refine lv_bipush (v := 97) C.1 C.2.1 dX12_both5_6 (by decide) ?_
    refine lv_bipush (v := 110) C.1 C.2.1 dX12_both5_8 (by decide) ?_
    refine lv_bipush (v := 100) C.1 C.2.1 dX12_both5_10 (by decide) ?_
    refine lv_iconst (v := 0) C.1 C.2.1 dX12_both5_12 (by decide) ?_
    refine lv_iconst (v := 0) C.1 C.2.1 dX12_both5_13 (by decide) ?_
    refine lv_iconst (v := 0) C.1 C.2.1 dX12_both5_14 (by decide) ?_
    refine lv_iconst (v := 0) C.1 C.2.1 dX12_both5_15 (by decide) ?_
    refine lv_iconst (v := 0) C.1 C.2.1 dX12_both5_16 (by decide) ?_
    refine mw_cVi (As := [.int 97, .int 110, .int 100, .int 0, .int 0, .int 0, .int 0, .int 0]) (rest := []) C Z hP hS (0) (cM_isWordB l E u2 hb16.1 97 110 100 0 0 0 0 0) vb_X12_isWord tw_5_77 ⟨rfl, rfl⟩ ⟨Nat.le_of_ble_eq_true rfl, Nat.le_of_ble_eq_true rfl⟩ (by decide) rfl rfl rfl rfl hl.1 rfl (Nat.le_of_ble_eq_true rfl) dX12_both5_17 ⟨Nat.zero_le _, Nat.zero_le _⟩ (fun r62 u63 H locs q64 hP hS => ?_)
    obtain ⟨rfl, q64u⟩ := q64
    rw [q64u] at hP; clear q64u
    refine lv_if_eq (tgt := 49) C.1 C.2.1 dX12_both5_20 (by decide) (fun c65 => ?_) (fun c65 => ?_)
    · refine lv_iload_n C.1 C.2.1 dX12_both5_49 rfl (lv_at hl 0 rfl) ?_
      exact mw_iret C hr hlk Z hP hS dX12_both5_50 (⟨((mFp.rf σ).tr f7), by rw [gLevel_F hg4]; exact hb16⟩)
    · exact absurd c65 (by decide)

set_option maxHeartbeats 4000000 in
set_option maxRecDepth 100000 in
theorem cM_either5 (l : Launch) (E : mw_E) (σ : mw_M) (t n : Nat) (bs : Nat → Int32) (k p : Nat) (ts : List (Nat × Nat)) (h : mPS σ t n bs k p ts 5) : mw_Ci shM 13 gM l yX12_either5 cX12_either5 3 (some .int) (rmF 9 201) E [.ref (mw_a E 0)] σ (fun r u => mOK σ u t n bs 5 r ((gD 0).2.2 ((k, p) :: ts))) := by
  refine mw_of (by decide) gM_ok (Nat.le_of_ble_eq_true rfl) ?_
  intro p_ e_ s_ m_ below meth c_ C hr hlk Z hP ls hl
  have C : CallFix p_ m_ c_ cX12_either5 3 s_ _ lw_good RX12 := C
  have hl : lv_has ls 3 [(0, .ref (mw_a E 0))] := hl
  have hS : va_S (mw_A 13 E) s_.heap s_.heap [] := va_S.rf
  refine lv_aload_n C.1 C.2.1 dX12_either5_0 rfl (lv_at hl 0 rfl) ?_
  refine mw_cVi (As := []) (rest := []) C Z hP hS (0) (cM_both5 l E σ t n bs k p ts h) vb_X12_both5 tw_5_167 ⟨rfl, rfl⟩ ⟨Nat.le_of_ble_eq_true rfl, Nat.le_of_ble_eq_true rfl⟩ (by decide) rfl rfl rfl rfl hl.1 rfl (Nat.le_of_ble_eq_true rfl) dX12_either5_1 ⟨Nat.zero_le _, Nat.zero_le _⟩ (fun r1 u2 H locs q3 hP hS => ?_)
  rcases hg4 : (gLevel gAnd (gD 0).2.1) ((k, p) :: ts) with zz5 | qq6
  · obtain ⟨cs8, ts9⟩ := zz5
    rw [hg4] at q3
    obtain ⟨f7, ⟨k10, p11, ts12, e13, h14⟩, v15⟩ := q3
    have v15 := (mFp.rf σ).evv v15
    refine lv_istore_n (lv' := [(1, .int r1), (0, .ref (mw_a E 0))]) C.1 C.2.1 dX12_either5_4 rfl hl (by decide) rfl (fun ls hl => ?_)
    have lp : ∀ (N : Nat) (cs : List Nat) (k2 p2 : Nat) (ts2 : List (Nat × Nat)) (v : Int32) (ς : mw_M) (H : Heap) (locs : List Loc), ts2.length + 1 ≤ N → mPS ς t n bs k2 p2 ts2 5 → mFp σ ς → ruV (mEv σ) cs v → (gD 0).2.2 ((k, p) :: ts) = gLoop gOr (gLevel gAnd (gD 0).2.1) N cs ((k2, p2) :: ts2) → va_P (mw_D E) vwCl (mw_ws shM 13 E ς) H → va_S (mw_A 13 E) s_.heap H locs → ∀ (ls : Array Slot), lv_has ls 3 [(0, .ref (mw_a E 0)), (1, .int v)] → mWi p_ l e_ (rmF 9 201) s_ m_ [.ref (mw_a E 0)] below meth c_ E (fun r u => mOK σ u t n bs 5 r ((gD 0).2.2 ((k, p) :: ts))) H locs (F0 m_ 5 ls []) := by
      intro N
      induction N with
      | zero => intro cs k2 p2 ts2 v ς H locs hN; exact absurd hN (by omega)
      | succ N ih =>
        intro cs k2 p2 ts2 v ς H locs hN h2 f2 hv hR hP hS ls hl
        refine lv_aload_n C.1 C.2.1 dX12_either5_5 rfl (lv_at hl 0 rfl) ?_
        refine lv_bipush (v := 111) C.1 C.2.1 dX12_either5_6 (by decide) ?_
        refine lv_bipush (v := 114) C.1 C.2.1 dX12_either5_8 (by decide) ?_
        refine lv_iconst (v := 0) C.1 C.2.1 dX12_either5_10 (by decide) ?_
        refine lv_iconst (v := 0) C.1 C.2.1 dX12_either5_11 (by decide) ?_
        refine lv_iconst (v := 0) C.1 C.2.1 dX12_either5_12 (by decide) ?_
        refine lv_iconst (v := 0) C.1 C.2.1 dX12_either5_13 (by decide) ?_
        refine lv_iconst (v := 0) C.1 C.2.1 dX12_either5_14 (by decide) ?_
        refine lv_iconst (v := 0) C.1 C.2.1 dX12_either5_15 (by decide) ?_
        refine mw_cVi (As := [.int 111, .int 114, .int 0, .int 0, .int 0, .int 0, .int 0, .int 0]) (rest := []) C Z hP hS (0) (cM_isWordP l E ς t n bs k2 p2 ts2 5 h2 9 (by decide)) vb_X12_isWord tw_5_77 ⟨rfl, rfl⟩ ⟨Nat.le_of_ble_eq_true rfl, Nat.le_of_ble_eq_true rfl⟩ (by decide) rfl rfl rfl rfl hl.1 rfl (Nat.le_of_ble_eq_true rfl) dX12_either5_16 ⟨Nat.zero_le _, Nat.zero_le _⟩ (fun r17 u18 H locs q19 hP hS => ?_)
        obtain ⟨rfl, q19u⟩ := q19
        rw [q19u] at hP; clear q19u
        refine lv_if_eq (tgt := 48) C.1 C.2.1 dX12_either5_19 (by decide) (fun c20 => ?_) (fun c20 => ?_)
        · have c20 := bI_0.mp c20
          refine lv_iload_n C.1 C.2.1 dX12_either5_48 rfl (lv_at hl 1 rfl) ?_
          exact mw_iret C hr hlk Z hP hS dX12_either5_49 (⟨f2, by rw [hR, gLoop_e (by simp only [gTim, gAdd, gAnd, gOr, beq_iff_eq, Bool.or_eq_true]; omega)]; exact ⟨⟨k2, p2, ts2, rfl, h2⟩, hv⟩⟩)
        · have c20 := bI_n.mp c20
          refine lv_aload_n C.1 C.2.1 dX12_either5_22 rfl (lv_at hl 0 rfl) ?_
          refine mw_cVv (As := []) (rest := []) C Z hP hS (0) (cM_nextP l E ς t n bs k2 p2 ts2 5 h2 (by omega) (by omega)) vb_X12_next tw_5_64 ⟨rfl, rfl⟩ ⟨Nat.le_of_ble_eq_true rfl, Nat.le_of_ble_eq_true rfl⟩ (by decide) rfl rfl rfl rfl hl.1 rfl (Nat.le_of_ble_eq_true rfl) dX12_either5_23 ⟨Nat.zero_le _, Nat.zero_le _⟩ (fun u22 H locs q23 hP hS => ?_)
          obtain ⟨⟨k24, p25, ts26, e27, h28⟩, f29⟩ := q23
          refine lv_aload_n C.1 C.2.1 dX12_either5_26 rfl (lv_at hl 0 rfl) ?_
          refine mw_cVi (As := []) (rest := []) C Z hP hS (0) (cM_both5 l E u22 t n bs k24 p25 ts26 h28) vb_X12_both5 tw_5_167 ⟨rfl, rfl⟩ ⟨Nat.le_of_ble_eq_true rfl, Nat.le_of_ble_eq_true rfl⟩ (by decide) rfl rfl rfl rfl hl.1 rfl (Nat.le_of_ble_eq_true rfl) dX12_either5_27 ⟨Nat.zero_le _, Nat.zero_le _⟩ (fun r30 u31 H locs q32 hP hS => ?_)
          rcases hg33 : (gLevel gAnd (gD 0).2.1) ((k24, p25) :: ts26) with zz34 | qq35
          · obtain ⟨cs37, ts38⟩ := zz34
            rw [hg33] at q32
            obtain ⟨f36, ⟨k39, p40, ts41, e42, h43⟩, v44⟩ := q32
            have v44 := (f2.tr f29).evv v44
            refine lv_istore_n (lv' := [(2, .int r30), (0, .ref (mw_a E 0)), (1, .int v)]) C.1 C.2.1 dX12_either5_30 rfl hl (by decide) rfl (fun ls hl => ?_)
            refine lv_iload_n C.1 C.2.1 dX12_either5_31 rfl (lv_at hl 2 rfl) ?_
            refine lv_if_ne (tgt := 39) C.1 C.2.1 dX12_either5_32 (by decide) (fun c46 => ?_) (fun c46 => ?_)
            · refine lv_iconst (v := 1) C.1 C.2.1 dX12_either5_39 (by decide) ?_
              refine lv_goto (tgt := 44) C.1 C.2.1 dX12_either5_40 (by decide) ?_
              refine lv_istore_n (lv' := [(1, .int 1), (2, .int r30), (0, .ref (mw_a E 0))]) C.1 C.2.1 dX12_either5_44 rfl hl (by decide) rfl (fun ls hl => ?_)
              refine lv_goto (tgt := 5) C.1 C.2.1 dX12_either5_45 (by decide) ?_
              exact ih (cs ++ cs37 ++ [k2]) k39 p40 ts41 1 u31 _ _ (by have d := (gLevel_dec (gD_dec 0).2.1) _ _ _ hg33; rw [e42, List.length_cons, List.length_cons] at d; rw [e27, List.length_cons] at hN; omega) h43 ((f2.tr f29).tr f36) (by have z := ruV_op (c := k2) hv v44 (by omega); rwa [show opF k2 v r30 = 1 by rw [c20]; simp [opF, bI, c46]] at z) (by rw [hR, gLoop_s (by simp only [gTim, gAdd, gAnd, gOr, beq_iff_eq, Bool.or_eq_true]; omega) (by rw [e27]; exact hg33), e42]) hP hS ls (lv_sub hl [2, 0] rfl)
            · refine lv_iload_n C.1 C.2.1 dX12_either5_35 rfl (lv_at hl 0 rfl) ?_
              refine lv_if_eq (tgt := 43) C.1 C.2.1 dX12_either5_36 (by decide) (fun c47 => ?_) (fun c47 => ?_)
              · refine lv_iconst (v := 0) C.1 C.2.1 dX12_either5_43 (by decide) ?_
                refine lv_istore_n (lv' := [(1, .int 0), (2, .int r30), (0, .ref (mw_a E 0))]) C.1 C.2.1 dX12_either5_44 rfl hl (by decide) rfl (fun ls hl => ?_)
                refine lv_goto (tgt := 5) C.1 C.2.1 dX12_either5_45 (by decide) ?_
                exact ih (cs ++ cs37 ++ [k2]) k39 p40 ts41 0 u31 _ _ (by have d := (gLevel_dec (gD_dec 0).2.1) _ _ _ hg33; rw [e42, List.length_cons, List.length_cons] at d; rw [e27, List.length_cons] at hN; omega) h43 ((f2.tr f29).tr f36) (by have z := ruV_op (c := k2) hv v44 (by omega); rwa [show opF k2 v r30 = 0 by rw [c20]; simp [opF, bI, c46, c47]] at z) (by rw [hR, gLoop_s (by simp only [gTim, gAdd, gAnd, gOr, beq_iff_eq, Bool.or_eq_true]; omega) (by rw [e27]; exact hg33), e42]) hP hS ls (lv_sub hl [2, 0] rfl)
              · refine lv_iconst (v := 1) C.1 C.2.1 dX12_either5_39 (by decide) ?_
                refine lv_goto (tgt := 44) C.1 C.2.1 dX12_either5_40 (by decide) ?_
                refine lv_istore_n (lv' := [(1, .int 1), (2, .int r30), (0, .ref (mw_a E 0))]) C.1 C.2.1 dX12_either5_44 rfl hl (by decide) rfl (fun ls hl => ?_)
                refine lv_goto (tgt := 5) C.1 C.2.1 dX12_either5_45 (by decide) ?_
                exact ih (cs ++ cs37 ++ [k2]) k39 p40 ts41 1 u31 _ _ (by have d := (gLevel_dec (gD_dec 0).2.1) _ _ _ hg33; rw [e42, List.length_cons, List.length_cons] at d; rw [e27, List.length_cons] at hN; omega) h43 ((f2.tr f29).tr f36) (by have z := ruV_op (c := k2) hv v44 (by omega); rwa [show opF k2 v r30 = 1 by rw [c20]; simp [opF, bI, c46, c47]] at z) (by rw [hR, gLoop_s (by simp only [gTim, gAdd, gAnd, gOr, beq_iff_eq, Bool.or_eq_true]; omega) (by rw [e27]; exact hg33), e42]) hP hS ls (lv_sub hl [2, 0] rfl)
          · rw [hg33] at q32
            obtain ⟨f36, hb45⟩ := q32
            refine lv_istore_n (lv' := [(2, .int r30), (0, .ref (mw_a E 0)), (1, .int v)]) C.1 C.2.1 dX12_either5_30 rfl hl (by decide) rfl (fun ls hl => ?_)
            refine lv_iload_n C.1 C.2.1 dX12_either5_31 rfl (lv_at hl 2 rfl) ?_
            refine lv_if_ne (tgt := 39) C.1 C.2.1 dX12_either5_32 (by decide) (fun c48 => ?_) (fun c48 => ?_)
            · refine lv_iconst (v := 1) C.1 C.2.1 dX12_either5_39 (by decide) ?_
              refine lv_goto (tgt := 44) C.1 C.2.1 dX12_either5_40 (by decide) ?_
              refine lv_istore_n (lv' := [(1, .int 1), (2, .int r30), (0, .ref (mw_a E 0))]) C.1 C.2.1 dX12_either5_44 rfl hl (by decide) rfl (fun ls hl => ?_)
              refine lv_goto (tgt := 5) C.1 C.2.1 dX12_either5_45 (by decide) ?_
              refine lv_aload_n C.1 C.2.1 dX12_either5_5 rfl (lv_at hl 2 rfl) ?_
              refine lv_bipush (v := 111) C.1 C.2.1 dX12_either5_6 (by decide) ?_
              refine lv_bipush (v := 114) C.1 C.2.1 dX12_either5_8 (by decide) ?_
              refine lv_iconst (v := 0) C.1 C.2.1 dX12_either5_10 (by decide) ?_
              refine lv_iconst (v := 0) C.1 C.2.1 dX12_either5_11 (by decide) ?_
              refine lv_iconst (v := 0) C.1 C.2.1 dX12_either5_12 (by decide) ?_
              refine lv_iconst (v := 0) C.1 C.2.1 dX12_either5_13 (by decide) ?_
              refine lv_iconst (v := 0) C.1 C.2.1 dX12_either5_14 (by decide) ?_
              refine lv_iconst (v := 0) C.1 C.2.1 dX12_either5_15 (by decide) ?_
              refine mw_cVi (As := [.int 111, .int 114, .int 0, .int 0, .int 0, .int 0, .int 0, .int 0]) (rest := []) C Z hP hS (0) (cM_isWordB l E u31 hb45.1 111 114 0 0 0 0 0 0) vb_X12_isWord tw_5_77 ⟨rfl, rfl⟩ ⟨Nat.le_of_ble_eq_true rfl, Nat.le_of_ble_eq_true rfl⟩ (by decide) rfl rfl rfl rfl hl.1 rfl (Nat.le_of_ble_eq_true rfl) dX12_either5_16 ⟨Nat.zero_le _, Nat.zero_le _⟩ (fun r49 u50 H locs q51 hP hS => ?_)
              obtain ⟨rfl, q51u⟩ := q51
              rw [q51u] at hP; clear q51u
              refine lv_if_eq (tgt := 48) C.1 C.2.1 dX12_either5_19 (by decide) (fun c52 => ?_) (fun c52 => ?_)
              · refine lv_iload_n C.1 C.2.1 dX12_either5_48 rfl (lv_at hl 0 rfl) ?_
                exact mw_iret C hr hlk Z hP hS dX12_either5_49 (⟨((f2.tr f29).tr f36), by rw [hR, gLoop_f (by simp only [gTim, gAdd, gAnd, gOr, beq_iff_eq, Bool.or_eq_true]; omega) (by rw [e27]; exact hg33)]; exact hb45⟩)
              · exact absurd c52 (by decide)
            · refine lv_iload_n C.1 C.2.1 dX12_either5_35 rfl (lv_at hl 0 rfl) ?_
              refine lv_if_eq (tgt := 43) C.1 C.2.1 dX12_either5_36 (by decide) (fun c53 => ?_) (fun c53 => ?_)
              · refine lv_iconst (v := 0) C.1 C.2.1 dX12_either5_43 (by decide) ?_
                refine lv_istore_n (lv' := [(1, .int 0), (2, .int r30), (0, .ref (mw_a E 0))]) C.1 C.2.1 dX12_either5_44 rfl hl (by decide) rfl (fun ls hl => ?_)
                refine lv_goto (tgt := 5) C.1 C.2.1 dX12_either5_45 (by decide) ?_
                refine lv_aload_n C.1 C.2.1 dX12_either5_5 rfl (lv_at hl 2 rfl) ?_
                refine lv_bipush (v := 111) C.1 C.2.1 dX12_either5_6 (by decide) ?_
                refine lv_bipush (v := 114) C.1 C.2.1 dX12_either5_8 (by decide) ?_
                refine lv_iconst (v := 0) C.1 C.2.1 dX12_either5_10 (by decide) ?_
                refine lv_iconst (v := 0) C.1 C.2.1 dX12_either5_11 (by decide) ?_
                refine lv_iconst (v := 0) C.1 C.2.1 dX12_either5_12 (by decide) ?_
                refine lv_iconst (v := 0) C.1 C.2.1 dX12_either5_13 (by decide) ?_
                refine lv_iconst (v := 0) C.1 C.2.1 dX12_either5_14 (by decide) ?_
                refine lv_iconst (v := 0) C.1 C.2.1 dX12_either5_15 (by decide) ?_
                refine mw_cVi (As := [.int 111, .int 114, .int 0, .int 0, .int 0, .int 0, .int 0, .int 0]) (rest := []) C Z hP hS (0) (cM_isWordB l E u31 hb45.1 111 114 0 0 0 0 0 0) vb_X12_isWord tw_5_77 ⟨rfl, rfl⟩ ⟨Nat.le_of_ble_eq_true rfl, Nat.le_of_ble_eq_true rfl⟩ (by decide) rfl rfl rfl rfl hl.1 rfl (Nat.le_of_ble_eq_true rfl) dX12_either5_16 ⟨Nat.zero_le _, Nat.zero_le _⟩ (fun r54 u55 H locs q56 hP hS => ?_)
                obtain ⟨rfl, q56u⟩ := q56
                rw [q56u] at hP; clear q56u
                refine lv_if_eq (tgt := 48) C.1 C.2.1 dX12_either5_19 (by decide) (fun c57 => ?_) (fun c57 => ?_)
                · refine lv_iload_n C.1 C.2.1 dX12_either5_48 rfl (lv_at hl 0 rfl) ?_
                  exact mw_iret C hr hlk Z hP hS dX12_either5_49 (⟨((f2.tr f29).tr f36), by rw [hR, gLoop_f (by simp only [gTim, gAdd, gAnd, gOr, beq_iff_eq, Bool.or_eq_true]; omega) (by rw [e27]; exact hg33)]; exact hb45⟩)
                · exact absurd c57 (by decide)
              · refine lv_iconst (v := 1) C.1 C.2.1 dX12_either5_39 (by decide) ?_
                refine lv_goto (tgt := 44) C.1 C.2.1 dX12_either5_40 (by decide) ?_
                refine lv_istore_n (lv' := [(1, .int 1), (2, .int r30), (0, .ref (mw_a E 0))]) C.1 C.2.1 dX12_either5_44 rfl hl (by decide) rfl (fun ls hl => ?_)
                refine lv_goto (tgt := 5) C.1 C.2.1 dX12_either5_45 (by decide) ?_
                refine lv_aload_n C.1 C.2.1 dX12_either5_5 rfl (lv_at hl 2 rfl) ?_
                refine lv_bipush (v := 111) C.1 C.2.1 dX12_either5_6 (by decide) ?_
                refine lv_bipush (v := 114) C.1 C.2.1 dX12_either5_8 (by decide) ?_
                refine lv_iconst (v := 0) C.1 C.2.1 dX12_either5_10 (by decide) ?_
                refine lv_iconst (v := 0) C.1 C.2.1 dX12_either5_11 (by decide) ?_
                refine lv_iconst (v := 0) C.1 C.2.1 dX12_either5_12 (by decide) ?_
                refine lv_iconst (v := 0) C.1 C.2.1 dX12_either5_13 (by decide) ?_
                refine lv_iconst (v := 0) C.1 C.2.1 dX12_either5_14 (by decide) ?_
                refine lv_iconst (v := 0) C.1 C.2.1 dX12_either5_15 (by decide) ?_
                refine mw_cVi (As := [.int 111, .int 114, .int 0, .int 0, .int 0, .int 0, .int 0, .int 0]) (rest := []) C Z hP hS (0) (cM_isWordB l E u31 hb45.1 111 114 0 0 0 0 0 0) vb_X12_isWord tw_5_77 ⟨rfl, rfl⟩ ⟨Nat.le_of_ble_eq_true rfl, Nat.le_of_ble_eq_true rfl⟩ (by decide) rfl rfl rfl rfl hl.1 rfl (Nat.le_of_ble_eq_true rfl) dX12_either5_16 ⟨Nat.zero_le _, Nat.zero_le _⟩ (fun r58 u59 H locs q60 hP hS => ?_)
                obtain ⟨rfl, q60u⟩ := q60
                rw [q60u] at hP; clear q60u
                refine lv_if_eq (tgt := 48) C.1 C.2.1 dX12_either5_19 (by decide) (fun c61 => ?_) (fun c61 => ?_)
                · refine lv_iload_n C.1 C.2.1 dX12_either5_48 rfl (lv_at hl 0 rfl) ?_
                  exact mw_iret C hr hlk Z hP hS dX12_either5_49 (⟨((f2.tr f29).tr f36), by rw [hR, gLoop_f (by simp only [gTim, gAdd, gAnd, gOr, beq_iff_eq, Bool.or_eq_true]; omega) (by rw [e27]; exact hg33)]; exact hb45⟩)
                · exact absurd c61 (by decide)
    exact lp (ts12.length + 1) cs8 k10 p11 ts12 r1 u2 _ _ (Nat.le_refl _) h14 ((mFp.rf σ).tr f7) v15 (by rw [gE_0, gLevel_I hg4, e13]; rfl) hP hS ls (lv_sub hl [1, 0] rfl)
  · rw [hg4] at q3
    obtain ⟨f7, hb16⟩ := q3
    refine lv_istore_n (lv' := [(1, .int r1), (0, .ref (mw_a E 0))]) C.1 C.2.1 dX12_either5_4 rfl hl (by decide) rfl (fun ls hl => ?_)
    refine lv_aload_n C.1 C.2.1 dX12_either5_5 rfl (lv_at hl 1 rfl) ?_
    refine lv_bipush (v := 111) C.1 C.2.1 dX12_either5_6 (by decide) ?_
    refine lv_bipush (v := 114) C.1 C.2.1 dX12_either5_8 (by decide) ?_
    refine lv_iconst (v := 0) C.1 C.2.1 dX12_either5_10 (by decide) ?_
    refine lv_iconst (v := 0) C.1 C.2.1 dX12_either5_11 (by decide) ?_
    refine lv_iconst (v := 0) C.1 C.2.1 dX12_either5_12 (by decide) ?_
    refine lv_iconst (v := 0) C.1 C.2.1 dX12_either5_13 (by decide) ?_
    refine lv_iconst (v := 0) C.1 C.2.1 dX12_either5_14 (by decide) ?_
    refine lv_iconst (v := 0) C.1 C.2.1 dX12_either5_15 (by decide) ?_
    refine mw_cVi (As := [.int 111, .int 114, .int 0, .int 0, .int 0, .int 0, .int 0, .int 0]) (rest := []) C Z hP hS (0) (cM_isWordB l E u2 hb16.1 111 114 0 0 0 0 0 0) vb_X12_isWord tw_5_77 ⟨rfl, rfl⟩ ⟨Nat.le_of_ble_eq_true rfl, Nat.le_of_ble_eq_true rfl⟩ (by decide) rfl rfl rfl rfl hl.1 rfl (Nat.le_of_ble_eq_true rfl) dX12_either5_16 ⟨Nat.zero_le _, Nat.zero_le _⟩ (fun r62 u63 H locs q64 hP hS => ?_)
    obtain ⟨rfl, q64u⟩ := q64
    rw [q64u] at hP; clear q64u
    refine lv_if_eq (tgt := 48) C.1 C.2.1 dX12_either5_19 (by decide) (fun c65 => ?_) (fun c65 => ?_)
    · refine lv_iload_n C.1 C.2.1 dX12_either5_48 rfl (lv_at hl 0 rfl) ?_
      exact mw_iret C hr hlk Z hP hS dX12_either5_49 (⟨((mFp.rf σ).tr f7), by rw [gE_0, gLevel_F hg4]; exact hb16⟩)
    · exact absurd c65 (by decide)

set_option maxHeartbeats 4000000 in
set_option maxRecDepth 100000 in
theorem cM_atom4 (l : Launch) (E : mw_E) (σ : mw_M) (t n : Nat) (bs : Nat → Int32) (k p : Nat) (ts : List (Nat × Nat)) (h : mPS σ t n bs k p ts 4) : mw_Ci shM 13 gM l yX12_atom4 cX12_atom4 2 (some .int) (rmF 10 223) E [.ref (mw_a E 0)] σ (fun r u => mOK σ u t n bs 4 r ((gD 1).1 ((k, p) :: ts))) := by
  refine mw_of (by decide) gM_ok (Nat.le_of_ble_eq_true rfl) ?_
  intro p_ e_ s_ m_ below meth c_ C hr hlk Z hP ls hl
  have C : CallFix p_ m_ c_ cX12_atom4 2 s_ _ lw_good RX12 := C
  have hl : lv_has ls 2 [(0, .ref (mw_a E 0))] := hl
  have hS : va_S (mw_A 13 E) s_.heap s_.heap [] := va_S.rf
  refine lv_iconst (v := 0) C.1 C.2.1 dX12_atom4_0 (by decide) ?_
  refine lv_istore_n (lv' := [(1, .int 0), (0, .ref (mw_a E 0))]) C.1 C.2.1 dX12_atom4_1 rfl hl (by decide) rfl (fun ls hl => ?_)
  refine lv_aload_n C.1 C.2.1 dX12_atom4_2 rfl (lv_at hl 1 rfl) ?_
  refine lv_bipush (v := 45) C.1 C.2.1 dX12_atom4_3 (by decide) ?_
  refine mw_cVi (As := [.int 45]) (rest := []) C Z hP hS (0) (cM_isSignP l E σ t n bs k p ts 4 h 4 (by decide)) vb_X12_isSign tw_5_141 ⟨rfl, rfl⟩ ⟨Nat.le_of_ble_eq_true rfl, Nat.le_of_ble_eq_true rfl⟩ (by decide) rfl rfl rfl rfl hl.1 rfl (Nat.le_of_ble_eq_true rfl) dX12_atom4_5 ⟨Nat.zero_le _, Nat.zero_le _⟩ (fun r1 u2 H locs q3 hP hS => ?_)
  obtain ⟨rfl, q3u⟩ := q3
  rw [q3u] at hP; clear q3u
  refine lv_if_eq (tgt := 37) C.1 C.2.1 dX12_atom4_8 (by decide) (fun c4 => ?_) (fun c4 => ?_)
  · have c4 := bI_0.mp c4
    refine lv_aload_n C.1 C.2.1 dX12_atom4_37 rfl (lv_at hl 1 rfl) ?_
    refine lv_bipush (v := 40) C.1 C.2.1 dX12_atom4_38 (by decide) ?_
    refine mw_cVi (As := [.int 40]) (rest := []) C Z hP hS (0) (cM_isSignP l E σ t n bs k p ts 4 h 0 (by decide)) vb_X12_isSign tw_5_141 ⟨rfl, rfl⟩ ⟨Nat.le_of_ble_eq_true rfl, Nat.le_of_ble_eq_true rfl⟩ (by decide) rfl rfl rfl rfl hl.1 rfl (Nat.le_of_ble_eq_true rfl) dX12_atom4_40 ⟨Nat.zero_le _, Nat.zero_le _⟩ (fun r5 u6 H locs q7 hP hS => ?_)
    obtain ⟨rfl, q7u⟩ := q7
    rw [q7u] at hP; clear q7u
    refine lv_if_eq (tgt := 95) C.1 C.2.1 dX12_atom4_43 (by decide) (fun c8 => ?_) (fun c8 => ?_)
    · have c8 := bI_0.mp c8
      refine lv_aload_n C.1 C.2.1 dX12_atom4_95 rfl (lv_at hl 1 rfl) ?_
      refine mw_geti C Z hP (0) 24 (by decide) rfl rfl rfl (by decide) inX12 tw_4_188 dX12_atom4_96 ?_
      refine mw_top (y := 0) (h.2.1) ?_
      refine lv_if_ne (tgt := 123) C.1 C.2.1 dX12_atom4_99 (by decide) (fun c9 => ?_) (fun c9 => ?_)
      · exact absurd c9 (by decide)
      · refine lv_aload_n C.1 C.2.1 dX12_atom4_102 rfl (lv_at hl 1 rfl) ?_
        refine mw_geti C Z hP (0) 20 (by decide) rfl rfl rfl (by decide) inX12 tw_4_184 dX12_atom4_103 ?_
        refine lv_iconst (v := 2) C.1 C.2.1 dX12_atom4_106 (by decide) ?_
        refine lv_icmp_ne (tgt := 123) C.1 C.2.1 dX12_atom4_107 (by decide) (fun c10 => ?_) (fun c10 => ?_)
        · have hnn : ¬ 100 ≤ k := fun y => c10 (h.2.2.2.1.2.2.2.1.mpr y)
          refine lv_aload_n C.1 C.2.1 dX12_atom4_123 rfl (lv_at hl 1 rfl) ?_
          refine mw_geti C Z hP (0) 24 (by decide) rfl rfl rfl (by decide) inX12 tw_4_188 dX12_atom4_124 ?_
          refine mw_top (y := 0) (h.2.1) ?_
          refine lv_if_ne (tgt := 157) C.1 C.2.1 dX12_atom4_127 (by decide) (fun c11 => ?_) (fun c11 => ?_)
          · exact absurd c11 (by decide)
          · refine lv_aload_n C.1 C.2.1 dX12_atom4_130 rfl (lv_at hl 1 rfl) ?_
            refine mw_geti C Z hP (0) 20 (by decide) rfl rfl rfl (by decide) inX12 tw_4_184 dX12_atom4_131 ?_
            refine lv_iconst (v := 1) C.1 C.2.1 dX12_atom4_134 (by decide) ?_
            refine lv_icmp_ne (tgt := 157) C.1 C.2.1 dX12_atom4_135 (by decide) (fun c12 => ?_) (fun c12 => ?_)
            · have hnw : ¬ k ≤ 5 := fun y => c12 (h.2.2.2.2.2.2.1 (by omega))
              refine lv_aload_n C.1 C.2.1 dX12_atom4_157 rfl (lv_at hl 1 rfl) ?_
              refine mw_cVv (As := []) (rest := []) C Z hP hS (0) (cM_failP l E σ t n bs k p ts 4 h) vb_X12_fail tw_5_89 ⟨rfl, rfl⟩ ⟨Nat.le_of_ble_eq_true rfl, Nat.le_of_ble_eq_true rfl⟩ (by decide) rfl rfl rfl rfl hl.1 rfl (Nat.le_of_ble_eq_true rfl) dX12_atom4_158 ⟨Nat.zero_le _, Nat.zero_le _⟩ (fun u14 H locs q15 hP hS => ?_)
              obtain ⟨hb16, f17⟩ := q15
              refine lv_iload_n C.1 C.2.1 dX12_atom4_161 rfl (lv_at hl 0 rfl) ?_
              exact mw_iret C hr hlk Z hP hS dX12_atom4_162 (⟨((mFp.rf σ).tr f17), by rw [gA_1, gAt_bad (fun y => y.elim hnw hnn) (by omega) (by omega)]; exact hb16⟩)
            · have hk21 : k ≠ 21 := fun y => by have z := h.2.2.2.1.2.2.1.mpr y; rw [c12] at z; exact absurd z (by decide)
              refine lv_aload_n C.1 C.2.1 dX12_atom4_138 rfl (lv_at hl 1 rfl) ?_
              refine mw_cVi (As := []) (rest := []) C Z hP hS (0) (cM_name l E σ t n bs k p ts 4 h) vb_X12_name tw_5_145 ⟨rfl, rfl⟩ ⟨Nat.le_of_ble_eq_true rfl, Nat.le_of_ble_eq_true rfl⟩ (by decide) rfl rfl rfl rfl hl.1 rfl (Nat.le_of_ble_eq_true rfl) dX12_atom4_139 ⟨Nat.zero_le _, Nat.zero_le _⟩ (fun r18 u19 H locs q20 hP hS => ?_)
              obtain ⟨f25, ⟨z21, z22, z23⟩ | ⟨z21, hb24⟩⟩ := q20
              · rw [z22] at hP; clear z22
                refine lv_istore_n (lv' := [(1, .int r18), (0, .ref (mw_a E 0))]) C.1 C.2.1 dX12_atom4_142 rfl hl (by decide) rfl (fun ls hl => ?_)
                refine lv_aload_n C.1 C.2.1 dX12_atom4_143 rfl (lv_at hl 1 rfl) ?_
                refine mw_geti C Z hP (0) 24 (by decide) rfl rfl rfl (by decide) inX12 tw_4_188 dX12_atom4_144 ?_
                refine mw_top (y := 0) (h.2.1) ?_
                refine lv_if_ne (tgt := 161) C.1 C.2.1 dX12_atom4_147 (by decide) (fun c26 => ?_) (fun c26 => ?_)
                · exact absurd c26 (by decide)
                · refine lv_aload_n C.1 C.2.1 dX12_atom4_150 rfl (lv_at hl 1 rfl) ?_
                  refine mw_cVv (As := []) (rest := []) C Z hP hS (0) (cM_nextP l E σ t n bs k p ts 4 h (by omega) (by omega)) vb_X12_next tw_5_64 ⟨rfl, rfl⟩ ⟨Nat.le_of_ble_eq_true rfl, Nat.le_of_ble_eq_true rfl⟩ (by decide) rfl rfl rfl rfl hl.1 rfl (Nat.le_of_ble_eq_true rfl) dX12_atom4_151 ⟨Nat.zero_le _, Nat.zero_le _⟩ (fun u28 H locs q29 hP hS => ?_)
                  obtain ⟨⟨k30, p31, ts32, e33, h34⟩, f35⟩ := q29
                  refine lv_goto (tgt := 161) C.1 C.2.1 dX12_atom4_154 (by decide) ?_
                  refine lv_iload_n C.1 C.2.1 dX12_atom4_161 rfl (lv_at hl 0 rfl) ?_
                  exact mw_iret C hr hlk Z hP hS dX12_atom4_162 (⟨((mFp.rf σ).tr f35), by rw [gA_1, gAt_one (Or.inl z21)]; exact ⟨⟨k30, p31, ts32, e33, h34⟩, by rw [z23]; exact ruV_nm z21⟩⟩)
              · refine lv_istore_n (lv' := [(1, .int r18), (0, .ref (mw_a E 0))]) C.1 C.2.1 dX12_atom4_142 rfl hl (by decide) rfl (fun ls hl => ?_)
                refine lv_aload_n C.1 C.2.1 dX12_atom4_143 rfl (lv_at hl 1 rfl) ?_
                refine mw_geti C Z hP (0) 24 (by decide) rfl rfl rfl (by decide) inX12 tw_4_188 dX12_atom4_144 ?_
                refine mw_top (y := 1) (hb24.1) ?_
                refine lv_if_ne (tgt := 161) C.1 C.2.1 dX12_atom4_147 (by decide) (fun c36 => ?_) (fun c36 => ?_)
                · refine lv_iload_n C.1 C.2.1 dX12_atom4_161 rfl (lv_at hl 0 rfl) ?_
                  exact mw_iret C hr hlk Z hP hS dX12_atom4_162 (⟨((mFp.rf σ).tr f25), by rw [gA_1, gAt_bad (fun y => y.elim (fun y => z21 y) hnn) (by omega) (by omega)]; exact hb24⟩)
                · exact absurd c36 (by decide)
        · have hnum : 100 ≤ k := h.2.2.2.1.2.2.2.1.mp c10
          have hval : nI (k - 100) = (σ.2.2 0 22).toInt32 := by rw [(h.2.2.2.1.2.2.2.2 hnum).1, lN_i]
          refine lv_aload_n C.1 C.2.1 dX12_atom4_110 rfl (lv_at hl 1 rfl) ?_
          refine mw_getl C Z hP (0) 22 (by decide) rfl rfl rfl (by decide) inX12 tw_4_186 dX12_atom4_111 ?_
          refine lv_l2i C.1 C.2.1 dX12_atom4_114 rfl ?_
          refine lv_istore_n (lv' := [(1, .int ((σ.2.2 0 22).toInt32)), (0, .ref (mw_a E 0))]) C.1 C.2.1 dX12_atom4_115 rfl hl (by decide) rfl (fun ls hl => ?_)
          refine lv_aload_n C.1 C.2.1 dX12_atom4_116 rfl (lv_at hl 1 rfl) ?_
          refine mw_cVv (As := []) (rest := []) C Z hP hS (0) (cM_nextP l E σ t n bs k p ts 4 h (by omega) (by omega)) vb_X12_next tw_5_64 ⟨rfl, rfl⟩ ⟨Nat.le_of_ble_eq_true rfl, Nat.le_of_ble_eq_true rfl⟩ (by decide) rfl rfl rfl rfl hl.1 rfl (Nat.le_of_ble_eq_true rfl) dX12_atom4_117 ⟨Nat.zero_le _, Nat.zero_le _⟩ (fun u38 H locs q39 hP hS => ?_)
          obtain ⟨⟨k40, p41, ts42, e43, h44⟩, f45⟩ := q39
          refine lv_goto (tgt := 161) C.1 C.2.1 dX12_atom4_120 (by decide) ?_
          refine lv_iload_n C.1 C.2.1 dX12_atom4_161 rfl (lv_at hl 0 rfl) ?_
          exact mw_iret C hr hlk Z hP hS dX12_atom4_162 (⟨((mFp.rf σ).tr f45), by rw [gA_1, gAt_one (Or.inr hnum)]; exact ⟨⟨k40, p41, ts42, e43, h44⟩, hval ▸ ruV_nu hnum⟩⟩)
    · have c8 := bI_n.mp c8
      refine lv_aload_n C.1 C.2.1 dX12_atom4_46 rfl (lv_at hl 1 rfl) ?_
      refine mw_cVi (As := []) (rest := []) C Z hP hS (0) (cM_opens l E σ t n bs k p ts 4 (by decide) h (by omega) (by omega)) vb_X12_opens tw_5_105 ⟨rfl, rfl⟩ ⟨Nat.le_of_ble_eq_true rfl, Nat.le_of_ble_eq_true rfl⟩ (by decide) rfl rfl rfl rfl hl.1 rfl (Nat.le_of_ble_eq_true rfl) dX12_atom4_47 ⟨Nat.zero_le _, Nat.zero_le _⟩ (fun r46 u47 H locs q48 hP hS => ?_)
      obtain ⟨rfl, ⟨k49, p50, ts51, e52, h53⟩, f54⟩ := q48
      refine lv_if_eq (tgt := 161) C.1 C.2.1 dX12_atom4_50 (by decide) (fun c55 => ?_) (fun c55 => ?_)
      · exact absurd c55 (by decide)
      · refine lv_aload_n C.1 C.2.1 dX12_atom4_53 rfl (lv_at hl 1 rfl) ?_
        refine mw_cVi (As := []) (rest := []) C Z hP hS (0) (cM_either5 l E u47 t n bs k49 p50 ts51 h53) vb_X12_either5 tw_5_163 ⟨rfl, rfl⟩ ⟨Nat.le_of_ble_eq_true rfl, Nat.le_of_ble_eq_true rfl⟩ (by decide) rfl rfl rfl rfl hl.1 rfl (Nat.le_of_ble_eq_true rfl) dX12_atom4_54 ⟨Nat.zero_le _, Nat.zero_le _⟩ (fun r56 u57 H locs q58 hP hS => ?_)
        rcases hg59 : ((gD 0).2.2) ((k49, p50) :: ts51) with zz60 | qq61
        · obtain ⟨cs63, ts64⟩ := zz60
          rw [hg59] at q58
          obtain ⟨f62, ⟨k65, p66, ts67, e68, h69⟩, v70⟩ := q58
          have v70 := ((mFp.rf σ).tr f54).evv v70
          refine lv_istore_n (lv' := [(1, .int r56), (0, .ref (mw_a E 0))]) C.1 C.2.1 dX12_atom4_57 rfl hl (by decide) rfl (fun ls hl => ?_)
          refine lv_aload_n C.1 C.2.1 dX12_atom4_58 rfl (lv_at hl 1 rfl) ?_
          refine lv_bipush (v := 41) C.1 C.2.1 dX12_atom4_59 (by decide) ?_
          refine mw_cVi (As := [.int 41]) (rest := []) C Z hP hS (0) (cM_isSignP l E u57 t n bs k65 p66 ts67 5 h69 1 (by decide)) vb_X12_isSign tw_5_141 ⟨rfl, rfl⟩ ⟨Nat.le_of_ble_eq_true rfl, Nat.le_of_ble_eq_true rfl⟩ (by decide) rfl rfl rfl rfl hl.1 rfl (Nat.le_of_ble_eq_true rfl) dX12_atom4_61 ⟨Nat.zero_le _, Nat.zero_le _⟩ (fun r72 u73 H locs q74 hP hS => ?_)
          obtain ⟨rfl, q74u⟩ := q74
          rw [q74u] at hP; clear q74u
          refine lv_if_ne (tgt := 71) C.1 C.2.1 dX12_atom4_64 (by decide) (fun c75 => ?_) (fun c75 => ?_)
          · have c75 := bI_n.mp c75
            refine lv_aload_n C.1 C.2.1 dX12_atom4_71 rfl (lv_at hl 1 rfl) ?_
            refine lv_dup C.1 C.2.1 dX12_atom4_72 rfl ?_
            refine mw_geti C Z hP (0) 23 (by decide) rfl rfl rfl (by decide) inX12 tw_4_187 dX12_atom4_73 ?_
            refine mw_top (y := nI 5) (h69.2.2.1) ?_
            refine lv_iconst (v := 1) C.1 C.2.1 dX12_atom4_76 (by decide) ?_
            refine lv_isub C.1 C.2.1 dX12_atom4_77 ?_
            refine mw_top (y := nI 4) (by decide) ?_
            refine mw_puti C Z hP hS (0) 23 (by decide) rfl rfl rfl (by decide) inX12 tyX12 tyX12_ok nmX12 rfl tw_4_187 rfl rfl dX12_atom4_78 (fun H locs hP hS => ?_)
            have h76 : mPS (mw_si u57 0 23 (nI 4)) t n bs k65 p66 ts67 4 := ⟨h69.1, h69.2.1, rfl, h69.2.2.2⟩
            refine lv_aload_n C.1 C.2.1 dX12_atom4_81 rfl (lv_at hl 1 rfl) ?_
            refine mw_geti C Z hP (0) 24 (by decide) rfl rfl rfl (by decide) inX12 tw_4_188 dX12_atom4_82 ?_
            refine mw_top (y := 0) (h69.2.1) ?_
            refine lv_if_ne (tgt := 161) C.1 C.2.1 dX12_atom4_85 (by decide) (fun c77 => ?_) (fun c77 => ?_)
            · exact absurd c77 (by decide)
            · refine lv_aload_n C.1 C.2.1 dX12_atom4_88 rfl (lv_at hl 1 rfl) ?_
              refine mw_cVv (As := []) (rest := []) C Z hP hS (0) (cM_nextP l E (mw_si u57 0 23 (nI 4)) t n bs k65 p66 ts67 4 h76 (by omega) (by omega)) vb_X12_next tw_5_64 ⟨rfl, rfl⟩ ⟨Nat.le_of_ble_eq_true rfl, Nat.le_of_ble_eq_true rfl⟩ (by decide) rfl rfl rfl rfl hl.1 rfl (Nat.le_of_ble_eq_true rfl) dX12_atom4_89 ⟨Nat.zero_le _, Nat.zero_le _⟩ (fun u79 H locs q80 hP hS => ?_)
              obtain ⟨⟨k81, p82, ts83, e84, h85⟩, f86⟩ := q80
              refine lv_goto (tgt := 161) C.1 C.2.1 dX12_atom4_92 (by decide) ?_
              refine lv_iload_n C.1 C.2.1 dX12_atom4_161 rfl (lv_at hl 0 rfl) ?_
              exact mw_iret C hr hlk Z hP hS dX12_atom4_162 (⟨(((((mFp.rf σ).tr f54).tr f62).si (by decide) _).tr f86), by rw [gA_1, gAt_parI (f := (_, _)) (by omega : k = 12) (by rw [e52, ← e68]; exact hg59) (by omega : k65 = 13)]; exact ⟨⟨k81, p82, ts83, e84, h85⟩, v70⟩⟩)
          · have c75 := bI_0.mp c75
            refine lv_aload_n C.1 C.2.1 dX12_atom4_67 rfl (lv_at hl 1 rfl) ?_
            refine mw_cVv (As := []) (rest := []) C Z hP hS (0) (cM_failP l E u57 t n bs k65 p66 ts67 5 h69) vb_X12_fail tw_5_89 ⟨rfl, rfl⟩ ⟨Nat.le_of_ble_eq_true rfl, Nat.le_of_ble_eq_true rfl⟩ (by decide) rfl rfl rfl rfl hl.1 rfl (Nat.le_of_ble_eq_true rfl) dX12_atom4_68 ⟨Nat.zero_le _, Nat.zero_le _⟩ (fun u88 H locs q89 hP hS => ?_)
            obtain ⟨hb90, f91⟩ := q89
            refine lv_aload_n C.1 C.2.1 dX12_atom4_71 rfl (lv_at hl 1 rfl) ?_
            refine lv_dup C.1 C.2.1 dX12_atom4_72 rfl ?_
            refine mw_geti C Z hP (0) 23 (by decide) rfl rfl rfl (by decide) inX12 tw_4_187 dX12_atom4_73 ?_
            refine lv_iconst (v := 1) C.1 C.2.1 dX12_atom4_76 (by decide) ?_
            refine lv_isub C.1 C.2.1 dX12_atom4_77 ?_
            refine mw_puti C Z hP hS (0) 23 (by decide) rfl rfl rfl (by decide) inX12 tyX12 tyX12_ok nmX12 rfl tw_4_187 rfl rfl dX12_atom4_78 (fun H locs hP hS => ?_)
            have hb92 : mBd (mw_si u88 0 23 ((u88.1 0 23) - 1)) p66 := hb90
            refine lv_aload_n C.1 C.2.1 dX12_atom4_81 rfl (lv_at hl 1 rfl) ?_
            refine mw_geti C Z hP (0) 24 (by decide) rfl rfl rfl (by decide) inX12 tw_4_188 dX12_atom4_82 ?_
            refine mw_top (y := 1) (hb90.1) ?_
            refine lv_if_ne (tgt := 161) C.1 C.2.1 dX12_atom4_85 (by decide) (fun c93 => ?_) (fun c93 => ?_)
            · refine lv_iload_n C.1 C.2.1 dX12_atom4_161 rfl (lv_at hl 0 rfl) ?_
              exact mw_iret C hr hlk Z hP hS dX12_atom4_162 (⟨(((((mFp.rf σ).tr f54).tr f62).tr f91).si (by decide) _), by rw [gA_1, gAt_parX (f := (_, _)) (by omega : k = 12) (by rw [e52, ← e68]; exact hg59) (by omega : ¬ k65 = 13)]; exact hb92⟩)
            · exact absurd c93 (by decide)
        · rw [hg59] at q58
          obtain ⟨f62, hb71⟩ := q58
          refine lv_istore_n (lv' := [(1, .int r56), (0, .ref (mw_a E 0))]) C.1 C.2.1 dX12_atom4_57 rfl hl (by decide) rfl (fun ls hl => ?_)
          refine lv_aload_n C.1 C.2.1 dX12_atom4_58 rfl (lv_at hl 1 rfl) ?_
          refine lv_bipush (v := 41) C.1 C.2.1 dX12_atom4_59 (by decide) ?_
          refine mw_cVi (As := [.int 41]) (rest := []) C Z hP hS (0) (cM_isSignB l E u57 41 hb71.1) vb_X12_isSign tw_5_141 ⟨rfl, rfl⟩ ⟨Nat.le_of_ble_eq_true rfl, Nat.le_of_ble_eq_true rfl⟩ (by decide) rfl rfl rfl rfl hl.1 rfl (Nat.le_of_ble_eq_true rfl) dX12_atom4_61 ⟨Nat.zero_le _, Nat.zero_le _⟩ (fun r94 u95 H locs q96 hP hS => ?_)
          obtain ⟨rfl, q96u⟩ := q96
          rw [q96u] at hP; clear q96u
          refine lv_if_ne (tgt := 71) C.1 C.2.1 dX12_atom4_64 (by decide) (fun c97 => ?_) (fun c97 => ?_)
          · exact absurd c97 (by decide)
          · refine lv_aload_n C.1 C.2.1 dX12_atom4_67 rfl (lv_at hl 1 rfl) ?_
            refine mw_cVv (As := []) (rest := []) C Z hP hS (0) (cM_failB l E u57 hb71.1) vb_X12_fail tw_5_89 ⟨rfl, rfl⟩ ⟨Nat.le_of_ble_eq_true rfl, Nat.le_of_ble_eq_true rfl⟩ (by decide) rfl rfl rfl rfl hl.1 rfl (Nat.le_of_ble_eq_true rfl) dX12_atom4_68 ⟨Nat.zero_le _, Nat.zero_le _⟩ (fun u99 H locs q100 hP hS => ?_)
            rw [q100] at hP; clear q100
            refine lv_aload_n C.1 C.2.1 dX12_atom4_71 rfl (lv_at hl 1 rfl) ?_
            refine lv_dup C.1 C.2.1 dX12_atom4_72 rfl ?_
            refine mw_geti C Z hP (0) 23 (by decide) rfl rfl rfl (by decide) inX12 tw_4_187 dX12_atom4_73 ?_
            refine lv_iconst (v := 1) C.1 C.2.1 dX12_atom4_76 (by decide) ?_
            refine lv_isub C.1 C.2.1 dX12_atom4_77 ?_
            refine mw_puti C Z hP hS (0) 23 (by decide) rfl rfl rfl (by decide) inX12 tyX12 tyX12_ok nmX12 rfl tw_4_187 rfl rfl dX12_atom4_78 (fun H locs hP hS => ?_)
            have hb101 : mBd (mw_si u57 0 23 ((u57.1 0 23) - 1)) qq61 := hb71
            refine lv_aload_n C.1 C.2.1 dX12_atom4_81 rfl (lv_at hl 1 rfl) ?_
            refine mw_geti C Z hP (0) 24 (by decide) rfl rfl rfl (by decide) inX12 tw_4_188 dX12_atom4_82 ?_
            refine mw_top (y := 1) (hb71.1) ?_
            refine lv_if_ne (tgt := 161) C.1 C.2.1 dX12_atom4_85 (by decide) (fun c102 => ?_) (fun c102 => ?_)
            · refine lv_iload_n C.1 C.2.1 dX12_atom4_161 rfl (lv_at hl 0 rfl) ?_
              exact mw_iret C hr hlk Z hP hS dX12_atom4_162 (⟨((((mFp.rf σ).tr f54).tr f62).si (by decide) _), by rw [gA_1, gAt_parF (f := (_, _)) (by omega : k = 12) (by rw [e52]; exact hg59)]; exact hb101⟩)
            · exact absurd c102 (by decide)
  · have c4 := bI_n.mp c4
    refine lv_aload_n C.1 C.2.1 dX12_atom4_11 rfl (lv_at hl 1 rfl) ?_
    refine mw_cVi (As := []) (rest := []) C Z hP hS (0) (cM_opens l E σ t n bs k p ts 4 (by decide) h (by omega) (by omega)) vb_X12_opens tw_5_105 ⟨rfl, rfl⟩ ⟨Nat.le_of_ble_eq_true rfl, Nat.le_of_ble_eq_true rfl⟩ (by decide) rfl rfl rfl rfl hl.1 rfl (Nat.le_of_ble_eq_true rfl) dX12_atom4_12 ⟨Nat.zero_le _, Nat.zero_le _⟩ (fun r103 u104 H locs q105 hP hS => ?_)
    obtain ⟨rfl, ⟨k106, p107, ts108, e109, h110⟩, f111⟩ := q105
    refine lv_if_eq (tgt := 161) C.1 C.2.1 dX12_atom4_15 (by decide) (fun c112 => ?_) (fun c112 => ?_)
    · exact absurd c112 (by decide)
    · refine lv_aload_n C.1 C.2.1 dX12_atom4_18 rfl (lv_at hl 1 rfl) ?_
      refine mw_cVi (As := []) (rest := []) C Z hP hS (0) (cM_atom5 l E u104 t n bs k106 p107 ts108 h110) vb_X12_atom5 tw_5_137 ⟨rfl, rfl⟩ ⟨Nat.le_of_ble_eq_true rfl, Nat.le_of_ble_eq_true rfl⟩ (by decide) rfl rfl rfl rfl hl.1 rfl (Nat.le_of_ble_eq_true rfl) dX12_atom4_19 ⟨Nat.zero_le _, Nat.zero_le _⟩ (fun r113 u114 H locs q115 hP hS => ?_)
      rcases hg116 : ((gD 0).1) ((k106, p107) :: ts108) with zz117 | qq118
      · obtain ⟨cs120, ts121⟩ := zz117
        rw [hg116] at q115
        obtain ⟨f119, ⟨k122, p123, ts124, e125, h126⟩, v127⟩ := q115
        have v127 := ((mFp.rf σ).tr f111).evv v127
        refine lv_ineg C.1 C.2.1 dX12_atom4_22 ?_
        refine lv_istore_n (lv' := [(1, .int (-r113)), (0, .ref (mw_a E 0))]) C.1 C.2.1 dX12_atom4_23 rfl hl (by decide) rfl (fun ls hl => ?_)
        refine lv_aload_n C.1 C.2.1 dX12_atom4_24 rfl (lv_at hl 1 rfl) ?_
        refine lv_dup C.1 C.2.1 dX12_atom4_25 rfl ?_
        refine mw_geti C Z hP (0) 23 (by decide) rfl rfl rfl (by decide) inX12 tw_4_187 dX12_atom4_26 ?_
        refine mw_top (y := nI 5) (h126.2.2.1) ?_
        refine lv_iconst (v := 1) C.1 C.2.1 dX12_atom4_29 (by decide) ?_
        refine lv_isub C.1 C.2.1 dX12_atom4_30 ?_
        refine mw_top (y := nI 4) (by decide) ?_
        refine mw_puti C Z hP hS (0) 23 (by decide) rfl rfl rfl (by decide) inX12 tyX12 tyX12_ok nmX12 rfl tw_4_187 rfl rfl dX12_atom4_31 (fun H locs hP hS => ?_)
        have h129 : mPS (mw_si u114 0 23 (nI 4)) t n bs k122 p123 ts124 4 := ⟨h126.1, h126.2.1, rfl, h126.2.2.2⟩
        refine lv_goto (tgt := 161) C.1 C.2.1 dX12_atom4_34 (by decide) ?_
        refine lv_iload_n C.1 C.2.1 dX12_atom4_161 rfl (lv_at hl 0 rfl) ?_
        exact mw_iret C hr hlk Z hP hS dX12_atom4_162 (⟨((((mFp.rf σ).tr f111).tr f119).si (by decide) _), by rw [gA_1, gAt_negI (f := (_, _)) (by omega : k = 16) (by rw [e109]; exact hg116)]; exact ⟨⟨k122, p123, ts124, e125, h129⟩, ruV_neg v127⟩⟩)
      · rw [hg116] at q115
        obtain ⟨f119, hb128⟩ := q115
        refine lv_ineg C.1 C.2.1 dX12_atom4_22 ?_
        refine lv_istore_n (lv' := [(1, .int (-r113)), (0, .ref (mw_a E 0))]) C.1 C.2.1 dX12_atom4_23 rfl hl (by decide) rfl (fun ls hl => ?_)
        refine lv_aload_n C.1 C.2.1 dX12_atom4_24 rfl (lv_at hl 1 rfl) ?_
        refine lv_dup C.1 C.2.1 dX12_atom4_25 rfl ?_
        refine mw_geti C Z hP (0) 23 (by decide) rfl rfl rfl (by decide) inX12 tw_4_187 dX12_atom4_26 ?_
        refine lv_iconst (v := 1) C.1 C.2.1 dX12_atom4_29 (by decide) ?_
        refine lv_isub C.1 C.2.1 dX12_atom4_30 ?_
        refine mw_puti C Z hP hS (0) 23 (by decide) rfl rfl rfl (by decide) inX12 tyX12 tyX12_ok nmX12 rfl tw_4_187 rfl rfl dX12_atom4_31 (fun H locs hP hS => ?_)
        have hb130 : mBd (mw_si u114 0 23 ((u114.1 0 23) - 1)) qq118 := hb128
        refine lv_goto (tgt := 161) C.1 C.2.1 dX12_atom4_34 (by decide) ?_
        refine lv_iload_n C.1 C.2.1 dX12_atom4_161 rfl (lv_at hl 0 rfl) ?_
        exact mw_iret C hr hlk Z hP hS dX12_atom4_162 (⟨((((mFp.rf σ).tr f111).tr f119).si (by decide) _), by rw [gA_1, gAt_negF (f := (_, _)) (by omega : k = 16) (by rw [e109]; exact hg116)]; exact hb130⟩)

set_option maxHeartbeats 4000000 in
set_option maxRecDepth 100000 in
theorem cM_term4 (l : Launch) (E : mw_E) (σ : mw_M) (t n : Nat) (bs : Nat → Int32) (k p : Nat) (ts : List (Nat × Nat)) (h : mPS σ t n bs k p ts 4) : mw_Ci shM 13 gM l yX12_term4 cX12_term4 2 (some .int) (rmF 11 244) E [.ref (mw_a E 0)] σ (fun r u => mOK σ u t n bs 4 r (gLevel gTim (gD 1).1 ((k, p) :: ts))) := by
  refine mw_of (by decide) gM_ok (Nat.le_of_ble_eq_true rfl) ?_
  intro p_ e_ s_ m_ below meth c_ C hr hlk Z hP ls hl
  have C : CallFix p_ m_ c_ cX12_term4 2 s_ _ lw_good RX12 := C
  have hl : lv_has ls 2 [(0, .ref (mw_a E 0))] := hl
  have hS : va_S (mw_A 13 E) s_.heap s_.heap [] := va_S.rf
  refine lv_aload_n C.1 C.2.1 dX12_term4_0 rfl (lv_at hl 0 rfl) ?_
  refine mw_cVi (As := []) (rest := []) C Z hP hS (0) (cM_atom4 l E σ t n bs k p ts h) vb_X12_atom4 tw_5_159 ⟨rfl, rfl⟩ ⟨Nat.le_of_ble_eq_true rfl, Nat.le_of_ble_eq_true rfl⟩ (by decide) rfl rfl rfl rfl hl.1 rfl (Nat.le_of_ble_eq_true rfl) dX12_term4_1 ⟨Nat.zero_le _, Nat.zero_le _⟩ (fun r1 u2 H locs q3 hP hS => ?_)
  rcases hg4 : ((gD 1).1) ((k, p) :: ts) with zz5 | qq6
  · obtain ⟨cs8, ts9⟩ := zz5
    rw [hg4] at q3
    obtain ⟨f7, ⟨k10, p11, ts12, e13, h14⟩, v15⟩ := q3
    have v15 := (mFp.rf σ).evv v15
    refine lv_istore_n (lv' := [(1, .int r1), (0, .ref (mw_a E 0))]) C.1 C.2.1 dX12_term4_4 rfl hl (by decide) rfl (fun ls hl => ?_)
    have lp : ∀ (N : Nat) (cs : List Nat) (k2 p2 : Nat) (ts2 : List (Nat × Nat)) (v : Int32) (ς : mw_M) (H : Heap) (locs : List Loc), ts2.length + 1 ≤ N → mPS ς t n bs k2 p2 ts2 4 → mFp σ ς → ruV (mEv σ) cs v → gLevel gTim (gD 1).1 ((k, p) :: ts) = gLoop gTim ((gD 1).1) N cs ((k2, p2) :: ts2) → va_P (mw_D E) vwCl (mw_ws shM 13 E ς) H → va_S (mw_A 13 E) s_.heap H locs → ∀ (ls : Array Slot), lv_has ls 2 [(0, .ref (mw_a E 0)), (1, .int v)] → mWi p_ l e_ (rmF 11 244) s_ m_ [.ref (mw_a E 0)] below meth c_ E (fun r u => mOK σ u t n bs 4 r (gLevel gTim (gD 1).1 ((k, p) :: ts))) H locs (F0 m_ 5 ls []) := by
      intro N
      induction N with
      | zero => intro cs k2 p2 ts2 v ς H locs hN; exact absurd hN (by omega)
      | succ N ih =>
        intro cs k2 p2 ts2 v ς H locs hN h2 f2 hv hR hP hS ls hl
        refine lv_aload_n C.1 C.2.1 dX12_term4_5 rfl (lv_at hl 0 rfl) ?_
        refine lv_bipush (v := 42) C.1 C.2.1 dX12_term4_6 (by decide) ?_
        refine mw_cVi (As := [.int 42]) (rest := []) C Z hP hS (0) (cM_isSignP l E ς t n bs k2 p2 ts2 4 h2 5 (by decide)) vb_X12_isSign tw_5_141 ⟨rfl, rfl⟩ ⟨Nat.le_of_ble_eq_true rfl, Nat.le_of_ble_eq_true rfl⟩ (by decide) rfl rfl rfl rfl hl.1 rfl (Nat.le_of_ble_eq_true rfl) dX12_term4_8 ⟨Nat.zero_le _, Nat.zero_le _⟩ (fun r17 u18 H locs q19 hP hS => ?_)
        obtain ⟨rfl, q19u⟩ := q19
        rw [q19u] at hP; clear q19u
        refine lv_if_eq (tgt := 28) C.1 C.2.1 dX12_term4_11 (by decide) (fun c20 => ?_) (fun c20 => ?_)
        · have c20 := bI_0.mp c20
          refine lv_iload_n C.1 C.2.1 dX12_term4_28 rfl (lv_at hl 1 rfl) ?_
          exact mw_iret C hr hlk Z hP hS dX12_term4_29 (⟨f2, by rw [hR, gLoop_e (by simp only [gTim, gAdd, gAnd, gOr, beq_iff_eq, Bool.or_eq_true]; omega)]; exact ⟨⟨k2, p2, ts2, rfl, h2⟩, hv⟩⟩)
        · have c20 := bI_n.mp c20
          refine lv_aload_n C.1 C.2.1 dX12_term4_14 rfl (lv_at hl 0 rfl) ?_
          refine mw_cVv (As := []) (rest := []) C Z hP hS (0) (cM_nextP l E ς t n bs k2 p2 ts2 4 h2 (by omega) (by omega)) vb_X12_next tw_5_64 ⟨rfl, rfl⟩ ⟨Nat.le_of_ble_eq_true rfl, Nat.le_of_ble_eq_true rfl⟩ (by decide) rfl rfl rfl rfl hl.1 rfl (Nat.le_of_ble_eq_true rfl) dX12_term4_15 ⟨Nat.zero_le _, Nat.zero_le _⟩ (fun u22 H locs q23 hP hS => ?_)
          obtain ⟨⟨k24, p25, ts26, e27, h28⟩, f29⟩ := q23
          refine lv_iload_n C.1 C.2.1 dX12_term4_18 rfl (lv_at hl 1 rfl) ?_
          refine lv_aload_n C.1 C.2.1 dX12_term4_19 rfl (lv_at hl 0 rfl) ?_
          refine mw_cVi (As := []) (rest := [.int v]) C Z hP hS (0) (cM_atom4 l E u22 t n bs k24 p25 ts26 h28) vb_X12_atom4 tw_5_159 ⟨rfl, rfl⟩ ⟨Nat.le_of_ble_eq_true rfl, Nat.le_of_ble_eq_true rfl⟩ (by decide) rfl rfl rfl rfl hl.1 rfl (Nat.le_of_ble_eq_true rfl) dX12_term4_20 ⟨Nat.zero_le _, Nat.zero_le _⟩ (fun r30 u31 H locs q32 hP hS => ?_)
          rcases hg33 : ((gD 1).1) ((k24, p25) :: ts26) with zz34 | qq35
          · obtain ⟨cs37, ts38⟩ := zz34
            rw [hg33] at q32
            obtain ⟨f36, ⟨k39, p40, ts41, e42, h43⟩, v44⟩ := q32
            have v44 := (f2.tr f29).evv v44
            refine lv_imul C.1 C.2.1 dX12_term4_23 ?_
            refine lv_istore_n (lv' := [(1, .int (v * r30)), (0, .ref (mw_a E 0))]) C.1 C.2.1 dX12_term4_24 rfl hl (by decide) rfl (fun ls hl => ?_)
            refine lv_goto (tgt := 5) C.1 C.2.1 dX12_term4_25 (by decide) ?_
            exact ih (cs ++ cs37 ++ [k2]) k39 p40 ts41 (v * r30) u31 _ _ (by have d := (gD_dec 1).1 _ _ _ hg33; rw [e42, List.length_cons, List.length_cons] at d; rw [e27, List.length_cons] at hN; omega) h43 ((f2.tr f29).tr f36) (by have z := ruV_op (c := k2) hv v44 (by omega); rwa [show opF k2 v r30 = v * r30 by rw [c20]; rfl] at z) (by rw [hR, gLoop_s (by simp only [gTim, gAdd, gAnd, gOr, beq_iff_eq, Bool.or_eq_true]; omega) (by rw [e27]; exact hg33), e42]) hP hS ls (lv_sub hl [1, 0] rfl)
          · rw [hg33] at q32
            obtain ⟨f36, hb45⟩ := q32
            refine lv_imul C.1 C.2.1 dX12_term4_23 ?_
            refine lv_istore_n (lv' := [(1, .int (v * r30)), (0, .ref (mw_a E 0))]) C.1 C.2.1 dX12_term4_24 rfl hl (by decide) rfl (fun ls hl => ?_)
            refine lv_goto (tgt := 5) C.1 C.2.1 dX12_term4_25 (by decide) ?_
            refine lv_aload_n C.1 C.2.1 dX12_term4_5 rfl (lv_at hl 1 rfl) ?_
            refine lv_bipush (v := 42) C.1 C.2.1 dX12_term4_6 (by decide) ?_
            refine mw_cVi (As := [.int 42]) (rest := []) C Z hP hS (0) (cM_isSignB l E u31 42 hb45.1) vb_X12_isSign tw_5_141 ⟨rfl, rfl⟩ ⟨Nat.le_of_ble_eq_true rfl, Nat.le_of_ble_eq_true rfl⟩ (by decide) rfl rfl rfl rfl hl.1 rfl (Nat.le_of_ble_eq_true rfl) dX12_term4_8 ⟨Nat.zero_le _, Nat.zero_le _⟩ (fun r46 u47 H locs q48 hP hS => ?_)
            obtain ⟨rfl, q48u⟩ := q48
            rw [q48u] at hP; clear q48u
            refine lv_if_eq (tgt := 28) C.1 C.2.1 dX12_term4_11 (by decide) (fun c49 => ?_) (fun c49 => ?_)
            · refine lv_iload_n C.1 C.2.1 dX12_term4_28 rfl (lv_at hl 0 rfl) ?_
              exact mw_iret C hr hlk Z hP hS dX12_term4_29 (⟨((f2.tr f29).tr f36), by rw [hR, gLoop_f (by simp only [gTim, gAdd, gAnd, gOr, beq_iff_eq, Bool.or_eq_true]; omega) (by rw [e27]; exact hg33)]; exact hb45⟩)
            · exact absurd c49 (by decide)
    exact lp (ts12.length + 1) cs8 k10 p11 ts12 r1 u2 _ _ (Nat.le_refl _) h14 ((mFp.rf σ).tr f7) v15 (by rw [gLevel_I hg4, e13]; rfl) hP hS ls (lv_sub hl [1, 0] rfl)
  · rw [hg4] at q3
    obtain ⟨f7, hb16⟩ := q3
    refine lv_istore_n (lv' := [(1, .int r1), (0, .ref (mw_a E 0))]) C.1 C.2.1 dX12_term4_4 rfl hl (by decide) rfl (fun ls hl => ?_)
    refine lv_aload_n C.1 C.2.1 dX12_term4_5 rfl (lv_at hl 1 rfl) ?_
    refine lv_bipush (v := 42) C.1 C.2.1 dX12_term4_6 (by decide) ?_
    refine mw_cVi (As := [.int 42]) (rest := []) C Z hP hS (0) (cM_isSignB l E u2 42 hb16.1) vb_X12_isSign tw_5_141 ⟨rfl, rfl⟩ ⟨Nat.le_of_ble_eq_true rfl, Nat.le_of_ble_eq_true rfl⟩ (by decide) rfl rfl rfl rfl hl.1 rfl (Nat.le_of_ble_eq_true rfl) dX12_term4_8 ⟨Nat.zero_le _, Nat.zero_le _⟩ (fun r50 u51 H locs q52 hP hS => ?_)
    obtain ⟨rfl, q52u⟩ := q52
    rw [q52u] at hP; clear q52u
    refine lv_if_eq (tgt := 28) C.1 C.2.1 dX12_term4_11 (by decide) (fun c53 => ?_) (fun c53 => ?_)
    · refine lv_iload_n C.1 C.2.1 dX12_term4_28 rfl (lv_at hl 0 rfl) ?_
      exact mw_iret C hr hlk Z hP hS dX12_term4_29 (⟨((mFp.rf σ).tr f7), by rw [gLevel_F hg4]; exact hb16⟩)
    · exact absurd c53 (by decide)

set_option maxHeartbeats 4000000 in
set_option maxRecDepth 100000 in
theorem cM_added4 (l : Launch) (E : mw_E) (σ : mw_M) (t n : Nat) (bs : Nat → Int32) (k p : Nat) (ts : List (Nat × Nat)) (h : mPS σ t n bs k p ts 4) : mw_Ci shM 13 gM l yX12_added4 cX12_added4 4 (some .int) (rmF 12 265) E [.ref (mw_a E 0)] σ (fun r u => mOK σ u t n bs 4 r (gLevel gAdd (gLevel gTim (gD 1).1) ((k, p) :: ts))) := by
  refine mw_of (by decide) gM_ok (Nat.le_of_ble_eq_true rfl) ?_
  intro p_ e_ s_ m_ below meth c_ C hr hlk Z hP ls hl
  have C : CallFix p_ m_ c_ cX12_added4 4 s_ _ lw_good RX12 := C
  have hl : lv_has ls 4 [(0, .ref (mw_a E 0))] := hl
  have hS : va_S (mw_A 13 E) s_.heap s_.heap [] := va_S.rf
  refine lv_aload_n C.1 C.2.1 dX12_added4_0 rfl (lv_at hl 0 rfl) ?_
  refine mw_cVi (As := []) (rest := []) C Z hP hS (0) (cM_term4 l E σ t n bs k p ts h) vb_X12_term4 tw_5_155 ⟨rfl, rfl⟩ ⟨Nat.le_of_ble_eq_true rfl, Nat.le_of_ble_eq_true rfl⟩ (by decide) rfl rfl rfl rfl hl.1 rfl (Nat.le_of_ble_eq_true rfl) dX12_added4_1 ⟨Nat.zero_le _, Nat.zero_le _⟩ (fun r1 u2 H locs q3 hP hS => ?_)
  rcases hg4 : (gLevel gTim (gD 1).1) ((k, p) :: ts) with zz5 | qq6
  · obtain ⟨cs8, ts9⟩ := zz5
    rw [hg4] at q3
    obtain ⟨f7, ⟨k10, p11, ts12, e13, h14⟩, v15⟩ := q3
    have v15 := (mFp.rf σ).evv v15
    refine lv_istore_n (lv' := [(1, .int r1), (0, .ref (mw_a E 0))]) C.1 C.2.1 dX12_added4_4 rfl hl (by decide) rfl (fun ls hl => ?_)
    have lp : ∀ (N : Nat) (cs : List Nat) (k2 p2 : Nat) (ts2 : List (Nat × Nat)) (v : Int32) (ς : mw_M) (H : Heap) (locs : List Loc), ts2.length + 1 ≤ N → mPS ς t n bs k2 p2 ts2 4 → mFp σ ς → ruV (mEv σ) cs v → gLevel gAdd (gLevel gTim (gD 1).1) ((k, p) :: ts) = gLoop gAdd (gLevel gTim (gD 1).1) N cs ((k2, p2) :: ts2) → va_P (mw_D E) vwCl (mw_ws shM 13 E ς) H → va_S (mw_A 13 E) s_.heap H locs → ∀ (ls : Array Slot), lv_has ls 4 [(0, .ref (mw_a E 0)), (1, .int v)] → mWi p_ l e_ (rmF 12 265) s_ m_ [.ref (mw_a E 0)] below meth c_ E (fun r u => mOK σ u t n bs 4 r (gLevel gAdd (gLevel gTim (gD 1).1) ((k, p) :: ts))) H locs (F0 m_ 5 ls []) := by
      intro N
      induction N with
      | zero => intro cs k2 p2 ts2 v ς H locs hN; exact absurd hN (by omega)
      | succ N ih =>
        intro cs k2 p2 ts2 v ς H locs hN h2 f2 hv hR hP hS ls hl
        refine lv_aload_n C.1 C.2.1 dX12_added4_5 rfl (lv_at hl 0 rfl) ?_
        refine lv_bipush (v := 43) C.1 C.2.1 dX12_added4_6 (by decide) ?_
        refine mw_cVi (As := [.int 43]) (rest := []) C Z hP hS (0) (cM_isSignP l E ς t n bs k2 p2 ts2 4 h2 3 (by decide)) vb_X12_isSign tw_5_141 ⟨rfl, rfl⟩ ⟨Nat.le_of_ble_eq_true rfl, Nat.le_of_ble_eq_true rfl⟩ (by decide) rfl rfl rfl rfl hl.1 rfl (Nat.le_of_ble_eq_true rfl) dX12_added4_8 ⟨Nat.zero_le _, Nat.zero_le _⟩ (fun r17 u18 H locs q19 hP hS => ?_)
        obtain ⟨rfl, q19u⟩ := q19
        rw [q19u] at hP; clear q19u
        refine lv_if_ne (tgt := 23) C.1 C.2.1 dX12_added4_11 (by decide) (fun c20 => ?_) (fun c20 => ?_)
        · have c20 := bI_n.mp c20
          refine lv_aload_n C.1 C.2.1 dX12_added4_23 rfl (lv_at hl 0 rfl) ?_
          refine mw_getl C Z hP (0) 22 (by decide) rfl rfl rfl (by decide) inX12 tw_4_186 dX12_added4_24 ?_
          refine mw_topl (y := 43) (((h2.2.2.2.2.2.1 3 (by decide)).mpr c20).2) ?_
          refine lv_ldc2 (own := RX12) C.1 C.2.1 C.2.2.2.1 (C.2.2.2.2 _ tw_5_149) dX12_added4_27 ?_
          refine W.lcmp C.1 C.2.1 dX12_added4_30 ?_
          refine lv_if_ne (tgt := 38) C.1 C.2.1 dX12_added4_31 (by decide) (fun c21 => ?_) (fun c21 => ?_)
          · have c21 := (not_congr (lg_cmp_eq _ _)).mp c21
            exact absurd c21 (by decide)
          · have c21 := (lg_cmp_eq _ _).mp c21
            refine lv_iconst (v := 1) C.1 C.2.1 dX12_added4_34 (by decide) ?_
            refine lv_goto (tgt := 39) C.1 C.2.1 dX12_added4_35 (by decide) ?_
            refine lv_istore_n (lv' := [(2, .int 1), (0, .ref (mw_a E 0)), (1, .int v)]) C.1 C.2.1 dX12_added4_39 rfl hl (by decide) rfl (fun ls hl => ?_)
            refine lv_aload_n C.1 C.2.1 dX12_added4_40 rfl (lv_at hl 1 rfl) ?_
            refine mw_cVv (As := []) (rest := []) C Z hP hS (0) (cM_nextP l E ς t n bs k2 p2 ts2 4 h2 (by omega) (by omega)) vb_X12_next tw_5_64 ⟨rfl, rfl⟩ ⟨Nat.le_of_ble_eq_true rfl, Nat.le_of_ble_eq_true rfl⟩ (by decide) rfl rfl rfl rfl hl.1 rfl (Nat.le_of_ble_eq_true rfl) dX12_added4_41 ⟨Nat.zero_le _, Nat.zero_le _⟩ (fun u23 H locs q24 hP hS => ?_)
            obtain ⟨⟨k25, p26, ts27, e28, h29⟩, f30⟩ := q24
            refine lv_aload_n C.1 C.2.1 dX12_added4_44 rfl (lv_at hl 1 rfl) ?_
            refine mw_cVi (As := []) (rest := []) C Z hP hS (0) (cM_term4 l E u23 t n bs k25 p26 ts27 h29) vb_X12_term4 tw_5_155 ⟨rfl, rfl⟩ ⟨Nat.le_of_ble_eq_true rfl, Nat.le_of_ble_eq_true rfl⟩ (by decide) rfl rfl rfl rfl hl.1 rfl (Nat.le_of_ble_eq_true rfl) dX12_added4_45 ⟨Nat.zero_le _, Nat.zero_le _⟩ (fun r31 u32 H locs q33 hP hS => ?_)
            rcases hg34 : (gLevel gTim (gD 1).1) ((k25, p26) :: ts27) with zz35 | qq36
            · obtain ⟨cs38, ts39⟩ := zz35
              rw [hg34] at q33
              obtain ⟨f37, ⟨k40, p41, ts42, e43, h44⟩, v45⟩ := q33
              have v45 := (f2.tr f30).evv v45
              refine lv_istore_n (lv' := [(3, .int r31), (2, .int 1), (0, .ref (mw_a E 0)), (1, .int v)]) C.1 C.2.1 dX12_added4_48 rfl hl (by decide) rfl (fun ls hl => ?_)
              refine lv_iload_n C.1 C.2.1 dX12_added4_49 rfl (lv_at hl 1 rfl) ?_
              refine lv_if_eq (tgt := 59) C.1 C.2.1 dX12_added4_50 (by decide) (fun c47 => ?_) (fun c47 => ?_)
              · exact absurd c47 (by decide)
              · refine lv_iload_n C.1 C.2.1 dX12_added4_53 rfl (lv_at hl 3 rfl) ?_
                refine lv_iload_n C.1 C.2.1 dX12_added4_54 rfl (lv_at hl 0 rfl) ?_
                refine lv_iadd C.1 C.2.1 dX12_added4_55 ?_
                refine lv_goto (tgt := 62) C.1 C.2.1 dX12_added4_56 (by decide) ?_
                refine lv_istore_n (lv' := [(1, .int (v + r31)), (3, .int r31), (2, .int 1), (0, .ref (mw_a E 0))]) C.1 C.2.1 dX12_added4_62 rfl hl (by decide) rfl (fun ls hl => ?_)
                refine lv_goto (tgt := 5) C.1 C.2.1 dX12_added4_63 (by decide) ?_
                exact ih (cs ++ cs38 ++ [k2]) k40 p41 ts42 (v + r31) u32 _ _ (by have d := (gLevel_dec (gD_dec 1).1) _ _ _ hg34; rw [e43, List.length_cons, List.length_cons] at d; rw [e28, List.length_cons] at hN; omega) h44 ((f2.tr f30).tr f37) (by have z := ruV_op (c := k2) hv v45 (by omega); rwa [show opF k2 v r31 = v + r31 by rw [c20]; rfl] at z) (by rw [hR, gLoop_s (by simp only [gTim, gAdd, gAnd, gOr, beq_iff_eq, Bool.or_eq_true]; omega) (by rw [e28]; exact hg34), e43]) hP hS ls (lv_sub hl [3, 0] rfl)
            · rw [hg34] at q33
              obtain ⟨f37, hb46⟩ := q33
              refine lv_istore_n (lv' := [(3, .int r31), (2, .int 1), (0, .ref (mw_a E 0)), (1, .int v)]) C.1 C.2.1 dX12_added4_48 rfl hl (by decide) rfl (fun ls hl => ?_)
              refine lv_iload_n C.1 C.2.1 dX12_added4_49 rfl (lv_at hl 1 rfl) ?_
              refine lv_if_eq (tgt := 59) C.1 C.2.1 dX12_added4_50 (by decide) (fun c48 => ?_) (fun c48 => ?_)
              · exact absurd c48 (by decide)
              · refine lv_iload_n C.1 C.2.1 dX12_added4_53 rfl (lv_at hl 3 rfl) ?_
                refine lv_iload_n C.1 C.2.1 dX12_added4_54 rfl (lv_at hl 0 rfl) ?_
                refine lv_iadd C.1 C.2.1 dX12_added4_55 ?_
                refine lv_goto (tgt := 62) C.1 C.2.1 dX12_added4_56 (by decide) ?_
                refine lv_istore_n (lv' := [(1, .int (v + r31)), (3, .int r31), (2, .int 1), (0, .ref (mw_a E 0))]) C.1 C.2.1 dX12_added4_62 rfl hl (by decide) rfl (fun ls hl => ?_)
                refine lv_goto (tgt := 5) C.1 C.2.1 dX12_added4_63 (by decide) ?_
                refine lv_aload_n C.1 C.2.1 dX12_added4_5 rfl (lv_at hl 3 rfl) ?_
                refine lv_bipush (v := 43) C.1 C.2.1 dX12_added4_6 (by decide) ?_
                refine mw_cVi (As := [.int 43]) (rest := []) C Z hP hS (0) (cM_isSignB l E u32 43 hb46.1) vb_X12_isSign tw_5_141 ⟨rfl, rfl⟩ ⟨Nat.le_of_ble_eq_true rfl, Nat.le_of_ble_eq_true rfl⟩ (by decide) rfl rfl rfl rfl hl.1 rfl (Nat.le_of_ble_eq_true rfl) dX12_added4_8 ⟨Nat.zero_le _, Nat.zero_le _⟩ (fun r49 u50 H locs q51 hP hS => ?_)
                obtain ⟨rfl, q51u⟩ := q51
                rw [q51u] at hP; clear q51u
                refine lv_if_ne (tgt := 23) C.1 C.2.1 dX12_added4_11 (by decide) (fun c52 => ?_) (fun c52 => ?_)
                · exact absurd c52 (by decide)
                · refine lv_aload_n C.1 C.2.1 dX12_added4_14 rfl (lv_at hl 3 rfl) ?_
                  refine lv_bipush (v := 45) C.1 C.2.1 dX12_added4_15 (by decide) ?_
                  refine mw_cVi (As := [.int 45]) (rest := []) C Z hP hS (0) (cM_isSignB l E u32 45 hb46.1) vb_X12_isSign tw_5_141 ⟨rfl, rfl⟩ ⟨Nat.le_of_ble_eq_true rfl, Nat.le_of_ble_eq_true rfl⟩ (by decide) rfl rfl rfl rfl hl.1 rfl (Nat.le_of_ble_eq_true rfl) dX12_added4_17 ⟨Nat.zero_le _, Nat.zero_le _⟩ (fun r53 u54 H locs q55 hP hS => ?_)
                  obtain ⟨rfl, q55u⟩ := q55
                  rw [q55u] at hP; clear q55u
                  refine lv_if_eq (tgt := 66) C.1 C.2.1 dX12_added4_20 (by decide) (fun c56 => ?_) (fun c56 => ?_)
                  · refine lv_iload_n C.1 C.2.1 dX12_added4_66 rfl (lv_at hl 0 rfl) ?_
                    exact mw_iret C hr hlk Z hP hS dX12_added4_67 (⟨((f2.tr f30).tr f37), by rw [hR, gLoop_f (by simp only [gTim, gAdd, gAnd, gOr, beq_iff_eq, Bool.or_eq_true]; omega) (by rw [e28]; exact hg34)]; exact hb46⟩)
                  · exact absurd c56 (by decide)
        · have c20 := bI_0.mp c20
          refine lv_aload_n C.1 C.2.1 dX12_added4_14 rfl (lv_at hl 0 rfl) ?_
          refine lv_bipush (v := 45) C.1 C.2.1 dX12_added4_15 (by decide) ?_
          refine mw_cVi (As := [.int 45]) (rest := []) C Z hP hS (0) (cM_isSignP l E ς t n bs k2 p2 ts2 4 h2 4 (by decide)) vb_X12_isSign tw_5_141 ⟨rfl, rfl⟩ ⟨Nat.le_of_ble_eq_true rfl, Nat.le_of_ble_eq_true rfl⟩ (by decide) rfl rfl rfl rfl hl.1 rfl (Nat.le_of_ble_eq_true rfl) dX12_added4_17 ⟨Nat.zero_le _, Nat.zero_le _⟩ (fun r57 u58 H locs q59 hP hS => ?_)
          obtain ⟨rfl, q59u⟩ := q59
          rw [q59u] at hP; clear q59u
          refine lv_if_eq (tgt := 66) C.1 C.2.1 dX12_added4_20 (by decide) (fun c60 => ?_) (fun c60 => ?_)
          · have c60 := bI_0.mp c60
            refine lv_iload_n C.1 C.2.1 dX12_added4_66 rfl (lv_at hl 1 rfl) ?_
            exact mw_iret C hr hlk Z hP hS dX12_added4_67 (⟨f2, by rw [hR, gLoop_e (by simp only [gTim, gAdd, gAnd, gOr, beq_iff_eq, Bool.or_eq_true]; omega)]; exact ⟨⟨k2, p2, ts2, rfl, h2⟩, hv⟩⟩)
          · have c60 := bI_n.mp c60
            refine lv_aload_n C.1 C.2.1 dX12_added4_23 rfl (lv_at hl 0 rfl) ?_
            refine mw_getl C Z hP (0) 22 (by decide) rfl rfl rfl (by decide) inX12 tw_4_186 dX12_added4_24 ?_
            refine mw_topl (y := 45) (((h2.2.2.2.2.2.1 4 (by decide)).mpr c60).2) ?_
            refine lv_ldc2 (own := RX12) C.1 C.2.1 C.2.2.2.1 (C.2.2.2.2 _ tw_5_149) dX12_added4_27 ?_
            refine W.lcmp C.1 C.2.1 dX12_added4_30 ?_
            refine lv_if_ne (tgt := 38) C.1 C.2.1 dX12_added4_31 (by decide) (fun c61 => ?_) (fun c61 => ?_)
            · have c61 := (not_congr (lg_cmp_eq _ _)).mp c61
              refine lv_iconst (v := 0) C.1 C.2.1 dX12_added4_38 (by decide) ?_
              refine lv_istore_n (lv' := [(2, .int 0), (0, .ref (mw_a E 0)), (1, .int v)]) C.1 C.2.1 dX12_added4_39 rfl hl (by decide) rfl (fun ls hl => ?_)
              refine lv_aload_n C.1 C.2.1 dX12_added4_40 rfl (lv_at hl 1 rfl) ?_
              refine mw_cVv (As := []) (rest := []) C Z hP hS (0) (cM_nextP l E ς t n bs k2 p2 ts2 4 h2 (by omega) (by omega)) vb_X12_next tw_5_64 ⟨rfl, rfl⟩ ⟨Nat.le_of_ble_eq_true rfl, Nat.le_of_ble_eq_true rfl⟩ (by decide) rfl rfl rfl rfl hl.1 rfl (Nat.le_of_ble_eq_true rfl) dX12_added4_41 ⟨Nat.zero_le _, Nat.zero_le _⟩ (fun u63 H locs q64 hP hS => ?_)
              obtain ⟨⟨k65, p66, ts67, e68, h69⟩, f70⟩ := q64
              refine lv_aload_n C.1 C.2.1 dX12_added4_44 rfl (lv_at hl 1 rfl) ?_
              refine mw_cVi (As := []) (rest := []) C Z hP hS (0) (cM_term4 l E u63 t n bs k65 p66 ts67 h69) vb_X12_term4 tw_5_155 ⟨rfl, rfl⟩ ⟨Nat.le_of_ble_eq_true rfl, Nat.le_of_ble_eq_true rfl⟩ (by decide) rfl rfl rfl rfl hl.1 rfl (Nat.le_of_ble_eq_true rfl) dX12_added4_45 ⟨Nat.zero_le _, Nat.zero_le _⟩ (fun r71 u72 H locs q73 hP hS => ?_)
              rcases hg74 : (gLevel gTim (gD 1).1) ((k65, p66) :: ts67) with zz75 | qq76
              · obtain ⟨cs78, ts79⟩ := zz75
                rw [hg74] at q73
                obtain ⟨f77, ⟨k80, p81, ts82, e83, h84⟩, v85⟩ := q73
                have v85 := (f2.tr f70).evv v85
                refine lv_istore_n (lv' := [(3, .int r71), (2, .int 0), (0, .ref (mw_a E 0)), (1, .int v)]) C.1 C.2.1 dX12_added4_48 rfl hl (by decide) rfl (fun ls hl => ?_)
                refine lv_iload_n C.1 C.2.1 dX12_added4_49 rfl (lv_at hl 1 rfl) ?_
                refine lv_if_eq (tgt := 59) C.1 C.2.1 dX12_added4_50 (by decide) (fun c87 => ?_) (fun c87 => ?_)
                · refine lv_iload_n C.1 C.2.1 dX12_added4_59 rfl (lv_at hl 3 rfl) ?_
                  refine lv_iload_n C.1 C.2.1 dX12_added4_60 rfl (lv_at hl 0 rfl) ?_
                  refine lv_isub C.1 C.2.1 dX12_added4_61 ?_
                  refine lv_istore_n (lv' := [(1, .int (v - r71)), (3, .int r71), (2, .int 0), (0, .ref (mw_a E 0))]) C.1 C.2.1 dX12_added4_62 rfl hl (by decide) rfl (fun ls hl => ?_)
                  refine lv_goto (tgt := 5) C.1 C.2.1 dX12_added4_63 (by decide) ?_
                  exact ih (cs ++ cs78 ++ [k2]) k80 p81 ts82 (v - r71) u72 _ _ (by have d := (gLevel_dec (gD_dec 1).1) _ _ _ hg74; rw [e83, List.length_cons, List.length_cons] at d; rw [e68, List.length_cons] at hN; omega) h84 ((f2.tr f70).tr f77) (by have z := ruV_op (c := k2) hv v85 (by omega); rwa [show opF k2 v r71 = v - r71 by rw [c60]; rfl] at z) (by rw [hR, gLoop_s (by simp only [gTim, gAdd, gAnd, gOr, beq_iff_eq, Bool.or_eq_true]; omega) (by rw [e68]; exact hg74), e83]) hP hS ls (lv_sub hl [3, 0] rfl)
                · exact absurd c87 (by decide)
              · rw [hg74] at q73
                obtain ⟨f77, hb86⟩ := q73
                refine lv_istore_n (lv' := [(3, .int r71), (2, .int 0), (0, .ref (mw_a E 0)), (1, .int v)]) C.1 C.2.1 dX12_added4_48 rfl hl (by decide) rfl (fun ls hl => ?_)
                refine lv_iload_n C.1 C.2.1 dX12_added4_49 rfl (lv_at hl 1 rfl) ?_
                refine lv_if_eq (tgt := 59) C.1 C.2.1 dX12_added4_50 (by decide) (fun c88 => ?_) (fun c88 => ?_)
                · refine lv_iload_n C.1 C.2.1 dX12_added4_59 rfl (lv_at hl 3 rfl) ?_
                  refine lv_iload_n C.1 C.2.1 dX12_added4_60 rfl (lv_at hl 0 rfl) ?_
                  refine lv_isub C.1 C.2.1 dX12_added4_61 ?_
                  refine lv_istore_n (lv' := [(1, .int (v - r71)), (3, .int r71), (2, .int 0), (0, .ref (mw_a E 0))]) C.1 C.2.1 dX12_added4_62 rfl hl (by decide) rfl (fun ls hl => ?_)
                  refine lv_goto (tgt := 5) C.1 C.2.1 dX12_added4_63 (by decide) ?_
                  refine lv_aload_n C.1 C.2.1 dX12_added4_5 rfl (lv_at hl 3 rfl) ?_
                  refine lv_bipush (v := 43) C.1 C.2.1 dX12_added4_6 (by decide) ?_
                  refine mw_cVi (As := [.int 43]) (rest := []) C Z hP hS (0) (cM_isSignB l E u72 43 hb86.1) vb_X12_isSign tw_5_141 ⟨rfl, rfl⟩ ⟨Nat.le_of_ble_eq_true rfl, Nat.le_of_ble_eq_true rfl⟩ (by decide) rfl rfl rfl rfl hl.1 rfl (Nat.le_of_ble_eq_true rfl) dX12_added4_8 ⟨Nat.zero_le _, Nat.zero_le _⟩ (fun r89 u90 H locs q91 hP hS => ?_)
                  obtain ⟨rfl, q91u⟩ := q91
                  rw [q91u] at hP; clear q91u
                  refine lv_if_ne (tgt := 23) C.1 C.2.1 dX12_added4_11 (by decide) (fun c92 => ?_) (fun c92 => ?_)
                  · exact absurd c92 (by decide)
                  · refine lv_aload_n C.1 C.2.1 dX12_added4_14 rfl (lv_at hl 3 rfl) ?_
                    refine lv_bipush (v := 45) C.1 C.2.1 dX12_added4_15 (by decide) ?_
                    refine mw_cVi (As := [.int 45]) (rest := []) C Z hP hS (0) (cM_isSignB l E u72 45 hb86.1) vb_X12_isSign tw_5_141 ⟨rfl, rfl⟩ ⟨Nat.le_of_ble_eq_true rfl, Nat.le_of_ble_eq_true rfl⟩ (by decide) rfl rfl rfl rfl hl.1 rfl (Nat.le_of_ble_eq_true rfl) dX12_added4_17 ⟨Nat.zero_le _, Nat.zero_le _⟩ (fun r93 u94 H locs q95 hP hS => ?_)
                    obtain ⟨rfl, q95u⟩ := q95
                    rw [q95u] at hP; clear q95u
                    refine lv_if_eq (tgt := 66) C.1 C.2.1 dX12_added4_20 (by decide) (fun c96 => ?_) (fun c96 => ?_)
                    · refine lv_iload_n C.1 C.2.1 dX12_added4_66 rfl (lv_at hl 0 rfl) ?_
                      exact mw_iret C hr hlk Z hP hS dX12_added4_67 (⟨((f2.tr f70).tr f77), by rw [hR, gLoop_f (by simp only [gTim, gAdd, gAnd, gOr, beq_iff_eq, Bool.or_eq_true]; omega) (by rw [e68]; exact hg74)]; exact hb86⟩)
                    · exact absurd c96 (by decide)
                · exact absurd c88 (by decide)
            · have c61 := (lg_cmp_eq _ _).mp c61
              exact absurd c61 (by decide)
    exact lp (ts12.length + 1) cs8 k10 p11 ts12 r1 u2 _ _ (Nat.le_refl _) h14 ((mFp.rf σ).tr f7) v15 (by rw [gLevel_I hg4, e13]; rfl) hP hS ls (lv_sub hl [1, 0] rfl)
  · rw [hg4] at q3
    obtain ⟨f7, hb16⟩ := q3
    refine lv_istore_n (lv' := [(1, .int r1), (0, .ref (mw_a E 0))]) C.1 C.2.1 dX12_added4_4 rfl hl (by decide) rfl (fun ls hl => ?_)
    refine lv_aload_n C.1 C.2.1 dX12_added4_5 rfl (lv_at hl 1 rfl) ?_
    refine lv_bipush (v := 43) C.1 C.2.1 dX12_added4_6 (by decide) ?_
    refine mw_cVi (As := [.int 43]) (rest := []) C Z hP hS (0) (cM_isSignB l E u2 43 hb16.1) vb_X12_isSign tw_5_141 ⟨rfl, rfl⟩ ⟨Nat.le_of_ble_eq_true rfl, Nat.le_of_ble_eq_true rfl⟩ (by decide) rfl rfl rfl rfl hl.1 rfl (Nat.le_of_ble_eq_true rfl) dX12_added4_8 ⟨Nat.zero_le _, Nat.zero_le _⟩ (fun r97 u98 H locs q99 hP hS => ?_)
    obtain ⟨rfl, q99u⟩ := q99
    rw [q99u] at hP; clear q99u
    refine lv_if_ne (tgt := 23) C.1 C.2.1 dX12_added4_11 (by decide) (fun c100 => ?_) (fun c100 => ?_)
    · exact absurd c100 (by decide)
    · refine lv_aload_n C.1 C.2.1 dX12_added4_14 rfl (lv_at hl 1 rfl) ?_
      refine lv_bipush (v := 45) C.1 C.2.1 dX12_added4_15 (by decide) ?_
      refine mw_cVi (As := [.int 45]) (rest := []) C Z hP hS (0) (cM_isSignB l E u2 45 hb16.1) vb_X12_isSign tw_5_141 ⟨rfl, rfl⟩ ⟨Nat.le_of_ble_eq_true rfl, Nat.le_of_ble_eq_true rfl⟩ (by decide) rfl rfl rfl rfl hl.1 rfl (Nat.le_of_ble_eq_true rfl) dX12_added4_17 ⟨Nat.zero_le _, Nat.zero_le _⟩ (fun r101 u102 H locs q103 hP hS => ?_)
      obtain ⟨rfl, q103u⟩ := q103
      rw [q103u] at hP; clear q103u
      refine lv_if_eq (tgt := 66) C.1 C.2.1 dX12_added4_20 (by decide) (fun c104 => ?_) (fun c104 => ?_)
      · refine lv_iload_n C.1 C.2.1 dX12_added4_66 rfl (lv_at hl 0 rfl) ?_
        exact mw_iret C hr hlk Z hP hS dX12_added4_67 (⟨((mFp.rf σ).tr f7), by rw [gLevel_F hg4]; exact hb16⟩)
      · exact absurd c104 (by decide)

set_option maxHeartbeats 4000000 in
set_option maxRecDepth 100000 in
theorem cM_not4 (l : Launch) (E : mw_E) (σ : mw_M) (t n : Nat) (bs : Nat → Int32) (k p : Nat) (ts : List (Nat × Nat)) (h : mPS σ t n bs k p ts 4) : mw_Ci shM 13 gM l yX12_not4 cX12_not4 4 (some .int) (rmF 13 288) E [.ref (mw_a E 0)] σ (fun r u => mOK σ u t n bs 4 r ((gD 1).2.1 ((k, p) :: ts))) := by
  refine mw_of (by decide) gM_ok (Nat.le_of_ble_eq_true rfl) ?_
  intro p_ e_ s_ m_ below meth c_ C hr hlk Z hP ls hl
  have C : CallFix p_ m_ c_ cX12_not4 4 s_ _ lw_good RX12 := C
  have hl : lv_has ls 4 [(0, .ref (mw_a E 0))] := hl
  have hS : va_S (mw_A 13 E) s_.heap s_.heap [] := va_S.rf
  refine lv_aload_n C.1 C.2.1 dX12_not4_0 rfl (lv_at hl 0 rfl) ?_
  refine lv_bipush (v := 110) C.1 C.2.1 dX12_not4_1 (by decide) ?_
  refine lv_bipush (v := 111) C.1 C.2.1 dX12_not4_3 (by decide) ?_
  refine lv_bipush (v := 116) C.1 C.2.1 dX12_not4_5 (by decide) ?_
  refine lv_iconst (v := 0) C.1 C.2.1 dX12_not4_7 (by decide) ?_
  refine lv_iconst (v := 0) C.1 C.2.1 dX12_not4_8 (by decide) ?_
  refine lv_iconst (v := 0) C.1 C.2.1 dX12_not4_9 (by decide) ?_
  refine lv_iconst (v := 0) C.1 C.2.1 dX12_not4_10 (by decide) ?_
  refine lv_iconst (v := 0) C.1 C.2.1 dX12_not4_11 (by decide) ?_
  refine mw_cVi (As := [.int 110, .int 111, .int 116, .int 0, .int 0, .int 0, .int 0, .int 0]) (rest := []) C Z hP hS (0) (cM_isWordP l E σ t n bs k p ts 4 h 11 (by decide)) vb_X12_isWord tw_5_77 ⟨rfl, rfl⟩ ⟨Nat.le_of_ble_eq_true rfl, Nat.le_of_ble_eq_true rfl⟩ (by decide) rfl rfl rfl rfl hl.1 rfl (Nat.le_of_ble_eq_true rfl) dX12_not4_12 ⟨Nat.zero_le _, Nat.zero_le _⟩ (fun r1 u2 H locs q3 hP hS => ?_)
  obtain ⟨rfl, q3u⟩ := q3
  rw [q3u] at hP; clear q3u
  refine lv_if_eq (tgt := 52) C.1 C.2.1 dX12_not4_15 (by decide) (fun c4 => ?_) (fun c4 => ?_)
  · have c4 := bI_0.mp c4
    refine lv_aload_n C.1 C.2.1 dX12_not4_52 rfl (lv_at hl 0 rfl) ?_
    refine mw_cVi (As := []) (rest := []) C Z hP hS (0) (cM_added4 l E σ t n bs k p ts h) vb_X12_added4 tw_5_151 ⟨rfl, rfl⟩ ⟨Nat.le_of_ble_eq_true rfl, Nat.le_of_ble_eq_true rfl⟩ (by decide) rfl rfl rfl rfl hl.1 rfl (Nat.le_of_ble_eq_true rfl) dX12_not4_53 ⟨Nat.zero_le _, Nat.zero_le _⟩ (fun r5 u6 H locs q7 hP hS => ?_)
    rcases hg8 : (gLevel gAdd (gLevel gTim (gD 1).1)) ((k, p) :: ts) with zz9 | qq10
    · obtain ⟨cs12, ts13⟩ := zz9
      rw [hg8] at q7
      obtain ⟨f11, ⟨k14, p15, ts16, e17, h18⟩, v19⟩ := q7
      have v19 := (mFp.rf σ).evv v19
      refine lv_istore_n (lv' := [(1, .int r5), (0, .ref (mw_a E 0))]) C.1 C.2.1 dX12_not4_56 rfl hl (by decide) rfl (fun ls hl => ?_)
      refine lv_aload_n C.1 C.2.1 dX12_not4_57 rfl (lv_at hl 1 rfl) ?_
      refine lv_bipush (v := 60) C.1 C.2.1 dX12_not4_58 (by decide) ?_
      refine mw_cVi (As := [.int 60]) (rest := []) C Z hP hS (0) (cM_isSignP l E u6 t n bs k14 p15 ts16 4 h18 6 (by decide)) vb_X12_isSign tw_5_141 ⟨rfl, rfl⟩ ⟨Nat.le_of_ble_eq_true rfl, Nat.le_of_ble_eq_true rfl⟩ (by decide) rfl rfl rfl rfl hl.1 rfl (Nat.le_of_ble_eq_true rfl) dX12_not4_60 ⟨Nat.zero_le _, Nat.zero_le _⟩ (fun r21 u22 H locs q23 hP hS => ?_)
      obtain ⟨rfl, q23u⟩ := q23
      rw [q23u] at hP; clear q23u
      refine lv_if_ne (tgt := 77) C.1 C.2.1 dX12_not4_63 (by decide) (fun c24 => ?_) (fun c24 => ?_)
      · have c24 := bI_n.mp c24
        refine lv_aload_n C.1 C.2.1 dX12_not4_77 rfl (lv_at hl 1 rfl) ?_
        refine mw_getl C Z hP (0) 22 (by decide) rfl rfl rfl (by decide) inX12 tw_4_186 dX12_not4_78 ?_
        refine mw_topl (y := 60) (((h18.2.2.2.2.2.1 6 (by decide)).mpr c24).2) ?_
        refine lv_ldc2 (own := RX12) C.1 C.2.1 C.2.2.2.1 (C.2.2.2.2 _ tw_5_150) dX12_not4_81 ?_
        refine W.lcmp C.1 C.2.1 dX12_not4_84 ?_
        refine lv_if_ne (tgt := 92) C.1 C.2.1 dX12_not4_85 (by decide) (fun c25 => ?_) (fun c25 => ?_)
        · have c25 := (not_congr (lg_cmp_eq _ _)).mp c25
          exact absurd c25 (by decide)
        · have c25 := (lg_cmp_eq _ _).mp c25
          refine lv_iconst (v := 1) C.1 C.2.1 dX12_not4_88 (by decide) ?_
          refine lv_goto (tgt := 93) C.1 C.2.1 dX12_not4_89 (by decide) ?_
          refine lv_istore_n (lv' := [(2, .int 1), (1, .int r5), (0, .ref (mw_a E 0))]) C.1 C.2.1 dX12_not4_93 rfl hl (by decide) rfl (fun ls hl => ?_)
          refine lv_aload_n C.1 C.2.1 dX12_not4_94 rfl (lv_at hl 2 rfl) ?_
          refine mw_cVv (As := []) (rest := []) C Z hP hS (0) (cM_nextP l E u6 t n bs k14 p15 ts16 4 h18 (by omega) (by omega)) vb_X12_next tw_5_64 ⟨rfl, rfl⟩ ⟨Nat.le_of_ble_eq_true rfl, Nat.le_of_ble_eq_true rfl⟩ (by decide) rfl rfl rfl rfl hl.1 rfl (Nat.le_of_ble_eq_true rfl) dX12_not4_95 ⟨Nat.zero_le _, Nat.zero_le _⟩ (fun u27 H locs q28 hP hS => ?_)
          obtain ⟨⟨k29, p30, ts31, e32, h33⟩, f34⟩ := q28
          refine lv_aload_n C.1 C.2.1 dX12_not4_98 rfl (lv_at hl 2 rfl) ?_
          refine mw_cVi (As := []) (rest := []) C Z hP hS (0) (cM_added4 l E u27 t n bs k29 p30 ts31 h33) vb_X12_added4 tw_5_151 ⟨rfl, rfl⟩ ⟨Nat.le_of_ble_eq_true rfl, Nat.le_of_ble_eq_true rfl⟩ (by decide) rfl rfl rfl rfl hl.1 rfl (Nat.le_of_ble_eq_true rfl) dX12_not4_99 ⟨Nat.zero_le _, Nat.zero_le _⟩ (fun r35 u36 H locs q37 hP hS => ?_)
          rcases hg38 : (gLevel gAdd (gLevel gTim (gD 1).1)) ((k29, p30) :: ts31) with zz39 | qq40
          · obtain ⟨cs42, ts43⟩ := zz39
            rw [hg38] at q37
            obtain ⟨f41, ⟨k44, p45, ts46, e47, h48⟩, v49⟩ := q37
            have v49 := (((mFp.rf σ).tr f11).tr f34).evv v49
            refine lv_istore_n (lv' := [(3, .int r35), (2, .int 1), (1, .int r5), (0, .ref (mw_a E 0))]) C.1 C.2.1 dX12_not4_102 rfl hl (by decide) rfl (fun ls hl => ?_)
            refine lv_iload_n C.1 C.2.1 dX12_not4_103 rfl (lv_at hl 1 rfl) ?_
            refine lv_if_eq (tgt := 115) C.1 C.2.1 dX12_not4_104 (by decide) (fun c51 => ?_) (fun c51 => ?_)
            · exact absurd c51 (by decide)
            · refine lv_iload_n C.1 C.2.1 dX12_not4_107 rfl (lv_at hl 2 rfl) ?_
              refine lv_iload_n C.1 C.2.1 dX12_not4_108 rfl (lv_at hl 0 rfl) ?_
              refine lv_icmp_ge (tgt := 124) C.1 C.2.1 dX12_not4_109 (by decide) (fun c52 => ?_) (fun c52 => ?_)
              · refine lv_iconst (v := 0) C.1 C.2.1 dX12_not4_124 (by decide) ?_
                exact mw_iret C hr hlk Z hP hS dX12_not4_125 (⟨((((mFp.rf σ).tr f11).tr f34).tr f41), by rw [gN_1, gNot_n (by omega), gCmp_2I (by rw [← e17]; exact hg8) (by omega) (by rw [e32]; exact hg38)]; exact ⟨⟨k44, p45, ts46, e47, h48⟩, by have z := ruV_op (c := k14) v19 v49 (by omega); rwa [show opF k14 r5 r35 = 0 by rw [c24]; exact bI_f (by rw [ni_le] at c52; rw [ni_lt]; omega)] at z⟩⟩)
              · refine lv_goto (tgt := 120) C.1 C.2.1 dX12_not4_112 (by decide) ?_
                refine lv_iconst (v := 1) C.1 C.2.1 dX12_not4_120 (by decide) ?_
                refine lv_goto (tgt := 125) C.1 C.2.1 dX12_not4_121 (by decide) ?_
                exact mw_iret C hr hlk Z hP hS dX12_not4_125 (⟨((((mFp.rf σ).tr f11).tr f34).tr f41), by rw [gN_1, gNot_n (by omega), gCmp_2I (by rw [← e17]; exact hg8) (by omega) (by rw [e32]; exact hg38)]; exact ⟨⟨k44, p45, ts46, e47, h48⟩, by have z := ruV_op (c := k14) v19 v49 (by omega); rwa [show opF k14 r5 r35 = 1 by rw [c24]; exact bI_t (by rw [ni_le] at c52; rw [ni_lt]; omega)] at z⟩⟩)
          · rw [hg38] at q37
            obtain ⟨f41, hb50⟩ := q37
            refine lv_istore_n (lv' := [(3, .int r35), (2, .int 1), (1, .int r5), (0, .ref (mw_a E 0))]) C.1 C.2.1 dX12_not4_102 rfl hl (by decide) rfl (fun ls hl => ?_)
            refine lv_iload_n C.1 C.2.1 dX12_not4_103 rfl (lv_at hl 1 rfl) ?_
            refine lv_if_eq (tgt := 115) C.1 C.2.1 dX12_not4_104 (by decide) (fun c53 => ?_) (fun c53 => ?_)
            · exact absurd c53 (by decide)
            · refine lv_iload_n C.1 C.2.1 dX12_not4_107 rfl (lv_at hl 2 rfl) ?_
              refine lv_iload_n C.1 C.2.1 dX12_not4_108 rfl (lv_at hl 0 rfl) ?_
              refine lv_icmp_ge (tgt := 124) C.1 C.2.1 dX12_not4_109 (by decide) (fun c54 => ?_) (fun c54 => ?_)
              · refine lv_iconst (v := 0) C.1 C.2.1 dX12_not4_124 (by decide) ?_
                exact mw_iret C hr hlk Z hP hS dX12_not4_125 (⟨((((mFp.rf σ).tr f11).tr f34).tr f41), by rw [gN_1, gNot_n (by omega), gCmp_2F (by rw [← e17]; exact hg8) (by omega) (by rw [e32]; exact hg38)]; exact hb50⟩)
              · refine lv_goto (tgt := 120) C.1 C.2.1 dX12_not4_112 (by decide) ?_
                refine lv_iconst (v := 1) C.1 C.2.1 dX12_not4_120 (by decide) ?_
                refine lv_goto (tgt := 125) C.1 C.2.1 dX12_not4_121 (by decide) ?_
                exact mw_iret C hr hlk Z hP hS dX12_not4_125 (⟨((((mFp.rf σ).tr f11).tr f34).tr f41), by rw [gN_1, gNot_n (by omega), gCmp_2F (by rw [← e17]; exact hg8) (by omega) (by rw [e32]; exact hg38)]; exact hb50⟩)
      · have c24 := bI_0.mp c24
        refine lv_aload_n C.1 C.2.1 dX12_not4_66 rfl (lv_at hl 1 rfl) ?_
        refine lv_bipush (v := 61) C.1 C.2.1 dX12_not4_67 (by decide) ?_
        refine mw_cVi (As := [.int 61]) (rest := []) C Z hP hS (0) (cM_isSignP l E u6 t n bs k14 p15 ts16 4 h18 7 (by decide)) vb_X12_isSign tw_5_141 ⟨rfl, rfl⟩ ⟨Nat.le_of_ble_eq_true rfl, Nat.le_of_ble_eq_true rfl⟩ (by decide) rfl rfl rfl rfl hl.1 rfl (Nat.le_of_ble_eq_true rfl) dX12_not4_69 ⟨Nat.zero_le _, Nat.zero_le _⟩ (fun r55 u56 H locs q57 hP hS => ?_)
        obtain ⟨rfl, q57u⟩ := q57
        rw [q57u] at hP; clear q57u
        refine lv_if_ne (tgt := 77) C.1 C.2.1 dX12_not4_72 (by decide) (fun c58 => ?_) (fun c58 => ?_)
        · have c58 := bI_n.mp c58
          refine lv_aload_n C.1 C.2.1 dX12_not4_77 rfl (lv_at hl 1 rfl) ?_
          refine mw_getl C Z hP (0) 22 (by decide) rfl rfl rfl (by decide) inX12 tw_4_186 dX12_not4_78 ?_
          refine mw_topl (y := 61) (((h18.2.2.2.2.2.1 7 (by decide)).mpr c58).2) ?_
          refine lv_ldc2 (own := RX12) C.1 C.2.1 C.2.2.2.1 (C.2.2.2.2 _ tw_5_150) dX12_not4_81 ?_
          refine W.lcmp C.1 C.2.1 dX12_not4_84 ?_
          refine lv_if_ne (tgt := 92) C.1 C.2.1 dX12_not4_85 (by decide) (fun c59 => ?_) (fun c59 => ?_)
          · have c59 := (not_congr (lg_cmp_eq _ _)).mp c59
            refine lv_iconst (v := 0) C.1 C.2.1 dX12_not4_92 (by decide) ?_
            refine lv_istore_n (lv' := [(2, .int 0), (1, .int r5), (0, .ref (mw_a E 0))]) C.1 C.2.1 dX12_not4_93 rfl hl (by decide) rfl (fun ls hl => ?_)
            refine lv_aload_n C.1 C.2.1 dX12_not4_94 rfl (lv_at hl 2 rfl) ?_
            refine mw_cVv (As := []) (rest := []) C Z hP hS (0) (cM_nextP l E u6 t n bs k14 p15 ts16 4 h18 (by omega) (by omega)) vb_X12_next tw_5_64 ⟨rfl, rfl⟩ ⟨Nat.le_of_ble_eq_true rfl, Nat.le_of_ble_eq_true rfl⟩ (by decide) rfl rfl rfl rfl hl.1 rfl (Nat.le_of_ble_eq_true rfl) dX12_not4_95 ⟨Nat.zero_le _, Nat.zero_le _⟩ (fun u61 H locs q62 hP hS => ?_)
            obtain ⟨⟨k63, p64, ts65, e66, h67⟩, f68⟩ := q62
            refine lv_aload_n C.1 C.2.1 dX12_not4_98 rfl (lv_at hl 2 rfl) ?_
            refine mw_cVi (As := []) (rest := []) C Z hP hS (0) (cM_added4 l E u61 t n bs k63 p64 ts65 h67) vb_X12_added4 tw_5_151 ⟨rfl, rfl⟩ ⟨Nat.le_of_ble_eq_true rfl, Nat.le_of_ble_eq_true rfl⟩ (by decide) rfl rfl rfl rfl hl.1 rfl (Nat.le_of_ble_eq_true rfl) dX12_not4_99 ⟨Nat.zero_le _, Nat.zero_le _⟩ (fun r69 u70 H locs q71 hP hS => ?_)
            rcases hg72 : (gLevel gAdd (gLevel gTim (gD 1).1)) ((k63, p64) :: ts65) with zz73 | qq74
            · obtain ⟨cs76, ts77⟩ := zz73
              rw [hg72] at q71
              obtain ⟨f75, ⟨k78, p79, ts80, e81, h82⟩, v83⟩ := q71
              have v83 := (((mFp.rf σ).tr f11).tr f68).evv v83
              refine lv_istore_n (lv' := [(3, .int r69), (2, .int 0), (1, .int r5), (0, .ref (mw_a E 0))]) C.1 C.2.1 dX12_not4_102 rfl hl (by decide) rfl (fun ls hl => ?_)
              refine lv_iload_n C.1 C.2.1 dX12_not4_103 rfl (lv_at hl 1 rfl) ?_
              refine lv_if_eq (tgt := 115) C.1 C.2.1 dX12_not4_104 (by decide) (fun c85 => ?_) (fun c85 => ?_)
              · refine lv_iload_n C.1 C.2.1 dX12_not4_115 rfl (lv_at hl 2 rfl) ?_
                refine lv_iload_n C.1 C.2.1 dX12_not4_116 rfl (lv_at hl 0 rfl) ?_
                refine lv_icmp_ne (tgt := 124) C.1 C.2.1 dX12_not4_117 (by decide) (fun c86 => ?_) (fun c86 => ?_)
                · refine lv_iconst (v := 0) C.1 C.2.1 dX12_not4_124 (by decide) ?_
                  exact mw_iret C hr hlk Z hP hS dX12_not4_125 (⟨((((mFp.rf σ).tr f11).tr f68).tr f75), by rw [gN_1, gNot_n (by omega), gCmp_2I (by rw [← e17]; exact hg8) (by omega) (by rw [e66]; exact hg72)]; exact ⟨⟨k78, p79, ts80, e81, h82⟩, by have z := ruV_op (c := k14) v19 v83 (by omega); rwa [show opF k14 r5 r69 = 0 by rw [c58]; exact bI_f c86] at z⟩⟩)
                · refine lv_iconst (v := 1) C.1 C.2.1 dX12_not4_120 (by decide) ?_
                  refine lv_goto (tgt := 125) C.1 C.2.1 dX12_not4_121 (by decide) ?_
                  exact mw_iret C hr hlk Z hP hS dX12_not4_125 (⟨((((mFp.rf σ).tr f11).tr f68).tr f75), by rw [gN_1, gNot_n (by omega), gCmp_2I (by rw [← e17]; exact hg8) (by omega) (by rw [e66]; exact hg72)]; exact ⟨⟨k78, p79, ts80, e81, h82⟩, by have z := ruV_op (c := k14) v19 v83 (by omega); rwa [show opF k14 r5 r69 = 1 by rw [c58]; exact bI_t c86] at z⟩⟩)
              · exact absurd c85 (by decide)
            · rw [hg72] at q71
              obtain ⟨f75, hb84⟩ := q71
              refine lv_istore_n (lv' := [(3, .int r69), (2, .int 0), (1, .int r5), (0, .ref (mw_a E 0))]) C.1 C.2.1 dX12_not4_102 rfl hl (by decide) rfl (fun ls hl => ?_)
              refine lv_iload_n C.1 C.2.1 dX12_not4_103 rfl (lv_at hl 1 rfl) ?_
              refine lv_if_eq (tgt := 115) C.1 C.2.1 dX12_not4_104 (by decide) (fun c87 => ?_) (fun c87 => ?_)
              · refine lv_iload_n C.1 C.2.1 dX12_not4_115 rfl (lv_at hl 2 rfl) ?_
                refine lv_iload_n C.1 C.2.1 dX12_not4_116 rfl (lv_at hl 0 rfl) ?_
                refine lv_icmp_ne (tgt := 124) C.1 C.2.1 dX12_not4_117 (by decide) (fun c88 => ?_) (fun c88 => ?_)
                · refine lv_iconst (v := 0) C.1 C.2.1 dX12_not4_124 (by decide) ?_
                  exact mw_iret C hr hlk Z hP hS dX12_not4_125 (⟨((((mFp.rf σ).tr f11).tr f68).tr f75), by rw [gN_1, gNot_n (by omega), gCmp_2F (by rw [← e17]; exact hg8) (by omega) (by rw [e66]; exact hg72)]; exact hb84⟩)
                · refine lv_iconst (v := 1) C.1 C.2.1 dX12_not4_120 (by decide) ?_
                  refine lv_goto (tgt := 125) C.1 C.2.1 dX12_not4_121 (by decide) ?_
                  exact mw_iret C hr hlk Z hP hS dX12_not4_125 (⟨((((mFp.rf σ).tr f11).tr f68).tr f75), by rw [gN_1, gNot_n (by omega), gCmp_2F (by rw [← e17]; exact hg8) (by omega) (by rw [e66]; exact hg72)]; exact hb84⟩)
              · exact absurd c87 (by decide)
          · have c59 := (lg_cmp_eq _ _).mp c59
            exact absurd c59 (by decide)
        · have c58 := bI_0.mp c58
          refine lv_iload_n C.1 C.2.1 dX12_not4_75 rfl (lv_at hl 0 rfl) ?_
          exact mw_iret C hr hlk Z hP hS dX12_not4_76 (⟨((mFp.rf σ).tr f11), by rw [gN_1, gNot_n (by omega), gCmp_1 (by rw [← e17]; exact hg8) (by omega)]; exact ⟨⟨k14, p15, ts16, rfl, h18⟩, v19⟩⟩)
    · rw [hg8] at q7
      obtain ⟨f11, hb20⟩ := q7
      refine lv_istore_n (lv' := [(1, .int r5), (0, .ref (mw_a E 0))]) C.1 C.2.1 dX12_not4_56 rfl hl (by decide) rfl (fun ls hl => ?_)
      refine lv_aload_n C.1 C.2.1 dX12_not4_57 rfl (lv_at hl 1 rfl) ?_
      refine lv_bipush (v := 60) C.1 C.2.1 dX12_not4_58 (by decide) ?_
      refine mw_cVi (As := [.int 60]) (rest := []) C Z hP hS (0) (cM_isSignB l E u6 60 hb20.1) vb_X12_isSign tw_5_141 ⟨rfl, rfl⟩ ⟨Nat.le_of_ble_eq_true rfl, Nat.le_of_ble_eq_true rfl⟩ (by decide) rfl rfl rfl rfl hl.1 rfl (Nat.le_of_ble_eq_true rfl) dX12_not4_60 ⟨Nat.zero_le _, Nat.zero_le _⟩ (fun r89 u90 H locs q91 hP hS => ?_)
      obtain ⟨rfl, q91u⟩ := q91
      rw [q91u] at hP; clear q91u
      refine lv_if_ne (tgt := 77) C.1 C.2.1 dX12_not4_63 (by decide) (fun c92 => ?_) (fun c92 => ?_)
      · exact absurd c92 (by decide)
      · refine lv_aload_n C.1 C.2.1 dX12_not4_66 rfl (lv_at hl 1 rfl) ?_
        refine lv_bipush (v := 61) C.1 C.2.1 dX12_not4_67 (by decide) ?_
        refine mw_cVi (As := [.int 61]) (rest := []) C Z hP hS (0) (cM_isSignB l E u6 61 hb20.1) vb_X12_isSign tw_5_141 ⟨rfl, rfl⟩ ⟨Nat.le_of_ble_eq_true rfl, Nat.le_of_ble_eq_true rfl⟩ (by decide) rfl rfl rfl rfl hl.1 rfl (Nat.le_of_ble_eq_true rfl) dX12_not4_69 ⟨Nat.zero_le _, Nat.zero_le _⟩ (fun r93 u94 H locs q95 hP hS => ?_)
        obtain ⟨rfl, q95u⟩ := q95
        rw [q95u] at hP; clear q95u
        refine lv_if_ne (tgt := 77) C.1 C.2.1 dX12_not4_72 (by decide) (fun c96 => ?_) (fun c96 => ?_)
        · exact absurd c96 (by decide)
        · refine lv_iload_n C.1 C.2.1 dX12_not4_75 rfl (lv_at hl 0 rfl) ?_
          exact mw_iret C hr hlk Z hP hS dX12_not4_76 (⟨((mFp.rf σ).tr f11), by rw [gN_1, gNot_n (by omega), gCmp_F hg8]; exact hb20⟩)
  · have c4 := bI_n.mp c4
    refine lv_aload_n C.1 C.2.1 dX12_not4_18 rfl (lv_at hl 0 rfl) ?_
    refine mw_cVi (As := []) (rest := []) C Z hP hS (0) (cM_opens l E σ t n bs k p ts 4 (by decide) h (by omega) (by omega)) vb_X12_opens tw_5_105 ⟨rfl, rfl⟩ ⟨Nat.le_of_ble_eq_true rfl, Nat.le_of_ble_eq_true rfl⟩ (by decide) rfl rfl rfl rfl hl.1 rfl (Nat.le_of_ble_eq_true rfl) dX12_not4_19 ⟨Nat.zero_le _, Nat.zero_le _⟩ (fun r97 u98 H locs q99 hP hS => ?_)
    obtain ⟨rfl, ⟨k100, p101, ts102, e103, h104⟩, f105⟩ := q99
    refine lv_if_ne (tgt := 27) C.1 C.2.1 dX12_not4_22 (by decide) (fun c106 => ?_) (fun c106 => ?_)
    · refine lv_aload_n C.1 C.2.1 dX12_not4_27 rfl (lv_at hl 0 rfl) ?_
      refine mw_cVi (As := []) (rest := []) C Z hP hS (0) (cM_not5 l E u98 t n bs k100 p101 ts102 h104) vb_X12_not5 tw_5_125 ⟨rfl, rfl⟩ ⟨Nat.le_of_ble_eq_true rfl, Nat.le_of_ble_eq_true rfl⟩ (by decide) rfl rfl rfl rfl hl.1 rfl (Nat.le_of_ble_eq_true rfl) dX12_not4_28 ⟨Nat.zero_le _, Nat.zero_le _⟩ (fun r107 u108 H locs q109 hP hS => ?_)
      rcases hg110 : ((gD 0).2.1) ((k100, p101) :: ts102) with zz111 | qq112
      · obtain ⟨cs114, ts115⟩ := zz111
        rw [hg110] at q109
        obtain ⟨f113, ⟨k116, p117, ts118, e119, h120⟩, v121⟩ := q109
        have v121 := ((mFp.rf σ).tr f105).evv v121
        refine lv_istore_n (lv' := [(1, .int r107), (0, .ref (mw_a E 0))]) C.1 C.2.1 dX12_not4_31 rfl hl (by decide) rfl (fun ls hl => ?_)
        refine lv_aload_n C.1 C.2.1 dX12_not4_32 rfl (lv_at hl 1 rfl) ?_
        refine lv_dup C.1 C.2.1 dX12_not4_33 rfl ?_
        refine mw_geti C Z hP (0) 23 (by decide) rfl rfl rfl (by decide) inX12 tw_4_187 dX12_not4_34 ?_
        refine mw_top (y := nI 5) (h120.2.2.1) ?_
        refine lv_iconst (v := 1) C.1 C.2.1 dX12_not4_37 (by decide) ?_
        refine lv_isub C.1 C.2.1 dX12_not4_38 ?_
        refine mw_top (y := nI 4) (by decide) ?_
        refine mw_puti C Z hP hS (0) 23 (by decide) rfl rfl rfl (by decide) inX12 tyX12 tyX12_ok nmX12 rfl tw_4_187 rfl rfl dX12_not4_39 (fun H locs hP hS => ?_)
        have h123 : mPS (mw_si u108 0 23 (nI 4)) t n bs k116 p117 ts118 4 := ⟨h120.1, h120.2.1, rfl, h120.2.2.2⟩
        refine lv_iload_n C.1 C.2.1 dX12_not4_42 rfl (lv_at hl 0 rfl) ?_
        refine lv_if_ne (tgt := 50) C.1 C.2.1 dX12_not4_43 (by decide) (fun c124 => ?_) (fun c124 => ?_)
        · refine lv_iconst (v := 0) C.1 C.2.1 dX12_not4_50 (by decide) ?_
          exact mw_iret C hr hlk Z hP hS dX12_not4_51 (⟨((((mFp.rf σ).tr f105).tr f113).si (by decide) _), by rw [gN_1, gNot_I (by omega) (by rw [e103]; exact hg110)]; exact ⟨⟨k116, p117, ts118, e119, h123⟩, by have z := ruV_not v121; rwa [show bI (r107 = 0) = 0 by simp [bI, c124]] at z⟩⟩)
        · refine lv_iconst (v := 1) C.1 C.2.1 dX12_not4_46 (by decide) ?_
          refine lv_goto (tgt := 51) C.1 C.2.1 dX12_not4_47 (by decide) ?_
          exact mw_iret C hr hlk Z hP hS dX12_not4_51 (⟨((((mFp.rf σ).tr f105).tr f113).si (by decide) _), by rw [gN_1, gNot_I (by omega) (by rw [e103]; exact hg110)]; exact ⟨⟨k116, p117, ts118, e119, h123⟩, by have z := ruV_not v121; rwa [show bI (r107 = 0) = 1 by simp [bI, c124]] at z⟩⟩)
      · rw [hg110] at q109
        obtain ⟨f113, hb122⟩ := q109
        refine lv_istore_n (lv' := [(1, .int r107), (0, .ref (mw_a E 0))]) C.1 C.2.1 dX12_not4_31 rfl hl (by decide) rfl (fun ls hl => ?_)
        refine lv_aload_n C.1 C.2.1 dX12_not4_32 rfl (lv_at hl 1 rfl) ?_
        refine lv_dup C.1 C.2.1 dX12_not4_33 rfl ?_
        refine mw_geti C Z hP (0) 23 (by decide) rfl rfl rfl (by decide) inX12 tw_4_187 dX12_not4_34 ?_
        refine lv_iconst (v := 1) C.1 C.2.1 dX12_not4_37 (by decide) ?_
        refine lv_isub C.1 C.2.1 dX12_not4_38 ?_
        refine mw_puti C Z hP hS (0) 23 (by decide) rfl rfl rfl (by decide) inX12 tyX12 tyX12_ok nmX12 rfl tw_4_187 rfl rfl dX12_not4_39 (fun H locs hP hS => ?_)
        have hb125 : mBd (mw_si u108 0 23 ((u108.1 0 23) - 1)) qq112 := hb122
        refine lv_iload_n C.1 C.2.1 dX12_not4_42 rfl (lv_at hl 0 rfl) ?_
        refine lv_if_ne (tgt := 50) C.1 C.2.1 dX12_not4_43 (by decide) (fun c126 => ?_) (fun c126 => ?_)
        · refine lv_iconst (v := 0) C.1 C.2.1 dX12_not4_50 (by decide) ?_
          exact mw_iret C hr hlk Z hP hS dX12_not4_51 (⟨((((mFp.rf σ).tr f105).tr f113).si (by decide) _), by rw [gN_1, gNot_F (by omega) (by rw [e103]; exact hg110)]; exact hb125⟩)
        · refine lv_iconst (v := 1) C.1 C.2.1 dX12_not4_46 (by decide) ?_
          refine lv_goto (tgt := 51) C.1 C.2.1 dX12_not4_47 (by decide) ?_
          exact mw_iret C hr hlk Z hP hS dX12_not4_51 (⟨((((mFp.rf σ).tr f105).tr f113).si (by decide) _), by rw [gN_1, gNot_F (by omega) (by rw [e103]; exact hg110)]; exact hb125⟩)
    · exact absurd c106 (by decide)

set_option maxHeartbeats 4000000 in
set_option maxRecDepth 100000 in
theorem cM_both4 (l : Launch) (E : mw_E) (σ : mw_M) (t n : Nat) (bs : Nat → Int32) (k p : Nat) (ts : List (Nat × Nat)) (h : mPS σ t n bs k p ts 4) : mw_Ci shM 13 gM l yX12_both4 cX12_both4 3 (some .int) (rmF 14 311) E [.ref (mw_a E 0)] σ (fun r u => mOK σ u t n bs 4 r (gLevel gAnd (gD 1).2.1 ((k, p) :: ts))) := by
  refine mw_of (by decide) gM_ok (Nat.le_of_ble_eq_true rfl) ?_
  intro p_ e_ s_ m_ below meth c_ C hr hlk Z hP ls hl
  have C : CallFix p_ m_ c_ cX12_both4 3 s_ _ lw_good RX12 := C
  have hl : lv_has ls 3 [(0, .ref (mw_a E 0))] := hl
  have hS : va_S (mw_A 13 E) s_.heap s_.heap [] := va_S.rf
  refine lv_aload_n C.1 C.2.1 dX12_both4_0 rfl (lv_at hl 0 rfl) ?_
  refine mw_cVi (As := []) (rest := []) C Z hP hS (0) (cM_not4 l E σ t n bs k p ts h) vb_X12_not4 tw_5_121 ⟨rfl, rfl⟩ ⟨Nat.le_of_ble_eq_true rfl, Nat.le_of_ble_eq_true rfl⟩ (by decide) rfl rfl rfl rfl hl.1 rfl (Nat.le_of_ble_eq_true rfl) dX12_both4_1 ⟨Nat.zero_le _, Nat.zero_le _⟩ (fun r1 u2 H locs q3 hP hS => ?_)
  rcases hg4 : ((gD 1).2.1) ((k, p) :: ts) with zz5 | qq6
  · obtain ⟨cs8, ts9⟩ := zz5
    rw [hg4] at q3
    obtain ⟨f7, ⟨k10, p11, ts12, e13, h14⟩, v15⟩ := q3
    have v15 := (mFp.rf σ).evv v15
    refine lv_istore_n (lv' := [(1, .int r1), (0, .ref (mw_a E 0))]) C.1 C.2.1 dX12_both4_4 rfl hl (by decide) rfl (fun ls hl => ?_)
    have lp : ∀ (N : Nat) (cs : List Nat) (k2 p2 : Nat) (ts2 : List (Nat × Nat)) (v : Int32) (ς : mw_M) (H : Heap) (locs : List Loc), ts2.length + 1 ≤ N → mPS ς t n bs k2 p2 ts2 4 → mFp σ ς → ruV (mEv σ) cs v → gLevel gAnd (gD 1).2.1 ((k, p) :: ts) = gLoop gAnd ((gD 1).2.1) N cs ((k2, p2) :: ts2) → va_P (mw_D E) vwCl (mw_ws shM 13 E ς) H → va_S (mw_A 13 E) s_.heap H locs → ∀ (ls : Array Slot), lv_has ls 3 [(0, .ref (mw_a E 0)), (1, .int v)] → mWi p_ l e_ (rmF 14 311) s_ m_ [.ref (mw_a E 0)] below meth c_ E (fun r u => mOK σ u t n bs 4 r (gLevel gAnd (gD 1).2.1 ((k, p) :: ts))) H locs (F0 m_ 5 ls []) := by
      intro N
      induction N with
      | zero => intro cs k2 p2 ts2 v ς H locs hN; exact absurd hN (by omega)
      | succ N ih =>
        intro cs k2 p2 ts2 v ς H locs hN h2 f2 hv hR hP hS ls hl
        refine lv_aload_n C.1 C.2.1 dX12_both4_5 rfl (lv_at hl 0 rfl) ?_
        refine lv_bipush (v := 97) C.1 C.2.1 dX12_both4_6 (by decide) ?_
        refine lv_bipush (v := 110) C.1 C.2.1 dX12_both4_8 (by decide) ?_
        refine lv_bipush (v := 100) C.1 C.2.1 dX12_both4_10 (by decide) ?_
        refine lv_iconst (v := 0) C.1 C.2.1 dX12_both4_12 (by decide) ?_
        refine lv_iconst (v := 0) C.1 C.2.1 dX12_both4_13 (by decide) ?_
        refine lv_iconst (v := 0) C.1 C.2.1 dX12_both4_14 (by decide) ?_
        refine lv_iconst (v := 0) C.1 C.2.1 dX12_both4_15 (by decide) ?_
        refine lv_iconst (v := 0) C.1 C.2.1 dX12_both4_16 (by decide) ?_
        refine mw_cVi (As := [.int 97, .int 110, .int 100, .int 0, .int 0, .int 0, .int 0, .int 0]) (rest := []) C Z hP hS (0) (cM_isWordP l E ς t n bs k2 p2 ts2 4 h2 10 (by decide)) vb_X12_isWord tw_5_77 ⟨rfl, rfl⟩ ⟨Nat.le_of_ble_eq_true rfl, Nat.le_of_ble_eq_true rfl⟩ (by decide) rfl rfl rfl rfl hl.1 rfl (Nat.le_of_ble_eq_true rfl) dX12_both4_17 ⟨Nat.zero_le _, Nat.zero_le _⟩ (fun r17 u18 H locs q19 hP hS => ?_)
        obtain ⟨rfl, q19u⟩ := q19
        rw [q19u] at hP; clear q19u
        refine lv_if_eq (tgt := 49) C.1 C.2.1 dX12_both4_20 (by decide) (fun c20 => ?_) (fun c20 => ?_)
        · have c20 := bI_0.mp c20
          refine lv_iload_n C.1 C.2.1 dX12_both4_49 rfl (lv_at hl 1 rfl) ?_
          exact mw_iret C hr hlk Z hP hS dX12_both4_50 (⟨f2, by rw [hR, gLoop_e (by simp only [gTim, gAdd, gAnd, gOr, beq_iff_eq, Bool.or_eq_true]; omega)]; exact ⟨⟨k2, p2, ts2, rfl, h2⟩, hv⟩⟩)
        · have c20 := bI_n.mp c20
          refine lv_aload_n C.1 C.2.1 dX12_both4_23 rfl (lv_at hl 0 rfl) ?_
          refine mw_cVv (As := []) (rest := []) C Z hP hS (0) (cM_nextP l E ς t n bs k2 p2 ts2 4 h2 (by omega) (by omega)) vb_X12_next tw_5_64 ⟨rfl, rfl⟩ ⟨Nat.le_of_ble_eq_true rfl, Nat.le_of_ble_eq_true rfl⟩ (by decide) rfl rfl rfl rfl hl.1 rfl (Nat.le_of_ble_eq_true rfl) dX12_both4_24 ⟨Nat.zero_le _, Nat.zero_le _⟩ (fun u22 H locs q23 hP hS => ?_)
          obtain ⟨⟨k24, p25, ts26, e27, h28⟩, f29⟩ := q23
          refine lv_aload_n C.1 C.2.1 dX12_both4_27 rfl (lv_at hl 0 rfl) ?_
          refine mw_cVi (As := []) (rest := []) C Z hP hS (0) (cM_not4 l E u22 t n bs k24 p25 ts26 h28) vb_X12_not4 tw_5_121 ⟨rfl, rfl⟩ ⟨Nat.le_of_ble_eq_true rfl, Nat.le_of_ble_eq_true rfl⟩ (by decide) rfl rfl rfl rfl hl.1 rfl (Nat.le_of_ble_eq_true rfl) dX12_both4_28 ⟨Nat.zero_le _, Nat.zero_le _⟩ (fun r30 u31 H locs q32 hP hS => ?_)
          rcases hg33 : ((gD 1).2.1) ((k24, p25) :: ts26) with zz34 | qq35
          · obtain ⟨cs37, ts38⟩ := zz34
            rw [hg33] at q32
            obtain ⟨f36, ⟨k39, p40, ts41, e42, h43⟩, v44⟩ := q32
            have v44 := (f2.tr f29).evv v44
            refine lv_istore_n (lv' := [(2, .int r30), (0, .ref (mw_a E 0)), (1, .int v)]) C.1 C.2.1 dX12_both4_31 rfl hl (by decide) rfl (fun ls hl => ?_)
            refine lv_iload_n C.1 C.2.1 dX12_both4_32 rfl (lv_at hl 2 rfl) ?_
            refine lv_if_eq (tgt := 44) C.1 C.2.1 dX12_both4_33 (by decide) (fun c46 => ?_) (fun c46 => ?_)
            · refine lv_iconst (v := 0) C.1 C.2.1 dX12_both4_44 (by decide) ?_
              refine lv_istore_n (lv' := [(1, .int 0), (2, .int r30), (0, .ref (mw_a E 0))]) C.1 C.2.1 dX12_both4_45 rfl hl (by decide) rfl (fun ls hl => ?_)
              refine lv_goto (tgt := 5) C.1 C.2.1 dX12_both4_46 (by decide) ?_
              exact ih (cs ++ cs37 ++ [k2]) k39 p40 ts41 0 u31 _ _ (by have d := (gD_dec 1).2.1 _ _ _ hg33; rw [e42, List.length_cons, List.length_cons] at d; rw [e27, List.length_cons] at hN; omega) h43 ((f2.tr f29).tr f36) (by have z := ruV_op (c := k2) hv v44 (by omega); rwa [show opF k2 v r30 = 0 by rw [c20]; simp [opF, bI, c46]] at z) (by rw [hR, gLoop_s (by simp only [gTim, gAdd, gAnd, gOr, beq_iff_eq, Bool.or_eq_true]; omega) (by rw [e27]; exact hg33), e42]) hP hS ls (lv_sub hl [2, 0] rfl)
            · refine lv_iload_n C.1 C.2.1 dX12_both4_36 rfl (lv_at hl 0 rfl) ?_
              refine lv_if_eq (tgt := 44) C.1 C.2.1 dX12_both4_37 (by decide) (fun c47 => ?_) (fun c47 => ?_)
              · refine lv_iconst (v := 0) C.1 C.2.1 dX12_both4_44 (by decide) ?_
                refine lv_istore_n (lv' := [(1, .int 0), (2, .int r30), (0, .ref (mw_a E 0))]) C.1 C.2.1 dX12_both4_45 rfl hl (by decide) rfl (fun ls hl => ?_)
                refine lv_goto (tgt := 5) C.1 C.2.1 dX12_both4_46 (by decide) ?_
                exact ih (cs ++ cs37 ++ [k2]) k39 p40 ts41 0 u31 _ _ (by have d := (gD_dec 1).2.1 _ _ _ hg33; rw [e42, List.length_cons, List.length_cons] at d; rw [e27, List.length_cons] at hN; omega) h43 ((f2.tr f29).tr f36) (by have z := ruV_op (c := k2) hv v44 (by omega); rwa [show opF k2 v r30 = 0 by rw [c20]; simp [opF, bI, c46, c47]] at z) (by rw [hR, gLoop_s (by simp only [gTim, gAdd, gAnd, gOr, beq_iff_eq, Bool.or_eq_true]; omega) (by rw [e27]; exact hg33), e42]) hP hS ls (lv_sub hl [2, 0] rfl)
              · refine lv_iconst (v := 1) C.1 C.2.1 dX12_both4_40 (by decide) ?_
                refine lv_goto (tgt := 45) C.1 C.2.1 dX12_both4_41 (by decide) ?_
                refine lv_istore_n (lv' := [(1, .int 1), (2, .int r30), (0, .ref (mw_a E 0))]) C.1 C.2.1 dX12_both4_45 rfl hl (by decide) rfl (fun ls hl => ?_)
                refine lv_goto (tgt := 5) C.1 C.2.1 dX12_both4_46 (by decide) ?_
                exact ih (cs ++ cs37 ++ [k2]) k39 p40 ts41 1 u31 _ _ (by have d := (gD_dec 1).2.1 _ _ _ hg33; rw [e42, List.length_cons, List.length_cons] at d; rw [e27, List.length_cons] at hN; omega) h43 ((f2.tr f29).tr f36) (by have z := ruV_op (c := k2) hv v44 (by omega); rwa [show opF k2 v r30 = 1 by rw [c20]; simp [opF, bI, c46, c47]] at z) (by rw [hR, gLoop_s (by simp only [gTim, gAdd, gAnd, gOr, beq_iff_eq, Bool.or_eq_true]; omega) (by rw [e27]; exact hg33), e42]) hP hS ls (lv_sub hl [2, 0] rfl)
          · rw [hg33] at q32
            obtain ⟨f36, hb45⟩ := q32
            refine lv_istore_n (lv' := [(2, .int r30), (0, .ref (mw_a E 0)), (1, .int v)]) C.1 C.2.1 dX12_both4_31 rfl hl (by decide) rfl (fun ls hl => ?_)
            refine lv_iload_n C.1 C.2.1 dX12_both4_32 rfl (lv_at hl 2 rfl) ?_
            refine lv_if_eq (tgt := 44) C.1 C.2.1 dX12_both4_33 (by decide) (fun c48 => ?_) (fun c48 => ?_)
            · refine lv_iconst (v := 0) C.1 C.2.1 dX12_both4_44 (by decide) ?_
              refine lv_istore_n (lv' := [(1, .int 0), (2, .int r30), (0, .ref (mw_a E 0))]) C.1 C.2.1 dX12_both4_45 rfl hl (by decide) rfl (fun ls hl => ?_)
              refine lv_goto (tgt := 5) C.1 C.2.1 dX12_both4_46 (by decide) ?_
              refine lv_aload_n C.1 C.2.1 dX12_both4_5 rfl (lv_at hl 2 rfl) ?_
              refine lv_bipush (v := 97) C.1 C.2.1 dX12_both4_6 (by decide) ?_
              refine lv_bipush (v := 110) C.1 C.2.1 dX12_both4_8 (by decide) ?_
              refine lv_bipush (v := 100) C.1 C.2.1 dX12_both4_10 (by decide) ?_
              refine lv_iconst (v := 0) C.1 C.2.1 dX12_both4_12 (by decide) ?_
              refine lv_iconst (v := 0) C.1 C.2.1 dX12_both4_13 (by decide) ?_
              refine lv_iconst (v := 0) C.1 C.2.1 dX12_both4_14 (by decide) ?_
              refine lv_iconst (v := 0) C.1 C.2.1 dX12_both4_15 (by decide) ?_
              refine lv_iconst (v := 0) C.1 C.2.1 dX12_both4_16 (by decide) ?_
              refine mw_cVi (As := [.int 97, .int 110, .int 100, .int 0, .int 0, .int 0, .int 0, .int 0]) (rest := []) C Z hP hS (0) (cM_isWordB l E u31 hb45.1 97 110 100 0 0 0 0 0) vb_X12_isWord tw_5_77 ⟨rfl, rfl⟩ ⟨Nat.le_of_ble_eq_true rfl, Nat.le_of_ble_eq_true rfl⟩ (by decide) rfl rfl rfl rfl hl.1 rfl (Nat.le_of_ble_eq_true rfl) dX12_both4_17 ⟨Nat.zero_le _, Nat.zero_le _⟩ (fun r49 u50 H locs q51 hP hS => ?_)
              obtain ⟨rfl, q51u⟩ := q51
              rw [q51u] at hP; clear q51u
              refine lv_if_eq (tgt := 49) C.1 C.2.1 dX12_both4_20 (by decide) (fun c52 => ?_) (fun c52 => ?_)
              · refine lv_iload_n C.1 C.2.1 dX12_both4_49 rfl (lv_at hl 0 rfl) ?_
                exact mw_iret C hr hlk Z hP hS dX12_both4_50 (⟨((f2.tr f29).tr f36), by rw [hR, gLoop_f (by simp only [gTim, gAdd, gAnd, gOr, beq_iff_eq, Bool.or_eq_true]; omega) (by rw [e27]; exact hg33)]; exact hb45⟩)
              · exact absurd c52 (by decide)
            · refine lv_iload_n C.1 C.2.1 dX12_both4_36 rfl (lv_at hl 0 rfl) ?_
              refine lv_if_eq (tgt := 44) C.1 C.2.1 dX12_both4_37 (by decide) (fun c53 => ?_) (fun c53 => ?_)
              · refine lv_iconst (v := 0) C.1 C.2.1 dX12_both4_44 (by decide) ?_
                refine lv_istore_n (lv' := [(1, .int 0), (2, .int r30), (0, .ref (mw_a E 0))]) C.1 C.2.1 dX12_both4_45 rfl hl (by decide) rfl (fun ls hl => ?_)
                refine lv_goto (tgt := 5) C.1 C.2.1 dX12_both4_46 (by decide) ?_
                refine lv_aload_n C.1 C.2.1 dX12_both4_5 rfl (lv_at hl 2 rfl) ?_
                refine lv_bipush (v := 97) C.1 C.2.1 dX12_both4_6 (by decide) ?_
                refine lv_bipush (v := 110) C.1 C.2.1 dX12_both4_8 (by decide) ?_
                refine lv_bipush (v := 100) C.1 C.2.1 dX12_both4_10 (by decide) ?_
                refine lv_iconst (v := 0) C.1 C.2.1 dX12_both4_12 (by decide) ?_
                refine lv_iconst (v := 0) C.1 C.2.1 dX12_both4_13 (by decide) ?_
                refine lv_iconst (v := 0) C.1 C.2.1 dX12_both4_14 (by decide) ?_
                refine lv_iconst (v := 0) C.1 C.2.1 dX12_both4_15 (by decide) ?_
                refine lv_iconst (v := 0) C.1 C.2.1 dX12_both4_16 (by decide) ?_
                refine mw_cVi (As := [.int 97, .int 110, .int 100, .int 0, .int 0, .int 0, .int 0, .int 0]) (rest := []) C Z hP hS (0) (cM_isWordB l E u31 hb45.1 97 110 100 0 0 0 0 0) vb_X12_isWord tw_5_77 ⟨rfl, rfl⟩ ⟨Nat.le_of_ble_eq_true rfl, Nat.le_of_ble_eq_true rfl⟩ (by decide) rfl rfl rfl rfl hl.1 rfl (Nat.le_of_ble_eq_true rfl) dX12_both4_17 ⟨Nat.zero_le _, Nat.zero_le _⟩ (fun r54 u55 H locs q56 hP hS => ?_)
                obtain ⟨rfl, q56u⟩ := q56
                rw [q56u] at hP; clear q56u
                refine lv_if_eq (tgt := 49) C.1 C.2.1 dX12_both4_20 (by decide) (fun c57 => ?_) (fun c57 => ?_)
                · refine lv_iload_n C.1 C.2.1 dX12_both4_49 rfl (lv_at hl 0 rfl) ?_
                  exact mw_iret C hr hlk Z hP hS dX12_both4_50 (⟨((f2.tr f29).tr f36), by rw [hR, gLoop_f (by simp only [gTim, gAdd, gAnd, gOr, beq_iff_eq, Bool.or_eq_true]; omega) (by rw [e27]; exact hg33)]; exact hb45⟩)
                · exact absurd c57 (by decide)
              · refine lv_iconst (v := 1) C.1 C.2.1 dX12_both4_40 (by decide) ?_
                refine lv_goto (tgt := 45) C.1 C.2.1 dX12_both4_41 (by decide) ?_
                refine lv_istore_n (lv' := [(1, .int 1), (2, .int r30), (0, .ref (mw_a E 0))]) C.1 C.2.1 dX12_both4_45 rfl hl (by decide) rfl (fun ls hl => ?_)
                refine lv_goto (tgt := 5) C.1 C.2.1 dX12_both4_46 (by decide) ?_
                refine lv_aload_n C.1 C.2.1 dX12_both4_5 rfl (lv_at hl 2 rfl) ?_
                refine lv_bipush (v := 97) C.1 C.2.1 dX12_both4_6 (by decide) ?_
                refine lv_bipush (v := 110) C.1 C.2.1 dX12_both4_8 (by decide) ?_
                refine lv_bipush (v := 100) C.1 C.2.1 dX12_both4_10 (by decide) ?_
                refine lv_iconst (v := 0) C.1 C.2.1 dX12_both4_12 (by decide) ?_
                refine lv_iconst (v := 0) C.1 C.2.1 dX12_both4_13 (by decide) ?_
                refine lv_iconst (v := 0) C.1 C.2.1 dX12_both4_14 (by decide) ?_
                refine lv_iconst (v := 0) C.1 C.2.1 dX12_both4_15 (by decide) ?_
                refine lv_iconst (v := 0) C.1 C.2.1 dX12_both4_16 (by decide) ?_
                refine mw_cVi (As := [.int 97, .int 110, .int 100, .int 0, .int 0, .int 0, .int 0, .int 0]) (rest := []) C Z hP hS (0) (cM_isWordB l E u31 hb45.1 97 110 100 0 0 0 0 0) vb_X12_isWord tw_5_77 ⟨rfl, rfl⟩ ⟨Nat.le_of_ble_eq_true rfl, Nat.le_of_ble_eq_true rfl⟩ (by decide) rfl rfl rfl rfl hl.1 rfl (Nat.le_of_ble_eq_true rfl) dX12_both4_17 ⟨Nat.zero_le _, Nat.zero_le _⟩ (fun r58 u59 H locs q60 hP hS => ?_)
                obtain ⟨rfl, q60u⟩ := q60
                rw [q60u] at hP; clear q60u
                refine lv_if_eq (tgt := 49) C.1 C.2.1 dX12_both4_20 (by decide) (fun c61 => ?_) (fun c61 => ?_)
                · refine lv_iload_n C.1 C.2.1 dX12_both4_49 rfl (lv_at hl 0 rfl) ?_
                  exact mw_iret C hr hlk Z hP hS dX12_both4_50 (⟨((f2.tr f29).tr f36), by rw [hR, gLoop_f (by simp only [gTim, gAdd, gAnd, gOr, beq_iff_eq, Bool.or_eq_true]; omega) (by rw [e27]; exact hg33)]; exact hb45⟩)
                · exact absurd c61 (by decide)
    exact lp (ts12.length + 1) cs8 k10 p11 ts12 r1 u2 _ _ (Nat.le_refl _) h14 ((mFp.rf σ).tr f7) v15 (by rw [gLevel_I hg4, e13]; rfl) hP hS ls (lv_sub hl [1, 0] rfl)
  · rw [hg4] at q3
    obtain ⟨f7, hb16⟩ := q3
    refine lv_istore_n (lv' := [(1, .int r1), (0, .ref (mw_a E 0))]) C.1 C.2.1 dX12_both4_4 rfl hl (by decide) rfl (fun ls hl => ?_)
    refine lv_aload_n C.1 C.2.1 dX12_both4_5 rfl (lv_at hl 1 rfl) ?_
    refine lv_bipush (v := 97) C.1 C.2.1 dX12_both4_6 (by decide) ?_
    refine lv_bipush (v := 110) C.1 C.2.1 dX12_both4_8 (by decide) ?_
    refine lv_bipush (v := 100) C.1 C.2.1 dX12_both4_10 (by decide) ?_
    refine lv_iconst (v := 0) C.1 C.2.1 dX12_both4_12 (by decide) ?_
    refine lv_iconst (v := 0) C.1 C.2.1 dX12_both4_13 (by decide) ?_
    refine lv_iconst (v := 0) C.1 C.2.1 dX12_both4_14 (by decide) ?_
    refine lv_iconst (v := 0) C.1 C.2.1 dX12_both4_15 (by decide) ?_
    refine lv_iconst (v := 0) C.1 C.2.1 dX12_both4_16 (by decide) ?_
    refine mw_cVi (As := [.int 97, .int 110, .int 100, .int 0, .int 0, .int 0, .int 0, .int 0]) (rest := []) C Z hP hS (0) (cM_isWordB l E u2 hb16.1 97 110 100 0 0 0 0 0) vb_X12_isWord tw_5_77 ⟨rfl, rfl⟩ ⟨Nat.le_of_ble_eq_true rfl, Nat.le_of_ble_eq_true rfl⟩ (by decide) rfl rfl rfl rfl hl.1 rfl (Nat.le_of_ble_eq_true rfl) dX12_both4_17 ⟨Nat.zero_le _, Nat.zero_le _⟩ (fun r62 u63 H locs q64 hP hS => ?_)
    obtain ⟨rfl, q64u⟩ := q64
    rw [q64u] at hP; clear q64u
    refine lv_if_eq (tgt := 49) C.1 C.2.1 dX12_both4_20 (by decide) (fun c65 => ?_) (fun c65 => ?_)
    · refine lv_iload_n C.1 C.2.1 dX12_both4_49 rfl (lv_at hl 0 rfl) ?_
      exact mw_iret C hr hlk Z hP hS dX12_both4_50 (⟨((mFp.rf σ).tr f7), by rw [gLevel_F hg4]; exact hb16⟩)
    · exact absurd c65 (by decide)

set_option maxHeartbeats 4000000 in
set_option maxRecDepth 100000 in
theorem cM_either4 (l : Launch) (E : mw_E) (σ : mw_M) (t n : Nat) (bs : Nat → Int32) (k p : Nat) (ts : List (Nat × Nat)) (h : mPS σ t n bs k p ts 4) : mw_Ci shM 13 gM l yX12_either4 cX12_either4 3 (some .int) (rmF 15 333) E [.ref (mw_a E 0)] σ (fun r u => mOK σ u t n bs 4 r ((gD 1).2.2 ((k, p) :: ts))) := by
  refine mw_of (by decide) gM_ok (Nat.le_of_ble_eq_true rfl) ?_
  intro p_ e_ s_ m_ below meth c_ C hr hlk Z hP ls hl
  have C : CallFix p_ m_ c_ cX12_either4 3 s_ _ lw_good RX12 := C
  have hl : lv_has ls 3 [(0, .ref (mw_a E 0))] := hl
  have hS : va_S (mw_A 13 E) s_.heap s_.heap [] := va_S.rf
  refine lv_aload_n C.1 C.2.1 dX12_either4_0 rfl (lv_at hl 0 rfl) ?_
  refine mw_cVi (As := []) (rest := []) C Z hP hS (0) (cM_both4 l E σ t n bs k p ts h) vb_X12_both4 tw_5_187 ⟨rfl, rfl⟩ ⟨Nat.le_of_ble_eq_true rfl, Nat.le_of_ble_eq_true rfl⟩ (by decide) rfl rfl rfl rfl hl.1 rfl (Nat.le_of_ble_eq_true rfl) dX12_either4_1 ⟨Nat.zero_le _, Nat.zero_le _⟩ (fun r1 u2 H locs q3 hP hS => ?_)
  rcases hg4 : (gLevel gAnd (gD 1).2.1) ((k, p) :: ts) with zz5 | qq6
  · obtain ⟨cs8, ts9⟩ := zz5
    rw [hg4] at q3
    obtain ⟨f7, ⟨k10, p11, ts12, e13, h14⟩, v15⟩ := q3
    have v15 := (mFp.rf σ).evv v15
    refine lv_istore_n (lv' := [(1, .int r1), (0, .ref (mw_a E 0))]) C.1 C.2.1 dX12_either4_4 rfl hl (by decide) rfl (fun ls hl => ?_)
    have lp : ∀ (N : Nat) (cs : List Nat) (k2 p2 : Nat) (ts2 : List (Nat × Nat)) (v : Int32) (ς : mw_M) (H : Heap) (locs : List Loc), ts2.length + 1 ≤ N → mPS ς t n bs k2 p2 ts2 4 → mFp σ ς → ruV (mEv σ) cs v → (gD 1).2.2 ((k, p) :: ts) = gLoop gOr (gLevel gAnd (gD 1).2.1) N cs ((k2, p2) :: ts2) → va_P (mw_D E) vwCl (mw_ws shM 13 E ς) H → va_S (mw_A 13 E) s_.heap H locs → ∀ (ls : Array Slot), lv_has ls 3 [(0, .ref (mw_a E 0)), (1, .int v)] → mWi p_ l e_ (rmF 15 333) s_ m_ [.ref (mw_a E 0)] below meth c_ E (fun r u => mOK σ u t n bs 4 r ((gD 1).2.2 ((k, p) :: ts))) H locs (F0 m_ 5 ls []) := by
      intro N
      induction N with
      | zero => intro cs k2 p2 ts2 v ς H locs hN; exact absurd hN (by omega)
      | succ N ih =>
        intro cs k2 p2 ts2 v ς H locs hN h2 f2 hv hR hP hS ls hl
        refine lv_aload_n C.1 C.2.1 dX12_either4_5 rfl (lv_at hl 0 rfl) ?_
        refine lv_bipush (v := 111) C.1 C.2.1 dX12_either4_6 (by decide) ?_
        refine lv_bipush (v := 114) C.1 C.2.1 dX12_either4_8 (by decide) ?_
        refine lv_iconst (v := 0) C.1 C.2.1 dX12_either4_10 (by decide) ?_
        refine lv_iconst (v := 0) C.1 C.2.1 dX12_either4_11 (by decide) ?_
        refine lv_iconst (v := 0) C.1 C.2.1 dX12_either4_12 (by decide) ?_
        refine lv_iconst (v := 0) C.1 C.2.1 dX12_either4_13 (by decide) ?_
        refine lv_iconst (v := 0) C.1 C.2.1 dX12_either4_14 (by decide) ?_
        refine lv_iconst (v := 0) C.1 C.2.1 dX12_either4_15 (by decide) ?_
        refine mw_cVi (As := [.int 111, .int 114, .int 0, .int 0, .int 0, .int 0, .int 0, .int 0]) (rest := []) C Z hP hS (0) (cM_isWordP l E ς t n bs k2 p2 ts2 4 h2 9 (by decide)) vb_X12_isWord tw_5_77 ⟨rfl, rfl⟩ ⟨Nat.le_of_ble_eq_true rfl, Nat.le_of_ble_eq_true rfl⟩ (by decide) rfl rfl rfl rfl hl.1 rfl (Nat.le_of_ble_eq_true rfl) dX12_either4_16 ⟨Nat.zero_le _, Nat.zero_le _⟩ (fun r17 u18 H locs q19 hP hS => ?_)
        obtain ⟨rfl, q19u⟩ := q19
        rw [q19u] at hP; clear q19u
        refine lv_if_eq (tgt := 48) C.1 C.2.1 dX12_either4_19 (by decide) (fun c20 => ?_) (fun c20 => ?_)
        · have c20 := bI_0.mp c20
          refine lv_iload_n C.1 C.2.1 dX12_either4_48 rfl (lv_at hl 1 rfl) ?_
          exact mw_iret C hr hlk Z hP hS dX12_either4_49 (⟨f2, by rw [hR, gLoop_e (by simp only [gTim, gAdd, gAnd, gOr, beq_iff_eq, Bool.or_eq_true]; omega)]; exact ⟨⟨k2, p2, ts2, rfl, h2⟩, hv⟩⟩)
        · have c20 := bI_n.mp c20
          refine lv_aload_n C.1 C.2.1 dX12_either4_22 rfl (lv_at hl 0 rfl) ?_
          refine mw_cVv (As := []) (rest := []) C Z hP hS (0) (cM_nextP l E ς t n bs k2 p2 ts2 4 h2 (by omega) (by omega)) vb_X12_next tw_5_64 ⟨rfl, rfl⟩ ⟨Nat.le_of_ble_eq_true rfl, Nat.le_of_ble_eq_true rfl⟩ (by decide) rfl rfl rfl rfl hl.1 rfl (Nat.le_of_ble_eq_true rfl) dX12_either4_23 ⟨Nat.zero_le _, Nat.zero_le _⟩ (fun u22 H locs q23 hP hS => ?_)
          obtain ⟨⟨k24, p25, ts26, e27, h28⟩, f29⟩ := q23
          refine lv_aload_n C.1 C.2.1 dX12_either4_26 rfl (lv_at hl 0 rfl) ?_
          refine mw_cVi (As := []) (rest := []) C Z hP hS (0) (cM_both4 l E u22 t n bs k24 p25 ts26 h28) vb_X12_both4 tw_5_187 ⟨rfl, rfl⟩ ⟨Nat.le_of_ble_eq_true rfl, Nat.le_of_ble_eq_true rfl⟩ (by decide) rfl rfl rfl rfl hl.1 rfl (Nat.le_of_ble_eq_true rfl) dX12_either4_27 ⟨Nat.zero_le _, Nat.zero_le _⟩ (fun r30 u31 H locs q32 hP hS => ?_)
          rcases hg33 : (gLevel gAnd (gD 1).2.1) ((k24, p25) :: ts26) with zz34 | qq35
          · obtain ⟨cs37, ts38⟩ := zz34
            rw [hg33] at q32
            obtain ⟨f36, ⟨k39, p40, ts41, e42, h43⟩, v44⟩ := q32
            have v44 := (f2.tr f29).evv v44
            refine lv_istore_n (lv' := [(2, .int r30), (0, .ref (mw_a E 0)), (1, .int v)]) C.1 C.2.1 dX12_either4_30 rfl hl (by decide) rfl (fun ls hl => ?_)
            refine lv_iload_n C.1 C.2.1 dX12_either4_31 rfl (lv_at hl 2 rfl) ?_
            refine lv_if_ne (tgt := 39) C.1 C.2.1 dX12_either4_32 (by decide) (fun c46 => ?_) (fun c46 => ?_)
            · refine lv_iconst (v := 1) C.1 C.2.1 dX12_either4_39 (by decide) ?_
              refine lv_goto (tgt := 44) C.1 C.2.1 dX12_either4_40 (by decide) ?_
              refine lv_istore_n (lv' := [(1, .int 1), (2, .int r30), (0, .ref (mw_a E 0))]) C.1 C.2.1 dX12_either4_44 rfl hl (by decide) rfl (fun ls hl => ?_)
              refine lv_goto (tgt := 5) C.1 C.2.1 dX12_either4_45 (by decide) ?_
              exact ih (cs ++ cs37 ++ [k2]) k39 p40 ts41 1 u31 _ _ (by have d := (gLevel_dec (gD_dec 1).2.1) _ _ _ hg33; rw [e42, List.length_cons, List.length_cons] at d; rw [e27, List.length_cons] at hN; omega) h43 ((f2.tr f29).tr f36) (by have z := ruV_op (c := k2) hv v44 (by omega); rwa [show opF k2 v r30 = 1 by rw [c20]; simp [opF, bI, c46]] at z) (by rw [hR, gLoop_s (by simp only [gTim, gAdd, gAnd, gOr, beq_iff_eq, Bool.or_eq_true]; omega) (by rw [e27]; exact hg33), e42]) hP hS ls (lv_sub hl [2, 0] rfl)
            · refine lv_iload_n C.1 C.2.1 dX12_either4_35 rfl (lv_at hl 0 rfl) ?_
              refine lv_if_eq (tgt := 43) C.1 C.2.1 dX12_either4_36 (by decide) (fun c47 => ?_) (fun c47 => ?_)
              · refine lv_iconst (v := 0) C.1 C.2.1 dX12_either4_43 (by decide) ?_
                refine lv_istore_n (lv' := [(1, .int 0), (2, .int r30), (0, .ref (mw_a E 0))]) C.1 C.2.1 dX12_either4_44 rfl hl (by decide) rfl (fun ls hl => ?_)
                refine lv_goto (tgt := 5) C.1 C.2.1 dX12_either4_45 (by decide) ?_
                exact ih (cs ++ cs37 ++ [k2]) k39 p40 ts41 0 u31 _ _ (by have d := (gLevel_dec (gD_dec 1).2.1) _ _ _ hg33; rw [e42, List.length_cons, List.length_cons] at d; rw [e27, List.length_cons] at hN; omega) h43 ((f2.tr f29).tr f36) (by have z := ruV_op (c := k2) hv v44 (by omega); rwa [show opF k2 v r30 = 0 by rw [c20]; simp [opF, bI, c46, c47]] at z) (by rw [hR, gLoop_s (by simp only [gTim, gAdd, gAnd, gOr, beq_iff_eq, Bool.or_eq_true]; omega) (by rw [e27]; exact hg33), e42]) hP hS ls (lv_sub hl [2, 0] rfl)
              · refine lv_iconst (v := 1) C.1 C.2.1 dX12_either4_39 (by decide) ?_
                refine lv_goto (tgt := 44) C.1 C.2.1 dX12_either4_40 (by decide) ?_
                refine lv_istore_n (lv' := [(1, .int 1), (2, .int r30), (0, .ref (mw_a E 0))]) C.1 C.2.1 dX12_either4_44 rfl hl (by decide) rfl (fun ls hl => ?_)
                refine lv_goto (tgt := 5) C.1 C.2.1 dX12_either4_45 (by decide) ?_
                exact ih (cs ++ cs37 ++ [k2]) k39 p40 ts41 1 u31 _ _ (by have d := (gLevel_dec (gD_dec 1).2.1) _ _ _ hg33; rw [e42, List.length_cons, List.length_cons] at d; rw [e27, List.length_cons] at hN; omega) h43 ((f2.tr f29).tr f36) (by have z := ruV_op (c := k2) hv v44 (by omega); rwa [show opF k2 v r30 = 1 by rw [c20]; simp [opF, bI, c46, c47]] at z) (by rw [hR, gLoop_s (by simp only [gTim, gAdd, gAnd, gOr, beq_iff_eq, Bool.or_eq_true]; omega) (by rw [e27]; exact hg33), e42]) hP hS ls (lv_sub hl [2, 0] rfl)
          · rw [hg33] at q32
            obtain ⟨f36, hb45⟩ := q32
            refine lv_istore_n (lv' := [(2, .int r30), (0, .ref (mw_a E 0)), (1, .int v)]) C.1 C.2.1 dX12_either4_30 rfl hl (by decide) rfl (fun ls hl => ?_)
            refine lv_iload_n C.1 C.2.1 dX12_either4_31 rfl (lv_at hl 2 rfl) ?_
            refine lv_if_ne (tgt := 39) C.1 C.2.1 dX12_either4_32 (by decide) (fun c48 => ?_) (fun c48 => ?_)
            · refine lv_iconst (v := 1) C.1 C.2.1 dX12_either4_39 (by decide) ?_
              refine lv_goto (tgt := 44) C.1 C.2.1 dX12_either4_40 (by decide) ?_
              refine lv_istore_n (lv' := [(1, .int 1), (2, .int r30), (0, .ref (mw_a E 0))]) C.1 C.2.1 dX12_either4_44 rfl hl (by decide) rfl (fun ls hl => ?_)
              refine lv_goto (tgt := 5) C.1 C.2.1 dX12_either4_45 (by decide) ?_
              refine lv_aload_n C.1 C.2.1 dX12_either4_5 rfl (lv_at hl 2 rfl) ?_
              refine lv_bipush (v := 111) C.1 C.2.1 dX12_either4_6 (by decide) ?_
              refine lv_bipush (v := 114) C.1 C.2.1 dX12_either4_8 (by decide) ?_
              refine lv_iconst (v := 0) C.1 C.2.1 dX12_either4_10 (by decide) ?_
              refine lv_iconst (v := 0) C.1 C.2.1 dX12_either4_11 (by decide) ?_
              refine lv_iconst (v := 0) C.1 C.2.1 dX12_either4_12 (by decide) ?_
              refine lv_iconst (v := 0) C.1 C.2.1 dX12_either4_13 (by decide) ?_
              refine lv_iconst (v := 0) C.1 C.2.1 dX12_either4_14 (by decide) ?_
              refine lv_iconst (v := 0) C.1 C.2.1 dX12_either4_15 (by decide) ?_
              refine mw_cVi (As := [.int 111, .int 114, .int 0, .int 0, .int 0, .int 0, .int 0, .int 0]) (rest := []) C Z hP hS (0) (cM_isWordB l E u31 hb45.1 111 114 0 0 0 0 0 0) vb_X12_isWord tw_5_77 ⟨rfl, rfl⟩ ⟨Nat.le_of_ble_eq_true rfl, Nat.le_of_ble_eq_true rfl⟩ (by decide) rfl rfl rfl rfl hl.1 rfl (Nat.le_of_ble_eq_true rfl) dX12_either4_16 ⟨Nat.zero_le _, Nat.zero_le _⟩ (fun r49 u50 H locs q51 hP hS => ?_)
              obtain ⟨rfl, q51u⟩ := q51
              rw [q51u] at hP; clear q51u
              refine lv_if_eq (tgt := 48) C.1 C.2.1 dX12_either4_19 (by decide) (fun c52 => ?_) (fun c52 => ?_)
              · refine lv_iload_n C.1 C.2.1 dX12_either4_48 rfl (lv_at hl 0 rfl) ?_
                exact mw_iret C hr hlk Z hP hS dX12_either4_49 (⟨((f2.tr f29).tr f36), by rw [hR, gLoop_f (by simp only [gTim, gAdd, gAnd, gOr, beq_iff_eq, Bool.or_eq_true]; omega) (by rw [e27]; exact hg33)]; exact hb45⟩)
              · exact absurd c52 (by decide)
            · refine lv_iload_n C.1 C.2.1 dX12_either4_35 rfl (lv_at hl 0 rfl) ?_
              refine lv_if_eq (tgt := 43) C.1 C.2.1 dX12_either4_36 (by decide) (fun c53 => ?_) (fun c53 => ?_)
              · refine lv_iconst (v := 0) C.1 C.2.1 dX12_either4_43 (by decide) ?_
                refine lv_istore_n (lv' := [(1, .int 0), (2, .int r30), (0, .ref (mw_a E 0))]) C.1 C.2.1 dX12_either4_44 rfl hl (by decide) rfl (fun ls hl => ?_)
                refine lv_goto (tgt := 5) C.1 C.2.1 dX12_either4_45 (by decide) ?_
                refine lv_aload_n C.1 C.2.1 dX12_either4_5 rfl (lv_at hl 2 rfl) ?_
                refine lv_bipush (v := 111) C.1 C.2.1 dX12_either4_6 (by decide) ?_
                refine lv_bipush (v := 114) C.1 C.2.1 dX12_either4_8 (by decide) ?_
                refine lv_iconst (v := 0) C.1 C.2.1 dX12_either4_10 (by decide) ?_
                refine lv_iconst (v := 0) C.1 C.2.1 dX12_either4_11 (by decide) ?_
                refine lv_iconst (v := 0) C.1 C.2.1 dX12_either4_12 (by decide) ?_
                refine lv_iconst (v := 0) C.1 C.2.1 dX12_either4_13 (by decide) ?_
                refine lv_iconst (v := 0) C.1 C.2.1 dX12_either4_14 (by decide) ?_
                refine lv_iconst (v := 0) C.1 C.2.1 dX12_either4_15 (by decide) ?_
                refine mw_cVi (As := [.int 111, .int 114, .int 0, .int 0, .int 0, .int 0, .int 0, .int 0]) (rest := []) C Z hP hS (0) (cM_isWordB l E u31 hb45.1 111 114 0 0 0 0 0 0) vb_X12_isWord tw_5_77 ⟨rfl, rfl⟩ ⟨Nat.le_of_ble_eq_true rfl, Nat.le_of_ble_eq_true rfl⟩ (by decide) rfl rfl rfl rfl hl.1 rfl (Nat.le_of_ble_eq_true rfl) dX12_either4_16 ⟨Nat.zero_le _, Nat.zero_le _⟩ (fun r54 u55 H locs q56 hP hS => ?_)
                obtain ⟨rfl, q56u⟩ := q56
                rw [q56u] at hP; clear q56u
                refine lv_if_eq (tgt := 48) C.1 C.2.1 dX12_either4_19 (by decide) (fun c57 => ?_) (fun c57 => ?_)
                · refine lv_iload_n C.1 C.2.1 dX12_either4_48 rfl (lv_at hl 0 rfl) ?_
                  exact mw_iret C hr hlk Z hP hS dX12_either4_49 (⟨((f2.tr f29).tr f36), by rw [hR, gLoop_f (by simp only [gTim, gAdd, gAnd, gOr, beq_iff_eq, Bool.or_eq_true]; omega) (by rw [e27]; exact hg33)]; exact hb45⟩)
                · exact absurd c57 (by decide)
              · refine lv_iconst (v := 1) C.1 C.2.1 dX12_either4_39 (by decide) ?_
                refine lv_goto (tgt := 44) C.1 C.2.1 dX12_either4_40 (by decide) ?_
                refine lv_istore_n (lv' := [(1, .int 1), (2, .int r30), (0, .ref (mw_a E 0))]) C.1 C.2.1 dX12_either4_44 rfl hl (by decide) rfl (fun ls hl => ?_)
                refine lv_goto (tgt := 5) C.1 C.2.1 dX12_either4_45 (by decide) ?_
                refine lv_aload_n C.1 C.2.1 dX12_either4_5 rfl (lv_at hl 2 rfl) ?_
                refine lv_bipush (v := 111) C.1 C.2.1 dX12_either4_6 (by decide) ?_
                refine lv_bipush (v := 114) C.1 C.2.1 dX12_either4_8 (by decide) ?_
                refine lv_iconst (v := 0) C.1 C.2.1 dX12_either4_10 (by decide) ?_
                refine lv_iconst (v := 0) C.1 C.2.1 dX12_either4_11 (by decide) ?_
                refine lv_iconst (v := 0) C.1 C.2.1 dX12_either4_12 (by decide) ?_
                refine lv_iconst (v := 0) C.1 C.2.1 dX12_either4_13 (by decide) ?_
                refine lv_iconst (v := 0) C.1 C.2.1 dX12_either4_14 (by decide) ?_
                refine lv_iconst (v := 0) C.1 C.2.1 dX12_either4_15 (by decide) ?_
                refine mw_cVi (As := [.int 111, .int 114, .int 0, .int 0, .int 0, .int 0, .int 0, .int 0]) (rest := []) C Z hP hS (0) (cM_isWordB l E u31 hb45.1 111 114 0 0 0 0 0 0) vb_X12_isWord tw_5_77 ⟨rfl, rfl⟩ ⟨Nat.le_of_ble_eq_true rfl, Nat.le_of_ble_eq_true rfl⟩ (by decide) rfl rfl rfl rfl hl.1 rfl (Nat.le_of_ble_eq_true rfl) dX12_either4_16 ⟨Nat.zero_le _, Nat.zero_le _⟩ (fun r58 u59 H locs q60 hP hS => ?_)
                obtain ⟨rfl, q60u⟩ := q60
                rw [q60u] at hP; clear q60u
                refine lv_if_eq (tgt := 48) C.1 C.2.1 dX12_either4_19 (by decide) (fun c61 => ?_) (fun c61 => ?_)
                · refine lv_iload_n C.1 C.2.1 dX12_either4_48 rfl (lv_at hl 0 rfl) ?_
                  exact mw_iret C hr hlk Z hP hS dX12_either4_49 (⟨((f2.tr f29).tr f36), by rw [hR, gLoop_f (by simp only [gTim, gAdd, gAnd, gOr, beq_iff_eq, Bool.or_eq_true]; omega) (by rw [e27]; exact hg33)]; exact hb45⟩)
                · exact absurd c61 (by decide)
    exact lp (ts12.length + 1) cs8 k10 p11 ts12 r1 u2 _ _ (Nat.le_refl _) h14 ((mFp.rf σ).tr f7) v15 (by rw [gE_1, gLevel_I hg4, e13]; rfl) hP hS ls (lv_sub hl [1, 0] rfl)
  · rw [hg4] at q3
    obtain ⟨f7, hb16⟩ := q3
    refine lv_istore_n (lv' := [(1, .int r1), (0, .ref (mw_a E 0))]) C.1 C.2.1 dX12_either4_4 rfl hl (by decide) rfl (fun ls hl => ?_)
    refine lv_aload_n C.1 C.2.1 dX12_either4_5 rfl (lv_at hl 1 rfl) ?_
    refine lv_bipush (v := 111) C.1 C.2.1 dX12_either4_6 (by decide) ?_
    refine lv_bipush (v := 114) C.1 C.2.1 dX12_either4_8 (by decide) ?_
    refine lv_iconst (v := 0) C.1 C.2.1 dX12_either4_10 (by decide) ?_
    refine lv_iconst (v := 0) C.1 C.2.1 dX12_either4_11 (by decide) ?_
    refine lv_iconst (v := 0) C.1 C.2.1 dX12_either4_12 (by decide) ?_
    refine lv_iconst (v := 0) C.1 C.2.1 dX12_either4_13 (by decide) ?_
    refine lv_iconst (v := 0) C.1 C.2.1 dX12_either4_14 (by decide) ?_
    refine lv_iconst (v := 0) C.1 C.2.1 dX12_either4_15 (by decide) ?_
    refine mw_cVi (As := [.int 111, .int 114, .int 0, .int 0, .int 0, .int 0, .int 0, .int 0]) (rest := []) C Z hP hS (0) (cM_isWordB l E u2 hb16.1 111 114 0 0 0 0 0 0) vb_X12_isWord tw_5_77 ⟨rfl, rfl⟩ ⟨Nat.le_of_ble_eq_true rfl, Nat.le_of_ble_eq_true rfl⟩ (by decide) rfl rfl rfl rfl hl.1 rfl (Nat.le_of_ble_eq_true rfl) dX12_either4_16 ⟨Nat.zero_le _, Nat.zero_le _⟩ (fun r62 u63 H locs q64 hP hS => ?_)
    obtain ⟨rfl, q64u⟩ := q64
    rw [q64u] at hP; clear q64u
    refine lv_if_eq (tgt := 48) C.1 C.2.1 dX12_either4_19 (by decide) (fun c65 => ?_) (fun c65 => ?_)
    · refine lv_iload_n C.1 C.2.1 dX12_either4_48 rfl (lv_at hl 0 rfl) ?_
      exact mw_iret C hr hlk Z hP hS dX12_either4_49 (⟨((mFp.rf σ).tr f7), by rw [gE_1, gLevel_F hg4]; exact hb16⟩)
    · exact absurd c65 (by decide)

set_option maxHeartbeats 4000000 in
set_option maxRecDepth 100000 in
theorem cM_atom3 (l : Launch) (E : mw_E) (σ : mw_M) (t n : Nat) (bs : Nat → Int32) (k p : Nat) (ts : List (Nat × Nat)) (h : mPS σ t n bs k p ts 3) : mw_Ci shM 13 gM l yX12_atom3 cX12_atom3 2 (some .int) (rmF 16 355) E [.ref (mw_a E 0)] σ (fun r u => mOK σ u t n bs 3 r ((gD 2).1 ((k, p) :: ts))) := by
  refine mw_of (by decide) gM_ok (Nat.le_of_ble_eq_true rfl) ?_
  intro p_ e_ s_ m_ below meth c_ C hr hlk Z hP ls hl
  have C : CallFix p_ m_ c_ cX12_atom3 2 s_ _ lw_good RX12 := C
  have hl : lv_has ls 2 [(0, .ref (mw_a E 0))] := hl
  have hS : va_S (mw_A 13 E) s_.heap s_.heap [] := va_S.rf
  refine lv_iconst (v := 0) C.1 C.2.1 dX12_atom3_0 (by decide) ?_
  refine lv_istore_n (lv' := [(1, .int 0), (0, .ref (mw_a E 0))]) C.1 C.2.1 dX12_atom3_1 rfl hl (by decide) rfl (fun ls hl => ?_)
  refine lv_aload_n C.1 C.2.1 dX12_atom3_2 rfl (lv_at hl 1 rfl) ?_
  refine lv_bipush (v := 45) C.1 C.2.1 dX12_atom3_3 (by decide) ?_
  refine mw_cVi (As := [.int 45]) (rest := []) C Z hP hS (0) (cM_isSignP l E σ t n bs k p ts 3 h 4 (by decide)) vb_X12_isSign tw_5_141 ⟨rfl, rfl⟩ ⟨Nat.le_of_ble_eq_true rfl, Nat.le_of_ble_eq_true rfl⟩ (by decide) rfl rfl rfl rfl hl.1 rfl (Nat.le_of_ble_eq_true rfl) dX12_atom3_5 ⟨Nat.zero_le _, Nat.zero_le _⟩ (fun r1 u2 H locs q3 hP hS => ?_)
  obtain ⟨rfl, q3u⟩ := q3
  rw [q3u] at hP; clear q3u
  refine lv_if_eq (tgt := 37) C.1 C.2.1 dX12_atom3_8 (by decide) (fun c4 => ?_) (fun c4 => ?_)
  · have c4 := bI_0.mp c4
    refine lv_aload_n C.1 C.2.1 dX12_atom3_37 rfl (lv_at hl 1 rfl) ?_
    refine lv_bipush (v := 40) C.1 C.2.1 dX12_atom3_38 (by decide) ?_
    refine mw_cVi (As := [.int 40]) (rest := []) C Z hP hS (0) (cM_isSignP l E σ t n bs k p ts 3 h 0 (by decide)) vb_X12_isSign tw_5_141 ⟨rfl, rfl⟩ ⟨Nat.le_of_ble_eq_true rfl, Nat.le_of_ble_eq_true rfl⟩ (by decide) rfl rfl rfl rfl hl.1 rfl (Nat.le_of_ble_eq_true rfl) dX12_atom3_40 ⟨Nat.zero_le _, Nat.zero_le _⟩ (fun r5 u6 H locs q7 hP hS => ?_)
    obtain ⟨rfl, q7u⟩ := q7
    rw [q7u] at hP; clear q7u
    refine lv_if_eq (tgt := 95) C.1 C.2.1 dX12_atom3_43 (by decide) (fun c8 => ?_) (fun c8 => ?_)
    · have c8 := bI_0.mp c8
      refine lv_aload_n C.1 C.2.1 dX12_atom3_95 rfl (lv_at hl 1 rfl) ?_
      refine mw_geti C Z hP (0) 24 (by decide) rfl rfl rfl (by decide) inX12 tw_4_188 dX12_atom3_96 ?_
      refine mw_top (y := 0) (h.2.1) ?_
      refine lv_if_ne (tgt := 123) C.1 C.2.1 dX12_atom3_99 (by decide) (fun c9 => ?_) (fun c9 => ?_)
      · exact absurd c9 (by decide)
      · refine lv_aload_n C.1 C.2.1 dX12_atom3_102 rfl (lv_at hl 1 rfl) ?_
        refine mw_geti C Z hP (0) 20 (by decide) rfl rfl rfl (by decide) inX12 tw_4_184 dX12_atom3_103 ?_
        refine lv_iconst (v := 2) C.1 C.2.1 dX12_atom3_106 (by decide) ?_
        refine lv_icmp_ne (tgt := 123) C.1 C.2.1 dX12_atom3_107 (by decide) (fun c10 => ?_) (fun c10 => ?_)
        · have hnn : ¬ 100 ≤ k := fun y => c10 (h.2.2.2.1.2.2.2.1.mpr y)
          refine lv_aload_n C.1 C.2.1 dX12_atom3_123 rfl (lv_at hl 1 rfl) ?_
          refine mw_geti C Z hP (0) 24 (by decide) rfl rfl rfl (by decide) inX12 tw_4_188 dX12_atom3_124 ?_
          refine mw_top (y := 0) (h.2.1) ?_
          refine lv_if_ne (tgt := 157) C.1 C.2.1 dX12_atom3_127 (by decide) (fun c11 => ?_) (fun c11 => ?_)
          · exact absurd c11 (by decide)
          · refine lv_aload_n C.1 C.2.1 dX12_atom3_130 rfl (lv_at hl 1 rfl) ?_
            refine mw_geti C Z hP (0) 20 (by decide) rfl rfl rfl (by decide) inX12 tw_4_184 dX12_atom3_131 ?_
            refine lv_iconst (v := 1) C.1 C.2.1 dX12_atom3_134 (by decide) ?_
            refine lv_icmp_ne (tgt := 157) C.1 C.2.1 dX12_atom3_135 (by decide) (fun c12 => ?_) (fun c12 => ?_)
            · have hnw : ¬ k ≤ 5 := fun y => c12 (h.2.2.2.2.2.2.1 (by omega))
              refine lv_aload_n C.1 C.2.1 dX12_atom3_157 rfl (lv_at hl 1 rfl) ?_
              refine mw_cVv (As := []) (rest := []) C Z hP hS (0) (cM_failP l E σ t n bs k p ts 3 h) vb_X12_fail tw_5_89 ⟨rfl, rfl⟩ ⟨Nat.le_of_ble_eq_true rfl, Nat.le_of_ble_eq_true rfl⟩ (by decide) rfl rfl rfl rfl hl.1 rfl (Nat.le_of_ble_eq_true rfl) dX12_atom3_158 ⟨Nat.zero_le _, Nat.zero_le _⟩ (fun u14 H locs q15 hP hS => ?_)
              obtain ⟨hb16, f17⟩ := q15
              refine lv_iload_n C.1 C.2.1 dX12_atom3_161 rfl (lv_at hl 0 rfl) ?_
              exact mw_iret C hr hlk Z hP hS dX12_atom3_162 (⟨((mFp.rf σ).tr f17), by rw [gA_2, gAt_bad (fun y => y.elim hnw hnn) (by omega) (by omega)]; exact hb16⟩)
            · have hk21 : k ≠ 21 := fun y => by have z := h.2.2.2.1.2.2.1.mpr y; rw [c12] at z; exact absurd z (by decide)
              refine lv_aload_n C.1 C.2.1 dX12_atom3_138 rfl (lv_at hl 1 rfl) ?_
              refine mw_cVi (As := []) (rest := []) C Z hP hS (0) (cM_name l E σ t n bs k p ts 3 h) vb_X12_name tw_5_145 ⟨rfl, rfl⟩ ⟨Nat.le_of_ble_eq_true rfl, Nat.le_of_ble_eq_true rfl⟩ (by decide) rfl rfl rfl rfl hl.1 rfl (Nat.le_of_ble_eq_true rfl) dX12_atom3_139 ⟨Nat.zero_le _, Nat.zero_le _⟩ (fun r18 u19 H locs q20 hP hS => ?_)
              obtain ⟨f25, ⟨z21, z22, z23⟩ | ⟨z21, hb24⟩⟩ := q20
              · rw [z22] at hP; clear z22
                refine lv_istore_n (lv' := [(1, .int r18), (0, .ref (mw_a E 0))]) C.1 C.2.1 dX12_atom3_142 rfl hl (by decide) rfl (fun ls hl => ?_)
                refine lv_aload_n C.1 C.2.1 dX12_atom3_143 rfl (lv_at hl 1 rfl) ?_
                refine mw_geti C Z hP (0) 24 (by decide) rfl rfl rfl (by decide) inX12 tw_4_188 dX12_atom3_144 ?_
                refine mw_top (y := 0) (h.2.1) ?_
                refine lv_if_ne (tgt := 161) C.1 C.2.1 dX12_atom3_147 (by decide) (fun c26 => ?_) (fun c26 => ?_)
                · exact absurd c26 (by decide)
                · refine lv_aload_n C.1 C.2.1 dX12_atom3_150 rfl (lv_at hl 1 rfl) ?_
                  refine mw_cVv (As := []) (rest := []) C Z hP hS (0) (cM_nextP l E σ t n bs k p ts 3 h (by omega) (by omega)) vb_X12_next tw_5_64 ⟨rfl, rfl⟩ ⟨Nat.le_of_ble_eq_true rfl, Nat.le_of_ble_eq_true rfl⟩ (by decide) rfl rfl rfl rfl hl.1 rfl (Nat.le_of_ble_eq_true rfl) dX12_atom3_151 ⟨Nat.zero_le _, Nat.zero_le _⟩ (fun u28 H locs q29 hP hS => ?_)
                  obtain ⟨⟨k30, p31, ts32, e33, h34⟩, f35⟩ := q29
                  refine lv_goto (tgt := 161) C.1 C.2.1 dX12_atom3_154 (by decide) ?_
                  refine lv_iload_n C.1 C.2.1 dX12_atom3_161 rfl (lv_at hl 0 rfl) ?_
                  exact mw_iret C hr hlk Z hP hS dX12_atom3_162 (⟨((mFp.rf σ).tr f35), by rw [gA_2, gAt_one (Or.inl z21)]; exact ⟨⟨k30, p31, ts32, e33, h34⟩, by rw [z23]; exact ruV_nm z21⟩⟩)
              · refine lv_istore_n (lv' := [(1, .int r18), (0, .ref (mw_a E 0))]) C.1 C.2.1 dX12_atom3_142 rfl hl (by decide) rfl (fun ls hl => ?_)
                refine lv_aload_n C.1 C.2.1 dX12_atom3_143 rfl (lv_at hl 1 rfl) ?_
                refine mw_geti C Z hP (0) 24 (by decide) rfl rfl rfl (by decide) inX12 tw_4_188 dX12_atom3_144 ?_
                refine mw_top (y := 1) (hb24.1) ?_
                refine lv_if_ne (tgt := 161) C.1 C.2.1 dX12_atom3_147 (by decide) (fun c36 => ?_) (fun c36 => ?_)
                · refine lv_iload_n C.1 C.2.1 dX12_atom3_161 rfl (lv_at hl 0 rfl) ?_
                  exact mw_iret C hr hlk Z hP hS dX12_atom3_162 (⟨((mFp.rf σ).tr f25), by rw [gA_2, gAt_bad (fun y => y.elim (fun y => z21 y) hnn) (by omega) (by omega)]; exact hb24⟩)
                · exact absurd c36 (by decide)
        · have hnum : 100 ≤ k := h.2.2.2.1.2.2.2.1.mp c10
          have hval : nI (k - 100) = (σ.2.2 0 22).toInt32 := by rw [(h.2.2.2.1.2.2.2.2 hnum).1, lN_i]
          refine lv_aload_n C.1 C.2.1 dX12_atom3_110 rfl (lv_at hl 1 rfl) ?_
          refine mw_getl C Z hP (0) 22 (by decide) rfl rfl rfl (by decide) inX12 tw_4_186 dX12_atom3_111 ?_
          refine lv_l2i C.1 C.2.1 dX12_atom3_114 rfl ?_
          refine lv_istore_n (lv' := [(1, .int ((σ.2.2 0 22).toInt32)), (0, .ref (mw_a E 0))]) C.1 C.2.1 dX12_atom3_115 rfl hl (by decide) rfl (fun ls hl => ?_)
          refine lv_aload_n C.1 C.2.1 dX12_atom3_116 rfl (lv_at hl 1 rfl) ?_
          refine mw_cVv (As := []) (rest := []) C Z hP hS (0) (cM_nextP l E σ t n bs k p ts 3 h (by omega) (by omega)) vb_X12_next tw_5_64 ⟨rfl, rfl⟩ ⟨Nat.le_of_ble_eq_true rfl, Nat.le_of_ble_eq_true rfl⟩ (by decide) rfl rfl rfl rfl hl.1 rfl (Nat.le_of_ble_eq_true rfl) dX12_atom3_117 ⟨Nat.zero_le _, Nat.zero_le _⟩ (fun u38 H locs q39 hP hS => ?_)
          obtain ⟨⟨k40, p41, ts42, e43, h44⟩, f45⟩ := q39
          refine lv_goto (tgt := 161) C.1 C.2.1 dX12_atom3_120 (by decide) ?_
          refine lv_iload_n C.1 C.2.1 dX12_atom3_161 rfl (lv_at hl 0 rfl) ?_
          exact mw_iret C hr hlk Z hP hS dX12_atom3_162 (⟨((mFp.rf σ).tr f45), by rw [gA_2, gAt_one (Or.inr hnum)]; exact ⟨⟨k40, p41, ts42, e43, h44⟩, hval ▸ ruV_nu hnum⟩⟩)
    · have c8 := bI_n.mp c8
      refine lv_aload_n C.1 C.2.1 dX12_atom3_46 rfl (lv_at hl 1 rfl) ?_
      refine mw_cVi (As := []) (rest := []) C Z hP hS (0) (cM_opens l E σ t n bs k p ts 3 (by decide) h (by omega) (by omega)) vb_X12_opens tw_5_105 ⟨rfl, rfl⟩ ⟨Nat.le_of_ble_eq_true rfl, Nat.le_of_ble_eq_true rfl⟩ (by decide) rfl rfl rfl rfl hl.1 rfl (Nat.le_of_ble_eq_true rfl) dX12_atom3_47 ⟨Nat.zero_le _, Nat.zero_le _⟩ (fun r46 u47 H locs q48 hP hS => ?_)
      obtain ⟨rfl, ⟨k49, p50, ts51, e52, h53⟩, f54⟩ := q48
      refine lv_if_eq (tgt := 161) C.1 C.2.1 dX12_atom3_50 (by decide) (fun c55 => ?_) (fun c55 => ?_)
      · exact absurd c55 (by decide)
      · refine lv_aload_n C.1 C.2.1 dX12_atom3_53 rfl (lv_at hl 1 rfl) ?_
        refine mw_cVi (As := []) (rest := []) C Z hP hS (0) (cM_either4 l E u47 t n bs k49 p50 ts51 h53) vb_X12_either4 tw_5_183 ⟨rfl, rfl⟩ ⟨Nat.le_of_ble_eq_true rfl, Nat.le_of_ble_eq_true rfl⟩ (by decide) rfl rfl rfl rfl hl.1 rfl (Nat.le_of_ble_eq_true rfl) dX12_atom3_54 ⟨Nat.zero_le _, Nat.zero_le _⟩ (fun r56 u57 H locs q58 hP hS => ?_)
        rcases hg59 : ((gD 1).2.2) ((k49, p50) :: ts51) with zz60 | qq61
        · obtain ⟨cs63, ts64⟩ := zz60
          rw [hg59] at q58
          obtain ⟨f62, ⟨k65, p66, ts67, e68, h69⟩, v70⟩ := q58
          have v70 := ((mFp.rf σ).tr f54).evv v70
          refine lv_istore_n (lv' := [(1, .int r56), (0, .ref (mw_a E 0))]) C.1 C.2.1 dX12_atom3_57 rfl hl (by decide) rfl (fun ls hl => ?_)
          refine lv_aload_n C.1 C.2.1 dX12_atom3_58 rfl (lv_at hl 1 rfl) ?_
          refine lv_bipush (v := 41) C.1 C.2.1 dX12_atom3_59 (by decide) ?_
          refine mw_cVi (As := [.int 41]) (rest := []) C Z hP hS (0) (cM_isSignP l E u57 t n bs k65 p66 ts67 4 h69 1 (by decide)) vb_X12_isSign tw_5_141 ⟨rfl, rfl⟩ ⟨Nat.le_of_ble_eq_true rfl, Nat.le_of_ble_eq_true rfl⟩ (by decide) rfl rfl rfl rfl hl.1 rfl (Nat.le_of_ble_eq_true rfl) dX12_atom3_61 ⟨Nat.zero_le _, Nat.zero_le _⟩ (fun r72 u73 H locs q74 hP hS => ?_)
          obtain ⟨rfl, q74u⟩ := q74
          rw [q74u] at hP; clear q74u
          refine lv_if_ne (tgt := 71) C.1 C.2.1 dX12_atom3_64 (by decide) (fun c75 => ?_) (fun c75 => ?_)
          · have c75 := bI_n.mp c75
            refine lv_aload_n C.1 C.2.1 dX12_atom3_71 rfl (lv_at hl 1 rfl) ?_
            refine lv_dup C.1 C.2.1 dX12_atom3_72 rfl ?_
            refine mw_geti C Z hP (0) 23 (by decide) rfl rfl rfl (by decide) inX12 tw_4_187 dX12_atom3_73 ?_
            refine mw_top (y := nI 4) (h69.2.2.1) ?_
            refine lv_iconst (v := 1) C.1 C.2.1 dX12_atom3_76 (by decide) ?_
            refine lv_isub C.1 C.2.1 dX12_atom3_77 ?_
            refine mw_top (y := nI 3) (by decide) ?_
            refine mw_puti C Z hP hS (0) 23 (by decide) rfl rfl rfl (by decide) inX12 tyX12 tyX12_ok nmX12 rfl tw_4_187 rfl rfl dX12_atom3_78 (fun H locs hP hS => ?_)
            have h76 : mPS (mw_si u57 0 23 (nI 3)) t n bs k65 p66 ts67 3 := ⟨h69.1, h69.2.1, rfl, h69.2.2.2⟩
            refine lv_aload_n C.1 C.2.1 dX12_atom3_81 rfl (lv_at hl 1 rfl) ?_
            refine mw_geti C Z hP (0) 24 (by decide) rfl rfl rfl (by decide) inX12 tw_4_188 dX12_atom3_82 ?_
            refine mw_top (y := 0) (h69.2.1) ?_
            refine lv_if_ne (tgt := 161) C.1 C.2.1 dX12_atom3_85 (by decide) (fun c77 => ?_) (fun c77 => ?_)
            · exact absurd c77 (by decide)
            · refine lv_aload_n C.1 C.2.1 dX12_atom3_88 rfl (lv_at hl 1 rfl) ?_
              refine mw_cVv (As := []) (rest := []) C Z hP hS (0) (cM_nextP l E (mw_si u57 0 23 (nI 3)) t n bs k65 p66 ts67 3 h76 (by omega) (by omega)) vb_X12_next tw_5_64 ⟨rfl, rfl⟩ ⟨Nat.le_of_ble_eq_true rfl, Nat.le_of_ble_eq_true rfl⟩ (by decide) rfl rfl rfl rfl hl.1 rfl (Nat.le_of_ble_eq_true rfl) dX12_atom3_89 ⟨Nat.zero_le _, Nat.zero_le _⟩ (fun u79 H locs q80 hP hS => ?_)
              obtain ⟨⟨k81, p82, ts83, e84, h85⟩, f86⟩ := q80
              refine lv_goto (tgt := 161) C.1 C.2.1 dX12_atom3_92 (by decide) ?_
              refine lv_iload_n C.1 C.2.1 dX12_atom3_161 rfl (lv_at hl 0 rfl) ?_
              exact mw_iret C hr hlk Z hP hS dX12_atom3_162 (⟨(((((mFp.rf σ).tr f54).tr f62).si (by decide) _).tr f86), by rw [gA_2, gAt_parI (f := (_, _)) (by omega : k = 12) (by rw [e52, ← e68]; exact hg59) (by omega : k65 = 13)]; exact ⟨⟨k81, p82, ts83, e84, h85⟩, v70⟩⟩)
          · have c75 := bI_0.mp c75
            refine lv_aload_n C.1 C.2.1 dX12_atom3_67 rfl (lv_at hl 1 rfl) ?_
            refine mw_cVv (As := []) (rest := []) C Z hP hS (0) (cM_failP l E u57 t n bs k65 p66 ts67 4 h69) vb_X12_fail tw_5_89 ⟨rfl, rfl⟩ ⟨Nat.le_of_ble_eq_true rfl, Nat.le_of_ble_eq_true rfl⟩ (by decide) rfl rfl rfl rfl hl.1 rfl (Nat.le_of_ble_eq_true rfl) dX12_atom3_68 ⟨Nat.zero_le _, Nat.zero_le _⟩ (fun u88 H locs q89 hP hS => ?_)
            obtain ⟨hb90, f91⟩ := q89
            refine lv_aload_n C.1 C.2.1 dX12_atom3_71 rfl (lv_at hl 1 rfl) ?_
            refine lv_dup C.1 C.2.1 dX12_atom3_72 rfl ?_
            refine mw_geti C Z hP (0) 23 (by decide) rfl rfl rfl (by decide) inX12 tw_4_187 dX12_atom3_73 ?_
            refine lv_iconst (v := 1) C.1 C.2.1 dX12_atom3_76 (by decide) ?_
            refine lv_isub C.1 C.2.1 dX12_atom3_77 ?_
            refine mw_puti C Z hP hS (0) 23 (by decide) rfl rfl rfl (by decide) inX12 tyX12 tyX12_ok nmX12 rfl tw_4_187 rfl rfl dX12_atom3_78 (fun H locs hP hS => ?_)
            have hb92 : mBd (mw_si u88 0 23 ((u88.1 0 23) - 1)) p66 := hb90
            refine lv_aload_n C.1 C.2.1 dX12_atom3_81 rfl (lv_at hl 1 rfl) ?_
            refine mw_geti C Z hP (0) 24 (by decide) rfl rfl rfl (by decide) inX12 tw_4_188 dX12_atom3_82 ?_
            refine mw_top (y := 1) (hb90.1) ?_
            refine lv_if_ne (tgt := 161) C.1 C.2.1 dX12_atom3_85 (by decide) (fun c93 => ?_) (fun c93 => ?_)
            · refine lv_iload_n C.1 C.2.1 dX12_atom3_161 rfl (lv_at hl 0 rfl) ?_
              exact mw_iret C hr hlk Z hP hS dX12_atom3_162 (⟨(((((mFp.rf σ).tr f54).tr f62).tr f91).si (by decide) _), by rw [gA_2, gAt_parX (f := (_, _)) (by omega : k = 12) (by rw [e52, ← e68]; exact hg59) (by omega : ¬ k65 = 13)]; exact hb92⟩)
            · exact absurd c93 (by decide)
        · rw [hg59] at q58
          obtain ⟨f62, hb71⟩ := q58
          refine lv_istore_n (lv' := [(1, .int r56), (0, .ref (mw_a E 0))]) C.1 C.2.1 dX12_atom3_57 rfl hl (by decide) rfl (fun ls hl => ?_)
          refine lv_aload_n C.1 C.2.1 dX12_atom3_58 rfl (lv_at hl 1 rfl) ?_
          refine lv_bipush (v := 41) C.1 C.2.1 dX12_atom3_59 (by decide) ?_
          refine mw_cVi (As := [.int 41]) (rest := []) C Z hP hS (0) (cM_isSignB l E u57 41 hb71.1) vb_X12_isSign tw_5_141 ⟨rfl, rfl⟩ ⟨Nat.le_of_ble_eq_true rfl, Nat.le_of_ble_eq_true rfl⟩ (by decide) rfl rfl rfl rfl hl.1 rfl (Nat.le_of_ble_eq_true rfl) dX12_atom3_61 ⟨Nat.zero_le _, Nat.zero_le _⟩ (fun r94 u95 H locs q96 hP hS => ?_)
          obtain ⟨rfl, q96u⟩ := q96
          rw [q96u] at hP; clear q96u
          refine lv_if_ne (tgt := 71) C.1 C.2.1 dX12_atom3_64 (by decide) (fun c97 => ?_) (fun c97 => ?_)
          · exact absurd c97 (by decide)
          · refine lv_aload_n C.1 C.2.1 dX12_atom3_67 rfl (lv_at hl 1 rfl) ?_
            refine mw_cVv (As := []) (rest := []) C Z hP hS (0) (cM_failB l E u57 hb71.1) vb_X12_fail tw_5_89 ⟨rfl, rfl⟩ ⟨Nat.le_of_ble_eq_true rfl, Nat.le_of_ble_eq_true rfl⟩ (by decide) rfl rfl rfl rfl hl.1 rfl (Nat.le_of_ble_eq_true rfl) dX12_atom3_68 ⟨Nat.zero_le _, Nat.zero_le _⟩ (fun u99 H locs q100 hP hS => ?_)
            rw [q100] at hP; clear q100
            refine lv_aload_n C.1 C.2.1 dX12_atom3_71 rfl (lv_at hl 1 rfl) ?_
            refine lv_dup C.1 C.2.1 dX12_atom3_72 rfl ?_
            refine mw_geti C Z hP (0) 23 (by decide) rfl rfl rfl (by decide) inX12 tw_4_187 dX12_atom3_73 ?_
            refine lv_iconst (v := 1) C.1 C.2.1 dX12_atom3_76 (by decide) ?_
            refine lv_isub C.1 C.2.1 dX12_atom3_77 ?_
            refine mw_puti C Z hP hS (0) 23 (by decide) rfl rfl rfl (by decide) inX12 tyX12 tyX12_ok nmX12 rfl tw_4_187 rfl rfl dX12_atom3_78 (fun H locs hP hS => ?_)
            have hb101 : mBd (mw_si u57 0 23 ((u57.1 0 23) - 1)) qq61 := hb71
            refine lv_aload_n C.1 C.2.1 dX12_atom3_81 rfl (lv_at hl 1 rfl) ?_
            refine mw_geti C Z hP (0) 24 (by decide) rfl rfl rfl (by decide) inX12 tw_4_188 dX12_atom3_82 ?_
            refine mw_top (y := 1) (hb71.1) ?_
            refine lv_if_ne (tgt := 161) C.1 C.2.1 dX12_atom3_85 (by decide) (fun c102 => ?_) (fun c102 => ?_)
            · refine lv_iload_n C.1 C.2.1 dX12_atom3_161 rfl (lv_at hl 0 rfl) ?_
              exact mw_iret C hr hlk Z hP hS dX12_atom3_162 (⟨((((mFp.rf σ).tr f54).tr f62).si (by decide) _), by rw [gA_2, gAt_parF (f := (_, _)) (by omega : k = 12) (by rw [e52]; exact hg59)]; exact hb101⟩)
            · exact absurd c102 (by decide)
  · have c4 := bI_n.mp c4
    refine lv_aload_n C.1 C.2.1 dX12_atom3_11 rfl (lv_at hl 1 rfl) ?_
    refine mw_cVi (As := []) (rest := []) C Z hP hS (0) (cM_opens l E σ t n bs k p ts 3 (by decide) h (by omega) (by omega)) vb_X12_opens tw_5_105 ⟨rfl, rfl⟩ ⟨Nat.le_of_ble_eq_true rfl, Nat.le_of_ble_eq_true rfl⟩ (by decide) rfl rfl rfl rfl hl.1 rfl (Nat.le_of_ble_eq_true rfl) dX12_atom3_12 ⟨Nat.zero_le _, Nat.zero_le _⟩ (fun r103 u104 H locs q105 hP hS => ?_)
    obtain ⟨rfl, ⟨k106, p107, ts108, e109, h110⟩, f111⟩ := q105
    refine lv_if_eq (tgt := 161) C.1 C.2.1 dX12_atom3_15 (by decide) (fun c112 => ?_) (fun c112 => ?_)
    · exact absurd c112 (by decide)
    · refine lv_aload_n C.1 C.2.1 dX12_atom3_18 rfl (lv_at hl 1 rfl) ?_
      refine mw_cVi (As := []) (rest := []) C Z hP hS (0) (cM_atom4 l E u104 t n bs k106 p107 ts108 h110) vb_X12_atom4 tw_5_159 ⟨rfl, rfl⟩ ⟨Nat.le_of_ble_eq_true rfl, Nat.le_of_ble_eq_true rfl⟩ (by decide) rfl rfl rfl rfl hl.1 rfl (Nat.le_of_ble_eq_true rfl) dX12_atom3_19 ⟨Nat.zero_le _, Nat.zero_le _⟩ (fun r113 u114 H locs q115 hP hS => ?_)
      rcases hg116 : ((gD 1).1) ((k106, p107) :: ts108) with zz117 | qq118
      · obtain ⟨cs120, ts121⟩ := zz117
        rw [hg116] at q115
        obtain ⟨f119, ⟨k122, p123, ts124, e125, h126⟩, v127⟩ := q115
        have v127 := ((mFp.rf σ).tr f111).evv v127
        refine lv_ineg C.1 C.2.1 dX12_atom3_22 ?_
        refine lv_istore_n (lv' := [(1, .int (-r113)), (0, .ref (mw_a E 0))]) C.1 C.2.1 dX12_atom3_23 rfl hl (by decide) rfl (fun ls hl => ?_)
        refine lv_aload_n C.1 C.2.1 dX12_atom3_24 rfl (lv_at hl 1 rfl) ?_
        refine lv_dup C.1 C.2.1 dX12_atom3_25 rfl ?_
        refine mw_geti C Z hP (0) 23 (by decide) rfl rfl rfl (by decide) inX12 tw_4_187 dX12_atom3_26 ?_
        refine mw_top (y := nI 4) (h126.2.2.1) ?_
        refine lv_iconst (v := 1) C.1 C.2.1 dX12_atom3_29 (by decide) ?_
        refine lv_isub C.1 C.2.1 dX12_atom3_30 ?_
        refine mw_top (y := nI 3) (by decide) ?_
        refine mw_puti C Z hP hS (0) 23 (by decide) rfl rfl rfl (by decide) inX12 tyX12 tyX12_ok nmX12 rfl tw_4_187 rfl rfl dX12_atom3_31 (fun H locs hP hS => ?_)
        have h129 : mPS (mw_si u114 0 23 (nI 3)) t n bs k122 p123 ts124 3 := ⟨h126.1, h126.2.1, rfl, h126.2.2.2⟩
        refine lv_goto (tgt := 161) C.1 C.2.1 dX12_atom3_34 (by decide) ?_
        refine lv_iload_n C.1 C.2.1 dX12_atom3_161 rfl (lv_at hl 0 rfl) ?_
        exact mw_iret C hr hlk Z hP hS dX12_atom3_162 (⟨((((mFp.rf σ).tr f111).tr f119).si (by decide) _), by rw [gA_2, gAt_negI (f := (_, _)) (by omega : k = 16) (by rw [e109]; exact hg116)]; exact ⟨⟨k122, p123, ts124, e125, h129⟩, ruV_neg v127⟩⟩)
      · rw [hg116] at q115
        obtain ⟨f119, hb128⟩ := q115
        refine lv_ineg C.1 C.2.1 dX12_atom3_22 ?_
        refine lv_istore_n (lv' := [(1, .int (-r113)), (0, .ref (mw_a E 0))]) C.1 C.2.1 dX12_atom3_23 rfl hl (by decide) rfl (fun ls hl => ?_)
        refine lv_aload_n C.1 C.2.1 dX12_atom3_24 rfl (lv_at hl 1 rfl) ?_
        refine lv_dup C.1 C.2.1 dX12_atom3_25 rfl ?_
        refine mw_geti C Z hP (0) 23 (by decide) rfl rfl rfl (by decide) inX12 tw_4_187 dX12_atom3_26 ?_
        refine lv_iconst (v := 1) C.1 C.2.1 dX12_atom3_29 (by decide) ?_
        refine lv_isub C.1 C.2.1 dX12_atom3_30 ?_
        refine mw_puti C Z hP hS (0) 23 (by decide) rfl rfl rfl (by decide) inX12 tyX12 tyX12_ok nmX12 rfl tw_4_187 rfl rfl dX12_atom3_31 (fun H locs hP hS => ?_)
        have hb130 : mBd (mw_si u114 0 23 ((u114.1 0 23) - 1)) qq118 := hb128
        refine lv_goto (tgt := 161) C.1 C.2.1 dX12_atom3_34 (by decide) ?_
        refine lv_iload_n C.1 C.2.1 dX12_atom3_161 rfl (lv_at hl 0 rfl) ?_
        exact mw_iret C hr hlk Z hP hS dX12_atom3_162 (⟨((((mFp.rf σ).tr f111).tr f119).si (by decide) _), by rw [gA_2, gAt_negF (f := (_, _)) (by omega : k = 16) (by rw [e109]; exact hg116)]; exact hb130⟩)

set_option maxHeartbeats 4000000 in
set_option maxRecDepth 100000 in
theorem cM_term3 (l : Launch) (E : mw_E) (σ : mw_M) (t n : Nat) (bs : Nat → Int32) (k p : Nat) (ts : List (Nat × Nat)) (h : mPS σ t n bs k p ts 3) : mw_Ci shM 13 gM l yX12_term3 cX12_term3 2 (some .int) (rmF 17 376) E [.ref (mw_a E 0)] σ (fun r u => mOK σ u t n bs 3 r (gLevel gTim (gD 2).1 ((k, p) :: ts))) := by
  refine mw_of (by decide) gM_ok (Nat.le_of_ble_eq_true rfl) ?_
  intro p_ e_ s_ m_ below meth c_ C hr hlk Z hP ls hl
  have C : CallFix p_ m_ c_ cX12_term3 2 s_ _ lw_good RX12 := C
  have hl : lv_has ls 2 [(0, .ref (mw_a E 0))] := hl
  have hS : va_S (mw_A 13 E) s_.heap s_.heap [] := va_S.rf
  refine lv_aload_n C.1 C.2.1 dX12_term3_0 rfl (lv_at hl 0 rfl) ?_
  refine mw_cVi (As := []) (rest := []) C Z hP hS (0) (cM_atom3 l E σ t n bs k p ts h) vb_X12_atom3 tw_5_179 ⟨rfl, rfl⟩ ⟨Nat.le_of_ble_eq_true rfl, Nat.le_of_ble_eq_true rfl⟩ (by decide) rfl rfl rfl rfl hl.1 rfl (Nat.le_of_ble_eq_true rfl) dX12_term3_1 ⟨Nat.zero_le _, Nat.zero_le _⟩ (fun r1 u2 H locs q3 hP hS => ?_)
  rcases hg4 : ((gD 2).1) ((k, p) :: ts) with zz5 | qq6
  · obtain ⟨cs8, ts9⟩ := zz5
    rw [hg4] at q3
    obtain ⟨f7, ⟨k10, p11, ts12, e13, h14⟩, v15⟩ := q3
    have v15 := (mFp.rf σ).evv v15
    refine lv_istore_n (lv' := [(1, .int r1), (0, .ref (mw_a E 0))]) C.1 C.2.1 dX12_term3_4 rfl hl (by decide) rfl (fun ls hl => ?_)
    have lp : ∀ (N : Nat) (cs : List Nat) (k2 p2 : Nat) (ts2 : List (Nat × Nat)) (v : Int32) (ς : mw_M) (H : Heap) (locs : List Loc), ts2.length + 1 ≤ N → mPS ς t n bs k2 p2 ts2 3 → mFp σ ς → ruV (mEv σ) cs v → gLevel gTim (gD 2).1 ((k, p) :: ts) = gLoop gTim ((gD 2).1) N cs ((k2, p2) :: ts2) → va_P (mw_D E) vwCl (mw_ws shM 13 E ς) H → va_S (mw_A 13 E) s_.heap H locs → ∀ (ls : Array Slot), lv_has ls 2 [(0, .ref (mw_a E 0)), (1, .int v)] → mWi p_ l e_ (rmF 17 376) s_ m_ [.ref (mw_a E 0)] below meth c_ E (fun r u => mOK σ u t n bs 3 r (gLevel gTim (gD 2).1 ((k, p) :: ts))) H locs (F0 m_ 5 ls []) := by
      intro N
      induction N with
      | zero => intro cs k2 p2 ts2 v ς H locs hN; exact absurd hN (by omega)
      | succ N ih =>
        intro cs k2 p2 ts2 v ς H locs hN h2 f2 hv hR hP hS ls hl
        refine lv_aload_n C.1 C.2.1 dX12_term3_5 rfl (lv_at hl 0 rfl) ?_
        refine lv_bipush (v := 42) C.1 C.2.1 dX12_term3_6 (by decide) ?_
        refine mw_cVi (As := [.int 42]) (rest := []) C Z hP hS (0) (cM_isSignP l E ς t n bs k2 p2 ts2 3 h2 5 (by decide)) vb_X12_isSign tw_5_141 ⟨rfl, rfl⟩ ⟨Nat.le_of_ble_eq_true rfl, Nat.le_of_ble_eq_true rfl⟩ (by decide) rfl rfl rfl rfl hl.1 rfl (Nat.le_of_ble_eq_true rfl) dX12_term3_8 ⟨Nat.zero_le _, Nat.zero_le _⟩ (fun r17 u18 H locs q19 hP hS => ?_)
        obtain ⟨rfl, q19u⟩ := q19
        rw [q19u] at hP; clear q19u
        refine lv_if_eq (tgt := 28) C.1 C.2.1 dX12_term3_11 (by decide) (fun c20 => ?_) (fun c20 => ?_)
        · have c20 := bI_0.mp c20
          refine lv_iload_n C.1 C.2.1 dX12_term3_28 rfl (lv_at hl 1 rfl) ?_
          exact mw_iret C hr hlk Z hP hS dX12_term3_29 (⟨f2, by rw [hR, gLoop_e (by simp only [gTim, gAdd, gAnd, gOr, beq_iff_eq, Bool.or_eq_true]; omega)]; exact ⟨⟨k2, p2, ts2, rfl, h2⟩, hv⟩⟩)
        · have c20 := bI_n.mp c20
          refine lv_aload_n C.1 C.2.1 dX12_term3_14 rfl (lv_at hl 0 rfl) ?_
          refine mw_cVv (As := []) (rest := []) C Z hP hS (0) (cM_nextP l E ς t n bs k2 p2 ts2 3 h2 (by omega) (by omega)) vb_X12_next tw_5_64 ⟨rfl, rfl⟩ ⟨Nat.le_of_ble_eq_true rfl, Nat.le_of_ble_eq_true rfl⟩ (by decide) rfl rfl rfl rfl hl.1 rfl (Nat.le_of_ble_eq_true rfl) dX12_term3_15 ⟨Nat.zero_le _, Nat.zero_le _⟩ (fun u22 H locs q23 hP hS => ?_)
          obtain ⟨⟨k24, p25, ts26, e27, h28⟩, f29⟩ := q23
          refine lv_iload_n C.1 C.2.1 dX12_term3_18 rfl (lv_at hl 1 rfl) ?_
          refine lv_aload_n C.1 C.2.1 dX12_term3_19 rfl (lv_at hl 0 rfl) ?_
          refine mw_cVi (As := []) (rest := [.int v]) C Z hP hS (0) (cM_atom3 l E u22 t n bs k24 p25 ts26 h28) vb_X12_atom3 tw_5_179 ⟨rfl, rfl⟩ ⟨Nat.le_of_ble_eq_true rfl, Nat.le_of_ble_eq_true rfl⟩ (by decide) rfl rfl rfl rfl hl.1 rfl (Nat.le_of_ble_eq_true rfl) dX12_term3_20 ⟨Nat.zero_le _, Nat.zero_le _⟩ (fun r30 u31 H locs q32 hP hS => ?_)
          rcases hg33 : ((gD 2).1) ((k24, p25) :: ts26) with zz34 | qq35
          · obtain ⟨cs37, ts38⟩ := zz34
            rw [hg33] at q32
            obtain ⟨f36, ⟨k39, p40, ts41, e42, h43⟩, v44⟩ := q32
            have v44 := (f2.tr f29).evv v44
            refine lv_imul C.1 C.2.1 dX12_term3_23 ?_
            refine lv_istore_n (lv' := [(1, .int (v * r30)), (0, .ref (mw_a E 0))]) C.1 C.2.1 dX12_term3_24 rfl hl (by decide) rfl (fun ls hl => ?_)
            refine lv_goto (tgt := 5) C.1 C.2.1 dX12_term3_25 (by decide) ?_
            exact ih (cs ++ cs37 ++ [k2]) k39 p40 ts41 (v * r30) u31 _ _ (by have d := (gD_dec 2).1 _ _ _ hg33; rw [e42, List.length_cons, List.length_cons] at d; rw [e27, List.length_cons] at hN; omega) h43 ((f2.tr f29).tr f36) (by have z := ruV_op (c := k2) hv v44 (by omega); rwa [show opF k2 v r30 = v * r30 by rw [c20]; rfl] at z) (by rw [hR, gLoop_s (by simp only [gTim, gAdd, gAnd, gOr, beq_iff_eq, Bool.or_eq_true]; omega) (by rw [e27]; exact hg33), e42]) hP hS ls (lv_sub hl [1, 0] rfl)
          · rw [hg33] at q32
            obtain ⟨f36, hb45⟩ := q32
            refine lv_imul C.1 C.2.1 dX12_term3_23 ?_
            refine lv_istore_n (lv' := [(1, .int (v * r30)), (0, .ref (mw_a E 0))]) C.1 C.2.1 dX12_term3_24 rfl hl (by decide) rfl (fun ls hl => ?_)
            refine lv_goto (tgt := 5) C.1 C.2.1 dX12_term3_25 (by decide) ?_
            refine lv_aload_n C.1 C.2.1 dX12_term3_5 rfl (lv_at hl 1 rfl) ?_
            refine lv_bipush (v := 42) C.1 C.2.1 dX12_term3_6 (by decide) ?_
            refine mw_cVi (As := [.int 42]) (rest := []) C Z hP hS (0) (cM_isSignB l E u31 42 hb45.1) vb_X12_isSign tw_5_141 ⟨rfl, rfl⟩ ⟨Nat.le_of_ble_eq_true rfl, Nat.le_of_ble_eq_true rfl⟩ (by decide) rfl rfl rfl rfl hl.1 rfl (Nat.le_of_ble_eq_true rfl) dX12_term3_8 ⟨Nat.zero_le _, Nat.zero_le _⟩ (fun r46 u47 H locs q48 hP hS => ?_)
            obtain ⟨rfl, q48u⟩ := q48
            rw [q48u] at hP; clear q48u
            refine lv_if_eq (tgt := 28) C.1 C.2.1 dX12_term3_11 (by decide) (fun c49 => ?_) (fun c49 => ?_)
            · refine lv_iload_n C.1 C.2.1 dX12_term3_28 rfl (lv_at hl 0 rfl) ?_
              exact mw_iret C hr hlk Z hP hS dX12_term3_29 (⟨((f2.tr f29).tr f36), by rw [hR, gLoop_f (by simp only [gTim, gAdd, gAnd, gOr, beq_iff_eq, Bool.or_eq_true]; omega) (by rw [e27]; exact hg33)]; exact hb45⟩)
            · exact absurd c49 (by decide)
    exact lp (ts12.length + 1) cs8 k10 p11 ts12 r1 u2 _ _ (Nat.le_refl _) h14 ((mFp.rf σ).tr f7) v15 (by rw [gLevel_I hg4, e13]; rfl) hP hS ls (lv_sub hl [1, 0] rfl)
  · rw [hg4] at q3
    obtain ⟨f7, hb16⟩ := q3
    refine lv_istore_n (lv' := [(1, .int r1), (0, .ref (mw_a E 0))]) C.1 C.2.1 dX12_term3_4 rfl hl (by decide) rfl (fun ls hl => ?_)
    refine lv_aload_n C.1 C.2.1 dX12_term3_5 rfl (lv_at hl 1 rfl) ?_
    refine lv_bipush (v := 42) C.1 C.2.1 dX12_term3_6 (by decide) ?_
    refine mw_cVi (As := [.int 42]) (rest := []) C Z hP hS (0) (cM_isSignB l E u2 42 hb16.1) vb_X12_isSign tw_5_141 ⟨rfl, rfl⟩ ⟨Nat.le_of_ble_eq_true rfl, Nat.le_of_ble_eq_true rfl⟩ (by decide) rfl rfl rfl rfl hl.1 rfl (Nat.le_of_ble_eq_true rfl) dX12_term3_8 ⟨Nat.zero_le _, Nat.zero_le _⟩ (fun r50 u51 H locs q52 hP hS => ?_)
    obtain ⟨rfl, q52u⟩ := q52
    rw [q52u] at hP; clear q52u
    refine lv_if_eq (tgt := 28) C.1 C.2.1 dX12_term3_11 (by decide) (fun c53 => ?_) (fun c53 => ?_)
    · refine lv_iload_n C.1 C.2.1 dX12_term3_28 rfl (lv_at hl 0 rfl) ?_
      exact mw_iret C hr hlk Z hP hS dX12_term3_29 (⟨((mFp.rf σ).tr f7), by rw [gLevel_F hg4]; exact hb16⟩)
    · exact absurd c53 (by decide)

set_option maxHeartbeats 4000000 in
set_option maxRecDepth 100000 in
theorem cM_added3 (l : Launch) (E : mw_E) (σ : mw_M) (t n : Nat) (bs : Nat → Int32) (k p : Nat) (ts : List (Nat × Nat)) (h : mPS σ t n bs k p ts 3) : mw_Ci shM 13 gM l yX12_added3 cX12_added3 4 (some .int) (rmF 18 397) E [.ref (mw_a E 0)] σ (fun r u => mOK σ u t n bs 3 r (gLevel gAdd (gLevel gTim (gD 2).1) ((k, p) :: ts))) := by
  refine mw_of (by decide) gM_ok (Nat.le_of_ble_eq_true rfl) ?_
  intro p_ e_ s_ m_ below meth c_ C hr hlk Z hP ls hl
  have C : CallFix p_ m_ c_ cX12_added3 4 s_ _ lw_good RX12 := C
  have hl : lv_has ls 4 [(0, .ref (mw_a E 0))] := hl
  have hS : va_S (mw_A 13 E) s_.heap s_.heap [] := va_S.rf
  refine lv_aload_n C.1 C.2.1 dX12_added3_0 rfl (lv_at hl 0 rfl) ?_
  refine mw_cVi (As := []) (rest := []) C Z hP hS (0) (cM_term3 l E σ t n bs k p ts h) vb_X12_term3 tw_5_175 ⟨rfl, rfl⟩ ⟨Nat.le_of_ble_eq_true rfl, Nat.le_of_ble_eq_true rfl⟩ (by decide) rfl rfl rfl rfl hl.1 rfl (Nat.le_of_ble_eq_true rfl) dX12_added3_1 ⟨Nat.zero_le _, Nat.zero_le _⟩ (fun r1 u2 H locs q3 hP hS => ?_)
  rcases hg4 : (gLevel gTim (gD 2).1) ((k, p) :: ts) with zz5 | qq6
  · obtain ⟨cs8, ts9⟩ := zz5
    rw [hg4] at q3
    obtain ⟨f7, ⟨k10, p11, ts12, e13, h14⟩, v15⟩ := q3
    have v15 := (mFp.rf σ).evv v15
    refine lv_istore_n (lv' := [(1, .int r1), (0, .ref (mw_a E 0))]) C.1 C.2.1 dX12_added3_4 rfl hl (by decide) rfl (fun ls hl => ?_)
    have lp : ∀ (N : Nat) (cs : List Nat) (k2 p2 : Nat) (ts2 : List (Nat × Nat)) (v : Int32) (ς : mw_M) (H : Heap) (locs : List Loc), ts2.length + 1 ≤ N → mPS ς t n bs k2 p2 ts2 3 → mFp σ ς → ruV (mEv σ) cs v → gLevel gAdd (gLevel gTim (gD 2).1) ((k, p) :: ts) = gLoop gAdd (gLevel gTim (gD 2).1) N cs ((k2, p2) :: ts2) → va_P (mw_D E) vwCl (mw_ws shM 13 E ς) H → va_S (mw_A 13 E) s_.heap H locs → ∀ (ls : Array Slot), lv_has ls 4 [(0, .ref (mw_a E 0)), (1, .int v)] → mWi p_ l e_ (rmF 18 397) s_ m_ [.ref (mw_a E 0)] below meth c_ E (fun r u => mOK σ u t n bs 3 r (gLevel gAdd (gLevel gTim (gD 2).1) ((k, p) :: ts))) H locs (F0 m_ 5 ls []) := by
      intro N
      induction N with
      | zero => intro cs k2 p2 ts2 v ς H locs hN; exact absurd hN (by omega)
      | succ N ih =>
        intro cs k2 p2 ts2 v ς H locs hN h2 f2 hv hR hP hS ls hl
        refine lv_aload_n C.1 C.2.1 dX12_added3_5 rfl (lv_at hl 0 rfl) ?_
        refine lv_bipush (v := 43) C.1 C.2.1 dX12_added3_6 (by decide) ?_
        refine mw_cVi (As := [.int 43]) (rest := []) C Z hP hS (0) (cM_isSignP l E ς t n bs k2 p2 ts2 3 h2 3 (by decide)) vb_X12_isSign tw_5_141 ⟨rfl, rfl⟩ ⟨Nat.le_of_ble_eq_true rfl, Nat.le_of_ble_eq_true rfl⟩ (by decide) rfl rfl rfl rfl hl.1 rfl (Nat.le_of_ble_eq_true rfl) dX12_added3_8 ⟨Nat.zero_le _, Nat.zero_le _⟩ (fun r17 u18 H locs q19 hP hS => ?_)
        obtain ⟨rfl, q19u⟩ := q19
        rw [q19u] at hP; clear q19u
        refine lv_if_ne (tgt := 23) C.1 C.2.1 dX12_added3_11 (by decide) (fun c20 => ?_) (fun c20 => ?_)
        · have c20 := bI_n.mp c20
          refine lv_aload_n C.1 C.2.1 dX12_added3_23 rfl (lv_at hl 0 rfl) ?_
          refine mw_getl C Z hP (0) 22 (by decide) rfl rfl rfl (by decide) inX12 tw_4_186 dX12_added3_24 ?_
          refine mw_topl (y := 43) (((h2.2.2.2.2.2.1 3 (by decide)).mpr c20).2) ?_
          refine lv_ldc2 (own := RX12) C.1 C.2.1 C.2.2.2.1 (C.2.2.2.2 _ tw_5_149) dX12_added3_27 ?_
          refine W.lcmp C.1 C.2.1 dX12_added3_30 ?_
          refine lv_if_ne (tgt := 38) C.1 C.2.1 dX12_added3_31 (by decide) (fun c21 => ?_) (fun c21 => ?_)
          · have c21 := (not_congr (lg_cmp_eq _ _)).mp c21
            exact absurd c21 (by decide)
          · have c21 := (lg_cmp_eq _ _).mp c21
            refine lv_iconst (v := 1) C.1 C.2.1 dX12_added3_34 (by decide) ?_
            refine lv_goto (tgt := 39) C.1 C.2.1 dX12_added3_35 (by decide) ?_
            refine lv_istore_n (lv' := [(2, .int 1), (0, .ref (mw_a E 0)), (1, .int v)]) C.1 C.2.1 dX12_added3_39 rfl hl (by decide) rfl (fun ls hl => ?_)
            refine lv_aload_n C.1 C.2.1 dX12_added3_40 rfl (lv_at hl 1 rfl) ?_
            refine mw_cVv (As := []) (rest := []) C Z hP hS (0) (cM_nextP l E ς t n bs k2 p2 ts2 3 h2 (by omega) (by omega)) vb_X12_next tw_5_64 ⟨rfl, rfl⟩ ⟨Nat.le_of_ble_eq_true rfl, Nat.le_of_ble_eq_true rfl⟩ (by decide) rfl rfl rfl rfl hl.1 rfl (Nat.le_of_ble_eq_true rfl) dX12_added3_41 ⟨Nat.zero_le _, Nat.zero_le _⟩ (fun u23 H locs q24 hP hS => ?_)
            obtain ⟨⟨k25, p26, ts27, e28, h29⟩, f30⟩ := q24
            refine lv_aload_n C.1 C.2.1 dX12_added3_44 rfl (lv_at hl 1 rfl) ?_
            refine mw_cVi (As := []) (rest := []) C Z hP hS (0) (cM_term3 l E u23 t n bs k25 p26 ts27 h29) vb_X12_term3 tw_5_175 ⟨rfl, rfl⟩ ⟨Nat.le_of_ble_eq_true rfl, Nat.le_of_ble_eq_true rfl⟩ (by decide) rfl rfl rfl rfl hl.1 rfl (Nat.le_of_ble_eq_true rfl) dX12_added3_45 ⟨Nat.zero_le _, Nat.zero_le _⟩ (fun r31 u32 H locs q33 hP hS => ?_)
            rcases hg34 : (gLevel gTim (gD 2).1) ((k25, p26) :: ts27) with zz35 | qq36
            · obtain ⟨cs38, ts39⟩ := zz35
              rw [hg34] at q33
              obtain ⟨f37, ⟨k40, p41, ts42, e43, h44⟩, v45⟩ := q33
              have v45 := (f2.tr f30).evv v45
              refine lv_istore_n (lv' := [(3, .int r31), (2, .int 1), (0, .ref (mw_a E 0)), (1, .int v)]) C.1 C.2.1 dX12_added3_48 rfl hl (by decide) rfl (fun ls hl => ?_)
              refine lv_iload_n C.1 C.2.1 dX12_added3_49 rfl (lv_at hl 1 rfl) ?_
              refine lv_if_eq (tgt := 59) C.1 C.2.1 dX12_added3_50 (by decide) (fun c47 => ?_) (fun c47 => ?_)
              · exact absurd c47 (by decide)
              · refine lv_iload_n C.1 C.2.1 dX12_added3_53 rfl (lv_at hl 3 rfl) ?_
                refine lv_iload_n C.1 C.2.1 dX12_added3_54 rfl (lv_at hl 0 rfl) ?_
                refine lv_iadd C.1 C.2.1 dX12_added3_55 ?_
                refine lv_goto (tgt := 62) C.1 C.2.1 dX12_added3_56 (by decide) ?_
                refine lv_istore_n (lv' := [(1, .int (v + r31)), (3, .int r31), (2, .int 1), (0, .ref (mw_a E 0))]) C.1 C.2.1 dX12_added3_62 rfl hl (by decide) rfl (fun ls hl => ?_)
                refine lv_goto (tgt := 5) C.1 C.2.1 dX12_added3_63 (by decide) ?_
                exact ih (cs ++ cs38 ++ [k2]) k40 p41 ts42 (v + r31) u32 _ _ (by have d := (gLevel_dec (gD_dec 2).1) _ _ _ hg34; rw [e43, List.length_cons, List.length_cons] at d; rw [e28, List.length_cons] at hN; omega) h44 ((f2.tr f30).tr f37) (by have z := ruV_op (c := k2) hv v45 (by omega); rwa [show opF k2 v r31 = v + r31 by rw [c20]; rfl] at z) (by rw [hR, gLoop_s (by simp only [gTim, gAdd, gAnd, gOr, beq_iff_eq, Bool.or_eq_true]; omega) (by rw [e28]; exact hg34), e43]) hP hS ls (lv_sub hl [3, 0] rfl)
            · rw [hg34] at q33
              obtain ⟨f37, hb46⟩ := q33
              refine lv_istore_n (lv' := [(3, .int r31), (2, .int 1), (0, .ref (mw_a E 0)), (1, .int v)]) C.1 C.2.1 dX12_added3_48 rfl hl (by decide) rfl (fun ls hl => ?_)
              refine lv_iload_n C.1 C.2.1 dX12_added3_49 rfl (lv_at hl 1 rfl) ?_
              refine lv_if_eq (tgt := 59) C.1 C.2.1 dX12_added3_50 (by decide) (fun c48 => ?_) (fun c48 => ?_)
              · exact absurd c48 (by decide)
              · refine lv_iload_n C.1 C.2.1 dX12_added3_53 rfl (lv_at hl 3 rfl) ?_
                refine lv_iload_n C.1 C.2.1 dX12_added3_54 rfl (lv_at hl 0 rfl) ?_
                refine lv_iadd C.1 C.2.1 dX12_added3_55 ?_
                refine lv_goto (tgt := 62) C.1 C.2.1 dX12_added3_56 (by decide) ?_
                refine lv_istore_n (lv' := [(1, .int (v + r31)), (3, .int r31), (2, .int 1), (0, .ref (mw_a E 0))]) C.1 C.2.1 dX12_added3_62 rfl hl (by decide) rfl (fun ls hl => ?_)
                refine lv_goto (tgt := 5) C.1 C.2.1 dX12_added3_63 (by decide) ?_
                refine lv_aload_n C.1 C.2.1 dX12_added3_5 rfl (lv_at hl 3 rfl) ?_
                refine lv_bipush (v := 43) C.1 C.2.1 dX12_added3_6 (by decide) ?_
                refine mw_cVi (As := [.int 43]) (rest := []) C Z hP hS (0) (cM_isSignB l E u32 43 hb46.1) vb_X12_isSign tw_5_141 ⟨rfl, rfl⟩ ⟨Nat.le_of_ble_eq_true rfl, Nat.le_of_ble_eq_true rfl⟩ (by decide) rfl rfl rfl rfl hl.1 rfl (Nat.le_of_ble_eq_true rfl) dX12_added3_8 ⟨Nat.zero_le _, Nat.zero_le _⟩ (fun r49 u50 H locs q51 hP hS => ?_)
                obtain ⟨rfl, q51u⟩ := q51
                rw [q51u] at hP; clear q51u
                refine lv_if_ne (tgt := 23) C.1 C.2.1 dX12_added3_11 (by decide) (fun c52 => ?_) (fun c52 => ?_)
                · exact absurd c52 (by decide)
                · refine lv_aload_n C.1 C.2.1 dX12_added3_14 rfl (lv_at hl 3 rfl) ?_
                  refine lv_bipush (v := 45) C.1 C.2.1 dX12_added3_15 (by decide) ?_
                  refine mw_cVi (As := [.int 45]) (rest := []) C Z hP hS (0) (cM_isSignB l E u32 45 hb46.1) vb_X12_isSign tw_5_141 ⟨rfl, rfl⟩ ⟨Nat.le_of_ble_eq_true rfl, Nat.le_of_ble_eq_true rfl⟩ (by decide) rfl rfl rfl rfl hl.1 rfl (Nat.le_of_ble_eq_true rfl) dX12_added3_17 ⟨Nat.zero_le _, Nat.zero_le _⟩ (fun r53 u54 H locs q55 hP hS => ?_)
                  obtain ⟨rfl, q55u⟩ := q55
                  rw [q55u] at hP; clear q55u
                  refine lv_if_eq (tgt := 66) C.1 C.2.1 dX12_added3_20 (by decide) (fun c56 => ?_) (fun c56 => ?_)
                  · refine lv_iload_n C.1 C.2.1 dX12_added3_66 rfl (lv_at hl 0 rfl) ?_
                    exact mw_iret C hr hlk Z hP hS dX12_added3_67 (⟨((f2.tr f30).tr f37), by rw [hR, gLoop_f (by simp only [gTim, gAdd, gAnd, gOr, beq_iff_eq, Bool.or_eq_true]; omega) (by rw [e28]; exact hg34)]; exact hb46⟩)
                  · exact absurd c56 (by decide)
        · have c20 := bI_0.mp c20
          refine lv_aload_n C.1 C.2.1 dX12_added3_14 rfl (lv_at hl 0 rfl) ?_
          refine lv_bipush (v := 45) C.1 C.2.1 dX12_added3_15 (by decide) ?_
          refine mw_cVi (As := [.int 45]) (rest := []) C Z hP hS (0) (cM_isSignP l E ς t n bs k2 p2 ts2 3 h2 4 (by decide)) vb_X12_isSign tw_5_141 ⟨rfl, rfl⟩ ⟨Nat.le_of_ble_eq_true rfl, Nat.le_of_ble_eq_true rfl⟩ (by decide) rfl rfl rfl rfl hl.1 rfl (Nat.le_of_ble_eq_true rfl) dX12_added3_17 ⟨Nat.zero_le _, Nat.zero_le _⟩ (fun r57 u58 H locs q59 hP hS => ?_)
          obtain ⟨rfl, q59u⟩ := q59
          rw [q59u] at hP; clear q59u
          refine lv_if_eq (tgt := 66) C.1 C.2.1 dX12_added3_20 (by decide) (fun c60 => ?_) (fun c60 => ?_)
          · have c60 := bI_0.mp c60
            refine lv_iload_n C.1 C.2.1 dX12_added3_66 rfl (lv_at hl 1 rfl) ?_
            exact mw_iret C hr hlk Z hP hS dX12_added3_67 (⟨f2, by rw [hR, gLoop_e (by simp only [gTim, gAdd, gAnd, gOr, beq_iff_eq, Bool.or_eq_true]; omega)]; exact ⟨⟨k2, p2, ts2, rfl, h2⟩, hv⟩⟩)
          · have c60 := bI_n.mp c60
            refine lv_aload_n C.1 C.2.1 dX12_added3_23 rfl (lv_at hl 0 rfl) ?_
            refine mw_getl C Z hP (0) 22 (by decide) rfl rfl rfl (by decide) inX12 tw_4_186 dX12_added3_24 ?_
            refine mw_topl (y := 45) (((h2.2.2.2.2.2.1 4 (by decide)).mpr c60).2) ?_
            refine lv_ldc2 (own := RX12) C.1 C.2.1 C.2.2.2.1 (C.2.2.2.2 _ tw_5_149) dX12_added3_27 ?_
            refine W.lcmp C.1 C.2.1 dX12_added3_30 ?_
            refine lv_if_ne (tgt := 38) C.1 C.2.1 dX12_added3_31 (by decide) (fun c61 => ?_) (fun c61 => ?_)
            · have c61 := (not_congr (lg_cmp_eq _ _)).mp c61
              refine lv_iconst (v := 0) C.1 C.2.1 dX12_added3_38 (by decide) ?_
              refine lv_istore_n (lv' := [(2, .int 0), (0, .ref (mw_a E 0)), (1, .int v)]) C.1 C.2.1 dX12_added3_39 rfl hl (by decide) rfl (fun ls hl => ?_)
              refine lv_aload_n C.1 C.2.1 dX12_added3_40 rfl (lv_at hl 1 rfl) ?_
              refine mw_cVv (As := []) (rest := []) C Z hP hS (0) (cM_nextP l E ς t n bs k2 p2 ts2 3 h2 (by omega) (by omega)) vb_X12_next tw_5_64 ⟨rfl, rfl⟩ ⟨Nat.le_of_ble_eq_true rfl, Nat.le_of_ble_eq_true rfl⟩ (by decide) rfl rfl rfl rfl hl.1 rfl (Nat.le_of_ble_eq_true rfl) dX12_added3_41 ⟨Nat.zero_le _, Nat.zero_le _⟩ (fun u63 H locs q64 hP hS => ?_)
              obtain ⟨⟨k65, p66, ts67, e68, h69⟩, f70⟩ := q64
              refine lv_aload_n C.1 C.2.1 dX12_added3_44 rfl (lv_at hl 1 rfl) ?_
              refine mw_cVi (As := []) (rest := []) C Z hP hS (0) (cM_term3 l E u63 t n bs k65 p66 ts67 h69) vb_X12_term3 tw_5_175 ⟨rfl, rfl⟩ ⟨Nat.le_of_ble_eq_true rfl, Nat.le_of_ble_eq_true rfl⟩ (by decide) rfl rfl rfl rfl hl.1 rfl (Nat.le_of_ble_eq_true rfl) dX12_added3_45 ⟨Nat.zero_le _, Nat.zero_le _⟩ (fun r71 u72 H locs q73 hP hS => ?_)
              rcases hg74 : (gLevel gTim (gD 2).1) ((k65, p66) :: ts67) with zz75 | qq76
              · obtain ⟨cs78, ts79⟩ := zz75
                rw [hg74] at q73
                obtain ⟨f77, ⟨k80, p81, ts82, e83, h84⟩, v85⟩ := q73
                have v85 := (f2.tr f70).evv v85
                refine lv_istore_n (lv' := [(3, .int r71), (2, .int 0), (0, .ref (mw_a E 0)), (1, .int v)]) C.1 C.2.1 dX12_added3_48 rfl hl (by decide) rfl (fun ls hl => ?_)
                refine lv_iload_n C.1 C.2.1 dX12_added3_49 rfl (lv_at hl 1 rfl) ?_
                refine lv_if_eq (tgt := 59) C.1 C.2.1 dX12_added3_50 (by decide) (fun c87 => ?_) (fun c87 => ?_)
                · refine lv_iload_n C.1 C.2.1 dX12_added3_59 rfl (lv_at hl 3 rfl) ?_
                  refine lv_iload_n C.1 C.2.1 dX12_added3_60 rfl (lv_at hl 0 rfl) ?_
                  refine lv_isub C.1 C.2.1 dX12_added3_61 ?_
                  refine lv_istore_n (lv' := [(1, .int (v - r71)), (3, .int r71), (2, .int 0), (0, .ref (mw_a E 0))]) C.1 C.2.1 dX12_added3_62 rfl hl (by decide) rfl (fun ls hl => ?_)
                  refine lv_goto (tgt := 5) C.1 C.2.1 dX12_added3_63 (by decide) ?_
                  exact ih (cs ++ cs78 ++ [k2]) k80 p81 ts82 (v - r71) u72 _ _ (by have d := (gLevel_dec (gD_dec 2).1) _ _ _ hg74; rw [e83, List.length_cons, List.length_cons] at d; rw [e68, List.length_cons] at hN; omega) h84 ((f2.tr f70).tr f77) (by have z := ruV_op (c := k2) hv v85 (by omega); rwa [show opF k2 v r71 = v - r71 by rw [c60]; rfl] at z) (by rw [hR, gLoop_s (by simp only [gTim, gAdd, gAnd, gOr, beq_iff_eq, Bool.or_eq_true]; omega) (by rw [e68]; exact hg74), e83]) hP hS ls (lv_sub hl [3, 0] rfl)
                · exact absurd c87 (by decide)
              · rw [hg74] at q73
                obtain ⟨f77, hb86⟩ := q73
                refine lv_istore_n (lv' := [(3, .int r71), (2, .int 0), (0, .ref (mw_a E 0)), (1, .int v)]) C.1 C.2.1 dX12_added3_48 rfl hl (by decide) rfl (fun ls hl => ?_)
                refine lv_iload_n C.1 C.2.1 dX12_added3_49 rfl (lv_at hl 1 rfl) ?_
                refine lv_if_eq (tgt := 59) C.1 C.2.1 dX12_added3_50 (by decide) (fun c88 => ?_) (fun c88 => ?_)
                · refine lv_iload_n C.1 C.2.1 dX12_added3_59 rfl (lv_at hl 3 rfl) ?_
                  refine lv_iload_n C.1 C.2.1 dX12_added3_60 rfl (lv_at hl 0 rfl) ?_
                  refine lv_isub C.1 C.2.1 dX12_added3_61 ?_
                  refine lv_istore_n (lv' := [(1, .int (v - r71)), (3, .int r71), (2, .int 0), (0, .ref (mw_a E 0))]) C.1 C.2.1 dX12_added3_62 rfl hl (by decide) rfl (fun ls hl => ?_)
                  refine lv_goto (tgt := 5) C.1 C.2.1 dX12_added3_63 (by decide) ?_
                  refine lv_aload_n C.1 C.2.1 dX12_added3_5 rfl (lv_at hl 3 rfl) ?_
                  refine lv_bipush (v := 43) C.1 C.2.1 dX12_added3_6 (by decide) ?_
                  refine mw_cVi (As := [.int 43]) (rest := []) C Z hP hS (0) (cM_isSignB l E u72 43 hb86.1) vb_X12_isSign tw_5_141 ⟨rfl, rfl⟩ ⟨Nat.le_of_ble_eq_true rfl, Nat.le_of_ble_eq_true rfl⟩ (by decide) rfl rfl rfl rfl hl.1 rfl (Nat.le_of_ble_eq_true rfl) dX12_added3_8 ⟨Nat.zero_le _, Nat.zero_le _⟩ (fun r89 u90 H locs q91 hP hS => ?_)
                  obtain ⟨rfl, q91u⟩ := q91
                  rw [q91u] at hP; clear q91u
                  refine lv_if_ne (tgt := 23) C.1 C.2.1 dX12_added3_11 (by decide) (fun c92 => ?_) (fun c92 => ?_)
                  · exact absurd c92 (by decide)
                  · refine lv_aload_n C.1 C.2.1 dX12_added3_14 rfl (lv_at hl 3 rfl) ?_
                    refine lv_bipush (v := 45) C.1 C.2.1 dX12_added3_15 (by decide) ?_
                    refine mw_cVi (As := [.int 45]) (rest := []) C Z hP hS (0) (cM_isSignB l E u72 45 hb86.1) vb_X12_isSign tw_5_141 ⟨rfl, rfl⟩ ⟨Nat.le_of_ble_eq_true rfl, Nat.le_of_ble_eq_true rfl⟩ (by decide) rfl rfl rfl rfl hl.1 rfl (Nat.le_of_ble_eq_true rfl) dX12_added3_17 ⟨Nat.zero_le _, Nat.zero_le _⟩ (fun r93 u94 H locs q95 hP hS => ?_)
                    obtain ⟨rfl, q95u⟩ := q95
                    rw [q95u] at hP; clear q95u
                    refine lv_if_eq (tgt := 66) C.1 C.2.1 dX12_added3_20 (by decide) (fun c96 => ?_) (fun c96 => ?_)
                    · refine lv_iload_n C.1 C.2.1 dX12_added3_66 rfl (lv_at hl 0 rfl) ?_
                      exact mw_iret C hr hlk Z hP hS dX12_added3_67 (⟨((f2.tr f70).tr f77), by rw [hR, gLoop_f (by simp only [gTim, gAdd, gAnd, gOr, beq_iff_eq, Bool.or_eq_true]; omega) (by rw [e68]; exact hg74)]; exact hb86⟩)
                    · exact absurd c96 (by decide)
                · exact absurd c88 (by decide)
            · have c61 := (lg_cmp_eq _ _).mp c61
              exact absurd c61 (by decide)
    exact lp (ts12.length + 1) cs8 k10 p11 ts12 r1 u2 _ _ (Nat.le_refl _) h14 ((mFp.rf σ).tr f7) v15 (by rw [gLevel_I hg4, e13]; rfl) hP hS ls (lv_sub hl [1, 0] rfl)
  · rw [hg4] at q3
    obtain ⟨f7, hb16⟩ := q3
    refine lv_istore_n (lv' := [(1, .int r1), (0, .ref (mw_a E 0))]) C.1 C.2.1 dX12_added3_4 rfl hl (by decide) rfl (fun ls hl => ?_)
    refine lv_aload_n C.1 C.2.1 dX12_added3_5 rfl (lv_at hl 1 rfl) ?_
    refine lv_bipush (v := 43) C.1 C.2.1 dX12_added3_6 (by decide) ?_
    refine mw_cVi (As := [.int 43]) (rest := []) C Z hP hS (0) (cM_isSignB l E u2 43 hb16.1) vb_X12_isSign tw_5_141 ⟨rfl, rfl⟩ ⟨Nat.le_of_ble_eq_true rfl, Nat.le_of_ble_eq_true rfl⟩ (by decide) rfl rfl rfl rfl hl.1 rfl (Nat.le_of_ble_eq_true rfl) dX12_added3_8 ⟨Nat.zero_le _, Nat.zero_le _⟩ (fun r97 u98 H locs q99 hP hS => ?_)
    obtain ⟨rfl, q99u⟩ := q99
    rw [q99u] at hP; clear q99u
    refine lv_if_ne (tgt := 23) C.1 C.2.1 dX12_added3_11 (by decide) (fun c100 => ?_) (fun c100 => ?_)
    · exact absurd c100 (by decide)
    · refine lv_aload_n C.1 C.2.1 dX12_added3_14 rfl (lv_at hl 1 rfl) ?_
      refine lv_bipush (v := 45) C.1 C.2.1 dX12_added3_15 (by decide) ?_
      refine mw_cVi (As := [.int 45]) (rest := []) C Z hP hS (0) (cM_isSignB l E u2 45 hb16.1) vb_X12_isSign tw_5_141 ⟨rfl, rfl⟩ ⟨Nat.le_of_ble_eq_true rfl, Nat.le_of_ble_eq_true rfl⟩ (by decide) rfl rfl rfl rfl hl.1 rfl (Nat.le_of_ble_eq_true rfl) dX12_added3_17 ⟨Nat.zero_le _, Nat.zero_le _⟩ (fun r101 u102 H locs q103 hP hS => ?_)
      obtain ⟨rfl, q103u⟩ := q103
      rw [q103u] at hP; clear q103u
      refine lv_if_eq (tgt := 66) C.1 C.2.1 dX12_added3_20 (by decide) (fun c104 => ?_) (fun c104 => ?_)
      · refine lv_iload_n C.1 C.2.1 dX12_added3_66 rfl (lv_at hl 0 rfl) ?_
        exact mw_iret C hr hlk Z hP hS dX12_added3_67 (⟨((mFp.rf σ).tr f7), by rw [gLevel_F hg4]; exact hb16⟩)
      · exact absurd c104 (by decide)

set_option maxHeartbeats 4000000 in
set_option maxRecDepth 100000 in
theorem cM_not3 (l : Launch) (E : mw_E) (σ : mw_M) (t n : Nat) (bs : Nat → Int32) (k p : Nat) (ts : List (Nat × Nat)) (h : mPS σ t n bs k p ts 3) : mw_Ci shM 13 gM l yX12_not3 cX12_not3 4 (some .int) (rmF 19 420) E [.ref (mw_a E 0)] σ (fun r u => mOK σ u t n bs 3 r ((gD 2).2.1 ((k, p) :: ts))) := by
  refine mw_of (by decide) gM_ok (Nat.le_of_ble_eq_true rfl) ?_
  intro p_ e_ s_ m_ below meth c_ C hr hlk Z hP ls hl
  have C : CallFix p_ m_ c_ cX12_not3 4 s_ _ lw_good RX12 := C
  have hl : lv_has ls 4 [(0, .ref (mw_a E 0))] := hl
  have hS : va_S (mw_A 13 E) s_.heap s_.heap [] := va_S.rf
  refine lv_aload_n C.1 C.2.1 dX12_not3_0 rfl (lv_at hl 0 rfl) ?_
  refine lv_bipush (v := 110) C.1 C.2.1 dX12_not3_1 (by decide) ?_
  refine lv_bipush (v := 111) C.1 C.2.1 dX12_not3_3 (by decide) ?_
  refine lv_bipush (v := 116) C.1 C.2.1 dX12_not3_5 (by decide) ?_
  refine lv_iconst (v := 0) C.1 C.2.1 dX12_not3_7 (by decide) ?_
  refine lv_iconst (v := 0) C.1 C.2.1 dX12_not3_8 (by decide) ?_
  refine lv_iconst (v := 0) C.1 C.2.1 dX12_not3_9 (by decide) ?_
  refine lv_iconst (v := 0) C.1 C.2.1 dX12_not3_10 (by decide) ?_
  refine lv_iconst (v := 0) C.1 C.2.1 dX12_not3_11 (by decide) ?_
  refine mw_cVi (As := [.int 110, .int 111, .int 116, .int 0, .int 0, .int 0, .int 0, .int 0]) (rest := []) C Z hP hS (0) (cM_isWordP l E σ t n bs k p ts 3 h 11 (by decide)) vb_X12_isWord tw_5_77 ⟨rfl, rfl⟩ ⟨Nat.le_of_ble_eq_true rfl, Nat.le_of_ble_eq_true rfl⟩ (by decide) rfl rfl rfl rfl hl.1 rfl (Nat.le_of_ble_eq_true rfl) dX12_not3_12 ⟨Nat.zero_le _, Nat.zero_le _⟩ (fun r1 u2 H locs q3 hP hS => ?_)
  obtain ⟨rfl, q3u⟩ := q3
  rw [q3u] at hP; clear q3u
  refine lv_if_eq (tgt := 52) C.1 C.2.1 dX12_not3_15 (by decide) (fun c4 => ?_) (fun c4 => ?_)
  · have c4 := bI_0.mp c4
    refine lv_aload_n C.1 C.2.1 dX12_not3_52 rfl (lv_at hl 0 rfl) ?_
    refine mw_cVi (As := []) (rest := []) C Z hP hS (0) (cM_added3 l E σ t n bs k p ts h) vb_X12_added3 tw_5_171 ⟨rfl, rfl⟩ ⟨Nat.le_of_ble_eq_true rfl, Nat.le_of_ble_eq_true rfl⟩ (by decide) rfl rfl rfl rfl hl.1 rfl (Nat.le_of_ble_eq_true rfl) dX12_not3_53 ⟨Nat.zero_le _, Nat.zero_le _⟩ (fun r5 u6 H locs q7 hP hS => ?_)
    rcases hg8 : (gLevel gAdd (gLevel gTim (gD 2).1)) ((k, p) :: ts) with zz9 | qq10
    · obtain ⟨cs12, ts13⟩ := zz9
      rw [hg8] at q7
      obtain ⟨f11, ⟨k14, p15, ts16, e17, h18⟩, v19⟩ := q7
      have v19 := (mFp.rf σ).evv v19
      refine lv_istore_n (lv' := [(1, .int r5), (0, .ref (mw_a E 0))]) C.1 C.2.1 dX12_not3_56 rfl hl (by decide) rfl (fun ls hl => ?_)
      refine lv_aload_n C.1 C.2.1 dX12_not3_57 rfl (lv_at hl 1 rfl) ?_
      refine lv_bipush (v := 60) C.1 C.2.1 dX12_not3_58 (by decide) ?_
      refine mw_cVi (As := [.int 60]) (rest := []) C Z hP hS (0) (cM_isSignP l E u6 t n bs k14 p15 ts16 3 h18 6 (by decide)) vb_X12_isSign tw_5_141 ⟨rfl, rfl⟩ ⟨Nat.le_of_ble_eq_true rfl, Nat.le_of_ble_eq_true rfl⟩ (by decide) rfl rfl rfl rfl hl.1 rfl (Nat.le_of_ble_eq_true rfl) dX12_not3_60 ⟨Nat.zero_le _, Nat.zero_le _⟩ (fun r21 u22 H locs q23 hP hS => ?_)
      obtain ⟨rfl, q23u⟩ := q23
      rw [q23u] at hP; clear q23u
      refine lv_if_ne (tgt := 77) C.1 C.2.1 dX12_not3_63 (by decide) (fun c24 => ?_) (fun c24 => ?_)
      · have c24 := bI_n.mp c24
        refine lv_aload_n C.1 C.2.1 dX12_not3_77 rfl (lv_at hl 1 rfl) ?_
        refine mw_getl C Z hP (0) 22 (by decide) rfl rfl rfl (by decide) inX12 tw_4_186 dX12_not3_78 ?_
        refine mw_topl (y := 60) (((h18.2.2.2.2.2.1 6 (by decide)).mpr c24).2) ?_
        refine lv_ldc2 (own := RX12) C.1 C.2.1 C.2.2.2.1 (C.2.2.2.2 _ tw_5_150) dX12_not3_81 ?_
        refine W.lcmp C.1 C.2.1 dX12_not3_84 ?_
        refine lv_if_ne (tgt := 92) C.1 C.2.1 dX12_not3_85 (by decide) (fun c25 => ?_) (fun c25 => ?_)
        · have c25 := (not_congr (lg_cmp_eq _ _)).mp c25
          exact absurd c25 (by decide)
        · have c25 := (lg_cmp_eq _ _).mp c25
          refine lv_iconst (v := 1) C.1 C.2.1 dX12_not3_88 (by decide) ?_
          refine lv_goto (tgt := 93) C.1 C.2.1 dX12_not3_89 (by decide) ?_
          refine lv_istore_n (lv' := [(2, .int 1), (1, .int r5), (0, .ref (mw_a E 0))]) C.1 C.2.1 dX12_not3_93 rfl hl (by decide) rfl (fun ls hl => ?_)
          refine lv_aload_n C.1 C.2.1 dX12_not3_94 rfl (lv_at hl 2 rfl) ?_
          refine mw_cVv (As := []) (rest := []) C Z hP hS (0) (cM_nextP l E u6 t n bs k14 p15 ts16 3 h18 (by omega) (by omega)) vb_X12_next tw_5_64 ⟨rfl, rfl⟩ ⟨Nat.le_of_ble_eq_true rfl, Nat.le_of_ble_eq_true rfl⟩ (by decide) rfl rfl rfl rfl hl.1 rfl (Nat.le_of_ble_eq_true rfl) dX12_not3_95 ⟨Nat.zero_le _, Nat.zero_le _⟩ (fun u27 H locs q28 hP hS => ?_)
          obtain ⟨⟨k29, p30, ts31, e32, h33⟩, f34⟩ := q28
          refine lv_aload_n C.1 C.2.1 dX12_not3_98 rfl (lv_at hl 2 rfl) ?_
          refine mw_cVi (As := []) (rest := []) C Z hP hS (0) (cM_added3 l E u27 t n bs k29 p30 ts31 h33) vb_X12_added3 tw_5_171 ⟨rfl, rfl⟩ ⟨Nat.le_of_ble_eq_true rfl, Nat.le_of_ble_eq_true rfl⟩ (by decide) rfl rfl rfl rfl hl.1 rfl (Nat.le_of_ble_eq_true rfl) dX12_not3_99 ⟨Nat.zero_le _, Nat.zero_le _⟩ (fun r35 u36 H locs q37 hP hS => ?_)
          rcases hg38 : (gLevel gAdd (gLevel gTim (gD 2).1)) ((k29, p30) :: ts31) with zz39 | qq40
          · obtain ⟨cs42, ts43⟩ := zz39
            rw [hg38] at q37
            obtain ⟨f41, ⟨k44, p45, ts46, e47, h48⟩, v49⟩ := q37
            have v49 := (((mFp.rf σ).tr f11).tr f34).evv v49
            refine lv_istore_n (lv' := [(3, .int r35), (2, .int 1), (1, .int r5), (0, .ref (mw_a E 0))]) C.1 C.2.1 dX12_not3_102 rfl hl (by decide) rfl (fun ls hl => ?_)
            refine lv_iload_n C.1 C.2.1 dX12_not3_103 rfl (lv_at hl 1 rfl) ?_
            refine lv_if_eq (tgt := 115) C.1 C.2.1 dX12_not3_104 (by decide) (fun c51 => ?_) (fun c51 => ?_)
            · exact absurd c51 (by decide)
            · refine lv_iload_n C.1 C.2.1 dX12_not3_107 rfl (lv_at hl 2 rfl) ?_
              refine lv_iload_n C.1 C.2.1 dX12_not3_108 rfl (lv_at hl 0 rfl) ?_
              refine lv_icmp_ge (tgt := 124) C.1 C.2.1 dX12_not3_109 (by decide) (fun c52 => ?_) (fun c52 => ?_)
              · refine lv_iconst (v := 0) C.1 C.2.1 dX12_not3_124 (by decide) ?_
                exact mw_iret C hr hlk Z hP hS dX12_not3_125 (⟨((((mFp.rf σ).tr f11).tr f34).tr f41), by rw [gN_2, gNot_n (by omega), gCmp_2I (by rw [← e17]; exact hg8) (by omega) (by rw [e32]; exact hg38)]; exact ⟨⟨k44, p45, ts46, e47, h48⟩, by have z := ruV_op (c := k14) v19 v49 (by omega); rwa [show opF k14 r5 r35 = 0 by rw [c24]; exact bI_f (by rw [ni_le] at c52; rw [ni_lt]; omega)] at z⟩⟩)
              · refine lv_goto (tgt := 120) C.1 C.2.1 dX12_not3_112 (by decide) ?_
                refine lv_iconst (v := 1) C.1 C.2.1 dX12_not3_120 (by decide) ?_
                refine lv_goto (tgt := 125) C.1 C.2.1 dX12_not3_121 (by decide) ?_
                exact mw_iret C hr hlk Z hP hS dX12_not3_125 (⟨((((mFp.rf σ).tr f11).tr f34).tr f41), by rw [gN_2, gNot_n (by omega), gCmp_2I (by rw [← e17]; exact hg8) (by omega) (by rw [e32]; exact hg38)]; exact ⟨⟨k44, p45, ts46, e47, h48⟩, by have z := ruV_op (c := k14) v19 v49 (by omega); rwa [show opF k14 r5 r35 = 1 by rw [c24]; exact bI_t (by rw [ni_le] at c52; rw [ni_lt]; omega)] at z⟩⟩)
          · rw [hg38] at q37
            obtain ⟨f41, hb50⟩ := q37
            refine lv_istore_n (lv' := [(3, .int r35), (2, .int 1), (1, .int r5), (0, .ref (mw_a E 0))]) C.1 C.2.1 dX12_not3_102 rfl hl (by decide) rfl (fun ls hl => ?_)
            refine lv_iload_n C.1 C.2.1 dX12_not3_103 rfl (lv_at hl 1 rfl) ?_
            refine lv_if_eq (tgt := 115) C.1 C.2.1 dX12_not3_104 (by decide) (fun c53 => ?_) (fun c53 => ?_)
            · exact absurd c53 (by decide)
            · refine lv_iload_n C.1 C.2.1 dX12_not3_107 rfl (lv_at hl 2 rfl) ?_
              refine lv_iload_n C.1 C.2.1 dX12_not3_108 rfl (lv_at hl 0 rfl) ?_
              refine lv_icmp_ge (tgt := 124) C.1 C.2.1 dX12_not3_109 (by decide) (fun c54 => ?_) (fun c54 => ?_)
              · refine lv_iconst (v := 0) C.1 C.2.1 dX12_not3_124 (by decide) ?_
                exact mw_iret C hr hlk Z hP hS dX12_not3_125 (⟨((((mFp.rf σ).tr f11).tr f34).tr f41), by rw [gN_2, gNot_n (by omega), gCmp_2F (by rw [← e17]; exact hg8) (by omega) (by rw [e32]; exact hg38)]; exact hb50⟩)
              · refine lv_goto (tgt := 120) C.1 C.2.1 dX12_not3_112 (by decide) ?_
                refine lv_iconst (v := 1) C.1 C.2.1 dX12_not3_120 (by decide) ?_
                refine lv_goto (tgt := 125) C.1 C.2.1 dX12_not3_121 (by decide) ?_
                exact mw_iret C hr hlk Z hP hS dX12_not3_125 (⟨((((mFp.rf σ).tr f11).tr f34).tr f41), by rw [gN_2, gNot_n (by omega), gCmp_2F (by rw [← e17]; exact hg8) (by omega) (by rw [e32]; exact hg38)]; exact hb50⟩)
      · have c24 := bI_0.mp c24
        refine lv_aload_n C.1 C.2.1 dX12_not3_66 rfl (lv_at hl 1 rfl) ?_
        refine lv_bipush (v := 61) C.1 C.2.1 dX12_not3_67 (by decide) ?_
        refine mw_cVi (As := [.int 61]) (rest := []) C Z hP hS (0) (cM_isSignP l E u6 t n bs k14 p15 ts16 3 h18 7 (by decide)) vb_X12_isSign tw_5_141 ⟨rfl, rfl⟩ ⟨Nat.le_of_ble_eq_true rfl, Nat.le_of_ble_eq_true rfl⟩ (by decide) rfl rfl rfl rfl hl.1 rfl (Nat.le_of_ble_eq_true rfl) dX12_not3_69 ⟨Nat.zero_le _, Nat.zero_le _⟩ (fun r55 u56 H locs q57 hP hS => ?_)
        obtain ⟨rfl, q57u⟩ := q57
        rw [q57u] at hP; clear q57u
        refine lv_if_ne (tgt := 77) C.1 C.2.1 dX12_not3_72 (by decide) (fun c58 => ?_) (fun c58 => ?_)
        · have c58 := bI_n.mp c58
          refine lv_aload_n C.1 C.2.1 dX12_not3_77 rfl (lv_at hl 1 rfl) ?_
          refine mw_getl C Z hP (0) 22 (by decide) rfl rfl rfl (by decide) inX12 tw_4_186 dX12_not3_78 ?_
          refine mw_topl (y := 61) (((h18.2.2.2.2.2.1 7 (by decide)).mpr c58).2) ?_
          refine lv_ldc2 (own := RX12) C.1 C.2.1 C.2.2.2.1 (C.2.2.2.2 _ tw_5_150) dX12_not3_81 ?_
          refine W.lcmp C.1 C.2.1 dX12_not3_84 ?_
          refine lv_if_ne (tgt := 92) C.1 C.2.1 dX12_not3_85 (by decide) (fun c59 => ?_) (fun c59 => ?_)
          · have c59 := (not_congr (lg_cmp_eq _ _)).mp c59
            refine lv_iconst (v := 0) C.1 C.2.1 dX12_not3_92 (by decide) ?_
            refine lv_istore_n (lv' := [(2, .int 0), (1, .int r5), (0, .ref (mw_a E 0))]) C.1 C.2.1 dX12_not3_93 rfl hl (by decide) rfl (fun ls hl => ?_)
            refine lv_aload_n C.1 C.2.1 dX12_not3_94 rfl (lv_at hl 2 rfl) ?_
            refine mw_cVv (As := []) (rest := []) C Z hP hS (0) (cM_nextP l E u6 t n bs k14 p15 ts16 3 h18 (by omega) (by omega)) vb_X12_next tw_5_64 ⟨rfl, rfl⟩ ⟨Nat.le_of_ble_eq_true rfl, Nat.le_of_ble_eq_true rfl⟩ (by decide) rfl rfl rfl rfl hl.1 rfl (Nat.le_of_ble_eq_true rfl) dX12_not3_95 ⟨Nat.zero_le _, Nat.zero_le _⟩ (fun u61 H locs q62 hP hS => ?_)
            obtain ⟨⟨k63, p64, ts65, e66, h67⟩, f68⟩ := q62
            refine lv_aload_n C.1 C.2.1 dX12_not3_98 rfl (lv_at hl 2 rfl) ?_
            refine mw_cVi (As := []) (rest := []) C Z hP hS (0) (cM_added3 l E u61 t n bs k63 p64 ts65 h67) vb_X12_added3 tw_5_171 ⟨rfl, rfl⟩ ⟨Nat.le_of_ble_eq_true rfl, Nat.le_of_ble_eq_true rfl⟩ (by decide) rfl rfl rfl rfl hl.1 rfl (Nat.le_of_ble_eq_true rfl) dX12_not3_99 ⟨Nat.zero_le _, Nat.zero_le _⟩ (fun r69 u70 H locs q71 hP hS => ?_)
            rcases hg72 : (gLevel gAdd (gLevel gTim (gD 2).1)) ((k63, p64) :: ts65) with zz73 | qq74
            · obtain ⟨cs76, ts77⟩ := zz73
              rw [hg72] at q71
              obtain ⟨f75, ⟨k78, p79, ts80, e81, h82⟩, v83⟩ := q71
              have v83 := (((mFp.rf σ).tr f11).tr f68).evv v83
              refine lv_istore_n (lv' := [(3, .int r69), (2, .int 0), (1, .int r5), (0, .ref (mw_a E 0))]) C.1 C.2.1 dX12_not3_102 rfl hl (by decide) rfl (fun ls hl => ?_)
              refine lv_iload_n C.1 C.2.1 dX12_not3_103 rfl (lv_at hl 1 rfl) ?_
              refine lv_if_eq (tgt := 115) C.1 C.2.1 dX12_not3_104 (by decide) (fun c85 => ?_) (fun c85 => ?_)
              · refine lv_iload_n C.1 C.2.1 dX12_not3_115 rfl (lv_at hl 2 rfl) ?_
                refine lv_iload_n C.1 C.2.1 dX12_not3_116 rfl (lv_at hl 0 rfl) ?_
                refine lv_icmp_ne (tgt := 124) C.1 C.2.1 dX12_not3_117 (by decide) (fun c86 => ?_) (fun c86 => ?_)
                · refine lv_iconst (v := 0) C.1 C.2.1 dX12_not3_124 (by decide) ?_
                  exact mw_iret C hr hlk Z hP hS dX12_not3_125 (⟨((((mFp.rf σ).tr f11).tr f68).tr f75), by rw [gN_2, gNot_n (by omega), gCmp_2I (by rw [← e17]; exact hg8) (by omega) (by rw [e66]; exact hg72)]; exact ⟨⟨k78, p79, ts80, e81, h82⟩, by have z := ruV_op (c := k14) v19 v83 (by omega); rwa [show opF k14 r5 r69 = 0 by rw [c58]; exact bI_f c86] at z⟩⟩)
                · refine lv_iconst (v := 1) C.1 C.2.1 dX12_not3_120 (by decide) ?_
                  refine lv_goto (tgt := 125) C.1 C.2.1 dX12_not3_121 (by decide) ?_
                  exact mw_iret C hr hlk Z hP hS dX12_not3_125 (⟨((((mFp.rf σ).tr f11).tr f68).tr f75), by rw [gN_2, gNot_n (by omega), gCmp_2I (by rw [← e17]; exact hg8) (by omega) (by rw [e66]; exact hg72)]; exact ⟨⟨k78, p79, ts80, e81, h82⟩, by have z := ruV_op (c := k14) v19 v83 (by omega); rwa [show opF k14 r5 r69 = 1 by rw [c58]; exact bI_t c86] at z⟩⟩)
              · exact absurd c85 (by decide)
            · rw [hg72] at q71
              obtain ⟨f75, hb84⟩ := q71
              refine lv_istore_n (lv' := [(3, .int r69), (2, .int 0), (1, .int r5), (0, .ref (mw_a E 0))]) C.1 C.2.1 dX12_not3_102 rfl hl (by decide) rfl (fun ls hl => ?_)
              refine lv_iload_n C.1 C.2.1 dX12_not3_103 rfl (lv_at hl 1 rfl) ?_
              refine lv_if_eq (tgt := 115) C.1 C.2.1 dX12_not3_104 (by decide) (fun c87 => ?_) (fun c87 => ?_)
              · refine lv_iload_n C.1 C.2.1 dX12_not3_115 rfl (lv_at hl 2 rfl) ?_
                refine lv_iload_n C.1 C.2.1 dX12_not3_116 rfl (lv_at hl 0 rfl) ?_
                refine lv_icmp_ne (tgt := 124) C.1 C.2.1 dX12_not3_117 (by decide) (fun c88 => ?_) (fun c88 => ?_)
                · refine lv_iconst (v := 0) C.1 C.2.1 dX12_not3_124 (by decide) ?_
                  exact mw_iret C hr hlk Z hP hS dX12_not3_125 (⟨((((mFp.rf σ).tr f11).tr f68).tr f75), by rw [gN_2, gNot_n (by omega), gCmp_2F (by rw [← e17]; exact hg8) (by omega) (by rw [e66]; exact hg72)]; exact hb84⟩)
                · refine lv_iconst (v := 1) C.1 C.2.1 dX12_not3_120 (by decide) ?_
                  refine lv_goto (tgt := 125) C.1 C.2.1 dX12_not3_121 (by decide) ?_
                  exact mw_iret C hr hlk Z hP hS dX12_not3_125 (⟨((((mFp.rf σ).tr f11).tr f68).tr f75), by rw [gN_2, gNot_n (by omega), gCmp_2F (by rw [← e17]; exact hg8) (by omega) (by rw [e66]; exact hg72)]; exact hb84⟩)
              · exact absurd c87 (by decide)
          · have c59 := (lg_cmp_eq _ _).mp c59
            exact absurd c59 (by decide)
        · have c58 := bI_0.mp c58
          refine lv_iload_n C.1 C.2.1 dX12_not3_75 rfl (lv_at hl 0 rfl) ?_
          exact mw_iret C hr hlk Z hP hS dX12_not3_76 (⟨((mFp.rf σ).tr f11), by rw [gN_2, gNot_n (by omega), gCmp_1 (by rw [← e17]; exact hg8) (by omega)]; exact ⟨⟨k14, p15, ts16, rfl, h18⟩, v19⟩⟩)
    · rw [hg8] at q7
      obtain ⟨f11, hb20⟩ := q7
      refine lv_istore_n (lv' := [(1, .int r5), (0, .ref (mw_a E 0))]) C.1 C.2.1 dX12_not3_56 rfl hl (by decide) rfl (fun ls hl => ?_)
      refine lv_aload_n C.1 C.2.1 dX12_not3_57 rfl (lv_at hl 1 rfl) ?_
      refine lv_bipush (v := 60) C.1 C.2.1 dX12_not3_58 (by decide) ?_
      refine mw_cVi (As := [.int 60]) (rest := []) C Z hP hS (0) (cM_isSignB l E u6 60 hb20.1) vb_X12_isSign tw_5_141 ⟨rfl, rfl⟩ ⟨Nat.le_of_ble_eq_true rfl, Nat.le_of_ble_eq_true rfl⟩ (by decide) rfl rfl rfl rfl hl.1 rfl (Nat.le_of_ble_eq_true rfl) dX12_not3_60 ⟨Nat.zero_le _, Nat.zero_le _⟩ (fun r89 u90 H locs q91 hP hS => ?_)
      obtain ⟨rfl, q91u⟩ := q91
      rw [q91u] at hP; clear q91u
      refine lv_if_ne (tgt := 77) C.1 C.2.1 dX12_not3_63 (by decide) (fun c92 => ?_) (fun c92 => ?_)
      · exact absurd c92 (by decide)
      · refine lv_aload_n C.1 C.2.1 dX12_not3_66 rfl (lv_at hl 1 rfl) ?_
        refine lv_bipush (v := 61) C.1 C.2.1 dX12_not3_67 (by decide) ?_
        refine mw_cVi (As := [.int 61]) (rest := []) C Z hP hS (0) (cM_isSignB l E u6 61 hb20.1) vb_X12_isSign tw_5_141 ⟨rfl, rfl⟩ ⟨Nat.le_of_ble_eq_true rfl, Nat.le_of_ble_eq_true rfl⟩ (by decide) rfl rfl rfl rfl hl.1 rfl (Nat.le_of_ble_eq_true rfl) dX12_not3_69 ⟨Nat.zero_le _, Nat.zero_le _⟩ (fun r93 u94 H locs q95 hP hS => ?_)
        obtain ⟨rfl, q95u⟩ := q95
        rw [q95u] at hP; clear q95u
        refine lv_if_ne (tgt := 77) C.1 C.2.1 dX12_not3_72 (by decide) (fun c96 => ?_) (fun c96 => ?_)
        · exact absurd c96 (by decide)
        · refine lv_iload_n C.1 C.2.1 dX12_not3_75 rfl (lv_at hl 0 rfl) ?_
          exact mw_iret C hr hlk Z hP hS dX12_not3_76 (⟨((mFp.rf σ).tr f11), by rw [gN_2, gNot_n (by omega), gCmp_F hg8]; exact hb20⟩)
  · have c4 := bI_n.mp c4
    refine lv_aload_n C.1 C.2.1 dX12_not3_18 rfl (lv_at hl 0 rfl) ?_
    refine mw_cVi (As := []) (rest := []) C Z hP hS (0) (cM_opens l E σ t n bs k p ts 3 (by decide) h (by omega) (by omega)) vb_X12_opens tw_5_105 ⟨rfl, rfl⟩ ⟨Nat.le_of_ble_eq_true rfl, Nat.le_of_ble_eq_true rfl⟩ (by decide) rfl rfl rfl rfl hl.1 rfl (Nat.le_of_ble_eq_true rfl) dX12_not3_19 ⟨Nat.zero_le _, Nat.zero_le _⟩ (fun r97 u98 H locs q99 hP hS => ?_)
    obtain ⟨rfl, ⟨k100, p101, ts102, e103, h104⟩, f105⟩ := q99
    refine lv_if_ne (tgt := 27) C.1 C.2.1 dX12_not3_22 (by decide) (fun c106 => ?_) (fun c106 => ?_)
    · refine lv_aload_n C.1 C.2.1 dX12_not3_27 rfl (lv_at hl 0 rfl) ?_
      refine mw_cVi (As := []) (rest := []) C Z hP hS (0) (cM_not4 l E u98 t n bs k100 p101 ts102 h104) vb_X12_not4 tw_5_121 ⟨rfl, rfl⟩ ⟨Nat.le_of_ble_eq_true rfl, Nat.le_of_ble_eq_true rfl⟩ (by decide) rfl rfl rfl rfl hl.1 rfl (Nat.le_of_ble_eq_true rfl) dX12_not3_28 ⟨Nat.zero_le _, Nat.zero_le _⟩ (fun r107 u108 H locs q109 hP hS => ?_)
      rcases hg110 : ((gD 1).2.1) ((k100, p101) :: ts102) with zz111 | qq112
      · obtain ⟨cs114, ts115⟩ := zz111
        rw [hg110] at q109
        obtain ⟨f113, ⟨k116, p117, ts118, e119, h120⟩, v121⟩ := q109
        have v121 := ((mFp.rf σ).tr f105).evv v121
        refine lv_istore_n (lv' := [(1, .int r107), (0, .ref (mw_a E 0))]) C.1 C.2.1 dX12_not3_31 rfl hl (by decide) rfl (fun ls hl => ?_)
        refine lv_aload_n C.1 C.2.1 dX12_not3_32 rfl (lv_at hl 1 rfl) ?_
        refine lv_dup C.1 C.2.1 dX12_not3_33 rfl ?_
        refine mw_geti C Z hP (0) 23 (by decide) rfl rfl rfl (by decide) inX12 tw_4_187 dX12_not3_34 ?_
        refine mw_top (y := nI 4) (h120.2.2.1) ?_
        refine lv_iconst (v := 1) C.1 C.2.1 dX12_not3_37 (by decide) ?_
        refine lv_isub C.1 C.2.1 dX12_not3_38 ?_
        refine mw_top (y := nI 3) (by decide) ?_
        refine mw_puti C Z hP hS (0) 23 (by decide) rfl rfl rfl (by decide) inX12 tyX12 tyX12_ok nmX12 rfl tw_4_187 rfl rfl dX12_not3_39 (fun H locs hP hS => ?_)
        have h123 : mPS (mw_si u108 0 23 (nI 3)) t n bs k116 p117 ts118 3 := ⟨h120.1, h120.2.1, rfl, h120.2.2.2⟩
        refine lv_iload_n C.1 C.2.1 dX12_not3_42 rfl (lv_at hl 0 rfl) ?_
        refine lv_if_ne (tgt := 50) C.1 C.2.1 dX12_not3_43 (by decide) (fun c124 => ?_) (fun c124 => ?_)
        · refine lv_iconst (v := 0) C.1 C.2.1 dX12_not3_50 (by decide) ?_
          exact mw_iret C hr hlk Z hP hS dX12_not3_51 (⟨((((mFp.rf σ).tr f105).tr f113).si (by decide) _), by rw [gN_2, gNot_I (by omega) (by rw [e103]; exact hg110)]; exact ⟨⟨k116, p117, ts118, e119, h123⟩, by have z := ruV_not v121; rwa [show bI (r107 = 0) = 0 by simp [bI, c124]] at z⟩⟩)
        · refine lv_iconst (v := 1) C.1 C.2.1 dX12_not3_46 (by decide) ?_
          refine lv_goto (tgt := 51) C.1 C.2.1 dX12_not3_47 (by decide) ?_
          exact mw_iret C hr hlk Z hP hS dX12_not3_51 (⟨((((mFp.rf σ).tr f105).tr f113).si (by decide) _), by rw [gN_2, gNot_I (by omega) (by rw [e103]; exact hg110)]; exact ⟨⟨k116, p117, ts118, e119, h123⟩, by have z := ruV_not v121; rwa [show bI (r107 = 0) = 1 by simp [bI, c124]] at z⟩⟩)
      · rw [hg110] at q109
        obtain ⟨f113, hb122⟩ := q109
        refine lv_istore_n (lv' := [(1, .int r107), (0, .ref (mw_a E 0))]) C.1 C.2.1 dX12_not3_31 rfl hl (by decide) rfl (fun ls hl => ?_)
        refine lv_aload_n C.1 C.2.1 dX12_not3_32 rfl (lv_at hl 1 rfl) ?_
        refine lv_dup C.1 C.2.1 dX12_not3_33 rfl ?_
        refine mw_geti C Z hP (0) 23 (by decide) rfl rfl rfl (by decide) inX12 tw_4_187 dX12_not3_34 ?_
        refine lv_iconst (v := 1) C.1 C.2.1 dX12_not3_37 (by decide) ?_
        refine lv_isub C.1 C.2.1 dX12_not3_38 ?_
        refine mw_puti C Z hP hS (0) 23 (by decide) rfl rfl rfl (by decide) inX12 tyX12 tyX12_ok nmX12 rfl tw_4_187 rfl rfl dX12_not3_39 (fun H locs hP hS => ?_)
        have hb125 : mBd (mw_si u108 0 23 ((u108.1 0 23) - 1)) qq112 := hb122
        refine lv_iload_n C.1 C.2.1 dX12_not3_42 rfl (lv_at hl 0 rfl) ?_
        refine lv_if_ne (tgt := 50) C.1 C.2.1 dX12_not3_43 (by decide) (fun c126 => ?_) (fun c126 => ?_)
        · refine lv_iconst (v := 0) C.1 C.2.1 dX12_not3_50 (by decide) ?_
          exact mw_iret C hr hlk Z hP hS dX12_not3_51 (⟨((((mFp.rf σ).tr f105).tr f113).si (by decide) _), by rw [gN_2, gNot_F (by omega) (by rw [e103]; exact hg110)]; exact hb125⟩)
        · refine lv_iconst (v := 1) C.1 C.2.1 dX12_not3_46 (by decide) ?_
          refine lv_goto (tgt := 51) C.1 C.2.1 dX12_not3_47 (by decide) ?_
          exact mw_iret C hr hlk Z hP hS dX12_not3_51 (⟨((((mFp.rf σ).tr f105).tr f113).si (by decide) _), by rw [gN_2, gNot_F (by omega) (by rw [e103]; exact hg110)]; exact hb125⟩)
    · exact absurd c106 (by decide)

set_option maxHeartbeats 4000000 in
set_option maxRecDepth 100000 in
theorem cM_both3 (l : Launch) (E : mw_E) (σ : mw_M) (t n : Nat) (bs : Nat → Int32) (k p : Nat) (ts : List (Nat × Nat)) (h : mPS σ t n bs k p ts 3) : mw_Ci shM 13 gM l yX12_both3 cX12_both3 3 (some .int) (rmF 20 443) E [.ref (mw_a E 0)] σ (fun r u => mOK σ u t n bs 3 r (gLevel gAnd (gD 2).2.1 ((k, p) :: ts))) := by
  refine mw_of (by decide) gM_ok (Nat.le_of_ble_eq_true rfl) ?_
  intro p_ e_ s_ m_ below meth c_ C hr hlk Z hP ls hl
  have C : CallFix p_ m_ c_ cX12_both3 3 s_ _ lw_good RX12 := C
  have hl : lv_has ls 3 [(0, .ref (mw_a E 0))] := hl
  have hS : va_S (mw_A 13 E) s_.heap s_.heap [] := va_S.rf
  refine lv_aload_n C.1 C.2.1 dX12_both3_0 rfl (lv_at hl 0 rfl) ?_
  refine mw_cVi (As := []) (rest := []) C Z hP hS (0) (cM_not3 l E σ t n bs k p ts h) vb_X12_not3 tw_5_117 ⟨rfl, rfl⟩ ⟨Nat.le_of_ble_eq_true rfl, Nat.le_of_ble_eq_true rfl⟩ (by decide) rfl rfl rfl rfl hl.1 rfl (Nat.le_of_ble_eq_true rfl) dX12_both3_1 ⟨Nat.zero_le _, Nat.zero_le _⟩ (fun r1 u2 H locs q3 hP hS => ?_)
  rcases hg4 : ((gD 2).2.1) ((k, p) :: ts) with zz5 | qq6
  · obtain ⟨cs8, ts9⟩ := zz5
    rw [hg4] at q3
    obtain ⟨f7, ⟨k10, p11, ts12, e13, h14⟩, v15⟩ := q3
    have v15 := (mFp.rf σ).evv v15
    refine lv_istore_n (lv' := [(1, .int r1), (0, .ref (mw_a E 0))]) C.1 C.2.1 dX12_both3_4 rfl hl (by decide) rfl (fun ls hl => ?_)
    have lp : ∀ (N : Nat) (cs : List Nat) (k2 p2 : Nat) (ts2 : List (Nat × Nat)) (v : Int32) (ς : mw_M) (H : Heap) (locs : List Loc), ts2.length + 1 ≤ N → mPS ς t n bs k2 p2 ts2 3 → mFp σ ς → ruV (mEv σ) cs v → gLevel gAnd (gD 2).2.1 ((k, p) :: ts) = gLoop gAnd ((gD 2).2.1) N cs ((k2, p2) :: ts2) → va_P (mw_D E) vwCl (mw_ws shM 13 E ς) H → va_S (mw_A 13 E) s_.heap H locs → ∀ (ls : Array Slot), lv_has ls 3 [(0, .ref (mw_a E 0)), (1, .int v)] → mWi p_ l e_ (rmF 20 443) s_ m_ [.ref (mw_a E 0)] below meth c_ E (fun r u => mOK σ u t n bs 3 r (gLevel gAnd (gD 2).2.1 ((k, p) :: ts))) H locs (F0 m_ 5 ls []) := by
      intro N
      induction N with
      | zero => intro cs k2 p2 ts2 v ς H locs hN; exact absurd hN (by omega)
      | succ N ih =>
        intro cs k2 p2 ts2 v ς H locs hN h2 f2 hv hR hP hS ls hl
        refine lv_aload_n C.1 C.2.1 dX12_both3_5 rfl (lv_at hl 0 rfl) ?_
        refine lv_bipush (v := 97) C.1 C.2.1 dX12_both3_6 (by decide) ?_
        refine lv_bipush (v := 110) C.1 C.2.1 dX12_both3_8 (by decide) ?_
        refine lv_bipush (v := 100) C.1 C.2.1 dX12_both3_10 (by decide) ?_
        refine lv_iconst (v := 0) C.1 C.2.1 dX12_both3_12 (by decide) ?_
        refine lv_iconst (v := 0) C.1 C.2.1 dX12_both3_13 (by decide) ?_
        refine lv_iconst (v := 0) C.1 C.2.1 dX12_both3_14 (by decide) ?_
        refine lv_iconst (v := 0) C.1 C.2.1 dX12_both3_15 (by decide) ?_
        refine lv_iconst (v := 0) C.1 C.2.1 dX12_both3_16 (by decide) ?_
        refine mw_cVi (As := [.int 97, .int 110, .int 100, .int 0, .int 0, .int 0, .int 0, .int 0]) (rest := []) C Z hP hS (0) (cM_isWordP l E ς t n bs k2 p2 ts2 3 h2 10 (by decide)) vb_X12_isWord tw_5_77 ⟨rfl, rfl⟩ ⟨Nat.le_of_ble_eq_true rfl, Nat.le_of_ble_eq_true rfl⟩ (by decide) rfl rfl rfl rfl hl.1 rfl (Nat.le_of_ble_eq_true rfl) dX12_both3_17 ⟨Nat.zero_le _, Nat.zero_le _⟩ (fun r17 u18 H locs q19 hP hS => ?_)
        obtain ⟨rfl, q19u⟩ := q19
        rw [q19u] at hP; clear q19u
        refine lv_if_eq (tgt := 49) C.1 C.2.1 dX12_both3_20 (by decide) (fun c20 => ?_) (fun c20 => ?_)
        · have c20 := bI_0.mp c20
          refine lv_iload_n C.1 C.2.1 dX12_both3_49 rfl (lv_at hl 1 rfl) ?_
          exact mw_iret C hr hlk Z hP hS dX12_both3_50 (⟨f2, by rw [hR, gLoop_e (by simp only [gTim, gAdd, gAnd, gOr, beq_iff_eq, Bool.or_eq_true]; omega)]; exact ⟨⟨k2, p2, ts2, rfl, h2⟩, hv⟩⟩)
        · have c20 := bI_n.mp c20
          refine lv_aload_n C.1 C.2.1 dX12_both3_23 rfl (lv_at hl 0 rfl) ?_
          refine mw_cVv (As := []) (rest := []) C Z hP hS (0) (cM_nextP l E ς t n bs k2 p2 ts2 3 h2 (by omega) (by omega)) vb_X12_next tw_5_64 ⟨rfl, rfl⟩ ⟨Nat.le_of_ble_eq_true rfl, Nat.le_of_ble_eq_true rfl⟩ (by decide) rfl rfl rfl rfl hl.1 rfl (Nat.le_of_ble_eq_true rfl) dX12_both3_24 ⟨Nat.zero_le _, Nat.zero_le _⟩ (fun u22 H locs q23 hP hS => ?_)
          obtain ⟨⟨k24, p25, ts26, e27, h28⟩, f29⟩ := q23
          refine lv_aload_n C.1 C.2.1 dX12_both3_27 rfl (lv_at hl 0 rfl) ?_
          refine mw_cVi (As := []) (rest := []) C Z hP hS (0) (cM_not3 l E u22 t n bs k24 p25 ts26 h28) vb_X12_not3 tw_5_117 ⟨rfl, rfl⟩ ⟨Nat.le_of_ble_eq_true rfl, Nat.le_of_ble_eq_true rfl⟩ (by decide) rfl rfl rfl rfl hl.1 rfl (Nat.le_of_ble_eq_true rfl) dX12_both3_28 ⟨Nat.zero_le _, Nat.zero_le _⟩ (fun r30 u31 H locs q32 hP hS => ?_)
          rcases hg33 : ((gD 2).2.1) ((k24, p25) :: ts26) with zz34 | qq35
          · obtain ⟨cs37, ts38⟩ := zz34
            rw [hg33] at q32
            obtain ⟨f36, ⟨k39, p40, ts41, e42, h43⟩, v44⟩ := q32
            have v44 := (f2.tr f29).evv v44
            refine lv_istore_n (lv' := [(2, .int r30), (0, .ref (mw_a E 0)), (1, .int v)]) C.1 C.2.1 dX12_both3_31 rfl hl (by decide) rfl (fun ls hl => ?_)
            refine lv_iload_n C.1 C.2.1 dX12_both3_32 rfl (lv_at hl 2 rfl) ?_
            refine lv_if_eq (tgt := 44) C.1 C.2.1 dX12_both3_33 (by decide) (fun c46 => ?_) (fun c46 => ?_)
            · refine lv_iconst (v := 0) C.1 C.2.1 dX12_both3_44 (by decide) ?_
              refine lv_istore_n (lv' := [(1, .int 0), (2, .int r30), (0, .ref (mw_a E 0))]) C.1 C.2.1 dX12_both3_45 rfl hl (by decide) rfl (fun ls hl => ?_)
              refine lv_goto (tgt := 5) C.1 C.2.1 dX12_both3_46 (by decide) ?_
              exact ih (cs ++ cs37 ++ [k2]) k39 p40 ts41 0 u31 _ _ (by have d := (gD_dec 2).2.1 _ _ _ hg33; rw [e42, List.length_cons, List.length_cons] at d; rw [e27, List.length_cons] at hN; omega) h43 ((f2.tr f29).tr f36) (by have z := ruV_op (c := k2) hv v44 (by omega); rwa [show opF k2 v r30 = 0 by rw [c20]; simp [opF, bI, c46]] at z) (by rw [hR, gLoop_s (by simp only [gTim, gAdd, gAnd, gOr, beq_iff_eq, Bool.or_eq_true]; omega) (by rw [e27]; exact hg33), e42]) hP hS ls (lv_sub hl [2, 0] rfl)
            · refine lv_iload_n C.1 C.2.1 dX12_both3_36 rfl (lv_at hl 0 rfl) ?_
              refine lv_if_eq (tgt := 44) C.1 C.2.1 dX12_both3_37 (by decide) (fun c47 => ?_) (fun c47 => ?_)
              · refine lv_iconst (v := 0) C.1 C.2.1 dX12_both3_44 (by decide) ?_
                refine lv_istore_n (lv' := [(1, .int 0), (2, .int r30), (0, .ref (mw_a E 0))]) C.1 C.2.1 dX12_both3_45 rfl hl (by decide) rfl (fun ls hl => ?_)
                refine lv_goto (tgt := 5) C.1 C.2.1 dX12_both3_46 (by decide) ?_
                exact ih (cs ++ cs37 ++ [k2]) k39 p40 ts41 0 u31 _ _ (by have d := (gD_dec 2).2.1 _ _ _ hg33; rw [e42, List.length_cons, List.length_cons] at d; rw [e27, List.length_cons] at hN; omega) h43 ((f2.tr f29).tr f36) (by have z := ruV_op (c := k2) hv v44 (by omega); rwa [show opF k2 v r30 = 0 by rw [c20]; simp [opF, bI, c46, c47]] at z) (by rw [hR, gLoop_s (by simp only [gTim, gAdd, gAnd, gOr, beq_iff_eq, Bool.or_eq_true]; omega) (by rw [e27]; exact hg33), e42]) hP hS ls (lv_sub hl [2, 0] rfl)
              · refine lv_iconst (v := 1) C.1 C.2.1 dX12_both3_40 (by decide) ?_
                refine lv_goto (tgt := 45) C.1 C.2.1 dX12_both3_41 (by decide) ?_
                refine lv_istore_n (lv' := [(1, .int 1), (2, .int r30), (0, .ref (mw_a E 0))]) C.1 C.2.1 dX12_both3_45 rfl hl (by decide) rfl (fun ls hl => ?_)
                refine lv_goto (tgt := 5) C.1 C.2.1 dX12_both3_46 (by decide) ?_
                exact ih (cs ++ cs37 ++ [k2]) k39 p40 ts41 1 u31 _ _ (by have d := (gD_dec 2).2.1 _ _ _ hg33; rw [e42, List.length_cons, List.length_cons] at d; rw [e27, List.length_cons] at hN; omega) h43 ((f2.tr f29).tr f36) (by have z := ruV_op (c := k2) hv v44 (by omega); rwa [show opF k2 v r30 = 1 by rw [c20]; simp [opF, bI, c46, c47]] at z) (by rw [hR, gLoop_s (by simp only [gTim, gAdd, gAnd, gOr, beq_iff_eq, Bool.or_eq_true]; omega) (by rw [e27]; exact hg33), e42]) hP hS ls (lv_sub hl [2, 0] rfl)
          · rw [hg33] at q32
            obtain ⟨f36, hb45⟩ := q32
            refine lv_istore_n (lv' := [(2, .int r30), (0, .ref (mw_a E 0)), (1, .int v)]) C.1 C.2.1 dX12_both3_31 rfl hl (by decide) rfl (fun ls hl => ?_)
            refine lv_iload_n C.1 C.2.1 dX12_both3_32 rfl (lv_at hl 2 rfl) ?_
            refine lv_if_eq (tgt := 44) C.1 C.2.1 dX12_both3_33 (by decide) (fun c48 => ?_) (fun c48 => ?_)
            · refine lv_iconst (v := 0) C.1 C.2.1 dX12_both3_44 (by decide) ?_
              refine lv_istore_n (lv' := [(1, .int 0), (2, .int r30), (0, .ref (mw_a E 0))]) C.1 C.2.1 dX12_both3_45 rfl hl (by decide) rfl (fun ls hl => ?_)
              refine lv_goto (tgt := 5) C.1 C.2.1 dX12_both3_46 (by decide) ?_
              refine lv_aload_n C.1 C.2.1 dX12_both3_5 rfl (lv_at hl 2 rfl) ?_
              refine lv_bipush (v := 97) C.1 C.2.1 dX12_both3_6 (by decide) ?_
              refine lv_bipush (v := 110) C.1 C.2.1 dX12_both3_8 (by decide) ?_
              refine lv_bipush (v := 100) C.1 C.2.1 dX12_both3_10 (by decide) ?_
              refine lv_iconst (v := 0) C.1 C.2.1 dX12_both3_12 (by decide) ?_
              refine lv_iconst (v := 0) C.1 C.2.1 dX12_both3_13 (by decide) ?_
              refine lv_iconst (v := 0) C.1 C.2.1 dX12_both3_14 (by decide) ?_
              refine lv_iconst (v := 0) C.1 C.2.1 dX12_both3_15 (by decide) ?_
              refine lv_iconst (v := 0) C.1 C.2.1 dX12_both3_16 (by decide) ?_
              refine mw_cVi (As := [.int 97, .int 110, .int 100, .int 0, .int 0, .int 0, .int 0, .int 0]) (rest := []) C Z hP hS (0) (cM_isWordB l E u31 hb45.1 97 110 100 0 0 0 0 0) vb_X12_isWord tw_5_77 ⟨rfl, rfl⟩ ⟨Nat.le_of_ble_eq_true rfl, Nat.le_of_ble_eq_true rfl⟩ (by decide) rfl rfl rfl rfl hl.1 rfl (Nat.le_of_ble_eq_true rfl) dX12_both3_17 ⟨Nat.zero_le _, Nat.zero_le _⟩ (fun r49 u50 H locs q51 hP hS => ?_)
              obtain ⟨rfl, q51u⟩ := q51
              rw [q51u] at hP; clear q51u
              refine lv_if_eq (tgt := 49) C.1 C.2.1 dX12_both3_20 (by decide) (fun c52 => ?_) (fun c52 => ?_)
              · refine lv_iload_n C.1 C.2.1 dX12_both3_49 rfl (lv_at hl 0 rfl) ?_
                exact mw_iret C hr hlk Z hP hS dX12_both3_50 (⟨((f2.tr f29).tr f36), by rw [hR, gLoop_f (by simp only [gTim, gAdd, gAnd, gOr, beq_iff_eq, Bool.or_eq_true]; omega) (by rw [e27]; exact hg33)]; exact hb45⟩)
              · exact absurd c52 (by decide)
            · refine lv_iload_n C.1 C.2.1 dX12_both3_36 rfl (lv_at hl 0 rfl) ?_
              refine lv_if_eq (tgt := 44) C.1 C.2.1 dX12_both3_37 (by decide) (fun c53 => ?_) (fun c53 => ?_)
              · refine lv_iconst (v := 0) C.1 C.2.1 dX12_both3_44 (by decide) ?_
                refine lv_istore_n (lv' := [(1, .int 0), (2, .int r30), (0, .ref (mw_a E 0))]) C.1 C.2.1 dX12_both3_45 rfl hl (by decide) rfl (fun ls hl => ?_)
                refine lv_goto (tgt := 5) C.1 C.2.1 dX12_both3_46 (by decide) ?_
                refine lv_aload_n C.1 C.2.1 dX12_both3_5 rfl (lv_at hl 2 rfl) ?_
                refine lv_bipush (v := 97) C.1 C.2.1 dX12_both3_6 (by decide) ?_
                refine lv_bipush (v := 110) C.1 C.2.1 dX12_both3_8 (by decide) ?_
                refine lv_bipush (v := 100) C.1 C.2.1 dX12_both3_10 (by decide) ?_
                refine lv_iconst (v := 0) C.1 C.2.1 dX12_both3_12 (by decide) ?_
                refine lv_iconst (v := 0) C.1 C.2.1 dX12_both3_13 (by decide) ?_
                refine lv_iconst (v := 0) C.1 C.2.1 dX12_both3_14 (by decide) ?_
                refine lv_iconst (v := 0) C.1 C.2.1 dX12_both3_15 (by decide) ?_
                refine lv_iconst (v := 0) C.1 C.2.1 dX12_both3_16 (by decide) ?_
                refine mw_cVi (As := [.int 97, .int 110, .int 100, .int 0, .int 0, .int 0, .int 0, .int 0]) (rest := []) C Z hP hS (0) (cM_isWordB l E u31 hb45.1 97 110 100 0 0 0 0 0) vb_X12_isWord tw_5_77 ⟨rfl, rfl⟩ ⟨Nat.le_of_ble_eq_true rfl, Nat.le_of_ble_eq_true rfl⟩ (by decide) rfl rfl rfl rfl hl.1 rfl (Nat.le_of_ble_eq_true rfl) dX12_both3_17 ⟨Nat.zero_le _, Nat.zero_le _⟩ (fun r54 u55 H locs q56 hP hS => ?_)
                obtain ⟨rfl, q56u⟩ := q56
                rw [q56u] at hP; clear q56u
                refine lv_if_eq (tgt := 49) C.1 C.2.1 dX12_both3_20 (by decide) (fun c57 => ?_) (fun c57 => ?_)
                · refine lv_iload_n C.1 C.2.1 dX12_both3_49 rfl (lv_at hl 0 rfl) ?_
                  exact mw_iret C hr hlk Z hP hS dX12_both3_50 (⟨((f2.tr f29).tr f36), by rw [hR, gLoop_f (by simp only [gTim, gAdd, gAnd, gOr, beq_iff_eq, Bool.or_eq_true]; omega) (by rw [e27]; exact hg33)]; exact hb45⟩)
                · exact absurd c57 (by decide)
              · refine lv_iconst (v := 1) C.1 C.2.1 dX12_both3_40 (by decide) ?_
                refine lv_goto (tgt := 45) C.1 C.2.1 dX12_both3_41 (by decide) ?_
                refine lv_istore_n (lv' := [(1, .int 1), (2, .int r30), (0, .ref (mw_a E 0))]) C.1 C.2.1 dX12_both3_45 rfl hl (by decide) rfl (fun ls hl => ?_)
                refine lv_goto (tgt := 5) C.1 C.2.1 dX12_both3_46 (by decide) ?_
                refine lv_aload_n C.1 C.2.1 dX12_both3_5 rfl (lv_at hl 2 rfl) ?_
                refine lv_bipush (v := 97) C.1 C.2.1 dX12_both3_6 (by decide) ?_
                refine lv_bipush (v := 110) C.1 C.2.1 dX12_both3_8 (by decide) ?_
                refine lv_bipush (v := 100) C.1 C.2.1 dX12_both3_10 (by decide) ?_
                refine lv_iconst (v := 0) C.1 C.2.1 dX12_both3_12 (by decide) ?_
                refine lv_iconst (v := 0) C.1 C.2.1 dX12_both3_13 (by decide) ?_
                refine lv_iconst (v := 0) C.1 C.2.1 dX12_both3_14 (by decide) ?_
                refine lv_iconst (v := 0) C.1 C.2.1 dX12_both3_15 (by decide) ?_
                refine lv_iconst (v := 0) C.1 C.2.1 dX12_both3_16 (by decide) ?_
                refine mw_cVi (As := [.int 97, .int 110, .int 100, .int 0, .int 0, .int 0, .int 0, .int 0]) (rest := []) C Z hP hS (0) (cM_isWordB l E u31 hb45.1 97 110 100 0 0 0 0 0) vb_X12_isWord tw_5_77 ⟨rfl, rfl⟩ ⟨Nat.le_of_ble_eq_true rfl, Nat.le_of_ble_eq_true rfl⟩ (by decide) rfl rfl rfl rfl hl.1 rfl (Nat.le_of_ble_eq_true rfl) dX12_both3_17 ⟨Nat.zero_le _, Nat.zero_le _⟩ (fun r58 u59 H locs q60 hP hS => ?_)
                obtain ⟨rfl, q60u⟩ := q60
                rw [q60u] at hP; clear q60u
                refine lv_if_eq (tgt := 49) C.1 C.2.1 dX12_both3_20 (by decide) (fun c61 => ?_) (fun c61 => ?_)
                · refine lv_iload_n C.1 C.2.1 dX12_both3_49 rfl (lv_at hl 0 rfl) ?_
                  exact mw_iret C hr hlk Z hP hS dX12_both3_50 (⟨((f2.tr f29).tr f36), by rw [hR, gLoop_f (by simp only [gTim, gAdd, gAnd, gOr, beq_iff_eq, Bool.or_eq_true]; omega) (by rw [e27]; exact hg33)]; exact hb45⟩)
                · exact absurd c61 (by decide)
    exact lp (ts12.length + 1) cs8 k10 p11 ts12 r1 u2 _ _ (Nat.le_refl _) h14 ((mFp.rf σ).tr f7) v15 (by rw [gLevel_I hg4, e13]; rfl) hP hS ls (lv_sub hl [1, 0] rfl)
  · rw [hg4] at q3
    obtain ⟨f7, hb16⟩ := q3
    refine lv_istore_n (lv' := [(1, .int r1), (0, .ref (mw_a E 0))]) C.1 C.2.1 dX12_both3_4 rfl hl (by decide) rfl (fun ls hl => ?_)
    refine lv_aload_n C.1 C.2.1 dX12_both3_5 rfl (lv_at hl 1 rfl) ?_
    refine lv_bipush (v := 97) C.1 C.2.1 dX12_both3_6 (by decide) ?_
    refine lv_bipush (v := 110) C.1 C.2.1 dX12_both3_8 (by decide) ?_
    refine lv_bipush (v := 100) C.1 C.2.1 dX12_both3_10 (by decide) ?_
    refine lv_iconst (v := 0) C.1 C.2.1 dX12_both3_12 (by decide) ?_
    refine lv_iconst (v := 0) C.1 C.2.1 dX12_both3_13 (by decide) ?_
    refine lv_iconst (v := 0) C.1 C.2.1 dX12_both3_14 (by decide) ?_
    refine lv_iconst (v := 0) C.1 C.2.1 dX12_both3_15 (by decide) ?_
    refine lv_iconst (v := 0) C.1 C.2.1 dX12_both3_16 (by decide) ?_
    refine mw_cVi (As := [.int 97, .int 110, .int 100, .int 0, .int 0, .int 0, .int 0, .int 0]) (rest := []) C Z hP hS (0) (cM_isWordB l E u2 hb16.1 97 110 100 0 0 0 0 0) vb_X12_isWord tw_5_77 ⟨rfl, rfl⟩ ⟨Nat.le_of_ble_eq_true rfl, Nat.le_of_ble_eq_true rfl⟩ (by decide) rfl rfl rfl rfl hl.1 rfl (Nat.le_of_ble_eq_true rfl) dX12_both3_17 ⟨Nat.zero_le _, Nat.zero_le _⟩ (fun r62 u63 H locs q64 hP hS => ?_)
    obtain ⟨rfl, q64u⟩ := q64
    rw [q64u] at hP; clear q64u
    refine lv_if_eq (tgt := 49) C.1 C.2.1 dX12_both3_20 (by decide) (fun c65 => ?_) (fun c65 => ?_)
    · refine lv_iload_n C.1 C.2.1 dX12_both3_49 rfl (lv_at hl 0 rfl) ?_
      exact mw_iret C hr hlk Z hP hS dX12_both3_50 (⟨((mFp.rf σ).tr f7), by rw [gLevel_F hg4]; exact hb16⟩)
    · exact absurd c65 (by decide)

set_option maxHeartbeats 4000000 in
set_option maxRecDepth 100000 in
theorem cM_either3 (l : Launch) (E : mw_E) (σ : mw_M) (t n : Nat) (bs : Nat → Int32) (k p : Nat) (ts : List (Nat × Nat)) (h : mPS σ t n bs k p ts 3) : mw_Ci shM 13 gM l yX12_either3 cX12_either3 3 (some .int) (rmF 21 465) E [.ref (mw_a E 0)] σ (fun r u => mOK σ u t n bs 3 r ((gD 2).2.2 ((k, p) :: ts))) := by
  refine mw_of (by decide) gM_ok (Nat.le_of_ble_eq_true rfl) ?_
  intro p_ e_ s_ m_ below meth c_ C hr hlk Z hP ls hl
  have C : CallFix p_ m_ c_ cX12_either3 3 s_ _ lw_good RX12 := C
  have hl : lv_has ls 3 [(0, .ref (mw_a E 0))] := hl
  have hS : va_S (mw_A 13 E) s_.heap s_.heap [] := va_S.rf
  refine lv_aload_n C.1 C.2.1 dX12_either3_0 rfl (lv_at hl 0 rfl) ?_
  refine mw_cVi (As := []) (rest := []) C Z hP hS (0) (cM_both3 l E σ t n bs k p ts h) vb_X12_both3 tw_5_207 ⟨rfl, rfl⟩ ⟨Nat.le_of_ble_eq_true rfl, Nat.le_of_ble_eq_true rfl⟩ (by decide) rfl rfl rfl rfl hl.1 rfl (Nat.le_of_ble_eq_true rfl) dX12_either3_1 ⟨Nat.zero_le _, Nat.zero_le _⟩ (fun r1 u2 H locs q3 hP hS => ?_)
  rcases hg4 : (gLevel gAnd (gD 2).2.1) ((k, p) :: ts) with zz5 | qq6
  · obtain ⟨cs8, ts9⟩ := zz5
    rw [hg4] at q3
    obtain ⟨f7, ⟨k10, p11, ts12, e13, h14⟩, v15⟩ := q3
    have v15 := (mFp.rf σ).evv v15
    refine lv_istore_n (lv' := [(1, .int r1), (0, .ref (mw_a E 0))]) C.1 C.2.1 dX12_either3_4 rfl hl (by decide) rfl (fun ls hl => ?_)
    have lp : ∀ (N : Nat) (cs : List Nat) (k2 p2 : Nat) (ts2 : List (Nat × Nat)) (v : Int32) (ς : mw_M) (H : Heap) (locs : List Loc), ts2.length + 1 ≤ N → mPS ς t n bs k2 p2 ts2 3 → mFp σ ς → ruV (mEv σ) cs v → (gD 2).2.2 ((k, p) :: ts) = gLoop gOr (gLevel gAnd (gD 2).2.1) N cs ((k2, p2) :: ts2) → va_P (mw_D E) vwCl (mw_ws shM 13 E ς) H → va_S (mw_A 13 E) s_.heap H locs → ∀ (ls : Array Slot), lv_has ls 3 [(0, .ref (mw_a E 0)), (1, .int v)] → mWi p_ l e_ (rmF 21 465) s_ m_ [.ref (mw_a E 0)] below meth c_ E (fun r u => mOK σ u t n bs 3 r ((gD 2).2.2 ((k, p) :: ts))) H locs (F0 m_ 5 ls []) := by
      intro N
      induction N with
      | zero => intro cs k2 p2 ts2 v ς H locs hN; exact absurd hN (by omega)
      | succ N ih =>
        intro cs k2 p2 ts2 v ς H locs hN h2 f2 hv hR hP hS ls hl
        refine lv_aload_n C.1 C.2.1 dX12_either3_5 rfl (lv_at hl 0 rfl) ?_
        refine lv_bipush (v := 111) C.1 C.2.1 dX12_either3_6 (by decide) ?_
        refine lv_bipush (v := 114) C.1 C.2.1 dX12_either3_8 (by decide) ?_
        refine lv_iconst (v := 0) C.1 C.2.1 dX12_either3_10 (by decide) ?_
        refine lv_iconst (v := 0) C.1 C.2.1 dX12_either3_11 (by decide) ?_
        refine lv_iconst (v := 0) C.1 C.2.1 dX12_either3_12 (by decide) ?_
        refine lv_iconst (v := 0) C.1 C.2.1 dX12_either3_13 (by decide) ?_
        refine lv_iconst (v := 0) C.1 C.2.1 dX12_either3_14 (by decide) ?_
        refine lv_iconst (v := 0) C.1 C.2.1 dX12_either3_15 (by decide) ?_
        refine mw_cVi (As := [.int 111, .int 114, .int 0, .int 0, .int 0, .int 0, .int 0, .int 0]) (rest := []) C Z hP hS (0) (cM_isWordP l E ς t n bs k2 p2 ts2 3 h2 9 (by decide)) vb_X12_isWord tw_5_77 ⟨rfl, rfl⟩ ⟨Nat.le_of_ble_eq_true rfl, Nat.le_of_ble_eq_true rfl⟩ (by decide) rfl rfl rfl rfl hl.1 rfl (Nat.le_of_ble_eq_true rfl) dX12_either3_16 ⟨Nat.zero_le _, Nat.zero_le _⟩ (fun r17 u18 H locs q19 hP hS => ?_)
        obtain ⟨rfl, q19u⟩ := q19
        rw [q19u] at hP; clear q19u
        refine lv_if_eq (tgt := 48) C.1 C.2.1 dX12_either3_19 (by decide) (fun c20 => ?_) (fun c20 => ?_)
        · have c20 := bI_0.mp c20
          refine lv_iload_n C.1 C.2.1 dX12_either3_48 rfl (lv_at hl 1 rfl) ?_
          exact mw_iret C hr hlk Z hP hS dX12_either3_49 (⟨f2, by rw [hR, gLoop_e (by simp only [gTim, gAdd, gAnd, gOr, beq_iff_eq, Bool.or_eq_true]; omega)]; exact ⟨⟨k2, p2, ts2, rfl, h2⟩, hv⟩⟩)
        · have c20 := bI_n.mp c20
          refine lv_aload_n C.1 C.2.1 dX12_either3_22 rfl (lv_at hl 0 rfl) ?_
          refine mw_cVv (As := []) (rest := []) C Z hP hS (0) (cM_nextP l E ς t n bs k2 p2 ts2 3 h2 (by omega) (by omega)) vb_X12_next tw_5_64 ⟨rfl, rfl⟩ ⟨Nat.le_of_ble_eq_true rfl, Nat.le_of_ble_eq_true rfl⟩ (by decide) rfl rfl rfl rfl hl.1 rfl (Nat.le_of_ble_eq_true rfl) dX12_either3_23 ⟨Nat.zero_le _, Nat.zero_le _⟩ (fun u22 H locs q23 hP hS => ?_)
          obtain ⟨⟨k24, p25, ts26, e27, h28⟩, f29⟩ := q23
          refine lv_aload_n C.1 C.2.1 dX12_either3_26 rfl (lv_at hl 0 rfl) ?_
          refine mw_cVi (As := []) (rest := []) C Z hP hS (0) (cM_both3 l E u22 t n bs k24 p25 ts26 h28) vb_X12_both3 tw_5_207 ⟨rfl, rfl⟩ ⟨Nat.le_of_ble_eq_true rfl, Nat.le_of_ble_eq_true rfl⟩ (by decide) rfl rfl rfl rfl hl.1 rfl (Nat.le_of_ble_eq_true rfl) dX12_either3_27 ⟨Nat.zero_le _, Nat.zero_le _⟩ (fun r30 u31 H locs q32 hP hS => ?_)
          rcases hg33 : (gLevel gAnd (gD 2).2.1) ((k24, p25) :: ts26) with zz34 | qq35
          · obtain ⟨cs37, ts38⟩ := zz34
            rw [hg33] at q32
            obtain ⟨f36, ⟨k39, p40, ts41, e42, h43⟩, v44⟩ := q32
            have v44 := (f2.tr f29).evv v44
            refine lv_istore_n (lv' := [(2, .int r30), (0, .ref (mw_a E 0)), (1, .int v)]) C.1 C.2.1 dX12_either3_30 rfl hl (by decide) rfl (fun ls hl => ?_)
            refine lv_iload_n C.1 C.2.1 dX12_either3_31 rfl (lv_at hl 2 rfl) ?_
            refine lv_if_ne (tgt := 39) C.1 C.2.1 dX12_either3_32 (by decide) (fun c46 => ?_) (fun c46 => ?_)
            · refine lv_iconst (v := 1) C.1 C.2.1 dX12_either3_39 (by decide) ?_
              refine lv_goto (tgt := 44) C.1 C.2.1 dX12_either3_40 (by decide) ?_
              refine lv_istore_n (lv' := [(1, .int 1), (2, .int r30), (0, .ref (mw_a E 0))]) C.1 C.2.1 dX12_either3_44 rfl hl (by decide) rfl (fun ls hl => ?_)
              refine lv_goto (tgt := 5) C.1 C.2.1 dX12_either3_45 (by decide) ?_
              exact ih (cs ++ cs37 ++ [k2]) k39 p40 ts41 1 u31 _ _ (by have d := (gLevel_dec (gD_dec 2).2.1) _ _ _ hg33; rw [e42, List.length_cons, List.length_cons] at d; rw [e27, List.length_cons] at hN; omega) h43 ((f2.tr f29).tr f36) (by have z := ruV_op (c := k2) hv v44 (by omega); rwa [show opF k2 v r30 = 1 by rw [c20]; simp [opF, bI, c46]] at z) (by rw [hR, gLoop_s (by simp only [gTim, gAdd, gAnd, gOr, beq_iff_eq, Bool.or_eq_true]; omega) (by rw [e27]; exact hg33), e42]) hP hS ls (lv_sub hl [2, 0] rfl)
            · refine lv_iload_n C.1 C.2.1 dX12_either3_35 rfl (lv_at hl 0 rfl) ?_
              refine lv_if_eq (tgt := 43) C.1 C.2.1 dX12_either3_36 (by decide) (fun c47 => ?_) (fun c47 => ?_)
              · refine lv_iconst (v := 0) C.1 C.2.1 dX12_either3_43 (by decide) ?_
                refine lv_istore_n (lv' := [(1, .int 0), (2, .int r30), (0, .ref (mw_a E 0))]) C.1 C.2.1 dX12_either3_44 rfl hl (by decide) rfl (fun ls hl => ?_)
                refine lv_goto (tgt := 5) C.1 C.2.1 dX12_either3_45 (by decide) ?_
                exact ih (cs ++ cs37 ++ [k2]) k39 p40 ts41 0 u31 _ _ (by have d := (gLevel_dec (gD_dec 2).2.1) _ _ _ hg33; rw [e42, List.length_cons, List.length_cons] at d; rw [e27, List.length_cons] at hN; omega) h43 ((f2.tr f29).tr f36) (by have z := ruV_op (c := k2) hv v44 (by omega); rwa [show opF k2 v r30 = 0 by rw [c20]; simp [opF, bI, c46, c47]] at z) (by rw [hR, gLoop_s (by simp only [gTim, gAdd, gAnd, gOr, beq_iff_eq, Bool.or_eq_true]; omega) (by rw [e27]; exact hg33), e42]) hP hS ls (lv_sub hl [2, 0] rfl)
              · refine lv_iconst (v := 1) C.1 C.2.1 dX12_either3_39 (by decide) ?_
                refine lv_goto (tgt := 44) C.1 C.2.1 dX12_either3_40 (by decide) ?_
                refine lv_istore_n (lv' := [(1, .int 1), (2, .int r30), (0, .ref (mw_a E 0))]) C.1 C.2.1 dX12_either3_44 rfl hl (by decide) rfl (fun ls hl => ?_)
                refine lv_goto (tgt := 5) C.1 C.2.1 dX12_either3_45 (by decide) ?_
                exact ih (cs ++ cs37 ++ [k2]) k39 p40 ts41 1 u31 _ _ (by have d := (gLevel_dec (gD_dec 2).2.1) _ _ _ hg33; rw [e42, List.length_cons, List.length_cons] at d; rw [e27, List.length_cons] at hN; omega) h43 ((f2.tr f29).tr f36) (by have z := ruV_op (c := k2) hv v44 (by omega); rwa [show opF k2 v r30 = 1 by rw [c20]; simp [opF, bI, c46, c47]] at z) (by rw [hR, gLoop_s (by simp only [gTim, gAdd, gAnd, gOr, beq_iff_eq, Bool.or_eq_true]; omega) (by rw [e27]; exact hg33), e42]) hP hS ls (lv_sub hl [2, 0] rfl)
          · rw [hg33] at q32
            obtain ⟨f36, hb45⟩ := q32
            refine lv_istore_n (lv' := [(2, .int r30), (0, .ref (mw_a E 0)), (1, .int v)]) C.1 C.2.1 dX12_either3_30 rfl hl (by decide) rfl (fun ls hl => ?_)
            refine lv_iload_n C.1 C.2.1 dX12_either3_31 rfl (lv_at hl 2 rfl) ?_
            refine lv_if_ne (tgt := 39) C.1 C.2.1 dX12_either3_32 (by decide) (fun c48 => ?_) (fun c48 => ?_)
            · refine lv_iconst (v := 1) C.1 C.2.1 dX12_either3_39 (by decide) ?_
              refine lv_goto (tgt := 44) C.1 C.2.1 dX12_either3_40 (by decide) ?_
              refine lv_istore_n (lv' := [(1, .int 1), (2, .int r30), (0, .ref (mw_a E 0))]) C.1 C.2.1 dX12_either3_44 rfl hl (by decide) rfl (fun ls hl => ?_)
              refine lv_goto (tgt := 5) C.1 C.2.1 dX12_either3_45 (by decide) ?_
              refine lv_aload_n C.1 C.2.1 dX12_either3_5 rfl (lv_at hl 2 rfl) ?_
              refine lv_bipush (v := 111) C.1 C.2.1 dX12_either3_6 (by decide) ?_
              refine lv_bipush (v := 114) C.1 C.2.1 dX12_either3_8 (by decide) ?_
              refine lv_iconst (v := 0) C.1 C.2.1 dX12_either3_10 (by decide) ?_
              refine lv_iconst (v := 0) C.1 C.2.1 dX12_either3_11 (by decide) ?_
              refine lv_iconst (v := 0) C.1 C.2.1 dX12_either3_12 (by decide) ?_
              refine lv_iconst (v := 0) C.1 C.2.1 dX12_either3_13 (by decide) ?_
              refine lv_iconst (v := 0) C.1 C.2.1 dX12_either3_14 (by decide) ?_
              refine lv_iconst (v := 0) C.1 C.2.1 dX12_either3_15 (by decide) ?_
              refine mw_cVi (As := [.int 111, .int 114, .int 0, .int 0, .int 0, .int 0, .int 0, .int 0]) (rest := []) C Z hP hS (0) (cM_isWordB l E u31 hb45.1 111 114 0 0 0 0 0 0) vb_X12_isWord tw_5_77 ⟨rfl, rfl⟩ ⟨Nat.le_of_ble_eq_true rfl, Nat.le_of_ble_eq_true rfl⟩ (by decide) rfl rfl rfl rfl hl.1 rfl (Nat.le_of_ble_eq_true rfl) dX12_either3_16 ⟨Nat.zero_le _, Nat.zero_le _⟩ (fun r49 u50 H locs q51 hP hS => ?_)
              obtain ⟨rfl, q51u⟩ := q51
              rw [q51u] at hP; clear q51u
              refine lv_if_eq (tgt := 48) C.1 C.2.1 dX12_either3_19 (by decide) (fun c52 => ?_) (fun c52 => ?_)
              · refine lv_iload_n C.1 C.2.1 dX12_either3_48 rfl (lv_at hl 0 rfl) ?_
                exact mw_iret C hr hlk Z hP hS dX12_either3_49 (⟨((f2.tr f29).tr f36), by rw [hR, gLoop_f (by simp only [gTim, gAdd, gAnd, gOr, beq_iff_eq, Bool.or_eq_true]; omega) (by rw [e27]; exact hg33)]; exact hb45⟩)
              · exact absurd c52 (by decide)
            · refine lv_iload_n C.1 C.2.1 dX12_either3_35 rfl (lv_at hl 0 rfl) ?_
              refine lv_if_eq (tgt := 43) C.1 C.2.1 dX12_either3_36 (by decide) (fun c53 => ?_) (fun c53 => ?_)
              · refine lv_iconst (v := 0) C.1 C.2.1 dX12_either3_43 (by decide) ?_
                refine lv_istore_n (lv' := [(1, .int 0), (2, .int r30), (0, .ref (mw_a E 0))]) C.1 C.2.1 dX12_either3_44 rfl hl (by decide) rfl (fun ls hl => ?_)
                refine lv_goto (tgt := 5) C.1 C.2.1 dX12_either3_45 (by decide) ?_
                refine lv_aload_n C.1 C.2.1 dX12_either3_5 rfl (lv_at hl 2 rfl) ?_
                refine lv_bipush (v := 111) C.1 C.2.1 dX12_either3_6 (by decide) ?_
                refine lv_bipush (v := 114) C.1 C.2.1 dX12_either3_8 (by decide) ?_
                refine lv_iconst (v := 0) C.1 C.2.1 dX12_either3_10 (by decide) ?_
                refine lv_iconst (v := 0) C.1 C.2.1 dX12_either3_11 (by decide) ?_
                refine lv_iconst (v := 0) C.1 C.2.1 dX12_either3_12 (by decide) ?_
                refine lv_iconst (v := 0) C.1 C.2.1 dX12_either3_13 (by decide) ?_
                refine lv_iconst (v := 0) C.1 C.2.1 dX12_either3_14 (by decide) ?_
                refine lv_iconst (v := 0) C.1 C.2.1 dX12_either3_15 (by decide) ?_
                refine mw_cVi (As := [.int 111, .int 114, .int 0, .int 0, .int 0, .int 0, .int 0, .int 0]) (rest := []) C Z hP hS (0) (cM_isWordB l E u31 hb45.1 111 114 0 0 0 0 0 0) vb_X12_isWord tw_5_77 ⟨rfl, rfl⟩ ⟨Nat.le_of_ble_eq_true rfl, Nat.le_of_ble_eq_true rfl⟩ (by decide) rfl rfl rfl rfl hl.1 rfl (Nat.le_of_ble_eq_true rfl) dX12_either3_16 ⟨Nat.zero_le _, Nat.zero_le _⟩ (fun r54 u55 H locs q56 hP hS => ?_)
                obtain ⟨rfl, q56u⟩ := q56
                rw [q56u] at hP; clear q56u
                refine lv_if_eq (tgt := 48) C.1 C.2.1 dX12_either3_19 (by decide) (fun c57 => ?_) (fun c57 => ?_)
                · refine lv_iload_n C.1 C.2.1 dX12_either3_48 rfl (lv_at hl 0 rfl) ?_
                  exact mw_iret C hr hlk Z hP hS dX12_either3_49 (⟨((f2.tr f29).tr f36), by rw [hR, gLoop_f (by simp only [gTim, gAdd, gAnd, gOr, beq_iff_eq, Bool.or_eq_true]; omega) (by rw [e27]; exact hg33)]; exact hb45⟩)
                · exact absurd c57 (by decide)
              · refine lv_iconst (v := 1) C.1 C.2.1 dX12_either3_39 (by decide) ?_
                refine lv_goto (tgt := 44) C.1 C.2.1 dX12_either3_40 (by decide) ?_
                refine lv_istore_n (lv' := [(1, .int 1), (2, .int r30), (0, .ref (mw_a E 0))]) C.1 C.2.1 dX12_either3_44 rfl hl (by decide) rfl (fun ls hl => ?_)
                refine lv_goto (tgt := 5) C.1 C.2.1 dX12_either3_45 (by decide) ?_
                refine lv_aload_n C.1 C.2.1 dX12_either3_5 rfl (lv_at hl 2 rfl) ?_
                refine lv_bipush (v := 111) C.1 C.2.1 dX12_either3_6 (by decide) ?_
                refine lv_bipush (v := 114) C.1 C.2.1 dX12_either3_8 (by decide) ?_
                refine lv_iconst (v := 0) C.1 C.2.1 dX12_either3_10 (by decide) ?_
                refine lv_iconst (v := 0) C.1 C.2.1 dX12_either3_11 (by decide) ?_
                refine lv_iconst (v := 0) C.1 C.2.1 dX12_either3_12 (by decide) ?_
                refine lv_iconst (v := 0) C.1 C.2.1 dX12_either3_13 (by decide) ?_
                refine lv_iconst (v := 0) C.1 C.2.1 dX12_either3_14 (by decide) ?_
                refine lv_iconst (v := 0) C.1 C.2.1 dX12_either3_15 (by decide) ?_
                refine mw_cVi (As := [.int 111, .int 114, .int 0, .int 0, .int 0, .int 0, .int 0, .int 0]) (rest := []) C Z hP hS (0) (cM_isWordB l E u31 hb45.1 111 114 0 0 0 0 0 0) vb_X12_isWord tw_5_77 ⟨rfl, rfl⟩ ⟨Nat.le_of_ble_eq_true rfl, Nat.le_of_ble_eq_true rfl⟩ (by decide) rfl rfl rfl rfl hl.1 rfl (Nat.le_of_ble_eq_true rfl) dX12_either3_16 ⟨Nat.zero_le _, Nat.zero_le _⟩ (fun r58 u59 H locs q60 hP hS => ?_)
                obtain ⟨rfl, q60u⟩ := q60
                rw [q60u] at hP; clear q60u
                refine lv_if_eq (tgt := 48) C.1 C.2.1 dX12_either3_19 (by decide) (fun c61 => ?_) (fun c61 => ?_)
                · refine lv_iload_n C.1 C.2.1 dX12_either3_48 rfl (lv_at hl 0 rfl) ?_
                  exact mw_iret C hr hlk Z hP hS dX12_either3_49 (⟨((f2.tr f29).tr f36), by rw [hR, gLoop_f (by simp only [gTim, gAdd, gAnd, gOr, beq_iff_eq, Bool.or_eq_true]; omega) (by rw [e27]; exact hg33)]; exact hb45⟩)
                · exact absurd c61 (by decide)
    exact lp (ts12.length + 1) cs8 k10 p11 ts12 r1 u2 _ _ (Nat.le_refl _) h14 ((mFp.rf σ).tr f7) v15 (by rw [gE_2, gLevel_I hg4, e13]; rfl) hP hS ls (lv_sub hl [1, 0] rfl)
  · rw [hg4] at q3
    obtain ⟨f7, hb16⟩ := q3
    refine lv_istore_n (lv' := [(1, .int r1), (0, .ref (mw_a E 0))]) C.1 C.2.1 dX12_either3_4 rfl hl (by decide) rfl (fun ls hl => ?_)
    refine lv_aload_n C.1 C.2.1 dX12_either3_5 rfl (lv_at hl 1 rfl) ?_
    refine lv_bipush (v := 111) C.1 C.2.1 dX12_either3_6 (by decide) ?_
    refine lv_bipush (v := 114) C.1 C.2.1 dX12_either3_8 (by decide) ?_
    refine lv_iconst (v := 0) C.1 C.2.1 dX12_either3_10 (by decide) ?_
    refine lv_iconst (v := 0) C.1 C.2.1 dX12_either3_11 (by decide) ?_
    refine lv_iconst (v := 0) C.1 C.2.1 dX12_either3_12 (by decide) ?_
    refine lv_iconst (v := 0) C.1 C.2.1 dX12_either3_13 (by decide) ?_
    refine lv_iconst (v := 0) C.1 C.2.1 dX12_either3_14 (by decide) ?_
    refine lv_iconst (v := 0) C.1 C.2.1 dX12_either3_15 (by decide) ?_
    refine mw_cVi (As := [.int 111, .int 114, .int 0, .int 0, .int 0, .int 0, .int 0, .int 0]) (rest := []) C Z hP hS (0) (cM_isWordB l E u2 hb16.1 111 114 0 0 0 0 0 0) vb_X12_isWord tw_5_77 ⟨rfl, rfl⟩ ⟨Nat.le_of_ble_eq_true rfl, Nat.le_of_ble_eq_true rfl⟩ (by decide) rfl rfl rfl rfl hl.1 rfl (Nat.le_of_ble_eq_true rfl) dX12_either3_16 ⟨Nat.zero_le _, Nat.zero_le _⟩ (fun r62 u63 H locs q64 hP hS => ?_)
    obtain ⟨rfl, q64u⟩ := q64
    rw [q64u] at hP; clear q64u
    refine lv_if_eq (tgt := 48) C.1 C.2.1 dX12_either3_19 (by decide) (fun c65 => ?_) (fun c65 => ?_)
    · refine lv_iload_n C.1 C.2.1 dX12_either3_48 rfl (lv_at hl 0 rfl) ?_
      exact mw_iret C hr hlk Z hP hS dX12_either3_49 (⟨((mFp.rf σ).tr f7), by rw [gE_2, gLevel_F hg4]; exact hb16⟩)
    · exact absurd c65 (by decide)

set_option maxHeartbeats 4000000 in
set_option maxRecDepth 100000 in
theorem cM_atom2 (l : Launch) (E : mw_E) (σ : mw_M) (t n : Nat) (bs : Nat → Int32) (k p : Nat) (ts : List (Nat × Nat)) (h : mPS σ t n bs k p ts 2) : mw_Ci shM 13 gM l yX12_atom2 cX12_atom2 2 (some .int) (rmF 22 487) E [.ref (mw_a E 0)] σ (fun r u => mOK σ u t n bs 2 r ((gD 3).1 ((k, p) :: ts))) := by
  refine mw_of (by decide) gM_ok (Nat.le_of_ble_eq_true rfl) ?_
  intro p_ e_ s_ m_ below meth c_ C hr hlk Z hP ls hl
  have C : CallFix p_ m_ c_ cX12_atom2 2 s_ _ lw_good RX12 := C
  have hl : lv_has ls 2 [(0, .ref (mw_a E 0))] := hl
  have hS : va_S (mw_A 13 E) s_.heap s_.heap [] := va_S.rf
  refine lv_iconst (v := 0) C.1 C.2.1 dX12_atom2_0 (by decide) ?_
  refine lv_istore_n (lv' := [(1, .int 0), (0, .ref (mw_a E 0))]) C.1 C.2.1 dX12_atom2_1 rfl hl (by decide) rfl (fun ls hl => ?_)
  refine lv_aload_n C.1 C.2.1 dX12_atom2_2 rfl (lv_at hl 1 rfl) ?_
  refine lv_bipush (v := 45) C.1 C.2.1 dX12_atom2_3 (by decide) ?_
  refine mw_cVi (As := [.int 45]) (rest := []) C Z hP hS (0) (cM_isSignP l E σ t n bs k p ts 2 h 4 (by decide)) vb_X12_isSign tw_5_141 ⟨rfl, rfl⟩ ⟨Nat.le_of_ble_eq_true rfl, Nat.le_of_ble_eq_true rfl⟩ (by decide) rfl rfl rfl rfl hl.1 rfl (Nat.le_of_ble_eq_true rfl) dX12_atom2_5 ⟨Nat.zero_le _, Nat.zero_le _⟩ (fun r1 u2 H locs q3 hP hS => ?_)
  obtain ⟨rfl, q3u⟩ := q3
  rw [q3u] at hP; clear q3u
  refine lv_if_eq (tgt := 37) C.1 C.2.1 dX12_atom2_8 (by decide) (fun c4 => ?_) (fun c4 => ?_)
  · have c4 := bI_0.mp c4
    refine lv_aload_n C.1 C.2.1 dX12_atom2_37 rfl (lv_at hl 1 rfl) ?_
    refine lv_bipush (v := 40) C.1 C.2.1 dX12_atom2_38 (by decide) ?_
    refine mw_cVi (As := [.int 40]) (rest := []) C Z hP hS (0) (cM_isSignP l E σ t n bs k p ts 2 h 0 (by decide)) vb_X12_isSign tw_5_141 ⟨rfl, rfl⟩ ⟨Nat.le_of_ble_eq_true rfl, Nat.le_of_ble_eq_true rfl⟩ (by decide) rfl rfl rfl rfl hl.1 rfl (Nat.le_of_ble_eq_true rfl) dX12_atom2_40 ⟨Nat.zero_le _, Nat.zero_le _⟩ (fun r5 u6 H locs q7 hP hS => ?_)
    obtain ⟨rfl, q7u⟩ := q7
    rw [q7u] at hP; clear q7u
    refine lv_if_eq (tgt := 95) C.1 C.2.1 dX12_atom2_43 (by decide) (fun c8 => ?_) (fun c8 => ?_)
    · have c8 := bI_0.mp c8
      refine lv_aload_n C.1 C.2.1 dX12_atom2_95 rfl (lv_at hl 1 rfl) ?_
      refine mw_geti C Z hP (0) 24 (by decide) rfl rfl rfl (by decide) inX12 tw_4_188 dX12_atom2_96 ?_
      refine mw_top (y := 0) (h.2.1) ?_
      refine lv_if_ne (tgt := 123) C.1 C.2.1 dX12_atom2_99 (by decide) (fun c9 => ?_) (fun c9 => ?_)
      · exact absurd c9 (by decide)
      · refine lv_aload_n C.1 C.2.1 dX12_atom2_102 rfl (lv_at hl 1 rfl) ?_
        refine mw_geti C Z hP (0) 20 (by decide) rfl rfl rfl (by decide) inX12 tw_4_184 dX12_atom2_103 ?_
        refine lv_iconst (v := 2) C.1 C.2.1 dX12_atom2_106 (by decide) ?_
        refine lv_icmp_ne (tgt := 123) C.1 C.2.1 dX12_atom2_107 (by decide) (fun c10 => ?_) (fun c10 => ?_)
        · have hnn : ¬ 100 ≤ k := fun y => c10 (h.2.2.2.1.2.2.2.1.mpr y)
          refine lv_aload_n C.1 C.2.1 dX12_atom2_123 rfl (lv_at hl 1 rfl) ?_
          refine mw_geti C Z hP (0) 24 (by decide) rfl rfl rfl (by decide) inX12 tw_4_188 dX12_atom2_124 ?_
          refine mw_top (y := 0) (h.2.1) ?_
          refine lv_if_ne (tgt := 157) C.1 C.2.1 dX12_atom2_127 (by decide) (fun c11 => ?_) (fun c11 => ?_)
          · exact absurd c11 (by decide)
          · refine lv_aload_n C.1 C.2.1 dX12_atom2_130 rfl (lv_at hl 1 rfl) ?_
            refine mw_geti C Z hP (0) 20 (by decide) rfl rfl rfl (by decide) inX12 tw_4_184 dX12_atom2_131 ?_
            refine lv_iconst (v := 1) C.1 C.2.1 dX12_atom2_134 (by decide) ?_
            refine lv_icmp_ne (tgt := 157) C.1 C.2.1 dX12_atom2_135 (by decide) (fun c12 => ?_) (fun c12 => ?_)
            · have hnw : ¬ k ≤ 5 := fun y => c12 (h.2.2.2.2.2.2.1 (by omega))
              refine lv_aload_n C.1 C.2.1 dX12_atom2_157 rfl (lv_at hl 1 rfl) ?_
              refine mw_cVv (As := []) (rest := []) C Z hP hS (0) (cM_failP l E σ t n bs k p ts 2 h) vb_X12_fail tw_5_89 ⟨rfl, rfl⟩ ⟨Nat.le_of_ble_eq_true rfl, Nat.le_of_ble_eq_true rfl⟩ (by decide) rfl rfl rfl rfl hl.1 rfl (Nat.le_of_ble_eq_true rfl) dX12_atom2_158 ⟨Nat.zero_le _, Nat.zero_le _⟩ (fun u14 H locs q15 hP hS => ?_)
              obtain ⟨hb16, f17⟩ := q15
              refine lv_iload_n C.1 C.2.1 dX12_atom2_161 rfl (lv_at hl 0 rfl) ?_
              exact mw_iret C hr hlk Z hP hS dX12_atom2_162 (⟨((mFp.rf σ).tr f17), by rw [gA_3, gAt_bad (fun y => y.elim hnw hnn) (by omega) (by omega)]; exact hb16⟩)
            · have hk21 : k ≠ 21 := fun y => by have z := h.2.2.2.1.2.2.1.mpr y; rw [c12] at z; exact absurd z (by decide)
              refine lv_aload_n C.1 C.2.1 dX12_atom2_138 rfl (lv_at hl 1 rfl) ?_
              refine mw_cVi (As := []) (rest := []) C Z hP hS (0) (cM_name l E σ t n bs k p ts 2 h) vb_X12_name tw_5_145 ⟨rfl, rfl⟩ ⟨Nat.le_of_ble_eq_true rfl, Nat.le_of_ble_eq_true rfl⟩ (by decide) rfl rfl rfl rfl hl.1 rfl (Nat.le_of_ble_eq_true rfl) dX12_atom2_139 ⟨Nat.zero_le _, Nat.zero_le _⟩ (fun r18 u19 H locs q20 hP hS => ?_)
              obtain ⟨f25, ⟨z21, z22, z23⟩ | ⟨z21, hb24⟩⟩ := q20
              · rw [z22] at hP; clear z22
                refine lv_istore_n (lv' := [(1, .int r18), (0, .ref (mw_a E 0))]) C.1 C.2.1 dX12_atom2_142 rfl hl (by decide) rfl (fun ls hl => ?_)
                refine lv_aload_n C.1 C.2.1 dX12_atom2_143 rfl (lv_at hl 1 rfl) ?_
                refine mw_geti C Z hP (0) 24 (by decide) rfl rfl rfl (by decide) inX12 tw_4_188 dX12_atom2_144 ?_
                refine mw_top (y := 0) (h.2.1) ?_
                refine lv_if_ne (tgt := 161) C.1 C.2.1 dX12_atom2_147 (by decide) (fun c26 => ?_) (fun c26 => ?_)
                · exact absurd c26 (by decide)
                · refine lv_aload_n C.1 C.2.1 dX12_atom2_150 rfl (lv_at hl 1 rfl) ?_
                  refine mw_cVv (As := []) (rest := []) C Z hP hS (0) (cM_nextP l E σ t n bs k p ts 2 h (by omega) (by omega)) vb_X12_next tw_5_64 ⟨rfl, rfl⟩ ⟨Nat.le_of_ble_eq_true rfl, Nat.le_of_ble_eq_true rfl⟩ (by decide) rfl rfl rfl rfl hl.1 rfl (Nat.le_of_ble_eq_true rfl) dX12_atom2_151 ⟨Nat.zero_le _, Nat.zero_le _⟩ (fun u28 H locs q29 hP hS => ?_)
                  obtain ⟨⟨k30, p31, ts32, e33, h34⟩, f35⟩ := q29
                  refine lv_goto (tgt := 161) C.1 C.2.1 dX12_atom2_154 (by decide) ?_
                  refine lv_iload_n C.1 C.2.1 dX12_atom2_161 rfl (lv_at hl 0 rfl) ?_
                  exact mw_iret C hr hlk Z hP hS dX12_atom2_162 (⟨((mFp.rf σ).tr f35), by rw [gA_3, gAt_one (Or.inl z21)]; exact ⟨⟨k30, p31, ts32, e33, h34⟩, by rw [z23]; exact ruV_nm z21⟩⟩)
              · refine lv_istore_n (lv' := [(1, .int r18), (0, .ref (mw_a E 0))]) C.1 C.2.1 dX12_atom2_142 rfl hl (by decide) rfl (fun ls hl => ?_)
                refine lv_aload_n C.1 C.2.1 dX12_atom2_143 rfl (lv_at hl 1 rfl) ?_
                refine mw_geti C Z hP (0) 24 (by decide) rfl rfl rfl (by decide) inX12 tw_4_188 dX12_atom2_144 ?_
                refine mw_top (y := 1) (hb24.1) ?_
                refine lv_if_ne (tgt := 161) C.1 C.2.1 dX12_atom2_147 (by decide) (fun c36 => ?_) (fun c36 => ?_)
                · refine lv_iload_n C.1 C.2.1 dX12_atom2_161 rfl (lv_at hl 0 rfl) ?_
                  exact mw_iret C hr hlk Z hP hS dX12_atom2_162 (⟨((mFp.rf σ).tr f25), by rw [gA_3, gAt_bad (fun y => y.elim (fun y => z21 y) hnn) (by omega) (by omega)]; exact hb24⟩)
                · exact absurd c36 (by decide)
        · have hnum : 100 ≤ k := h.2.2.2.1.2.2.2.1.mp c10
          have hval : nI (k - 100) = (σ.2.2 0 22).toInt32 := by rw [(h.2.2.2.1.2.2.2.2 hnum).1, lN_i]
          refine lv_aload_n C.1 C.2.1 dX12_atom2_110 rfl (lv_at hl 1 rfl) ?_
          refine mw_getl C Z hP (0) 22 (by decide) rfl rfl rfl (by decide) inX12 tw_4_186 dX12_atom2_111 ?_
          refine lv_l2i C.1 C.2.1 dX12_atom2_114 rfl ?_
          refine lv_istore_n (lv' := [(1, .int ((σ.2.2 0 22).toInt32)), (0, .ref (mw_a E 0))]) C.1 C.2.1 dX12_atom2_115 rfl hl (by decide) rfl (fun ls hl => ?_)
          refine lv_aload_n C.1 C.2.1 dX12_atom2_116 rfl (lv_at hl 1 rfl) ?_
          refine mw_cVv (As := []) (rest := []) C Z hP hS (0) (cM_nextP l E σ t n bs k p ts 2 h (by omega) (by omega)) vb_X12_next tw_5_64 ⟨rfl, rfl⟩ ⟨Nat.le_of_ble_eq_true rfl, Nat.le_of_ble_eq_true rfl⟩ (by decide) rfl rfl rfl rfl hl.1 rfl (Nat.le_of_ble_eq_true rfl) dX12_atom2_117 ⟨Nat.zero_le _, Nat.zero_le _⟩ (fun u38 H locs q39 hP hS => ?_)
          obtain ⟨⟨k40, p41, ts42, e43, h44⟩, f45⟩ := q39
          refine lv_goto (tgt := 161) C.1 C.2.1 dX12_atom2_120 (by decide) ?_
          refine lv_iload_n C.1 C.2.1 dX12_atom2_161 rfl (lv_at hl 0 rfl) ?_
          exact mw_iret C hr hlk Z hP hS dX12_atom2_162 (⟨((mFp.rf σ).tr f45), by rw [gA_3, gAt_one (Or.inr hnum)]; exact ⟨⟨k40, p41, ts42, e43, h44⟩, hval ▸ ruV_nu hnum⟩⟩)
    · have c8 := bI_n.mp c8
      refine lv_aload_n C.1 C.2.1 dX12_atom2_46 rfl (lv_at hl 1 rfl) ?_
      refine mw_cVi (As := []) (rest := []) C Z hP hS (0) (cM_opens l E σ t n bs k p ts 2 (by decide) h (by omega) (by omega)) vb_X12_opens tw_5_105 ⟨rfl, rfl⟩ ⟨Nat.le_of_ble_eq_true rfl, Nat.le_of_ble_eq_true rfl⟩ (by decide) rfl rfl rfl rfl hl.1 rfl (Nat.le_of_ble_eq_true rfl) dX12_atom2_47 ⟨Nat.zero_le _, Nat.zero_le _⟩ (fun r46 u47 H locs q48 hP hS => ?_)
      obtain ⟨rfl, ⟨k49, p50, ts51, e52, h53⟩, f54⟩ := q48
      refine lv_if_eq (tgt := 161) C.1 C.2.1 dX12_atom2_50 (by decide) (fun c55 => ?_) (fun c55 => ?_)
      · exact absurd c55 (by decide)
      · refine lv_aload_n C.1 C.2.1 dX12_atom2_53 rfl (lv_at hl 1 rfl) ?_
        refine mw_cVi (As := []) (rest := []) C Z hP hS (0) (cM_either3 l E u47 t n bs k49 p50 ts51 h53) vb_X12_either3 tw_5_203 ⟨rfl, rfl⟩ ⟨Nat.le_of_ble_eq_true rfl, Nat.le_of_ble_eq_true rfl⟩ (by decide) rfl rfl rfl rfl hl.1 rfl (Nat.le_of_ble_eq_true rfl) dX12_atom2_54 ⟨Nat.zero_le _, Nat.zero_le _⟩ (fun r56 u57 H locs q58 hP hS => ?_)
        rcases hg59 : ((gD 2).2.2) ((k49, p50) :: ts51) with zz60 | qq61
        · obtain ⟨cs63, ts64⟩ := zz60
          rw [hg59] at q58
          obtain ⟨f62, ⟨k65, p66, ts67, e68, h69⟩, v70⟩ := q58
          have v70 := ((mFp.rf σ).tr f54).evv v70
          refine lv_istore_n (lv' := [(1, .int r56), (0, .ref (mw_a E 0))]) C.1 C.2.1 dX12_atom2_57 rfl hl (by decide) rfl (fun ls hl => ?_)
          refine lv_aload_n C.1 C.2.1 dX12_atom2_58 rfl (lv_at hl 1 rfl) ?_
          refine lv_bipush (v := 41) C.1 C.2.1 dX12_atom2_59 (by decide) ?_
          refine mw_cVi (As := [.int 41]) (rest := []) C Z hP hS (0) (cM_isSignP l E u57 t n bs k65 p66 ts67 3 h69 1 (by decide)) vb_X12_isSign tw_5_141 ⟨rfl, rfl⟩ ⟨Nat.le_of_ble_eq_true rfl, Nat.le_of_ble_eq_true rfl⟩ (by decide) rfl rfl rfl rfl hl.1 rfl (Nat.le_of_ble_eq_true rfl) dX12_atom2_61 ⟨Nat.zero_le _, Nat.zero_le _⟩ (fun r72 u73 H locs q74 hP hS => ?_)
          obtain ⟨rfl, q74u⟩ := q74
          rw [q74u] at hP; clear q74u
          refine lv_if_ne (tgt := 71) C.1 C.2.1 dX12_atom2_64 (by decide) (fun c75 => ?_) (fun c75 => ?_)
          · have c75 := bI_n.mp c75
            refine lv_aload_n C.1 C.2.1 dX12_atom2_71 rfl (lv_at hl 1 rfl) ?_
            refine lv_dup C.1 C.2.1 dX12_atom2_72 rfl ?_
            refine mw_geti C Z hP (0) 23 (by decide) rfl rfl rfl (by decide) inX12 tw_4_187 dX12_atom2_73 ?_
            refine mw_top (y := nI 3) (h69.2.2.1) ?_
            refine lv_iconst (v := 1) C.1 C.2.1 dX12_atom2_76 (by decide) ?_
            refine lv_isub C.1 C.2.1 dX12_atom2_77 ?_
            refine mw_top (y := nI 2) (by decide) ?_
            refine mw_puti C Z hP hS (0) 23 (by decide) rfl rfl rfl (by decide) inX12 tyX12 tyX12_ok nmX12 rfl tw_4_187 rfl rfl dX12_atom2_78 (fun H locs hP hS => ?_)
            have h76 : mPS (mw_si u57 0 23 (nI 2)) t n bs k65 p66 ts67 2 := ⟨h69.1, h69.2.1, rfl, h69.2.2.2⟩
            refine lv_aload_n C.1 C.2.1 dX12_atom2_81 rfl (lv_at hl 1 rfl) ?_
            refine mw_geti C Z hP (0) 24 (by decide) rfl rfl rfl (by decide) inX12 tw_4_188 dX12_atom2_82 ?_
            refine mw_top (y := 0) (h69.2.1) ?_
            refine lv_if_ne (tgt := 161) C.1 C.2.1 dX12_atom2_85 (by decide) (fun c77 => ?_) (fun c77 => ?_)
            · exact absurd c77 (by decide)
            · refine lv_aload_n C.1 C.2.1 dX12_atom2_88 rfl (lv_at hl 1 rfl) ?_
              refine mw_cVv (As := []) (rest := []) C Z hP hS (0) (cM_nextP l E (mw_si u57 0 23 (nI 2)) t n bs k65 p66 ts67 2 h76 (by omega) (by omega)) vb_X12_next tw_5_64 ⟨rfl, rfl⟩ ⟨Nat.le_of_ble_eq_true rfl, Nat.le_of_ble_eq_true rfl⟩ (by decide) rfl rfl rfl rfl hl.1 rfl (Nat.le_of_ble_eq_true rfl) dX12_atom2_89 ⟨Nat.zero_le _, Nat.zero_le _⟩ (fun u79 H locs q80 hP hS => ?_)
              obtain ⟨⟨k81, p82, ts83, e84, h85⟩, f86⟩ := q80
              refine lv_goto (tgt := 161) C.1 C.2.1 dX12_atom2_92 (by decide) ?_
              refine lv_iload_n C.1 C.2.1 dX12_atom2_161 rfl (lv_at hl 0 rfl) ?_
              exact mw_iret C hr hlk Z hP hS dX12_atom2_162 (⟨(((((mFp.rf σ).tr f54).tr f62).si (by decide) _).tr f86), by rw [gA_3, gAt_parI (f := (_, _)) (by omega : k = 12) (by rw [e52, ← e68]; exact hg59) (by omega : k65 = 13)]; exact ⟨⟨k81, p82, ts83, e84, h85⟩, v70⟩⟩)
          · have c75 := bI_0.mp c75
            refine lv_aload_n C.1 C.2.1 dX12_atom2_67 rfl (lv_at hl 1 rfl) ?_
            refine mw_cVv (As := []) (rest := []) C Z hP hS (0) (cM_failP l E u57 t n bs k65 p66 ts67 3 h69) vb_X12_fail tw_5_89 ⟨rfl, rfl⟩ ⟨Nat.le_of_ble_eq_true rfl, Nat.le_of_ble_eq_true rfl⟩ (by decide) rfl rfl rfl rfl hl.1 rfl (Nat.le_of_ble_eq_true rfl) dX12_atom2_68 ⟨Nat.zero_le _, Nat.zero_le _⟩ (fun u88 H locs q89 hP hS => ?_)
            obtain ⟨hb90, f91⟩ := q89
            refine lv_aload_n C.1 C.2.1 dX12_atom2_71 rfl (lv_at hl 1 rfl) ?_
            refine lv_dup C.1 C.2.1 dX12_atom2_72 rfl ?_
            refine mw_geti C Z hP (0) 23 (by decide) rfl rfl rfl (by decide) inX12 tw_4_187 dX12_atom2_73 ?_
            refine lv_iconst (v := 1) C.1 C.2.1 dX12_atom2_76 (by decide) ?_
            refine lv_isub C.1 C.2.1 dX12_atom2_77 ?_
            refine mw_puti C Z hP hS (0) 23 (by decide) rfl rfl rfl (by decide) inX12 tyX12 tyX12_ok nmX12 rfl tw_4_187 rfl rfl dX12_atom2_78 (fun H locs hP hS => ?_)
            have hb92 : mBd (mw_si u88 0 23 ((u88.1 0 23) - 1)) p66 := hb90
            refine lv_aload_n C.1 C.2.1 dX12_atom2_81 rfl (lv_at hl 1 rfl) ?_
            refine mw_geti C Z hP (0) 24 (by decide) rfl rfl rfl (by decide) inX12 tw_4_188 dX12_atom2_82 ?_
            refine mw_top (y := 1) (hb90.1) ?_
            refine lv_if_ne (tgt := 161) C.1 C.2.1 dX12_atom2_85 (by decide) (fun c93 => ?_) (fun c93 => ?_)
            · refine lv_iload_n C.1 C.2.1 dX12_atom2_161 rfl (lv_at hl 0 rfl) ?_
              exact mw_iret C hr hlk Z hP hS dX12_atom2_162 (⟨(((((mFp.rf σ).tr f54).tr f62).tr f91).si (by decide) _), by rw [gA_3, gAt_parX (f := (_, _)) (by omega : k = 12) (by rw [e52, ← e68]; exact hg59) (by omega : ¬ k65 = 13)]; exact hb92⟩)
            · exact absurd c93 (by decide)
        · rw [hg59] at q58
          obtain ⟨f62, hb71⟩ := q58
          refine lv_istore_n (lv' := [(1, .int r56), (0, .ref (mw_a E 0))]) C.1 C.2.1 dX12_atom2_57 rfl hl (by decide) rfl (fun ls hl => ?_)
          refine lv_aload_n C.1 C.2.1 dX12_atom2_58 rfl (lv_at hl 1 rfl) ?_
          refine lv_bipush (v := 41) C.1 C.2.1 dX12_atom2_59 (by decide) ?_
          refine mw_cVi (As := [.int 41]) (rest := []) C Z hP hS (0) (cM_isSignB l E u57 41 hb71.1) vb_X12_isSign tw_5_141 ⟨rfl, rfl⟩ ⟨Nat.le_of_ble_eq_true rfl, Nat.le_of_ble_eq_true rfl⟩ (by decide) rfl rfl rfl rfl hl.1 rfl (Nat.le_of_ble_eq_true rfl) dX12_atom2_61 ⟨Nat.zero_le _, Nat.zero_le _⟩ (fun r94 u95 H locs q96 hP hS => ?_)
          obtain ⟨rfl, q96u⟩ := q96
          rw [q96u] at hP; clear q96u
          refine lv_if_ne (tgt := 71) C.1 C.2.1 dX12_atom2_64 (by decide) (fun c97 => ?_) (fun c97 => ?_)
          · exact absurd c97 (by decide)
          · refine lv_aload_n C.1 C.2.1 dX12_atom2_67 rfl (lv_at hl 1 rfl) ?_
            refine mw_cVv (As := []) (rest := []) C Z hP hS (0) (cM_failB l E u57 hb71.1) vb_X12_fail tw_5_89 ⟨rfl, rfl⟩ ⟨Nat.le_of_ble_eq_true rfl, Nat.le_of_ble_eq_true rfl⟩ (by decide) rfl rfl rfl rfl hl.1 rfl (Nat.le_of_ble_eq_true rfl) dX12_atom2_68 ⟨Nat.zero_le _, Nat.zero_le _⟩ (fun u99 H locs q100 hP hS => ?_)
            rw [q100] at hP; clear q100
            refine lv_aload_n C.1 C.2.1 dX12_atom2_71 rfl (lv_at hl 1 rfl) ?_
            refine lv_dup C.1 C.2.1 dX12_atom2_72 rfl ?_
            refine mw_geti C Z hP (0) 23 (by decide) rfl rfl rfl (by decide) inX12 tw_4_187 dX12_atom2_73 ?_
            refine lv_iconst (v := 1) C.1 C.2.1 dX12_atom2_76 (by decide) ?_
            refine lv_isub C.1 C.2.1 dX12_atom2_77 ?_
            refine mw_puti C Z hP hS (0) 23 (by decide) rfl rfl rfl (by decide) inX12 tyX12 tyX12_ok nmX12 rfl tw_4_187 rfl rfl dX12_atom2_78 (fun H locs hP hS => ?_)
            have hb101 : mBd (mw_si u57 0 23 ((u57.1 0 23) - 1)) qq61 := hb71
            refine lv_aload_n C.1 C.2.1 dX12_atom2_81 rfl (lv_at hl 1 rfl) ?_
            refine mw_geti C Z hP (0) 24 (by decide) rfl rfl rfl (by decide) inX12 tw_4_188 dX12_atom2_82 ?_
            refine mw_top (y := 1) (hb71.1) ?_
            refine lv_if_ne (tgt := 161) C.1 C.2.1 dX12_atom2_85 (by decide) (fun c102 => ?_) (fun c102 => ?_)
            · refine lv_iload_n C.1 C.2.1 dX12_atom2_161 rfl (lv_at hl 0 rfl) ?_
              exact mw_iret C hr hlk Z hP hS dX12_atom2_162 (⟨((((mFp.rf σ).tr f54).tr f62).si (by decide) _), by rw [gA_3, gAt_parF (f := (_, _)) (by omega : k = 12) (by rw [e52]; exact hg59)]; exact hb101⟩)
            · exact absurd c102 (by decide)
  · have c4 := bI_n.mp c4
    refine lv_aload_n C.1 C.2.1 dX12_atom2_11 rfl (lv_at hl 1 rfl) ?_
    refine mw_cVi (As := []) (rest := []) C Z hP hS (0) (cM_opens l E σ t n bs k p ts 2 (by decide) h (by omega) (by omega)) vb_X12_opens tw_5_105 ⟨rfl, rfl⟩ ⟨Nat.le_of_ble_eq_true rfl, Nat.le_of_ble_eq_true rfl⟩ (by decide) rfl rfl rfl rfl hl.1 rfl (Nat.le_of_ble_eq_true rfl) dX12_atom2_12 ⟨Nat.zero_le _, Nat.zero_le _⟩ (fun r103 u104 H locs q105 hP hS => ?_)
    obtain ⟨rfl, ⟨k106, p107, ts108, e109, h110⟩, f111⟩ := q105
    refine lv_if_eq (tgt := 161) C.1 C.2.1 dX12_atom2_15 (by decide) (fun c112 => ?_) (fun c112 => ?_)
    · exact absurd c112 (by decide)
    · refine lv_aload_n C.1 C.2.1 dX12_atom2_18 rfl (lv_at hl 1 rfl) ?_
      refine mw_cVi (As := []) (rest := []) C Z hP hS (0) (cM_atom3 l E u104 t n bs k106 p107 ts108 h110) vb_X12_atom3 tw_5_179 ⟨rfl, rfl⟩ ⟨Nat.le_of_ble_eq_true rfl, Nat.le_of_ble_eq_true rfl⟩ (by decide) rfl rfl rfl rfl hl.1 rfl (Nat.le_of_ble_eq_true rfl) dX12_atom2_19 ⟨Nat.zero_le _, Nat.zero_le _⟩ (fun r113 u114 H locs q115 hP hS => ?_)
      rcases hg116 : ((gD 2).1) ((k106, p107) :: ts108) with zz117 | qq118
      · obtain ⟨cs120, ts121⟩ := zz117
        rw [hg116] at q115
        obtain ⟨f119, ⟨k122, p123, ts124, e125, h126⟩, v127⟩ := q115
        have v127 := ((mFp.rf σ).tr f111).evv v127
        refine lv_ineg C.1 C.2.1 dX12_atom2_22 ?_
        refine lv_istore_n (lv' := [(1, .int (-r113)), (0, .ref (mw_a E 0))]) C.1 C.2.1 dX12_atom2_23 rfl hl (by decide) rfl (fun ls hl => ?_)
        refine lv_aload_n C.1 C.2.1 dX12_atom2_24 rfl (lv_at hl 1 rfl) ?_
        refine lv_dup C.1 C.2.1 dX12_atom2_25 rfl ?_
        refine mw_geti C Z hP (0) 23 (by decide) rfl rfl rfl (by decide) inX12 tw_4_187 dX12_atom2_26 ?_
        refine mw_top (y := nI 3) (h126.2.2.1) ?_
        refine lv_iconst (v := 1) C.1 C.2.1 dX12_atom2_29 (by decide) ?_
        refine lv_isub C.1 C.2.1 dX12_atom2_30 ?_
        refine mw_top (y := nI 2) (by decide) ?_
        refine mw_puti C Z hP hS (0) 23 (by decide) rfl rfl rfl (by decide) inX12 tyX12 tyX12_ok nmX12 rfl tw_4_187 rfl rfl dX12_atom2_31 (fun H locs hP hS => ?_)
        have h129 : mPS (mw_si u114 0 23 (nI 2)) t n bs k122 p123 ts124 2 := ⟨h126.1, h126.2.1, rfl, h126.2.2.2⟩
        refine lv_goto (tgt := 161) C.1 C.2.1 dX12_atom2_34 (by decide) ?_
        refine lv_iload_n C.1 C.2.1 dX12_atom2_161 rfl (lv_at hl 0 rfl) ?_
        exact mw_iret C hr hlk Z hP hS dX12_atom2_162 (⟨((((mFp.rf σ).tr f111).tr f119).si (by decide) _), by rw [gA_3, gAt_negI (f := (_, _)) (by omega : k = 16) (by rw [e109]; exact hg116)]; exact ⟨⟨k122, p123, ts124, e125, h129⟩, ruV_neg v127⟩⟩)
      · rw [hg116] at q115
        obtain ⟨f119, hb128⟩ := q115
        refine lv_ineg C.1 C.2.1 dX12_atom2_22 ?_
        refine lv_istore_n (lv' := [(1, .int (-r113)), (0, .ref (mw_a E 0))]) C.1 C.2.1 dX12_atom2_23 rfl hl (by decide) rfl (fun ls hl => ?_)
        refine lv_aload_n C.1 C.2.1 dX12_atom2_24 rfl (lv_at hl 1 rfl) ?_
        refine lv_dup C.1 C.2.1 dX12_atom2_25 rfl ?_
        refine mw_geti C Z hP (0) 23 (by decide) rfl rfl rfl (by decide) inX12 tw_4_187 dX12_atom2_26 ?_
        refine lv_iconst (v := 1) C.1 C.2.1 dX12_atom2_29 (by decide) ?_
        refine lv_isub C.1 C.2.1 dX12_atom2_30 ?_
        refine mw_puti C Z hP hS (0) 23 (by decide) rfl rfl rfl (by decide) inX12 tyX12 tyX12_ok nmX12 rfl tw_4_187 rfl rfl dX12_atom2_31 (fun H locs hP hS => ?_)
        have hb130 : mBd (mw_si u114 0 23 ((u114.1 0 23) - 1)) qq118 := hb128
        refine lv_goto (tgt := 161) C.1 C.2.1 dX12_atom2_34 (by decide) ?_
        refine lv_iload_n C.1 C.2.1 dX12_atom2_161 rfl (lv_at hl 0 rfl) ?_
        exact mw_iret C hr hlk Z hP hS dX12_atom2_162 (⟨((((mFp.rf σ).tr f111).tr f119).si (by decide) _), by rw [gA_3, gAt_negF (f := (_, _)) (by omega : k = 16) (by rw [e109]; exact hg116)]; exact hb130⟩)

set_option maxHeartbeats 4000000 in
set_option maxRecDepth 100000 in
theorem cM_term2 (l : Launch) (E : mw_E) (σ : mw_M) (t n : Nat) (bs : Nat → Int32) (k p : Nat) (ts : List (Nat × Nat)) (h : mPS σ t n bs k p ts 2) : mw_Ci shM 13 gM l yX12_term2 cX12_term2 2 (some .int) (rmF 23 508) E [.ref (mw_a E 0)] σ (fun r u => mOK σ u t n bs 2 r (gLevel gTim (gD 3).1 ((k, p) :: ts))) := by
  refine mw_of (by decide) gM_ok (Nat.le_of_ble_eq_true rfl) ?_
  intro p_ e_ s_ m_ below meth c_ C hr hlk Z hP ls hl
  have C : CallFix p_ m_ c_ cX12_term2 2 s_ _ lw_good RX12 := C
  have hl : lv_has ls 2 [(0, .ref (mw_a E 0))] := hl
  have hS : va_S (mw_A 13 E) s_.heap s_.heap [] := va_S.rf
  refine lv_aload_n C.1 C.2.1 dX12_term2_0 rfl (lv_at hl 0 rfl) ?_
  refine mw_cVi (As := []) (rest := []) C Z hP hS (0) (cM_atom2 l E σ t n bs k p ts h) vb_X12_atom2 tw_5_199 ⟨rfl, rfl⟩ ⟨Nat.le_of_ble_eq_true rfl, Nat.le_of_ble_eq_true rfl⟩ (by decide) rfl rfl rfl rfl hl.1 rfl (Nat.le_of_ble_eq_true rfl) dX12_term2_1 ⟨Nat.zero_le _, Nat.zero_le _⟩ (fun r1 u2 H locs q3 hP hS => ?_)
  rcases hg4 : ((gD 3).1) ((k, p) :: ts) with zz5 | qq6
  · obtain ⟨cs8, ts9⟩ := zz5
    rw [hg4] at q3
    obtain ⟨f7, ⟨k10, p11, ts12, e13, h14⟩, v15⟩ := q3
    have v15 := (mFp.rf σ).evv v15
    refine lv_istore_n (lv' := [(1, .int r1), (0, .ref (mw_a E 0))]) C.1 C.2.1 dX12_term2_4 rfl hl (by decide) rfl (fun ls hl => ?_)
    have lp : ∀ (N : Nat) (cs : List Nat) (k2 p2 : Nat) (ts2 : List (Nat × Nat)) (v : Int32) (ς : mw_M) (H : Heap) (locs : List Loc), ts2.length + 1 ≤ N → mPS ς t n bs k2 p2 ts2 2 → mFp σ ς → ruV (mEv σ) cs v → gLevel gTim (gD 3).1 ((k, p) :: ts) = gLoop gTim ((gD 3).1) N cs ((k2, p2) :: ts2) → va_P (mw_D E) vwCl (mw_ws shM 13 E ς) H → va_S (mw_A 13 E) s_.heap H locs → ∀ (ls : Array Slot), lv_has ls 2 [(0, .ref (mw_a E 0)), (1, .int v)] → mWi p_ l e_ (rmF 23 508) s_ m_ [.ref (mw_a E 0)] below meth c_ E (fun r u => mOK σ u t n bs 2 r (gLevel gTim (gD 3).1 ((k, p) :: ts))) H locs (F0 m_ 5 ls []) := by
      intro N
      induction N with
      | zero => intro cs k2 p2 ts2 v ς H locs hN; exact absurd hN (by omega)
      | succ N ih =>
        intro cs k2 p2 ts2 v ς H locs hN h2 f2 hv hR hP hS ls hl
        refine lv_aload_n C.1 C.2.1 dX12_term2_5 rfl (lv_at hl 0 rfl) ?_
        refine lv_bipush (v := 42) C.1 C.2.1 dX12_term2_6 (by decide) ?_
        refine mw_cVi (As := [.int 42]) (rest := []) C Z hP hS (0) (cM_isSignP l E ς t n bs k2 p2 ts2 2 h2 5 (by decide)) vb_X12_isSign tw_5_141 ⟨rfl, rfl⟩ ⟨Nat.le_of_ble_eq_true rfl, Nat.le_of_ble_eq_true rfl⟩ (by decide) rfl rfl rfl rfl hl.1 rfl (Nat.le_of_ble_eq_true rfl) dX12_term2_8 ⟨Nat.zero_le _, Nat.zero_le _⟩ (fun r17 u18 H locs q19 hP hS => ?_)
        obtain ⟨rfl, q19u⟩ := q19
        rw [q19u] at hP; clear q19u
        refine lv_if_eq (tgt := 28) C.1 C.2.1 dX12_term2_11 (by decide) (fun c20 => ?_) (fun c20 => ?_)
        · have c20 := bI_0.mp c20
          refine lv_iload_n C.1 C.2.1 dX12_term2_28 rfl (lv_at hl 1 rfl) ?_
          exact mw_iret C hr hlk Z hP hS dX12_term2_29 (⟨f2, by rw [hR, gLoop_e (by simp only [gTim, gAdd, gAnd, gOr, beq_iff_eq, Bool.or_eq_true]; omega)]; exact ⟨⟨k2, p2, ts2, rfl, h2⟩, hv⟩⟩)
        · have c20 := bI_n.mp c20
          refine lv_aload_n C.1 C.2.1 dX12_term2_14 rfl (lv_at hl 0 rfl) ?_
          refine mw_cVv (As := []) (rest := []) C Z hP hS (0) (cM_nextP l E ς t n bs k2 p2 ts2 2 h2 (by omega) (by omega)) vb_X12_next tw_5_64 ⟨rfl, rfl⟩ ⟨Nat.le_of_ble_eq_true rfl, Nat.le_of_ble_eq_true rfl⟩ (by decide) rfl rfl rfl rfl hl.1 rfl (Nat.le_of_ble_eq_true rfl) dX12_term2_15 ⟨Nat.zero_le _, Nat.zero_le _⟩ (fun u22 H locs q23 hP hS => ?_)
          obtain ⟨⟨k24, p25, ts26, e27, h28⟩, f29⟩ := q23
          refine lv_iload_n C.1 C.2.1 dX12_term2_18 rfl (lv_at hl 1 rfl) ?_
          refine lv_aload_n C.1 C.2.1 dX12_term2_19 rfl (lv_at hl 0 rfl) ?_
          refine mw_cVi (As := []) (rest := [.int v]) C Z hP hS (0) (cM_atom2 l E u22 t n bs k24 p25 ts26 h28) vb_X12_atom2 tw_5_199 ⟨rfl, rfl⟩ ⟨Nat.le_of_ble_eq_true rfl, Nat.le_of_ble_eq_true rfl⟩ (by decide) rfl rfl rfl rfl hl.1 rfl (Nat.le_of_ble_eq_true rfl) dX12_term2_20 ⟨Nat.zero_le _, Nat.zero_le _⟩ (fun r30 u31 H locs q32 hP hS => ?_)
          rcases hg33 : ((gD 3).1) ((k24, p25) :: ts26) with zz34 | qq35
          · obtain ⟨cs37, ts38⟩ := zz34
            rw [hg33] at q32
            obtain ⟨f36, ⟨k39, p40, ts41, e42, h43⟩, v44⟩ := q32
            have v44 := (f2.tr f29).evv v44
            refine lv_imul C.1 C.2.1 dX12_term2_23 ?_
            refine lv_istore_n (lv' := [(1, .int (v * r30)), (0, .ref (mw_a E 0))]) C.1 C.2.1 dX12_term2_24 rfl hl (by decide) rfl (fun ls hl => ?_)
            refine lv_goto (tgt := 5) C.1 C.2.1 dX12_term2_25 (by decide) ?_
            exact ih (cs ++ cs37 ++ [k2]) k39 p40 ts41 (v * r30) u31 _ _ (by have d := (gD_dec 3).1 _ _ _ hg33; rw [e42, List.length_cons, List.length_cons] at d; rw [e27, List.length_cons] at hN; omega) h43 ((f2.tr f29).tr f36) (by have z := ruV_op (c := k2) hv v44 (by omega); rwa [show opF k2 v r30 = v * r30 by rw [c20]; rfl] at z) (by rw [hR, gLoop_s (by simp only [gTim, gAdd, gAnd, gOr, beq_iff_eq, Bool.or_eq_true]; omega) (by rw [e27]; exact hg33), e42]) hP hS ls (lv_sub hl [1, 0] rfl)
          · rw [hg33] at q32
            obtain ⟨f36, hb45⟩ := q32
            refine lv_imul C.1 C.2.1 dX12_term2_23 ?_
            refine lv_istore_n (lv' := [(1, .int (v * r30)), (0, .ref (mw_a E 0))]) C.1 C.2.1 dX12_term2_24 rfl hl (by decide) rfl (fun ls hl => ?_)
            refine lv_goto (tgt := 5) C.1 C.2.1 dX12_term2_25 (by decide) ?_
            refine lv_aload_n C.1 C.2.1 dX12_term2_5 rfl (lv_at hl 1 rfl) ?_
            refine lv_bipush (v := 42) C.1 C.2.1 dX12_term2_6 (by decide) ?_
            refine mw_cVi (As := [.int 42]) (rest := []) C Z hP hS (0) (cM_isSignB l E u31 42 hb45.1) vb_X12_isSign tw_5_141 ⟨rfl, rfl⟩ ⟨Nat.le_of_ble_eq_true rfl, Nat.le_of_ble_eq_true rfl⟩ (by decide) rfl rfl rfl rfl hl.1 rfl (Nat.le_of_ble_eq_true rfl) dX12_term2_8 ⟨Nat.zero_le _, Nat.zero_le _⟩ (fun r46 u47 H locs q48 hP hS => ?_)
            obtain ⟨rfl, q48u⟩ := q48
            rw [q48u] at hP; clear q48u
            refine lv_if_eq (tgt := 28) C.1 C.2.1 dX12_term2_11 (by decide) (fun c49 => ?_) (fun c49 => ?_)
            · refine lv_iload_n C.1 C.2.1 dX12_term2_28 rfl (lv_at hl 0 rfl) ?_
              exact mw_iret C hr hlk Z hP hS dX12_term2_29 (⟨((f2.tr f29).tr f36), by rw [hR, gLoop_f (by simp only [gTim, gAdd, gAnd, gOr, beq_iff_eq, Bool.or_eq_true]; omega) (by rw [e27]; exact hg33)]; exact hb45⟩)
            · exact absurd c49 (by decide)
    exact lp (ts12.length + 1) cs8 k10 p11 ts12 r1 u2 _ _ (Nat.le_refl _) h14 ((mFp.rf σ).tr f7) v15 (by rw [gLevel_I hg4, e13]; rfl) hP hS ls (lv_sub hl [1, 0] rfl)
  · rw [hg4] at q3
    obtain ⟨f7, hb16⟩ := q3
    refine lv_istore_n (lv' := [(1, .int r1), (0, .ref (mw_a E 0))]) C.1 C.2.1 dX12_term2_4 rfl hl (by decide) rfl (fun ls hl => ?_)
    refine lv_aload_n C.1 C.2.1 dX12_term2_5 rfl (lv_at hl 1 rfl) ?_
    refine lv_bipush (v := 42) C.1 C.2.1 dX12_term2_6 (by decide) ?_
    refine mw_cVi (As := [.int 42]) (rest := []) C Z hP hS (0) (cM_isSignB l E u2 42 hb16.1) vb_X12_isSign tw_5_141 ⟨rfl, rfl⟩ ⟨Nat.le_of_ble_eq_true rfl, Nat.le_of_ble_eq_true rfl⟩ (by decide) rfl rfl rfl rfl hl.1 rfl (Nat.le_of_ble_eq_true rfl) dX12_term2_8 ⟨Nat.zero_le _, Nat.zero_le _⟩ (fun r50 u51 H locs q52 hP hS => ?_)
    obtain ⟨rfl, q52u⟩ := q52
    rw [q52u] at hP; clear q52u
    refine lv_if_eq (tgt := 28) C.1 C.2.1 dX12_term2_11 (by decide) (fun c53 => ?_) (fun c53 => ?_)
    · refine lv_iload_n C.1 C.2.1 dX12_term2_28 rfl (lv_at hl 0 rfl) ?_
      exact mw_iret C hr hlk Z hP hS dX12_term2_29 (⟨((mFp.rf σ).tr f7), by rw [gLevel_F hg4]; exact hb16⟩)
    · exact absurd c53 (by decide)

set_option maxHeartbeats 4000000 in
set_option maxRecDepth 100000 in
theorem cM_added2 (l : Launch) (E : mw_E) (σ : mw_M) (t n : Nat) (bs : Nat → Int32) (k p : Nat) (ts : List (Nat × Nat)) (h : mPS σ t n bs k p ts 2) : mw_Ci shM 13 gM l yX12_added2 cX12_added2 4 (some .int) (rmF 24 529) E [.ref (mw_a E 0)] σ (fun r u => mOK σ u t n bs 2 r (gLevel gAdd (gLevel gTim (gD 3).1) ((k, p) :: ts))) := by
  refine mw_of (by decide) gM_ok (Nat.le_of_ble_eq_true rfl) ?_
  intro p_ e_ s_ m_ below meth c_ C hr hlk Z hP ls hl
  have C : CallFix p_ m_ c_ cX12_added2 4 s_ _ lw_good RX12 := C
  have hl : lv_has ls 4 [(0, .ref (mw_a E 0))] := hl
  have hS : va_S (mw_A 13 E) s_.heap s_.heap [] := va_S.rf
  refine lv_aload_n C.1 C.2.1 dX12_added2_0 rfl (lv_at hl 0 rfl) ?_
  refine mw_cVi (As := []) (rest := []) C Z hP hS (0) (cM_term2 l E σ t n bs k p ts h) vb_X12_term2 tw_5_195 ⟨rfl, rfl⟩ ⟨Nat.le_of_ble_eq_true rfl, Nat.le_of_ble_eq_true rfl⟩ (by decide) rfl rfl rfl rfl hl.1 rfl (Nat.le_of_ble_eq_true rfl) dX12_added2_1 ⟨Nat.zero_le _, Nat.zero_le _⟩ (fun r1 u2 H locs q3 hP hS => ?_)
  rcases hg4 : (gLevel gTim (gD 3).1) ((k, p) :: ts) with zz5 | qq6
  · obtain ⟨cs8, ts9⟩ := zz5
    rw [hg4] at q3
    obtain ⟨f7, ⟨k10, p11, ts12, e13, h14⟩, v15⟩ := q3
    have v15 := (mFp.rf σ).evv v15
    refine lv_istore_n (lv' := [(1, .int r1), (0, .ref (mw_a E 0))]) C.1 C.2.1 dX12_added2_4 rfl hl (by decide) rfl (fun ls hl => ?_)
    have lp : ∀ (N : Nat) (cs : List Nat) (k2 p2 : Nat) (ts2 : List (Nat × Nat)) (v : Int32) (ς : mw_M) (H : Heap) (locs : List Loc), ts2.length + 1 ≤ N → mPS ς t n bs k2 p2 ts2 2 → mFp σ ς → ruV (mEv σ) cs v → gLevel gAdd (gLevel gTim (gD 3).1) ((k, p) :: ts) = gLoop gAdd (gLevel gTim (gD 3).1) N cs ((k2, p2) :: ts2) → va_P (mw_D E) vwCl (mw_ws shM 13 E ς) H → va_S (mw_A 13 E) s_.heap H locs → ∀ (ls : Array Slot), lv_has ls 4 [(0, .ref (mw_a E 0)), (1, .int v)] → mWi p_ l e_ (rmF 24 529) s_ m_ [.ref (mw_a E 0)] below meth c_ E (fun r u => mOK σ u t n bs 2 r (gLevel gAdd (gLevel gTim (gD 3).1) ((k, p) :: ts))) H locs (F0 m_ 5 ls []) := by
      intro N
      induction N with
      | zero => intro cs k2 p2 ts2 v ς H locs hN; exact absurd hN (by omega)
      | succ N ih =>
        intro cs k2 p2 ts2 v ς H locs hN h2 f2 hv hR hP hS ls hl
        refine lv_aload_n C.1 C.2.1 dX12_added2_5 rfl (lv_at hl 0 rfl) ?_
        refine lv_bipush (v := 43) C.1 C.2.1 dX12_added2_6 (by decide) ?_
        refine mw_cVi (As := [.int 43]) (rest := []) C Z hP hS (0) (cM_isSignP l E ς t n bs k2 p2 ts2 2 h2 3 (by decide)) vb_X12_isSign tw_5_141 ⟨rfl, rfl⟩ ⟨Nat.le_of_ble_eq_true rfl, Nat.le_of_ble_eq_true rfl⟩ (by decide) rfl rfl rfl rfl hl.1 rfl (Nat.le_of_ble_eq_true rfl) dX12_added2_8 ⟨Nat.zero_le _, Nat.zero_le _⟩ (fun r17 u18 H locs q19 hP hS => ?_)
        obtain ⟨rfl, q19u⟩ := q19
        rw [q19u] at hP; clear q19u
        refine lv_if_ne (tgt := 23) C.1 C.2.1 dX12_added2_11 (by decide) (fun c20 => ?_) (fun c20 => ?_)
        · have c20 := bI_n.mp c20
          refine lv_aload_n C.1 C.2.1 dX12_added2_23 rfl (lv_at hl 0 rfl) ?_
          refine mw_getl C Z hP (0) 22 (by decide) rfl rfl rfl (by decide) inX12 tw_4_186 dX12_added2_24 ?_
          refine mw_topl (y := 43) (((h2.2.2.2.2.2.1 3 (by decide)).mpr c20).2) ?_
          refine lv_ldc2 (own := RX12) C.1 C.2.1 C.2.2.2.1 (C.2.2.2.2 _ tw_5_149) dX12_added2_27 ?_
          refine W.lcmp C.1 C.2.1 dX12_added2_30 ?_
          refine lv_if_ne (tgt := 38) C.1 C.2.1 dX12_added2_31 (by decide) (fun c21 => ?_) (fun c21 => ?_)
          · have c21 := (not_congr (lg_cmp_eq _ _)).mp c21
            exact absurd c21 (by decide)
          · have c21 := (lg_cmp_eq _ _).mp c21
            refine lv_iconst (v := 1) C.1 C.2.1 dX12_added2_34 (by decide) ?_
            refine lv_goto (tgt := 39) C.1 C.2.1 dX12_added2_35 (by decide) ?_
            refine lv_istore_n (lv' := [(2, .int 1), (0, .ref (mw_a E 0)), (1, .int v)]) C.1 C.2.1 dX12_added2_39 rfl hl (by decide) rfl (fun ls hl => ?_)
            refine lv_aload_n C.1 C.2.1 dX12_added2_40 rfl (lv_at hl 1 rfl) ?_
            refine mw_cVv (As := []) (rest := []) C Z hP hS (0) (cM_nextP l E ς t n bs k2 p2 ts2 2 h2 (by omega) (by omega)) vb_X12_next tw_5_64 ⟨rfl, rfl⟩ ⟨Nat.le_of_ble_eq_true rfl, Nat.le_of_ble_eq_true rfl⟩ (by decide) rfl rfl rfl rfl hl.1 rfl (Nat.le_of_ble_eq_true rfl) dX12_added2_41 ⟨Nat.zero_le _, Nat.zero_le _⟩ (fun u23 H locs q24 hP hS => ?_)
            obtain ⟨⟨k25, p26, ts27, e28, h29⟩, f30⟩ := q24
            refine lv_aload_n C.1 C.2.1 dX12_added2_44 rfl (lv_at hl 1 rfl) ?_
            refine mw_cVi (As := []) (rest := []) C Z hP hS (0) (cM_term2 l E u23 t n bs k25 p26 ts27 h29) vb_X12_term2 tw_5_195 ⟨rfl, rfl⟩ ⟨Nat.le_of_ble_eq_true rfl, Nat.le_of_ble_eq_true rfl⟩ (by decide) rfl rfl rfl rfl hl.1 rfl (Nat.le_of_ble_eq_true rfl) dX12_added2_45 ⟨Nat.zero_le _, Nat.zero_le _⟩ (fun r31 u32 H locs q33 hP hS => ?_)
            rcases hg34 : (gLevel gTim (gD 3).1) ((k25, p26) :: ts27) with zz35 | qq36
            · obtain ⟨cs38, ts39⟩ := zz35
              rw [hg34] at q33
              obtain ⟨f37, ⟨k40, p41, ts42, e43, h44⟩, v45⟩ := q33
              have v45 := (f2.tr f30).evv v45
              refine lv_istore_n (lv' := [(3, .int r31), (2, .int 1), (0, .ref (mw_a E 0)), (1, .int v)]) C.1 C.2.1 dX12_added2_48 rfl hl (by decide) rfl (fun ls hl => ?_)
              refine lv_iload_n C.1 C.2.1 dX12_added2_49 rfl (lv_at hl 1 rfl) ?_
              refine lv_if_eq (tgt := 59) C.1 C.2.1 dX12_added2_50 (by decide) (fun c47 => ?_) (fun c47 => ?_)
              · exact absurd c47 (by decide)
              · refine lv_iload_n C.1 C.2.1 dX12_added2_53 rfl (lv_at hl 3 rfl) ?_
                refine lv_iload_n C.1 C.2.1 dX12_added2_54 rfl (lv_at hl 0 rfl) ?_
                refine lv_iadd C.1 C.2.1 dX12_added2_55 ?_
                refine lv_goto (tgt := 62) C.1 C.2.1 dX12_added2_56 (by decide) ?_
                refine lv_istore_n (lv' := [(1, .int (v + r31)), (3, .int r31), (2, .int 1), (0, .ref (mw_a E 0))]) C.1 C.2.1 dX12_added2_62 rfl hl (by decide) rfl (fun ls hl => ?_)
                refine lv_goto (tgt := 5) C.1 C.2.1 dX12_added2_63 (by decide) ?_
                exact ih (cs ++ cs38 ++ [k2]) k40 p41 ts42 (v + r31) u32 _ _ (by have d := (gLevel_dec (gD_dec 3).1) _ _ _ hg34; rw [e43, List.length_cons, List.length_cons] at d; rw [e28, List.length_cons] at hN; omega) h44 ((f2.tr f30).tr f37) (by have z := ruV_op (c := k2) hv v45 (by omega); rwa [show opF k2 v r31 = v + r31 by rw [c20]; rfl] at z) (by rw [hR, gLoop_s (by simp only [gTim, gAdd, gAnd, gOr, beq_iff_eq, Bool.or_eq_true]; omega) (by rw [e28]; exact hg34), e43]) hP hS ls (lv_sub hl [3, 0] rfl)
            · rw [hg34] at q33
              obtain ⟨f37, hb46⟩ := q33
              refine lv_istore_n (lv' := [(3, .int r31), (2, .int 1), (0, .ref (mw_a E 0)), (1, .int v)]) C.1 C.2.1 dX12_added2_48 rfl hl (by decide) rfl (fun ls hl => ?_)
              refine lv_iload_n C.1 C.2.1 dX12_added2_49 rfl (lv_at hl 1 rfl) ?_
              refine lv_if_eq (tgt := 59) C.1 C.2.1 dX12_added2_50 (by decide) (fun c48 => ?_) (fun c48 => ?_)
              · exact absurd c48 (by decide)
              · refine lv_iload_n C.1 C.2.1 dX12_added2_53 rfl (lv_at hl 3 rfl) ?_
                refine lv_iload_n C.1 C.2.1 dX12_added2_54 rfl (lv_at hl 0 rfl) ?_
                refine lv_iadd C.1 C.2.1 dX12_added2_55 ?_
                refine lv_goto (tgt := 62) C.1 C.2.1 dX12_added2_56 (by decide) ?_
                refine lv_istore_n (lv' := [(1, .int (v + r31)), (3, .int r31), (2, .int 1), (0, .ref (mw_a E 0))]) C.1 C.2.1 dX12_added2_62 rfl hl (by decide) rfl (fun ls hl => ?_)
                refine lv_goto (tgt := 5) C.1 C.2.1 dX12_added2_63 (by decide) ?_
                refine lv_aload_n C.1 C.2.1 dX12_added2_5 rfl (lv_at hl 3 rfl) ?_
                refine lv_bipush (v := 43) C.1 C.2.1 dX12_added2_6 (by decide) ?_
                refine mw_cVi (As := [.int 43]) (rest := []) C Z hP hS (0) (cM_isSignB l E u32 43 hb46.1) vb_X12_isSign tw_5_141 ⟨rfl, rfl⟩ ⟨Nat.le_of_ble_eq_true rfl, Nat.le_of_ble_eq_true rfl⟩ (by decide) rfl rfl rfl rfl hl.1 rfl (Nat.le_of_ble_eq_true rfl) dX12_added2_8 ⟨Nat.zero_le _, Nat.zero_le _⟩ (fun r49 u50 H locs q51 hP hS => ?_)
                obtain ⟨rfl, q51u⟩ := q51
                rw [q51u] at hP; clear q51u
                refine lv_if_ne (tgt := 23) C.1 C.2.1 dX12_added2_11 (by decide) (fun c52 => ?_) (fun c52 => ?_)
                · exact absurd c52 (by decide)
                · refine lv_aload_n C.1 C.2.1 dX12_added2_14 rfl (lv_at hl 3 rfl) ?_
                  refine lv_bipush (v := 45) C.1 C.2.1 dX12_added2_15 (by decide) ?_
                  refine mw_cVi (As := [.int 45]) (rest := []) C Z hP hS (0) (cM_isSignB l E u32 45 hb46.1) vb_X12_isSign tw_5_141 ⟨rfl, rfl⟩ ⟨Nat.le_of_ble_eq_true rfl, Nat.le_of_ble_eq_true rfl⟩ (by decide) rfl rfl rfl rfl hl.1 rfl (Nat.le_of_ble_eq_true rfl) dX12_added2_17 ⟨Nat.zero_le _, Nat.zero_le _⟩ (fun r53 u54 H locs q55 hP hS => ?_)
                  obtain ⟨rfl, q55u⟩ := q55
                  rw [q55u] at hP; clear q55u
                  refine lv_if_eq (tgt := 66) C.1 C.2.1 dX12_added2_20 (by decide) (fun c56 => ?_) (fun c56 => ?_)
                  · refine lv_iload_n C.1 C.2.1 dX12_added2_66 rfl (lv_at hl 0 rfl) ?_
                    exact mw_iret C hr hlk Z hP hS dX12_added2_67 (⟨((f2.tr f30).tr f37), by rw [hR, gLoop_f (by simp only [gTim, gAdd, gAnd, gOr, beq_iff_eq, Bool.or_eq_true]; omega) (by rw [e28]; exact hg34)]; exact hb46⟩)
                  · exact absurd c56 (by decide)
        · have c20 := bI_0.mp c20
          refine lv_aload_n C.1 C.2.1 dX12_added2_14 rfl (lv_at hl 0 rfl) ?_
          refine lv_bipush (v := 45) C.1 C.2.1 dX12_added2_15 (by decide) ?_
          refine mw_cVi (As := [.int 45]) (rest := []) C Z hP hS (0) (cM_isSignP l E ς t n bs k2 p2 ts2 2 h2 4 (by decide)) vb_X12_isSign tw_5_141 ⟨rfl, rfl⟩ ⟨Nat.le_of_ble_eq_true rfl, Nat.le_of_ble_eq_true rfl⟩ (by decide) rfl rfl rfl rfl hl.1 rfl (Nat.le_of_ble_eq_true rfl) dX12_added2_17 ⟨Nat.zero_le _, Nat.zero_le _⟩ (fun r57 u58 H locs q59 hP hS => ?_)
          obtain ⟨rfl, q59u⟩ := q59
          rw [q59u] at hP; clear q59u
          refine lv_if_eq (tgt := 66) C.1 C.2.1 dX12_added2_20 (by decide) (fun c60 => ?_) (fun c60 => ?_)
          · have c60 := bI_0.mp c60
            refine lv_iload_n C.1 C.2.1 dX12_added2_66 rfl (lv_at hl 1 rfl) ?_
            exact mw_iret C hr hlk Z hP hS dX12_added2_67 (⟨f2, by rw [hR, gLoop_e (by simp only [gTim, gAdd, gAnd, gOr, beq_iff_eq, Bool.or_eq_true]; omega)]; exact ⟨⟨k2, p2, ts2, rfl, h2⟩, hv⟩⟩)
          · have c60 := bI_n.mp c60
            refine lv_aload_n C.1 C.2.1 dX12_added2_23 rfl (lv_at hl 0 rfl) ?_
            refine mw_getl C Z hP (0) 22 (by decide) rfl rfl rfl (by decide) inX12 tw_4_186 dX12_added2_24 ?_
            refine mw_topl (y := 45) (((h2.2.2.2.2.2.1 4 (by decide)).mpr c60).2) ?_
            refine lv_ldc2 (own := RX12) C.1 C.2.1 C.2.2.2.1 (C.2.2.2.2 _ tw_5_149) dX12_added2_27 ?_
            refine W.lcmp C.1 C.2.1 dX12_added2_30 ?_
            refine lv_if_ne (tgt := 38) C.1 C.2.1 dX12_added2_31 (by decide) (fun c61 => ?_) (fun c61 => ?_)
            · have c61 := (not_congr (lg_cmp_eq _ _)).mp c61
              refine lv_iconst (v := 0) C.1 C.2.1 dX12_added2_38 (by decide) ?_
              refine lv_istore_n (lv' := [(2, .int 0), (0, .ref (mw_a E 0)), (1, .int v)]) C.1 C.2.1 dX12_added2_39 rfl hl (by decide) rfl (fun ls hl => ?_)
              refine lv_aload_n C.1 C.2.1 dX12_added2_40 rfl (lv_at hl 1 rfl) ?_
              refine mw_cVv (As := []) (rest := []) C Z hP hS (0) (cM_nextP l E ς t n bs k2 p2 ts2 2 h2 (by omega) (by omega)) vb_X12_next tw_5_64 ⟨rfl, rfl⟩ ⟨Nat.le_of_ble_eq_true rfl, Nat.le_of_ble_eq_true rfl⟩ (by decide) rfl rfl rfl rfl hl.1 rfl (Nat.le_of_ble_eq_true rfl) dX12_added2_41 ⟨Nat.zero_le _, Nat.zero_le _⟩ (fun u63 H locs q64 hP hS => ?_)
              obtain ⟨⟨k65, p66, ts67, e68, h69⟩, f70⟩ := q64
              refine lv_aload_n C.1 C.2.1 dX12_added2_44 rfl (lv_at hl 1 rfl) ?_
              refine mw_cVi (As := []) (rest := []) C Z hP hS (0) (cM_term2 l E u63 t n bs k65 p66 ts67 h69) vb_X12_term2 tw_5_195 ⟨rfl, rfl⟩ ⟨Nat.le_of_ble_eq_true rfl, Nat.le_of_ble_eq_true rfl⟩ (by decide) rfl rfl rfl rfl hl.1 rfl (Nat.le_of_ble_eq_true rfl) dX12_added2_45 ⟨Nat.zero_le _, Nat.zero_le _⟩ (fun r71 u72 H locs q73 hP hS => ?_)
              rcases hg74 : (gLevel gTim (gD 3).1) ((k65, p66) :: ts67) with zz75 | qq76
              · obtain ⟨cs78, ts79⟩ := zz75
                rw [hg74] at q73
                obtain ⟨f77, ⟨k80, p81, ts82, e83, h84⟩, v85⟩ := q73
                have v85 := (f2.tr f70).evv v85
                refine lv_istore_n (lv' := [(3, .int r71), (2, .int 0), (0, .ref (mw_a E 0)), (1, .int v)]) C.1 C.2.1 dX12_added2_48 rfl hl (by decide) rfl (fun ls hl => ?_)
                refine lv_iload_n C.1 C.2.1 dX12_added2_49 rfl (lv_at hl 1 rfl) ?_
                refine lv_if_eq (tgt := 59) C.1 C.2.1 dX12_added2_50 (by decide) (fun c87 => ?_) (fun c87 => ?_)
                · refine lv_iload_n C.1 C.2.1 dX12_added2_59 rfl (lv_at hl 3 rfl) ?_
                  refine lv_iload_n C.1 C.2.1 dX12_added2_60 rfl (lv_at hl 0 rfl) ?_
                  refine lv_isub C.1 C.2.1 dX12_added2_61 ?_
                  refine lv_istore_n (lv' := [(1, .int (v - r71)), (3, .int r71), (2, .int 0), (0, .ref (mw_a E 0))]) C.1 C.2.1 dX12_added2_62 rfl hl (by decide) rfl (fun ls hl => ?_)
                  refine lv_goto (tgt := 5) C.1 C.2.1 dX12_added2_63 (by decide) ?_
                  exact ih (cs ++ cs78 ++ [k2]) k80 p81 ts82 (v - r71) u72 _ _ (by have d := (gLevel_dec (gD_dec 3).1) _ _ _ hg74; rw [e83, List.length_cons, List.length_cons] at d; rw [e68, List.length_cons] at hN; omega) h84 ((f2.tr f70).tr f77) (by have z := ruV_op (c := k2) hv v85 (by omega); rwa [show opF k2 v r71 = v - r71 by rw [c60]; rfl] at z) (by rw [hR, gLoop_s (by simp only [gTim, gAdd, gAnd, gOr, beq_iff_eq, Bool.or_eq_true]; omega) (by rw [e68]; exact hg74), e83]) hP hS ls (lv_sub hl [3, 0] rfl)
                · exact absurd c87 (by decide)
              · rw [hg74] at q73
                obtain ⟨f77, hb86⟩ := q73
                refine lv_istore_n (lv' := [(3, .int r71), (2, .int 0), (0, .ref (mw_a E 0)), (1, .int v)]) C.1 C.2.1 dX12_added2_48 rfl hl (by decide) rfl (fun ls hl => ?_)
                refine lv_iload_n C.1 C.2.1 dX12_added2_49 rfl (lv_at hl 1 rfl) ?_
                refine lv_if_eq (tgt := 59) C.1 C.2.1 dX12_added2_50 (by decide) (fun c88 => ?_) (fun c88 => ?_)
                · refine lv_iload_n C.1 C.2.1 dX12_added2_59 rfl (lv_at hl 3 rfl) ?_
                  refine lv_iload_n C.1 C.2.1 dX12_added2_60 rfl (lv_at hl 0 rfl) ?_
                  refine lv_isub C.1 C.2.1 dX12_added2_61 ?_
                  refine lv_istore_n (lv' := [(1, .int (v - r71)), (3, .int r71), (2, .int 0), (0, .ref (mw_a E 0))]) C.1 C.2.1 dX12_added2_62 rfl hl (by decide) rfl (fun ls hl => ?_)
                  refine lv_goto (tgt := 5) C.1 C.2.1 dX12_added2_63 (by decide) ?_
                  refine lv_aload_n C.1 C.2.1 dX12_added2_5 rfl (lv_at hl 3 rfl) ?_
                  refine lv_bipush (v := 43) C.1 C.2.1 dX12_added2_6 (by decide) ?_
                  refine mw_cVi (As := [.int 43]) (rest := []) C Z hP hS (0) (cM_isSignB l E u72 43 hb86.1) vb_X12_isSign tw_5_141 ⟨rfl, rfl⟩ ⟨Nat.le_of_ble_eq_true rfl, Nat.le_of_ble_eq_true rfl⟩ (by decide) rfl rfl rfl rfl hl.1 rfl (Nat.le_of_ble_eq_true rfl) dX12_added2_8 ⟨Nat.zero_le _, Nat.zero_le _⟩ (fun r89 u90 H locs q91 hP hS => ?_)
                  obtain ⟨rfl, q91u⟩ := q91
                  rw [q91u] at hP; clear q91u
                  refine lv_if_ne (tgt := 23) C.1 C.2.1 dX12_added2_11 (by decide) (fun c92 => ?_) (fun c92 => ?_)
                  · exact absurd c92 (by decide)
                  · refine lv_aload_n C.1 C.2.1 dX12_added2_14 rfl (lv_at hl 3 rfl) ?_
                    refine lv_bipush (v := 45) C.1 C.2.1 dX12_added2_15 (by decide) ?_
                    refine mw_cVi (As := [.int 45]) (rest := []) C Z hP hS (0) (cM_isSignB l E u72 45 hb86.1) vb_X12_isSign tw_5_141 ⟨rfl, rfl⟩ ⟨Nat.le_of_ble_eq_true rfl, Nat.le_of_ble_eq_true rfl⟩ (by decide) rfl rfl rfl rfl hl.1 rfl (Nat.le_of_ble_eq_true rfl) dX12_added2_17 ⟨Nat.zero_le _, Nat.zero_le _⟩ (fun r93 u94 H locs q95 hP hS => ?_)
                    obtain ⟨rfl, q95u⟩ := q95
                    rw [q95u] at hP; clear q95u
                    refine lv_if_eq (tgt := 66) C.1 C.2.1 dX12_added2_20 (by decide) (fun c96 => ?_) (fun c96 => ?_)
                    · refine lv_iload_n C.1 C.2.1 dX12_added2_66 rfl (lv_at hl 0 rfl) ?_
                      exact mw_iret C hr hlk Z hP hS dX12_added2_67 (⟨((f2.tr f70).tr f77), by rw [hR, gLoop_f (by simp only [gTim, gAdd, gAnd, gOr, beq_iff_eq, Bool.or_eq_true]; omega) (by rw [e68]; exact hg74)]; exact hb86⟩)
                    · exact absurd c96 (by decide)
                · exact absurd c88 (by decide)
            · have c61 := (lg_cmp_eq _ _).mp c61
              exact absurd c61 (by decide)
    exact lp (ts12.length + 1) cs8 k10 p11 ts12 r1 u2 _ _ (Nat.le_refl _) h14 ((mFp.rf σ).tr f7) v15 (by rw [gLevel_I hg4, e13]; rfl) hP hS ls (lv_sub hl [1, 0] rfl)
  · rw [hg4] at q3
    obtain ⟨f7, hb16⟩ := q3
    refine lv_istore_n (lv' := [(1, .int r1), (0, .ref (mw_a E 0))]) C.1 C.2.1 dX12_added2_4 rfl hl (by decide) rfl (fun ls hl => ?_)
    refine lv_aload_n C.1 C.2.1 dX12_added2_5 rfl (lv_at hl 1 rfl) ?_
    refine lv_bipush (v := 43) C.1 C.2.1 dX12_added2_6 (by decide) ?_
    refine mw_cVi (As := [.int 43]) (rest := []) C Z hP hS (0) (cM_isSignB l E u2 43 hb16.1) vb_X12_isSign tw_5_141 ⟨rfl, rfl⟩ ⟨Nat.le_of_ble_eq_true rfl, Nat.le_of_ble_eq_true rfl⟩ (by decide) rfl rfl rfl rfl hl.1 rfl (Nat.le_of_ble_eq_true rfl) dX12_added2_8 ⟨Nat.zero_le _, Nat.zero_le _⟩ (fun r97 u98 H locs q99 hP hS => ?_)
    obtain ⟨rfl, q99u⟩ := q99
    rw [q99u] at hP; clear q99u
    refine lv_if_ne (tgt := 23) C.1 C.2.1 dX12_added2_11 (by decide) (fun c100 => ?_) (fun c100 => ?_)
    · exact absurd c100 (by decide)
    · refine lv_aload_n C.1 C.2.1 dX12_added2_14 rfl (lv_at hl 1 rfl) ?_
      refine lv_bipush (v := 45) C.1 C.2.1 dX12_added2_15 (by decide) ?_
      refine mw_cVi (As := [.int 45]) (rest := []) C Z hP hS (0) (cM_isSignB l E u2 45 hb16.1) vb_X12_isSign tw_5_141 ⟨rfl, rfl⟩ ⟨Nat.le_of_ble_eq_true rfl, Nat.le_of_ble_eq_true rfl⟩ (by decide) rfl rfl rfl rfl hl.1 rfl (Nat.le_of_ble_eq_true rfl) dX12_added2_17 ⟨Nat.zero_le _, Nat.zero_le _⟩ (fun r101 u102 H locs q103 hP hS => ?_)
      obtain ⟨rfl, q103u⟩ := q103
      rw [q103u] at hP; clear q103u
      refine lv_if_eq (tgt := 66) C.1 C.2.1 dX12_added2_20 (by decide) (fun c104 => ?_) (fun c104 => ?_)
      · refine lv_iload_n C.1 C.2.1 dX12_added2_66 rfl (lv_at hl 0 rfl) ?_
        exact mw_iret C hr hlk Z hP hS dX12_added2_67 (⟨((mFp.rf σ).tr f7), by rw [gLevel_F hg4]; exact hb16⟩)
      · exact absurd c104 (by decide)

set_option maxHeartbeats 4000000 in
set_option maxRecDepth 100000 in
theorem cM_not2 (l : Launch) (E : mw_E) (σ : mw_M) (t n : Nat) (bs : Nat → Int32) (k p : Nat) (ts : List (Nat × Nat)) (h : mPS σ t n bs k p ts 2) : mw_Ci shM 13 gM l yX12_not2 cX12_not2 4 (some .int) (rmF 25 552) E [.ref (mw_a E 0)] σ (fun r u => mOK σ u t n bs 2 r ((gD 3).2.1 ((k, p) :: ts))) := by
  refine mw_of (by decide) gM_ok (Nat.le_of_ble_eq_true rfl) ?_
  intro p_ e_ s_ m_ below meth c_ C hr hlk Z hP ls hl
  have C : CallFix p_ m_ c_ cX12_not2 4 s_ _ lw_good RX12 := C
  have hl : lv_has ls 4 [(0, .ref (mw_a E 0))] := hl
  have hS : va_S (mw_A 13 E) s_.heap s_.heap [] := va_S.rf
  refine lv_aload_n C.1 C.2.1 dX12_not2_0 rfl (lv_at hl 0 rfl) ?_
  refine lv_bipush (v := 110) C.1 C.2.1 dX12_not2_1 (by decide) ?_
  refine lv_bipush (v := 111) C.1 C.2.1 dX12_not2_3 (by decide) ?_
  refine lv_bipush (v := 116) C.1 C.2.1 dX12_not2_5 (by decide) ?_
  refine lv_iconst (v := 0) C.1 C.2.1 dX12_not2_7 (by decide) ?_
  refine lv_iconst (v := 0) C.1 C.2.1 dX12_not2_8 (by decide) ?_
  refine lv_iconst (v := 0) C.1 C.2.1 dX12_not2_9 (by decide) ?_
  refine lv_iconst (v := 0) C.1 C.2.1 dX12_not2_10 (by decide) ?_
  refine lv_iconst (v := 0) C.1 C.2.1 dX12_not2_11 (by decide) ?_
  refine mw_cVi (As := [.int 110, .int 111, .int 116, .int 0, .int 0, .int 0, .int 0, .int 0]) (rest := []) C Z hP hS (0) (cM_isWordP l E σ t n bs k p ts 2 h 11 (by decide)) vb_X12_isWord tw_5_77 ⟨rfl, rfl⟩ ⟨Nat.le_of_ble_eq_true rfl, Nat.le_of_ble_eq_true rfl⟩ (by decide) rfl rfl rfl rfl hl.1 rfl (Nat.le_of_ble_eq_true rfl) dX12_not2_12 ⟨Nat.zero_le _, Nat.zero_le _⟩ (fun r1 u2 H locs q3 hP hS => ?_)
  obtain ⟨rfl, q3u⟩ := q3
  rw [q3u] at hP; clear q3u
  refine lv_if_eq (tgt := 52) C.1 C.2.1 dX12_not2_15 (by decide) (fun c4 => ?_) (fun c4 => ?_)
  · have c4 := bI_0.mp c4
    refine lv_aload_n C.1 C.2.1 dX12_not2_52 rfl (lv_at hl 0 rfl) ?_
    refine mw_cVi (As := []) (rest := []) C Z hP hS (0) (cM_added2 l E σ t n bs k p ts h) vb_X12_added2 tw_5_191 ⟨rfl, rfl⟩ ⟨Nat.le_of_ble_eq_true rfl, Nat.le_of_ble_eq_true rfl⟩ (by decide) rfl rfl rfl rfl hl.1 rfl (Nat.le_of_ble_eq_true rfl) dX12_not2_53 ⟨Nat.zero_le _, Nat.zero_le _⟩ (fun r5 u6 H locs q7 hP hS => ?_)
    rcases hg8 : (gLevel gAdd (gLevel gTim (gD 3).1)) ((k, p) :: ts) with zz9 | qq10
    · obtain ⟨cs12, ts13⟩ := zz9
      rw [hg8] at q7
      obtain ⟨f11, ⟨k14, p15, ts16, e17, h18⟩, v19⟩ := q7
      have v19 := (mFp.rf σ).evv v19
      refine lv_istore_n (lv' := [(1, .int r5), (0, .ref (mw_a E 0))]) C.1 C.2.1 dX12_not2_56 rfl hl (by decide) rfl (fun ls hl => ?_)
      refine lv_aload_n C.1 C.2.1 dX12_not2_57 rfl (lv_at hl 1 rfl) ?_
      refine lv_bipush (v := 60) C.1 C.2.1 dX12_not2_58 (by decide) ?_
      refine mw_cVi (As := [.int 60]) (rest := []) C Z hP hS (0) (cM_isSignP l E u6 t n bs k14 p15 ts16 2 h18 6 (by decide)) vb_X12_isSign tw_5_141 ⟨rfl, rfl⟩ ⟨Nat.le_of_ble_eq_true rfl, Nat.le_of_ble_eq_true rfl⟩ (by decide) rfl rfl rfl rfl hl.1 rfl (Nat.le_of_ble_eq_true rfl) dX12_not2_60 ⟨Nat.zero_le _, Nat.zero_le _⟩ (fun r21 u22 H locs q23 hP hS => ?_)
      obtain ⟨rfl, q23u⟩ := q23
      rw [q23u] at hP; clear q23u
      refine lv_if_ne (tgt := 77) C.1 C.2.1 dX12_not2_63 (by decide) (fun c24 => ?_) (fun c24 => ?_)
      · have c24 := bI_n.mp c24
        refine lv_aload_n C.1 C.2.1 dX12_not2_77 rfl (lv_at hl 1 rfl) ?_
        refine mw_getl C Z hP (0) 22 (by decide) rfl rfl rfl (by decide) inX12 tw_4_186 dX12_not2_78 ?_
        refine mw_topl (y := 60) (((h18.2.2.2.2.2.1 6 (by decide)).mpr c24).2) ?_
        refine lv_ldc2 (own := RX12) C.1 C.2.1 C.2.2.2.1 (C.2.2.2.2 _ tw_5_150) dX12_not2_81 ?_
        refine W.lcmp C.1 C.2.1 dX12_not2_84 ?_
        refine lv_if_ne (tgt := 92) C.1 C.2.1 dX12_not2_85 (by decide) (fun c25 => ?_) (fun c25 => ?_)
        · have c25 := (not_congr (lg_cmp_eq _ _)).mp c25
          exact absurd c25 (by decide)
        · have c25 := (lg_cmp_eq _ _).mp c25
          refine lv_iconst (v := 1) C.1 C.2.1 dX12_not2_88 (by decide) ?_
          refine lv_goto (tgt := 93) C.1 C.2.1 dX12_not2_89 (by decide) ?_
          refine lv_istore_n (lv' := [(2, .int 1), (1, .int r5), (0, .ref (mw_a E 0))]) C.1 C.2.1 dX12_not2_93 rfl hl (by decide) rfl (fun ls hl => ?_)
          refine lv_aload_n C.1 C.2.1 dX12_not2_94 rfl (lv_at hl 2 rfl) ?_
          refine mw_cVv (As := []) (rest := []) C Z hP hS (0) (cM_nextP l E u6 t n bs k14 p15 ts16 2 h18 (by omega) (by omega)) vb_X12_next tw_5_64 ⟨rfl, rfl⟩ ⟨Nat.le_of_ble_eq_true rfl, Nat.le_of_ble_eq_true rfl⟩ (by decide) rfl rfl rfl rfl hl.1 rfl (Nat.le_of_ble_eq_true rfl) dX12_not2_95 ⟨Nat.zero_le _, Nat.zero_le _⟩ (fun u27 H locs q28 hP hS => ?_)
          obtain ⟨⟨k29, p30, ts31, e32, h33⟩, f34⟩ := q28
          refine lv_aload_n C.1 C.2.1 dX12_not2_98 rfl (lv_at hl 2 rfl) ?_
          refine mw_cVi (As := []) (rest := []) C Z hP hS (0) (cM_added2 l E u27 t n bs k29 p30 ts31 h33) vb_X12_added2 tw_5_191 ⟨rfl, rfl⟩ ⟨Nat.le_of_ble_eq_true rfl, Nat.le_of_ble_eq_true rfl⟩ (by decide) rfl rfl rfl rfl hl.1 rfl (Nat.le_of_ble_eq_true rfl) dX12_not2_99 ⟨Nat.zero_le _, Nat.zero_le _⟩ (fun r35 u36 H locs q37 hP hS => ?_)
          rcases hg38 : (gLevel gAdd (gLevel gTim (gD 3).1)) ((k29, p30) :: ts31) with zz39 | qq40
          · obtain ⟨cs42, ts43⟩ := zz39
            rw [hg38] at q37
            obtain ⟨f41, ⟨k44, p45, ts46, e47, h48⟩, v49⟩ := q37
            have v49 := (((mFp.rf σ).tr f11).tr f34).evv v49
            refine lv_istore_n (lv' := [(3, .int r35), (2, .int 1), (1, .int r5), (0, .ref (mw_a E 0))]) C.1 C.2.1 dX12_not2_102 rfl hl (by decide) rfl (fun ls hl => ?_)
            refine lv_iload_n C.1 C.2.1 dX12_not2_103 rfl (lv_at hl 1 rfl) ?_
            refine lv_if_eq (tgt := 115) C.1 C.2.1 dX12_not2_104 (by decide) (fun c51 => ?_) (fun c51 => ?_)
            · exact absurd c51 (by decide)
            · refine lv_iload_n C.1 C.2.1 dX12_not2_107 rfl (lv_at hl 2 rfl) ?_
              refine lv_iload_n C.1 C.2.1 dX12_not2_108 rfl (lv_at hl 0 rfl) ?_
              refine lv_icmp_ge (tgt := 124) C.1 C.2.1 dX12_not2_109 (by decide) (fun c52 => ?_) (fun c52 => ?_)
              · refine lv_iconst (v := 0) C.1 C.2.1 dX12_not2_124 (by decide) ?_
                exact mw_iret C hr hlk Z hP hS dX12_not2_125 (⟨((((mFp.rf σ).tr f11).tr f34).tr f41), by rw [gN_3, gNot_n (by omega), gCmp_2I (by rw [← e17]; exact hg8) (by omega) (by rw [e32]; exact hg38)]; exact ⟨⟨k44, p45, ts46, e47, h48⟩, by have z := ruV_op (c := k14) v19 v49 (by omega); rwa [show opF k14 r5 r35 = 0 by rw [c24]; exact bI_f (by rw [ni_le] at c52; rw [ni_lt]; omega)] at z⟩⟩)
              · refine lv_goto (tgt := 120) C.1 C.2.1 dX12_not2_112 (by decide) ?_
                refine lv_iconst (v := 1) C.1 C.2.1 dX12_not2_120 (by decide) ?_
                refine lv_goto (tgt := 125) C.1 C.2.1 dX12_not2_121 (by decide) ?_
                exact mw_iret C hr hlk Z hP hS dX12_not2_125 (⟨((((mFp.rf σ).tr f11).tr f34).tr f41), by rw [gN_3, gNot_n (by omega), gCmp_2I (by rw [← e17]; exact hg8) (by omega) (by rw [e32]; exact hg38)]; exact ⟨⟨k44, p45, ts46, e47, h48⟩, by have z := ruV_op (c := k14) v19 v49 (by omega); rwa [show opF k14 r5 r35 = 1 by rw [c24]; exact bI_t (by rw [ni_le] at c52; rw [ni_lt]; omega)] at z⟩⟩)
          · rw [hg38] at q37
            obtain ⟨f41, hb50⟩ := q37
            refine lv_istore_n (lv' := [(3, .int r35), (2, .int 1), (1, .int r5), (0, .ref (mw_a E 0))]) C.1 C.2.1 dX12_not2_102 rfl hl (by decide) rfl (fun ls hl => ?_)
            refine lv_iload_n C.1 C.2.1 dX12_not2_103 rfl (lv_at hl 1 rfl) ?_
            refine lv_if_eq (tgt := 115) C.1 C.2.1 dX12_not2_104 (by decide) (fun c53 => ?_) (fun c53 => ?_)
            · exact absurd c53 (by decide)
            · refine lv_iload_n C.1 C.2.1 dX12_not2_107 rfl (lv_at hl 2 rfl) ?_
              refine lv_iload_n C.1 C.2.1 dX12_not2_108 rfl (lv_at hl 0 rfl) ?_
              refine lv_icmp_ge (tgt := 124) C.1 C.2.1 dX12_not2_109 (by decide) (fun c54 => ?_) (fun c54 => ?_)
              · refine lv_iconst (v := 0) C.1 C.2.1 dX12_not2_124 (by decide) ?_
                exact mw_iret C hr hlk Z hP hS dX12_not2_125 (⟨((((mFp.rf σ).tr f11).tr f34).tr f41), by rw [gN_3, gNot_n (by omega), gCmp_2F (by rw [← e17]; exact hg8) (by omega) (by rw [e32]; exact hg38)]; exact hb50⟩)
              · refine lv_goto (tgt := 120) C.1 C.2.1 dX12_not2_112 (by decide) ?_
                refine lv_iconst (v := 1) C.1 C.2.1 dX12_not2_120 (by decide) ?_
                refine lv_goto (tgt := 125) C.1 C.2.1 dX12_not2_121 (by decide) ?_
                exact mw_iret C hr hlk Z hP hS dX12_not2_125 (⟨((((mFp.rf σ).tr f11).tr f34).tr f41), by rw [gN_3, gNot_n (by omega), gCmp_2F (by rw [← e17]; exact hg8) (by omega) (by rw [e32]; exact hg38)]; exact hb50⟩)
      · have c24 := bI_0.mp c24
        refine lv_aload_n C.1 C.2.1 dX12_not2_66 rfl (lv_at hl 1 rfl) ?_
        refine lv_bipush (v := 61) C.1 C.2.1 dX12_not2_67 (by decide) ?_
        refine mw_cVi (As := [.int 61]) (rest := []) C Z hP hS (0) (cM_isSignP l E u6 t n bs k14 p15 ts16 2 h18 7 (by decide)) vb_X12_isSign tw_5_141 ⟨rfl, rfl⟩ ⟨Nat.le_of_ble_eq_true rfl, Nat.le_of_ble_eq_true rfl⟩ (by decide) rfl rfl rfl rfl hl.1 rfl (Nat.le_of_ble_eq_true rfl) dX12_not2_69 ⟨Nat.zero_le _, Nat.zero_le _⟩ (fun r55 u56 H locs q57 hP hS => ?_)
        obtain ⟨rfl, q57u⟩ := q57
        rw [q57u] at hP; clear q57u
        refine lv_if_ne (tgt := 77) C.1 C.2.1 dX12_not2_72 (by decide) (fun c58 => ?_) (fun c58 => ?_)
        · have c58 := bI_n.mp c58
          refine lv_aload_n C.1 C.2.1 dX12_not2_77 rfl (lv_at hl 1 rfl) ?_
          refine mw_getl C Z hP (0) 22 (by decide) rfl rfl rfl (by decide) inX12 tw_4_186 dX12_not2_78 ?_
          refine mw_topl (y := 61) (((h18.2.2.2.2.2.1 7 (by decide)).mpr c58).2) ?_
          refine lv_ldc2 (own := RX12) C.1 C.2.1 C.2.2.2.1 (C.2.2.2.2 _ tw_5_150) dX12_not2_81 ?_
          refine W.lcmp C.1 C.2.1 dX12_not2_84 ?_
          refine lv_if_ne (tgt := 92) C.1 C.2.1 dX12_not2_85 (by decide) (fun c59 => ?_) (fun c59 => ?_)
          · have c59 := (not_congr (lg_cmp_eq _ _)).mp c59
            refine lv_iconst (v := 0) C.1 C.2.1 dX12_not2_92 (by decide) ?_
            refine lv_istore_n (lv' := [(2, .int 0), (1, .int r5), (0, .ref (mw_a E 0))]) C.1 C.2.1 dX12_not2_93 rfl hl (by decide) rfl (fun ls hl => ?_)
            refine lv_aload_n C.1 C.2.1 dX12_not2_94 rfl (lv_at hl 2 rfl) ?_
            refine mw_cVv (As := []) (rest := []) C Z hP hS (0) (cM_nextP l E u6 t n bs k14 p15 ts16 2 h18 (by omega) (by omega)) vb_X12_next tw_5_64 ⟨rfl, rfl⟩ ⟨Nat.le_of_ble_eq_true rfl, Nat.le_of_ble_eq_true rfl⟩ (by decide) rfl rfl rfl rfl hl.1 rfl (Nat.le_of_ble_eq_true rfl) dX12_not2_95 ⟨Nat.zero_le _, Nat.zero_le _⟩ (fun u61 H locs q62 hP hS => ?_)
            obtain ⟨⟨k63, p64, ts65, e66, h67⟩, f68⟩ := q62
            refine lv_aload_n C.1 C.2.1 dX12_not2_98 rfl (lv_at hl 2 rfl) ?_
            refine mw_cVi (As := []) (rest := []) C Z hP hS (0) (cM_added2 l E u61 t n bs k63 p64 ts65 h67) vb_X12_added2 tw_5_191 ⟨rfl, rfl⟩ ⟨Nat.le_of_ble_eq_true rfl, Nat.le_of_ble_eq_true rfl⟩ (by decide) rfl rfl rfl rfl hl.1 rfl (Nat.le_of_ble_eq_true rfl) dX12_not2_99 ⟨Nat.zero_le _, Nat.zero_le _⟩ (fun r69 u70 H locs q71 hP hS => ?_)
            rcases hg72 : (gLevel gAdd (gLevel gTim (gD 3).1)) ((k63, p64) :: ts65) with zz73 | qq74
            · obtain ⟨cs76, ts77⟩ := zz73
              rw [hg72] at q71
              obtain ⟨f75, ⟨k78, p79, ts80, e81, h82⟩, v83⟩ := q71
              have v83 := (((mFp.rf σ).tr f11).tr f68).evv v83
              refine lv_istore_n (lv' := [(3, .int r69), (2, .int 0), (1, .int r5), (0, .ref (mw_a E 0))]) C.1 C.2.1 dX12_not2_102 rfl hl (by decide) rfl (fun ls hl => ?_)
              refine lv_iload_n C.1 C.2.1 dX12_not2_103 rfl (lv_at hl 1 rfl) ?_
              refine lv_if_eq (tgt := 115) C.1 C.2.1 dX12_not2_104 (by decide) (fun c85 => ?_) (fun c85 => ?_)
              · refine lv_iload_n C.1 C.2.1 dX12_not2_115 rfl (lv_at hl 2 rfl) ?_
                refine lv_iload_n C.1 C.2.1 dX12_not2_116 rfl (lv_at hl 0 rfl) ?_
                refine lv_icmp_ne (tgt := 124) C.1 C.2.1 dX12_not2_117 (by decide) (fun c86 => ?_) (fun c86 => ?_)
                · refine lv_iconst (v := 0) C.1 C.2.1 dX12_not2_124 (by decide) ?_
                  exact mw_iret C hr hlk Z hP hS dX12_not2_125 (⟨((((mFp.rf σ).tr f11).tr f68).tr f75), by rw [gN_3, gNot_n (by omega), gCmp_2I (by rw [← e17]; exact hg8) (by omega) (by rw [e66]; exact hg72)]; exact ⟨⟨k78, p79, ts80, e81, h82⟩, by have z := ruV_op (c := k14) v19 v83 (by omega); rwa [show opF k14 r5 r69 = 0 by rw [c58]; exact bI_f c86] at z⟩⟩)
                · refine lv_iconst (v := 1) C.1 C.2.1 dX12_not2_120 (by decide) ?_
                  refine lv_goto (tgt := 125) C.1 C.2.1 dX12_not2_121 (by decide) ?_
                  exact mw_iret C hr hlk Z hP hS dX12_not2_125 (⟨((((mFp.rf σ).tr f11).tr f68).tr f75), by rw [gN_3, gNot_n (by omega), gCmp_2I (by rw [← e17]; exact hg8) (by omega) (by rw [e66]; exact hg72)]; exact ⟨⟨k78, p79, ts80, e81, h82⟩, by have z := ruV_op (c := k14) v19 v83 (by omega); rwa [show opF k14 r5 r69 = 1 by rw [c58]; exact bI_t c86] at z⟩⟩)
              · exact absurd c85 (by decide)
            · rw [hg72] at q71
              obtain ⟨f75, hb84⟩ := q71
              refine lv_istore_n (lv' := [(3, .int r69), (2, .int 0), (1, .int r5), (0, .ref (mw_a E 0))]) C.1 C.2.1 dX12_not2_102 rfl hl (by decide) rfl (fun ls hl => ?_)
              refine lv_iload_n C.1 C.2.1 dX12_not2_103 rfl (lv_at hl 1 rfl) ?_
              refine lv_if_eq (tgt := 115) C.1 C.2.1 dX12_not2_104 (by decide) (fun c87 => ?_) (fun c87 => ?_)
              · refine lv_iload_n C.1 C.2.1 dX12_not2_115 rfl (lv_at hl 2 rfl) ?_
                refine lv_iload_n C.1 C.2.1 dX12_not2_116 rfl (lv_at hl 0 rfl) ?_
                refine lv_icmp_ne (tgt := 124) C.1 C.2.1 dX12_not2_117 (by decide) (fun c88 => ?_) (fun c88 => ?_)
                · refine lv_iconst (v := 0) C.1 C.2.1 dX12_not2_124 (by decide) ?_
                  exact mw_iret C hr hlk Z hP hS dX12_not2_125 (⟨((((mFp.rf σ).tr f11).tr f68).tr f75), by rw [gN_3, gNot_n (by omega), gCmp_2F (by rw [← e17]; exact hg8) (by omega) (by rw [e66]; exact hg72)]; exact hb84⟩)
                · refine lv_iconst (v := 1) C.1 C.2.1 dX12_not2_120 (by decide) ?_
                  refine lv_goto (tgt := 125) C.1 C.2.1 dX12_not2_121 (by decide) ?_
                  exact mw_iret C hr hlk Z hP hS dX12_not2_125 (⟨((((mFp.rf σ).tr f11).tr f68).tr f75), by rw [gN_3, gNot_n (by omega), gCmp_2F (by rw [← e17]; exact hg8) (by omega) (by rw [e66]; exact hg72)]; exact hb84⟩)
              · exact absurd c87 (by decide)
          · have c59 := (lg_cmp_eq _ _).mp c59
            exact absurd c59 (by decide)
        · have c58 := bI_0.mp c58
          refine lv_iload_n C.1 C.2.1 dX12_not2_75 rfl (lv_at hl 0 rfl) ?_
          exact mw_iret C hr hlk Z hP hS dX12_not2_76 (⟨((mFp.rf σ).tr f11), by rw [gN_3, gNot_n (by omega), gCmp_1 (by rw [← e17]; exact hg8) (by omega)]; exact ⟨⟨k14, p15, ts16, rfl, h18⟩, v19⟩⟩)
    · rw [hg8] at q7
      obtain ⟨f11, hb20⟩ := q7
      refine lv_istore_n (lv' := [(1, .int r5), (0, .ref (mw_a E 0))]) C.1 C.2.1 dX12_not2_56 rfl hl (by decide) rfl (fun ls hl => ?_)
      refine lv_aload_n C.1 C.2.1 dX12_not2_57 rfl (lv_at hl 1 rfl) ?_
      refine lv_bipush (v := 60) C.1 C.2.1 dX12_not2_58 (by decide) ?_
      refine mw_cVi (As := [.int 60]) (rest := []) C Z hP hS (0) (cM_isSignB l E u6 60 hb20.1) vb_X12_isSign tw_5_141 ⟨rfl, rfl⟩ ⟨Nat.le_of_ble_eq_true rfl, Nat.le_of_ble_eq_true rfl⟩ (by decide) rfl rfl rfl rfl hl.1 rfl (Nat.le_of_ble_eq_true rfl) dX12_not2_60 ⟨Nat.zero_le _, Nat.zero_le _⟩ (fun r89 u90 H locs q91 hP hS => ?_)
      obtain ⟨rfl, q91u⟩ := q91
      rw [q91u] at hP; clear q91u
      refine lv_if_ne (tgt := 77) C.1 C.2.1 dX12_not2_63 (by decide) (fun c92 => ?_) (fun c92 => ?_)
      · exact absurd c92 (by decide)
      · refine lv_aload_n C.1 C.2.1 dX12_not2_66 rfl (lv_at hl 1 rfl) ?_
        refine lv_bipush (v := 61) C.1 C.2.1 dX12_not2_67 (by decide) ?_
        refine mw_cVi (As := [.int 61]) (rest := []) C Z hP hS (0) (cM_isSignB l E u6 61 hb20.1) vb_X12_isSign tw_5_141 ⟨rfl, rfl⟩ ⟨Nat.le_of_ble_eq_true rfl, Nat.le_of_ble_eq_true rfl⟩ (by decide) rfl rfl rfl rfl hl.1 rfl (Nat.le_of_ble_eq_true rfl) dX12_not2_69 ⟨Nat.zero_le _, Nat.zero_le _⟩ (fun r93 u94 H locs q95 hP hS => ?_)
        obtain ⟨rfl, q95u⟩ := q95
        rw [q95u] at hP; clear q95u
        refine lv_if_ne (tgt := 77) C.1 C.2.1 dX12_not2_72 (by decide) (fun c96 => ?_) (fun c96 => ?_)
        · exact absurd c96 (by decide)
        · refine lv_iload_n C.1 C.2.1 dX12_not2_75 rfl (lv_at hl 0 rfl) ?_
          exact mw_iret C hr hlk Z hP hS dX12_not2_76 (⟨((mFp.rf σ).tr f11), by rw [gN_3, gNot_n (by omega), gCmp_F hg8]; exact hb20⟩)
  · have c4 := bI_n.mp c4
    refine lv_aload_n C.1 C.2.1 dX12_not2_18 rfl (lv_at hl 0 rfl) ?_
    refine mw_cVi (As := []) (rest := []) C Z hP hS (0) (cM_opens l E σ t n bs k p ts 2 (by decide) h (by omega) (by omega)) vb_X12_opens tw_5_105 ⟨rfl, rfl⟩ ⟨Nat.le_of_ble_eq_true rfl, Nat.le_of_ble_eq_true rfl⟩ (by decide) rfl rfl rfl rfl hl.1 rfl (Nat.le_of_ble_eq_true rfl) dX12_not2_19 ⟨Nat.zero_le _, Nat.zero_le _⟩ (fun r97 u98 H locs q99 hP hS => ?_)
    obtain ⟨rfl, ⟨k100, p101, ts102, e103, h104⟩, f105⟩ := q99
    refine lv_if_ne (tgt := 27) C.1 C.2.1 dX12_not2_22 (by decide) (fun c106 => ?_) (fun c106 => ?_)
    · refine lv_aload_n C.1 C.2.1 dX12_not2_27 rfl (lv_at hl 0 rfl) ?_
      refine mw_cVi (As := []) (rest := []) C Z hP hS (0) (cM_not3 l E u98 t n bs k100 p101 ts102 h104) vb_X12_not3 tw_5_117 ⟨rfl, rfl⟩ ⟨Nat.le_of_ble_eq_true rfl, Nat.le_of_ble_eq_true rfl⟩ (by decide) rfl rfl rfl rfl hl.1 rfl (Nat.le_of_ble_eq_true rfl) dX12_not2_28 ⟨Nat.zero_le _, Nat.zero_le _⟩ (fun r107 u108 H locs q109 hP hS => ?_)
      rcases hg110 : ((gD 2).2.1) ((k100, p101) :: ts102) with zz111 | qq112
      · obtain ⟨cs114, ts115⟩ := zz111
        rw [hg110] at q109
        obtain ⟨f113, ⟨k116, p117, ts118, e119, h120⟩, v121⟩ := q109
        have v121 := ((mFp.rf σ).tr f105).evv v121
        refine lv_istore_n (lv' := [(1, .int r107), (0, .ref (mw_a E 0))]) C.1 C.2.1 dX12_not2_31 rfl hl (by decide) rfl (fun ls hl => ?_)
        refine lv_aload_n C.1 C.2.1 dX12_not2_32 rfl (lv_at hl 1 rfl) ?_
        refine lv_dup C.1 C.2.1 dX12_not2_33 rfl ?_
        refine mw_geti C Z hP (0) 23 (by decide) rfl rfl rfl (by decide) inX12 tw_4_187 dX12_not2_34 ?_
        refine mw_top (y := nI 3) (h120.2.2.1) ?_
        refine lv_iconst (v := 1) C.1 C.2.1 dX12_not2_37 (by decide) ?_
        refine lv_isub C.1 C.2.1 dX12_not2_38 ?_
        refine mw_top (y := nI 2) (by decide) ?_
        refine mw_puti C Z hP hS (0) 23 (by decide) rfl rfl rfl (by decide) inX12 tyX12 tyX12_ok nmX12 rfl tw_4_187 rfl rfl dX12_not2_39 (fun H locs hP hS => ?_)
        have h123 : mPS (mw_si u108 0 23 (nI 2)) t n bs k116 p117 ts118 2 := ⟨h120.1, h120.2.1, rfl, h120.2.2.2⟩
        refine lv_iload_n C.1 C.2.1 dX12_not2_42 rfl (lv_at hl 0 rfl) ?_
        refine lv_if_ne (tgt := 50) C.1 C.2.1 dX12_not2_43 (by decide) (fun c124 => ?_) (fun c124 => ?_)
        · refine lv_iconst (v := 0) C.1 C.2.1 dX12_not2_50 (by decide) ?_
          exact mw_iret C hr hlk Z hP hS dX12_not2_51 (⟨((((mFp.rf σ).tr f105).tr f113).si (by decide) _), by rw [gN_3, gNot_I (by omega) (by rw [e103]; exact hg110)]; exact ⟨⟨k116, p117, ts118, e119, h123⟩, by have z := ruV_not v121; rwa [show bI (r107 = 0) = 0 by simp [bI, c124]] at z⟩⟩)
        · refine lv_iconst (v := 1) C.1 C.2.1 dX12_not2_46 (by decide) ?_
          refine lv_goto (tgt := 51) C.1 C.2.1 dX12_not2_47 (by decide) ?_
          exact mw_iret C hr hlk Z hP hS dX12_not2_51 (⟨((((mFp.rf σ).tr f105).tr f113).si (by decide) _), by rw [gN_3, gNot_I (by omega) (by rw [e103]; exact hg110)]; exact ⟨⟨k116, p117, ts118, e119, h123⟩, by have z := ruV_not v121; rwa [show bI (r107 = 0) = 1 by simp [bI, c124]] at z⟩⟩)
      · rw [hg110] at q109
        obtain ⟨f113, hb122⟩ := q109
        refine lv_istore_n (lv' := [(1, .int r107), (0, .ref (mw_a E 0))]) C.1 C.2.1 dX12_not2_31 rfl hl (by decide) rfl (fun ls hl => ?_)
        refine lv_aload_n C.1 C.2.1 dX12_not2_32 rfl (lv_at hl 1 rfl) ?_
        refine lv_dup C.1 C.2.1 dX12_not2_33 rfl ?_
        refine mw_geti C Z hP (0) 23 (by decide) rfl rfl rfl (by decide) inX12 tw_4_187 dX12_not2_34 ?_
        refine lv_iconst (v := 1) C.1 C.2.1 dX12_not2_37 (by decide) ?_
        refine lv_isub C.1 C.2.1 dX12_not2_38 ?_
        refine mw_puti C Z hP hS (0) 23 (by decide) rfl rfl rfl (by decide) inX12 tyX12 tyX12_ok nmX12 rfl tw_4_187 rfl rfl dX12_not2_39 (fun H locs hP hS => ?_)
        have hb125 : mBd (mw_si u108 0 23 ((u108.1 0 23) - 1)) qq112 := hb122
        refine lv_iload_n C.1 C.2.1 dX12_not2_42 rfl (lv_at hl 0 rfl) ?_
        refine lv_if_ne (tgt := 50) C.1 C.2.1 dX12_not2_43 (by decide) (fun c126 => ?_) (fun c126 => ?_)
        · refine lv_iconst (v := 0) C.1 C.2.1 dX12_not2_50 (by decide) ?_
          exact mw_iret C hr hlk Z hP hS dX12_not2_51 (⟨((((mFp.rf σ).tr f105).tr f113).si (by decide) _), by rw [gN_3, gNot_F (by omega) (by rw [e103]; exact hg110)]; exact hb125⟩)
        · refine lv_iconst (v := 1) C.1 C.2.1 dX12_not2_46 (by decide) ?_
          refine lv_goto (tgt := 51) C.1 C.2.1 dX12_not2_47 (by decide) ?_
          exact mw_iret C hr hlk Z hP hS dX12_not2_51 (⟨((((mFp.rf σ).tr f105).tr f113).si (by decide) _), by rw [gN_3, gNot_F (by omega) (by rw [e103]; exact hg110)]; exact hb125⟩)
    · exact absurd c106 (by decide)

set_option maxHeartbeats 4000000 in
set_option maxRecDepth 100000 in
theorem cM_both2 (l : Launch) (E : mw_E) (σ : mw_M) (t n : Nat) (bs : Nat → Int32) (k p : Nat) (ts : List (Nat × Nat)) (h : mPS σ t n bs k p ts 2) : mw_Ci shM 13 gM l yX12_both2 cX12_both2 3 (some .int) (rmF 26 575) E [.ref (mw_a E 0)] σ (fun r u => mOK σ u t n bs 2 r (gLevel gAnd (gD 3).2.1 ((k, p) :: ts))) := by
  refine mw_of (by decide) gM_ok (Nat.le_of_ble_eq_true rfl) ?_
  intro p_ e_ s_ m_ below meth c_ C hr hlk Z hP ls hl
  have C : CallFix p_ m_ c_ cX12_both2 3 s_ _ lw_good RX12 := C
  have hl : lv_has ls 3 [(0, .ref (mw_a E 0))] := hl
  have hS : va_S (mw_A 13 E) s_.heap s_.heap [] := va_S.rf
  refine lv_aload_n C.1 C.2.1 dX12_both2_0 rfl (lv_at hl 0 rfl) ?_
  refine mw_cVi (As := []) (rest := []) C Z hP hS (0) (cM_not2 l E σ t n bs k p ts h) vb_X12_not2 tw_5_113 ⟨rfl, rfl⟩ ⟨Nat.le_of_ble_eq_true rfl, Nat.le_of_ble_eq_true rfl⟩ (by decide) rfl rfl rfl rfl hl.1 rfl (Nat.le_of_ble_eq_true rfl) dX12_both2_1 ⟨Nat.zero_le _, Nat.zero_le _⟩ (fun r1 u2 H locs q3 hP hS => ?_)
  rcases hg4 : ((gD 3).2.1) ((k, p) :: ts) with zz5 | qq6
  · obtain ⟨cs8, ts9⟩ := zz5
    rw [hg4] at q3
    obtain ⟨f7, ⟨k10, p11, ts12, e13, h14⟩, v15⟩ := q3
    have v15 := (mFp.rf σ).evv v15
    refine lv_istore_n (lv' := [(1, .int r1), (0, .ref (mw_a E 0))]) C.1 C.2.1 dX12_both2_4 rfl hl (by decide) rfl (fun ls hl => ?_)
    have lp : ∀ (N : Nat) (cs : List Nat) (k2 p2 : Nat) (ts2 : List (Nat × Nat)) (v : Int32) (ς : mw_M) (H : Heap) (locs : List Loc), ts2.length + 1 ≤ N → mPS ς t n bs k2 p2 ts2 2 → mFp σ ς → ruV (mEv σ) cs v → gLevel gAnd (gD 3).2.1 ((k, p) :: ts) = gLoop gAnd ((gD 3).2.1) N cs ((k2, p2) :: ts2) → va_P (mw_D E) vwCl (mw_ws shM 13 E ς) H → va_S (mw_A 13 E) s_.heap H locs → ∀ (ls : Array Slot), lv_has ls 3 [(0, .ref (mw_a E 0)), (1, .int v)] → mWi p_ l e_ (rmF 26 575) s_ m_ [.ref (mw_a E 0)] below meth c_ E (fun r u => mOK σ u t n bs 2 r (gLevel gAnd (gD 3).2.1 ((k, p) :: ts))) H locs (F0 m_ 5 ls []) := by
      intro N
      induction N with
      | zero => intro cs k2 p2 ts2 v ς H locs hN; exact absurd hN (by omega)
      | succ N ih =>
        intro cs k2 p2 ts2 v ς H locs hN h2 f2 hv hR hP hS ls hl
        refine lv_aload_n C.1 C.2.1 dX12_both2_5 rfl (lv_at hl 0 rfl) ?_
        refine lv_bipush (v := 97) C.1 C.2.1 dX12_both2_6 (by decide) ?_
        refine lv_bipush (v := 110) C.1 C.2.1 dX12_both2_8 (by decide) ?_
        refine lv_bipush (v := 100) C.1 C.2.1 dX12_both2_10 (by decide) ?_
        refine lv_iconst (v := 0) C.1 C.2.1 dX12_both2_12 (by decide) ?_
        refine lv_iconst (v := 0) C.1 C.2.1 dX12_both2_13 (by decide) ?_
        refine lv_iconst (v := 0) C.1 C.2.1 dX12_both2_14 (by decide) ?_
        refine lv_iconst (v := 0) C.1 C.2.1 dX12_both2_15 (by decide) ?_
        refine lv_iconst (v := 0) C.1 C.2.1 dX12_both2_16 (by decide) ?_
        refine mw_cVi (As := [.int 97, .int 110, .int 100, .int 0, .int 0, .int 0, .int 0, .int 0]) (rest := []) C Z hP hS (0) (cM_isWordP l E ς t n bs k2 p2 ts2 2 h2 10 (by decide)) vb_X12_isWord tw_5_77 ⟨rfl, rfl⟩ ⟨Nat.le_of_ble_eq_true rfl, Nat.le_of_ble_eq_true rfl⟩ (by decide) rfl rfl rfl rfl hl.1 rfl (Nat.le_of_ble_eq_true rfl) dX12_both2_17 ⟨Nat.zero_le _, Nat.zero_le _⟩ (fun r17 u18 H locs q19 hP hS => ?_)
        obtain ⟨rfl, q19u⟩ := q19
        rw [q19u] at hP; clear q19u
        refine lv_if_eq (tgt := 49) C.1 C.2.1 dX12_both2_20 (by decide) (fun c20 => ?_) (fun c20 => ?_)
        · have c20 := bI_0.mp c20
          refine lv_iload_n C.1 C.2.1 dX12_both2_49 rfl (lv_at hl 1 rfl) ?_
          exact mw_iret C hr hlk Z hP hS dX12_both2_50 (⟨f2, by rw [hR, gLoop_e (by simp only [gTim, gAdd, gAnd, gOr, beq_iff_eq, Bool.or_eq_true]; omega)]; exact ⟨⟨k2, p2, ts2, rfl, h2⟩, hv⟩⟩)
        · have c20 := bI_n.mp c20
          refine lv_aload_n C.1 C.2.1 dX12_both2_23 rfl (lv_at hl 0 rfl) ?_
          refine mw_cVv (As := []) (rest := []) C Z hP hS (0) (cM_nextP l E ς t n bs k2 p2 ts2 2 h2 (by omega) (by omega)) vb_X12_next tw_5_64 ⟨rfl, rfl⟩ ⟨Nat.le_of_ble_eq_true rfl, Nat.le_of_ble_eq_true rfl⟩ (by decide) rfl rfl rfl rfl hl.1 rfl (Nat.le_of_ble_eq_true rfl) dX12_both2_24 ⟨Nat.zero_le _, Nat.zero_le _⟩ (fun u22 H locs q23 hP hS => ?_)
          obtain ⟨⟨k24, p25, ts26, e27, h28⟩, f29⟩ := q23
          refine lv_aload_n C.1 C.2.1 dX12_both2_27 rfl (lv_at hl 0 rfl) ?_
          refine mw_cVi (As := []) (rest := []) C Z hP hS (0) (cM_not2 l E u22 t n bs k24 p25 ts26 h28) vb_X12_not2 tw_5_113 ⟨rfl, rfl⟩ ⟨Nat.le_of_ble_eq_true rfl, Nat.le_of_ble_eq_true rfl⟩ (by decide) rfl rfl rfl rfl hl.1 rfl (Nat.le_of_ble_eq_true rfl) dX12_both2_28 ⟨Nat.zero_le _, Nat.zero_le _⟩ (fun r30 u31 H locs q32 hP hS => ?_)
          rcases hg33 : ((gD 3).2.1) ((k24, p25) :: ts26) with zz34 | qq35
          · obtain ⟨cs37, ts38⟩ := zz34
            rw [hg33] at q32
            obtain ⟨f36, ⟨k39, p40, ts41, e42, h43⟩, v44⟩ := q32
            have v44 := (f2.tr f29).evv v44
            refine lv_istore_n (lv' := [(2, .int r30), (0, .ref (mw_a E 0)), (1, .int v)]) C.1 C.2.1 dX12_both2_31 rfl hl (by decide) rfl (fun ls hl => ?_)
            refine lv_iload_n C.1 C.2.1 dX12_both2_32 rfl (lv_at hl 2 rfl) ?_
            refine lv_if_eq (tgt := 44) C.1 C.2.1 dX12_both2_33 (by decide) (fun c46 => ?_) (fun c46 => ?_)
            · refine lv_iconst (v := 0) C.1 C.2.1 dX12_both2_44 (by decide) ?_
              refine lv_istore_n (lv' := [(1, .int 0), (2, .int r30), (0, .ref (mw_a E 0))]) C.1 C.2.1 dX12_both2_45 rfl hl (by decide) rfl (fun ls hl => ?_)
              refine lv_goto (tgt := 5) C.1 C.2.1 dX12_both2_46 (by decide) ?_
              exact ih (cs ++ cs37 ++ [k2]) k39 p40 ts41 0 u31 _ _ (by have d := (gD_dec 3).2.1 _ _ _ hg33; rw [e42, List.length_cons, List.length_cons] at d; rw [e27, List.length_cons] at hN; omega) h43 ((f2.tr f29).tr f36) (by have z := ruV_op (c := k2) hv v44 (by omega); rwa [show opF k2 v r30 = 0 by rw [c20]; simp [opF, bI, c46]] at z) (by rw [hR, gLoop_s (by simp only [gTim, gAdd, gAnd, gOr, beq_iff_eq, Bool.or_eq_true]; omega) (by rw [e27]; exact hg33), e42]) hP hS ls (lv_sub hl [2, 0] rfl)
            · refine lv_iload_n C.1 C.2.1 dX12_both2_36 rfl (lv_at hl 0 rfl) ?_
              refine lv_if_eq (tgt := 44) C.1 C.2.1 dX12_both2_37 (by decide) (fun c47 => ?_) (fun c47 => ?_)
              · refine lv_iconst (v := 0) C.1 C.2.1 dX12_both2_44 (by decide) ?_
                refine lv_istore_n (lv' := [(1, .int 0), (2, .int r30), (0, .ref (mw_a E 0))]) C.1 C.2.1 dX12_both2_45 rfl hl (by decide) rfl (fun ls hl => ?_)
                refine lv_goto (tgt := 5) C.1 C.2.1 dX12_both2_46 (by decide) ?_
                exact ih (cs ++ cs37 ++ [k2]) k39 p40 ts41 0 u31 _ _ (by have d := (gD_dec 3).2.1 _ _ _ hg33; rw [e42, List.length_cons, List.length_cons] at d; rw [e27, List.length_cons] at hN; omega) h43 ((f2.tr f29).tr f36) (by have z := ruV_op (c := k2) hv v44 (by omega); rwa [show opF k2 v r30 = 0 by rw [c20]; simp [opF, bI, c46, c47]] at z) (by rw [hR, gLoop_s (by simp only [gTim, gAdd, gAnd, gOr, beq_iff_eq, Bool.or_eq_true]; omega) (by rw [e27]; exact hg33), e42]) hP hS ls (lv_sub hl [2, 0] rfl)
              · refine lv_iconst (v := 1) C.1 C.2.1 dX12_both2_40 (by decide) ?_
                refine lv_goto (tgt := 45) C.1 C.2.1 dX12_both2_41 (by decide) ?_
                refine lv_istore_n (lv' := [(1, .int 1), (2, .int r30), (0, .ref (mw_a E 0))]) C.1 C.2.1 dX12_both2_45 rfl hl (by decide) rfl (fun ls hl => ?_)
                refine lv_goto (tgt := 5) C.1 C.2.1 dX12_both2_46 (by decide) ?_
                exact ih (cs ++ cs37 ++ [k2]) k39 p40 ts41 1 u31 _ _ (by have d := (gD_dec 3).2.1 _ _ _ hg33; rw [e42, List.length_cons, List.length_cons] at d; rw [e27, List.length_cons] at hN; omega) h43 ((f2.tr f29).tr f36) (by have z := ruV_op (c := k2) hv v44 (by omega); rwa [show opF k2 v r30 = 1 by rw [c20]; simp [opF, bI, c46, c47]] at z) (by rw [hR, gLoop_s (by simp only [gTim, gAdd, gAnd, gOr, beq_iff_eq, Bool.or_eq_true]; omega) (by rw [e27]; exact hg33), e42]) hP hS ls (lv_sub hl [2, 0] rfl)
          · rw [hg33] at q32
            obtain ⟨f36, hb45⟩ := q32
            refine lv_istore_n (lv' := [(2, .int r30), (0, .ref (mw_a E 0)), (1, .int v)]) C.1 C.2.1 dX12_both2_31 rfl hl (by decide) rfl (fun ls hl => ?_)
            refine lv_iload_n C.1 C.2.1 dX12_both2_32 rfl (lv_at hl 2 rfl) ?_
            refine lv_if_eq (tgt := 44) C.1 C.2.1 dX12_both2_33 (by decide) (fun c48 => ?_) (fun c48 => ?_)
            · refine lv_iconst (v := 0) C.1 C.2.1 dX12_both2_44 (by decide) ?_
              refine lv_istore_n (lv' := [(1, .int 0), (2, .int r30), (0, .ref (mw_a E 0))]) C.1 C.2.1 dX12_both2_45 rfl hl (by decide) rfl (fun ls hl => ?_)
              refine lv_goto (tgt := 5) C.1 C.2.1 dX12_both2_46 (by decide) ?_
              refine lv_aload_n C.1 C.2.1 dX12_both2_5 rfl (lv_at hl 2 rfl) ?_
              refine lv_bipush (v := 97) C.1 C.2.1 dX12_both2_6 (by decide) ?_
              refine lv_bipush (v := 110) C.1 C.2.1 dX12_both2_8 (by decide) ?_
              refine lv_bipush (v := 100) C.1 C.2.1 dX12_both2_10 (by decide) ?_
              refine lv_iconst (v := 0) C.1 C.2.1 dX12_both2_12 (by decide) ?_
              refine lv_iconst (v := 0) C.1 C.2.1 dX12_both2_13 (by decide) ?_
              refine lv_iconst (v := 0) C.1 C.2.1 dX12_both2_14 (by decide) ?_
              refine lv_iconst (v := 0) C.1 C.2.1 dX12_both2_15 (by decide) ?_
              refine lv_iconst (v := 0) C.1 C.2.1 dX12_both2_16 (by decide) ?_
              refine mw_cVi (As := [.int 97, .int 110, .int 100, .int 0, .int 0, .int 0, .int 0, .int 0]) (rest := []) C Z hP hS (0) (cM_isWordB l E u31 hb45.1 97 110 100 0 0 0 0 0) vb_X12_isWord tw_5_77 ⟨rfl, rfl⟩ ⟨Nat.le_of_ble_eq_true rfl, Nat.le_of_ble_eq_true rfl⟩ (by decide) rfl rfl rfl rfl hl.1 rfl (Nat.le_of_ble_eq_true rfl) dX12_both2_17 ⟨Nat.zero_le _, Nat.zero_le _⟩ (fun r49 u50 H locs q51 hP hS => ?_)
              obtain ⟨rfl, q51u⟩ := q51
              rw [q51u] at hP; clear q51u
              refine lv_if_eq (tgt := 49) C.1 C.2.1 dX12_both2_20 (by decide) (fun c52 => ?_) (fun c52 => ?_)
              · refine lv_iload_n C.1 C.2.1 dX12_both2_49 rfl (lv_at hl 0 rfl) ?_
                exact mw_iret C hr hlk Z hP hS dX12_both2_50 (⟨((f2.tr f29).tr f36), by rw [hR, gLoop_f (by simp only [gTim, gAdd, gAnd, gOr, beq_iff_eq, Bool.or_eq_true]; omega) (by rw [e27]; exact hg33)]; exact hb45⟩)
              · exact absurd c52 (by decide)
            · refine lv_iload_n C.1 C.2.1 dX12_both2_36 rfl (lv_at hl 0 rfl) ?_
              refine lv_if_eq (tgt := 44) C.1 C.2.1 dX12_both2_37 (by decide) (fun c53 => ?_) (fun c53 => ?_)
              · refine lv_iconst (v := 0) C.1 C.2.1 dX12_both2_44 (by decide) ?_
                refine lv_istore_n (lv' := [(1, .int 0), (2, .int r30), (0, .ref (mw_a E 0))]) C.1 C.2.1 dX12_both2_45 rfl hl (by decide) rfl (fun ls hl => ?_)
                refine lv_goto (tgt := 5) C.1 C.2.1 dX12_both2_46 (by decide) ?_
                refine lv_aload_n C.1 C.2.1 dX12_both2_5 rfl (lv_at hl 2 rfl) ?_
                refine lv_bipush (v := 97) C.1 C.2.1 dX12_both2_6 (by decide) ?_
                refine lv_bipush (v := 110) C.1 C.2.1 dX12_both2_8 (by decide) ?_
                refine lv_bipush (v := 100) C.1 C.2.1 dX12_both2_10 (by decide) ?_
                refine lv_iconst (v := 0) C.1 C.2.1 dX12_both2_12 (by decide) ?_
                refine lv_iconst (v := 0) C.1 C.2.1 dX12_both2_13 (by decide) ?_
                refine lv_iconst (v := 0) C.1 C.2.1 dX12_both2_14 (by decide) ?_
                refine lv_iconst (v := 0) C.1 C.2.1 dX12_both2_15 (by decide) ?_
                refine lv_iconst (v := 0) C.1 C.2.1 dX12_both2_16 (by decide) ?_
                refine mw_cVi (As := [.int 97, .int 110, .int 100, .int 0, .int 0, .int 0, .int 0, .int 0]) (rest := []) C Z hP hS (0) (cM_isWordB l E u31 hb45.1 97 110 100 0 0 0 0 0) vb_X12_isWord tw_5_77 ⟨rfl, rfl⟩ ⟨Nat.le_of_ble_eq_true rfl, Nat.le_of_ble_eq_true rfl⟩ (by decide) rfl rfl rfl rfl hl.1 rfl (Nat.le_of_ble_eq_true rfl) dX12_both2_17 ⟨Nat.zero_le _, Nat.zero_le _⟩ (fun r54 u55 H locs q56 hP hS => ?_)
                obtain ⟨rfl, q56u⟩ := q56
                rw [q56u] at hP; clear q56u
                refine lv_if_eq (tgt := 49) C.1 C.2.1 dX12_both2_20 (by decide) (fun c57 => ?_) (fun c57 => ?_)
                · refine lv_iload_n C.1 C.2.1 dX12_both2_49 rfl (lv_at hl 0 rfl) ?_
                  exact mw_iret C hr hlk Z hP hS dX12_both2_50 (⟨((f2.tr f29).tr f36), by rw [hR, gLoop_f (by simp only [gTim, gAdd, gAnd, gOr, beq_iff_eq, Bool.or_eq_true]; omega) (by rw [e27]; exact hg33)]; exact hb45⟩)
                · exact absurd c57 (by decide)
              · refine lv_iconst (v := 1) C.1 C.2.1 dX12_both2_40 (by decide) ?_
                refine lv_goto (tgt := 45) C.1 C.2.1 dX12_both2_41 (by decide) ?_
                refine lv_istore_n (lv' := [(1, .int 1), (2, .int r30), (0, .ref (mw_a E 0))]) C.1 C.2.1 dX12_both2_45 rfl hl (by decide) rfl (fun ls hl => ?_)
                refine lv_goto (tgt := 5) C.1 C.2.1 dX12_both2_46 (by decide) ?_
                refine lv_aload_n C.1 C.2.1 dX12_both2_5 rfl (lv_at hl 2 rfl) ?_
                refine lv_bipush (v := 97) C.1 C.2.1 dX12_both2_6 (by decide) ?_
                refine lv_bipush (v := 110) C.1 C.2.1 dX12_both2_8 (by decide) ?_
                refine lv_bipush (v := 100) C.1 C.2.1 dX12_both2_10 (by decide) ?_
                refine lv_iconst (v := 0) C.1 C.2.1 dX12_both2_12 (by decide) ?_
                refine lv_iconst (v := 0) C.1 C.2.1 dX12_both2_13 (by decide) ?_
                refine lv_iconst (v := 0) C.1 C.2.1 dX12_both2_14 (by decide) ?_
                refine lv_iconst (v := 0) C.1 C.2.1 dX12_both2_15 (by decide) ?_
                refine lv_iconst (v := 0) C.1 C.2.1 dX12_both2_16 (by decide) ?_
                refine mw_cVi (As := [.int 97, .int 110, .int 100, .int 0, .int 0, .int 0, .int 0, .int 0]) (rest := []) C Z hP hS (0) (cM_isWordB l E u31 hb45.1 97 110 100 0 0 0 0 0) vb_X12_isWord tw_5_77 ⟨rfl, rfl⟩ ⟨Nat.le_of_ble_eq_true rfl, Nat.le_of_ble_eq_true rfl⟩ (by decide) rfl rfl rfl rfl hl.1 rfl (Nat.le_of_ble_eq_true rfl) dX12_both2_17 ⟨Nat.zero_le _, Nat.zero_le _⟩ (fun r58 u59 H locs q60 hP hS => ?_)
                obtain ⟨rfl, q60u⟩ := q60
                rw [q60u] at hP; clear q60u
                refine lv_if_eq (tgt := 49) C.1 C.2.1 dX12_both2_20 (by decide) (fun c61 => ?_) (fun c61 => ?_)
                · refine lv_iload_n C.1 C.2.1 dX12_both2_49 rfl (lv_at hl 0 rfl) ?_
                  exact mw_iret C hr hlk Z hP hS dX12_both2_50 (⟨((f2.tr f29).tr f36), by rw [hR, gLoop_f (by simp only [gTim, gAdd, gAnd, gOr, beq_iff_eq, Bool.or_eq_true]; omega) (by rw [e27]; exact hg33)]; exact hb45⟩)
                · exact absurd c61 (by decide)
    exact lp (ts12.length + 1) cs8 k10 p11 ts12 r1 u2 _ _ (Nat.le_refl _) h14 ((mFp.rf σ).tr f7) v15 (by rw [gLevel_I hg4, e13]; rfl) hP hS ls (lv_sub hl [1, 0] rfl)
  · rw [hg4] at q3
    obtain ⟨f7, hb16⟩ := q3
    refine lv_istore_n (lv' := [(1, .int r1), (0, .ref (mw_a E 0))]) C.1 C.2.1 dX12_both2_4 rfl hl (by decide) rfl (fun ls hl => ?_)
    refine lv_aload_n C.1 C.2.1 dX12_both2_5 rfl (lv_at hl 1 rfl) ?_
    refine lv_bipush (v := 97) C.1 C.2.1 dX12_both2_6 (by decide) ?_
    refine lv_bipush (v := 110) C.1 C.2.1 dX12_both2_8 (by decide) ?_
    refine lv_bipush (v := 100) C.1 C.2.1 dX12_both2_10 (by decide) ?_
    refine lv_iconst (v := 0) C.1 C.2.1 dX12_both2_12 (by decide) ?_
    refine lv_iconst (v := 0) C.1 C.2.1 dX12_both2_13 (by decide) ?_
    refine lv_iconst (v := 0) C.1 C.2.1 dX12_both2_14 (by decide) ?_
    refine lv_iconst (v := 0) C.1 C.2.1 dX12_both2_15 (by decide) ?_
    refine lv_iconst (v := 0) C.1 C.2.1 dX12_both2_16 (by decide) ?_
    refine mw_cVi (As := [.int 97, .int 110, .int 100, .int 0, .int 0, .int 0, .int 0, .int 0]) (rest := []) C Z hP hS (0) (cM_isWordB l E u2 hb16.1 97 110 100 0 0 0 0 0) vb_X12_isWord tw_5_77 ⟨rfl, rfl⟩ ⟨Nat.le_of_ble_eq_true rfl, Nat.le_of_ble_eq_true rfl⟩ (by decide) rfl rfl rfl rfl hl.1 rfl (Nat.le_of_ble_eq_true rfl) dX12_both2_17 ⟨Nat.zero_le _, Nat.zero_le _⟩ (fun r62 u63 H locs q64 hP hS => ?_)
    obtain ⟨rfl, q64u⟩ := q64
    rw [q64u] at hP; clear q64u
    refine lv_if_eq (tgt := 49) C.1 C.2.1 dX12_both2_20 (by decide) (fun c65 => ?_) (fun c65 => ?_)
    · refine lv_iload_n C.1 C.2.1 dX12_both2_49 rfl (lv_at hl 0 rfl) ?_
      exact mw_iret C hr hlk Z hP hS dX12_both2_50 (⟨((mFp.rf σ).tr f7), by rw [gLevel_F hg4]; exact hb16⟩)
    · exact absurd c65 (by decide)

set_option maxHeartbeats 4000000 in
set_option maxRecDepth 100000 in
theorem cM_either2 (l : Launch) (E : mw_E) (σ : mw_M) (t n : Nat) (bs : Nat → Int32) (k p : Nat) (ts : List (Nat × Nat)) (h : mPS σ t n bs k p ts 2) : mw_Ci shM 13 gM l yX12_either2 cX12_either2 3 (some .int) (rmF 27 597) E [.ref (mw_a E 0)] σ (fun r u => mOK σ u t n bs 2 r ((gD 3).2.2 ((k, p) :: ts))) := by
  refine mw_of (by decide) gM_ok (Nat.le_of_ble_eq_true rfl) ?_
  intro p_ e_ s_ m_ below meth c_ C hr hlk Z hP ls hl
  have C : CallFix p_ m_ c_ cX12_either2 3 s_ _ lw_good RX12 := C
  have hl : lv_has ls 3 [(0, .ref (mw_a E 0))] := hl
  have hS : va_S (mw_A 13 E) s_.heap s_.heap [] := va_S.rf
  refine lv_aload_n C.1 C.2.1 dX12_either2_0 rfl (lv_at hl 0 rfl) ?_
  refine mw_cVi (As := []) (rest := []) C Z hP hS (0) (cM_both2 l E σ t n bs k p ts h) vb_X12_both2 tw_5_227 ⟨rfl, rfl⟩ ⟨Nat.le_of_ble_eq_true rfl, Nat.le_of_ble_eq_true rfl⟩ (by decide) rfl rfl rfl rfl hl.1 rfl (Nat.le_of_ble_eq_true rfl) dX12_either2_1 ⟨Nat.zero_le _, Nat.zero_le _⟩ (fun r1 u2 H locs q3 hP hS => ?_)
  rcases hg4 : (gLevel gAnd (gD 3).2.1) ((k, p) :: ts) with zz5 | qq6
  · obtain ⟨cs8, ts9⟩ := zz5
    rw [hg4] at q3
    obtain ⟨f7, ⟨k10, p11, ts12, e13, h14⟩, v15⟩ := q3
    have v15 := (mFp.rf σ).evv v15
    refine lv_istore_n (lv' := [(1, .int r1), (0, .ref (mw_a E 0))]) C.1 C.2.1 dX12_either2_4 rfl hl (by decide) rfl (fun ls hl => ?_)
    have lp : ∀ (N : Nat) (cs : List Nat) (k2 p2 : Nat) (ts2 : List (Nat × Nat)) (v : Int32) (ς : mw_M) (H : Heap) (locs : List Loc), ts2.length + 1 ≤ N → mPS ς t n bs k2 p2 ts2 2 → mFp σ ς → ruV (mEv σ) cs v → (gD 3).2.2 ((k, p) :: ts) = gLoop gOr (gLevel gAnd (gD 3).2.1) N cs ((k2, p2) :: ts2) → va_P (mw_D E) vwCl (mw_ws shM 13 E ς) H → va_S (mw_A 13 E) s_.heap H locs → ∀ (ls : Array Slot), lv_has ls 3 [(0, .ref (mw_a E 0)), (1, .int v)] → mWi p_ l e_ (rmF 27 597) s_ m_ [.ref (mw_a E 0)] below meth c_ E (fun r u => mOK σ u t n bs 2 r ((gD 3).2.2 ((k, p) :: ts))) H locs (F0 m_ 5 ls []) := by
      intro N
      induction N with
      | zero => intro cs k2 p2 ts2 v ς H locs hN; exact absurd hN (by omega)
      | succ N ih =>
        intro cs k2 p2 ts2 v ς H locs hN h2 f2 hv hR hP hS ls hl
        refine lv_aload_n C.1 C.2.1 dX12_either2_5 rfl (lv_at hl 0 rfl) ?_
        refine lv_bipush (v := 111) C.1 C.2.1 dX12_either2_6 (by decide) ?_
        refine lv_bipush (v := 114) C.1 C.2.1 dX12_either2_8 (by decide) ?_
        refine lv_iconst (v := 0) C.1 C.2.1 dX12_either2_10 (by decide) ?_
        refine lv_iconst (v := 0) C.1 C.2.1 dX12_either2_11 (by decide) ?_
        refine lv_iconst (v := 0) C.1 C.2.1 dX12_either2_12 (by decide) ?_
        refine lv_iconst (v := 0) C.1 C.2.1 dX12_either2_13 (by decide) ?_
        refine lv_iconst (v := 0) C.1 C.2.1 dX12_either2_14 (by decide) ?_
        refine lv_iconst (v := 0) C.1 C.2.1 dX12_either2_15 (by decide) ?_
        refine mw_cVi (As := [.int 111, .int 114, .int 0, .int 0, .int 0, .int 0, .int 0, .int 0]) (rest := []) C Z hP hS (0) (cM_isWordP l E ς t n bs k2 p2 ts2 2 h2 9 (by decide)) vb_X12_isWord tw_5_77 ⟨rfl, rfl⟩ ⟨Nat.le_of_ble_eq_true rfl, Nat.le_of_ble_eq_true rfl⟩ (by decide) rfl rfl rfl rfl hl.1 rfl (Nat.le_of_ble_eq_true rfl) dX12_either2_16 ⟨Nat.zero_le _, Nat.zero_le _⟩ (fun r17 u18 H locs q19 hP hS => ?_)
        obtain ⟨rfl, q19u⟩ := q19
        rw [q19u] at hP; clear q19u
        refine lv_if_eq (tgt := 48) C.1 C.2.1 dX12_either2_19 (by decide) (fun c20 => ?_) (fun c20 => ?_)
        · have c20 := bI_0.mp c20
          refine lv_iload_n C.1 C.2.1 dX12_either2_48 rfl (lv_at hl 1 rfl) ?_
          exact mw_iret C hr hlk Z hP hS dX12_either2_49 (⟨f2, by rw [hR, gLoop_e (by simp only [gTim, gAdd, gAnd, gOr, beq_iff_eq, Bool.or_eq_true]; omega)]; exact ⟨⟨k2, p2, ts2, rfl, h2⟩, hv⟩⟩)
        · have c20 := bI_n.mp c20
          refine lv_aload_n C.1 C.2.1 dX12_either2_22 rfl (lv_at hl 0 rfl) ?_
          refine mw_cVv (As := []) (rest := []) C Z hP hS (0) (cM_nextP l E ς t n bs k2 p2 ts2 2 h2 (by omega) (by omega)) vb_X12_next tw_5_64 ⟨rfl, rfl⟩ ⟨Nat.le_of_ble_eq_true rfl, Nat.le_of_ble_eq_true rfl⟩ (by decide) rfl rfl rfl rfl hl.1 rfl (Nat.le_of_ble_eq_true rfl) dX12_either2_23 ⟨Nat.zero_le _, Nat.zero_le _⟩ (fun u22 H locs q23 hP hS => ?_)
          obtain ⟨⟨k24, p25, ts26, e27, h28⟩, f29⟩ := q23
          refine lv_aload_n C.1 C.2.1 dX12_either2_26 rfl (lv_at hl 0 rfl) ?_
          refine mw_cVi (As := []) (rest := []) C Z hP hS (0) (cM_both2 l E u22 t n bs k24 p25 ts26 h28) vb_X12_both2 tw_5_227 ⟨rfl, rfl⟩ ⟨Nat.le_of_ble_eq_true rfl, Nat.le_of_ble_eq_true rfl⟩ (by decide) rfl rfl rfl rfl hl.1 rfl (Nat.le_of_ble_eq_true rfl) dX12_either2_27 ⟨Nat.zero_le _, Nat.zero_le _⟩ (fun r30 u31 H locs q32 hP hS => ?_)
          rcases hg33 : (gLevel gAnd (gD 3).2.1) ((k24, p25) :: ts26) with zz34 | qq35
          · obtain ⟨cs37, ts38⟩ := zz34
            rw [hg33] at q32
            obtain ⟨f36, ⟨k39, p40, ts41, e42, h43⟩, v44⟩ := q32
            have v44 := (f2.tr f29).evv v44
            refine lv_istore_n (lv' := [(2, .int r30), (0, .ref (mw_a E 0)), (1, .int v)]) C.1 C.2.1 dX12_either2_30 rfl hl (by decide) rfl (fun ls hl => ?_)
            refine lv_iload_n C.1 C.2.1 dX12_either2_31 rfl (lv_at hl 2 rfl) ?_
            refine lv_if_ne (tgt := 39) C.1 C.2.1 dX12_either2_32 (by decide) (fun c46 => ?_) (fun c46 => ?_)
            · refine lv_iconst (v := 1) C.1 C.2.1 dX12_either2_39 (by decide) ?_
              refine lv_goto (tgt := 44) C.1 C.2.1 dX12_either2_40 (by decide) ?_
              refine lv_istore_n (lv' := [(1, .int 1), (2, .int r30), (0, .ref (mw_a E 0))]) C.1 C.2.1 dX12_either2_44 rfl hl (by decide) rfl (fun ls hl => ?_)
              refine lv_goto (tgt := 5) C.1 C.2.1 dX12_either2_45 (by decide) ?_
              exact ih (cs ++ cs37 ++ [k2]) k39 p40 ts41 1 u31 _ _ (by have d := (gLevel_dec (gD_dec 3).2.1) _ _ _ hg33; rw [e42, List.length_cons, List.length_cons] at d; rw [e27, List.length_cons] at hN; omega) h43 ((f2.tr f29).tr f36) (by have z := ruV_op (c := k2) hv v44 (by omega); rwa [show opF k2 v r30 = 1 by rw [c20]; simp [opF, bI, c46]] at z) (by rw [hR, gLoop_s (by simp only [gTim, gAdd, gAnd, gOr, beq_iff_eq, Bool.or_eq_true]; omega) (by rw [e27]; exact hg33), e42]) hP hS ls (lv_sub hl [2, 0] rfl)
            · refine lv_iload_n C.1 C.2.1 dX12_either2_35 rfl (lv_at hl 0 rfl) ?_
              refine lv_if_eq (tgt := 43) C.1 C.2.1 dX12_either2_36 (by decide) (fun c47 => ?_) (fun c47 => ?_)
              · refine lv_iconst (v := 0) C.1 C.2.1 dX12_either2_43 (by decide) ?_
                refine lv_istore_n (lv' := [(1, .int 0), (2, .int r30), (0, .ref (mw_a E 0))]) C.1 C.2.1 dX12_either2_44 rfl hl (by decide) rfl (fun ls hl => ?_)
                refine lv_goto (tgt := 5) C.1 C.2.1 dX12_either2_45 (by decide) ?_
                exact ih (cs ++ cs37 ++ [k2]) k39 p40 ts41 0 u31 _ _ (by have d := (gLevel_dec (gD_dec 3).2.1) _ _ _ hg33; rw [e42, List.length_cons, List.length_cons] at d; rw [e27, List.length_cons] at hN; omega) h43 ((f2.tr f29).tr f36) (by have z := ruV_op (c := k2) hv v44 (by omega); rwa [show opF k2 v r30 = 0 by rw [c20]; simp [opF, bI, c46, c47]] at z) (by rw [hR, gLoop_s (by simp only [gTim, gAdd, gAnd, gOr, beq_iff_eq, Bool.or_eq_true]; omega) (by rw [e27]; exact hg33), e42]) hP hS ls (lv_sub hl [2, 0] rfl)
              · refine lv_iconst (v := 1) C.1 C.2.1 dX12_either2_39 (by decide) ?_
                refine lv_goto (tgt := 44) C.1 C.2.1 dX12_either2_40 (by decide) ?_
                refine lv_istore_n (lv' := [(1, .int 1), (2, .int r30), (0, .ref (mw_a E 0))]) C.1 C.2.1 dX12_either2_44 rfl hl (by decide) rfl (fun ls hl => ?_)
                refine lv_goto (tgt := 5) C.1 C.2.1 dX12_either2_45 (by decide) ?_
                exact ih (cs ++ cs37 ++ [k2]) k39 p40 ts41 1 u31 _ _ (by have d := (gLevel_dec (gD_dec 3).2.1) _ _ _ hg33; rw [e42, List.length_cons, List.length_cons] at d; rw [e27, List.length_cons] at hN; omega) h43 ((f2.tr f29).tr f36) (by have z := ruV_op (c := k2) hv v44 (by omega); rwa [show opF k2 v r30 = 1 by rw [c20]; simp [opF, bI, c46, c47]] at z) (by rw [hR, gLoop_s (by simp only [gTim, gAdd, gAnd, gOr, beq_iff_eq, Bool.or_eq_true]; omega) (by rw [e27]; exact hg33), e42]) hP hS ls (lv_sub hl [2, 0] rfl)
          · rw [hg33] at q32
            obtain ⟨f36, hb45⟩ := q32
            refine lv_istore_n (lv' := [(2, .int r30), (0, .ref (mw_a E 0)), (1, .int v)]) C.1 C.2.1 dX12_either2_30 rfl hl (by decide) rfl (fun ls hl => ?_)
            refine lv_iload_n C.1 C.2.1 dX12_either2_31 rfl (lv_at hl 2 rfl) ?_
            refine lv_if_ne (tgt := 39) C.1 C.2.1 dX12_either2_32 (by decide) (fun c48 => ?_) (fun c48 => ?_)
            · refine lv_iconst (v := 1) C.1 C.2.1 dX12_either2_39 (by decide) ?_
              refine lv_goto (tgt := 44) C.1 C.2.1 dX12_either2_40 (by decide) ?_
              refine lv_istore_n (lv' := [(1, .int 1), (2, .int r30), (0, .ref (mw_a E 0))]) C.1 C.2.1 dX12_either2_44 rfl hl (by decide) rfl (fun ls hl => ?_)
              refine lv_goto (tgt := 5) C.1 C.2.1 dX12_either2_45 (by decide) ?_
              refine lv_aload_n C.1 C.2.1 dX12_either2_5 rfl (lv_at hl 2 rfl) ?_
              refine lv_bipush (v := 111) C.1 C.2.1 dX12_either2_6 (by decide) ?_
              refine lv_bipush (v := 114) C.1 C.2.1 dX12_either2_8 (by decide) ?_
              refine lv_iconst (v := 0) C.1 C.2.1 dX12_either2_10 (by decide) ?_
              refine lv_iconst (v := 0) C.1 C.2.1 dX12_either2_11 (by decide) ?_
              refine lv_iconst (v := 0) C.1 C.2.1 dX12_either2_12 (by decide) ?_
              refine lv_iconst (v := 0) C.1 C.2.1 dX12_either2_13 (by decide) ?_
              refine lv_iconst (v := 0) C.1 C.2.1 dX12_either2_14 (by decide) ?_
              refine lv_iconst (v := 0) C.1 C.2.1 dX12_either2_15 (by decide) ?_
              refine mw_cVi (As := [.int 111, .int 114, .int 0, .int 0, .int 0, .int 0, .int 0, .int 0]) (rest := []) C Z hP hS (0) (cM_isWordB l E u31 hb45.1 111 114 0 0 0 0 0 0) vb_X12_isWord tw_5_77 ⟨rfl, rfl⟩ ⟨Nat.le_of_ble_eq_true rfl, Nat.le_of_ble_eq_true rfl⟩ (by decide) rfl rfl rfl rfl hl.1 rfl (Nat.le_of_ble_eq_true rfl) dX12_either2_16 ⟨Nat.zero_le _, Nat.zero_le _⟩ (fun r49 u50 H locs q51 hP hS => ?_)
              obtain ⟨rfl, q51u⟩ := q51
              rw [q51u] at hP; clear q51u
              refine lv_if_eq (tgt := 48) C.1 C.2.1 dX12_either2_19 (by decide) (fun c52 => ?_) (fun c52 => ?_)
              · refine lv_iload_n C.1 C.2.1 dX12_either2_48 rfl (lv_at hl 0 rfl) ?_
                exact mw_iret C hr hlk Z hP hS dX12_either2_49 (⟨((f2.tr f29).tr f36), by rw [hR, gLoop_f (by simp only [gTim, gAdd, gAnd, gOr, beq_iff_eq, Bool.or_eq_true]; omega) (by rw [e27]; exact hg33)]; exact hb45⟩)
              · exact absurd c52 (by decide)
            · refine lv_iload_n C.1 C.2.1 dX12_either2_35 rfl (lv_at hl 0 rfl) ?_
              refine lv_if_eq (tgt := 43) C.1 C.2.1 dX12_either2_36 (by decide) (fun c53 => ?_) (fun c53 => ?_)
              · refine lv_iconst (v := 0) C.1 C.2.1 dX12_either2_43 (by decide) ?_
                refine lv_istore_n (lv' := [(1, .int 0), (2, .int r30), (0, .ref (mw_a E 0))]) C.1 C.2.1 dX12_either2_44 rfl hl (by decide) rfl (fun ls hl => ?_)
                refine lv_goto (tgt := 5) C.1 C.2.1 dX12_either2_45 (by decide) ?_
                refine lv_aload_n C.1 C.2.1 dX12_either2_5 rfl (lv_at hl 2 rfl) ?_
                refine lv_bipush (v := 111) C.1 C.2.1 dX12_either2_6 (by decide) ?_
                refine lv_bipush (v := 114) C.1 C.2.1 dX12_either2_8 (by decide) ?_
                refine lv_iconst (v := 0) C.1 C.2.1 dX12_either2_10 (by decide) ?_
                refine lv_iconst (v := 0) C.1 C.2.1 dX12_either2_11 (by decide) ?_
                refine lv_iconst (v := 0) C.1 C.2.1 dX12_either2_12 (by decide) ?_
                refine lv_iconst (v := 0) C.1 C.2.1 dX12_either2_13 (by decide) ?_
                refine lv_iconst (v := 0) C.1 C.2.1 dX12_either2_14 (by decide) ?_
                refine lv_iconst (v := 0) C.1 C.2.1 dX12_either2_15 (by decide) ?_
                refine mw_cVi (As := [.int 111, .int 114, .int 0, .int 0, .int 0, .int 0, .int 0, .int 0]) (rest := []) C Z hP hS (0) (cM_isWordB l E u31 hb45.1 111 114 0 0 0 0 0 0) vb_X12_isWord tw_5_77 ⟨rfl, rfl⟩ ⟨Nat.le_of_ble_eq_true rfl, Nat.le_of_ble_eq_true rfl⟩ (by decide) rfl rfl rfl rfl hl.1 rfl (Nat.le_of_ble_eq_true rfl) dX12_either2_16 ⟨Nat.zero_le _, Nat.zero_le _⟩ (fun r54 u55 H locs q56 hP hS => ?_)
                obtain ⟨rfl, q56u⟩ := q56
                rw [q56u] at hP; clear q56u
                refine lv_if_eq (tgt := 48) C.1 C.2.1 dX12_either2_19 (by decide) (fun c57 => ?_) (fun c57 => ?_)
                · refine lv_iload_n C.1 C.2.1 dX12_either2_48 rfl (lv_at hl 0 rfl) ?_
                  exact mw_iret C hr hlk Z hP hS dX12_either2_49 (⟨((f2.tr f29).tr f36), by rw [hR, gLoop_f (by simp only [gTim, gAdd, gAnd, gOr, beq_iff_eq, Bool.or_eq_true]; omega) (by rw [e27]; exact hg33)]; exact hb45⟩)
                · exact absurd c57 (by decide)
              · refine lv_iconst (v := 1) C.1 C.2.1 dX12_either2_39 (by decide) ?_
                refine lv_goto (tgt := 44) C.1 C.2.1 dX12_either2_40 (by decide) ?_
                refine lv_istore_n (lv' := [(1, .int 1), (2, .int r30), (0, .ref (mw_a E 0))]) C.1 C.2.1 dX12_either2_44 rfl hl (by decide) rfl (fun ls hl => ?_)
                refine lv_goto (tgt := 5) C.1 C.2.1 dX12_either2_45 (by decide) ?_
                refine lv_aload_n C.1 C.2.1 dX12_either2_5 rfl (lv_at hl 2 rfl) ?_
                refine lv_bipush (v := 111) C.1 C.2.1 dX12_either2_6 (by decide) ?_
                refine lv_bipush (v := 114) C.1 C.2.1 dX12_either2_8 (by decide) ?_
                refine lv_iconst (v := 0) C.1 C.2.1 dX12_either2_10 (by decide) ?_
                refine lv_iconst (v := 0) C.1 C.2.1 dX12_either2_11 (by decide) ?_
                refine lv_iconst (v := 0) C.1 C.2.1 dX12_either2_12 (by decide) ?_
                refine lv_iconst (v := 0) C.1 C.2.1 dX12_either2_13 (by decide) ?_
                refine lv_iconst (v := 0) C.1 C.2.1 dX12_either2_14 (by decide) ?_
                refine lv_iconst (v := 0) C.1 C.2.1 dX12_either2_15 (by decide) ?_
                refine mw_cVi (As := [.int 111, .int 114, .int 0, .int 0, .int 0, .int 0, .int 0, .int 0]) (rest := []) C Z hP hS (0) (cM_isWordB l E u31 hb45.1 111 114 0 0 0 0 0 0) vb_X12_isWord tw_5_77 ⟨rfl, rfl⟩ ⟨Nat.le_of_ble_eq_true rfl, Nat.le_of_ble_eq_true rfl⟩ (by decide) rfl rfl rfl rfl hl.1 rfl (Nat.le_of_ble_eq_true rfl) dX12_either2_16 ⟨Nat.zero_le _, Nat.zero_le _⟩ (fun r58 u59 H locs q60 hP hS => ?_)
                obtain ⟨rfl, q60u⟩ := q60
                rw [q60u] at hP; clear q60u
                refine lv_if_eq (tgt := 48) C.1 C.2.1 dX12_either2_19 (by decide) (fun c61 => ?_) (fun c61 => ?_)
                · refine lv_iload_n C.1 C.2.1 dX12_either2_48 rfl (lv_at hl 0 rfl) ?_
                  exact mw_iret C hr hlk Z hP hS dX12_either2_49 (⟨((f2.tr f29).tr f36), by rw [hR, gLoop_f (by simp only [gTim, gAdd, gAnd, gOr, beq_iff_eq, Bool.or_eq_true]; omega) (by rw [e27]; exact hg33)]; exact hb45⟩)
                · exact absurd c61 (by decide)
    exact lp (ts12.length + 1) cs8 k10 p11 ts12 r1 u2 _ _ (Nat.le_refl _) h14 ((mFp.rf σ).tr f7) v15 (by rw [gE_3, gLevel_I hg4, e13]; rfl) hP hS ls (lv_sub hl [1, 0] rfl)
  · rw [hg4] at q3
    obtain ⟨f7, hb16⟩ := q3
    refine lv_istore_n (lv' := [(1, .int r1), (0, .ref (mw_a E 0))]) C.1 C.2.1 dX12_either2_4 rfl hl (by decide) rfl (fun ls hl => ?_)
    refine lv_aload_n C.1 C.2.1 dX12_either2_5 rfl (lv_at hl 1 rfl) ?_
    refine lv_bipush (v := 111) C.1 C.2.1 dX12_either2_6 (by decide) ?_
    refine lv_bipush (v := 114) C.1 C.2.1 dX12_either2_8 (by decide) ?_
    refine lv_iconst (v := 0) C.1 C.2.1 dX12_either2_10 (by decide) ?_
    refine lv_iconst (v := 0) C.1 C.2.1 dX12_either2_11 (by decide) ?_
    refine lv_iconst (v := 0) C.1 C.2.1 dX12_either2_12 (by decide) ?_
    refine lv_iconst (v := 0) C.1 C.2.1 dX12_either2_13 (by decide) ?_
    refine lv_iconst (v := 0) C.1 C.2.1 dX12_either2_14 (by decide) ?_
    refine lv_iconst (v := 0) C.1 C.2.1 dX12_either2_15 (by decide) ?_
    refine mw_cVi (As := [.int 111, .int 114, .int 0, .int 0, .int 0, .int 0, .int 0, .int 0]) (rest := []) C Z hP hS (0) (cM_isWordB l E u2 hb16.1 111 114 0 0 0 0 0 0) vb_X12_isWord tw_5_77 ⟨rfl, rfl⟩ ⟨Nat.le_of_ble_eq_true rfl, Nat.le_of_ble_eq_true rfl⟩ (by decide) rfl rfl rfl rfl hl.1 rfl (Nat.le_of_ble_eq_true rfl) dX12_either2_16 ⟨Nat.zero_le _, Nat.zero_le _⟩ (fun r62 u63 H locs q64 hP hS => ?_)
    obtain ⟨rfl, q64u⟩ := q64
    rw [q64u] at hP; clear q64u
    refine lv_if_eq (tgt := 48) C.1 C.2.1 dX12_either2_19 (by decide) (fun c65 => ?_) (fun c65 => ?_)
    · refine lv_iload_n C.1 C.2.1 dX12_either2_48 rfl (lv_at hl 0 rfl) ?_
      exact mw_iret C hr hlk Z hP hS dX12_either2_49 (⟨((mFp.rf σ).tr f7), by rw [gE_3, gLevel_F hg4]; exact hb16⟩)
    · exact absurd c65 (by decide)

set_option maxHeartbeats 4000000 in
set_option maxRecDepth 100000 in
theorem cM_atom1 (l : Launch) (E : mw_E) (σ : mw_M) (t n : Nat) (bs : Nat → Int32) (k p : Nat) (ts : List (Nat × Nat)) (h : mPS σ t n bs k p ts 1) : mw_Ci shM 13 gM l yX12_atom1 cX12_atom1 2 (some .int) (rmF 28 619) E [.ref (mw_a E 0)] σ (fun r u => mOK σ u t n bs 1 r ((gD 4).1 ((k, p) :: ts))) := by
  refine mw_of (by decide) gM_ok (Nat.le_of_ble_eq_true rfl) ?_
  intro p_ e_ s_ m_ below meth c_ C hr hlk Z hP ls hl
  have C : CallFix p_ m_ c_ cX12_atom1 2 s_ _ lw_good RX12 := C
  have hl : lv_has ls 2 [(0, .ref (mw_a E 0))] := hl
  have hS : va_S (mw_A 13 E) s_.heap s_.heap [] := va_S.rf
  refine lv_iconst (v := 0) C.1 C.2.1 dX12_atom1_0 (by decide) ?_
  refine lv_istore_n (lv' := [(1, .int 0), (0, .ref (mw_a E 0))]) C.1 C.2.1 dX12_atom1_1 rfl hl (by decide) rfl (fun ls hl => ?_)
  refine lv_aload_n C.1 C.2.1 dX12_atom1_2 rfl (lv_at hl 1 rfl) ?_
  refine lv_bipush (v := 45) C.1 C.2.1 dX12_atom1_3 (by decide) ?_
  refine mw_cVi (As := [.int 45]) (rest := []) C Z hP hS (0) (cM_isSignP l E σ t n bs k p ts 1 h 4 (by decide)) vb_X12_isSign tw_5_141 ⟨rfl, rfl⟩ ⟨Nat.le_of_ble_eq_true rfl, Nat.le_of_ble_eq_true rfl⟩ (by decide) rfl rfl rfl rfl hl.1 rfl (Nat.le_of_ble_eq_true rfl) dX12_atom1_5 ⟨Nat.zero_le _, Nat.zero_le _⟩ (fun r1 u2 H locs q3 hP hS => ?_)
  obtain ⟨rfl, q3u⟩ := q3
  rw [q3u] at hP; clear q3u
  refine lv_if_eq (tgt := 37) C.1 C.2.1 dX12_atom1_8 (by decide) (fun c4 => ?_) (fun c4 => ?_)
  · have c4 := bI_0.mp c4
    refine lv_aload_n C.1 C.2.1 dX12_atom1_37 rfl (lv_at hl 1 rfl) ?_
    refine lv_bipush (v := 40) C.1 C.2.1 dX12_atom1_38 (by decide) ?_
    refine mw_cVi (As := [.int 40]) (rest := []) C Z hP hS (0) (cM_isSignP l E σ t n bs k p ts 1 h 0 (by decide)) vb_X12_isSign tw_5_141 ⟨rfl, rfl⟩ ⟨Nat.le_of_ble_eq_true rfl, Nat.le_of_ble_eq_true rfl⟩ (by decide) rfl rfl rfl rfl hl.1 rfl (Nat.le_of_ble_eq_true rfl) dX12_atom1_40 ⟨Nat.zero_le _, Nat.zero_le _⟩ (fun r5 u6 H locs q7 hP hS => ?_)
    obtain ⟨rfl, q7u⟩ := q7
    rw [q7u] at hP; clear q7u
    refine lv_if_eq (tgt := 95) C.1 C.2.1 dX12_atom1_43 (by decide) (fun c8 => ?_) (fun c8 => ?_)
    · have c8 := bI_0.mp c8
      refine lv_aload_n C.1 C.2.1 dX12_atom1_95 rfl (lv_at hl 1 rfl) ?_
      refine mw_geti C Z hP (0) 24 (by decide) rfl rfl rfl (by decide) inX12 tw_4_188 dX12_atom1_96 ?_
      refine mw_top (y := 0) (h.2.1) ?_
      refine lv_if_ne (tgt := 123) C.1 C.2.1 dX12_atom1_99 (by decide) (fun c9 => ?_) (fun c9 => ?_)
      · exact absurd c9 (by decide)
      · refine lv_aload_n C.1 C.2.1 dX12_atom1_102 rfl (lv_at hl 1 rfl) ?_
        refine mw_geti C Z hP (0) 20 (by decide) rfl rfl rfl (by decide) inX12 tw_4_184 dX12_atom1_103 ?_
        refine lv_iconst (v := 2) C.1 C.2.1 dX12_atom1_106 (by decide) ?_
        refine lv_icmp_ne (tgt := 123) C.1 C.2.1 dX12_atom1_107 (by decide) (fun c10 => ?_) (fun c10 => ?_)
        · have hnn : ¬ 100 ≤ k := fun y => c10 (h.2.2.2.1.2.2.2.1.mpr y)
          refine lv_aload_n C.1 C.2.1 dX12_atom1_123 rfl (lv_at hl 1 rfl) ?_
          refine mw_geti C Z hP (0) 24 (by decide) rfl rfl rfl (by decide) inX12 tw_4_188 dX12_atom1_124 ?_
          refine mw_top (y := 0) (h.2.1) ?_
          refine lv_if_ne (tgt := 157) C.1 C.2.1 dX12_atom1_127 (by decide) (fun c11 => ?_) (fun c11 => ?_)
          · exact absurd c11 (by decide)
          · refine lv_aload_n C.1 C.2.1 dX12_atom1_130 rfl (lv_at hl 1 rfl) ?_
            refine mw_geti C Z hP (0) 20 (by decide) rfl rfl rfl (by decide) inX12 tw_4_184 dX12_atom1_131 ?_
            refine lv_iconst (v := 1) C.1 C.2.1 dX12_atom1_134 (by decide) ?_
            refine lv_icmp_ne (tgt := 157) C.1 C.2.1 dX12_atom1_135 (by decide) (fun c12 => ?_) (fun c12 => ?_)
            · have hnw : ¬ k ≤ 5 := fun y => c12 (h.2.2.2.2.2.2.1 (by omega))
              refine lv_aload_n C.1 C.2.1 dX12_atom1_157 rfl (lv_at hl 1 rfl) ?_
              refine mw_cVv (As := []) (rest := []) C Z hP hS (0) (cM_failP l E σ t n bs k p ts 1 h) vb_X12_fail tw_5_89 ⟨rfl, rfl⟩ ⟨Nat.le_of_ble_eq_true rfl, Nat.le_of_ble_eq_true rfl⟩ (by decide) rfl rfl rfl rfl hl.1 rfl (Nat.le_of_ble_eq_true rfl) dX12_atom1_158 ⟨Nat.zero_le _, Nat.zero_le _⟩ (fun u14 H locs q15 hP hS => ?_)
              obtain ⟨hb16, f17⟩ := q15
              refine lv_iload_n C.1 C.2.1 dX12_atom1_161 rfl (lv_at hl 0 rfl) ?_
              exact mw_iret C hr hlk Z hP hS dX12_atom1_162 (⟨((mFp.rf σ).tr f17), by rw [gA_4, gAt_bad (fun y => y.elim hnw hnn) (by omega) (by omega)]; exact hb16⟩)
            · have hk21 : k ≠ 21 := fun y => by have z := h.2.2.2.1.2.2.1.mpr y; rw [c12] at z; exact absurd z (by decide)
              refine lv_aload_n C.1 C.2.1 dX12_atom1_138 rfl (lv_at hl 1 rfl) ?_
              refine mw_cVi (As := []) (rest := []) C Z hP hS (0) (cM_name l E σ t n bs k p ts 1 h) vb_X12_name tw_5_145 ⟨rfl, rfl⟩ ⟨Nat.le_of_ble_eq_true rfl, Nat.le_of_ble_eq_true rfl⟩ (by decide) rfl rfl rfl rfl hl.1 rfl (Nat.le_of_ble_eq_true rfl) dX12_atom1_139 ⟨Nat.zero_le _, Nat.zero_le _⟩ (fun r18 u19 H locs q20 hP hS => ?_)
              obtain ⟨f25, ⟨z21, z22, z23⟩ | ⟨z21, hb24⟩⟩ := q20
              · rw [z22] at hP; clear z22
                refine lv_istore_n (lv' := [(1, .int r18), (0, .ref (mw_a E 0))]) C.1 C.2.1 dX12_atom1_142 rfl hl (by decide) rfl (fun ls hl => ?_)
                refine lv_aload_n C.1 C.2.1 dX12_atom1_143 rfl (lv_at hl 1 rfl) ?_
                refine mw_geti C Z hP (0) 24 (by decide) rfl rfl rfl (by decide) inX12 tw_4_188 dX12_atom1_144 ?_
                refine mw_top (y := 0) (h.2.1) ?_
                refine lv_if_ne (tgt := 161) C.1 C.2.1 dX12_atom1_147 (by decide) (fun c26 => ?_) (fun c26 => ?_)
                · exact absurd c26 (by decide)
                · refine lv_aload_n C.1 C.2.1 dX12_atom1_150 rfl (lv_at hl 1 rfl) ?_
                  refine mw_cVv (As := []) (rest := []) C Z hP hS (0) (cM_nextP l E σ t n bs k p ts 1 h (by omega) (by omega)) vb_X12_next tw_5_64 ⟨rfl, rfl⟩ ⟨Nat.le_of_ble_eq_true rfl, Nat.le_of_ble_eq_true rfl⟩ (by decide) rfl rfl rfl rfl hl.1 rfl (Nat.le_of_ble_eq_true rfl) dX12_atom1_151 ⟨Nat.zero_le _, Nat.zero_le _⟩ (fun u28 H locs q29 hP hS => ?_)
                  obtain ⟨⟨k30, p31, ts32, e33, h34⟩, f35⟩ := q29
                  refine lv_goto (tgt := 161) C.1 C.2.1 dX12_atom1_154 (by decide) ?_
                  refine lv_iload_n C.1 C.2.1 dX12_atom1_161 rfl (lv_at hl 0 rfl) ?_
                  exact mw_iret C hr hlk Z hP hS dX12_atom1_162 (⟨((mFp.rf σ).tr f35), by rw [gA_4, gAt_one (Or.inl z21)]; exact ⟨⟨k30, p31, ts32, e33, h34⟩, by rw [z23]; exact ruV_nm z21⟩⟩)
              · refine lv_istore_n (lv' := [(1, .int r18), (0, .ref (mw_a E 0))]) C.1 C.2.1 dX12_atom1_142 rfl hl (by decide) rfl (fun ls hl => ?_)
                refine lv_aload_n C.1 C.2.1 dX12_atom1_143 rfl (lv_at hl 1 rfl) ?_
                refine mw_geti C Z hP (0) 24 (by decide) rfl rfl rfl (by decide) inX12 tw_4_188 dX12_atom1_144 ?_
                refine mw_top (y := 1) (hb24.1) ?_
                refine lv_if_ne (tgt := 161) C.1 C.2.1 dX12_atom1_147 (by decide) (fun c36 => ?_) (fun c36 => ?_)
                · refine lv_iload_n C.1 C.2.1 dX12_atom1_161 rfl (lv_at hl 0 rfl) ?_
                  exact mw_iret C hr hlk Z hP hS dX12_atom1_162 (⟨((mFp.rf σ).tr f25), by rw [gA_4, gAt_bad (fun y => y.elim (fun y => z21 y) hnn) (by omega) (by omega)]; exact hb24⟩)
                · exact absurd c36 (by decide)
        · have hnum : 100 ≤ k := h.2.2.2.1.2.2.2.1.mp c10
          have hval : nI (k - 100) = (σ.2.2 0 22).toInt32 := by rw [(h.2.2.2.1.2.2.2.2 hnum).1, lN_i]
          refine lv_aload_n C.1 C.2.1 dX12_atom1_110 rfl (lv_at hl 1 rfl) ?_
          refine mw_getl C Z hP (0) 22 (by decide) rfl rfl rfl (by decide) inX12 tw_4_186 dX12_atom1_111 ?_
          refine lv_l2i C.1 C.2.1 dX12_atom1_114 rfl ?_
          refine lv_istore_n (lv' := [(1, .int ((σ.2.2 0 22).toInt32)), (0, .ref (mw_a E 0))]) C.1 C.2.1 dX12_atom1_115 rfl hl (by decide) rfl (fun ls hl => ?_)
          refine lv_aload_n C.1 C.2.1 dX12_atom1_116 rfl (lv_at hl 1 rfl) ?_
          refine mw_cVv (As := []) (rest := []) C Z hP hS (0) (cM_nextP l E σ t n bs k p ts 1 h (by omega) (by omega)) vb_X12_next tw_5_64 ⟨rfl, rfl⟩ ⟨Nat.le_of_ble_eq_true rfl, Nat.le_of_ble_eq_true rfl⟩ (by decide) rfl rfl rfl rfl hl.1 rfl (Nat.le_of_ble_eq_true rfl) dX12_atom1_117 ⟨Nat.zero_le _, Nat.zero_le _⟩ (fun u38 H locs q39 hP hS => ?_)
          obtain ⟨⟨k40, p41, ts42, e43, h44⟩, f45⟩ := q39
          refine lv_goto (tgt := 161) C.1 C.2.1 dX12_atom1_120 (by decide) ?_
          refine lv_iload_n C.1 C.2.1 dX12_atom1_161 rfl (lv_at hl 0 rfl) ?_
          exact mw_iret C hr hlk Z hP hS dX12_atom1_162 (⟨((mFp.rf σ).tr f45), by rw [gA_4, gAt_one (Or.inr hnum)]; exact ⟨⟨k40, p41, ts42, e43, h44⟩, hval ▸ ruV_nu hnum⟩⟩)
    · have c8 := bI_n.mp c8
      refine lv_aload_n C.1 C.2.1 dX12_atom1_46 rfl (lv_at hl 1 rfl) ?_
      refine mw_cVi (As := []) (rest := []) C Z hP hS (0) (cM_opens l E σ t n bs k p ts 1 (by decide) h (by omega) (by omega)) vb_X12_opens tw_5_105 ⟨rfl, rfl⟩ ⟨Nat.le_of_ble_eq_true rfl, Nat.le_of_ble_eq_true rfl⟩ (by decide) rfl rfl rfl rfl hl.1 rfl (Nat.le_of_ble_eq_true rfl) dX12_atom1_47 ⟨Nat.zero_le _, Nat.zero_le _⟩ (fun r46 u47 H locs q48 hP hS => ?_)
      obtain ⟨rfl, ⟨k49, p50, ts51, e52, h53⟩, f54⟩ := q48
      refine lv_if_eq (tgt := 161) C.1 C.2.1 dX12_atom1_50 (by decide) (fun c55 => ?_) (fun c55 => ?_)
      · exact absurd c55 (by decide)
      · refine lv_aload_n C.1 C.2.1 dX12_atom1_53 rfl (lv_at hl 1 rfl) ?_
        refine mw_cVi (As := []) (rest := []) C Z hP hS (0) (cM_either2 l E u47 t n bs k49 p50 ts51 h53) vb_X12_either2 tw_5_223 ⟨rfl, rfl⟩ ⟨Nat.le_of_ble_eq_true rfl, Nat.le_of_ble_eq_true rfl⟩ (by decide) rfl rfl rfl rfl hl.1 rfl (Nat.le_of_ble_eq_true rfl) dX12_atom1_54 ⟨Nat.zero_le _, Nat.zero_le _⟩ (fun r56 u57 H locs q58 hP hS => ?_)
        rcases hg59 : ((gD 3).2.2) ((k49, p50) :: ts51) with zz60 | qq61
        · obtain ⟨cs63, ts64⟩ := zz60
          rw [hg59] at q58
          obtain ⟨f62, ⟨k65, p66, ts67, e68, h69⟩, v70⟩ := q58
          have v70 := ((mFp.rf σ).tr f54).evv v70
          refine lv_istore_n (lv' := [(1, .int r56), (0, .ref (mw_a E 0))]) C.1 C.2.1 dX12_atom1_57 rfl hl (by decide) rfl (fun ls hl => ?_)
          refine lv_aload_n C.1 C.2.1 dX12_atom1_58 rfl (lv_at hl 1 rfl) ?_
          refine lv_bipush (v := 41) C.1 C.2.1 dX12_atom1_59 (by decide) ?_
          refine mw_cVi (As := [.int 41]) (rest := []) C Z hP hS (0) (cM_isSignP l E u57 t n bs k65 p66 ts67 2 h69 1 (by decide)) vb_X12_isSign tw_5_141 ⟨rfl, rfl⟩ ⟨Nat.le_of_ble_eq_true rfl, Nat.le_of_ble_eq_true rfl⟩ (by decide) rfl rfl rfl rfl hl.1 rfl (Nat.le_of_ble_eq_true rfl) dX12_atom1_61 ⟨Nat.zero_le _, Nat.zero_le _⟩ (fun r72 u73 H locs q74 hP hS => ?_)
          obtain ⟨rfl, q74u⟩ := q74
          rw [q74u] at hP; clear q74u
          refine lv_if_ne (tgt := 71) C.1 C.2.1 dX12_atom1_64 (by decide) (fun c75 => ?_) (fun c75 => ?_)
          · have c75 := bI_n.mp c75
            refine lv_aload_n C.1 C.2.1 dX12_atom1_71 rfl (lv_at hl 1 rfl) ?_
            refine lv_dup C.1 C.2.1 dX12_atom1_72 rfl ?_
            refine mw_geti C Z hP (0) 23 (by decide) rfl rfl rfl (by decide) inX12 tw_4_187 dX12_atom1_73 ?_
            refine mw_top (y := nI 2) (h69.2.2.1) ?_
            refine lv_iconst (v := 1) C.1 C.2.1 dX12_atom1_76 (by decide) ?_
            refine lv_isub C.1 C.2.1 dX12_atom1_77 ?_
            refine mw_top (y := nI 1) (by decide) ?_
            refine mw_puti C Z hP hS (0) 23 (by decide) rfl rfl rfl (by decide) inX12 tyX12 tyX12_ok nmX12 rfl tw_4_187 rfl rfl dX12_atom1_78 (fun H locs hP hS => ?_)
            have h76 : mPS (mw_si u57 0 23 (nI 1)) t n bs k65 p66 ts67 1 := ⟨h69.1, h69.2.1, rfl, h69.2.2.2⟩
            refine lv_aload_n C.1 C.2.1 dX12_atom1_81 rfl (lv_at hl 1 rfl) ?_
            refine mw_geti C Z hP (0) 24 (by decide) rfl rfl rfl (by decide) inX12 tw_4_188 dX12_atom1_82 ?_
            refine mw_top (y := 0) (h69.2.1) ?_
            refine lv_if_ne (tgt := 161) C.1 C.2.1 dX12_atom1_85 (by decide) (fun c77 => ?_) (fun c77 => ?_)
            · exact absurd c77 (by decide)
            · refine lv_aload_n C.1 C.2.1 dX12_atom1_88 rfl (lv_at hl 1 rfl) ?_
              refine mw_cVv (As := []) (rest := []) C Z hP hS (0) (cM_nextP l E (mw_si u57 0 23 (nI 1)) t n bs k65 p66 ts67 1 h76 (by omega) (by omega)) vb_X12_next tw_5_64 ⟨rfl, rfl⟩ ⟨Nat.le_of_ble_eq_true rfl, Nat.le_of_ble_eq_true rfl⟩ (by decide) rfl rfl rfl rfl hl.1 rfl (Nat.le_of_ble_eq_true rfl) dX12_atom1_89 ⟨Nat.zero_le _, Nat.zero_le _⟩ (fun u79 H locs q80 hP hS => ?_)
              obtain ⟨⟨k81, p82, ts83, e84, h85⟩, f86⟩ := q80
              refine lv_goto (tgt := 161) C.1 C.2.1 dX12_atom1_92 (by decide) ?_
              refine lv_iload_n C.1 C.2.1 dX12_atom1_161 rfl (lv_at hl 0 rfl) ?_
              exact mw_iret C hr hlk Z hP hS dX12_atom1_162 (⟨(((((mFp.rf σ).tr f54).tr f62).si (by decide) _).tr f86), by rw [gA_4, gAt_parI (f := (_, _)) (by omega : k = 12) (by rw [e52, ← e68]; exact hg59) (by omega : k65 = 13)]; exact ⟨⟨k81, p82, ts83, e84, h85⟩, v70⟩⟩)
          · have c75 := bI_0.mp c75
            refine lv_aload_n C.1 C.2.1 dX12_atom1_67 rfl (lv_at hl 1 rfl) ?_
            refine mw_cVv (As := []) (rest := []) C Z hP hS (0) (cM_failP l E u57 t n bs k65 p66 ts67 2 h69) vb_X12_fail tw_5_89 ⟨rfl, rfl⟩ ⟨Nat.le_of_ble_eq_true rfl, Nat.le_of_ble_eq_true rfl⟩ (by decide) rfl rfl rfl rfl hl.1 rfl (Nat.le_of_ble_eq_true rfl) dX12_atom1_68 ⟨Nat.zero_le _, Nat.zero_le _⟩ (fun u88 H locs q89 hP hS => ?_)
            obtain ⟨hb90, f91⟩ := q89
            refine lv_aload_n C.1 C.2.1 dX12_atom1_71 rfl (lv_at hl 1 rfl) ?_
            refine lv_dup C.1 C.2.1 dX12_atom1_72 rfl ?_
            refine mw_geti C Z hP (0) 23 (by decide) rfl rfl rfl (by decide) inX12 tw_4_187 dX12_atom1_73 ?_
            refine lv_iconst (v := 1) C.1 C.2.1 dX12_atom1_76 (by decide) ?_
            refine lv_isub C.1 C.2.1 dX12_atom1_77 ?_
            refine mw_puti C Z hP hS (0) 23 (by decide) rfl rfl rfl (by decide) inX12 tyX12 tyX12_ok nmX12 rfl tw_4_187 rfl rfl dX12_atom1_78 (fun H locs hP hS => ?_)
            have hb92 : mBd (mw_si u88 0 23 ((u88.1 0 23) - 1)) p66 := hb90
            refine lv_aload_n C.1 C.2.1 dX12_atom1_81 rfl (lv_at hl 1 rfl) ?_
            refine mw_geti C Z hP (0) 24 (by decide) rfl rfl rfl (by decide) inX12 tw_4_188 dX12_atom1_82 ?_
            refine mw_top (y := 1) (hb90.1) ?_
            refine lv_if_ne (tgt := 161) C.1 C.2.1 dX12_atom1_85 (by decide) (fun c93 => ?_) (fun c93 => ?_)
            · refine lv_iload_n C.1 C.2.1 dX12_atom1_161 rfl (lv_at hl 0 rfl) ?_
              exact mw_iret C hr hlk Z hP hS dX12_atom1_162 (⟨(((((mFp.rf σ).tr f54).tr f62).tr f91).si (by decide) _), by rw [gA_4, gAt_parX (f := (_, _)) (by omega : k = 12) (by rw [e52, ← e68]; exact hg59) (by omega : ¬ k65 = 13)]; exact hb92⟩)
            · exact absurd c93 (by decide)
        · rw [hg59] at q58
          obtain ⟨f62, hb71⟩ := q58
          refine lv_istore_n (lv' := [(1, .int r56), (0, .ref (mw_a E 0))]) C.1 C.2.1 dX12_atom1_57 rfl hl (by decide) rfl (fun ls hl => ?_)
          refine lv_aload_n C.1 C.2.1 dX12_atom1_58 rfl (lv_at hl 1 rfl) ?_
          refine lv_bipush (v := 41) C.1 C.2.1 dX12_atom1_59 (by decide) ?_
          refine mw_cVi (As := [.int 41]) (rest := []) C Z hP hS (0) (cM_isSignB l E u57 41 hb71.1) vb_X12_isSign tw_5_141 ⟨rfl, rfl⟩ ⟨Nat.le_of_ble_eq_true rfl, Nat.le_of_ble_eq_true rfl⟩ (by decide) rfl rfl rfl rfl hl.1 rfl (Nat.le_of_ble_eq_true rfl) dX12_atom1_61 ⟨Nat.zero_le _, Nat.zero_le _⟩ (fun r94 u95 H locs q96 hP hS => ?_)
          obtain ⟨rfl, q96u⟩ := q96
          rw [q96u] at hP; clear q96u
          refine lv_if_ne (tgt := 71) C.1 C.2.1 dX12_atom1_64 (by decide) (fun c97 => ?_) (fun c97 => ?_)
          · exact absurd c97 (by decide)
          · refine lv_aload_n C.1 C.2.1 dX12_atom1_67 rfl (lv_at hl 1 rfl) ?_
            refine mw_cVv (As := []) (rest := []) C Z hP hS (0) (cM_failB l E u57 hb71.1) vb_X12_fail tw_5_89 ⟨rfl, rfl⟩ ⟨Nat.le_of_ble_eq_true rfl, Nat.le_of_ble_eq_true rfl⟩ (by decide) rfl rfl rfl rfl hl.1 rfl (Nat.le_of_ble_eq_true rfl) dX12_atom1_68 ⟨Nat.zero_le _, Nat.zero_le _⟩ (fun u99 H locs q100 hP hS => ?_)
            rw [q100] at hP; clear q100
            refine lv_aload_n C.1 C.2.1 dX12_atom1_71 rfl (lv_at hl 1 rfl) ?_
            refine lv_dup C.1 C.2.1 dX12_atom1_72 rfl ?_
            refine mw_geti C Z hP (0) 23 (by decide) rfl rfl rfl (by decide) inX12 tw_4_187 dX12_atom1_73 ?_
            refine lv_iconst (v := 1) C.1 C.2.1 dX12_atom1_76 (by decide) ?_
            refine lv_isub C.1 C.2.1 dX12_atom1_77 ?_
            refine mw_puti C Z hP hS (0) 23 (by decide) rfl rfl rfl (by decide) inX12 tyX12 tyX12_ok nmX12 rfl tw_4_187 rfl rfl dX12_atom1_78 (fun H locs hP hS => ?_)
            have hb101 : mBd (mw_si u57 0 23 ((u57.1 0 23) - 1)) qq61 := hb71
            refine lv_aload_n C.1 C.2.1 dX12_atom1_81 rfl (lv_at hl 1 rfl) ?_
            refine mw_geti C Z hP (0) 24 (by decide) rfl rfl rfl (by decide) inX12 tw_4_188 dX12_atom1_82 ?_
            refine mw_top (y := 1) (hb71.1) ?_
            refine lv_if_ne (tgt := 161) C.1 C.2.1 dX12_atom1_85 (by decide) (fun c102 => ?_) (fun c102 => ?_)
            · refine lv_iload_n C.1 C.2.1 dX12_atom1_161 rfl (lv_at hl 0 rfl) ?_
              exact mw_iret C hr hlk Z hP hS dX12_atom1_162 (⟨((((mFp.rf σ).tr f54).tr f62).si (by decide) _), by rw [gA_4, gAt_parF (f := (_, _)) (by omega : k = 12) (by rw [e52]; exact hg59)]; exact hb101⟩)
            · exact absurd c102 (by decide)
  · have c4 := bI_n.mp c4
    refine lv_aload_n C.1 C.2.1 dX12_atom1_11 rfl (lv_at hl 1 rfl) ?_
    refine mw_cVi (As := []) (rest := []) C Z hP hS (0) (cM_opens l E σ t n bs k p ts 1 (by decide) h (by omega) (by omega)) vb_X12_opens tw_5_105 ⟨rfl, rfl⟩ ⟨Nat.le_of_ble_eq_true rfl, Nat.le_of_ble_eq_true rfl⟩ (by decide) rfl rfl rfl rfl hl.1 rfl (Nat.le_of_ble_eq_true rfl) dX12_atom1_12 ⟨Nat.zero_le _, Nat.zero_le _⟩ (fun r103 u104 H locs q105 hP hS => ?_)
    obtain ⟨rfl, ⟨k106, p107, ts108, e109, h110⟩, f111⟩ := q105
    refine lv_if_eq (tgt := 161) C.1 C.2.1 dX12_atom1_15 (by decide) (fun c112 => ?_) (fun c112 => ?_)
    · exact absurd c112 (by decide)
    · refine lv_aload_n C.1 C.2.1 dX12_atom1_18 rfl (lv_at hl 1 rfl) ?_
      refine mw_cVi (As := []) (rest := []) C Z hP hS (0) (cM_atom2 l E u104 t n bs k106 p107 ts108 h110) vb_X12_atom2 tw_5_199 ⟨rfl, rfl⟩ ⟨Nat.le_of_ble_eq_true rfl, Nat.le_of_ble_eq_true rfl⟩ (by decide) rfl rfl rfl rfl hl.1 rfl (Nat.le_of_ble_eq_true rfl) dX12_atom1_19 ⟨Nat.zero_le _, Nat.zero_le _⟩ (fun r113 u114 H locs q115 hP hS => ?_)
      rcases hg116 : ((gD 3).1) ((k106, p107) :: ts108) with zz117 | qq118
      · obtain ⟨cs120, ts121⟩ := zz117
        rw [hg116] at q115
        obtain ⟨f119, ⟨k122, p123, ts124, e125, h126⟩, v127⟩ := q115
        have v127 := ((mFp.rf σ).tr f111).evv v127
        refine lv_ineg C.1 C.2.1 dX12_atom1_22 ?_
        refine lv_istore_n (lv' := [(1, .int (-r113)), (0, .ref (mw_a E 0))]) C.1 C.2.1 dX12_atom1_23 rfl hl (by decide) rfl (fun ls hl => ?_)
        refine lv_aload_n C.1 C.2.1 dX12_atom1_24 rfl (lv_at hl 1 rfl) ?_
        refine lv_dup C.1 C.2.1 dX12_atom1_25 rfl ?_
        refine mw_geti C Z hP (0) 23 (by decide) rfl rfl rfl (by decide) inX12 tw_4_187 dX12_atom1_26 ?_
        refine mw_top (y := nI 2) (h126.2.2.1) ?_
        refine lv_iconst (v := 1) C.1 C.2.1 dX12_atom1_29 (by decide) ?_
        refine lv_isub C.1 C.2.1 dX12_atom1_30 ?_
        refine mw_top (y := nI 1) (by decide) ?_
        refine mw_puti C Z hP hS (0) 23 (by decide) rfl rfl rfl (by decide) inX12 tyX12 tyX12_ok nmX12 rfl tw_4_187 rfl rfl dX12_atom1_31 (fun H locs hP hS => ?_)
        have h129 : mPS (mw_si u114 0 23 (nI 1)) t n bs k122 p123 ts124 1 := ⟨h126.1, h126.2.1, rfl, h126.2.2.2⟩
        refine lv_goto (tgt := 161) C.1 C.2.1 dX12_atom1_34 (by decide) ?_
        refine lv_iload_n C.1 C.2.1 dX12_atom1_161 rfl (lv_at hl 0 rfl) ?_
        exact mw_iret C hr hlk Z hP hS dX12_atom1_162 (⟨((((mFp.rf σ).tr f111).tr f119).si (by decide) _), by rw [gA_4, gAt_negI (f := (_, _)) (by omega : k = 16) (by rw [e109]; exact hg116)]; exact ⟨⟨k122, p123, ts124, e125, h129⟩, ruV_neg v127⟩⟩)
      · rw [hg116] at q115
        obtain ⟨f119, hb128⟩ := q115
        refine lv_ineg C.1 C.2.1 dX12_atom1_22 ?_
        refine lv_istore_n (lv' := [(1, .int (-r113)), (0, .ref (mw_a E 0))]) C.1 C.2.1 dX12_atom1_23 rfl hl (by decide) rfl (fun ls hl => ?_)
        refine lv_aload_n C.1 C.2.1 dX12_atom1_24 rfl (lv_at hl 1 rfl) ?_
        refine lv_dup C.1 C.2.1 dX12_atom1_25 rfl ?_
        refine mw_geti C Z hP (0) 23 (by decide) rfl rfl rfl (by decide) inX12 tw_4_187 dX12_atom1_26 ?_
        refine lv_iconst (v := 1) C.1 C.2.1 dX12_atom1_29 (by decide) ?_
        refine lv_isub C.1 C.2.1 dX12_atom1_30 ?_
        refine mw_puti C Z hP hS (0) 23 (by decide) rfl rfl rfl (by decide) inX12 tyX12 tyX12_ok nmX12 rfl tw_4_187 rfl rfl dX12_atom1_31 (fun H locs hP hS => ?_)
        have hb130 : mBd (mw_si u114 0 23 ((u114.1 0 23) - 1)) qq118 := hb128
        refine lv_goto (tgt := 161) C.1 C.2.1 dX12_atom1_34 (by decide) ?_
        refine lv_iload_n C.1 C.2.1 dX12_atom1_161 rfl (lv_at hl 0 rfl) ?_
        exact mw_iret C hr hlk Z hP hS dX12_atom1_162 (⟨((((mFp.rf σ).tr f111).tr f119).si (by decide) _), by rw [gA_4, gAt_negF (f := (_, _)) (by omega : k = 16) (by rw [e109]; exact hg116)]; exact hb130⟩)

set_option maxHeartbeats 4000000 in
set_option maxRecDepth 100000 in
theorem cM_term1 (l : Launch) (E : mw_E) (σ : mw_M) (t n : Nat) (bs : Nat → Int32) (k p : Nat) (ts : List (Nat × Nat)) (h : mPS σ t n bs k p ts 1) : mw_Ci shM 13 gM l yX12_term1 cX12_term1 2 (some .int) (rmF 29 640) E [.ref (mw_a E 0)] σ (fun r u => mOK σ u t n bs 1 r (gLevel gTim (gD 4).1 ((k, p) :: ts))) := by
  refine mw_of (by decide) gM_ok (Nat.le_of_ble_eq_true rfl) ?_
  intro p_ e_ s_ m_ below meth c_ C hr hlk Z hP ls hl
  have C : CallFix p_ m_ c_ cX12_term1 2 s_ _ lw_good RX12 := C
  have hl : lv_has ls 2 [(0, .ref (mw_a E 0))] := hl
  have hS : va_S (mw_A 13 E) s_.heap s_.heap [] := va_S.rf
  refine lv_aload_n C.1 C.2.1 dX12_term1_0 rfl (lv_at hl 0 rfl) ?_
  refine mw_cVi (As := []) (rest := []) C Z hP hS (0) (cM_atom1 l E σ t n bs k p ts h) vb_X12_atom1 tw_5_219 ⟨rfl, rfl⟩ ⟨Nat.le_of_ble_eq_true rfl, Nat.le_of_ble_eq_true rfl⟩ (by decide) rfl rfl rfl rfl hl.1 rfl (Nat.le_of_ble_eq_true rfl) dX12_term1_1 ⟨Nat.zero_le _, Nat.zero_le _⟩ (fun r1 u2 H locs q3 hP hS => ?_)
  rcases hg4 : ((gD 4).1) ((k, p) :: ts) with zz5 | qq6
  · obtain ⟨cs8, ts9⟩ := zz5
    rw [hg4] at q3
    obtain ⟨f7, ⟨k10, p11, ts12, e13, h14⟩, v15⟩ := q3
    have v15 := (mFp.rf σ).evv v15
    refine lv_istore_n (lv' := [(1, .int r1), (0, .ref (mw_a E 0))]) C.1 C.2.1 dX12_term1_4 rfl hl (by decide) rfl (fun ls hl => ?_)
    have lp : ∀ (N : Nat) (cs : List Nat) (k2 p2 : Nat) (ts2 : List (Nat × Nat)) (v : Int32) (ς : mw_M) (H : Heap) (locs : List Loc), ts2.length + 1 ≤ N → mPS ς t n bs k2 p2 ts2 1 → mFp σ ς → ruV (mEv σ) cs v → gLevel gTim (gD 4).1 ((k, p) :: ts) = gLoop gTim ((gD 4).1) N cs ((k2, p2) :: ts2) → va_P (mw_D E) vwCl (mw_ws shM 13 E ς) H → va_S (mw_A 13 E) s_.heap H locs → ∀ (ls : Array Slot), lv_has ls 2 [(0, .ref (mw_a E 0)), (1, .int v)] → mWi p_ l e_ (rmF 29 640) s_ m_ [.ref (mw_a E 0)] below meth c_ E (fun r u => mOK σ u t n bs 1 r (gLevel gTim (gD 4).1 ((k, p) :: ts))) H locs (F0 m_ 5 ls []) := by
      intro N
      induction N with
      | zero => intro cs k2 p2 ts2 v ς H locs hN; exact absurd hN (by omega)
      | succ N ih =>
        intro cs k2 p2 ts2 v ς H locs hN h2 f2 hv hR hP hS ls hl
        refine lv_aload_n C.1 C.2.1 dX12_term1_5 rfl (lv_at hl 0 rfl) ?_
        refine lv_bipush (v := 42) C.1 C.2.1 dX12_term1_6 (by decide) ?_
        refine mw_cVi (As := [.int 42]) (rest := []) C Z hP hS (0) (cM_isSignP l E ς t n bs k2 p2 ts2 1 h2 5 (by decide)) vb_X12_isSign tw_5_141 ⟨rfl, rfl⟩ ⟨Nat.le_of_ble_eq_true rfl, Nat.le_of_ble_eq_true rfl⟩ (by decide) rfl rfl rfl rfl hl.1 rfl (Nat.le_of_ble_eq_true rfl) dX12_term1_8 ⟨Nat.zero_le _, Nat.zero_le _⟩ (fun r17 u18 H locs q19 hP hS => ?_)
        obtain ⟨rfl, q19u⟩ := q19
        rw [q19u] at hP; clear q19u
        refine lv_if_eq (tgt := 28) C.1 C.2.1 dX12_term1_11 (by decide) (fun c20 => ?_) (fun c20 => ?_)
        · have c20 := bI_0.mp c20
          refine lv_iload_n C.1 C.2.1 dX12_term1_28 rfl (lv_at hl 1 rfl) ?_
          exact mw_iret C hr hlk Z hP hS dX12_term1_29 (⟨f2, by rw [hR, gLoop_e (by simp only [gTim, gAdd, gAnd, gOr, beq_iff_eq, Bool.or_eq_true]; omega)]; exact ⟨⟨k2, p2, ts2, rfl, h2⟩, hv⟩⟩)
        · have c20 := bI_n.mp c20
          refine lv_aload_n C.1 C.2.1 dX12_term1_14 rfl (lv_at hl 0 rfl) ?_
          refine mw_cVv (As := []) (rest := []) C Z hP hS (0) (cM_nextP l E ς t n bs k2 p2 ts2 1 h2 (by omega) (by omega)) vb_X12_next tw_5_64 ⟨rfl, rfl⟩ ⟨Nat.le_of_ble_eq_true rfl, Nat.le_of_ble_eq_true rfl⟩ (by decide) rfl rfl rfl rfl hl.1 rfl (Nat.le_of_ble_eq_true rfl) dX12_term1_15 ⟨Nat.zero_le _, Nat.zero_le _⟩ (fun u22 H locs q23 hP hS => ?_)
          obtain ⟨⟨k24, p25, ts26, e27, h28⟩, f29⟩ := q23
          refine lv_iload_n C.1 C.2.1 dX12_term1_18 rfl (lv_at hl 1 rfl) ?_
          refine lv_aload_n C.1 C.2.1 dX12_term1_19 rfl (lv_at hl 0 rfl) ?_
          refine mw_cVi (As := []) (rest := [.int v]) C Z hP hS (0) (cM_atom1 l E u22 t n bs k24 p25 ts26 h28) vb_X12_atom1 tw_5_219 ⟨rfl, rfl⟩ ⟨Nat.le_of_ble_eq_true rfl, Nat.le_of_ble_eq_true rfl⟩ (by decide) rfl rfl rfl rfl hl.1 rfl (Nat.le_of_ble_eq_true rfl) dX12_term1_20 ⟨Nat.zero_le _, Nat.zero_le _⟩ (fun r30 u31 H locs q32 hP hS => ?_)
          rcases hg33 : ((gD 4).1) ((k24, p25) :: ts26) with zz34 | qq35
          · obtain ⟨cs37, ts38⟩ := zz34
            rw [hg33] at q32
            obtain ⟨f36, ⟨k39, p40, ts41, e42, h43⟩, v44⟩ := q32
            have v44 := (f2.tr f29).evv v44
            refine lv_imul C.1 C.2.1 dX12_term1_23 ?_
            refine lv_istore_n (lv' := [(1, .int (v * r30)), (0, .ref (mw_a E 0))]) C.1 C.2.1 dX12_term1_24 rfl hl (by decide) rfl (fun ls hl => ?_)
            refine lv_goto (tgt := 5) C.1 C.2.1 dX12_term1_25 (by decide) ?_
            exact ih (cs ++ cs37 ++ [k2]) k39 p40 ts41 (v * r30) u31 _ _ (by have d := (gD_dec 4).1 _ _ _ hg33; rw [e42, List.length_cons, List.length_cons] at d; rw [e27, List.length_cons] at hN; omega) h43 ((f2.tr f29).tr f36) (by have z := ruV_op (c := k2) hv v44 (by omega); rwa [show opF k2 v r30 = v * r30 by rw [c20]; rfl] at z) (by rw [hR, gLoop_s (by simp only [gTim, gAdd, gAnd, gOr, beq_iff_eq, Bool.or_eq_true]; omega) (by rw [e27]; exact hg33), e42]) hP hS ls (lv_sub hl [1, 0] rfl)
          · rw [hg33] at q32
            obtain ⟨f36, hb45⟩ := q32
            refine lv_imul C.1 C.2.1 dX12_term1_23 ?_
            refine lv_istore_n (lv' := [(1, .int (v * r30)), (0, .ref (mw_a E 0))]) C.1 C.2.1 dX12_term1_24 rfl hl (by decide) rfl (fun ls hl => ?_)
            refine lv_goto (tgt := 5) C.1 C.2.1 dX12_term1_25 (by decide) ?_
            refine lv_aload_n C.1 C.2.1 dX12_term1_5 rfl (lv_at hl 1 rfl) ?_
            refine lv_bipush (v := 42) C.1 C.2.1 dX12_term1_6 (by decide) ?_
            refine mw_cVi (As := [.int 42]) (rest := []) C Z hP hS (0) (cM_isSignB l E u31 42 hb45.1) vb_X12_isSign tw_5_141 ⟨rfl, rfl⟩ ⟨Nat.le_of_ble_eq_true rfl, Nat.le_of_ble_eq_true rfl⟩ (by decide) rfl rfl rfl rfl hl.1 rfl (Nat.le_of_ble_eq_true rfl) dX12_term1_8 ⟨Nat.zero_le _, Nat.zero_le _⟩ (fun r46 u47 H locs q48 hP hS => ?_)
            obtain ⟨rfl, q48u⟩ := q48
            rw [q48u] at hP; clear q48u
            refine lv_if_eq (tgt := 28) C.1 C.2.1 dX12_term1_11 (by decide) (fun c49 => ?_) (fun c49 => ?_)
            · refine lv_iload_n C.1 C.2.1 dX12_term1_28 rfl (lv_at hl 0 rfl) ?_
              exact mw_iret C hr hlk Z hP hS dX12_term1_29 (⟨((f2.tr f29).tr f36), by rw [hR, gLoop_f (by simp only [gTim, gAdd, gAnd, gOr, beq_iff_eq, Bool.or_eq_true]; omega) (by rw [e27]; exact hg33)]; exact hb45⟩)
            · exact absurd c49 (by decide)
    exact lp (ts12.length + 1) cs8 k10 p11 ts12 r1 u2 _ _ (Nat.le_refl _) h14 ((mFp.rf σ).tr f7) v15 (by rw [gLevel_I hg4, e13]; rfl) hP hS ls (lv_sub hl [1, 0] rfl)
  · rw [hg4] at q3
    obtain ⟨f7, hb16⟩ := q3
    refine lv_istore_n (lv' := [(1, .int r1), (0, .ref (mw_a E 0))]) C.1 C.2.1 dX12_term1_4 rfl hl (by decide) rfl (fun ls hl => ?_)
    refine lv_aload_n C.1 C.2.1 dX12_term1_5 rfl (lv_at hl 1 rfl) ?_
    refine lv_bipush (v := 42) C.1 C.2.1 dX12_term1_6 (by decide) ?_
    refine mw_cVi (As := [.int 42]) (rest := []) C Z hP hS (0) (cM_isSignB l E u2 42 hb16.1) vb_X12_isSign tw_5_141 ⟨rfl, rfl⟩ ⟨Nat.le_of_ble_eq_true rfl, Nat.le_of_ble_eq_true rfl⟩ (by decide) rfl rfl rfl rfl hl.1 rfl (Nat.le_of_ble_eq_true rfl) dX12_term1_8 ⟨Nat.zero_le _, Nat.zero_le _⟩ (fun r50 u51 H locs q52 hP hS => ?_)
    obtain ⟨rfl, q52u⟩ := q52
    rw [q52u] at hP; clear q52u
    refine lv_if_eq (tgt := 28) C.1 C.2.1 dX12_term1_11 (by decide) (fun c53 => ?_) (fun c53 => ?_)
    · refine lv_iload_n C.1 C.2.1 dX12_term1_28 rfl (lv_at hl 0 rfl) ?_
      exact mw_iret C hr hlk Z hP hS dX12_term1_29 (⟨((mFp.rf σ).tr f7), by rw [gLevel_F hg4]; exact hb16⟩)
    · exact absurd c53 (by decide)

set_option maxHeartbeats 4000000 in
set_option maxRecDepth 100000 in
theorem cM_added1 (l : Launch) (E : mw_E) (σ : mw_M) (t n : Nat) (bs : Nat → Int32) (k p : Nat) (ts : List (Nat × Nat)) (h : mPS σ t n bs k p ts 1) : mw_Ci shM 13 gM l yX12_added1 cX12_added1 4 (some .int) (rmF 30 661) E [.ref (mw_a E 0)] σ (fun r u => mOK σ u t n bs 1 r (gLevel gAdd (gLevel gTim (gD 4).1) ((k, p) :: ts))) := by
  refine mw_of (by decide) gM_ok (Nat.le_of_ble_eq_true rfl) ?_
  intro p_ e_ s_ m_ below meth c_ C hr hlk Z hP ls hl
  have C : CallFix p_ m_ c_ cX12_added1 4 s_ _ lw_good RX12 := C
  have hl : lv_has ls 4 [(0, .ref (mw_a E 0))] := hl
  have hS : va_S (mw_A 13 E) s_.heap s_.heap [] := va_S.rf
  refine lv_aload_n C.1 C.2.1 dX12_added1_0 rfl (lv_at hl 0 rfl) ?_
  refine mw_cVi (As := []) (rest := []) C Z hP hS (0) (cM_term1 l E σ t n bs k p ts h) vb_X12_term1 tw_5_215 ⟨rfl, rfl⟩ ⟨Nat.le_of_ble_eq_true rfl, Nat.le_of_ble_eq_true rfl⟩ (by decide) rfl rfl rfl rfl hl.1 rfl (Nat.le_of_ble_eq_true rfl) dX12_added1_1 ⟨Nat.zero_le _, Nat.zero_le _⟩ (fun r1 u2 H locs q3 hP hS => ?_)
  rcases hg4 : (gLevel gTim (gD 4).1) ((k, p) :: ts) with zz5 | qq6
  · obtain ⟨cs8, ts9⟩ := zz5
    rw [hg4] at q3
    obtain ⟨f7, ⟨k10, p11, ts12, e13, h14⟩, v15⟩ := q3
    have v15 := (mFp.rf σ).evv v15
    refine lv_istore_n (lv' := [(1, .int r1), (0, .ref (mw_a E 0))]) C.1 C.2.1 dX12_added1_4 rfl hl (by decide) rfl (fun ls hl => ?_)
    have lp : ∀ (N : Nat) (cs : List Nat) (k2 p2 : Nat) (ts2 : List (Nat × Nat)) (v : Int32) (ς : mw_M) (H : Heap) (locs : List Loc), ts2.length + 1 ≤ N → mPS ς t n bs k2 p2 ts2 1 → mFp σ ς → ruV (mEv σ) cs v → gLevel gAdd (gLevel gTim (gD 4).1) ((k, p) :: ts) = gLoop gAdd (gLevel gTim (gD 4).1) N cs ((k2, p2) :: ts2) → va_P (mw_D E) vwCl (mw_ws shM 13 E ς) H → va_S (mw_A 13 E) s_.heap H locs → ∀ (ls : Array Slot), lv_has ls 4 [(0, .ref (mw_a E 0)), (1, .int v)] → mWi p_ l e_ (rmF 30 661) s_ m_ [.ref (mw_a E 0)] below meth c_ E (fun r u => mOK σ u t n bs 1 r (gLevel gAdd (gLevel gTim (gD 4).1) ((k, p) :: ts))) H locs (F0 m_ 5 ls []) := by
      intro N
      induction N with
      | zero => intro cs k2 p2 ts2 v ς H locs hN; exact absurd hN (by omega)
      | succ N ih =>
        intro cs k2 p2 ts2 v ς H locs hN h2 f2 hv hR hP hS ls hl
        refine lv_aload_n C.1 C.2.1 dX12_added1_5 rfl (lv_at hl 0 rfl) ?_
        refine lv_bipush (v := 43) C.1 C.2.1 dX12_added1_6 (by decide) ?_
        refine mw_cVi (As := [.int 43]) (rest := []) C Z hP hS (0) (cM_isSignP l E ς t n bs k2 p2 ts2 1 h2 3 (by decide)) vb_X12_isSign tw_5_141 ⟨rfl, rfl⟩ ⟨Nat.le_of_ble_eq_true rfl, Nat.le_of_ble_eq_true rfl⟩ (by decide) rfl rfl rfl rfl hl.1 rfl (Nat.le_of_ble_eq_true rfl) dX12_added1_8 ⟨Nat.zero_le _, Nat.zero_le _⟩ (fun r17 u18 H locs q19 hP hS => ?_)
        obtain ⟨rfl, q19u⟩ := q19
        rw [q19u] at hP; clear q19u
        refine lv_if_ne (tgt := 23) C.1 C.2.1 dX12_added1_11 (by decide) (fun c20 => ?_) (fun c20 => ?_)
        · have c20 := bI_n.mp c20
          refine lv_aload_n C.1 C.2.1 dX12_added1_23 rfl (lv_at hl 0 rfl) ?_
          refine mw_getl C Z hP (0) 22 (by decide) rfl rfl rfl (by decide) inX12 tw_4_186 dX12_added1_24 ?_
          refine mw_topl (y := 43) (((h2.2.2.2.2.2.1 3 (by decide)).mpr c20).2) ?_
          refine lv_ldc2 (own := RX12) C.1 C.2.1 C.2.2.2.1 (C.2.2.2.2 _ tw_5_149) dX12_added1_27 ?_
          refine W.lcmp C.1 C.2.1 dX12_added1_30 ?_
          refine lv_if_ne (tgt := 38) C.1 C.2.1 dX12_added1_31 (by decide) (fun c21 => ?_) (fun c21 => ?_)
          · have c21 := (not_congr (lg_cmp_eq _ _)).mp c21
            exact absurd c21 (by decide)
          · have c21 := (lg_cmp_eq _ _).mp c21
            refine lv_iconst (v := 1) C.1 C.2.1 dX12_added1_34 (by decide) ?_
            refine lv_goto (tgt := 39) C.1 C.2.1 dX12_added1_35 (by decide) ?_
            refine lv_istore_n (lv' := [(2, .int 1), (0, .ref (mw_a E 0)), (1, .int v)]) C.1 C.2.1 dX12_added1_39 rfl hl (by decide) rfl (fun ls hl => ?_)
            refine lv_aload_n C.1 C.2.1 dX12_added1_40 rfl (lv_at hl 1 rfl) ?_
            refine mw_cVv (As := []) (rest := []) C Z hP hS (0) (cM_nextP l E ς t n bs k2 p2 ts2 1 h2 (by omega) (by omega)) vb_X12_next tw_5_64 ⟨rfl, rfl⟩ ⟨Nat.le_of_ble_eq_true rfl, Nat.le_of_ble_eq_true rfl⟩ (by decide) rfl rfl rfl rfl hl.1 rfl (Nat.le_of_ble_eq_true rfl) dX12_added1_41 ⟨Nat.zero_le _, Nat.zero_le _⟩ (fun u23 H locs q24 hP hS => ?_)
            obtain ⟨⟨k25, p26, ts27, e28, h29⟩, f30⟩ := q24
            refine lv_aload_n C.1 C.2.1 dX12_added1_44 rfl (lv_at hl 1 rfl) ?_
            refine mw_cVi (As := []) (rest := []) C Z hP hS (0) (cM_term1 l E u23 t n bs k25 p26 ts27 h29) vb_X12_term1 tw_5_215 ⟨rfl, rfl⟩ ⟨Nat.le_of_ble_eq_true rfl, Nat.le_of_ble_eq_true rfl⟩ (by decide) rfl rfl rfl rfl hl.1 rfl (Nat.le_of_ble_eq_true rfl) dX12_added1_45 ⟨Nat.zero_le _, Nat.zero_le _⟩ (fun r31 u32 H locs q33 hP hS => ?_)
            rcases hg34 : (gLevel gTim (gD 4).1) ((k25, p26) :: ts27) with zz35 | qq36
            · obtain ⟨cs38, ts39⟩ := zz35
              rw [hg34] at q33
              obtain ⟨f37, ⟨k40, p41, ts42, e43, h44⟩, v45⟩ := q33
              have v45 := (f2.tr f30).evv v45
              refine lv_istore_n (lv' := [(3, .int r31), (2, .int 1), (0, .ref (mw_a E 0)), (1, .int v)]) C.1 C.2.1 dX12_added1_48 rfl hl (by decide) rfl (fun ls hl => ?_)
              refine lv_iload_n C.1 C.2.1 dX12_added1_49 rfl (lv_at hl 1 rfl) ?_
              refine lv_if_eq (tgt := 59) C.1 C.2.1 dX12_added1_50 (by decide) (fun c47 => ?_) (fun c47 => ?_)
              · exact absurd c47 (by decide)
              · refine lv_iload_n C.1 C.2.1 dX12_added1_53 rfl (lv_at hl 3 rfl) ?_
                refine lv_iload_n C.1 C.2.1 dX12_added1_54 rfl (lv_at hl 0 rfl) ?_
                refine lv_iadd C.1 C.2.1 dX12_added1_55 ?_
                refine lv_goto (tgt := 62) C.1 C.2.1 dX12_added1_56 (by decide) ?_
                refine lv_istore_n (lv' := [(1, .int (v + r31)), (3, .int r31), (2, .int 1), (0, .ref (mw_a E 0))]) C.1 C.2.1 dX12_added1_62 rfl hl (by decide) rfl (fun ls hl => ?_)
                refine lv_goto (tgt := 5) C.1 C.2.1 dX12_added1_63 (by decide) ?_
                exact ih (cs ++ cs38 ++ [k2]) k40 p41 ts42 (v + r31) u32 _ _ (by have d := (gLevel_dec (gD_dec 4).1) _ _ _ hg34; rw [e43, List.length_cons, List.length_cons] at d; rw [e28, List.length_cons] at hN; omega) h44 ((f2.tr f30).tr f37) (by have z := ruV_op (c := k2) hv v45 (by omega); rwa [show opF k2 v r31 = v + r31 by rw [c20]; rfl] at z) (by rw [hR, gLoop_s (by simp only [gTim, gAdd, gAnd, gOr, beq_iff_eq, Bool.or_eq_true]; omega) (by rw [e28]; exact hg34), e43]) hP hS ls (lv_sub hl [3, 0] rfl)
            · rw [hg34] at q33
              obtain ⟨f37, hb46⟩ := q33
              refine lv_istore_n (lv' := [(3, .int r31), (2, .int 1), (0, .ref (mw_a E 0)), (1, .int v)]) C.1 C.2.1 dX12_added1_48 rfl hl (by decide) rfl (fun ls hl => ?_)
              refine lv_iload_n C.1 C.2.1 dX12_added1_49 rfl (lv_at hl 1 rfl) ?_
              refine lv_if_eq (tgt := 59) C.1 C.2.1 dX12_added1_50 (by decide) (fun c48 => ?_) (fun c48 => ?_)
              · exact absurd c48 (by decide)
              · refine lv_iload_n C.1 C.2.1 dX12_added1_53 rfl (lv_at hl 3 rfl) ?_
                refine lv_iload_n C.1 C.2.1 dX12_added1_54 rfl (lv_at hl 0 rfl) ?_
                refine lv_iadd C.1 C.2.1 dX12_added1_55 ?_
                refine lv_goto (tgt := 62) C.1 C.2.1 dX12_added1_56 (by decide) ?_
                refine lv_istore_n (lv' := [(1, .int (v + r31)), (3, .int r31), (2, .int 1), (0, .ref (mw_a E 0))]) C.1 C.2.1 dX12_added1_62 rfl hl (by decide) rfl (fun ls hl => ?_)
                refine lv_goto (tgt := 5) C.1 C.2.1 dX12_added1_63 (by decide) ?_
                refine lv_aload_n C.1 C.2.1 dX12_added1_5 rfl (lv_at hl 3 rfl) ?_
                refine lv_bipush (v := 43) C.1 C.2.1 dX12_added1_6 (by decide) ?_
                refine mw_cVi (As := [.int 43]) (rest := []) C Z hP hS (0) (cM_isSignB l E u32 43 hb46.1) vb_X12_isSign tw_5_141 ⟨rfl, rfl⟩ ⟨Nat.le_of_ble_eq_true rfl, Nat.le_of_ble_eq_true rfl⟩ (by decide) rfl rfl rfl rfl hl.1 rfl (Nat.le_of_ble_eq_true rfl) dX12_added1_8 ⟨Nat.zero_le _, Nat.zero_le _⟩ (fun r49 u50 H locs q51 hP hS => ?_)
                obtain ⟨rfl, q51u⟩ := q51
                rw [q51u] at hP; clear q51u
                refine lv_if_ne (tgt := 23) C.1 C.2.1 dX12_added1_11 (by decide) (fun c52 => ?_) (fun c52 => ?_)
                · exact absurd c52 (by decide)
                · refine lv_aload_n C.1 C.2.1 dX12_added1_14 rfl (lv_at hl 3 rfl) ?_
                  refine lv_bipush (v := 45) C.1 C.2.1 dX12_added1_15 (by decide) ?_
                  refine mw_cVi (As := [.int 45]) (rest := []) C Z hP hS (0) (cM_isSignB l E u32 45 hb46.1) vb_X12_isSign tw_5_141 ⟨rfl, rfl⟩ ⟨Nat.le_of_ble_eq_true rfl, Nat.le_of_ble_eq_true rfl⟩ (by decide) rfl rfl rfl rfl hl.1 rfl (Nat.le_of_ble_eq_true rfl) dX12_added1_17 ⟨Nat.zero_le _, Nat.zero_le _⟩ (fun r53 u54 H locs q55 hP hS => ?_)
                  obtain ⟨rfl, q55u⟩ := q55
                  rw [q55u] at hP; clear q55u
                  refine lv_if_eq (tgt := 66) C.1 C.2.1 dX12_added1_20 (by decide) (fun c56 => ?_) (fun c56 => ?_)
                  · refine lv_iload_n C.1 C.2.1 dX12_added1_66 rfl (lv_at hl 0 rfl) ?_
                    exact mw_iret C hr hlk Z hP hS dX12_added1_67 (⟨((f2.tr f30).tr f37), by rw [hR, gLoop_f (by simp only [gTim, gAdd, gAnd, gOr, beq_iff_eq, Bool.or_eq_true]; omega) (by rw [e28]; exact hg34)]; exact hb46⟩)
                  · exact absurd c56 (by decide)
        · have c20 := bI_0.mp c20
          refine lv_aload_n C.1 C.2.1 dX12_added1_14 rfl (lv_at hl 0 rfl) ?_
          refine lv_bipush (v := 45) C.1 C.2.1 dX12_added1_15 (by decide) ?_
          refine mw_cVi (As := [.int 45]) (rest := []) C Z hP hS (0) (cM_isSignP l E ς t n bs k2 p2 ts2 1 h2 4 (by decide)) vb_X12_isSign tw_5_141 ⟨rfl, rfl⟩ ⟨Nat.le_of_ble_eq_true rfl, Nat.le_of_ble_eq_true rfl⟩ (by decide) rfl rfl rfl rfl hl.1 rfl (Nat.le_of_ble_eq_true rfl) dX12_added1_17 ⟨Nat.zero_le _, Nat.zero_le _⟩ (fun r57 u58 H locs q59 hP hS => ?_)
          obtain ⟨rfl, q59u⟩ := q59
          rw [q59u] at hP; clear q59u
          refine lv_if_eq (tgt := 66) C.1 C.2.1 dX12_added1_20 (by decide) (fun c60 => ?_) (fun c60 => ?_)
          · have c60 := bI_0.mp c60
            refine lv_iload_n C.1 C.2.1 dX12_added1_66 rfl (lv_at hl 1 rfl) ?_
            exact mw_iret C hr hlk Z hP hS dX12_added1_67 (⟨f2, by rw [hR, gLoop_e (by simp only [gTim, gAdd, gAnd, gOr, beq_iff_eq, Bool.or_eq_true]; omega)]; exact ⟨⟨k2, p2, ts2, rfl, h2⟩, hv⟩⟩)
          · have c60 := bI_n.mp c60
            refine lv_aload_n C.1 C.2.1 dX12_added1_23 rfl (lv_at hl 0 rfl) ?_
            refine mw_getl C Z hP (0) 22 (by decide) rfl rfl rfl (by decide) inX12 tw_4_186 dX12_added1_24 ?_
            refine mw_topl (y := 45) (((h2.2.2.2.2.2.1 4 (by decide)).mpr c60).2) ?_
            refine lv_ldc2 (own := RX12) C.1 C.2.1 C.2.2.2.1 (C.2.2.2.2 _ tw_5_149) dX12_added1_27 ?_
            refine W.lcmp C.1 C.2.1 dX12_added1_30 ?_
            refine lv_if_ne (tgt := 38) C.1 C.2.1 dX12_added1_31 (by decide) (fun c61 => ?_) (fun c61 => ?_)
            · have c61 := (not_congr (lg_cmp_eq _ _)).mp c61
              refine lv_iconst (v := 0) C.1 C.2.1 dX12_added1_38 (by decide) ?_
              refine lv_istore_n (lv' := [(2, .int 0), (0, .ref (mw_a E 0)), (1, .int v)]) C.1 C.2.1 dX12_added1_39 rfl hl (by decide) rfl (fun ls hl => ?_)
              refine lv_aload_n C.1 C.2.1 dX12_added1_40 rfl (lv_at hl 1 rfl) ?_
              refine mw_cVv (As := []) (rest := []) C Z hP hS (0) (cM_nextP l E ς t n bs k2 p2 ts2 1 h2 (by omega) (by omega)) vb_X12_next tw_5_64 ⟨rfl, rfl⟩ ⟨Nat.le_of_ble_eq_true rfl, Nat.le_of_ble_eq_true rfl⟩ (by decide) rfl rfl rfl rfl hl.1 rfl (Nat.le_of_ble_eq_true rfl) dX12_added1_41 ⟨Nat.zero_le _, Nat.zero_le _⟩ (fun u63 H locs q64 hP hS => ?_)
              obtain ⟨⟨k65, p66, ts67, e68, h69⟩, f70⟩ := q64
              refine lv_aload_n C.1 C.2.1 dX12_added1_44 rfl (lv_at hl 1 rfl) ?_
              refine mw_cVi (As := []) (rest := []) C Z hP hS (0) (cM_term1 l E u63 t n bs k65 p66 ts67 h69) vb_X12_term1 tw_5_215 ⟨rfl, rfl⟩ ⟨Nat.le_of_ble_eq_true rfl, Nat.le_of_ble_eq_true rfl⟩ (by decide) rfl rfl rfl rfl hl.1 rfl (Nat.le_of_ble_eq_true rfl) dX12_added1_45 ⟨Nat.zero_le _, Nat.zero_le _⟩ (fun r71 u72 H locs q73 hP hS => ?_)
              rcases hg74 : (gLevel gTim (gD 4).1) ((k65, p66) :: ts67) with zz75 | qq76
              · obtain ⟨cs78, ts79⟩ := zz75
                rw [hg74] at q73
                obtain ⟨f77, ⟨k80, p81, ts82, e83, h84⟩, v85⟩ := q73
                have v85 := (f2.tr f70).evv v85
                refine lv_istore_n (lv' := [(3, .int r71), (2, .int 0), (0, .ref (mw_a E 0)), (1, .int v)]) C.1 C.2.1 dX12_added1_48 rfl hl (by decide) rfl (fun ls hl => ?_)
                refine lv_iload_n C.1 C.2.1 dX12_added1_49 rfl (lv_at hl 1 rfl) ?_
                refine lv_if_eq (tgt := 59) C.1 C.2.1 dX12_added1_50 (by decide) (fun c87 => ?_) (fun c87 => ?_)
                · refine lv_iload_n C.1 C.2.1 dX12_added1_59 rfl (lv_at hl 3 rfl) ?_
                  refine lv_iload_n C.1 C.2.1 dX12_added1_60 rfl (lv_at hl 0 rfl) ?_
                  refine lv_isub C.1 C.2.1 dX12_added1_61 ?_
                  refine lv_istore_n (lv' := [(1, .int (v - r71)), (3, .int r71), (2, .int 0), (0, .ref (mw_a E 0))]) C.1 C.2.1 dX12_added1_62 rfl hl (by decide) rfl (fun ls hl => ?_)
                  refine lv_goto (tgt := 5) C.1 C.2.1 dX12_added1_63 (by decide) ?_
                  exact ih (cs ++ cs78 ++ [k2]) k80 p81 ts82 (v - r71) u72 _ _ (by have d := (gLevel_dec (gD_dec 4).1) _ _ _ hg74; rw [e83, List.length_cons, List.length_cons] at d; rw [e68, List.length_cons] at hN; omega) h84 ((f2.tr f70).tr f77) (by have z := ruV_op (c := k2) hv v85 (by omega); rwa [show opF k2 v r71 = v - r71 by rw [c60]; rfl] at z) (by rw [hR, gLoop_s (by simp only [gTim, gAdd, gAnd, gOr, beq_iff_eq, Bool.or_eq_true]; omega) (by rw [e68]; exact hg74), e83]) hP hS ls (lv_sub hl [3, 0] rfl)
                · exact absurd c87 (by decide)
              · rw [hg74] at q73
                obtain ⟨f77, hb86⟩ := q73
                refine lv_istore_n (lv' := [(3, .int r71), (2, .int 0), (0, .ref (mw_a E 0)), (1, .int v)]) C.1 C.2.1 dX12_added1_48 rfl hl (by decide) rfl (fun ls hl => ?_)
                refine lv_iload_n C.1 C.2.1 dX12_added1_49 rfl (lv_at hl 1 rfl) ?_
                refine lv_if_eq (tgt := 59) C.1 C.2.1 dX12_added1_50 (by decide) (fun c88 => ?_) (fun c88 => ?_)
                · refine lv_iload_n C.1 C.2.1 dX12_added1_59 rfl (lv_at hl 3 rfl) ?_
                  refine lv_iload_n C.1 C.2.1 dX12_added1_60 rfl (lv_at hl 0 rfl) ?_
                  refine lv_isub C.1 C.2.1 dX12_added1_61 ?_
                  refine lv_istore_n (lv' := [(1, .int (v - r71)), (3, .int r71), (2, .int 0), (0, .ref (mw_a E 0))]) C.1 C.2.1 dX12_added1_62 rfl hl (by decide) rfl (fun ls hl => ?_)
                  refine lv_goto (tgt := 5) C.1 C.2.1 dX12_added1_63 (by decide) ?_
                  refine lv_aload_n C.1 C.2.1 dX12_added1_5 rfl (lv_at hl 3 rfl) ?_
                  refine lv_bipush (v := 43) C.1 C.2.1 dX12_added1_6 (by decide) ?_
                  refine mw_cVi (As := [.int 43]) (rest := []) C Z hP hS (0) (cM_isSignB l E u72 43 hb86.1) vb_X12_isSign tw_5_141 ⟨rfl, rfl⟩ ⟨Nat.le_of_ble_eq_true rfl, Nat.le_of_ble_eq_true rfl⟩ (by decide) rfl rfl rfl rfl hl.1 rfl (Nat.le_of_ble_eq_true rfl) dX12_added1_8 ⟨Nat.zero_le _, Nat.zero_le _⟩ (fun r89 u90 H locs q91 hP hS => ?_)
                  obtain ⟨rfl, q91u⟩ := q91
                  rw [q91u] at hP; clear q91u
                  refine lv_if_ne (tgt := 23) C.1 C.2.1 dX12_added1_11 (by decide) (fun c92 => ?_) (fun c92 => ?_)
                  · exact absurd c92 (by decide)
                  · refine lv_aload_n C.1 C.2.1 dX12_added1_14 rfl (lv_at hl 3 rfl) ?_
                    refine lv_bipush (v := 45) C.1 C.2.1 dX12_added1_15 (by decide) ?_
                    refine mw_cVi (As := [.int 45]) (rest := []) C Z hP hS (0) (cM_isSignB l E u72 45 hb86.1) vb_X12_isSign tw_5_141 ⟨rfl, rfl⟩ ⟨Nat.le_of_ble_eq_true rfl, Nat.le_of_ble_eq_true rfl⟩ (by decide) rfl rfl rfl rfl hl.1 rfl (Nat.le_of_ble_eq_true rfl) dX12_added1_17 ⟨Nat.zero_le _, Nat.zero_le _⟩ (fun r93 u94 H locs q95 hP hS => ?_)
                    obtain ⟨rfl, q95u⟩ := q95
                    rw [q95u] at hP; clear q95u
                    refine lv_if_eq (tgt := 66) C.1 C.2.1 dX12_added1_20 (by decide) (fun c96 => ?_) (fun c96 => ?_)
                    · refine lv_iload_n C.1 C.2.1 dX12_added1_66 rfl (lv_at hl 0 rfl) ?_
                      exact mw_iret C hr hlk Z hP hS dX12_added1_67 (⟨((f2.tr f70).tr f77), by rw [hR, gLoop_f (by simp only [gTim, gAdd, gAnd, gOr, beq_iff_eq, Bool.or_eq_true]; omega) (by rw [e68]; exact hg74)]; exact hb86⟩)
                    · exact absurd c96 (by decide)
                · exact absurd c88 (by decide)
            · have c61 := (lg_cmp_eq _ _).mp c61
              exact absurd c61 (by decide)
    exact lp (ts12.length + 1) cs8 k10 p11 ts12 r1 u2 _ _ (Nat.le_refl _) h14 ((mFp.rf σ).tr f7) v15 (by rw [gLevel_I hg4, e13]; rfl) hP hS ls (lv_sub hl [1, 0] rfl)
  · rw [hg4] at q3
    obtain ⟨f7, hb16⟩ := q3
    refine lv_istore_n (lv' := [(1, .int r1), (0, .ref (mw_a E 0))]) C.1 C.2.1 dX12_added1_4 rfl hl (by decide) rfl (fun ls hl => ?_)
    refine lv_aload_n C.1 C.2.1 dX12_added1_5 rfl (lv_at hl 1 rfl) ?_
    refine lv_bipush (v := 43) C.1 C.2.1 dX12_added1_6 (by decide) ?_
    refine mw_cVi (As := [.int 43]) (rest := []) C Z hP hS (0) (cM_isSignB l E u2 43 hb16.1) vb_X12_isSign tw_5_141 ⟨rfl, rfl⟩ ⟨Nat.le_of_ble_eq_true rfl, Nat.le_of_ble_eq_true rfl⟩ (by decide) rfl rfl rfl rfl hl.1 rfl (Nat.le_of_ble_eq_true rfl) dX12_added1_8 ⟨Nat.zero_le _, Nat.zero_le _⟩ (fun r97 u98 H locs q99 hP hS => ?_)
    obtain ⟨rfl, q99u⟩ := q99
    rw [q99u] at hP; clear q99u
    refine lv_if_ne (tgt := 23) C.1 C.2.1 dX12_added1_11 (by decide) (fun c100 => ?_) (fun c100 => ?_)
    · exact absurd c100 (by decide)
    · refine lv_aload_n C.1 C.2.1 dX12_added1_14 rfl (lv_at hl 1 rfl) ?_
      refine lv_bipush (v := 45) C.1 C.2.1 dX12_added1_15 (by decide) ?_
      refine mw_cVi (As := [.int 45]) (rest := []) C Z hP hS (0) (cM_isSignB l E u2 45 hb16.1) vb_X12_isSign tw_5_141 ⟨rfl, rfl⟩ ⟨Nat.le_of_ble_eq_true rfl, Nat.le_of_ble_eq_true rfl⟩ (by decide) rfl rfl rfl rfl hl.1 rfl (Nat.le_of_ble_eq_true rfl) dX12_added1_17 ⟨Nat.zero_le _, Nat.zero_le _⟩ (fun r101 u102 H locs q103 hP hS => ?_)
      obtain ⟨rfl, q103u⟩ := q103
      rw [q103u] at hP; clear q103u
      refine lv_if_eq (tgt := 66) C.1 C.2.1 dX12_added1_20 (by decide) (fun c104 => ?_) (fun c104 => ?_)
      · refine lv_iload_n C.1 C.2.1 dX12_added1_66 rfl (lv_at hl 0 rfl) ?_
        exact mw_iret C hr hlk Z hP hS dX12_added1_67 (⟨((mFp.rf σ).tr f7), by rw [gLevel_F hg4]; exact hb16⟩)
      · exact absurd c104 (by decide)

set_option maxHeartbeats 4000000 in
set_option maxRecDepth 100000 in
theorem cM_not1 (l : Launch) (E : mw_E) (σ : mw_M) (t n : Nat) (bs : Nat → Int32) (k p : Nat) (ts : List (Nat × Nat)) (h : mPS σ t n bs k p ts 1) : mw_Ci shM 13 gM l yX12_not1 cX12_not1 4 (some .int) (rmF 31 684) E [.ref (mw_a E 0)] σ (fun r u => mOK σ u t n bs 1 r ((gD 4).2.1 ((k, p) :: ts))) := by
  refine mw_of (by decide) gM_ok (Nat.le_of_ble_eq_true rfl) ?_
  intro p_ e_ s_ m_ below meth c_ C hr hlk Z hP ls hl
  have C : CallFix p_ m_ c_ cX12_not1 4 s_ _ lw_good RX12 := C
  have hl : lv_has ls 4 [(0, .ref (mw_a E 0))] := hl
  have hS : va_S (mw_A 13 E) s_.heap s_.heap [] := va_S.rf
  refine lv_aload_n C.1 C.2.1 dX12_not1_0 rfl (lv_at hl 0 rfl) ?_
  refine lv_bipush (v := 110) C.1 C.2.1 dX12_not1_1 (by decide) ?_
  refine lv_bipush (v := 111) C.1 C.2.1 dX12_not1_3 (by decide) ?_
  refine lv_bipush (v := 116) C.1 C.2.1 dX12_not1_5 (by decide) ?_
  refine lv_iconst (v := 0) C.1 C.2.1 dX12_not1_7 (by decide) ?_
  refine lv_iconst (v := 0) C.1 C.2.1 dX12_not1_8 (by decide) ?_
  refine lv_iconst (v := 0) C.1 C.2.1 dX12_not1_9 (by decide) ?_
  refine lv_iconst (v := 0) C.1 C.2.1 dX12_not1_10 (by decide) ?_
  refine lv_iconst (v := 0) C.1 C.2.1 dX12_not1_11 (by decide) ?_
  refine mw_cVi (As := [.int 110, .int 111, .int 116, .int 0, .int 0, .int 0, .int 0, .int 0]) (rest := []) C Z hP hS (0) (cM_isWordP l E σ t n bs k p ts 1 h 11 (by decide)) vb_X12_isWord tw_5_77 ⟨rfl, rfl⟩ ⟨Nat.le_of_ble_eq_true rfl, Nat.le_of_ble_eq_true rfl⟩ (by decide) rfl rfl rfl rfl hl.1 rfl (Nat.le_of_ble_eq_true rfl) dX12_not1_12 ⟨Nat.zero_le _, Nat.zero_le _⟩ (fun r1 u2 H locs q3 hP hS => ?_)
  obtain ⟨rfl, q3u⟩ := q3
  rw [q3u] at hP; clear q3u
  refine lv_if_eq (tgt := 52) C.1 C.2.1 dX12_not1_15 (by decide) (fun c4 => ?_) (fun c4 => ?_)
  · have c4 := bI_0.mp c4
    refine lv_aload_n C.1 C.2.1 dX12_not1_52 rfl (lv_at hl 0 rfl) ?_
    refine mw_cVi (As := []) (rest := []) C Z hP hS (0) (cM_added1 l E σ t n bs k p ts h) vb_X12_added1 tw_5_211 ⟨rfl, rfl⟩ ⟨Nat.le_of_ble_eq_true rfl, Nat.le_of_ble_eq_true rfl⟩ (by decide) rfl rfl rfl rfl hl.1 rfl (Nat.le_of_ble_eq_true rfl) dX12_not1_53 ⟨Nat.zero_le _, Nat.zero_le _⟩ (fun r5 u6 H locs q7 hP hS => ?_)
    rcases hg8 : (gLevel gAdd (gLevel gTim (gD 4).1)) ((k, p) :: ts) with zz9 | qq10
    · obtain ⟨cs12, ts13⟩ := zz9
      rw [hg8] at q7
      obtain ⟨f11, ⟨k14, p15, ts16, e17, h18⟩, v19⟩ := q7
      have v19 := (mFp.rf σ).evv v19
      refine lv_istore_n (lv' := [(1, .int r5), (0, .ref (mw_a E 0))]) C.1 C.2.1 dX12_not1_56 rfl hl (by decide) rfl (fun ls hl => ?_)
      refine lv_aload_n C.1 C.2.1 dX12_not1_57 rfl (lv_at hl 1 rfl) ?_
      refine lv_bipush (v := 60) C.1 C.2.1 dX12_not1_58 (by decide) ?_
      refine mw_cVi (As := [.int 60]) (rest := []) C Z hP hS (0) (cM_isSignP l E u6 t n bs k14 p15 ts16 1 h18 6 (by decide)) vb_X12_isSign tw_5_141 ⟨rfl, rfl⟩ ⟨Nat.le_of_ble_eq_true rfl, Nat.le_of_ble_eq_true rfl⟩ (by decide) rfl rfl rfl rfl hl.1 rfl (Nat.le_of_ble_eq_true rfl) dX12_not1_60 ⟨Nat.zero_le _, Nat.zero_le _⟩ (fun r21 u22 H locs q23 hP hS => ?_)
      obtain ⟨rfl, q23u⟩ := q23
      rw [q23u] at hP; clear q23u
      refine lv_if_ne (tgt := 77) C.1 C.2.1 dX12_not1_63 (by decide) (fun c24 => ?_) (fun c24 => ?_)
      · have c24 := bI_n.mp c24
        refine lv_aload_n C.1 C.2.1 dX12_not1_77 rfl (lv_at hl 1 rfl) ?_
        refine mw_getl C Z hP (0) 22 (by decide) rfl rfl rfl (by decide) inX12 tw_4_186 dX12_not1_78 ?_
        refine mw_topl (y := 60) (((h18.2.2.2.2.2.1 6 (by decide)).mpr c24).2) ?_
        refine lv_ldc2 (own := RX12) C.1 C.2.1 C.2.2.2.1 (C.2.2.2.2 _ tw_5_150) dX12_not1_81 ?_
        refine W.lcmp C.1 C.2.1 dX12_not1_84 ?_
        refine lv_if_ne (tgt := 92) C.1 C.2.1 dX12_not1_85 (by decide) (fun c25 => ?_) (fun c25 => ?_)
        · have c25 := (not_congr (lg_cmp_eq _ _)).mp c25
          exact absurd c25 (by decide)
        · have c25 := (lg_cmp_eq _ _).mp c25
          refine lv_iconst (v := 1) C.1 C.2.1 dX12_not1_88 (by decide) ?_
          refine lv_goto (tgt := 93) C.1 C.2.1 dX12_not1_89 (by decide) ?_
          refine lv_istore_n (lv' := [(2, .int 1), (1, .int r5), (0, .ref (mw_a E 0))]) C.1 C.2.1 dX12_not1_93 rfl hl (by decide) rfl (fun ls hl => ?_)
          refine lv_aload_n C.1 C.2.1 dX12_not1_94 rfl (lv_at hl 2 rfl) ?_
          refine mw_cVv (As := []) (rest := []) C Z hP hS (0) (cM_nextP l E u6 t n bs k14 p15 ts16 1 h18 (by omega) (by omega)) vb_X12_next tw_5_64 ⟨rfl, rfl⟩ ⟨Nat.le_of_ble_eq_true rfl, Nat.le_of_ble_eq_true rfl⟩ (by decide) rfl rfl rfl rfl hl.1 rfl (Nat.le_of_ble_eq_true rfl) dX12_not1_95 ⟨Nat.zero_le _, Nat.zero_le _⟩ (fun u27 H locs q28 hP hS => ?_)
          obtain ⟨⟨k29, p30, ts31, e32, h33⟩, f34⟩ := q28
          refine lv_aload_n C.1 C.2.1 dX12_not1_98 rfl (lv_at hl 2 rfl) ?_
          refine mw_cVi (As := []) (rest := []) C Z hP hS (0) (cM_added1 l E u27 t n bs k29 p30 ts31 h33) vb_X12_added1 tw_5_211 ⟨rfl, rfl⟩ ⟨Nat.le_of_ble_eq_true rfl, Nat.le_of_ble_eq_true rfl⟩ (by decide) rfl rfl rfl rfl hl.1 rfl (Nat.le_of_ble_eq_true rfl) dX12_not1_99 ⟨Nat.zero_le _, Nat.zero_le _⟩ (fun r35 u36 H locs q37 hP hS => ?_)
          rcases hg38 : (gLevel gAdd (gLevel gTim (gD 4).1)) ((k29, p30) :: ts31) with zz39 | qq40
          · obtain ⟨cs42, ts43⟩ := zz39
            rw [hg38] at q37
            obtain ⟨f41, ⟨k44, p45, ts46, e47, h48⟩, v49⟩ := q37
            have v49 := (((mFp.rf σ).tr f11).tr f34).evv v49
            refine lv_istore_n (lv' := [(3, .int r35), (2, .int 1), (1, .int r5), (0, .ref (mw_a E 0))]) C.1 C.2.1 dX12_not1_102 rfl hl (by decide) rfl (fun ls hl => ?_)
            refine lv_iload_n C.1 C.2.1 dX12_not1_103 rfl (lv_at hl 1 rfl) ?_
            refine lv_if_eq (tgt := 115) C.1 C.2.1 dX12_not1_104 (by decide) (fun c51 => ?_) (fun c51 => ?_)
            · exact absurd c51 (by decide)
            · refine lv_iload_n C.1 C.2.1 dX12_not1_107 rfl (lv_at hl 2 rfl) ?_
              refine lv_iload_n C.1 C.2.1 dX12_not1_108 rfl (lv_at hl 0 rfl) ?_
              refine lv_icmp_ge (tgt := 124) C.1 C.2.1 dX12_not1_109 (by decide) (fun c52 => ?_) (fun c52 => ?_)
              · refine lv_iconst (v := 0) C.1 C.2.1 dX12_not1_124 (by decide) ?_
                exact mw_iret C hr hlk Z hP hS dX12_not1_125 (⟨((((mFp.rf σ).tr f11).tr f34).tr f41), by rw [gN_4, gNot_n (by omega), gCmp_2I (by rw [← e17]; exact hg8) (by omega) (by rw [e32]; exact hg38)]; exact ⟨⟨k44, p45, ts46, e47, h48⟩, by have z := ruV_op (c := k14) v19 v49 (by omega); rwa [show opF k14 r5 r35 = 0 by rw [c24]; exact bI_f (by rw [ni_le] at c52; rw [ni_lt]; omega)] at z⟩⟩)
              · refine lv_goto (tgt := 120) C.1 C.2.1 dX12_not1_112 (by decide) ?_
                refine lv_iconst (v := 1) C.1 C.2.1 dX12_not1_120 (by decide) ?_
                refine lv_goto (tgt := 125) C.1 C.2.1 dX12_not1_121 (by decide) ?_
                exact mw_iret C hr hlk Z hP hS dX12_not1_125 (⟨((((mFp.rf σ).tr f11).tr f34).tr f41), by rw [gN_4, gNot_n (by omega), gCmp_2I (by rw [← e17]; exact hg8) (by omega) (by rw [e32]; exact hg38)]; exact ⟨⟨k44, p45, ts46, e47, h48⟩, by have z := ruV_op (c := k14) v19 v49 (by omega); rwa [show opF k14 r5 r35 = 1 by rw [c24]; exact bI_t (by rw [ni_le] at c52; rw [ni_lt]; omega)] at z⟩⟩)
          · rw [hg38] at q37
            obtain ⟨f41, hb50⟩ := q37
            refine lv_istore_n (lv' := [(3, .int r35), (2, .int 1), (1, .int r5), (0, .ref (mw_a E 0))]) C.1 C.2.1 dX12_not1_102 rfl hl (by decide) rfl (fun ls hl => ?_)
            refine lv_iload_n C.1 C.2.1 dX12_not1_103 rfl (lv_at hl 1 rfl) ?_
            refine lv_if_eq (tgt := 115) C.1 C.2.1 dX12_not1_104 (by decide) (fun c53 => ?_) (fun c53 => ?_)
            · exact absurd c53 (by decide)
            · refine lv_iload_n C.1 C.2.1 dX12_not1_107 rfl (lv_at hl 2 rfl) ?_
              refine lv_iload_n C.1 C.2.1 dX12_not1_108 rfl (lv_at hl 0 rfl) ?_
              refine lv_icmp_ge (tgt := 124) C.1 C.2.1 dX12_not1_109 (by decide) (fun c54 => ?_) (fun c54 => ?_)
              · refine lv_iconst (v := 0) C.1 C.2.1 dX12_not1_124 (by decide) ?_
                exact mw_iret C hr hlk Z hP hS dX12_not1_125 (⟨((((mFp.rf σ).tr f11).tr f34).tr f41), by rw [gN_4, gNot_n (by omega), gCmp_2F (by rw [← e17]; exact hg8) (by omega) (by rw [e32]; exact hg38)]; exact hb50⟩)
              · refine lv_goto (tgt := 120) C.1 C.2.1 dX12_not1_112 (by decide) ?_
                refine lv_iconst (v := 1) C.1 C.2.1 dX12_not1_120 (by decide) ?_
                refine lv_goto (tgt := 125) C.1 C.2.1 dX12_not1_121 (by decide) ?_
                exact mw_iret C hr hlk Z hP hS dX12_not1_125 (⟨((((mFp.rf σ).tr f11).tr f34).tr f41), by rw [gN_4, gNot_n (by omega), gCmp_2F (by rw [← e17]; exact hg8) (by omega) (by rw [e32]; exact hg38)]; exact hb50⟩)
      · have c24 := bI_0.mp c24
        refine lv_aload_n C.1 C.2.1 dX12_not1_66 rfl (lv_at hl 1 rfl) ?_
        refine lv_bipush (v := 61) C.1 C.2.1 dX12_not1_67 (by decide) ?_
        refine mw_cVi (As := [.int 61]) (rest := []) C Z hP hS (0) (cM_isSignP l E u6 t n bs k14 p15 ts16 1 h18 7 (by decide)) vb_X12_isSign tw_5_141 ⟨rfl, rfl⟩ ⟨Nat.le_of_ble_eq_true rfl, Nat.le_of_ble_eq_true rfl⟩ (by decide) rfl rfl rfl rfl hl.1 rfl (Nat.le_of_ble_eq_true rfl) dX12_not1_69 ⟨Nat.zero_le _, Nat.zero_le _⟩ (fun r55 u56 H locs q57 hP hS => ?_)
        obtain ⟨rfl, q57u⟩ := q57
        rw [q57u] at hP; clear q57u
        refine lv_if_ne (tgt := 77) C.1 C.2.1 dX12_not1_72 (by decide) (fun c58 => ?_) (fun c58 => ?_)
        · have c58 := bI_n.mp c58
          refine lv_aload_n C.1 C.2.1 dX12_not1_77 rfl (lv_at hl 1 rfl) ?_
          refine mw_getl C Z hP (0) 22 (by decide) rfl rfl rfl (by decide) inX12 tw_4_186 dX12_not1_78 ?_
          refine mw_topl (y := 61) (((h18.2.2.2.2.2.1 7 (by decide)).mpr c58).2) ?_
          refine lv_ldc2 (own := RX12) C.1 C.2.1 C.2.2.2.1 (C.2.2.2.2 _ tw_5_150) dX12_not1_81 ?_
          refine W.lcmp C.1 C.2.1 dX12_not1_84 ?_
          refine lv_if_ne (tgt := 92) C.1 C.2.1 dX12_not1_85 (by decide) (fun c59 => ?_) (fun c59 => ?_)
          · have c59 := (not_congr (lg_cmp_eq _ _)).mp c59
            refine lv_iconst (v := 0) C.1 C.2.1 dX12_not1_92 (by decide) ?_
            refine lv_istore_n (lv' := [(2, .int 0), (1, .int r5), (0, .ref (mw_a E 0))]) C.1 C.2.1 dX12_not1_93 rfl hl (by decide) rfl (fun ls hl => ?_)
            refine lv_aload_n C.1 C.2.1 dX12_not1_94 rfl (lv_at hl 2 rfl) ?_
            refine mw_cVv (As := []) (rest := []) C Z hP hS (0) (cM_nextP l E u6 t n bs k14 p15 ts16 1 h18 (by omega) (by omega)) vb_X12_next tw_5_64 ⟨rfl, rfl⟩ ⟨Nat.le_of_ble_eq_true rfl, Nat.le_of_ble_eq_true rfl⟩ (by decide) rfl rfl rfl rfl hl.1 rfl (Nat.le_of_ble_eq_true rfl) dX12_not1_95 ⟨Nat.zero_le _, Nat.zero_le _⟩ (fun u61 H locs q62 hP hS => ?_)
            obtain ⟨⟨k63, p64, ts65, e66, h67⟩, f68⟩ := q62
            refine lv_aload_n C.1 C.2.1 dX12_not1_98 rfl (lv_at hl 2 rfl) ?_
            refine mw_cVi (As := []) (rest := []) C Z hP hS (0) (cM_added1 l E u61 t n bs k63 p64 ts65 h67) vb_X12_added1 tw_5_211 ⟨rfl, rfl⟩ ⟨Nat.le_of_ble_eq_true rfl, Nat.le_of_ble_eq_true rfl⟩ (by decide) rfl rfl rfl rfl hl.1 rfl (Nat.le_of_ble_eq_true rfl) dX12_not1_99 ⟨Nat.zero_le _, Nat.zero_le _⟩ (fun r69 u70 H locs q71 hP hS => ?_)
            rcases hg72 : (gLevel gAdd (gLevel gTim (gD 4).1)) ((k63, p64) :: ts65) with zz73 | qq74
            · obtain ⟨cs76, ts77⟩ := zz73
              rw [hg72] at q71
              obtain ⟨f75, ⟨k78, p79, ts80, e81, h82⟩, v83⟩ := q71
              have v83 := (((mFp.rf σ).tr f11).tr f68).evv v83
              refine lv_istore_n (lv' := [(3, .int r69), (2, .int 0), (1, .int r5), (0, .ref (mw_a E 0))]) C.1 C.2.1 dX12_not1_102 rfl hl (by decide) rfl (fun ls hl => ?_)
              refine lv_iload_n C.1 C.2.1 dX12_not1_103 rfl (lv_at hl 1 rfl) ?_
              refine lv_if_eq (tgt := 115) C.1 C.2.1 dX12_not1_104 (by decide) (fun c85 => ?_) (fun c85 => ?_)
              · refine lv_iload_n C.1 C.2.1 dX12_not1_115 rfl (lv_at hl 2 rfl) ?_
                refine lv_iload_n C.1 C.2.1 dX12_not1_116 rfl (lv_at hl 0 rfl) ?_
                refine lv_icmp_ne (tgt := 124) C.1 C.2.1 dX12_not1_117 (by decide) (fun c86 => ?_) (fun c86 => ?_)
                · refine lv_iconst (v := 0) C.1 C.2.1 dX12_not1_124 (by decide) ?_
                  exact mw_iret C hr hlk Z hP hS dX12_not1_125 (⟨((((mFp.rf σ).tr f11).tr f68).tr f75), by rw [gN_4, gNot_n (by omega), gCmp_2I (by rw [← e17]; exact hg8) (by omega) (by rw [e66]; exact hg72)]; exact ⟨⟨k78, p79, ts80, e81, h82⟩, by have z := ruV_op (c := k14) v19 v83 (by omega); rwa [show opF k14 r5 r69 = 0 by rw [c58]; exact bI_f c86] at z⟩⟩)
                · refine lv_iconst (v := 1) C.1 C.2.1 dX12_not1_120 (by decide) ?_
                  refine lv_goto (tgt := 125) C.1 C.2.1 dX12_not1_121 (by decide) ?_
                  exact mw_iret C hr hlk Z hP hS dX12_not1_125 (⟨((((mFp.rf σ).tr f11).tr f68).tr f75), by rw [gN_4, gNot_n (by omega), gCmp_2I (by rw [← e17]; exact hg8) (by omega) (by rw [e66]; exact hg72)]; exact ⟨⟨k78, p79, ts80, e81, h82⟩, by have z := ruV_op (c := k14) v19 v83 (by omega); rwa [show opF k14 r5 r69 = 1 by rw [c58]; exact bI_t c86] at z⟩⟩)
              · exact absurd c85 (by decide)
            · rw [hg72] at q71
              obtain ⟨f75, hb84⟩ := q71
              refine lv_istore_n (lv' := [(3, .int r69), (2, .int 0), (1, .int r5), (0, .ref (mw_a E 0))]) C.1 C.2.1 dX12_not1_102 rfl hl (by decide) rfl (fun ls hl => ?_)
              refine lv_iload_n C.1 C.2.1 dX12_not1_103 rfl (lv_at hl 1 rfl) ?_
              refine lv_if_eq (tgt := 115) C.1 C.2.1 dX12_not1_104 (by decide) (fun c87 => ?_) (fun c87 => ?_)
              · refine lv_iload_n C.1 C.2.1 dX12_not1_115 rfl (lv_at hl 2 rfl) ?_
                refine lv_iload_n C.1 C.2.1 dX12_not1_116 rfl (lv_at hl 0 rfl) ?_
                refine lv_icmp_ne (tgt := 124) C.1 C.2.1 dX12_not1_117 (by decide) (fun c88 => ?_) (fun c88 => ?_)
                · refine lv_iconst (v := 0) C.1 C.2.1 dX12_not1_124 (by decide) ?_
                  exact mw_iret C hr hlk Z hP hS dX12_not1_125 (⟨((((mFp.rf σ).tr f11).tr f68).tr f75), by rw [gN_4, gNot_n (by omega), gCmp_2F (by rw [← e17]; exact hg8) (by omega) (by rw [e66]; exact hg72)]; exact hb84⟩)
                · refine lv_iconst (v := 1) C.1 C.2.1 dX12_not1_120 (by decide) ?_
                  refine lv_goto (tgt := 125) C.1 C.2.1 dX12_not1_121 (by decide) ?_
                  exact mw_iret C hr hlk Z hP hS dX12_not1_125 (⟨((((mFp.rf σ).tr f11).tr f68).tr f75), by rw [gN_4, gNot_n (by omega), gCmp_2F (by rw [← e17]; exact hg8) (by omega) (by rw [e66]; exact hg72)]; exact hb84⟩)
              · exact absurd c87 (by decide)
          · have c59 := (lg_cmp_eq _ _).mp c59
            exact absurd c59 (by decide)
        · have c58 := bI_0.mp c58
          refine lv_iload_n C.1 C.2.1 dX12_not1_75 rfl (lv_at hl 0 rfl) ?_
          exact mw_iret C hr hlk Z hP hS dX12_not1_76 (⟨((mFp.rf σ).tr f11), by rw [gN_4, gNot_n (by omega), gCmp_1 (by rw [← e17]; exact hg8) (by omega)]; exact ⟨⟨k14, p15, ts16, rfl, h18⟩, v19⟩⟩)
    · rw [hg8] at q7
      obtain ⟨f11, hb20⟩ := q7
      refine lv_istore_n (lv' := [(1, .int r5), (0, .ref (mw_a E 0))]) C.1 C.2.1 dX12_not1_56 rfl hl (by decide) rfl (fun ls hl => ?_)
      refine lv_aload_n C.1 C.2.1 dX12_not1_57 rfl (lv_at hl 1 rfl) ?_
      refine lv_bipush (v := 60) C.1 C.2.1 dX12_not1_58 (by decide) ?_
      refine mw_cVi (As := [.int 60]) (rest := []) C Z hP hS (0) (cM_isSignB l E u6 60 hb20.1) vb_X12_isSign tw_5_141 ⟨rfl, rfl⟩ ⟨Nat.le_of_ble_eq_true rfl, Nat.le_of_ble_eq_true rfl⟩ (by decide) rfl rfl rfl rfl hl.1 rfl (Nat.le_of_ble_eq_true rfl) dX12_not1_60 ⟨Nat.zero_le _, Nat.zero_le _⟩ (fun r89 u90 H locs q91 hP hS => ?_)
      obtain ⟨rfl, q91u⟩ := q91
      rw [q91u] at hP; clear q91u
      refine lv_if_ne (tgt := 77) C.1 C.2.1 dX12_not1_63 (by decide) (fun c92 => ?_) (fun c92 => ?_)
      · exact absurd c92 (by decide)
      · refine lv_aload_n C.1 C.2.1 dX12_not1_66 rfl (lv_at hl 1 rfl) ?_
        refine lv_bipush (v := 61) C.1 C.2.1 dX12_not1_67 (by decide) ?_
        refine mw_cVi (As := [.int 61]) (rest := []) C Z hP hS (0) (cM_isSignB l E u6 61 hb20.1) vb_X12_isSign tw_5_141 ⟨rfl, rfl⟩ ⟨Nat.le_of_ble_eq_true rfl, Nat.le_of_ble_eq_true rfl⟩ (by decide) rfl rfl rfl rfl hl.1 rfl (Nat.le_of_ble_eq_true rfl) dX12_not1_69 ⟨Nat.zero_le _, Nat.zero_le _⟩ (fun r93 u94 H locs q95 hP hS => ?_)
        obtain ⟨rfl, q95u⟩ := q95
        rw [q95u] at hP; clear q95u
        refine lv_if_ne (tgt := 77) C.1 C.2.1 dX12_not1_72 (by decide) (fun c96 => ?_) (fun c96 => ?_)
        · exact absurd c96 (by decide)
        · refine lv_iload_n C.1 C.2.1 dX12_not1_75 rfl (lv_at hl 0 rfl) ?_
          exact mw_iret C hr hlk Z hP hS dX12_not1_76 (⟨((mFp.rf σ).tr f11), by rw [gN_4, gNot_n (by omega), gCmp_F hg8]; exact hb20⟩)
  · have c4 := bI_n.mp c4
    refine lv_aload_n C.1 C.2.1 dX12_not1_18 rfl (lv_at hl 0 rfl) ?_
    refine mw_cVi (As := []) (rest := []) C Z hP hS (0) (cM_opens l E σ t n bs k p ts 1 (by decide) h (by omega) (by omega)) vb_X12_opens tw_5_105 ⟨rfl, rfl⟩ ⟨Nat.le_of_ble_eq_true rfl, Nat.le_of_ble_eq_true rfl⟩ (by decide) rfl rfl rfl rfl hl.1 rfl (Nat.le_of_ble_eq_true rfl) dX12_not1_19 ⟨Nat.zero_le _, Nat.zero_le _⟩ (fun r97 u98 H locs q99 hP hS => ?_)
    obtain ⟨rfl, ⟨k100, p101, ts102, e103, h104⟩, f105⟩ := q99
    refine lv_if_ne (tgt := 27) C.1 C.2.1 dX12_not1_22 (by decide) (fun c106 => ?_) (fun c106 => ?_)
    · refine lv_aload_n C.1 C.2.1 dX12_not1_27 rfl (lv_at hl 0 rfl) ?_
      refine mw_cVi (As := []) (rest := []) C Z hP hS (0) (cM_not2 l E u98 t n bs k100 p101 ts102 h104) vb_X12_not2 tw_5_113 ⟨rfl, rfl⟩ ⟨Nat.le_of_ble_eq_true rfl, Nat.le_of_ble_eq_true rfl⟩ (by decide) rfl rfl rfl rfl hl.1 rfl (Nat.le_of_ble_eq_true rfl) dX12_not1_28 ⟨Nat.zero_le _, Nat.zero_le _⟩ (fun r107 u108 H locs q109 hP hS => ?_)
      rcases hg110 : ((gD 3).2.1) ((k100, p101) :: ts102) with zz111 | qq112
      · obtain ⟨cs114, ts115⟩ := zz111
        rw [hg110] at q109
        obtain ⟨f113, ⟨k116, p117, ts118, e119, h120⟩, v121⟩ := q109
        have v121 := ((mFp.rf σ).tr f105).evv v121
        refine lv_istore_n (lv' := [(1, .int r107), (0, .ref (mw_a E 0))]) C.1 C.2.1 dX12_not1_31 rfl hl (by decide) rfl (fun ls hl => ?_)
        refine lv_aload_n C.1 C.2.1 dX12_not1_32 rfl (lv_at hl 1 rfl) ?_
        refine lv_dup C.1 C.2.1 dX12_not1_33 rfl ?_
        refine mw_geti C Z hP (0) 23 (by decide) rfl rfl rfl (by decide) inX12 tw_4_187 dX12_not1_34 ?_
        refine mw_top (y := nI 2) (h120.2.2.1) ?_
        refine lv_iconst (v := 1) C.1 C.2.1 dX12_not1_37 (by decide) ?_
        refine lv_isub C.1 C.2.1 dX12_not1_38 ?_
        refine mw_top (y := nI 1) (by decide) ?_
        refine mw_puti C Z hP hS (0) 23 (by decide) rfl rfl rfl (by decide) inX12 tyX12 tyX12_ok nmX12 rfl tw_4_187 rfl rfl dX12_not1_39 (fun H locs hP hS => ?_)
        have h123 : mPS (mw_si u108 0 23 (nI 1)) t n bs k116 p117 ts118 1 := ⟨h120.1, h120.2.1, rfl, h120.2.2.2⟩
        refine lv_iload_n C.1 C.2.1 dX12_not1_42 rfl (lv_at hl 0 rfl) ?_
        refine lv_if_ne (tgt := 50) C.1 C.2.1 dX12_not1_43 (by decide) (fun c124 => ?_) (fun c124 => ?_)
        · refine lv_iconst (v := 0) C.1 C.2.1 dX12_not1_50 (by decide) ?_
          exact mw_iret C hr hlk Z hP hS dX12_not1_51 (⟨((((mFp.rf σ).tr f105).tr f113).si (by decide) _), by rw [gN_4, gNot_I (by omega) (by rw [e103]; exact hg110)]; exact ⟨⟨k116, p117, ts118, e119, h123⟩, by have z := ruV_not v121; rwa [show bI (r107 = 0) = 0 by simp [bI, c124]] at z⟩⟩)
        · refine lv_iconst (v := 1) C.1 C.2.1 dX12_not1_46 (by decide) ?_
          refine lv_goto (tgt := 51) C.1 C.2.1 dX12_not1_47 (by decide) ?_
          exact mw_iret C hr hlk Z hP hS dX12_not1_51 (⟨((((mFp.rf σ).tr f105).tr f113).si (by decide) _), by rw [gN_4, gNot_I (by omega) (by rw [e103]; exact hg110)]; exact ⟨⟨k116, p117, ts118, e119, h123⟩, by have z := ruV_not v121; rwa [show bI (r107 = 0) = 1 by simp [bI, c124]] at z⟩⟩)
      · rw [hg110] at q109
        obtain ⟨f113, hb122⟩ := q109
        refine lv_istore_n (lv' := [(1, .int r107), (0, .ref (mw_a E 0))]) C.1 C.2.1 dX12_not1_31 rfl hl (by decide) rfl (fun ls hl => ?_)
        refine lv_aload_n C.1 C.2.1 dX12_not1_32 rfl (lv_at hl 1 rfl) ?_
        refine lv_dup C.1 C.2.1 dX12_not1_33 rfl ?_
        refine mw_geti C Z hP (0) 23 (by decide) rfl rfl rfl (by decide) inX12 tw_4_187 dX12_not1_34 ?_
        refine lv_iconst (v := 1) C.1 C.2.1 dX12_not1_37 (by decide) ?_
        refine lv_isub C.1 C.2.1 dX12_not1_38 ?_
        refine mw_puti C Z hP hS (0) 23 (by decide) rfl rfl rfl (by decide) inX12 tyX12 tyX12_ok nmX12 rfl tw_4_187 rfl rfl dX12_not1_39 (fun H locs hP hS => ?_)
        have hb125 : mBd (mw_si u108 0 23 ((u108.1 0 23) - 1)) qq112 := hb122
        refine lv_iload_n C.1 C.2.1 dX12_not1_42 rfl (lv_at hl 0 rfl) ?_
        refine lv_if_ne (tgt := 50) C.1 C.2.1 dX12_not1_43 (by decide) (fun c126 => ?_) (fun c126 => ?_)
        · refine lv_iconst (v := 0) C.1 C.2.1 dX12_not1_50 (by decide) ?_
          exact mw_iret C hr hlk Z hP hS dX12_not1_51 (⟨((((mFp.rf σ).tr f105).tr f113).si (by decide) _), by rw [gN_4, gNot_F (by omega) (by rw [e103]; exact hg110)]; exact hb125⟩)
        · refine lv_iconst (v := 1) C.1 C.2.1 dX12_not1_46 (by decide) ?_
          refine lv_goto (tgt := 51) C.1 C.2.1 dX12_not1_47 (by decide) ?_
          exact mw_iret C hr hlk Z hP hS dX12_not1_51 (⟨((((mFp.rf σ).tr f105).tr f113).si (by decide) _), by rw [gN_4, gNot_F (by omega) (by rw [e103]; exact hg110)]; exact hb125⟩)
    · exact absurd c106 (by decide)

set_option maxHeartbeats 4000000 in
set_option maxRecDepth 100000 in
theorem cM_both1 (l : Launch) (E : mw_E) (σ : mw_M) (t n : Nat) (bs : Nat → Int32) (k p : Nat) (ts : List (Nat × Nat)) (h : mPS σ t n bs k p ts 1) : mw_Ci shM 13 gM l yX12_both1 cX12_both1 3 (some .int) (rmF 32 707) E [.ref (mw_a E 0)] σ (fun r u => mOK σ u t n bs 1 r (gLevel gAnd (gD 4).2.1 ((k, p) :: ts))) := by
  refine mw_of (by decide) gM_ok (Nat.le_of_ble_eq_true rfl) ?_
  intro p_ e_ s_ m_ below meth c_ C hr hlk Z hP ls hl
  have C : CallFix p_ m_ c_ cX12_both1 3 s_ _ lw_good RX12 := C
  have hl : lv_has ls 3 [(0, .ref (mw_a E 0))] := hl
  have hS : va_S (mw_A 13 E) s_.heap s_.heap [] := va_S.rf
  refine lv_aload_n C.1 C.2.1 dX12_both1_0 rfl (lv_at hl 0 rfl) ?_
  refine mw_cVi (As := []) (rest := []) C Z hP hS (0) (cM_not1 l E σ t n bs k p ts h) vb_X12_not1 tw_5_109 ⟨rfl, rfl⟩ ⟨Nat.le_of_ble_eq_true rfl, Nat.le_of_ble_eq_true rfl⟩ (by decide) rfl rfl rfl rfl hl.1 rfl (Nat.le_of_ble_eq_true rfl) dX12_both1_1 ⟨Nat.zero_le _, Nat.zero_le _⟩ (fun r1 u2 H locs q3 hP hS => ?_)
  rcases hg4 : ((gD 4).2.1) ((k, p) :: ts) with zz5 | qq6
  · obtain ⟨cs8, ts9⟩ := zz5
    rw [hg4] at q3
    obtain ⟨f7, ⟨k10, p11, ts12, e13, h14⟩, v15⟩ := q3
    have v15 := (mFp.rf σ).evv v15
    refine lv_istore_n (lv' := [(1, .int r1), (0, .ref (mw_a E 0))]) C.1 C.2.1 dX12_both1_4 rfl hl (by decide) rfl (fun ls hl => ?_)
    have lp : ∀ (N : Nat) (cs : List Nat) (k2 p2 : Nat) (ts2 : List (Nat × Nat)) (v : Int32) (ς : mw_M) (H : Heap) (locs : List Loc), ts2.length + 1 ≤ N → mPS ς t n bs k2 p2 ts2 1 → mFp σ ς → ruV (mEv σ) cs v → gLevel gAnd (gD 4).2.1 ((k, p) :: ts) = gLoop gAnd ((gD 4).2.1) N cs ((k2, p2) :: ts2) → va_P (mw_D E) vwCl (mw_ws shM 13 E ς) H → va_S (mw_A 13 E) s_.heap H locs → ∀ (ls : Array Slot), lv_has ls 3 [(0, .ref (mw_a E 0)), (1, .int v)] → mWi p_ l e_ (rmF 32 707) s_ m_ [.ref (mw_a E 0)] below meth c_ E (fun r u => mOK σ u t n bs 1 r (gLevel gAnd (gD 4).2.1 ((k, p) :: ts))) H locs (F0 m_ 5 ls []) := by
      intro N
      induction N with
      | zero => intro cs k2 p2 ts2 v ς H locs hN; exact absurd hN (by omega)
      | succ N ih =>
        intro cs k2 p2 ts2 v ς H locs hN h2 f2 hv hR hP hS ls hl
        refine lv_aload_n C.1 C.2.1 dX12_both1_5 rfl (lv_at hl 0 rfl) ?_
        refine lv_bipush (v := 97) C.1 C.2.1 dX12_both1_6 (by decide) ?_
        refine lv_bipush (v := 110) C.1 C.2.1 dX12_both1_8 (by decide) ?_
        refine lv_bipush (v := 100) C.1 C.2.1 dX12_both1_10 (by decide) ?_
        refine lv_iconst (v := 0) C.1 C.2.1 dX12_both1_12 (by decide) ?_
        refine lv_iconst (v := 0) C.1 C.2.1 dX12_both1_13 (by decide) ?_
        refine lv_iconst (v := 0) C.1 C.2.1 dX12_both1_14 (by decide) ?_
        refine lv_iconst (v := 0) C.1 C.2.1 dX12_both1_15 (by decide) ?_
        refine lv_iconst (v := 0) C.1 C.2.1 dX12_both1_16 (by decide) ?_
        refine mw_cVi (As := [.int 97, .int 110, .int 100, .int 0, .int 0, .int 0, .int 0, .int 0]) (rest := []) C Z hP hS (0) (cM_isWordP l E ς t n bs k2 p2 ts2 1 h2 10 (by decide)) vb_X12_isWord tw_5_77 ⟨rfl, rfl⟩ ⟨Nat.le_of_ble_eq_true rfl, Nat.le_of_ble_eq_true rfl⟩ (by decide) rfl rfl rfl rfl hl.1 rfl (Nat.le_of_ble_eq_true rfl) dX12_both1_17 ⟨Nat.zero_le _, Nat.zero_le _⟩ (fun r17 u18 H locs q19 hP hS => ?_)
        obtain ⟨rfl, q19u⟩ := q19
        rw [q19u] at hP; clear q19u
        refine lv_if_eq (tgt := 49) C.1 C.2.1 dX12_both1_20 (by decide) (fun c20 => ?_) (fun c20 => ?_)
        · have c20 := bI_0.mp c20
          refine lv_iload_n C.1 C.2.1 dX12_both1_49 rfl (lv_at hl 1 rfl) ?_
          exact mw_iret C hr hlk Z hP hS dX12_both1_50 (⟨f2, by rw [hR, gLoop_e (by simp only [gTim, gAdd, gAnd, gOr, beq_iff_eq, Bool.or_eq_true]; omega)]; exact ⟨⟨k2, p2, ts2, rfl, h2⟩, hv⟩⟩)
        · have c20 := bI_n.mp c20
          refine lv_aload_n C.1 C.2.1 dX12_both1_23 rfl (lv_at hl 0 rfl) ?_
          refine mw_cVv (As := []) (rest := []) C Z hP hS (0) (cM_nextP l E ς t n bs k2 p2 ts2 1 h2 (by omega) (by omega)) vb_X12_next tw_5_64 ⟨rfl, rfl⟩ ⟨Nat.le_of_ble_eq_true rfl, Nat.le_of_ble_eq_true rfl⟩ (by decide) rfl rfl rfl rfl hl.1 rfl (Nat.le_of_ble_eq_true rfl) dX12_both1_24 ⟨Nat.zero_le _, Nat.zero_le _⟩ (fun u22 H locs q23 hP hS => ?_)
          obtain ⟨⟨k24, p25, ts26, e27, h28⟩, f29⟩ := q23
          refine lv_aload_n C.1 C.2.1 dX12_both1_27 rfl (lv_at hl 0 rfl) ?_
          refine mw_cVi (As := []) (rest := []) C Z hP hS (0) (cM_not1 l E u22 t n bs k24 p25 ts26 h28) vb_X12_not1 tw_5_109 ⟨rfl, rfl⟩ ⟨Nat.le_of_ble_eq_true rfl, Nat.le_of_ble_eq_true rfl⟩ (by decide) rfl rfl rfl rfl hl.1 rfl (Nat.le_of_ble_eq_true rfl) dX12_both1_28 ⟨Nat.zero_le _, Nat.zero_le _⟩ (fun r30 u31 H locs q32 hP hS => ?_)
          rcases hg33 : ((gD 4).2.1) ((k24, p25) :: ts26) with zz34 | qq35
          · obtain ⟨cs37, ts38⟩ := zz34
            rw [hg33] at q32
            obtain ⟨f36, ⟨k39, p40, ts41, e42, h43⟩, v44⟩ := q32
            have v44 := (f2.tr f29).evv v44
            refine lv_istore_n (lv' := [(2, .int r30), (0, .ref (mw_a E 0)), (1, .int v)]) C.1 C.2.1 dX12_both1_31 rfl hl (by decide) rfl (fun ls hl => ?_)
            refine lv_iload_n C.1 C.2.1 dX12_both1_32 rfl (lv_at hl 2 rfl) ?_
            refine lv_if_eq (tgt := 44) C.1 C.2.1 dX12_both1_33 (by decide) (fun c46 => ?_) (fun c46 => ?_)
            · refine lv_iconst (v := 0) C.1 C.2.1 dX12_both1_44 (by decide) ?_
              refine lv_istore_n (lv' := [(1, .int 0), (2, .int r30), (0, .ref (mw_a E 0))]) C.1 C.2.1 dX12_both1_45 rfl hl (by decide) rfl (fun ls hl => ?_)
              refine lv_goto (tgt := 5) C.1 C.2.1 dX12_both1_46 (by decide) ?_
              exact ih (cs ++ cs37 ++ [k2]) k39 p40 ts41 0 u31 _ _ (by have d := (gD_dec 4).2.1 _ _ _ hg33; rw [e42, List.length_cons, List.length_cons] at d; rw [e27, List.length_cons] at hN; omega) h43 ((f2.tr f29).tr f36) (by have z := ruV_op (c := k2) hv v44 (by omega); rwa [show opF k2 v r30 = 0 by rw [c20]; simp [opF, bI, c46]] at z) (by rw [hR, gLoop_s (by simp only [gTim, gAdd, gAnd, gOr, beq_iff_eq, Bool.or_eq_true]; omega) (by rw [e27]; exact hg33), e42]) hP hS ls (lv_sub hl [2, 0] rfl)
            · refine lv_iload_n C.1 C.2.1 dX12_both1_36 rfl (lv_at hl 0 rfl) ?_
              refine lv_if_eq (tgt := 44) C.1 C.2.1 dX12_both1_37 (by decide) (fun c47 => ?_) (fun c47 => ?_)
              · refine lv_iconst (v := 0) C.1 C.2.1 dX12_both1_44 (by decide) ?_
                refine lv_istore_n (lv' := [(1, .int 0), (2, .int r30), (0, .ref (mw_a E 0))]) C.1 C.2.1 dX12_both1_45 rfl hl (by decide) rfl (fun ls hl => ?_)
                refine lv_goto (tgt := 5) C.1 C.2.1 dX12_both1_46 (by decide) ?_
                exact ih (cs ++ cs37 ++ [k2]) k39 p40 ts41 0 u31 _ _ (by have d := (gD_dec 4).2.1 _ _ _ hg33; rw [e42, List.length_cons, List.length_cons] at d; rw [e27, List.length_cons] at hN; omega) h43 ((f2.tr f29).tr f36) (by have z := ruV_op (c := k2) hv v44 (by omega); rwa [show opF k2 v r30 = 0 by rw [c20]; simp [opF, bI, c46, c47]] at z) (by rw [hR, gLoop_s (by simp only [gTim, gAdd, gAnd, gOr, beq_iff_eq, Bool.or_eq_true]; omega) (by rw [e27]; exact hg33), e42]) hP hS ls (lv_sub hl [2, 0] rfl)
              · refine lv_iconst (v := 1) C.1 C.2.1 dX12_both1_40 (by decide) ?_
                refine lv_goto (tgt := 45) C.1 C.2.1 dX12_both1_41 (by decide) ?_
                refine lv_istore_n (lv' := [(1, .int 1), (2, .int r30), (0, .ref (mw_a E 0))]) C.1 C.2.1 dX12_both1_45 rfl hl (by decide) rfl (fun ls hl => ?_)
                refine lv_goto (tgt := 5) C.1 C.2.1 dX12_both1_46 (by decide) ?_
                exact ih (cs ++ cs37 ++ [k2]) k39 p40 ts41 1 u31 _ _ (by have d := (gD_dec 4).2.1 _ _ _ hg33; rw [e42, List.length_cons, List.length_cons] at d; rw [e27, List.length_cons] at hN; omega) h43 ((f2.tr f29).tr f36) (by have z := ruV_op (c := k2) hv v44 (by omega); rwa [show opF k2 v r30 = 1 by rw [c20]; simp [opF, bI, c46, c47]] at z) (by rw [hR, gLoop_s (by simp only [gTim, gAdd, gAnd, gOr, beq_iff_eq, Bool.or_eq_true]; omega) (by rw [e27]; exact hg33), e42]) hP hS ls (lv_sub hl [2, 0] rfl)
          · rw [hg33] at q32
            obtain ⟨f36, hb45⟩ := q32
            refine lv_istore_n (lv' := [(2, .int r30), (0, .ref (mw_a E 0)), (1, .int v)]) C.1 C.2.1 dX12_both1_31 rfl hl (by decide) rfl (fun ls hl => ?_)
            refine lv_iload_n C.1 C.2.1 dX12_both1_32 rfl (lv_at hl 2 rfl) ?_
            refine lv_if_eq (tgt := 44) C.1 C.2.1 dX12_both1_33 (by decide) (fun c48 => ?_) (fun c48 => ?_)
            · refine lv_iconst (v := 0) C.1 C.2.1 dX12_both1_44 (by decide) ?_
              refine lv_istore_n (lv' := [(1, .int 0), (2, .int r30), (0, .ref (mw_a E 0))]) C.1 C.2.1 dX12_both1_45 rfl hl (by decide) rfl (fun ls hl => ?_)
              refine lv_goto (tgt := 5) C.1 C.2.1 dX12_both1_46 (by decide) ?_
              refine lv_aload_n C.1 C.2.1 dX12_both1_5 rfl (lv_at hl 2 rfl) ?_
              refine lv_bipush (v := 97) C.1 C.2.1 dX12_both1_6 (by decide) ?_
              refine lv_bipush (v := 110) C.1 C.2.1 dX12_both1_8 (by decide) ?_
              refine lv_bipush (v := 100) C.1 C.2.1 dX12_both1_10 (by decide) ?_
              refine lv_iconst (v := 0) C.1 C.2.1 dX12_both1_12 (by decide) ?_
              refine lv_iconst (v := 0) C.1 C.2.1 dX12_both1_13 (by decide) ?_
              refine lv_iconst (v := 0) C.1 C.2.1 dX12_both1_14 (by decide) ?_
              refine lv_iconst (v := 0) C.1 C.2.1 dX12_both1_15 (by decide) ?_
              refine lv_iconst (v := 0) C.1 C.2.1 dX12_both1_16 (by decide) ?_
              refine mw_cVi (As := [.int 97, .int 110, .int 100, .int 0, .int 0, .int 0, .int 0, .int 0]) (rest := []) C Z hP hS (0) (cM_isWordB l E u31 hb45.1 97 110 100 0 0 0 0 0) vb_X12_isWord tw_5_77 ⟨rfl, rfl⟩ ⟨Nat.le_of_ble_eq_true rfl, Nat.le_of_ble_eq_true rfl⟩ (by decide) rfl rfl rfl rfl hl.1 rfl (Nat.le_of_ble_eq_true rfl) dX12_both1_17 ⟨Nat.zero_le _, Nat.zero_le _⟩ (fun r49 u50 H locs q51 hP hS => ?_)
              obtain ⟨rfl, q51u⟩ := q51
              rw [q51u] at hP; clear q51u
              refine lv_if_eq (tgt := 49) C.1 C.2.1 dX12_both1_20 (by decide) (fun c52 => ?_) (fun c52 => ?_)
              · refine lv_iload_n C.1 C.2.1 dX12_both1_49 rfl (lv_at hl 0 rfl) ?_
                exact mw_iret C hr hlk Z hP hS dX12_both1_50 (⟨((f2.tr f29).tr f36), by rw [hR, gLoop_f (by simp only [gTim, gAdd, gAnd, gOr, beq_iff_eq, Bool.or_eq_true]; omega) (by rw [e27]; exact hg33)]; exact hb45⟩)
              · exact absurd c52 (by decide)
            · refine lv_iload_n C.1 C.2.1 dX12_both1_36 rfl (lv_at hl 0 rfl) ?_
              refine lv_if_eq (tgt := 44) C.1 C.2.1 dX12_both1_37 (by decide) (fun c53 => ?_) (fun c53 => ?_)
              · refine lv_iconst (v := 0) C.1 C.2.1 dX12_both1_44 (by decide) ?_
                refine lv_istore_n (lv' := [(1, .int 0), (2, .int r30), (0, .ref (mw_a E 0))]) C.1 C.2.1 dX12_both1_45 rfl hl (by decide) rfl (fun ls hl => ?_)
                refine lv_goto (tgt := 5) C.1 C.2.1 dX12_both1_46 (by decide) ?_
                refine lv_aload_n C.1 C.2.1 dX12_both1_5 rfl (lv_at hl 2 rfl) ?_
                refine lv_bipush (v := 97) C.1 C.2.1 dX12_both1_6 (by decide) ?_
                refine lv_bipush (v := 110) C.1 C.2.1 dX12_both1_8 (by decide) ?_
                refine lv_bipush (v := 100) C.1 C.2.1 dX12_both1_10 (by decide) ?_
                refine lv_iconst (v := 0) C.1 C.2.1 dX12_both1_12 (by decide) ?_
                refine lv_iconst (v := 0) C.1 C.2.1 dX12_both1_13 (by decide) ?_
                refine lv_iconst (v := 0) C.1 C.2.1 dX12_both1_14 (by decide) ?_
                refine lv_iconst (v := 0) C.1 C.2.1 dX12_both1_15 (by decide) ?_
                refine lv_iconst (v := 0) C.1 C.2.1 dX12_both1_16 (by decide) ?_
                refine mw_cVi (As := [.int 97, .int 110, .int 100, .int 0, .int 0, .int 0, .int 0, .int 0]) (rest := []) C Z hP hS (0) (cM_isWordB l E u31 hb45.1 97 110 100 0 0 0 0 0) vb_X12_isWord tw_5_77 ⟨rfl, rfl⟩ ⟨Nat.le_of_ble_eq_true rfl, Nat.le_of_ble_eq_true rfl⟩ (by decide) rfl rfl rfl rfl hl.1 rfl (Nat.le_of_ble_eq_true rfl) dX12_both1_17 ⟨Nat.zero_le _, Nat.zero_le _⟩ (fun r54 u55 H locs q56 hP hS => ?_)
                obtain ⟨rfl, q56u⟩ := q56
                rw [q56u] at hP; clear q56u
                refine lv_if_eq (tgt := 49) C.1 C.2.1 dX12_both1_20 (by decide) (fun c57 => ?_) (fun c57 => ?_)
                · refine lv_iload_n C.1 C.2.1 dX12_both1_49 rfl (lv_at hl 0 rfl) ?_
                  exact mw_iret C hr hlk Z hP hS dX12_both1_50 (⟨((f2.tr f29).tr f36), by rw [hR, gLoop_f (by simp only [gTim, gAdd, gAnd, gOr, beq_iff_eq, Bool.or_eq_true]; omega) (by rw [e27]; exact hg33)]; exact hb45⟩)
                · exact absurd c57 (by decide)
              · refine lv_iconst (v := 1) C.1 C.2.1 dX12_both1_40 (by decide) ?_
                refine lv_goto (tgt := 45) C.1 C.2.1 dX12_both1_41 (by decide) ?_
                refine lv_istore_n (lv' := [(1, .int 1), (2, .int r30), (0, .ref (mw_a E 0))]) C.1 C.2.1 dX12_both1_45 rfl hl (by decide) rfl (fun ls hl => ?_)
                refine lv_goto (tgt := 5) C.1 C.2.1 dX12_both1_46 (by decide) ?_
                refine lv_aload_n C.1 C.2.1 dX12_both1_5 rfl (lv_at hl 2 rfl) ?_
                refine lv_bipush (v := 97) C.1 C.2.1 dX12_both1_6 (by decide) ?_
                refine lv_bipush (v := 110) C.1 C.2.1 dX12_both1_8 (by decide) ?_
                refine lv_bipush (v := 100) C.1 C.2.1 dX12_both1_10 (by decide) ?_
                refine lv_iconst (v := 0) C.1 C.2.1 dX12_both1_12 (by decide) ?_
                refine lv_iconst (v := 0) C.1 C.2.1 dX12_both1_13 (by decide) ?_
                refine lv_iconst (v := 0) C.1 C.2.1 dX12_both1_14 (by decide) ?_
                refine lv_iconst (v := 0) C.1 C.2.1 dX12_both1_15 (by decide) ?_
                refine lv_iconst (v := 0) C.1 C.2.1 dX12_both1_16 (by decide) ?_
                refine mw_cVi (As := [.int 97, .int 110, .int 100, .int 0, .int 0, .int 0, .int 0, .int 0]) (rest := []) C Z hP hS (0) (cM_isWordB l E u31 hb45.1 97 110 100 0 0 0 0 0) vb_X12_isWord tw_5_77 ⟨rfl, rfl⟩ ⟨Nat.le_of_ble_eq_true rfl, Nat.le_of_ble_eq_true rfl⟩ (by decide) rfl rfl rfl rfl hl.1 rfl (Nat.le_of_ble_eq_true rfl) dX12_both1_17 ⟨Nat.zero_le _, Nat.zero_le _⟩ (fun r58 u59 H locs q60 hP hS => ?_)
                obtain ⟨rfl, q60u⟩ := q60
                rw [q60u] at hP; clear q60u
                refine lv_if_eq (tgt := 49) C.1 C.2.1 dX12_both1_20 (by decide) (fun c61 => ?_) (fun c61 => ?_)
                · refine lv_iload_n C.1 C.2.1 dX12_both1_49 rfl (lv_at hl 0 rfl) ?_
                  exact mw_iret C hr hlk Z hP hS dX12_both1_50 (⟨((f2.tr f29).tr f36), by rw [hR, gLoop_f (by simp only [gTim, gAdd, gAnd, gOr, beq_iff_eq, Bool.or_eq_true]; omega) (by rw [e27]; exact hg33)]; exact hb45⟩)
                · exact absurd c61 (by decide)
    exact lp (ts12.length + 1) cs8 k10 p11 ts12 r1 u2 _ _ (Nat.le_refl _) h14 ((mFp.rf σ).tr f7) v15 (by rw [gLevel_I hg4, e13]; rfl) hP hS ls (lv_sub hl [1, 0] rfl)
  · rw [hg4] at q3
    obtain ⟨f7, hb16⟩ := q3
    refine lv_istore_n (lv' := [(1, .int r1), (0, .ref (mw_a E 0))]) C.1 C.2.1 dX12_both1_4 rfl hl (by decide) rfl (fun ls hl => ?_)
    refine lv_aload_n C.1 C.2.1 dX12_both1_5 rfl (lv_at hl 1 rfl) ?_
    refine lv_bipush (v := 97) C.1 C.2.1 dX12_both1_6 (by decide) ?_
    refine lv_bipush (v := 110) C.1 C.2.1 dX12_both1_8 (by decide) ?_
    refine lv_bipush (v := 100) C.1 C.2.1 dX12_both1_10 (by decide) ?_
    refine lv_iconst (v := 0) C.1 C.2.1 dX12_both1_12 (by decide) ?_
    refine lv_iconst (v := 0) C.1 C.2.1 dX12_both1_13 (by decide) ?_
    refine lv_iconst (v := 0) C.1 C.2.1 dX12_both1_14 (by decide) ?_
    refine lv_iconst (v := 0) C.1 C.2.1 dX12_both1_15 (by decide) ?_
    refine lv_iconst (v := 0) C.1 C.2.1 dX12_both1_16 (by decide) ?_
    refine mw_cVi (As := [.int 97, .int 110, .int 100, .int 0, .int 0, .int 0, .int 0, .int 0]) (rest := []) C Z hP hS (0) (cM_isWordB l E u2 hb16.1 97 110 100 0 0 0 0 0) vb_X12_isWord tw_5_77 ⟨rfl, rfl⟩ ⟨Nat.le_of_ble_eq_true rfl, Nat.le_of_ble_eq_true rfl⟩ (by decide) rfl rfl rfl rfl hl.1 rfl (Nat.le_of_ble_eq_true rfl) dX12_both1_17 ⟨Nat.zero_le _, Nat.zero_le _⟩ (fun r62 u63 H locs q64 hP hS => ?_)
    obtain ⟨rfl, q64u⟩ := q64
    rw [q64u] at hP; clear q64u
    refine lv_if_eq (tgt := 49) C.1 C.2.1 dX12_both1_20 (by decide) (fun c65 => ?_) (fun c65 => ?_)
    · refine lv_iload_n C.1 C.2.1 dX12_both1_49 rfl (lv_at hl 0 rfl) ?_
      exact mw_iret C hr hlk Z hP hS dX12_both1_50 (⟨((mFp.rf σ).tr f7), by rw [gLevel_F hg4]; exact hb16⟩)
    · exact absurd c65 (by decide)

set_option maxHeartbeats 4000000 in
set_option maxRecDepth 100000 in
theorem cM_either1 (l : Launch) (E : mw_E) (σ : mw_M) (t n : Nat) (bs : Nat → Int32) (k p : Nat) (ts : List (Nat × Nat)) (h : mPS σ t n bs k p ts 1) : mw_Ci shM 13 gM l yX12_either1 cX12_either1 3 (some .int) (rmF 33 729) E [.ref (mw_a E 0)] σ (fun r u => mOK σ u t n bs 1 r ((gD 4).2.2 ((k, p) :: ts))) := by
  refine mw_of (by decide) gM_ok (Nat.le_of_ble_eq_true rfl) ?_
  intro p_ e_ s_ m_ below meth c_ C hr hlk Z hP ls hl
  have C : CallFix p_ m_ c_ cX12_either1 3 s_ _ lw_good RX12 := C
  have hl : lv_has ls 3 [(0, .ref (mw_a E 0))] := hl
  have hS : va_S (mw_A 13 E) s_.heap s_.heap [] := va_S.rf
  refine lv_aload_n C.1 C.2.1 dX12_either1_0 rfl (lv_at hl 0 rfl) ?_
  refine mw_cVi (As := []) (rest := []) C Z hP hS (0) (cM_both1 l E σ t n bs k p ts h) vb_X12_both1 tw_6_7 ⟨rfl, rfl⟩ ⟨Nat.le_of_ble_eq_true rfl, Nat.le_of_ble_eq_true rfl⟩ (by decide) rfl rfl rfl rfl hl.1 rfl (Nat.le_of_ble_eq_true rfl) dX12_either1_1 ⟨Nat.zero_le _, Nat.zero_le _⟩ (fun r1 u2 H locs q3 hP hS => ?_)
  rcases hg4 : (gLevel gAnd (gD 4).2.1) ((k, p) :: ts) with zz5 | qq6
  · obtain ⟨cs8, ts9⟩ := zz5
    rw [hg4] at q3
    obtain ⟨f7, ⟨k10, p11, ts12, e13, h14⟩, v15⟩ := q3
    have v15 := (mFp.rf σ).evv v15
    refine lv_istore_n (lv' := [(1, .int r1), (0, .ref (mw_a E 0))]) C.1 C.2.1 dX12_either1_4 rfl hl (by decide) rfl (fun ls hl => ?_)
    have lp : ∀ (N : Nat) (cs : List Nat) (k2 p2 : Nat) (ts2 : List (Nat × Nat)) (v : Int32) (ς : mw_M) (H : Heap) (locs : List Loc), ts2.length + 1 ≤ N → mPS ς t n bs k2 p2 ts2 1 → mFp σ ς → ruV (mEv σ) cs v → (gD 4).2.2 ((k, p) :: ts) = gLoop gOr (gLevel gAnd (gD 4).2.1) N cs ((k2, p2) :: ts2) → va_P (mw_D E) vwCl (mw_ws shM 13 E ς) H → va_S (mw_A 13 E) s_.heap H locs → ∀ (ls : Array Slot), lv_has ls 3 [(0, .ref (mw_a E 0)), (1, .int v)] → mWi p_ l e_ (rmF 33 729) s_ m_ [.ref (mw_a E 0)] below meth c_ E (fun r u => mOK σ u t n bs 1 r ((gD 4).2.2 ((k, p) :: ts))) H locs (F0 m_ 5 ls []) := by
      intro N
      induction N with
      | zero => intro cs k2 p2 ts2 v ς H locs hN; exact absurd hN (by omega)
      | succ N ih =>
        intro cs k2 p2 ts2 v ς H locs hN h2 f2 hv hR hP hS ls hl
        refine lv_aload_n C.1 C.2.1 dX12_either1_5 rfl (lv_at hl 0 rfl) ?_
        refine lv_bipush (v := 111) C.1 C.2.1 dX12_either1_6 (by decide) ?_
        refine lv_bipush (v := 114) C.1 C.2.1 dX12_either1_8 (by decide) ?_
        refine lv_iconst (v := 0) C.1 C.2.1 dX12_either1_10 (by decide) ?_
        refine lv_iconst (v := 0) C.1 C.2.1 dX12_either1_11 (by decide) ?_
        refine lv_iconst (v := 0) C.1 C.2.1 dX12_either1_12 (by decide) ?_
        refine lv_iconst (v := 0) C.1 C.2.1 dX12_either1_13 (by decide) ?_
        refine lv_iconst (v := 0) C.1 C.2.1 dX12_either1_14 (by decide) ?_
        refine lv_iconst (v := 0) C.1 C.2.1 dX12_either1_15 (by decide) ?_
        refine mw_cVi (As := [.int 111, .int 114, .int 0, .int 0, .int 0, .int 0, .int 0, .int 0]) (rest := []) C Z hP hS (0) (cM_isWordP l E ς t n bs k2 p2 ts2 1 h2 9 (by decide)) vb_X12_isWord tw_5_77 ⟨rfl, rfl⟩ ⟨Nat.le_of_ble_eq_true rfl, Nat.le_of_ble_eq_true rfl⟩ (by decide) rfl rfl rfl rfl hl.1 rfl (Nat.le_of_ble_eq_true rfl) dX12_either1_16 ⟨Nat.zero_le _, Nat.zero_le _⟩ (fun r17 u18 H locs q19 hP hS => ?_)
        obtain ⟨rfl, q19u⟩ := q19
        rw [q19u] at hP; clear q19u
        refine lv_if_eq (tgt := 48) C.1 C.2.1 dX12_either1_19 (by decide) (fun c20 => ?_) (fun c20 => ?_)
        · have c20 := bI_0.mp c20
          refine lv_iload_n C.1 C.2.1 dX12_either1_48 rfl (lv_at hl 1 rfl) ?_
          exact mw_iret C hr hlk Z hP hS dX12_either1_49 (⟨f2, by rw [hR, gLoop_e (by simp only [gTim, gAdd, gAnd, gOr, beq_iff_eq, Bool.or_eq_true]; omega)]; exact ⟨⟨k2, p2, ts2, rfl, h2⟩, hv⟩⟩)
        · have c20 := bI_n.mp c20
          refine lv_aload_n C.1 C.2.1 dX12_either1_22 rfl (lv_at hl 0 rfl) ?_
          refine mw_cVv (As := []) (rest := []) C Z hP hS (0) (cM_nextP l E ς t n bs k2 p2 ts2 1 h2 (by omega) (by omega)) vb_X12_next tw_5_64 ⟨rfl, rfl⟩ ⟨Nat.le_of_ble_eq_true rfl, Nat.le_of_ble_eq_true rfl⟩ (by decide) rfl rfl rfl rfl hl.1 rfl (Nat.le_of_ble_eq_true rfl) dX12_either1_23 ⟨Nat.zero_le _, Nat.zero_le _⟩ (fun u22 H locs q23 hP hS => ?_)
          obtain ⟨⟨k24, p25, ts26, e27, h28⟩, f29⟩ := q23
          refine lv_aload_n C.1 C.2.1 dX12_either1_26 rfl (lv_at hl 0 rfl) ?_
          refine mw_cVi (As := []) (rest := []) C Z hP hS (0) (cM_both1 l E u22 t n bs k24 p25 ts26 h28) vb_X12_both1 tw_6_7 ⟨rfl, rfl⟩ ⟨Nat.le_of_ble_eq_true rfl, Nat.le_of_ble_eq_true rfl⟩ (by decide) rfl rfl rfl rfl hl.1 rfl (Nat.le_of_ble_eq_true rfl) dX12_either1_27 ⟨Nat.zero_le _, Nat.zero_le _⟩ (fun r30 u31 H locs q32 hP hS => ?_)
          rcases hg33 : (gLevel gAnd (gD 4).2.1) ((k24, p25) :: ts26) with zz34 | qq35
          · obtain ⟨cs37, ts38⟩ := zz34
            rw [hg33] at q32
            obtain ⟨f36, ⟨k39, p40, ts41, e42, h43⟩, v44⟩ := q32
            have v44 := (f2.tr f29).evv v44
            refine lv_istore_n (lv' := [(2, .int r30), (0, .ref (mw_a E 0)), (1, .int v)]) C.1 C.2.1 dX12_either1_30 rfl hl (by decide) rfl (fun ls hl => ?_)
            refine lv_iload_n C.1 C.2.1 dX12_either1_31 rfl (lv_at hl 2 rfl) ?_
            refine lv_if_ne (tgt := 39) C.1 C.2.1 dX12_either1_32 (by decide) (fun c46 => ?_) (fun c46 => ?_)
            · refine lv_iconst (v := 1) C.1 C.2.1 dX12_either1_39 (by decide) ?_
              refine lv_goto (tgt := 44) C.1 C.2.1 dX12_either1_40 (by decide) ?_
              refine lv_istore_n (lv' := [(1, .int 1), (2, .int r30), (0, .ref (mw_a E 0))]) C.1 C.2.1 dX12_either1_44 rfl hl (by decide) rfl (fun ls hl => ?_)
              refine lv_goto (tgt := 5) C.1 C.2.1 dX12_either1_45 (by decide) ?_
              exact ih (cs ++ cs37 ++ [k2]) k39 p40 ts41 1 u31 _ _ (by have d := (gLevel_dec (gD_dec 4).2.1) _ _ _ hg33; rw [e42, List.length_cons, List.length_cons] at d; rw [e27, List.length_cons] at hN; omega) h43 ((f2.tr f29).tr f36) (by have z := ruV_op (c := k2) hv v44 (by omega); rwa [show opF k2 v r30 = 1 by rw [c20]; simp [opF, bI, c46]] at z) (by rw [hR, gLoop_s (by simp only [gTim, gAdd, gAnd, gOr, beq_iff_eq, Bool.or_eq_true]; omega) (by rw [e27]; exact hg33), e42]) hP hS ls (lv_sub hl [2, 0] rfl)
            · refine lv_iload_n C.1 C.2.1 dX12_either1_35 rfl (lv_at hl 0 rfl) ?_
              refine lv_if_eq (tgt := 43) C.1 C.2.1 dX12_either1_36 (by decide) (fun c47 => ?_) (fun c47 => ?_)
              · refine lv_iconst (v := 0) C.1 C.2.1 dX12_either1_43 (by decide) ?_
                refine lv_istore_n (lv' := [(1, .int 0), (2, .int r30), (0, .ref (mw_a E 0))]) C.1 C.2.1 dX12_either1_44 rfl hl (by decide) rfl (fun ls hl => ?_)
                refine lv_goto (tgt := 5) C.1 C.2.1 dX12_either1_45 (by decide) ?_
                exact ih (cs ++ cs37 ++ [k2]) k39 p40 ts41 0 u31 _ _ (by have d := (gLevel_dec (gD_dec 4).2.1) _ _ _ hg33; rw [e42, List.length_cons, List.length_cons] at d; rw [e27, List.length_cons] at hN; omega) h43 ((f2.tr f29).tr f36) (by have z := ruV_op (c := k2) hv v44 (by omega); rwa [show opF k2 v r30 = 0 by rw [c20]; simp [opF, bI, c46, c47]] at z) (by rw [hR, gLoop_s (by simp only [gTim, gAdd, gAnd, gOr, beq_iff_eq, Bool.or_eq_true]; omega) (by rw [e27]; exact hg33), e42]) hP hS ls (lv_sub hl [2, 0] rfl)
              · refine lv_iconst (v := 1) C.1 C.2.1 dX12_either1_39 (by decide) ?_
                refine lv_goto (tgt := 44) C.1 C.2.1 dX12_either1_40 (by decide) ?_
                refine lv_istore_n (lv' := [(1, .int 1), (2, .int r30), (0, .ref (mw_a E 0))]) C.1 C.2.1 dX12_either1_44 rfl hl (by decide) rfl (fun ls hl => ?_)
                refine lv_goto (tgt := 5) C.1 C.2.1 dX12_either1_45 (by decide) ?_
                exact ih (cs ++ cs37 ++ [k2]) k39 p40 ts41 1 u31 _ _ (by have d := (gLevel_dec (gD_dec 4).2.1) _ _ _ hg33; rw [e42, List.length_cons, List.length_cons] at d; rw [e27, List.length_cons] at hN; omega) h43 ((f2.tr f29).tr f36) (by have z := ruV_op (c := k2) hv v44 (by omega); rwa [show opF k2 v r30 = 1 by rw [c20]; simp [opF, bI, c46, c47]] at z) (by rw [hR, gLoop_s (by simp only [gTim, gAdd, gAnd, gOr, beq_iff_eq, Bool.or_eq_true]; omega) (by rw [e27]; exact hg33), e42]) hP hS ls (lv_sub hl [2, 0] rfl)
          · rw [hg33] at q32
            obtain ⟨f36, hb45⟩ := q32
            refine lv_istore_n (lv' := [(2, .int r30), (0, .ref (mw_a E 0)), (1, .int v)]) C.1 C.2.1 dX12_either1_30 rfl hl (by decide) rfl (fun ls hl => ?_)
            refine lv_iload_n C.1 C.2.1 dX12_either1_31 rfl (lv_at hl 2 rfl) ?_
            refine lv_if_ne (tgt := 39) C.1 C.2.1 dX12_either1_32 (by decide) (fun c48 => ?_) (fun c48 => ?_)
            · refine lv_iconst (v := 1) C.1 C.2.1 dX12_either1_39 (by decide) ?_
              refine lv_goto (tgt := 44) C.1 C.2.1 dX12_either1_40 (by decide) ?_
              refine lv_istore_n (lv' := [(1, .int 1), (2, .int r30), (0, .ref (mw_a E 0))]) C.1 C.2.1 dX12_either1_44 rfl hl (by decide) rfl (fun ls hl => ?_)
              refine lv_goto (tgt := 5) C.1 C.2.1 dX12_either1_45 (by decide) ?_
              refine lv_aload_n C.1 C.2.1 dX12_either1_5 rfl (lv_at hl 2 rfl) ?_
              refine lv_bipush (v := 111) C.1 C.2.1 dX12_either1_6 (by decide) ?_
              refine lv_bipush (v := 114) C.1 C.2.1 dX12_either1_8 (by decide) ?_
              refine lv_iconst (v := 0) C.1 C.2.1 dX12_either1_10 (by decide) ?_
              refine lv_iconst (v := 0) C.1 C.2.1 dX12_either1_11 (by decide) ?_
              refine lv_iconst (v := 0) C.1 C.2.1 dX12_either1_12 (by decide) ?_
              refine lv_iconst (v := 0) C.1 C.2.1 dX12_either1_13 (by decide) ?_
              refine lv_iconst (v := 0) C.1 C.2.1 dX12_either1_14 (by decide) ?_
              refine lv_iconst (v := 0) C.1 C.2.1 dX12_either1_15 (by decide) ?_
              refine mw_cVi (As := [.int 111, .int 114, .int 0, .int 0, .int 0, .int 0, .int 0, .int 0]) (rest := []) C Z hP hS (0) (cM_isWordB l E u31 hb45.1 111 114 0 0 0 0 0 0) vb_X12_isWord tw_5_77 ⟨rfl, rfl⟩ ⟨Nat.le_of_ble_eq_true rfl, Nat.le_of_ble_eq_true rfl⟩ (by decide) rfl rfl rfl rfl hl.1 rfl (Nat.le_of_ble_eq_true rfl) dX12_either1_16 ⟨Nat.zero_le _, Nat.zero_le _⟩ (fun r49 u50 H locs q51 hP hS => ?_)
              obtain ⟨rfl, q51u⟩ := q51
              rw [q51u] at hP; clear q51u
              refine lv_if_eq (tgt := 48) C.1 C.2.1 dX12_either1_19 (by decide) (fun c52 => ?_) (fun c52 => ?_)
              · refine lv_iload_n C.1 C.2.1 dX12_either1_48 rfl (lv_at hl 0 rfl) ?_
                exact mw_iret C hr hlk Z hP hS dX12_either1_49 (⟨((f2.tr f29).tr f36), by rw [hR, gLoop_f (by simp only [gTim, gAdd, gAnd, gOr, beq_iff_eq, Bool.or_eq_true]; omega) (by rw [e27]; exact hg33)]; exact hb45⟩)
              · exact absurd c52 (by decide)
            · refine lv_iload_n C.1 C.2.1 dX12_either1_35 rfl (lv_at hl 0 rfl) ?_
              refine lv_if_eq (tgt := 43) C.1 C.2.1 dX12_either1_36 (by decide) (fun c53 => ?_) (fun c53 => ?_)
              · refine lv_iconst (v := 0) C.1 C.2.1 dX12_either1_43 (by decide) ?_
                refine lv_istore_n (lv' := [(1, .int 0), (2, .int r30), (0, .ref (mw_a E 0))]) C.1 C.2.1 dX12_either1_44 rfl hl (by decide) rfl (fun ls hl => ?_)
                refine lv_goto (tgt := 5) C.1 C.2.1 dX12_either1_45 (by decide) ?_
                refine lv_aload_n C.1 C.2.1 dX12_either1_5 rfl (lv_at hl 2 rfl) ?_
                refine lv_bipush (v := 111) C.1 C.2.1 dX12_either1_6 (by decide) ?_
                refine lv_bipush (v := 114) C.1 C.2.1 dX12_either1_8 (by decide) ?_
                refine lv_iconst (v := 0) C.1 C.2.1 dX12_either1_10 (by decide) ?_
                refine lv_iconst (v := 0) C.1 C.2.1 dX12_either1_11 (by decide) ?_
                refine lv_iconst (v := 0) C.1 C.2.1 dX12_either1_12 (by decide) ?_
                refine lv_iconst (v := 0) C.1 C.2.1 dX12_either1_13 (by decide) ?_
                refine lv_iconst (v := 0) C.1 C.2.1 dX12_either1_14 (by decide) ?_
                refine lv_iconst (v := 0) C.1 C.2.1 dX12_either1_15 (by decide) ?_
                refine mw_cVi (As := [.int 111, .int 114, .int 0, .int 0, .int 0, .int 0, .int 0, .int 0]) (rest := []) C Z hP hS (0) (cM_isWordB l E u31 hb45.1 111 114 0 0 0 0 0 0) vb_X12_isWord tw_5_77 ⟨rfl, rfl⟩ ⟨Nat.le_of_ble_eq_true rfl, Nat.le_of_ble_eq_true rfl⟩ (by decide) rfl rfl rfl rfl hl.1 rfl (Nat.le_of_ble_eq_true rfl) dX12_either1_16 ⟨Nat.zero_le _, Nat.zero_le _⟩ (fun r54 u55 H locs q56 hP hS => ?_)
                obtain ⟨rfl, q56u⟩ := q56
                rw [q56u] at hP; clear q56u
                refine lv_if_eq (tgt := 48) C.1 C.2.1 dX12_either1_19 (by decide) (fun c57 => ?_) (fun c57 => ?_)
                · refine lv_iload_n C.1 C.2.1 dX12_either1_48 rfl (lv_at hl 0 rfl) ?_
                  exact mw_iret C hr hlk Z hP hS dX12_either1_49 (⟨((f2.tr f29).tr f36), by rw [hR, gLoop_f (by simp only [gTim, gAdd, gAnd, gOr, beq_iff_eq, Bool.or_eq_true]; omega) (by rw [e27]; exact hg33)]; exact hb45⟩)
                · exact absurd c57 (by decide)
              · refine lv_iconst (v := 1) C.1 C.2.1 dX12_either1_39 (by decide) ?_
                refine lv_goto (tgt := 44) C.1 C.2.1 dX12_either1_40 (by decide) ?_
                refine lv_istore_n (lv' := [(1, .int 1), (2, .int r30), (0, .ref (mw_a E 0))]) C.1 C.2.1 dX12_either1_44 rfl hl (by decide) rfl (fun ls hl => ?_)
                refine lv_goto (tgt := 5) C.1 C.2.1 dX12_either1_45 (by decide) ?_
                refine lv_aload_n C.1 C.2.1 dX12_either1_5 rfl (lv_at hl 2 rfl) ?_
                refine lv_bipush (v := 111) C.1 C.2.1 dX12_either1_6 (by decide) ?_
                refine lv_bipush (v := 114) C.1 C.2.1 dX12_either1_8 (by decide) ?_
                refine lv_iconst (v := 0) C.1 C.2.1 dX12_either1_10 (by decide) ?_
                refine lv_iconst (v := 0) C.1 C.2.1 dX12_either1_11 (by decide) ?_
                refine lv_iconst (v := 0) C.1 C.2.1 dX12_either1_12 (by decide) ?_
                refine lv_iconst (v := 0) C.1 C.2.1 dX12_either1_13 (by decide) ?_
                refine lv_iconst (v := 0) C.1 C.2.1 dX12_either1_14 (by decide) ?_
                refine lv_iconst (v := 0) C.1 C.2.1 dX12_either1_15 (by decide) ?_
                refine mw_cVi (As := [.int 111, .int 114, .int 0, .int 0, .int 0, .int 0, .int 0, .int 0]) (rest := []) C Z hP hS (0) (cM_isWordB l E u31 hb45.1 111 114 0 0 0 0 0 0) vb_X12_isWord tw_5_77 ⟨rfl, rfl⟩ ⟨Nat.le_of_ble_eq_true rfl, Nat.le_of_ble_eq_true rfl⟩ (by decide) rfl rfl rfl rfl hl.1 rfl (Nat.le_of_ble_eq_true rfl) dX12_either1_16 ⟨Nat.zero_le _, Nat.zero_le _⟩ (fun r58 u59 H locs q60 hP hS => ?_)
                obtain ⟨rfl, q60u⟩ := q60
                rw [q60u] at hP; clear q60u
                refine lv_if_eq (tgt := 48) C.1 C.2.1 dX12_either1_19 (by decide) (fun c61 => ?_) (fun c61 => ?_)
                · refine lv_iload_n C.1 C.2.1 dX12_either1_48 rfl (lv_at hl 0 rfl) ?_
                  exact mw_iret C hr hlk Z hP hS dX12_either1_49 (⟨((f2.tr f29).tr f36), by rw [hR, gLoop_f (by simp only [gTim, gAdd, gAnd, gOr, beq_iff_eq, Bool.or_eq_true]; omega) (by rw [e27]; exact hg33)]; exact hb45⟩)
                · exact absurd c61 (by decide)
    exact lp (ts12.length + 1) cs8 k10 p11 ts12 r1 u2 _ _ (Nat.le_refl _) h14 ((mFp.rf σ).tr f7) v15 (by rw [gE_4, gLevel_I hg4, e13]; rfl) hP hS ls (lv_sub hl [1, 0] rfl)
  · rw [hg4] at q3
    obtain ⟨f7, hb16⟩ := q3
    refine lv_istore_n (lv' := [(1, .int r1), (0, .ref (mw_a E 0))]) C.1 C.2.1 dX12_either1_4 rfl hl (by decide) rfl (fun ls hl => ?_)
    refine lv_aload_n C.1 C.2.1 dX12_either1_5 rfl (lv_at hl 1 rfl) ?_
    refine lv_bipush (v := 111) C.1 C.2.1 dX12_either1_6 (by decide) ?_
    refine lv_bipush (v := 114) C.1 C.2.1 dX12_either1_8 (by decide) ?_
    refine lv_iconst (v := 0) C.1 C.2.1 dX12_either1_10 (by decide) ?_
    refine lv_iconst (v := 0) C.1 C.2.1 dX12_either1_11 (by decide) ?_
    refine lv_iconst (v := 0) C.1 C.2.1 dX12_either1_12 (by decide) ?_
    refine lv_iconst (v := 0) C.1 C.2.1 dX12_either1_13 (by decide) ?_
    refine lv_iconst (v := 0) C.1 C.2.1 dX12_either1_14 (by decide) ?_
    refine lv_iconst (v := 0) C.1 C.2.1 dX12_either1_15 (by decide) ?_
    refine mw_cVi (As := [.int 111, .int 114, .int 0, .int 0, .int 0, .int 0, .int 0, .int 0]) (rest := []) C Z hP hS (0) (cM_isWordB l E u2 hb16.1 111 114 0 0 0 0 0 0) vb_X12_isWord tw_5_77 ⟨rfl, rfl⟩ ⟨Nat.le_of_ble_eq_true rfl, Nat.le_of_ble_eq_true rfl⟩ (by decide) rfl rfl rfl rfl hl.1 rfl (Nat.le_of_ble_eq_true rfl) dX12_either1_16 ⟨Nat.zero_le _, Nat.zero_le _⟩ (fun r62 u63 H locs q64 hP hS => ?_)
    obtain ⟨rfl, q64u⟩ := q64
    rw [q64u] at hP; clear q64u
    refine lv_if_eq (tgt := 48) C.1 C.2.1 dX12_either1_19 (by decide) (fun c65 => ?_) (fun c65 => ?_)
    · refine lv_iload_n C.1 C.2.1 dX12_either1_48 rfl (lv_at hl 0 rfl) ?_
      exact mw_iret C hr hlk Z hP hS dX12_either1_49 (⟨((mFp.rf σ).tr f7), by rw [gE_4, gLevel_F hg4]; exact hb16⟩)
    · exact absurd c65 (by decide)

set_option maxHeartbeats 4000000 in
set_option maxRecDepth 100000 in
theorem cM_atom0 (l : Launch) (E : mw_E) (σ : mw_M) (t n : Nat) (bs : Nat → Int32) (k p : Nat) (ts : List (Nat × Nat)) (h : mPS σ t n bs k p ts 0) : mw_Ci shM 13 gM l yX12_atom0 cX12_atom0 2 (some .int) (rmF 34 751) E [.ref (mw_a E 0)] σ (fun r u => mOK σ u t n bs 0 r ((gD 5).1 ((k, p) :: ts))) := by
  refine mw_of (by decide) gM_ok (Nat.le_of_ble_eq_true rfl) ?_
  intro p_ e_ s_ m_ below meth c_ C hr hlk Z hP ls hl
  have C : CallFix p_ m_ c_ cX12_atom0 2 s_ _ lw_good RX12 := C
  have hl : lv_has ls 2 [(0, .ref (mw_a E 0))] := hl
  have hS : va_S (mw_A 13 E) s_.heap s_.heap [] := va_S.rf
  refine lv_iconst (v := 0) C.1 C.2.1 dX12_atom0_0 (by decide) ?_
  refine lv_istore_n (lv' := [(1, .int 0), (0, .ref (mw_a E 0))]) C.1 C.2.1 dX12_atom0_1 rfl hl (by decide) rfl (fun ls hl => ?_)
  refine lv_aload_n C.1 C.2.1 dX12_atom0_2 rfl (lv_at hl 1 rfl) ?_
  refine lv_bipush (v := 45) C.1 C.2.1 dX12_atom0_3 (by decide) ?_
  refine mw_cVi (As := [.int 45]) (rest := []) C Z hP hS (0) (cM_isSignP l E σ t n bs k p ts 0 h 4 (by decide)) vb_X12_isSign tw_5_141 ⟨rfl, rfl⟩ ⟨Nat.le_of_ble_eq_true rfl, Nat.le_of_ble_eq_true rfl⟩ (by decide) rfl rfl rfl rfl hl.1 rfl (Nat.le_of_ble_eq_true rfl) dX12_atom0_5 ⟨Nat.zero_le _, Nat.zero_le _⟩ (fun r1 u2 H locs q3 hP hS => ?_)
  obtain ⟨rfl, q3u⟩ := q3
  rw [q3u] at hP; clear q3u
  refine lv_if_eq (tgt := 37) C.1 C.2.1 dX12_atom0_8 (by decide) (fun c4 => ?_) (fun c4 => ?_)
  · have c4 := bI_0.mp c4
    refine lv_aload_n C.1 C.2.1 dX12_atom0_37 rfl (lv_at hl 1 rfl) ?_
    refine lv_bipush (v := 40) C.1 C.2.1 dX12_atom0_38 (by decide) ?_
    refine mw_cVi (As := [.int 40]) (rest := []) C Z hP hS (0) (cM_isSignP l E σ t n bs k p ts 0 h 0 (by decide)) vb_X12_isSign tw_5_141 ⟨rfl, rfl⟩ ⟨Nat.le_of_ble_eq_true rfl, Nat.le_of_ble_eq_true rfl⟩ (by decide) rfl rfl rfl rfl hl.1 rfl (Nat.le_of_ble_eq_true rfl) dX12_atom0_40 ⟨Nat.zero_le _, Nat.zero_le _⟩ (fun r5 u6 H locs q7 hP hS => ?_)
    obtain ⟨rfl, q7u⟩ := q7
    rw [q7u] at hP; clear q7u
    refine lv_if_eq (tgt := 95) C.1 C.2.1 dX12_atom0_43 (by decide) (fun c8 => ?_) (fun c8 => ?_)
    · have c8 := bI_0.mp c8
      refine lv_aload_n C.1 C.2.1 dX12_atom0_95 rfl (lv_at hl 1 rfl) ?_
      refine mw_geti C Z hP (0) 24 (by decide) rfl rfl rfl (by decide) inX12 tw_4_188 dX12_atom0_96 ?_
      refine mw_top (y := 0) (h.2.1) ?_
      refine lv_if_ne (tgt := 123) C.1 C.2.1 dX12_atom0_99 (by decide) (fun c9 => ?_) (fun c9 => ?_)
      · exact absurd c9 (by decide)
      · refine lv_aload_n C.1 C.2.1 dX12_atom0_102 rfl (lv_at hl 1 rfl) ?_
        refine mw_geti C Z hP (0) 20 (by decide) rfl rfl rfl (by decide) inX12 tw_4_184 dX12_atom0_103 ?_
        refine lv_iconst (v := 2) C.1 C.2.1 dX12_atom0_106 (by decide) ?_
        refine lv_icmp_ne (tgt := 123) C.1 C.2.1 dX12_atom0_107 (by decide) (fun c10 => ?_) (fun c10 => ?_)
        · have hnn : ¬ 100 ≤ k := fun y => c10 (h.2.2.2.1.2.2.2.1.mpr y)
          refine lv_aload_n C.1 C.2.1 dX12_atom0_123 rfl (lv_at hl 1 rfl) ?_
          refine mw_geti C Z hP (0) 24 (by decide) rfl rfl rfl (by decide) inX12 tw_4_188 dX12_atom0_124 ?_
          refine mw_top (y := 0) (h.2.1) ?_
          refine lv_if_ne (tgt := 157) C.1 C.2.1 dX12_atom0_127 (by decide) (fun c11 => ?_) (fun c11 => ?_)
          · exact absurd c11 (by decide)
          · refine lv_aload_n C.1 C.2.1 dX12_atom0_130 rfl (lv_at hl 1 rfl) ?_
            refine mw_geti C Z hP (0) 20 (by decide) rfl rfl rfl (by decide) inX12 tw_4_184 dX12_atom0_131 ?_
            refine lv_iconst (v := 1) C.1 C.2.1 dX12_atom0_134 (by decide) ?_
            refine lv_icmp_ne (tgt := 157) C.1 C.2.1 dX12_atom0_135 (by decide) (fun c12 => ?_) (fun c12 => ?_)
            · have hnw : ¬ k ≤ 5 := fun y => c12 (h.2.2.2.2.2.2.1 (by omega))
              refine lv_aload_n C.1 C.2.1 dX12_atom0_157 rfl (lv_at hl 1 rfl) ?_
              refine mw_cVv (As := []) (rest := []) C Z hP hS (0) (cM_failP l E σ t n bs k p ts 0 h) vb_X12_fail tw_5_89 ⟨rfl, rfl⟩ ⟨Nat.le_of_ble_eq_true rfl, Nat.le_of_ble_eq_true rfl⟩ (by decide) rfl rfl rfl rfl hl.1 rfl (Nat.le_of_ble_eq_true rfl) dX12_atom0_158 ⟨Nat.zero_le _, Nat.zero_le _⟩ (fun u14 H locs q15 hP hS => ?_)
              obtain ⟨hb16, f17⟩ := q15
              refine lv_iload_n C.1 C.2.1 dX12_atom0_161 rfl (lv_at hl 0 rfl) ?_
              exact mw_iret C hr hlk Z hP hS dX12_atom0_162 (⟨((mFp.rf σ).tr f17), by rw [gA_5, gAt_bad (fun y => y.elim hnw hnn) (by omega) (by omega)]; exact hb16⟩)
            · have hk21 : k ≠ 21 := fun y => by have z := h.2.2.2.1.2.2.1.mpr y; rw [c12] at z; exact absurd z (by decide)
              refine lv_aload_n C.1 C.2.1 dX12_atom0_138 rfl (lv_at hl 1 rfl) ?_
              refine mw_cVi (As := []) (rest := []) C Z hP hS (0) (cM_name l E σ t n bs k p ts 0 h) vb_X12_name tw_5_145 ⟨rfl, rfl⟩ ⟨Nat.le_of_ble_eq_true rfl, Nat.le_of_ble_eq_true rfl⟩ (by decide) rfl rfl rfl rfl hl.1 rfl (Nat.le_of_ble_eq_true rfl) dX12_atom0_139 ⟨Nat.zero_le _, Nat.zero_le _⟩ (fun r18 u19 H locs q20 hP hS => ?_)
              obtain ⟨f25, ⟨z21, z22, z23⟩ | ⟨z21, hb24⟩⟩ := q20
              · rw [z22] at hP; clear z22
                refine lv_istore_n (lv' := [(1, .int r18), (0, .ref (mw_a E 0))]) C.1 C.2.1 dX12_atom0_142 rfl hl (by decide) rfl (fun ls hl => ?_)
                refine lv_aload_n C.1 C.2.1 dX12_atom0_143 rfl (lv_at hl 1 rfl) ?_
                refine mw_geti C Z hP (0) 24 (by decide) rfl rfl rfl (by decide) inX12 tw_4_188 dX12_atom0_144 ?_
                refine mw_top (y := 0) (h.2.1) ?_
                refine lv_if_ne (tgt := 161) C.1 C.2.1 dX12_atom0_147 (by decide) (fun c26 => ?_) (fun c26 => ?_)
                · exact absurd c26 (by decide)
                · refine lv_aload_n C.1 C.2.1 dX12_atom0_150 rfl (lv_at hl 1 rfl) ?_
                  refine mw_cVv (As := []) (rest := []) C Z hP hS (0) (cM_nextP l E σ t n bs k p ts 0 h (by omega) (by omega)) vb_X12_next tw_5_64 ⟨rfl, rfl⟩ ⟨Nat.le_of_ble_eq_true rfl, Nat.le_of_ble_eq_true rfl⟩ (by decide) rfl rfl rfl rfl hl.1 rfl (Nat.le_of_ble_eq_true rfl) dX12_atom0_151 ⟨Nat.zero_le _, Nat.zero_le _⟩ (fun u28 H locs q29 hP hS => ?_)
                  obtain ⟨⟨k30, p31, ts32, e33, h34⟩, f35⟩ := q29
                  refine lv_goto (tgt := 161) C.1 C.2.1 dX12_atom0_154 (by decide) ?_
                  refine lv_iload_n C.1 C.2.1 dX12_atom0_161 rfl (lv_at hl 0 rfl) ?_
                  exact mw_iret C hr hlk Z hP hS dX12_atom0_162 (⟨((mFp.rf σ).tr f35), by rw [gA_5, gAt_one (Or.inl z21)]; exact ⟨⟨k30, p31, ts32, e33, h34⟩, by rw [z23]; exact ruV_nm z21⟩⟩)
              · refine lv_istore_n (lv' := [(1, .int r18), (0, .ref (mw_a E 0))]) C.1 C.2.1 dX12_atom0_142 rfl hl (by decide) rfl (fun ls hl => ?_)
                refine lv_aload_n C.1 C.2.1 dX12_atom0_143 rfl (lv_at hl 1 rfl) ?_
                refine mw_geti C Z hP (0) 24 (by decide) rfl rfl rfl (by decide) inX12 tw_4_188 dX12_atom0_144 ?_
                refine mw_top (y := 1) (hb24.1) ?_
                refine lv_if_ne (tgt := 161) C.1 C.2.1 dX12_atom0_147 (by decide) (fun c36 => ?_) (fun c36 => ?_)
                · refine lv_iload_n C.1 C.2.1 dX12_atom0_161 rfl (lv_at hl 0 rfl) ?_
                  exact mw_iret C hr hlk Z hP hS dX12_atom0_162 (⟨((mFp.rf σ).tr f25), by rw [gA_5, gAt_bad (fun y => y.elim (fun y => z21 y) hnn) (by omega) (by omega)]; exact hb24⟩)
                · exact absurd c36 (by decide)
        · have hnum : 100 ≤ k := h.2.2.2.1.2.2.2.1.mp c10
          have hval : nI (k - 100) = (σ.2.2 0 22).toInt32 := by rw [(h.2.2.2.1.2.2.2.2 hnum).1, lN_i]
          refine lv_aload_n C.1 C.2.1 dX12_atom0_110 rfl (lv_at hl 1 rfl) ?_
          refine mw_getl C Z hP (0) 22 (by decide) rfl rfl rfl (by decide) inX12 tw_4_186 dX12_atom0_111 ?_
          refine lv_l2i C.1 C.2.1 dX12_atom0_114 rfl ?_
          refine lv_istore_n (lv' := [(1, .int ((σ.2.2 0 22).toInt32)), (0, .ref (mw_a E 0))]) C.1 C.2.1 dX12_atom0_115 rfl hl (by decide) rfl (fun ls hl => ?_)
          refine lv_aload_n C.1 C.2.1 dX12_atom0_116 rfl (lv_at hl 1 rfl) ?_
          refine mw_cVv (As := []) (rest := []) C Z hP hS (0) (cM_nextP l E σ t n bs k p ts 0 h (by omega) (by omega)) vb_X12_next tw_5_64 ⟨rfl, rfl⟩ ⟨Nat.le_of_ble_eq_true rfl, Nat.le_of_ble_eq_true rfl⟩ (by decide) rfl rfl rfl rfl hl.1 rfl (Nat.le_of_ble_eq_true rfl) dX12_atom0_117 ⟨Nat.zero_le _, Nat.zero_le _⟩ (fun u38 H locs q39 hP hS => ?_)
          obtain ⟨⟨k40, p41, ts42, e43, h44⟩, f45⟩ := q39
          refine lv_goto (tgt := 161) C.1 C.2.1 dX12_atom0_120 (by decide) ?_
          refine lv_iload_n C.1 C.2.1 dX12_atom0_161 rfl (lv_at hl 0 rfl) ?_
          exact mw_iret C hr hlk Z hP hS dX12_atom0_162 (⟨((mFp.rf σ).tr f45), by rw [gA_5, gAt_one (Or.inr hnum)]; exact ⟨⟨k40, p41, ts42, e43, h44⟩, hval ▸ ruV_nu hnum⟩⟩)
    · have c8 := bI_n.mp c8
      refine lv_aload_n C.1 C.2.1 dX12_atom0_46 rfl (lv_at hl 1 rfl) ?_
      refine mw_cVi (As := []) (rest := []) C Z hP hS (0) (cM_opens l E σ t n bs k p ts 0 (by decide) h (by omega) (by omega)) vb_X12_opens tw_5_105 ⟨rfl, rfl⟩ ⟨Nat.le_of_ble_eq_true rfl, Nat.le_of_ble_eq_true rfl⟩ (by decide) rfl rfl rfl rfl hl.1 rfl (Nat.le_of_ble_eq_true rfl) dX12_atom0_47 ⟨Nat.zero_le _, Nat.zero_le _⟩ (fun r46 u47 H locs q48 hP hS => ?_)
      obtain ⟨rfl, ⟨k49, p50, ts51, e52, h53⟩, f54⟩ := q48
      refine lv_if_eq (tgt := 161) C.1 C.2.1 dX12_atom0_50 (by decide) (fun c55 => ?_) (fun c55 => ?_)
      · exact absurd c55 (by decide)
      · refine lv_aload_n C.1 C.2.1 dX12_atom0_53 rfl (lv_at hl 1 rfl) ?_
        refine mw_cVi (As := []) (rest := []) C Z hP hS (0) (cM_either1 l E u47 t n bs k49 p50 ts51 h53) vb_X12_either1 tw_6_3 ⟨rfl, rfl⟩ ⟨Nat.le_of_ble_eq_true rfl, Nat.le_of_ble_eq_true rfl⟩ (by decide) rfl rfl rfl rfl hl.1 rfl (Nat.le_of_ble_eq_true rfl) dX12_atom0_54 ⟨Nat.zero_le _, Nat.zero_le _⟩ (fun r56 u57 H locs q58 hP hS => ?_)
        rcases hg59 : ((gD 4).2.2) ((k49, p50) :: ts51) with zz60 | qq61
        · obtain ⟨cs63, ts64⟩ := zz60
          rw [hg59] at q58
          obtain ⟨f62, ⟨k65, p66, ts67, e68, h69⟩, v70⟩ := q58
          have v70 := ((mFp.rf σ).tr f54).evv v70
          refine lv_istore_n (lv' := [(1, .int r56), (0, .ref (mw_a E 0))]) C.1 C.2.1 dX12_atom0_57 rfl hl (by decide) rfl (fun ls hl => ?_)
          refine lv_aload_n C.1 C.2.1 dX12_atom0_58 rfl (lv_at hl 1 rfl) ?_
          refine lv_bipush (v := 41) C.1 C.2.1 dX12_atom0_59 (by decide) ?_
          refine mw_cVi (As := [.int 41]) (rest := []) C Z hP hS (0) (cM_isSignP l E u57 t n bs k65 p66 ts67 1 h69 1 (by decide)) vb_X12_isSign tw_5_141 ⟨rfl, rfl⟩ ⟨Nat.le_of_ble_eq_true rfl, Nat.le_of_ble_eq_true rfl⟩ (by decide) rfl rfl rfl rfl hl.1 rfl (Nat.le_of_ble_eq_true rfl) dX12_atom0_61 ⟨Nat.zero_le _, Nat.zero_le _⟩ (fun r72 u73 H locs q74 hP hS => ?_)
          obtain ⟨rfl, q74u⟩ := q74
          rw [q74u] at hP; clear q74u
          refine lv_if_ne (tgt := 71) C.1 C.2.1 dX12_atom0_64 (by decide) (fun c75 => ?_) (fun c75 => ?_)
          · have c75 := bI_n.mp c75
            refine lv_aload_n C.1 C.2.1 dX12_atom0_71 rfl (lv_at hl 1 rfl) ?_
            refine lv_dup C.1 C.2.1 dX12_atom0_72 rfl ?_
            refine mw_geti C Z hP (0) 23 (by decide) rfl rfl rfl (by decide) inX12 tw_4_187 dX12_atom0_73 ?_
            refine mw_top (y := nI 1) (h69.2.2.1) ?_
            refine lv_iconst (v := 1) C.1 C.2.1 dX12_atom0_76 (by decide) ?_
            refine lv_isub C.1 C.2.1 dX12_atom0_77 ?_
            refine mw_top (y := nI 0) (by decide) ?_
            refine mw_puti C Z hP hS (0) 23 (by decide) rfl rfl rfl (by decide) inX12 tyX12 tyX12_ok nmX12 rfl tw_4_187 rfl rfl dX12_atom0_78 (fun H locs hP hS => ?_)
            have h76 : mPS (mw_si u57 0 23 (nI 0)) t n bs k65 p66 ts67 0 := ⟨h69.1, h69.2.1, rfl, h69.2.2.2⟩
            refine lv_aload_n C.1 C.2.1 dX12_atom0_81 rfl (lv_at hl 1 rfl) ?_
            refine mw_geti C Z hP (0) 24 (by decide) rfl rfl rfl (by decide) inX12 tw_4_188 dX12_atom0_82 ?_
            refine mw_top (y := 0) (h69.2.1) ?_
            refine lv_if_ne (tgt := 161) C.1 C.2.1 dX12_atom0_85 (by decide) (fun c77 => ?_) (fun c77 => ?_)
            · exact absurd c77 (by decide)
            · refine lv_aload_n C.1 C.2.1 dX12_atom0_88 rfl (lv_at hl 1 rfl) ?_
              refine mw_cVv (As := []) (rest := []) C Z hP hS (0) (cM_nextP l E (mw_si u57 0 23 (nI 0)) t n bs k65 p66 ts67 0 h76 (by omega) (by omega)) vb_X12_next tw_5_64 ⟨rfl, rfl⟩ ⟨Nat.le_of_ble_eq_true rfl, Nat.le_of_ble_eq_true rfl⟩ (by decide) rfl rfl rfl rfl hl.1 rfl (Nat.le_of_ble_eq_true rfl) dX12_atom0_89 ⟨Nat.zero_le _, Nat.zero_le _⟩ (fun u79 H locs q80 hP hS => ?_)
              obtain ⟨⟨k81, p82, ts83, e84, h85⟩, f86⟩ := q80
              refine lv_goto (tgt := 161) C.1 C.2.1 dX12_atom0_92 (by decide) ?_
              refine lv_iload_n C.1 C.2.1 dX12_atom0_161 rfl (lv_at hl 0 rfl) ?_
              exact mw_iret C hr hlk Z hP hS dX12_atom0_162 (⟨(((((mFp.rf σ).tr f54).tr f62).si (by decide) _).tr f86), by rw [gA_5, gAt_parI (f := (_, _)) (by omega : k = 12) (by rw [e52, ← e68]; exact hg59) (by omega : k65 = 13)]; exact ⟨⟨k81, p82, ts83, e84, h85⟩, v70⟩⟩)
          · have c75 := bI_0.mp c75
            refine lv_aload_n C.1 C.2.1 dX12_atom0_67 rfl (lv_at hl 1 rfl) ?_
            refine mw_cVv (As := []) (rest := []) C Z hP hS (0) (cM_failP l E u57 t n bs k65 p66 ts67 1 h69) vb_X12_fail tw_5_89 ⟨rfl, rfl⟩ ⟨Nat.le_of_ble_eq_true rfl, Nat.le_of_ble_eq_true rfl⟩ (by decide) rfl rfl rfl rfl hl.1 rfl (Nat.le_of_ble_eq_true rfl) dX12_atom0_68 ⟨Nat.zero_le _, Nat.zero_le _⟩ (fun u88 H locs q89 hP hS => ?_)
            obtain ⟨hb90, f91⟩ := q89
            refine lv_aload_n C.1 C.2.1 dX12_atom0_71 rfl (lv_at hl 1 rfl) ?_
            refine lv_dup C.1 C.2.1 dX12_atom0_72 rfl ?_
            refine mw_geti C Z hP (0) 23 (by decide) rfl rfl rfl (by decide) inX12 tw_4_187 dX12_atom0_73 ?_
            refine lv_iconst (v := 1) C.1 C.2.1 dX12_atom0_76 (by decide) ?_
            refine lv_isub C.1 C.2.1 dX12_atom0_77 ?_
            refine mw_puti C Z hP hS (0) 23 (by decide) rfl rfl rfl (by decide) inX12 tyX12 tyX12_ok nmX12 rfl tw_4_187 rfl rfl dX12_atom0_78 (fun H locs hP hS => ?_)
            have hb92 : mBd (mw_si u88 0 23 ((u88.1 0 23) - 1)) p66 := hb90
            refine lv_aload_n C.1 C.2.1 dX12_atom0_81 rfl (lv_at hl 1 rfl) ?_
            refine mw_geti C Z hP (0) 24 (by decide) rfl rfl rfl (by decide) inX12 tw_4_188 dX12_atom0_82 ?_
            refine mw_top (y := 1) (hb90.1) ?_
            refine lv_if_ne (tgt := 161) C.1 C.2.1 dX12_atom0_85 (by decide) (fun c93 => ?_) (fun c93 => ?_)
            · refine lv_iload_n C.1 C.2.1 dX12_atom0_161 rfl (lv_at hl 0 rfl) ?_
              exact mw_iret C hr hlk Z hP hS dX12_atom0_162 (⟨(((((mFp.rf σ).tr f54).tr f62).tr f91).si (by decide) _), by rw [gA_5, gAt_parX (f := (_, _)) (by omega : k = 12) (by rw [e52, ← e68]; exact hg59) (by omega : ¬ k65 = 13)]; exact hb92⟩)
            · exact absurd c93 (by decide)
        · rw [hg59] at q58
          obtain ⟨f62, hb71⟩ := q58
          refine lv_istore_n (lv' := [(1, .int r56), (0, .ref (mw_a E 0))]) C.1 C.2.1 dX12_atom0_57 rfl hl (by decide) rfl (fun ls hl => ?_)
          refine lv_aload_n C.1 C.2.1 dX12_atom0_58 rfl (lv_at hl 1 rfl) ?_
          refine lv_bipush (v := 41) C.1 C.2.1 dX12_atom0_59 (by decide) ?_
          refine mw_cVi (As := [.int 41]) (rest := []) C Z hP hS (0) (cM_isSignB l E u57 41 hb71.1) vb_X12_isSign tw_5_141 ⟨rfl, rfl⟩ ⟨Nat.le_of_ble_eq_true rfl, Nat.le_of_ble_eq_true rfl⟩ (by decide) rfl rfl rfl rfl hl.1 rfl (Nat.le_of_ble_eq_true rfl) dX12_atom0_61 ⟨Nat.zero_le _, Nat.zero_le _⟩ (fun r94 u95 H locs q96 hP hS => ?_)
          obtain ⟨rfl, q96u⟩ := q96
          rw [q96u] at hP; clear q96u
          refine lv_if_ne (tgt := 71) C.1 C.2.1 dX12_atom0_64 (by decide) (fun c97 => ?_) (fun c97 => ?_)
          · exact absurd c97 (by decide)
          · refine lv_aload_n C.1 C.2.1 dX12_atom0_67 rfl (lv_at hl 1 rfl) ?_
            refine mw_cVv (As := []) (rest := []) C Z hP hS (0) (cM_failB l E u57 hb71.1) vb_X12_fail tw_5_89 ⟨rfl, rfl⟩ ⟨Nat.le_of_ble_eq_true rfl, Nat.le_of_ble_eq_true rfl⟩ (by decide) rfl rfl rfl rfl hl.1 rfl (Nat.le_of_ble_eq_true rfl) dX12_atom0_68 ⟨Nat.zero_le _, Nat.zero_le _⟩ (fun u99 H locs q100 hP hS => ?_)
            rw [q100] at hP; clear q100
            refine lv_aload_n C.1 C.2.1 dX12_atom0_71 rfl (lv_at hl 1 rfl) ?_
            refine lv_dup C.1 C.2.1 dX12_atom0_72 rfl ?_
            refine mw_geti C Z hP (0) 23 (by decide) rfl rfl rfl (by decide) inX12 tw_4_187 dX12_atom0_73 ?_
            refine lv_iconst (v := 1) C.1 C.2.1 dX12_atom0_76 (by decide) ?_
            refine lv_isub C.1 C.2.1 dX12_atom0_77 ?_
            refine mw_puti C Z hP hS (0) 23 (by decide) rfl rfl rfl (by decide) inX12 tyX12 tyX12_ok nmX12 rfl tw_4_187 rfl rfl dX12_atom0_78 (fun H locs hP hS => ?_)
            have hb101 : mBd (mw_si u57 0 23 ((u57.1 0 23) - 1)) qq61 := hb71
            refine lv_aload_n C.1 C.2.1 dX12_atom0_81 rfl (lv_at hl 1 rfl) ?_
            refine mw_geti C Z hP (0) 24 (by decide) rfl rfl rfl (by decide) inX12 tw_4_188 dX12_atom0_82 ?_
            refine mw_top (y := 1) (hb71.1) ?_
            refine lv_if_ne (tgt := 161) C.1 C.2.1 dX12_atom0_85 (by decide) (fun c102 => ?_) (fun c102 => ?_)
            · refine lv_iload_n C.1 C.2.1 dX12_atom0_161 rfl (lv_at hl 0 rfl) ?_
              exact mw_iret C hr hlk Z hP hS dX12_atom0_162 (⟨((((mFp.rf σ).tr f54).tr f62).si (by decide) _), by rw [gA_5, gAt_parF (f := (_, _)) (by omega : k = 12) (by rw [e52]; exact hg59)]; exact hb101⟩)
            · exact absurd c102 (by decide)
  · have c4 := bI_n.mp c4
    refine lv_aload_n C.1 C.2.1 dX12_atom0_11 rfl (lv_at hl 1 rfl) ?_
    refine mw_cVi (As := []) (rest := []) C Z hP hS (0) (cM_opens l E σ t n bs k p ts 0 (by decide) h (by omega) (by omega)) vb_X12_opens tw_5_105 ⟨rfl, rfl⟩ ⟨Nat.le_of_ble_eq_true rfl, Nat.le_of_ble_eq_true rfl⟩ (by decide) rfl rfl rfl rfl hl.1 rfl (Nat.le_of_ble_eq_true rfl) dX12_atom0_12 ⟨Nat.zero_le _, Nat.zero_le _⟩ (fun r103 u104 H locs q105 hP hS => ?_)
    obtain ⟨rfl, ⟨k106, p107, ts108, e109, h110⟩, f111⟩ := q105
    refine lv_if_eq (tgt := 161) C.1 C.2.1 dX12_atom0_15 (by decide) (fun c112 => ?_) (fun c112 => ?_)
    · exact absurd c112 (by decide)
    · refine lv_aload_n C.1 C.2.1 dX12_atom0_18 rfl (lv_at hl 1 rfl) ?_
      refine mw_cVi (As := []) (rest := []) C Z hP hS (0) (cM_atom1 l E u104 t n bs k106 p107 ts108 h110) vb_X12_atom1 tw_5_219 ⟨rfl, rfl⟩ ⟨Nat.le_of_ble_eq_true rfl, Nat.le_of_ble_eq_true rfl⟩ (by decide) rfl rfl rfl rfl hl.1 rfl (Nat.le_of_ble_eq_true rfl) dX12_atom0_19 ⟨Nat.zero_le _, Nat.zero_le _⟩ (fun r113 u114 H locs q115 hP hS => ?_)
      rcases hg116 : ((gD 4).1) ((k106, p107) :: ts108) with zz117 | qq118
      · obtain ⟨cs120, ts121⟩ := zz117
        rw [hg116] at q115
        obtain ⟨f119, ⟨k122, p123, ts124, e125, h126⟩, v127⟩ := q115
        have v127 := ((mFp.rf σ).tr f111).evv v127
        refine lv_ineg C.1 C.2.1 dX12_atom0_22 ?_
        refine lv_istore_n (lv' := [(1, .int (-r113)), (0, .ref (mw_a E 0))]) C.1 C.2.1 dX12_atom0_23 rfl hl (by decide) rfl (fun ls hl => ?_)
        refine lv_aload_n C.1 C.2.1 dX12_atom0_24 rfl (lv_at hl 1 rfl) ?_
        refine lv_dup C.1 C.2.1 dX12_atom0_25 rfl ?_
        refine mw_geti C Z hP (0) 23 (by decide) rfl rfl rfl (by decide) inX12 tw_4_187 dX12_atom0_26 ?_
        refine mw_top (y := nI 1) (h126.2.2.1) ?_
        refine lv_iconst (v := 1) C.1 C.2.1 dX12_atom0_29 (by decide) ?_
        refine lv_isub C.1 C.2.1 dX12_atom0_30 ?_
        refine mw_top (y := nI 0) (by decide) ?_
        refine mw_puti C Z hP hS (0) 23 (by decide) rfl rfl rfl (by decide) inX12 tyX12 tyX12_ok nmX12 rfl tw_4_187 rfl rfl dX12_atom0_31 (fun H locs hP hS => ?_)
        have h129 : mPS (mw_si u114 0 23 (nI 0)) t n bs k122 p123 ts124 0 := ⟨h126.1, h126.2.1, rfl, h126.2.2.2⟩
        refine lv_goto (tgt := 161) C.1 C.2.1 dX12_atom0_34 (by decide) ?_
        refine lv_iload_n C.1 C.2.1 dX12_atom0_161 rfl (lv_at hl 0 rfl) ?_
        exact mw_iret C hr hlk Z hP hS dX12_atom0_162 (⟨((((mFp.rf σ).tr f111).tr f119).si (by decide) _), by rw [gA_5, gAt_negI (f := (_, _)) (by omega : k = 16) (by rw [e109]; exact hg116)]; exact ⟨⟨k122, p123, ts124, e125, h129⟩, ruV_neg v127⟩⟩)
      · rw [hg116] at q115
        obtain ⟨f119, hb128⟩ := q115
        refine lv_ineg C.1 C.2.1 dX12_atom0_22 ?_
        refine lv_istore_n (lv' := [(1, .int (-r113)), (0, .ref (mw_a E 0))]) C.1 C.2.1 dX12_atom0_23 rfl hl (by decide) rfl (fun ls hl => ?_)
        refine lv_aload_n C.1 C.2.1 dX12_atom0_24 rfl (lv_at hl 1 rfl) ?_
        refine lv_dup C.1 C.2.1 dX12_atom0_25 rfl ?_
        refine mw_geti C Z hP (0) 23 (by decide) rfl rfl rfl (by decide) inX12 tw_4_187 dX12_atom0_26 ?_
        refine lv_iconst (v := 1) C.1 C.2.1 dX12_atom0_29 (by decide) ?_
        refine lv_isub C.1 C.2.1 dX12_atom0_30 ?_
        refine mw_puti C Z hP hS (0) 23 (by decide) rfl rfl rfl (by decide) inX12 tyX12 tyX12_ok nmX12 rfl tw_4_187 rfl rfl dX12_atom0_31 (fun H locs hP hS => ?_)
        have hb130 : mBd (mw_si u114 0 23 ((u114.1 0 23) - 1)) qq118 := hb128
        refine lv_goto (tgt := 161) C.1 C.2.1 dX12_atom0_34 (by decide) ?_
        refine lv_iload_n C.1 C.2.1 dX12_atom0_161 rfl (lv_at hl 0 rfl) ?_
        exact mw_iret C hr hlk Z hP hS dX12_atom0_162 (⟨((((mFp.rf σ).tr f111).tr f119).si (by decide) _), by rw [gA_5, gAt_negF (f := (_, _)) (by omega : k = 16) (by rw [e109]; exact hg116)]; exact hb130⟩)

set_option maxHeartbeats 4000000 in
set_option maxRecDepth 100000 in
theorem cM_term0 (l : Launch) (E : mw_E) (σ : mw_M) (t n : Nat) (bs : Nat → Int32) (k p : Nat) (ts : List (Nat × Nat)) (h : mPS σ t n bs k p ts 0) : mw_Ci shM 13 gM l yX12_term0 cX12_term0 2 (some .int) (rmF 35 772) E [.ref (mw_a E 0)] σ (fun r u => mOK σ u t n bs 0 r (gLevel gTim (gD 5).1 ((k, p) :: ts))) := by
  refine mw_of (by decide) gM_ok (Nat.le_of_ble_eq_true rfl) ?_
  intro p_ e_ s_ m_ below meth c_ C hr hlk Z hP ls hl
  have C : CallFix p_ m_ c_ cX12_term0 2 s_ _ lw_good RX12 := C
  have hl : lv_has ls 2 [(0, .ref (mw_a E 0))] := hl
  have hS : va_S (mw_A 13 E) s_.heap s_.heap [] := va_S.rf
  refine lv_aload_n C.1 C.2.1 dX12_term0_0 rfl (lv_at hl 0 rfl) ?_
  refine mw_cVi (As := []) (rest := []) C Z hP hS (0) (cM_atom0 l E σ t n bs k p ts h) vb_X12_atom0 tw_5_239 ⟨rfl, rfl⟩ ⟨Nat.le_of_ble_eq_true rfl, Nat.le_of_ble_eq_true rfl⟩ (by decide) rfl rfl rfl rfl hl.1 rfl (Nat.le_of_ble_eq_true rfl) dX12_term0_1 ⟨Nat.zero_le _, Nat.zero_le _⟩ (fun r1 u2 H locs q3 hP hS => ?_)
  rcases hg4 : ((gD 5).1) ((k, p) :: ts) with zz5 | qq6
  · obtain ⟨cs8, ts9⟩ := zz5
    rw [hg4] at q3
    obtain ⟨f7, ⟨k10, p11, ts12, e13, h14⟩, v15⟩ := q3
    have v15 := (mFp.rf σ).evv v15
    refine lv_istore_n (lv' := [(1, .int r1), (0, .ref (mw_a E 0))]) C.1 C.2.1 dX12_term0_4 rfl hl (by decide) rfl (fun ls hl => ?_)
    have lp : ∀ (N : Nat) (cs : List Nat) (k2 p2 : Nat) (ts2 : List (Nat × Nat)) (v : Int32) (ς : mw_M) (H : Heap) (locs : List Loc), ts2.length + 1 ≤ N → mPS ς t n bs k2 p2 ts2 0 → mFp σ ς → ruV (mEv σ) cs v → gLevel gTim (gD 5).1 ((k, p) :: ts) = gLoop gTim ((gD 5).1) N cs ((k2, p2) :: ts2) → va_P (mw_D E) vwCl (mw_ws shM 13 E ς) H → va_S (mw_A 13 E) s_.heap H locs → ∀ (ls : Array Slot), lv_has ls 2 [(0, .ref (mw_a E 0)), (1, .int v)] → mWi p_ l e_ (rmF 35 772) s_ m_ [.ref (mw_a E 0)] below meth c_ E (fun r u => mOK σ u t n bs 0 r (gLevel gTim (gD 5).1 ((k, p) :: ts))) H locs (F0 m_ 5 ls []) := by
      intro N
      induction N with
      | zero => intro cs k2 p2 ts2 v ς H locs hN; exact absurd hN (by omega)
      | succ N ih =>
        intro cs k2 p2 ts2 v ς H locs hN h2 f2 hv hR hP hS ls hl
        refine lv_aload_n C.1 C.2.1 dX12_term0_5 rfl (lv_at hl 0 rfl) ?_
        refine lv_bipush (v := 42) C.1 C.2.1 dX12_term0_6 (by decide) ?_
        refine mw_cVi (As := [.int 42]) (rest := []) C Z hP hS (0) (cM_isSignP l E ς t n bs k2 p2 ts2 0 h2 5 (by decide)) vb_X12_isSign tw_5_141 ⟨rfl, rfl⟩ ⟨Nat.le_of_ble_eq_true rfl, Nat.le_of_ble_eq_true rfl⟩ (by decide) rfl rfl rfl rfl hl.1 rfl (Nat.le_of_ble_eq_true rfl) dX12_term0_8 ⟨Nat.zero_le _, Nat.zero_le _⟩ (fun r17 u18 H locs q19 hP hS => ?_)
        obtain ⟨rfl, q19u⟩ := q19
        rw [q19u] at hP; clear q19u
        refine lv_if_eq (tgt := 28) C.1 C.2.1 dX12_term0_11 (by decide) (fun c20 => ?_) (fun c20 => ?_)
        · have c20 := bI_0.mp c20
          refine lv_iload_n C.1 C.2.1 dX12_term0_28 rfl (lv_at hl 1 rfl) ?_
          exact mw_iret C hr hlk Z hP hS dX12_term0_29 (⟨f2, by rw [hR, gLoop_e (by simp only [gTim, gAdd, gAnd, gOr, beq_iff_eq, Bool.or_eq_true]; omega)]; exact ⟨⟨k2, p2, ts2, rfl, h2⟩, hv⟩⟩)
        · have c20 := bI_n.mp c20
          refine lv_aload_n C.1 C.2.1 dX12_term0_14 rfl (lv_at hl 0 rfl) ?_
          refine mw_cVv (As := []) (rest := []) C Z hP hS (0) (cM_nextP l E ς t n bs k2 p2 ts2 0 h2 (by omega) (by omega)) vb_X12_next tw_5_64 ⟨rfl, rfl⟩ ⟨Nat.le_of_ble_eq_true rfl, Nat.le_of_ble_eq_true rfl⟩ (by decide) rfl rfl rfl rfl hl.1 rfl (Nat.le_of_ble_eq_true rfl) dX12_term0_15 ⟨Nat.zero_le _, Nat.zero_le _⟩ (fun u22 H locs q23 hP hS => ?_)
          obtain ⟨⟨k24, p25, ts26, e27, h28⟩, f29⟩ := q23
          refine lv_iload_n C.1 C.2.1 dX12_term0_18 rfl (lv_at hl 1 rfl) ?_
          refine lv_aload_n C.1 C.2.1 dX12_term0_19 rfl (lv_at hl 0 rfl) ?_
          refine mw_cVi (As := []) (rest := [.int v]) C Z hP hS (0) (cM_atom0 l E u22 t n bs k24 p25 ts26 h28) vb_X12_atom0 tw_5_239 ⟨rfl, rfl⟩ ⟨Nat.le_of_ble_eq_true rfl, Nat.le_of_ble_eq_true rfl⟩ (by decide) rfl rfl rfl rfl hl.1 rfl (Nat.le_of_ble_eq_true rfl) dX12_term0_20 ⟨Nat.zero_le _, Nat.zero_le _⟩ (fun r30 u31 H locs q32 hP hS => ?_)
          rcases hg33 : ((gD 5).1) ((k24, p25) :: ts26) with zz34 | qq35
          · obtain ⟨cs37, ts38⟩ := zz34
            rw [hg33] at q32
            obtain ⟨f36, ⟨k39, p40, ts41, e42, h43⟩, v44⟩ := q32
            have v44 := (f2.tr f29).evv v44
            refine lv_imul C.1 C.2.1 dX12_term0_23 ?_
            refine lv_istore_n (lv' := [(1, .int (v * r30)), (0, .ref (mw_a E 0))]) C.1 C.2.1 dX12_term0_24 rfl hl (by decide) rfl (fun ls hl => ?_)
            refine lv_goto (tgt := 5) C.1 C.2.1 dX12_term0_25 (by decide) ?_
            exact ih (cs ++ cs37 ++ [k2]) k39 p40 ts41 (v * r30) u31 _ _ (by have d := (gD_dec 5).1 _ _ _ hg33; rw [e42, List.length_cons, List.length_cons] at d; rw [e27, List.length_cons] at hN; omega) h43 ((f2.tr f29).tr f36) (by have z := ruV_op (c := k2) hv v44 (by omega); rwa [show opF k2 v r30 = v * r30 by rw [c20]; rfl] at z) (by rw [hR, gLoop_s (by simp only [gTim, gAdd, gAnd, gOr, beq_iff_eq, Bool.or_eq_true]; omega) (by rw [e27]; exact hg33), e42]) hP hS ls (lv_sub hl [1, 0] rfl)
          · rw [hg33] at q32
            obtain ⟨f36, hb45⟩ := q32
            refine lv_imul C.1 C.2.1 dX12_term0_23 ?_
            refine lv_istore_n (lv' := [(1, .int (v * r30)), (0, .ref (mw_a E 0))]) C.1 C.2.1 dX12_term0_24 rfl hl (by decide) rfl (fun ls hl => ?_)
            refine lv_goto (tgt := 5) C.1 C.2.1 dX12_term0_25 (by decide) ?_
            refine lv_aload_n C.1 C.2.1 dX12_term0_5 rfl (lv_at hl 1 rfl) ?_
            refine lv_bipush (v := 42) C.1 C.2.1 dX12_term0_6 (by decide) ?_
            refine mw_cVi (As := [.int 42]) (rest := []) C Z hP hS (0) (cM_isSignB l E u31 42 hb45.1) vb_X12_isSign tw_5_141 ⟨rfl, rfl⟩ ⟨Nat.le_of_ble_eq_true rfl, Nat.le_of_ble_eq_true rfl⟩ (by decide) rfl rfl rfl rfl hl.1 rfl (Nat.le_of_ble_eq_true rfl) dX12_term0_8 ⟨Nat.zero_le _, Nat.zero_le _⟩ (fun r46 u47 H locs q48 hP hS => ?_)
            obtain ⟨rfl, q48u⟩ := q48
            rw [q48u] at hP; clear q48u
            refine lv_if_eq (tgt := 28) C.1 C.2.1 dX12_term0_11 (by decide) (fun c49 => ?_) (fun c49 => ?_)
            · refine lv_iload_n C.1 C.2.1 dX12_term0_28 rfl (lv_at hl 0 rfl) ?_
              exact mw_iret C hr hlk Z hP hS dX12_term0_29 (⟨((f2.tr f29).tr f36), by rw [hR, gLoop_f (by simp only [gTim, gAdd, gAnd, gOr, beq_iff_eq, Bool.or_eq_true]; omega) (by rw [e27]; exact hg33)]; exact hb45⟩)
            · exact absurd c49 (by decide)
    exact lp (ts12.length + 1) cs8 k10 p11 ts12 r1 u2 _ _ (Nat.le_refl _) h14 ((mFp.rf σ).tr f7) v15 (by rw [gLevel_I hg4, e13]; rfl) hP hS ls (lv_sub hl [1, 0] rfl)
  · rw [hg4] at q3
    obtain ⟨f7, hb16⟩ := q3
    refine lv_istore_n (lv' := [(1, .int r1), (0, .ref (mw_a E 0))]) C.1 C.2.1 dX12_term0_4 rfl hl (by decide) rfl (fun ls hl => ?_)
    refine lv_aload_n C.1 C.2.1 dX12_term0_5 rfl (lv_at hl 1 rfl) ?_
    refine lv_bipush (v := 42) C.1 C.2.1 dX12_term0_6 (by decide) ?_
    refine mw_cVi (As := [.int 42]) (rest := []) C Z hP hS (0) (cM_isSignB l E u2 42 hb16.1) vb_X12_isSign tw_5_141 ⟨rfl, rfl⟩ ⟨Nat.le_of_ble_eq_true rfl, Nat.le_of_ble_eq_true rfl⟩ (by decide) rfl rfl rfl rfl hl.1 rfl (Nat.le_of_ble_eq_true rfl) dX12_term0_8 ⟨Nat.zero_le _, Nat.zero_le _⟩ (fun r50 u51 H locs q52 hP hS => ?_)
    obtain ⟨rfl, q52u⟩ := q52
    rw [q52u] at hP; clear q52u
    refine lv_if_eq (tgt := 28) C.1 C.2.1 dX12_term0_11 (by decide) (fun c53 => ?_) (fun c53 => ?_)
    · refine lv_iload_n C.1 C.2.1 dX12_term0_28 rfl (lv_at hl 0 rfl) ?_
      exact mw_iret C hr hlk Z hP hS dX12_term0_29 (⟨((mFp.rf σ).tr f7), by rw [gLevel_F hg4]; exact hb16⟩)
    · exact absurd c53 (by decide)

set_option maxHeartbeats 4000000 in
set_option maxRecDepth 100000 in
theorem cM_added0 (l : Launch) (E : mw_E) (σ : mw_M) (t n : Nat) (bs : Nat → Int32) (k p : Nat) (ts : List (Nat × Nat)) (h : mPS σ t n bs k p ts 0) : mw_Ci shM 13 gM l yX12_added0 cX12_added0 4 (some .int) (rmF 36 793) E [.ref (mw_a E 0)] σ (fun r u => mOK σ u t n bs 0 r (gLevel gAdd (gLevel gTim (gD 5).1) ((k, p) :: ts))) := by
  refine mw_of (by decide) gM_ok (Nat.le_of_ble_eq_true rfl) ?_
  intro p_ e_ s_ m_ below meth c_ C hr hlk Z hP ls hl
  have C : CallFix p_ m_ c_ cX12_added0 4 s_ _ lw_good RX12 := C
  have hl : lv_has ls 4 [(0, .ref (mw_a E 0))] := hl
  have hS : va_S (mw_A 13 E) s_.heap s_.heap [] := va_S.rf
  refine lv_aload_n C.1 C.2.1 dX12_added0_0 rfl (lv_at hl 0 rfl) ?_
  refine mw_cVi (As := []) (rest := []) C Z hP hS (0) (cM_term0 l E σ t n bs k p ts h) vb_X12_term0 tw_5_235 ⟨rfl, rfl⟩ ⟨Nat.le_of_ble_eq_true rfl, Nat.le_of_ble_eq_true rfl⟩ (by decide) rfl rfl rfl rfl hl.1 rfl (Nat.le_of_ble_eq_true rfl) dX12_added0_1 ⟨Nat.zero_le _, Nat.zero_le _⟩ (fun r1 u2 H locs q3 hP hS => ?_)
  rcases hg4 : (gLevel gTim (gD 5).1) ((k, p) :: ts) with zz5 | qq6
  · obtain ⟨cs8, ts9⟩ := zz5
    rw [hg4] at q3
    obtain ⟨f7, ⟨k10, p11, ts12, e13, h14⟩, v15⟩ := q3
    have v15 := (mFp.rf σ).evv v15
    refine lv_istore_n (lv' := [(1, .int r1), (0, .ref (mw_a E 0))]) C.1 C.2.1 dX12_added0_4 rfl hl (by decide) rfl (fun ls hl => ?_)
    have lp : ∀ (N : Nat) (cs : List Nat) (k2 p2 : Nat) (ts2 : List (Nat × Nat)) (v : Int32) (ς : mw_M) (H : Heap) (locs : List Loc), ts2.length + 1 ≤ N → mPS ς t n bs k2 p2 ts2 0 → mFp σ ς → ruV (mEv σ) cs v → gLevel gAdd (gLevel gTim (gD 5).1) ((k, p) :: ts) = gLoop gAdd (gLevel gTim (gD 5).1) N cs ((k2, p2) :: ts2) → va_P (mw_D E) vwCl (mw_ws shM 13 E ς) H → va_S (mw_A 13 E) s_.heap H locs → ∀ (ls : Array Slot), lv_has ls 4 [(0, .ref (mw_a E 0)), (1, .int v)] → mWi p_ l e_ (rmF 36 793) s_ m_ [.ref (mw_a E 0)] below meth c_ E (fun r u => mOK σ u t n bs 0 r (gLevel gAdd (gLevel gTim (gD 5).1) ((k, p) :: ts))) H locs (F0 m_ 5 ls []) := by
      intro N
      induction N with
      | zero => intro cs k2 p2 ts2 v ς H locs hN; exact absurd hN (by omega)
      | succ N ih =>
        intro cs k2 p2 ts2 v ς H locs hN h2 f2 hv hR hP hS ls hl
        refine lv_aload_n C.1 C.2.1 dX12_added0_5 rfl (lv_at hl 0 rfl) ?_
        refine lv_bipush (v := 43) C.1 C.2.1 dX12_added0_6 (by decide) ?_
        refine mw_cVi (As := [.int 43]) (rest := []) C Z hP hS (0) (cM_isSignP l E ς t n bs k2 p2 ts2 0 h2 3 (by decide)) vb_X12_isSign tw_5_141 ⟨rfl, rfl⟩ ⟨Nat.le_of_ble_eq_true rfl, Nat.le_of_ble_eq_true rfl⟩ (by decide) rfl rfl rfl rfl hl.1 rfl (Nat.le_of_ble_eq_true rfl) dX12_added0_8 ⟨Nat.zero_le _, Nat.zero_le _⟩ (fun r17 u18 H locs q19 hP hS => ?_)
        obtain ⟨rfl, q19u⟩ := q19
        rw [q19u] at hP; clear q19u
        refine lv_if_ne (tgt := 23) C.1 C.2.1 dX12_added0_11 (by decide) (fun c20 => ?_) (fun c20 => ?_)
        · have c20 := bI_n.mp c20
          refine lv_aload_n C.1 C.2.1 dX12_added0_23 rfl (lv_at hl 0 rfl) ?_
          refine mw_getl C Z hP (0) 22 (by decide) rfl rfl rfl (by decide) inX12 tw_4_186 dX12_added0_24 ?_
          refine mw_topl (y := 43) (((h2.2.2.2.2.2.1 3 (by decide)).mpr c20).2) ?_
          refine lv_ldc2 (own := RX12) C.1 C.2.1 C.2.2.2.1 (C.2.2.2.2 _ tw_5_149) dX12_added0_27 ?_
          refine W.lcmp C.1 C.2.1 dX12_added0_30 ?_
          refine lv_if_ne (tgt := 38) C.1 C.2.1 dX12_added0_31 (by decide) (fun c21 => ?_) (fun c21 => ?_)
          · have c21 := (not_congr (lg_cmp_eq _ _)).mp c21
            exact absurd c21 (by decide)
          · have c21 := (lg_cmp_eq _ _).mp c21
            refine lv_iconst (v := 1) C.1 C.2.1 dX12_added0_34 (by decide) ?_
            refine lv_goto (tgt := 39) C.1 C.2.1 dX12_added0_35 (by decide) ?_
            refine lv_istore_n (lv' := [(2, .int 1), (0, .ref (mw_a E 0)), (1, .int v)]) C.1 C.2.1 dX12_added0_39 rfl hl (by decide) rfl (fun ls hl => ?_)
            refine lv_aload_n C.1 C.2.1 dX12_added0_40 rfl (lv_at hl 1 rfl) ?_
            refine mw_cVv (As := []) (rest := []) C Z hP hS (0) (cM_nextP l E ς t n bs k2 p2 ts2 0 h2 (by omega) (by omega)) vb_X12_next tw_5_64 ⟨rfl, rfl⟩ ⟨Nat.le_of_ble_eq_true rfl, Nat.le_of_ble_eq_true rfl⟩ (by decide) rfl rfl rfl rfl hl.1 rfl (Nat.le_of_ble_eq_true rfl) dX12_added0_41 ⟨Nat.zero_le _, Nat.zero_le _⟩ (fun u23 H locs q24 hP hS => ?_)
            obtain ⟨⟨k25, p26, ts27, e28, h29⟩, f30⟩ := q24
            refine lv_aload_n C.1 C.2.1 dX12_added0_44 rfl (lv_at hl 1 rfl) ?_
            refine mw_cVi (As := []) (rest := []) C Z hP hS (0) (cM_term0 l E u23 t n bs k25 p26 ts27 h29) vb_X12_term0 tw_5_235 ⟨rfl, rfl⟩ ⟨Nat.le_of_ble_eq_true rfl, Nat.le_of_ble_eq_true rfl⟩ (by decide) rfl rfl rfl rfl hl.1 rfl (Nat.le_of_ble_eq_true rfl) dX12_added0_45 ⟨Nat.zero_le _, Nat.zero_le _⟩ (fun r31 u32 H locs q33 hP hS => ?_)
            rcases hg34 : (gLevel gTim (gD 5).1) ((k25, p26) :: ts27) with zz35 | qq36
            · obtain ⟨cs38, ts39⟩ := zz35
              rw [hg34] at q33
              obtain ⟨f37, ⟨k40, p41, ts42, e43, h44⟩, v45⟩ := q33
              have v45 := (f2.tr f30).evv v45
              refine lv_istore_n (lv' := [(3, .int r31), (2, .int 1), (0, .ref (mw_a E 0)), (1, .int v)]) C.1 C.2.1 dX12_added0_48 rfl hl (by decide) rfl (fun ls hl => ?_)
              refine lv_iload_n C.1 C.2.1 dX12_added0_49 rfl (lv_at hl 1 rfl) ?_
              refine lv_if_eq (tgt := 59) C.1 C.2.1 dX12_added0_50 (by decide) (fun c47 => ?_) (fun c47 => ?_)
              · exact absurd c47 (by decide)
              · refine lv_iload_n C.1 C.2.1 dX12_added0_53 rfl (lv_at hl 3 rfl) ?_
                refine lv_iload_n C.1 C.2.1 dX12_added0_54 rfl (lv_at hl 0 rfl) ?_
                refine lv_iadd C.1 C.2.1 dX12_added0_55 ?_
                refine lv_goto (tgt := 62) C.1 C.2.1 dX12_added0_56 (by decide) ?_
                refine lv_istore_n (lv' := [(1, .int (v + r31)), (3, .int r31), (2, .int 1), (0, .ref (mw_a E 0))]) C.1 C.2.1 dX12_added0_62 rfl hl (by decide) rfl (fun ls hl => ?_)
                refine lv_goto (tgt := 5) C.1 C.2.1 dX12_added0_63 (by decide) ?_
                exact ih (cs ++ cs38 ++ [k2]) k40 p41 ts42 (v + r31) u32 _ _ (by have d := (gLevel_dec (gD_dec 5).1) _ _ _ hg34; rw [e43, List.length_cons, List.length_cons] at d; rw [e28, List.length_cons] at hN; omega) h44 ((f2.tr f30).tr f37) (by have z := ruV_op (c := k2) hv v45 (by omega); rwa [show opF k2 v r31 = v + r31 by rw [c20]; rfl] at z) (by rw [hR, gLoop_s (by simp only [gTim, gAdd, gAnd, gOr, beq_iff_eq, Bool.or_eq_true]; omega) (by rw [e28]; exact hg34), e43]) hP hS ls (lv_sub hl [3, 0] rfl)
            · rw [hg34] at q33
              obtain ⟨f37, hb46⟩ := q33
              refine lv_istore_n (lv' := [(3, .int r31), (2, .int 1), (0, .ref (mw_a E 0)), (1, .int v)]) C.1 C.2.1 dX12_added0_48 rfl hl (by decide) rfl (fun ls hl => ?_)
              refine lv_iload_n C.1 C.2.1 dX12_added0_49 rfl (lv_at hl 1 rfl) ?_
              refine lv_if_eq (tgt := 59) C.1 C.2.1 dX12_added0_50 (by decide) (fun c48 => ?_) (fun c48 => ?_)
              · exact absurd c48 (by decide)
              · refine lv_iload_n C.1 C.2.1 dX12_added0_53 rfl (lv_at hl 3 rfl) ?_
                refine lv_iload_n C.1 C.2.1 dX12_added0_54 rfl (lv_at hl 0 rfl) ?_
                refine lv_iadd C.1 C.2.1 dX12_added0_55 ?_
                refine lv_goto (tgt := 62) C.1 C.2.1 dX12_added0_56 (by decide) ?_
                refine lv_istore_n (lv' := [(1, .int (v + r31)), (3, .int r31), (2, .int 1), (0, .ref (mw_a E 0))]) C.1 C.2.1 dX12_added0_62 rfl hl (by decide) rfl (fun ls hl => ?_)
                refine lv_goto (tgt := 5) C.1 C.2.1 dX12_added0_63 (by decide) ?_
                refine lv_aload_n C.1 C.2.1 dX12_added0_5 rfl (lv_at hl 3 rfl) ?_
                refine lv_bipush (v := 43) C.1 C.2.1 dX12_added0_6 (by decide) ?_
                refine mw_cVi (As := [.int 43]) (rest := []) C Z hP hS (0) (cM_isSignB l E u32 43 hb46.1) vb_X12_isSign tw_5_141 ⟨rfl, rfl⟩ ⟨Nat.le_of_ble_eq_true rfl, Nat.le_of_ble_eq_true rfl⟩ (by decide) rfl rfl rfl rfl hl.1 rfl (Nat.le_of_ble_eq_true rfl) dX12_added0_8 ⟨Nat.zero_le _, Nat.zero_le _⟩ (fun r49 u50 H locs q51 hP hS => ?_)
                obtain ⟨rfl, q51u⟩ := q51
                rw [q51u] at hP; clear q51u
                refine lv_if_ne (tgt := 23) C.1 C.2.1 dX12_added0_11 (by decide) (fun c52 => ?_) (fun c52 => ?_)
                · exact absurd c52 (by decide)
                · refine lv_aload_n C.1 C.2.1 dX12_added0_14 rfl (lv_at hl 3 rfl) ?_
                  refine lv_bipush (v := 45) C.1 C.2.1 dX12_added0_15 (by decide) ?_
                  refine mw_cVi (As := [.int 45]) (rest := []) C Z hP hS (0) (cM_isSignB l E u32 45 hb46.1) vb_X12_isSign tw_5_141 ⟨rfl, rfl⟩ ⟨Nat.le_of_ble_eq_true rfl, Nat.le_of_ble_eq_true rfl⟩ (by decide) rfl rfl rfl rfl hl.1 rfl (Nat.le_of_ble_eq_true rfl) dX12_added0_17 ⟨Nat.zero_le _, Nat.zero_le _⟩ (fun r53 u54 H locs q55 hP hS => ?_)
                  obtain ⟨rfl, q55u⟩ := q55
                  rw [q55u] at hP; clear q55u
                  refine lv_if_eq (tgt := 66) C.1 C.2.1 dX12_added0_20 (by decide) (fun c56 => ?_) (fun c56 => ?_)
                  · refine lv_iload_n C.1 C.2.1 dX12_added0_66 rfl (lv_at hl 0 rfl) ?_
                    exact mw_iret C hr hlk Z hP hS dX12_added0_67 (⟨((f2.tr f30).tr f37), by rw [hR, gLoop_f (by simp only [gTim, gAdd, gAnd, gOr, beq_iff_eq, Bool.or_eq_true]; omega) (by rw [e28]; exact hg34)]; exact hb46⟩)
                  · exact absurd c56 (by decide)
        · have c20 := bI_0.mp c20
          refine lv_aload_n C.1 C.2.1 dX12_added0_14 rfl (lv_at hl 0 rfl) ?_
          refine lv_bipush (v := 45) C.1 C.2.1 dX12_added0_15 (by decide) ?_
          refine mw_cVi (As := [.int 45]) (rest := []) C Z hP hS (0) (cM_isSignP l E ς t n bs k2 p2 ts2 0 h2 4 (by decide)) vb_X12_isSign tw_5_141 ⟨rfl, rfl⟩ ⟨Nat.le_of_ble_eq_true rfl, Nat.le_of_ble_eq_true rfl⟩ (by decide) rfl rfl rfl rfl hl.1 rfl (Nat.le_of_ble_eq_true rfl) dX12_added0_17 ⟨Nat.zero_le _, Nat.zero_le _⟩ (fun r57 u58 H locs q59 hP hS => ?_)
          obtain ⟨rfl, q59u⟩ := q59
          rw [q59u] at hP; clear q59u
          refine lv_if_eq (tgt := 66) C.1 C.2.1 dX12_added0_20 (by decide) (fun c60 => ?_) (fun c60 => ?_)
          · have c60 := bI_0.mp c60
            refine lv_iload_n C.1 C.2.1 dX12_added0_66 rfl (lv_at hl 1 rfl) ?_
            exact mw_iret C hr hlk Z hP hS dX12_added0_67 (⟨f2, by rw [hR, gLoop_e (by simp only [gTim, gAdd, gAnd, gOr, beq_iff_eq, Bool.or_eq_true]; omega)]; exact ⟨⟨k2, p2, ts2, rfl, h2⟩, hv⟩⟩)
          · have c60 := bI_n.mp c60
            refine lv_aload_n C.1 C.2.1 dX12_added0_23 rfl (lv_at hl 0 rfl) ?_
            refine mw_getl C Z hP (0) 22 (by decide) rfl rfl rfl (by decide) inX12 tw_4_186 dX12_added0_24 ?_
            refine mw_topl (y := 45) (((h2.2.2.2.2.2.1 4 (by decide)).mpr c60).2) ?_
            refine lv_ldc2 (own := RX12) C.1 C.2.1 C.2.2.2.1 (C.2.2.2.2 _ tw_5_149) dX12_added0_27 ?_
            refine W.lcmp C.1 C.2.1 dX12_added0_30 ?_
            refine lv_if_ne (tgt := 38) C.1 C.2.1 dX12_added0_31 (by decide) (fun c61 => ?_) (fun c61 => ?_)
            · have c61 := (not_congr (lg_cmp_eq _ _)).mp c61
              refine lv_iconst (v := 0) C.1 C.2.1 dX12_added0_38 (by decide) ?_
              refine lv_istore_n (lv' := [(2, .int 0), (0, .ref (mw_a E 0)), (1, .int v)]) C.1 C.2.1 dX12_added0_39 rfl hl (by decide) rfl (fun ls hl => ?_)
              refine lv_aload_n C.1 C.2.1 dX12_added0_40 rfl (lv_at hl 1 rfl) ?_
              refine mw_cVv (As := []) (rest := []) C Z hP hS (0) (cM_nextP l E ς t n bs k2 p2 ts2 0 h2 (by omega) (by omega)) vb_X12_next tw_5_64 ⟨rfl, rfl⟩ ⟨Nat.le_of_ble_eq_true rfl, Nat.le_of_ble_eq_true rfl⟩ (by decide) rfl rfl rfl rfl hl.1 rfl (Nat.le_of_ble_eq_true rfl) dX12_added0_41 ⟨Nat.zero_le _, Nat.zero_le _⟩ (fun u63 H locs q64 hP hS => ?_)
              obtain ⟨⟨k65, p66, ts67, e68, h69⟩, f70⟩ := q64
              refine lv_aload_n C.1 C.2.1 dX12_added0_44 rfl (lv_at hl 1 rfl) ?_
              refine mw_cVi (As := []) (rest := []) C Z hP hS (0) (cM_term0 l E u63 t n bs k65 p66 ts67 h69) vb_X12_term0 tw_5_235 ⟨rfl, rfl⟩ ⟨Nat.le_of_ble_eq_true rfl, Nat.le_of_ble_eq_true rfl⟩ (by decide) rfl rfl rfl rfl hl.1 rfl (Nat.le_of_ble_eq_true rfl) dX12_added0_45 ⟨Nat.zero_le _, Nat.zero_le _⟩ (fun r71 u72 H locs q73 hP hS => ?_)
              rcases hg74 : (gLevel gTim (gD 5).1) ((k65, p66) :: ts67) with zz75 | qq76
              · obtain ⟨cs78, ts79⟩ := zz75
                rw [hg74] at q73
                obtain ⟨f77, ⟨k80, p81, ts82, e83, h84⟩, v85⟩ := q73
                have v85 := (f2.tr f70).evv v85
                refine lv_istore_n (lv' := [(3, .int r71), (2, .int 0), (0, .ref (mw_a E 0)), (1, .int v)]) C.1 C.2.1 dX12_added0_48 rfl hl (by decide) rfl (fun ls hl => ?_)
                refine lv_iload_n C.1 C.2.1 dX12_added0_49 rfl (lv_at hl 1 rfl) ?_
                refine lv_if_eq (tgt := 59) C.1 C.2.1 dX12_added0_50 (by decide) (fun c87 => ?_) (fun c87 => ?_)
                · refine lv_iload_n C.1 C.2.1 dX12_added0_59 rfl (lv_at hl 3 rfl) ?_
                  refine lv_iload_n C.1 C.2.1 dX12_added0_60 rfl (lv_at hl 0 rfl) ?_
                  refine lv_isub C.1 C.2.1 dX12_added0_61 ?_
                  refine lv_istore_n (lv' := [(1, .int (v - r71)), (3, .int r71), (2, .int 0), (0, .ref (mw_a E 0))]) C.1 C.2.1 dX12_added0_62 rfl hl (by decide) rfl (fun ls hl => ?_)
                  refine lv_goto (tgt := 5) C.1 C.2.1 dX12_added0_63 (by decide) ?_
                  exact ih (cs ++ cs78 ++ [k2]) k80 p81 ts82 (v - r71) u72 _ _ (by have d := (gLevel_dec (gD_dec 5).1) _ _ _ hg74; rw [e83, List.length_cons, List.length_cons] at d; rw [e68, List.length_cons] at hN; omega) h84 ((f2.tr f70).tr f77) (by have z := ruV_op (c := k2) hv v85 (by omega); rwa [show opF k2 v r71 = v - r71 by rw [c60]; rfl] at z) (by rw [hR, gLoop_s (by simp only [gTim, gAdd, gAnd, gOr, beq_iff_eq, Bool.or_eq_true]; omega) (by rw [e68]; exact hg74), e83]) hP hS ls (lv_sub hl [3, 0] rfl)
                · exact absurd c87 (by decide)
              · rw [hg74] at q73
                obtain ⟨f77, hb86⟩ := q73
                refine lv_istore_n (lv' := [(3, .int r71), (2, .int 0), (0, .ref (mw_a E 0)), (1, .int v)]) C.1 C.2.1 dX12_added0_48 rfl hl (by decide) rfl (fun ls hl => ?_)
                refine lv_iload_n C.1 C.2.1 dX12_added0_49 rfl (lv_at hl 1 rfl) ?_
                refine lv_if_eq (tgt := 59) C.1 C.2.1 dX12_added0_50 (by decide) (fun c88 => ?_) (fun c88 => ?_)
                · refine lv_iload_n C.1 C.2.1 dX12_added0_59 rfl (lv_at hl 3 rfl) ?_
                  refine lv_iload_n C.1 C.2.1 dX12_added0_60 rfl (lv_at hl 0 rfl) ?_
                  refine lv_isub C.1 C.2.1 dX12_added0_61 ?_
                  refine lv_istore_n (lv' := [(1, .int (v - r71)), (3, .int r71), (2, .int 0), (0, .ref (mw_a E 0))]) C.1 C.2.1 dX12_added0_62 rfl hl (by decide) rfl (fun ls hl => ?_)
                  refine lv_goto (tgt := 5) C.1 C.2.1 dX12_added0_63 (by decide) ?_
                  refine lv_aload_n C.1 C.2.1 dX12_added0_5 rfl (lv_at hl 3 rfl) ?_
                  refine lv_bipush (v := 43) C.1 C.2.1 dX12_added0_6 (by decide) ?_
                  refine mw_cVi (As := [.int 43]) (rest := []) C Z hP hS (0) (cM_isSignB l E u72 43 hb86.1) vb_X12_isSign tw_5_141 ⟨rfl, rfl⟩ ⟨Nat.le_of_ble_eq_true rfl, Nat.le_of_ble_eq_true rfl⟩ (by decide) rfl rfl rfl rfl hl.1 rfl (Nat.le_of_ble_eq_true rfl) dX12_added0_8 ⟨Nat.zero_le _, Nat.zero_le _⟩ (fun r89 u90 H locs q91 hP hS => ?_)
                  obtain ⟨rfl, q91u⟩ := q91
                  rw [q91u] at hP; clear q91u
                  refine lv_if_ne (tgt := 23) C.1 C.2.1 dX12_added0_11 (by decide) (fun c92 => ?_) (fun c92 => ?_)
                  · exact absurd c92 (by decide)
                  · refine lv_aload_n C.1 C.2.1 dX12_added0_14 rfl (lv_at hl 3 rfl) ?_
                    refine lv_bipush (v := 45) C.1 C.2.1 dX12_added0_15 (by decide) ?_
                    refine mw_cVi (As := [.int 45]) (rest := []) C Z hP hS (0) (cM_isSignB l E u72 45 hb86.1) vb_X12_isSign tw_5_141 ⟨rfl, rfl⟩ ⟨Nat.le_of_ble_eq_true rfl, Nat.le_of_ble_eq_true rfl⟩ (by decide) rfl rfl rfl rfl hl.1 rfl (Nat.le_of_ble_eq_true rfl) dX12_added0_17 ⟨Nat.zero_le _, Nat.zero_le _⟩ (fun r93 u94 H locs q95 hP hS => ?_)
                    obtain ⟨rfl, q95u⟩ := q95
                    rw [q95u] at hP; clear q95u
                    refine lv_if_eq (tgt := 66) C.1 C.2.1 dX12_added0_20 (by decide) (fun c96 => ?_) (fun c96 => ?_)
                    · refine lv_iload_n C.1 C.2.1 dX12_added0_66 rfl (lv_at hl 0 rfl) ?_
                      exact mw_iret C hr hlk Z hP hS dX12_added0_67 (⟨((f2.tr f70).tr f77), by rw [hR, gLoop_f (by simp only [gTim, gAdd, gAnd, gOr, beq_iff_eq, Bool.or_eq_true]; omega) (by rw [e68]; exact hg74)]; exact hb86⟩)
                    · exact absurd c96 (by decide)
                · exact absurd c88 (by decide)
            · have c61 := (lg_cmp_eq _ _).mp c61
              exact absurd c61 (by decide)
    exact lp (ts12.length + 1) cs8 k10 p11 ts12 r1 u2 _ _ (Nat.le_refl _) h14 ((mFp.rf σ).tr f7) v15 (by rw [gLevel_I hg4, e13]; rfl) hP hS ls (lv_sub hl [1, 0] rfl)
  · rw [hg4] at q3
    obtain ⟨f7, hb16⟩ := q3
    refine lv_istore_n (lv' := [(1, .int r1), (0, .ref (mw_a E 0))]) C.1 C.2.1 dX12_added0_4 rfl hl (by decide) rfl (fun ls hl => ?_)
    refine lv_aload_n C.1 C.2.1 dX12_added0_5 rfl (lv_at hl 1 rfl) ?_
    refine lv_bipush (v := 43) C.1 C.2.1 dX12_added0_6 (by decide) ?_
    refine mw_cVi (As := [.int 43]) (rest := []) C Z hP hS (0) (cM_isSignB l E u2 43 hb16.1) vb_X12_isSign tw_5_141 ⟨rfl, rfl⟩ ⟨Nat.le_of_ble_eq_true rfl, Nat.le_of_ble_eq_true rfl⟩ (by decide) rfl rfl rfl rfl hl.1 rfl (Nat.le_of_ble_eq_true rfl) dX12_added0_8 ⟨Nat.zero_le _, Nat.zero_le _⟩ (fun r97 u98 H locs q99 hP hS => ?_)
    obtain ⟨rfl, q99u⟩ := q99
    rw [q99u] at hP; clear q99u
    refine lv_if_ne (tgt := 23) C.1 C.2.1 dX12_added0_11 (by decide) (fun c100 => ?_) (fun c100 => ?_)
    · exact absurd c100 (by decide)
    · refine lv_aload_n C.1 C.2.1 dX12_added0_14 rfl (lv_at hl 1 rfl) ?_
      refine lv_bipush (v := 45) C.1 C.2.1 dX12_added0_15 (by decide) ?_
      refine mw_cVi (As := [.int 45]) (rest := []) C Z hP hS (0) (cM_isSignB l E u2 45 hb16.1) vb_X12_isSign tw_5_141 ⟨rfl, rfl⟩ ⟨Nat.le_of_ble_eq_true rfl, Nat.le_of_ble_eq_true rfl⟩ (by decide) rfl rfl rfl rfl hl.1 rfl (Nat.le_of_ble_eq_true rfl) dX12_added0_17 ⟨Nat.zero_le _, Nat.zero_le _⟩ (fun r101 u102 H locs q103 hP hS => ?_)
      obtain ⟨rfl, q103u⟩ := q103
      rw [q103u] at hP; clear q103u
      refine lv_if_eq (tgt := 66) C.1 C.2.1 dX12_added0_20 (by decide) (fun c104 => ?_) (fun c104 => ?_)
      · refine lv_iload_n C.1 C.2.1 dX12_added0_66 rfl (lv_at hl 0 rfl) ?_
        exact mw_iret C hr hlk Z hP hS dX12_added0_67 (⟨((mFp.rf σ).tr f7), by rw [gLevel_F hg4]; exact hb16⟩)
      · exact absurd c104 (by decide)

set_option maxHeartbeats 4000000 in
set_option maxRecDepth 100000 in
theorem cM_not0 (l : Launch) (E : mw_E) (σ : mw_M) (t n : Nat) (bs : Nat → Int32) (k p : Nat) (ts : List (Nat × Nat)) (h : mPS σ t n bs k p ts 0) : mw_Ci shM 13 gM l yX12_not0 cX12_not0 4 (some .int) (rmF 37 816) E [.ref (mw_a E 0)] σ (fun r u => mOK σ u t n bs 0 r ((gD 5).2.1 ((k, p) :: ts))) := by
  refine mw_of (by decide) gM_ok (Nat.le_of_ble_eq_true rfl) ?_
  intro p_ e_ s_ m_ below meth c_ C hr hlk Z hP ls hl
  have C : CallFix p_ m_ c_ cX12_not0 4 s_ _ lw_good RX12 := C
  have hl : lv_has ls 4 [(0, .ref (mw_a E 0))] := hl
  have hS : va_S (mw_A 13 E) s_.heap s_.heap [] := va_S.rf
  refine lv_aload_n C.1 C.2.1 dX12_not0_0 rfl (lv_at hl 0 rfl) ?_
  refine lv_bipush (v := 110) C.1 C.2.1 dX12_not0_1 (by decide) ?_
  refine lv_bipush (v := 111) C.1 C.2.1 dX12_not0_3 (by decide) ?_
  refine lv_bipush (v := 116) C.1 C.2.1 dX12_not0_5 (by decide) ?_
  refine lv_iconst (v := 0) C.1 C.2.1 dX12_not0_7 (by decide) ?_
  refine lv_iconst (v := 0) C.1 C.2.1 dX12_not0_8 (by decide) ?_
  refine lv_iconst (v := 0) C.1 C.2.1 dX12_not0_9 (by decide) ?_
  refine lv_iconst (v := 0) C.1 C.2.1 dX12_not0_10 (by decide) ?_
  refine lv_iconst (v := 0) C.1 C.2.1 dX12_not0_11 (by decide) ?_
  refine mw_cVi (As := [.int 110, .int 111, .int 116, .int 0, .int 0, .int 0, .int 0, .int 0]) (rest := []) C Z hP hS (0) (cM_isWordP l E σ t n bs k p ts 0 h 11 (by decide)) vb_X12_isWord tw_5_77 ⟨rfl, rfl⟩ ⟨Nat.le_of_ble_eq_true rfl, Nat.le_of_ble_eq_true rfl⟩ (by decide) rfl rfl rfl rfl hl.1 rfl (Nat.le_of_ble_eq_true rfl) dX12_not0_12 ⟨Nat.zero_le _, Nat.zero_le _⟩ (fun r1 u2 H locs q3 hP hS => ?_)
  obtain ⟨rfl, q3u⟩ := q3
  rw [q3u] at hP; clear q3u
  refine lv_if_eq (tgt := 52) C.1 C.2.1 dX12_not0_15 (by decide) (fun c4 => ?_) (fun c4 => ?_)
  · have c4 := bI_0.mp c4
    refine lv_aload_n C.1 C.2.1 dX12_not0_52 rfl (lv_at hl 0 rfl) ?_
    refine mw_cVi (As := []) (rest := []) C Z hP hS (0) (cM_added0 l E σ t n bs k p ts h) vb_X12_added0 tw_5_231 ⟨rfl, rfl⟩ ⟨Nat.le_of_ble_eq_true rfl, Nat.le_of_ble_eq_true rfl⟩ (by decide) rfl rfl rfl rfl hl.1 rfl (Nat.le_of_ble_eq_true rfl) dX12_not0_53 ⟨Nat.zero_le _, Nat.zero_le _⟩ (fun r5 u6 H locs q7 hP hS => ?_)
    rcases hg8 : (gLevel gAdd (gLevel gTim (gD 5).1)) ((k, p) :: ts) with zz9 | qq10
    · obtain ⟨cs12, ts13⟩ := zz9
      rw [hg8] at q7
      obtain ⟨f11, ⟨k14, p15, ts16, e17, h18⟩, v19⟩ := q7
      have v19 := (mFp.rf σ).evv v19
      refine lv_istore_n (lv' := [(1, .int r5), (0, .ref (mw_a E 0))]) C.1 C.2.1 dX12_not0_56 rfl hl (by decide) rfl (fun ls hl => ?_)
      refine lv_aload_n C.1 C.2.1 dX12_not0_57 rfl (lv_at hl 1 rfl) ?_
      refine lv_bipush (v := 60) C.1 C.2.1 dX12_not0_58 (by decide) ?_
      refine mw_cVi (As := [.int 60]) (rest := []) C Z hP hS (0) (cM_isSignP l E u6 t n bs k14 p15 ts16 0 h18 6 (by decide)) vb_X12_isSign tw_5_141 ⟨rfl, rfl⟩ ⟨Nat.le_of_ble_eq_true rfl, Nat.le_of_ble_eq_true rfl⟩ (by decide) rfl rfl rfl rfl hl.1 rfl (Nat.le_of_ble_eq_true rfl) dX12_not0_60 ⟨Nat.zero_le _, Nat.zero_le _⟩ (fun r21 u22 H locs q23 hP hS => ?_)
      obtain ⟨rfl, q23u⟩ := q23
      rw [q23u] at hP; clear q23u
      refine lv_if_ne (tgt := 77) C.1 C.2.1 dX12_not0_63 (by decide) (fun c24 => ?_) (fun c24 => ?_)
      · have c24 := bI_n.mp c24
        refine lv_aload_n C.1 C.2.1 dX12_not0_77 rfl (lv_at hl 1 rfl) ?_
        refine mw_getl C Z hP (0) 22 (by decide) rfl rfl rfl (by decide) inX12 tw_4_186 dX12_not0_78 ?_
        refine mw_topl (y := 60) (((h18.2.2.2.2.2.1 6 (by decide)).mpr c24).2) ?_
        refine lv_ldc2 (own := RX12) C.1 C.2.1 C.2.2.2.1 (C.2.2.2.2 _ tw_5_150) dX12_not0_81 ?_
        refine W.lcmp C.1 C.2.1 dX12_not0_84 ?_
        refine lv_if_ne (tgt := 92) C.1 C.2.1 dX12_not0_85 (by decide) (fun c25 => ?_) (fun c25 => ?_)
        · have c25 := (not_congr (lg_cmp_eq _ _)).mp c25
          exact absurd c25 (by decide)
        · have c25 := (lg_cmp_eq _ _).mp c25
          refine lv_iconst (v := 1) C.1 C.2.1 dX12_not0_88 (by decide) ?_
          refine lv_goto (tgt := 93) C.1 C.2.1 dX12_not0_89 (by decide) ?_
          refine lv_istore_n (lv' := [(2, .int 1), (1, .int r5), (0, .ref (mw_a E 0))]) C.1 C.2.1 dX12_not0_93 rfl hl (by decide) rfl (fun ls hl => ?_)
          refine lv_aload_n C.1 C.2.1 dX12_not0_94 rfl (lv_at hl 2 rfl) ?_
          refine mw_cVv (As := []) (rest := []) C Z hP hS (0) (cM_nextP l E u6 t n bs k14 p15 ts16 0 h18 (by omega) (by omega)) vb_X12_next tw_5_64 ⟨rfl, rfl⟩ ⟨Nat.le_of_ble_eq_true rfl, Nat.le_of_ble_eq_true rfl⟩ (by decide) rfl rfl rfl rfl hl.1 rfl (Nat.le_of_ble_eq_true rfl) dX12_not0_95 ⟨Nat.zero_le _, Nat.zero_le _⟩ (fun u27 H locs q28 hP hS => ?_)
          obtain ⟨⟨k29, p30, ts31, e32, h33⟩, f34⟩ := q28
          refine lv_aload_n C.1 C.2.1 dX12_not0_98 rfl (lv_at hl 2 rfl) ?_
          refine mw_cVi (As := []) (rest := []) C Z hP hS (0) (cM_added0 l E u27 t n bs k29 p30 ts31 h33) vb_X12_added0 tw_5_231 ⟨rfl, rfl⟩ ⟨Nat.le_of_ble_eq_true rfl, Nat.le_of_ble_eq_true rfl⟩ (by decide) rfl rfl rfl rfl hl.1 rfl (Nat.le_of_ble_eq_true rfl) dX12_not0_99 ⟨Nat.zero_le _, Nat.zero_le _⟩ (fun r35 u36 H locs q37 hP hS => ?_)
          rcases hg38 : (gLevel gAdd (gLevel gTim (gD 5).1)) ((k29, p30) :: ts31) with zz39 | qq40
          · obtain ⟨cs42, ts43⟩ := zz39
            rw [hg38] at q37
            obtain ⟨f41, ⟨k44, p45, ts46, e47, h48⟩, v49⟩ := q37
            have v49 := (((mFp.rf σ).tr f11).tr f34).evv v49
            refine lv_istore_n (lv' := [(3, .int r35), (2, .int 1), (1, .int r5), (0, .ref (mw_a E 0))]) C.1 C.2.1 dX12_not0_102 rfl hl (by decide) rfl (fun ls hl => ?_)
            refine lv_iload_n C.1 C.2.1 dX12_not0_103 rfl (lv_at hl 1 rfl) ?_
            refine lv_if_eq (tgt := 115) C.1 C.2.1 dX12_not0_104 (by decide) (fun c51 => ?_) (fun c51 => ?_)
            · exact absurd c51 (by decide)
            · refine lv_iload_n C.1 C.2.1 dX12_not0_107 rfl (lv_at hl 2 rfl) ?_
              refine lv_iload_n C.1 C.2.1 dX12_not0_108 rfl (lv_at hl 0 rfl) ?_
              refine lv_icmp_ge (tgt := 124) C.1 C.2.1 dX12_not0_109 (by decide) (fun c52 => ?_) (fun c52 => ?_)
              · refine lv_iconst (v := 0) C.1 C.2.1 dX12_not0_124 (by decide) ?_
                exact mw_iret C hr hlk Z hP hS dX12_not0_125 (⟨((((mFp.rf σ).tr f11).tr f34).tr f41), by rw [gN_5, gNot_n (by omega), gCmp_2I (by rw [← e17]; exact hg8) (by omega) (by rw [e32]; exact hg38)]; exact ⟨⟨k44, p45, ts46, e47, h48⟩, by have z := ruV_op (c := k14) v19 v49 (by omega); rwa [show opF k14 r5 r35 = 0 by rw [c24]; exact bI_f (by rw [ni_le] at c52; rw [ni_lt]; omega)] at z⟩⟩)
              · refine lv_goto (tgt := 120) C.1 C.2.1 dX12_not0_112 (by decide) ?_
                refine lv_iconst (v := 1) C.1 C.2.1 dX12_not0_120 (by decide) ?_
                refine lv_goto (tgt := 125) C.1 C.2.1 dX12_not0_121 (by decide) ?_
                exact mw_iret C hr hlk Z hP hS dX12_not0_125 (⟨((((mFp.rf σ).tr f11).tr f34).tr f41), by rw [gN_5, gNot_n (by omega), gCmp_2I (by rw [← e17]; exact hg8) (by omega) (by rw [e32]; exact hg38)]; exact ⟨⟨k44, p45, ts46, e47, h48⟩, by have z := ruV_op (c := k14) v19 v49 (by omega); rwa [show opF k14 r5 r35 = 1 by rw [c24]; exact bI_t (by rw [ni_le] at c52; rw [ni_lt]; omega)] at z⟩⟩)
          · rw [hg38] at q37
            obtain ⟨f41, hb50⟩ := q37
            refine lv_istore_n (lv' := [(3, .int r35), (2, .int 1), (1, .int r5), (0, .ref (mw_a E 0))]) C.1 C.2.1 dX12_not0_102 rfl hl (by decide) rfl (fun ls hl => ?_)
            refine lv_iload_n C.1 C.2.1 dX12_not0_103 rfl (lv_at hl 1 rfl) ?_
            refine lv_if_eq (tgt := 115) C.1 C.2.1 dX12_not0_104 (by decide) (fun c53 => ?_) (fun c53 => ?_)
            · exact absurd c53 (by decide)
            · refine lv_iload_n C.1 C.2.1 dX12_not0_107 rfl (lv_at hl 2 rfl) ?_
              refine lv_iload_n C.1 C.2.1 dX12_not0_108 rfl (lv_at hl 0 rfl) ?_
              refine lv_icmp_ge (tgt := 124) C.1 C.2.1 dX12_not0_109 (by decide) (fun c54 => ?_) (fun c54 => ?_)
              · refine lv_iconst (v := 0) C.1 C.2.1 dX12_not0_124 (by decide) ?_
                exact mw_iret C hr hlk Z hP hS dX12_not0_125 (⟨((((mFp.rf σ).tr f11).tr f34).tr f41), by rw [gN_5, gNot_n (by omega), gCmp_2F (by rw [← e17]; exact hg8) (by omega) (by rw [e32]; exact hg38)]; exact hb50⟩)
              · refine lv_goto (tgt := 120) C.1 C.2.1 dX12_not0_112 (by decide) ?_
                refine lv_iconst (v := 1) C.1 C.2.1 dX12_not0_120 (by decide) ?_
                refine lv_goto (tgt := 125) C.1 C.2.1 dX12_not0_121 (by decide) ?_
                exact mw_iret C hr hlk Z hP hS dX12_not0_125 (⟨((((mFp.rf σ).tr f11).tr f34).tr f41), by rw [gN_5, gNot_n (by omega), gCmp_2F (by rw [← e17]; exact hg8) (by omega) (by rw [e32]; exact hg38)]; exact hb50⟩)
      · have c24 := bI_0.mp c24
        refine lv_aload_n C.1 C.2.1 dX12_not0_66 rfl (lv_at hl 1 rfl) ?_
        refine lv_bipush (v := 61) C.1 C.2.1 dX12_not0_67 (by decide) ?_
        refine mw_cVi (As := [.int 61]) (rest := []) C Z hP hS (0) (cM_isSignP l E u6 t n bs k14 p15 ts16 0 h18 7 (by decide)) vb_X12_isSign tw_5_141 ⟨rfl, rfl⟩ ⟨Nat.le_of_ble_eq_true rfl, Nat.le_of_ble_eq_true rfl⟩ (by decide) rfl rfl rfl rfl hl.1 rfl (Nat.le_of_ble_eq_true rfl) dX12_not0_69 ⟨Nat.zero_le _, Nat.zero_le _⟩ (fun r55 u56 H locs q57 hP hS => ?_)
        obtain ⟨rfl, q57u⟩ := q57
        rw [q57u] at hP; clear q57u
        refine lv_if_ne (tgt := 77) C.1 C.2.1 dX12_not0_72 (by decide) (fun c58 => ?_) (fun c58 => ?_)
        · have c58 := bI_n.mp c58
          refine lv_aload_n C.1 C.2.1 dX12_not0_77 rfl (lv_at hl 1 rfl) ?_
          refine mw_getl C Z hP (0) 22 (by decide) rfl rfl rfl (by decide) inX12 tw_4_186 dX12_not0_78 ?_
          refine mw_topl (y := 61) (((h18.2.2.2.2.2.1 7 (by decide)).mpr c58).2) ?_
          refine lv_ldc2 (own := RX12) C.1 C.2.1 C.2.2.2.1 (C.2.2.2.2 _ tw_5_150) dX12_not0_81 ?_
          refine W.lcmp C.1 C.2.1 dX12_not0_84 ?_
          refine lv_if_ne (tgt := 92) C.1 C.2.1 dX12_not0_85 (by decide) (fun c59 => ?_) (fun c59 => ?_)
          · have c59 := (not_congr (lg_cmp_eq _ _)).mp c59
            refine lv_iconst (v := 0) C.1 C.2.1 dX12_not0_92 (by decide) ?_
            refine lv_istore_n (lv' := [(2, .int 0), (1, .int r5), (0, .ref (mw_a E 0))]) C.1 C.2.1 dX12_not0_93 rfl hl (by decide) rfl (fun ls hl => ?_)
            refine lv_aload_n C.1 C.2.1 dX12_not0_94 rfl (lv_at hl 2 rfl) ?_
            refine mw_cVv (As := []) (rest := []) C Z hP hS (0) (cM_nextP l E u6 t n bs k14 p15 ts16 0 h18 (by omega) (by omega)) vb_X12_next tw_5_64 ⟨rfl, rfl⟩ ⟨Nat.le_of_ble_eq_true rfl, Nat.le_of_ble_eq_true rfl⟩ (by decide) rfl rfl rfl rfl hl.1 rfl (Nat.le_of_ble_eq_true rfl) dX12_not0_95 ⟨Nat.zero_le _, Nat.zero_le _⟩ (fun u61 H locs q62 hP hS => ?_)
            obtain ⟨⟨k63, p64, ts65, e66, h67⟩, f68⟩ := q62
            refine lv_aload_n C.1 C.2.1 dX12_not0_98 rfl (lv_at hl 2 rfl) ?_
            refine mw_cVi (As := []) (rest := []) C Z hP hS (0) (cM_added0 l E u61 t n bs k63 p64 ts65 h67) vb_X12_added0 tw_5_231 ⟨rfl, rfl⟩ ⟨Nat.le_of_ble_eq_true rfl, Nat.le_of_ble_eq_true rfl⟩ (by decide) rfl rfl rfl rfl hl.1 rfl (Nat.le_of_ble_eq_true rfl) dX12_not0_99 ⟨Nat.zero_le _, Nat.zero_le _⟩ (fun r69 u70 H locs q71 hP hS => ?_)
            rcases hg72 : (gLevel gAdd (gLevel gTim (gD 5).1)) ((k63, p64) :: ts65) with zz73 | qq74
            · obtain ⟨cs76, ts77⟩ := zz73
              rw [hg72] at q71
              obtain ⟨f75, ⟨k78, p79, ts80, e81, h82⟩, v83⟩ := q71
              have v83 := (((mFp.rf σ).tr f11).tr f68).evv v83
              refine lv_istore_n (lv' := [(3, .int r69), (2, .int 0), (1, .int r5), (0, .ref (mw_a E 0))]) C.1 C.2.1 dX12_not0_102 rfl hl (by decide) rfl (fun ls hl => ?_)
              refine lv_iload_n C.1 C.2.1 dX12_not0_103 rfl (lv_at hl 1 rfl) ?_
              refine lv_if_eq (tgt := 115) C.1 C.2.1 dX12_not0_104 (by decide) (fun c85 => ?_) (fun c85 => ?_)
              · refine lv_iload_n C.1 C.2.1 dX12_not0_115 rfl (lv_at hl 2 rfl) ?_
                refine lv_iload_n C.1 C.2.1 dX12_not0_116 rfl (lv_at hl 0 rfl) ?_
                refine lv_icmp_ne (tgt := 124) C.1 C.2.1 dX12_not0_117 (by decide) (fun c86 => ?_) (fun c86 => ?_)
                · refine lv_iconst (v := 0) C.1 C.2.1 dX12_not0_124 (by decide) ?_
                  exact mw_iret C hr hlk Z hP hS dX12_not0_125 (⟨((((mFp.rf σ).tr f11).tr f68).tr f75), by rw [gN_5, gNot_n (by omega), gCmp_2I (by rw [← e17]; exact hg8) (by omega) (by rw [e66]; exact hg72)]; exact ⟨⟨k78, p79, ts80, e81, h82⟩, by have z := ruV_op (c := k14) v19 v83 (by omega); rwa [show opF k14 r5 r69 = 0 by rw [c58]; exact bI_f c86] at z⟩⟩)
                · refine lv_iconst (v := 1) C.1 C.2.1 dX12_not0_120 (by decide) ?_
                  refine lv_goto (tgt := 125) C.1 C.2.1 dX12_not0_121 (by decide) ?_
                  exact mw_iret C hr hlk Z hP hS dX12_not0_125 (⟨((((mFp.rf σ).tr f11).tr f68).tr f75), by rw [gN_5, gNot_n (by omega), gCmp_2I (by rw [← e17]; exact hg8) (by omega) (by rw [e66]; exact hg72)]; exact ⟨⟨k78, p79, ts80, e81, h82⟩, by have z := ruV_op (c := k14) v19 v83 (by omega); rwa [show opF k14 r5 r69 = 1 by rw [c58]; exact bI_t c86] at z⟩⟩)
              · exact absurd c85 (by decide)
            · rw [hg72] at q71
              obtain ⟨f75, hb84⟩ := q71
              refine lv_istore_n (lv' := [(3, .int r69), (2, .int 0), (1, .int r5), (0, .ref (mw_a E 0))]) C.1 C.2.1 dX12_not0_102 rfl hl (by decide) rfl (fun ls hl => ?_)
              refine lv_iload_n C.1 C.2.1 dX12_not0_103 rfl (lv_at hl 1 rfl) ?_
              refine lv_if_eq (tgt := 115) C.1 C.2.1 dX12_not0_104 (by decide) (fun c87 => ?_) (fun c87 => ?_)
              · refine lv_iload_n C.1 C.2.1 dX12_not0_115 rfl (lv_at hl 2 rfl) ?_
                refine lv_iload_n C.1 C.2.1 dX12_not0_116 rfl (lv_at hl 0 rfl) ?_
                refine lv_icmp_ne (tgt := 124) C.1 C.2.1 dX12_not0_117 (by decide) (fun c88 => ?_) (fun c88 => ?_)
                · refine lv_iconst (v := 0) C.1 C.2.1 dX12_not0_124 (by decide) ?_
                  exact mw_iret C hr hlk Z hP hS dX12_not0_125 (⟨((((mFp.rf σ).tr f11).tr f68).tr f75), by rw [gN_5, gNot_n (by omega), gCmp_2F (by rw [← e17]; exact hg8) (by omega) (by rw [e66]; exact hg72)]; exact hb84⟩)
                · refine lv_iconst (v := 1) C.1 C.2.1 dX12_not0_120 (by decide) ?_
                  refine lv_goto (tgt := 125) C.1 C.2.1 dX12_not0_121 (by decide) ?_
                  exact mw_iret C hr hlk Z hP hS dX12_not0_125 (⟨((((mFp.rf σ).tr f11).tr f68).tr f75), by rw [gN_5, gNot_n (by omega), gCmp_2F (by rw [← e17]; exact hg8) (by omega) (by rw [e66]; exact hg72)]; exact hb84⟩)
              · exact absurd c87 (by decide)
          · have c59 := (lg_cmp_eq _ _).mp c59
            exact absurd c59 (by decide)
        · have c58 := bI_0.mp c58
          refine lv_iload_n C.1 C.2.1 dX12_not0_75 rfl (lv_at hl 0 rfl) ?_
          exact mw_iret C hr hlk Z hP hS dX12_not0_76 (⟨((mFp.rf σ).tr f11), by rw [gN_5, gNot_n (by omega), gCmp_1 (by rw [← e17]; exact hg8) (by omega)]; exact ⟨⟨k14, p15, ts16, rfl, h18⟩, v19⟩⟩)
    · rw [hg8] at q7
      obtain ⟨f11, hb20⟩ := q7
      refine lv_istore_n (lv' := [(1, .int r5), (0, .ref (mw_a E 0))]) C.1 C.2.1 dX12_not0_56 rfl hl (by decide) rfl (fun ls hl => ?_)
      refine lv_aload_n C.1 C.2.1 dX12_not0_57 rfl (lv_at hl 1 rfl) ?_
      refine lv_bipush (v := 60) C.1 C.2.1 dX12_not0_58 (by decide) ?_
      refine mw_cVi (As := [.int 60]) (rest := []) C Z hP hS (0) (cM_isSignB l E u6 60 hb20.1) vb_X12_isSign tw_5_141 ⟨rfl, rfl⟩ ⟨Nat.le_of_ble_eq_true rfl, Nat.le_of_ble_eq_true rfl⟩ (by decide) rfl rfl rfl rfl hl.1 rfl (Nat.le_of_ble_eq_true rfl) dX12_not0_60 ⟨Nat.zero_le _, Nat.zero_le _⟩ (fun r89 u90 H locs q91 hP hS => ?_)
      obtain ⟨rfl, q91u⟩ := q91
      rw [q91u] at hP; clear q91u
      refine lv_if_ne (tgt := 77) C.1 C.2.1 dX12_not0_63 (by decide) (fun c92 => ?_) (fun c92 => ?_)
      · exact absurd c92 (by decide)
      · refine lv_aload_n C.1 C.2.1 dX12_not0_66 rfl (lv_at hl 1 rfl) ?_
        refine lv_bipush (v := 61) C.1 C.2.1 dX12_not0_67 (by decide) ?_
        refine mw_cVi (As := [.int 61]) (rest := []) C Z hP hS (0) (cM_isSignB l E u6 61 hb20.1) vb_X12_isSign tw_5_141 ⟨rfl, rfl⟩ ⟨Nat.le_of_ble_eq_true rfl, Nat.le_of_ble_eq_true rfl⟩ (by decide) rfl rfl rfl rfl hl.1 rfl (Nat.le_of_ble_eq_true rfl) dX12_not0_69 ⟨Nat.zero_le _, Nat.zero_le _⟩ (fun r93 u94 H locs q95 hP hS => ?_)
        obtain ⟨rfl, q95u⟩ := q95
        rw [q95u] at hP; clear q95u
        refine lv_if_ne (tgt := 77) C.1 C.2.1 dX12_not0_72 (by decide) (fun c96 => ?_) (fun c96 => ?_)
        · exact absurd c96 (by decide)
        · refine lv_iload_n C.1 C.2.1 dX12_not0_75 rfl (lv_at hl 0 rfl) ?_
          exact mw_iret C hr hlk Z hP hS dX12_not0_76 (⟨((mFp.rf σ).tr f11), by rw [gN_5, gNot_n (by omega), gCmp_F hg8]; exact hb20⟩)
  · have c4 := bI_n.mp c4
    refine lv_aload_n C.1 C.2.1 dX12_not0_18 rfl (lv_at hl 0 rfl) ?_
    refine mw_cVi (As := []) (rest := []) C Z hP hS (0) (cM_opens l E σ t n bs k p ts 0 (by decide) h (by omega) (by omega)) vb_X12_opens tw_5_105 ⟨rfl, rfl⟩ ⟨Nat.le_of_ble_eq_true rfl, Nat.le_of_ble_eq_true rfl⟩ (by decide) rfl rfl rfl rfl hl.1 rfl (Nat.le_of_ble_eq_true rfl) dX12_not0_19 ⟨Nat.zero_le _, Nat.zero_le _⟩ (fun r97 u98 H locs q99 hP hS => ?_)
    obtain ⟨rfl, ⟨k100, p101, ts102, e103, h104⟩, f105⟩ := q99
    refine lv_if_ne (tgt := 27) C.1 C.2.1 dX12_not0_22 (by decide) (fun c106 => ?_) (fun c106 => ?_)
    · refine lv_aload_n C.1 C.2.1 dX12_not0_27 rfl (lv_at hl 0 rfl) ?_
      refine mw_cVi (As := []) (rest := []) C Z hP hS (0) (cM_not1 l E u98 t n bs k100 p101 ts102 h104) vb_X12_not1 tw_5_109 ⟨rfl, rfl⟩ ⟨Nat.le_of_ble_eq_true rfl, Nat.le_of_ble_eq_true rfl⟩ (by decide) rfl rfl rfl rfl hl.1 rfl (Nat.le_of_ble_eq_true rfl) dX12_not0_28 ⟨Nat.zero_le _, Nat.zero_le _⟩ (fun r107 u108 H locs q109 hP hS => ?_)
      rcases hg110 : ((gD 4).2.1) ((k100, p101) :: ts102) with zz111 | qq112
      · obtain ⟨cs114, ts115⟩ := zz111
        rw [hg110] at q109
        obtain ⟨f113, ⟨k116, p117, ts118, e119, h120⟩, v121⟩ := q109
        have v121 := ((mFp.rf σ).tr f105).evv v121
        refine lv_istore_n (lv' := [(1, .int r107), (0, .ref (mw_a E 0))]) C.1 C.2.1 dX12_not0_31 rfl hl (by decide) rfl (fun ls hl => ?_)
        refine lv_aload_n C.1 C.2.1 dX12_not0_32 rfl (lv_at hl 1 rfl) ?_
        refine lv_dup C.1 C.2.1 dX12_not0_33 rfl ?_
        refine mw_geti C Z hP (0) 23 (by decide) rfl rfl rfl (by decide) inX12 tw_4_187 dX12_not0_34 ?_
        refine mw_top (y := nI 1) (h120.2.2.1) ?_
        refine lv_iconst (v := 1) C.1 C.2.1 dX12_not0_37 (by decide) ?_
        refine lv_isub C.1 C.2.1 dX12_not0_38 ?_
        refine mw_top (y := nI 0) (by decide) ?_
        refine mw_puti C Z hP hS (0) 23 (by decide) rfl rfl rfl (by decide) inX12 tyX12 tyX12_ok nmX12 rfl tw_4_187 rfl rfl dX12_not0_39 (fun H locs hP hS => ?_)
        have h123 : mPS (mw_si u108 0 23 (nI 0)) t n bs k116 p117 ts118 0 := ⟨h120.1, h120.2.1, rfl, h120.2.2.2⟩
        refine lv_iload_n C.1 C.2.1 dX12_not0_42 rfl (lv_at hl 0 rfl) ?_
        refine lv_if_ne (tgt := 50) C.1 C.2.1 dX12_not0_43 (by decide) (fun c124 => ?_) (fun c124 => ?_)
        · refine lv_iconst (v := 0) C.1 C.2.1 dX12_not0_50 (by decide) ?_
          exact mw_iret C hr hlk Z hP hS dX12_not0_51 (⟨((((mFp.rf σ).tr f105).tr f113).si (by decide) _), by rw [gN_5, gNot_I (by omega) (by rw [e103]; exact hg110)]; exact ⟨⟨k116, p117, ts118, e119, h123⟩, by have z := ruV_not v121; rwa [show bI (r107 = 0) = 0 by simp [bI, c124]] at z⟩⟩)
        · refine lv_iconst (v := 1) C.1 C.2.1 dX12_not0_46 (by decide) ?_
          refine lv_goto (tgt := 51) C.1 C.2.1 dX12_not0_47 (by decide) ?_
          exact mw_iret C hr hlk Z hP hS dX12_not0_51 (⟨((((mFp.rf σ).tr f105).tr f113).si (by decide) _), by rw [gN_5, gNot_I (by omega) (by rw [e103]; exact hg110)]; exact ⟨⟨k116, p117, ts118, e119, h123⟩, by have z := ruV_not v121; rwa [show bI (r107 = 0) = 1 by simp [bI, c124]] at z⟩⟩)
      · rw [hg110] at q109
        obtain ⟨f113, hb122⟩ := q109
        refine lv_istore_n (lv' := [(1, .int r107), (0, .ref (mw_a E 0))]) C.1 C.2.1 dX12_not0_31 rfl hl (by decide) rfl (fun ls hl => ?_)
        refine lv_aload_n C.1 C.2.1 dX12_not0_32 rfl (lv_at hl 1 rfl) ?_
        refine lv_dup C.1 C.2.1 dX12_not0_33 rfl ?_
        refine mw_geti C Z hP (0) 23 (by decide) rfl rfl rfl (by decide) inX12 tw_4_187 dX12_not0_34 ?_
        refine lv_iconst (v := 1) C.1 C.2.1 dX12_not0_37 (by decide) ?_
        refine lv_isub C.1 C.2.1 dX12_not0_38 ?_
        refine mw_puti C Z hP hS (0) 23 (by decide) rfl rfl rfl (by decide) inX12 tyX12 tyX12_ok nmX12 rfl tw_4_187 rfl rfl dX12_not0_39 (fun H locs hP hS => ?_)
        have hb125 : mBd (mw_si u108 0 23 ((u108.1 0 23) - 1)) qq112 := hb122
        refine lv_iload_n C.1 C.2.1 dX12_not0_42 rfl (lv_at hl 0 rfl) ?_
        refine lv_if_ne (tgt := 50) C.1 C.2.1 dX12_not0_43 (by decide) (fun c126 => ?_) (fun c126 => ?_)
        · refine lv_iconst (v := 0) C.1 C.2.1 dX12_not0_50 (by decide) ?_
          exact mw_iret C hr hlk Z hP hS dX12_not0_51 (⟨((((mFp.rf σ).tr f105).tr f113).si (by decide) _), by rw [gN_5, gNot_F (by omega) (by rw [e103]; exact hg110)]; exact hb125⟩)
        · refine lv_iconst (v := 1) C.1 C.2.1 dX12_not0_46 (by decide) ?_
          refine lv_goto (tgt := 51) C.1 C.2.1 dX12_not0_47 (by decide) ?_
          exact mw_iret C hr hlk Z hP hS dX12_not0_51 (⟨((((mFp.rf σ).tr f105).tr f113).si (by decide) _), by rw [gN_5, gNot_F (by omega) (by rw [e103]; exact hg110)]; exact hb125⟩)
    · exact absurd c106 (by decide)

set_option maxHeartbeats 4000000 in
set_option maxRecDepth 100000 in
theorem cM_both0 (l : Launch) (E : mw_E) (σ : mw_M) (t n : Nat) (bs : Nat → Int32) (k p : Nat) (ts : List (Nat × Nat)) (h : mPS σ t n bs k p ts 0) : mw_Ci shM 13 gM l yX12_both0 cX12_both0 3 (some .int) (rmF 38 839) E [.ref (mw_a E 0)] σ (fun r u => mOK σ u t n bs 0 r (gLevel gAnd (gD 5).2.1 ((k, p) :: ts))) := by
  refine mw_of (by decide) gM_ok (Nat.le_of_ble_eq_true rfl) ?_
  intro p_ e_ s_ m_ below meth c_ C hr hlk Z hP ls hl
  have C : CallFix p_ m_ c_ cX12_both0 3 s_ _ lw_good RX12 := C
  have hl : lv_has ls 3 [(0, .ref (mw_a E 0))] := hl
  have hS : va_S (mw_A 13 E) s_.heap s_.heap [] := va_S.rf
  refine lv_aload_n C.1 C.2.1 dX12_both0_0 rfl (lv_at hl 0 rfl) ?_
  refine mw_cVi (As := []) (rest := []) C Z hP hS (0) (cM_not0 l E σ t n bs k p ts h) vb_X12_not0 tw_5_101 ⟨rfl, rfl⟩ ⟨Nat.le_of_ble_eq_true rfl, Nat.le_of_ble_eq_true rfl⟩ (by decide) rfl rfl rfl rfl hl.1 rfl (Nat.le_of_ble_eq_true rfl) dX12_both0_1 ⟨Nat.zero_le _, Nat.zero_le _⟩ (fun r1 u2 H locs q3 hP hS => ?_)
  rcases hg4 : ((gD 5).2.1) ((k, p) :: ts) with zz5 | qq6
  · obtain ⟨cs8, ts9⟩ := zz5
    rw [hg4] at q3
    obtain ⟨f7, ⟨k10, p11, ts12, e13, h14⟩, v15⟩ := q3
    have v15 := (mFp.rf σ).evv v15
    refine lv_istore_n (lv' := [(1, .int r1), (0, .ref (mw_a E 0))]) C.1 C.2.1 dX12_both0_4 rfl hl (by decide) rfl (fun ls hl => ?_)
    have lp : ∀ (N : Nat) (cs : List Nat) (k2 p2 : Nat) (ts2 : List (Nat × Nat)) (v : Int32) (ς : mw_M) (H : Heap) (locs : List Loc), ts2.length + 1 ≤ N → mPS ς t n bs k2 p2 ts2 0 → mFp σ ς → ruV (mEv σ) cs v → gLevel gAnd (gD 5).2.1 ((k, p) :: ts) = gLoop gAnd ((gD 5).2.1) N cs ((k2, p2) :: ts2) → va_P (mw_D E) vwCl (mw_ws shM 13 E ς) H → va_S (mw_A 13 E) s_.heap H locs → ∀ (ls : Array Slot), lv_has ls 3 [(0, .ref (mw_a E 0)), (1, .int v)] → mWi p_ l e_ (rmF 38 839) s_ m_ [.ref (mw_a E 0)] below meth c_ E (fun r u => mOK σ u t n bs 0 r (gLevel gAnd (gD 5).2.1 ((k, p) :: ts))) H locs (F0 m_ 5 ls []) := by
      intro N
      induction N with
      | zero => intro cs k2 p2 ts2 v ς H locs hN; exact absurd hN (by omega)
      | succ N ih =>
        intro cs k2 p2 ts2 v ς H locs hN h2 f2 hv hR hP hS ls hl
        refine lv_aload_n C.1 C.2.1 dX12_both0_5 rfl (lv_at hl 0 rfl) ?_
        refine lv_bipush (v := 97) C.1 C.2.1 dX12_both0_6 (by decide) ?_
        refine lv_bipush (v := 110) C.1 C.2.1 dX12_both0_8 (by decide) ?_
        refine lv_bipush (v := 100) C.1 C.2.1 dX12_both0_10 (by decide) ?_
        refine lv_iconst (v := 0) C.1 C.2.1 dX12_both0_12 (by decide) ?_
        refine lv_iconst (v := 0) C.1 C.2.1 dX12_both0_13 (by decide) ?_
        refine lv_iconst (v := 0) C.1 C.2.1 dX12_both0_14 (by decide) ?_
        refine lv_iconst (v := 0) C.1 C.2.1 dX12_both0_15 (by decide) ?_
        refine lv_iconst (v := 0) C.1 C.2.1 dX12_both0_16 (by decide) ?_
        refine mw_cVi (As := [.int 97, .int 110, .int 100, .int 0, .int 0, .int 0, .int 0, .int 0]) (rest := []) C Z hP hS (0) (cM_isWordP l E ς t n bs k2 p2 ts2 0 h2 10 (by decide)) vb_X12_isWord tw_5_77 ⟨rfl, rfl⟩ ⟨Nat.le_of_ble_eq_true rfl, Nat.le_of_ble_eq_true rfl⟩ (by decide) rfl rfl rfl rfl hl.1 rfl (Nat.le_of_ble_eq_true rfl) dX12_both0_17 ⟨Nat.zero_le _, Nat.zero_le _⟩ (fun r17 u18 H locs q19 hP hS => ?_)
        obtain ⟨rfl, q19u⟩ := q19
        rw [q19u] at hP; clear q19u
        refine lv_if_eq (tgt := 49) C.1 C.2.1 dX12_both0_20 (by decide) (fun c20 => ?_) (fun c20 => ?_)
        · have c20 := bI_0.mp c20
          refine lv_iload_n C.1 C.2.1 dX12_both0_49 rfl (lv_at hl 1 rfl) ?_
          exact mw_iret C hr hlk Z hP hS dX12_both0_50 (⟨f2, by rw [hR, gLoop_e (by simp only [gTim, gAdd, gAnd, gOr, beq_iff_eq, Bool.or_eq_true]; omega)]; exact ⟨⟨k2, p2, ts2, rfl, h2⟩, hv⟩⟩)
        · have c20 := bI_n.mp c20
          refine lv_aload_n C.1 C.2.1 dX12_both0_23 rfl (lv_at hl 0 rfl) ?_
          refine mw_cVv (As := []) (rest := []) C Z hP hS (0) (cM_nextP l E ς t n bs k2 p2 ts2 0 h2 (by omega) (by omega)) vb_X12_next tw_5_64 ⟨rfl, rfl⟩ ⟨Nat.le_of_ble_eq_true rfl, Nat.le_of_ble_eq_true rfl⟩ (by decide) rfl rfl rfl rfl hl.1 rfl (Nat.le_of_ble_eq_true rfl) dX12_both0_24 ⟨Nat.zero_le _, Nat.zero_le _⟩ (fun u22 H locs q23 hP hS => ?_)
          obtain ⟨⟨k24, p25, ts26, e27, h28⟩, f29⟩ := q23
          refine lv_aload_n C.1 C.2.1 dX12_both0_27 rfl (lv_at hl 0 rfl) ?_
          refine mw_cVi (As := []) (rest := []) C Z hP hS (0) (cM_not0 l E u22 t n bs k24 p25 ts26 h28) vb_X12_not0 tw_5_101 ⟨rfl, rfl⟩ ⟨Nat.le_of_ble_eq_true rfl, Nat.le_of_ble_eq_true rfl⟩ (by decide) rfl rfl rfl rfl hl.1 rfl (Nat.le_of_ble_eq_true rfl) dX12_both0_28 ⟨Nat.zero_le _, Nat.zero_le _⟩ (fun r30 u31 H locs q32 hP hS => ?_)
          rcases hg33 : ((gD 5).2.1) ((k24, p25) :: ts26) with zz34 | qq35
          · obtain ⟨cs37, ts38⟩ := zz34
            rw [hg33] at q32
            obtain ⟨f36, ⟨k39, p40, ts41, e42, h43⟩, v44⟩ := q32
            have v44 := (f2.tr f29).evv v44
            refine lv_istore_n (lv' := [(2, .int r30), (0, .ref (mw_a E 0)), (1, .int v)]) C.1 C.2.1 dX12_both0_31 rfl hl (by decide) rfl (fun ls hl => ?_)
            refine lv_iload_n C.1 C.2.1 dX12_both0_32 rfl (lv_at hl 2 rfl) ?_
            refine lv_if_eq (tgt := 44) C.1 C.2.1 dX12_both0_33 (by decide) (fun c46 => ?_) (fun c46 => ?_)
            · refine lv_iconst (v := 0) C.1 C.2.1 dX12_both0_44 (by decide) ?_
              refine lv_istore_n (lv' := [(1, .int 0), (2, .int r30), (0, .ref (mw_a E 0))]) C.1 C.2.1 dX12_both0_45 rfl hl (by decide) rfl (fun ls hl => ?_)
              refine lv_goto (tgt := 5) C.1 C.2.1 dX12_both0_46 (by decide) ?_
              exact ih (cs ++ cs37 ++ [k2]) k39 p40 ts41 0 u31 _ _ (by have d := (gD_dec 5).2.1 _ _ _ hg33; rw [e42, List.length_cons, List.length_cons] at d; rw [e27, List.length_cons] at hN; omega) h43 ((f2.tr f29).tr f36) (by have z := ruV_op (c := k2) hv v44 (by omega); rwa [show opF k2 v r30 = 0 by rw [c20]; simp [opF, bI, c46]] at z) (by rw [hR, gLoop_s (by simp only [gTim, gAdd, gAnd, gOr, beq_iff_eq, Bool.or_eq_true]; omega) (by rw [e27]; exact hg33), e42]) hP hS ls (lv_sub hl [2, 0] rfl)
            · refine lv_iload_n C.1 C.2.1 dX12_both0_36 rfl (lv_at hl 0 rfl) ?_
              refine lv_if_eq (tgt := 44) C.1 C.2.1 dX12_both0_37 (by decide) (fun c47 => ?_) (fun c47 => ?_)
              · refine lv_iconst (v := 0) C.1 C.2.1 dX12_both0_44 (by decide) ?_
                refine lv_istore_n (lv' := [(1, .int 0), (2, .int r30), (0, .ref (mw_a E 0))]) C.1 C.2.1 dX12_both0_45 rfl hl (by decide) rfl (fun ls hl => ?_)
                refine lv_goto (tgt := 5) C.1 C.2.1 dX12_both0_46 (by decide) ?_
                exact ih (cs ++ cs37 ++ [k2]) k39 p40 ts41 0 u31 _ _ (by have d := (gD_dec 5).2.1 _ _ _ hg33; rw [e42, List.length_cons, List.length_cons] at d; rw [e27, List.length_cons] at hN; omega) h43 ((f2.tr f29).tr f36) (by have z := ruV_op (c := k2) hv v44 (by omega); rwa [show opF k2 v r30 = 0 by rw [c20]; simp [opF, bI, c46, c47]] at z) (by rw [hR, gLoop_s (by simp only [gTim, gAdd, gAnd, gOr, beq_iff_eq, Bool.or_eq_true]; omega) (by rw [e27]; exact hg33), e42]) hP hS ls (lv_sub hl [2, 0] rfl)
              · refine lv_iconst (v := 1) C.1 C.2.1 dX12_both0_40 (by decide) ?_
                refine lv_goto (tgt := 45) C.1 C.2.1 dX12_both0_41 (by decide) ?_
                refine lv_istore_n (lv' := [(1, .int 1), (2, .int r30), (0, .ref (mw_a E 0))]) C.1 C.2.1 dX12_both0_45 rfl hl (by decide) rfl (fun ls hl => ?_)
                refine lv_goto (tgt := 5) C.1 C.2.1 dX12_both0_46 (by decide) ?_
                exact ih (cs ++ cs37 ++ [k2]) k39 p40 ts41 1 u31 _ _ (by have d := (gD_dec 5).2.1 _ _ _ hg33; rw [e42, List.length_cons, List.length_cons] at d; rw [e27, List.length_cons] at hN; omega) h43 ((f2.tr f29).tr f36) (by have z := ruV_op (c := k2) hv v44 (by omega); rwa [show opF k2 v r30 = 1 by rw [c20]; simp [opF, bI, c46, c47]] at z) (by rw [hR, gLoop_s (by simp only [gTim, gAdd, gAnd, gOr, beq_iff_eq, Bool.or_eq_true]; omega) (by rw [e27]; exact hg33), e42]) hP hS ls (lv_sub hl [2, 0] rfl)
          · rw [hg33] at q32
            obtain ⟨f36, hb45⟩ := q32
            refine lv_istore_n (lv' := [(2, .int r30), (0, .ref (mw_a E 0)), (1, .int v)]) C.1 C.2.1 dX12_both0_31 rfl hl (by decide) rfl (fun ls hl => ?_)
            refine lv_iload_n C.1 C.2.1 dX12_both0_32 rfl (lv_at hl 2 rfl) ?_
            refine lv_if_eq (tgt := 44) C.1 C.2.1 dX12_both0_33 (by decide) (fun c48 => ?_) (fun c48 => ?_)
            · refine lv_iconst (v := 0) C.1 C.2.1 dX12_both0_44 (by decide) ?_
              refine lv_istore_n (lv' := [(1, .int 0), (2, .int r30), (0, .ref (mw_a E 0))]) C.1 C.2.1 dX12_both0_45 rfl hl (by decide) rfl (fun ls hl => ?_)
              refine lv_goto (tgt := 5) C.1 C.2.1 dX12_both0_46 (by decide) ?_
              refine lv_aload_n C.1 C.2.1 dX12_both0_5 rfl (lv_at hl 2 rfl) ?_
              refine lv_bipush (v := 97) C.1 C.2.1 dX12_both0_6 (by decide) ?_
              refine lv_bipush (v := 110) C.1 C.2.1 dX12_both0_8 (by decide) ?_
              refine lv_bipush (v := 100) C.1 C.2.1 dX12_both0_10 (by decide) ?_
              refine lv_iconst (v := 0) C.1 C.2.1 dX12_both0_12 (by decide) ?_
              refine lv_iconst (v := 0) C.1 C.2.1 dX12_both0_13 (by decide) ?_
              refine lv_iconst (v := 0) C.1 C.2.1 dX12_both0_14 (by decide) ?_
              refine lv_iconst (v := 0) C.1 C.2.1 dX12_both0_15 (by decide) ?_
              refine lv_iconst (v := 0) C.1 C.2.1 dX12_both0_16 (by decide) ?_
              refine mw_cVi (As := [.int 97, .int 110, .int 100, .int 0, .int 0, .int 0, .int 0, .int 0]) (rest := []) C Z hP hS (0) (cM_isWordB l E u31 hb45.1 97 110 100 0 0 0 0 0) vb_X12_isWord tw_5_77 ⟨rfl, rfl⟩ ⟨Nat.le_of_ble_eq_true rfl, Nat.le_of_ble_eq_true rfl⟩ (by decide) rfl rfl rfl rfl hl.1 rfl (Nat.le_of_ble_eq_true rfl) dX12_both0_17 ⟨Nat.zero_le _, Nat.zero_le _⟩ (fun r49 u50 H locs q51 hP hS => ?_)
              obtain ⟨rfl, q51u⟩ := q51
              rw [q51u] at hP; clear q51u
              refine lv_if_eq (tgt := 49) C.1 C.2.1 dX12_both0_20 (by decide) (fun c52 => ?_) (fun c52 => ?_)
              · refine lv_iload_n C.1 C.2.1 dX12_both0_49 rfl (lv_at hl 0 rfl) ?_
                exact mw_iret C hr hlk Z hP hS dX12_both0_50 (⟨((f2.tr f29).tr f36), by rw [hR, gLoop_f (by simp only [gTim, gAdd, gAnd, gOr, beq_iff_eq, Bool.or_eq_true]; omega) (by rw [e27]; exact hg33)]; exact hb45⟩)
              · exact absurd c52 (by decide)
            · refine lv_iload_n C.1 C.2.1 dX12_both0_36 rfl (lv_at hl 0 rfl) ?_
              refine lv_if_eq (tgt := 44) C.1 C.2.1 dX12_both0_37 (by decide) (fun c53 => ?_) (fun c53 => ?_)
              · refine lv_iconst (v := 0) C.1 C.2.1 dX12_both0_44 (by decide) ?_
                refine lv_istore_n (lv' := [(1, .int 0), (2, .int r30), (0, .ref (mw_a E 0))]) C.1 C.2.1 dX12_both0_45 rfl hl (by decide) rfl (fun ls hl => ?_)
                refine lv_goto (tgt := 5) C.1 C.2.1 dX12_both0_46 (by decide) ?_
                refine lv_aload_n C.1 C.2.1 dX12_both0_5 rfl (lv_at hl 2 rfl) ?_
                refine lv_bipush (v := 97) C.1 C.2.1 dX12_both0_6 (by decide) ?_
                refine lv_bipush (v := 110) C.1 C.2.1 dX12_both0_8 (by decide) ?_
                refine lv_bipush (v := 100) C.1 C.2.1 dX12_both0_10 (by decide) ?_
                refine lv_iconst (v := 0) C.1 C.2.1 dX12_both0_12 (by decide) ?_
                refine lv_iconst (v := 0) C.1 C.2.1 dX12_both0_13 (by decide) ?_
                refine lv_iconst (v := 0) C.1 C.2.1 dX12_both0_14 (by decide) ?_
                refine lv_iconst (v := 0) C.1 C.2.1 dX12_both0_15 (by decide) ?_
                refine lv_iconst (v := 0) C.1 C.2.1 dX12_both0_16 (by decide) ?_
                refine mw_cVi (As := [.int 97, .int 110, .int 100, .int 0, .int 0, .int 0, .int 0, .int 0]) (rest := []) C Z hP hS (0) (cM_isWordB l E u31 hb45.1 97 110 100 0 0 0 0 0) vb_X12_isWord tw_5_77 ⟨rfl, rfl⟩ ⟨Nat.le_of_ble_eq_true rfl, Nat.le_of_ble_eq_true rfl⟩ (by decide) rfl rfl rfl rfl hl.1 rfl (Nat.le_of_ble_eq_true rfl) dX12_both0_17 ⟨Nat.zero_le _, Nat.zero_le _⟩ (fun r54 u55 H locs q56 hP hS => ?_)
                obtain ⟨rfl, q56u⟩ := q56
                rw [q56u] at hP; clear q56u
                refine lv_if_eq (tgt := 49) C.1 C.2.1 dX12_both0_20 (by decide) (fun c57 => ?_) (fun c57 => ?_)
                · refine lv_iload_n C.1 C.2.1 dX12_both0_49 rfl (lv_at hl 0 rfl) ?_
                  exact mw_iret C hr hlk Z hP hS dX12_both0_50 (⟨((f2.tr f29).tr f36), by rw [hR, gLoop_f (by simp only [gTim, gAdd, gAnd, gOr, beq_iff_eq, Bool.or_eq_true]; omega) (by rw [e27]; exact hg33)]; exact hb45⟩)
                · exact absurd c57 (by decide)
              · refine lv_iconst (v := 1) C.1 C.2.1 dX12_both0_40 (by decide) ?_
                refine lv_goto (tgt := 45) C.1 C.2.1 dX12_both0_41 (by decide) ?_
                refine lv_istore_n (lv' := [(1, .int 1), (2, .int r30), (0, .ref (mw_a E 0))]) C.1 C.2.1 dX12_both0_45 rfl hl (by decide) rfl (fun ls hl => ?_)
                refine lv_goto (tgt := 5) C.1 C.2.1 dX12_both0_46 (by decide) ?_
                refine lv_aload_n C.1 C.2.1 dX12_both0_5 rfl (lv_at hl 2 rfl) ?_
                refine lv_bipush (v := 97) C.1 C.2.1 dX12_both0_6 (by decide) ?_
                refine lv_bipush (v := 110) C.1 C.2.1 dX12_both0_8 (by decide) ?_
                refine lv_bipush (v := 100) C.1 C.2.1 dX12_both0_10 (by decide) ?_
                refine lv_iconst (v := 0) C.1 C.2.1 dX12_both0_12 (by decide) ?_
                refine lv_iconst (v := 0) C.1 C.2.1 dX12_both0_13 (by decide) ?_
                refine lv_iconst (v := 0) C.1 C.2.1 dX12_both0_14 (by decide) ?_
                refine lv_iconst (v := 0) C.1 C.2.1 dX12_both0_15 (by decide) ?_
                refine lv_iconst (v := 0) C.1 C.2.1 dX12_both0_16 (by decide) ?_
                refine mw_cVi (As := [.int 97, .int 110, .int 100, .int 0, .int 0, .int 0, .int 0, .int 0]) (rest := []) C Z hP hS (0) (cM_isWordB l E u31 hb45.1 97 110 100 0 0 0 0 0) vb_X12_isWord tw_5_77 ⟨rfl, rfl⟩ ⟨Nat.le_of_ble_eq_true rfl, Nat.le_of_ble_eq_true rfl⟩ (by decide) rfl rfl rfl rfl hl.1 rfl (Nat.le_of_ble_eq_true rfl) dX12_both0_17 ⟨Nat.zero_le _, Nat.zero_le _⟩ (fun r58 u59 H locs q60 hP hS => ?_)
                obtain ⟨rfl, q60u⟩ := q60
                rw [q60u] at hP; clear q60u
                refine lv_if_eq (tgt := 49) C.1 C.2.1 dX12_both0_20 (by decide) (fun c61 => ?_) (fun c61 => ?_)
                · refine lv_iload_n C.1 C.2.1 dX12_both0_49 rfl (lv_at hl 0 rfl) ?_
                  exact mw_iret C hr hlk Z hP hS dX12_both0_50 (⟨((f2.tr f29).tr f36), by rw [hR, gLoop_f (by simp only [gTim, gAdd, gAnd, gOr, beq_iff_eq, Bool.or_eq_true]; omega) (by rw [e27]; exact hg33)]; exact hb45⟩)
                · exact absurd c61 (by decide)
    exact lp (ts12.length + 1) cs8 k10 p11 ts12 r1 u2 _ _ (Nat.le_refl _) h14 ((mFp.rf σ).tr f7) v15 (by rw [gLevel_I hg4, e13]; rfl) hP hS ls (lv_sub hl [1, 0] rfl)
  · rw [hg4] at q3
    obtain ⟨f7, hb16⟩ := q3
    refine lv_istore_n (lv' := [(1, .int r1), (0, .ref (mw_a E 0))]) C.1 C.2.1 dX12_both0_4 rfl hl (by decide) rfl (fun ls hl => ?_)
    refine lv_aload_n C.1 C.2.1 dX12_both0_5 rfl (lv_at hl 1 rfl) ?_
    refine lv_bipush (v := 97) C.1 C.2.1 dX12_both0_6 (by decide) ?_
    refine lv_bipush (v := 110) C.1 C.2.1 dX12_both0_8 (by decide) ?_
    refine lv_bipush (v := 100) C.1 C.2.1 dX12_both0_10 (by decide) ?_
    refine lv_iconst (v := 0) C.1 C.2.1 dX12_both0_12 (by decide) ?_
    refine lv_iconst (v := 0) C.1 C.2.1 dX12_both0_13 (by decide) ?_
    refine lv_iconst (v := 0) C.1 C.2.1 dX12_both0_14 (by decide) ?_
    refine lv_iconst (v := 0) C.1 C.2.1 dX12_both0_15 (by decide) ?_
    refine lv_iconst (v := 0) C.1 C.2.1 dX12_both0_16 (by decide) ?_
    refine mw_cVi (As := [.int 97, .int 110, .int 100, .int 0, .int 0, .int 0, .int 0, .int 0]) (rest := []) C Z hP hS (0) (cM_isWordB l E u2 hb16.1 97 110 100 0 0 0 0 0) vb_X12_isWord tw_5_77 ⟨rfl, rfl⟩ ⟨Nat.le_of_ble_eq_true rfl, Nat.le_of_ble_eq_true rfl⟩ (by decide) rfl rfl rfl rfl hl.1 rfl (Nat.le_of_ble_eq_true rfl) dX12_both0_17 ⟨Nat.zero_le _, Nat.zero_le _⟩ (fun r62 u63 H locs q64 hP hS => ?_)
    obtain ⟨rfl, q64u⟩ := q64
    rw [q64u] at hP; clear q64u
    refine lv_if_eq (tgt := 49) C.1 C.2.1 dX12_both0_20 (by decide) (fun c65 => ?_) (fun c65 => ?_)
    · refine lv_iload_n C.1 C.2.1 dX12_both0_49 rfl (lv_at hl 0 rfl) ?_
      exact mw_iret C hr hlk Z hP hS dX12_both0_50 (⟨((mFp.rf σ).tr f7), by rw [gLevel_F hg4]; exact hb16⟩)
    · exact absurd c65 (by decide)

set_option maxHeartbeats 4000000 in
set_option maxRecDepth 100000 in
theorem cM_either0 (l : Launch) (E : mw_E) (σ : mw_M) (t n : Nat) (bs : Nat → Int32) (k p : Nat) (ts : List (Nat × Nat)) (h : mPS σ t n bs k p ts 0) : mw_Ci shM 13 gM l yX12_either0 cX12_either0 3 (some .int) (rmF 39 861) E [.ref (mw_a E 0)] σ (fun r u => mOK σ u t n bs 0 r ((gD 5).2.2 ((k, p) :: ts))) := by
  refine mw_of (by decide) gM_ok (Nat.le_of_ble_eq_true rfl) ?_
  intro p_ e_ s_ m_ below meth c_ C hr hlk Z hP ls hl
  have C : CallFix p_ m_ c_ cX12_either0 3 s_ _ lw_good RX12 := C
  have hl : lv_has ls 3 [(0, .ref (mw_a E 0))] := hl
  have hS : va_S (mw_A 13 E) s_.heap s_.heap [] := va_S.rf
  refine lv_aload_n C.1 C.2.1 dX12_either0_0 rfl (lv_at hl 0 rfl) ?_
  refine mw_cVi (As := []) (rest := []) C Z hP hS (0) (cM_both0 l E σ t n bs k p ts h) vb_X12_both0 tw_5_97 ⟨rfl, rfl⟩ ⟨Nat.le_of_ble_eq_true rfl, Nat.le_of_ble_eq_true rfl⟩ (by decide) rfl rfl rfl rfl hl.1 rfl (Nat.le_of_ble_eq_true rfl) dX12_either0_1 ⟨Nat.zero_le _, Nat.zero_le _⟩ (fun r1 u2 H locs q3 hP hS => ?_)
  rcases hg4 : (gLevel gAnd (gD 5).2.1) ((k, p) :: ts) with zz5 | qq6
  · obtain ⟨cs8, ts9⟩ := zz5
    rw [hg4] at q3
    obtain ⟨f7, ⟨k10, p11, ts12, e13, h14⟩, v15⟩ := q3
    have v15 := (mFp.rf σ).evv v15
    refine lv_istore_n (lv' := [(1, .int r1), (0, .ref (mw_a E 0))]) C.1 C.2.1 dX12_either0_4 rfl hl (by decide) rfl (fun ls hl => ?_)
    have lp : ∀ (N : Nat) (cs : List Nat) (k2 p2 : Nat) (ts2 : List (Nat × Nat)) (v : Int32) (ς : mw_M) (H : Heap) (locs : List Loc), ts2.length + 1 ≤ N → mPS ς t n bs k2 p2 ts2 0 → mFp σ ς → ruV (mEv σ) cs v → (gD 5).2.2 ((k, p) :: ts) = gLoop gOr (gLevel gAnd (gD 5).2.1) N cs ((k2, p2) :: ts2) → va_P (mw_D E) vwCl (mw_ws shM 13 E ς) H → va_S (mw_A 13 E) s_.heap H locs → ∀ (ls : Array Slot), lv_has ls 3 [(0, .ref (mw_a E 0)), (1, .int v)] → mWi p_ l e_ (rmF 39 861) s_ m_ [.ref (mw_a E 0)] below meth c_ E (fun r u => mOK σ u t n bs 0 r ((gD 5).2.2 ((k, p) :: ts))) H locs (F0 m_ 5 ls []) := by
      intro N
      induction N with
      | zero => intro cs k2 p2 ts2 v ς H locs hN; exact absurd hN (by omega)
      | succ N ih =>
        intro cs k2 p2 ts2 v ς H locs hN h2 f2 hv hR hP hS ls hl
        refine lv_aload_n C.1 C.2.1 dX12_either0_5 rfl (lv_at hl 0 rfl) ?_
        refine lv_bipush (v := 111) C.1 C.2.1 dX12_either0_6 (by decide) ?_
        refine lv_bipush (v := 114) C.1 C.2.1 dX12_either0_8 (by decide) ?_
        refine lv_iconst (v := 0) C.1 C.2.1 dX12_either0_10 (by decide) ?_
        refine lv_iconst (v := 0) C.1 C.2.1 dX12_either0_11 (by decide) ?_
        refine lv_iconst (v := 0) C.1 C.2.1 dX12_either0_12 (by decide) ?_
        refine lv_iconst (v := 0) C.1 C.2.1 dX12_either0_13 (by decide) ?_
        refine lv_iconst (v := 0) C.1 C.2.1 dX12_either0_14 (by decide) ?_
        refine lv_iconst (v := 0) C.1 C.2.1 dX12_either0_15 (by decide) ?_
        refine mw_cVi (As := [.int 111, .int 114, .int 0, .int 0, .int 0, .int 0, .int 0, .int 0]) (rest := []) C Z hP hS (0) (cM_isWordP l E ς t n bs k2 p2 ts2 0 h2 9 (by decide)) vb_X12_isWord tw_5_77 ⟨rfl, rfl⟩ ⟨Nat.le_of_ble_eq_true rfl, Nat.le_of_ble_eq_true rfl⟩ (by decide) rfl rfl rfl rfl hl.1 rfl (Nat.le_of_ble_eq_true rfl) dX12_either0_16 ⟨Nat.zero_le _, Nat.zero_le _⟩ (fun r17 u18 H locs q19 hP hS => ?_)
        obtain ⟨rfl, q19u⟩ := q19
        rw [q19u] at hP; clear q19u
        refine lv_if_eq (tgt := 48) C.1 C.2.1 dX12_either0_19 (by decide) (fun c20 => ?_) (fun c20 => ?_)
        · have c20 := bI_0.mp c20
          refine lv_iload_n C.1 C.2.1 dX12_either0_48 rfl (lv_at hl 1 rfl) ?_
          exact mw_iret C hr hlk Z hP hS dX12_either0_49 (⟨f2, by rw [hR, gLoop_e (by simp only [gTim, gAdd, gAnd, gOr, beq_iff_eq, Bool.or_eq_true]; omega)]; exact ⟨⟨k2, p2, ts2, rfl, h2⟩, hv⟩⟩)
        · have c20 := bI_n.mp c20
          refine lv_aload_n C.1 C.2.1 dX12_either0_22 rfl (lv_at hl 0 rfl) ?_
          refine mw_cVv (As := []) (rest := []) C Z hP hS (0) (cM_nextP l E ς t n bs k2 p2 ts2 0 h2 (by omega) (by omega)) vb_X12_next tw_5_64 ⟨rfl, rfl⟩ ⟨Nat.le_of_ble_eq_true rfl, Nat.le_of_ble_eq_true rfl⟩ (by decide) rfl rfl rfl rfl hl.1 rfl (Nat.le_of_ble_eq_true rfl) dX12_either0_23 ⟨Nat.zero_le _, Nat.zero_le _⟩ (fun u22 H locs q23 hP hS => ?_)
          obtain ⟨⟨k24, p25, ts26, e27, h28⟩, f29⟩ := q23
          refine lv_aload_n C.1 C.2.1 dX12_either0_26 rfl (lv_at hl 0 rfl) ?_
          refine mw_cVi (As := []) (rest := []) C Z hP hS (0) (cM_both0 l E u22 t n bs k24 p25 ts26 h28) vb_X12_both0 tw_5_97 ⟨rfl, rfl⟩ ⟨Nat.le_of_ble_eq_true rfl, Nat.le_of_ble_eq_true rfl⟩ (by decide) rfl rfl rfl rfl hl.1 rfl (Nat.le_of_ble_eq_true rfl) dX12_either0_27 ⟨Nat.zero_le _, Nat.zero_le _⟩ (fun r30 u31 H locs q32 hP hS => ?_)
          rcases hg33 : (gLevel gAnd (gD 5).2.1) ((k24, p25) :: ts26) with zz34 | qq35
          · obtain ⟨cs37, ts38⟩ := zz34
            rw [hg33] at q32
            obtain ⟨f36, ⟨k39, p40, ts41, e42, h43⟩, v44⟩ := q32
            have v44 := (f2.tr f29).evv v44
            refine lv_istore_n (lv' := [(2, .int r30), (0, .ref (mw_a E 0)), (1, .int v)]) C.1 C.2.1 dX12_either0_30 rfl hl (by decide) rfl (fun ls hl => ?_)
            refine lv_iload_n C.1 C.2.1 dX12_either0_31 rfl (lv_at hl 2 rfl) ?_
            refine lv_if_ne (tgt := 39) C.1 C.2.1 dX12_either0_32 (by decide) (fun c46 => ?_) (fun c46 => ?_)
            · refine lv_iconst (v := 1) C.1 C.2.1 dX12_either0_39 (by decide) ?_
              refine lv_goto (tgt := 44) C.1 C.2.1 dX12_either0_40 (by decide) ?_
              refine lv_istore_n (lv' := [(1, .int 1), (2, .int r30), (0, .ref (mw_a E 0))]) C.1 C.2.1 dX12_either0_44 rfl hl (by decide) rfl (fun ls hl => ?_)
              refine lv_goto (tgt := 5) C.1 C.2.1 dX12_either0_45 (by decide) ?_
              exact ih (cs ++ cs37 ++ [k2]) k39 p40 ts41 1 u31 _ _ (by have d := (gLevel_dec (gD_dec 5).2.1) _ _ _ hg33; rw [e42, List.length_cons, List.length_cons] at d; rw [e27, List.length_cons] at hN; omega) h43 ((f2.tr f29).tr f36) (by have z := ruV_op (c := k2) hv v44 (by omega); rwa [show opF k2 v r30 = 1 by rw [c20]; simp [opF, bI, c46]] at z) (by rw [hR, gLoop_s (by simp only [gTim, gAdd, gAnd, gOr, beq_iff_eq, Bool.or_eq_true]; omega) (by rw [e27]; exact hg33), e42]) hP hS ls (lv_sub hl [2, 0] rfl)
            · refine lv_iload_n C.1 C.2.1 dX12_either0_35 rfl (lv_at hl 0 rfl) ?_
              refine lv_if_eq (tgt := 43) C.1 C.2.1 dX12_either0_36 (by decide) (fun c47 => ?_) (fun c47 => ?_)
              · refine lv_iconst (v := 0) C.1 C.2.1 dX12_either0_43 (by decide) ?_
                refine lv_istore_n (lv' := [(1, .int 0), (2, .int r30), (0, .ref (mw_a E 0))]) C.1 C.2.1 dX12_either0_44 rfl hl (by decide) rfl (fun ls hl => ?_)
                refine lv_goto (tgt := 5) C.1 C.2.1 dX12_either0_45 (by decide) ?_
                exact ih (cs ++ cs37 ++ [k2]) k39 p40 ts41 0 u31 _ _ (by have d := (gLevel_dec (gD_dec 5).2.1) _ _ _ hg33; rw [e42, List.length_cons, List.length_cons] at d; rw [e27, List.length_cons] at hN; omega) h43 ((f2.tr f29).tr f36) (by have z := ruV_op (c := k2) hv v44 (by omega); rwa [show opF k2 v r30 = 0 by rw [c20]; simp [opF, bI, c46, c47]] at z) (by rw [hR, gLoop_s (by simp only [gTim, gAdd, gAnd, gOr, beq_iff_eq, Bool.or_eq_true]; omega) (by rw [e27]; exact hg33), e42]) hP hS ls (lv_sub hl [2, 0] rfl)
              · refine lv_iconst (v := 1) C.1 C.2.1 dX12_either0_39 (by decide) ?_
                refine lv_goto (tgt := 44) C.1 C.2.1 dX12_either0_40 (by decide) ?_
                refine lv_istore_n (lv' := [(1, .int 1), (2, .int r30), (0, .ref (mw_a E 0))]) C.1 C.2.1 dX12_either0_44 rfl hl (by decide) rfl (fun ls hl => ?_)
                refine lv_goto (tgt := 5) C.1 C.2.1 dX12_either0_45 (by decide) ?_
                exact ih (cs ++ cs37 ++ [k2]) k39 p40 ts41 1 u31 _ _ (by have d := (gLevel_dec (gD_dec 5).2.1) _ _ _ hg33; rw [e42, List.length_cons, List.length_cons] at d; rw [e27, List.length_cons] at hN; omega) h43 ((f2.tr f29).tr f36) (by have z := ruV_op (c := k2) hv v44 (by omega); rwa [show opF k2 v r30 = 1 by rw [c20]; simp [opF, bI, c46, c47]] at z) (by rw [hR, gLoop_s (by simp only [gTim, gAdd, gAnd, gOr, beq_iff_eq, Bool.or_eq_true]; omega) (by rw [e27]; exact hg33), e42]) hP hS ls (lv_sub hl [2, 0] rfl)
          · rw [hg33] at q32
            obtain ⟨f36, hb45⟩ := q32
            refine lv_istore_n (lv' := [(2, .int r30), (0, .ref (mw_a E 0)), (1, .int v)]) C.1 C.2.1 dX12_either0_30 rfl hl (by decide) rfl (fun ls hl => ?_)
            refine lv_iload_n C.1 C.2.1 dX12_either0_31 rfl (lv_at hl 2 rfl) ?_
            refine lv_if_ne (tgt := 39) C.1 C.2.1 dX12_either0_32 (by decide) (fun c48 => ?_) (fun c48 => ?_)
            · refine lv_iconst (v := 1) C.1 C.2.1 dX12_either0_39 (by decide) ?_
              refine lv_goto (tgt := 44) C.1 C.2.1 dX12_either0_40 (by decide) ?_
              refine lv_istore_n (lv' := [(1, .int 1), (2, .int r30), (0, .ref (mw_a E 0))]) C.1 C.2.1 dX12_either0_44 rfl hl (by decide) rfl (fun ls hl => ?_)
              refine lv_goto (tgt := 5) C.1 C.2.1 dX12_either0_45 (by decide) ?_
              refine lv_aload_n C.1 C.2.1 dX12_either0_5 rfl (lv_at hl 2 rfl) ?_
              refine lv_bipush (v := 111) C.1 C.2.1 dX12_either0_6 (by decide) ?_
              refine lv_bipush (v := 114) C.1 C.2.1 dX12_either0_8 (by decide) ?_
              refine lv_iconst (v := 0) C.1 C.2.1 dX12_either0_10 (by decide) ?_
              refine lv_iconst (v := 0) C.1 C.2.1 dX12_either0_11 (by decide) ?_
              refine lv_iconst (v := 0) C.1 C.2.1 dX12_either0_12 (by decide) ?_
              refine lv_iconst (v := 0) C.1 C.2.1 dX12_either0_13 (by decide) ?_
              refine lv_iconst (v := 0) C.1 C.2.1 dX12_either0_14 (by decide) ?_
              refine lv_iconst (v := 0) C.1 C.2.1 dX12_either0_15 (by decide) ?_
              refine mw_cVi (As := [.int 111, .int 114, .int 0, .int 0, .int 0, .int 0, .int 0, .int 0]) (rest := []) C Z hP hS (0) (cM_isWordB l E u31 hb45.1 111 114 0 0 0 0 0 0) vb_X12_isWord tw_5_77 ⟨rfl, rfl⟩ ⟨Nat.le_of_ble_eq_true rfl, Nat.le_of_ble_eq_true rfl⟩ (by decide) rfl rfl rfl rfl hl.1 rfl (Nat.le_of_ble_eq_true rfl) dX12_either0_16 ⟨Nat.zero_le _, Nat.zero_le _⟩ (fun r49 u50 H locs q51 hP hS => ?_)
              obtain ⟨rfl, q51u⟩ := q51
              rw [q51u] at hP; clear q51u
              refine lv_if_eq (tgt := 48) C.1 C.2.1 dX12_either0_19 (by decide) (fun c52 => ?_) (fun c52 => ?_)
              · refine lv_iload_n C.1 C.2.1 dX12_either0_48 rfl (lv_at hl 0 rfl) ?_
                exact mw_iret C hr hlk Z hP hS dX12_either0_49 (⟨((f2.tr f29).tr f36), by rw [hR, gLoop_f (by simp only [gTim, gAdd, gAnd, gOr, beq_iff_eq, Bool.or_eq_true]; omega) (by rw [e27]; exact hg33)]; exact hb45⟩)
              · exact absurd c52 (by decide)
            · refine lv_iload_n C.1 C.2.1 dX12_either0_35 rfl (lv_at hl 0 rfl) ?_
              refine lv_if_eq (tgt := 43) C.1 C.2.1 dX12_either0_36 (by decide) (fun c53 => ?_) (fun c53 => ?_)
              · refine lv_iconst (v := 0) C.1 C.2.1 dX12_either0_43 (by decide) ?_
                refine lv_istore_n (lv' := [(1, .int 0), (2, .int r30), (0, .ref (mw_a E 0))]) C.1 C.2.1 dX12_either0_44 rfl hl (by decide) rfl (fun ls hl => ?_)
                refine lv_goto (tgt := 5) C.1 C.2.1 dX12_either0_45 (by decide) ?_
                refine lv_aload_n C.1 C.2.1 dX12_either0_5 rfl (lv_at hl 2 rfl) ?_
                refine lv_bipush (v := 111) C.1 C.2.1 dX12_either0_6 (by decide) ?_
                refine lv_bipush (v := 114) C.1 C.2.1 dX12_either0_8 (by decide) ?_
                refine lv_iconst (v := 0) C.1 C.2.1 dX12_either0_10 (by decide) ?_
                refine lv_iconst (v := 0) C.1 C.2.1 dX12_either0_11 (by decide) ?_
                refine lv_iconst (v := 0) C.1 C.2.1 dX12_either0_12 (by decide) ?_
                refine lv_iconst (v := 0) C.1 C.2.1 dX12_either0_13 (by decide) ?_
                refine lv_iconst (v := 0) C.1 C.2.1 dX12_either0_14 (by decide) ?_
                refine lv_iconst (v := 0) C.1 C.2.1 dX12_either0_15 (by decide) ?_
                refine mw_cVi (As := [.int 111, .int 114, .int 0, .int 0, .int 0, .int 0, .int 0, .int 0]) (rest := []) C Z hP hS (0) (cM_isWordB l E u31 hb45.1 111 114 0 0 0 0 0 0) vb_X12_isWord tw_5_77 ⟨rfl, rfl⟩ ⟨Nat.le_of_ble_eq_true rfl, Nat.le_of_ble_eq_true rfl⟩ (by decide) rfl rfl rfl rfl hl.1 rfl (Nat.le_of_ble_eq_true rfl) dX12_either0_16 ⟨Nat.zero_le _, Nat.zero_le _⟩ (fun r54 u55 H locs q56 hP hS => ?_)
                obtain ⟨rfl, q56u⟩ := q56
                rw [q56u] at hP; clear q56u
                refine lv_if_eq (tgt := 48) C.1 C.2.1 dX12_either0_19 (by decide) (fun c57 => ?_) (fun c57 => ?_)
                · refine lv_iload_n C.1 C.2.1 dX12_either0_48 rfl (lv_at hl 0 rfl) ?_
                  exact mw_iret C hr hlk Z hP hS dX12_either0_49 (⟨((f2.tr f29).tr f36), by rw [hR, gLoop_f (by simp only [gTim, gAdd, gAnd, gOr, beq_iff_eq, Bool.or_eq_true]; omega) (by rw [e27]; exact hg33)]; exact hb45⟩)
                · exact absurd c57 (by decide)
              · refine lv_iconst (v := 1) C.1 C.2.1 dX12_either0_39 (by decide) ?_
                refine lv_goto (tgt := 44) C.1 C.2.1 dX12_either0_40 (by decide) ?_
                refine lv_istore_n (lv' := [(1, .int 1), (2, .int r30), (0, .ref (mw_a E 0))]) C.1 C.2.1 dX12_either0_44 rfl hl (by decide) rfl (fun ls hl => ?_)
                refine lv_goto (tgt := 5) C.1 C.2.1 dX12_either0_45 (by decide) ?_
                refine lv_aload_n C.1 C.2.1 dX12_either0_5 rfl (lv_at hl 2 rfl) ?_
                refine lv_bipush (v := 111) C.1 C.2.1 dX12_either0_6 (by decide) ?_
                refine lv_bipush (v := 114) C.1 C.2.1 dX12_either0_8 (by decide) ?_
                refine lv_iconst (v := 0) C.1 C.2.1 dX12_either0_10 (by decide) ?_
                refine lv_iconst (v := 0) C.1 C.2.1 dX12_either0_11 (by decide) ?_
                refine lv_iconst (v := 0) C.1 C.2.1 dX12_either0_12 (by decide) ?_
                refine lv_iconst (v := 0) C.1 C.2.1 dX12_either0_13 (by decide) ?_
                refine lv_iconst (v := 0) C.1 C.2.1 dX12_either0_14 (by decide) ?_
                refine lv_iconst (v := 0) C.1 C.2.1 dX12_either0_15 (by decide) ?_
                refine mw_cVi (As := [.int 111, .int 114, .int 0, .int 0, .int 0, .int 0, .int 0, .int 0]) (rest := []) C Z hP hS (0) (cM_isWordB l E u31 hb45.1 111 114 0 0 0 0 0 0) vb_X12_isWord tw_5_77 ⟨rfl, rfl⟩ ⟨Nat.le_of_ble_eq_true rfl, Nat.le_of_ble_eq_true rfl⟩ (by decide) rfl rfl rfl rfl hl.1 rfl (Nat.le_of_ble_eq_true rfl) dX12_either0_16 ⟨Nat.zero_le _, Nat.zero_le _⟩ (fun r58 u59 H locs q60 hP hS => ?_)
                obtain ⟨rfl, q60u⟩ := q60
                rw [q60u] at hP; clear q60u
                refine lv_if_eq (tgt := 48) C.1 C.2.1 dX12_either0_19 (by decide) (fun c61 => ?_) (fun c61 => ?_)
                · refine lv_iload_n C.1 C.2.1 dX12_either0_48 rfl (lv_at hl 0 rfl) ?_
                  exact mw_iret C hr hlk Z hP hS dX12_either0_49 (⟨((f2.tr f29).tr f36), by rw [hR, gLoop_f (by simp only [gTim, gAdd, gAnd, gOr, beq_iff_eq, Bool.or_eq_true]; omega) (by rw [e27]; exact hg33)]; exact hb45⟩)
                · exact absurd c61 (by decide)
    exact lp (ts12.length + 1) cs8 k10 p11 ts12 r1 u2 _ _ (Nat.le_refl _) h14 ((mFp.rf σ).tr f7) v15 (by rw [gE_5, gLevel_I hg4, e13]; rfl) hP hS ls (lv_sub hl [1, 0] rfl)
  · rw [hg4] at q3
    obtain ⟨f7, hb16⟩ := q3
    refine lv_istore_n (lv' := [(1, .int r1), (0, .ref (mw_a E 0))]) C.1 C.2.1 dX12_either0_4 rfl hl (by decide) rfl (fun ls hl => ?_)
    refine lv_aload_n C.1 C.2.1 dX12_either0_5 rfl (lv_at hl 1 rfl) ?_
    refine lv_bipush (v := 111) C.1 C.2.1 dX12_either0_6 (by decide) ?_
    refine lv_bipush (v := 114) C.1 C.2.1 dX12_either0_8 (by decide) ?_
    refine lv_iconst (v := 0) C.1 C.2.1 dX12_either0_10 (by decide) ?_
    refine lv_iconst (v := 0) C.1 C.2.1 dX12_either0_11 (by decide) ?_
    refine lv_iconst (v := 0) C.1 C.2.1 dX12_either0_12 (by decide) ?_
    refine lv_iconst (v := 0) C.1 C.2.1 dX12_either0_13 (by decide) ?_
    refine lv_iconst (v := 0) C.1 C.2.1 dX12_either0_14 (by decide) ?_
    refine lv_iconst (v := 0) C.1 C.2.1 dX12_either0_15 (by decide) ?_
    refine mw_cVi (As := [.int 111, .int 114, .int 0, .int 0, .int 0, .int 0, .int 0, .int 0]) (rest := []) C Z hP hS (0) (cM_isWordB l E u2 hb16.1 111 114 0 0 0 0 0 0) vb_X12_isWord tw_5_77 ⟨rfl, rfl⟩ ⟨Nat.le_of_ble_eq_true rfl, Nat.le_of_ble_eq_true rfl⟩ (by decide) rfl rfl rfl rfl hl.1 rfl (Nat.le_of_ble_eq_true rfl) dX12_either0_16 ⟨Nat.zero_le _, Nat.zero_le _⟩ (fun r62 u63 H locs q64 hP hS => ?_)
    obtain ⟨rfl, q64u⟩ := q64
    rw [q64u] at hP; clear q64u
    refine lv_if_eq (tgt := 48) C.1 C.2.1 dX12_either0_19 (by decide) (fun c65 => ?_) (fun c65 => ?_)
    · refine lv_iload_n C.1 C.2.1 dX12_either0_48 rfl (lv_at hl 0 rfl) ?_
      exact mw_iret C hr hlk Z hP hS dX12_either0_49 (⟨((mFp.rf σ).tr f7), by rw [gE_5, gLevel_F hg4]; exact hb16⟩)
    · exact absurd c65 (by decide)
