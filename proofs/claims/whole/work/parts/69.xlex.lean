/-! THE CLASS: TEXTS' LETTERS, WORDS, SIGNS -/
theorem byt_ch : ∀ i : Fin 15, ∀ j : Fin 64, (((((xByt.getD i.val []).getD j.val 0) &&& 255) : Int32).toUInt32 % 65536).toInt32 = (xByt.getD i.val []).getD j.val 0 := by decide +kernel
theorem byt_nar : ∀ i : Fin 15, ∀ j : Fin 64, narrow FieldType.char (Value.int ((xByt.getD i.val []).getD j.val 0)) = Value.int ((xByt.getD i.val []).getD j.val 0) := by decide +kernel
theorem byt_len : ∀ i : Fin 15, (xByt.getD i.val []).length = xLen.getD i.val 0 := by decide +kernel
theorem sign_b : ∀ k : Fin 256, ∀ j : Fin 8, ((nI k.val).toInt8.toInt32 = signsF.getD j.val 0) ↔ (nI k.val = signsF.getD j.val 0) := by decide +kernel
theorem let_c : ∀ k : Fin 256, ((nI k.val).toUInt32 % 65536).toInt32 = nI k.val := by decide +kernel
theorem ish_0 (x : Int32) : x >>> ((0 : Int32) &&& 31) = x := by
  show x >>> (0 : Int32) = x
  exact Int32.shiftRight_zero

set_option maxHeartbeats 4000000 in
set_option maxRecDepth 100000 in
theorem cX_coder (l : Launch) (E : mw_E) (σ : mw_M) (i : Nat) (hi : i < 15) : mw_Ci shX 75 gX l yJ0_coder_7d493 cJ0_coder_7d493 1 (some .byte) (rmF 1 64) E [.ref (mw_k E i)] σ (fun r u => r = 0 ∧ u = σ) := by
  refine mw_ofJ (by decide +kernel) gX_ok (Nat.le_of_ble_eq_true rfl) ?_
  intro p_ e_ s_ m_ below meth c_ C hr hlk Z hP ls hl
  have C : CallFix p_ m_ c_ cJ0_coder_7d493 1 s_ _ lw_good RJ0 := C
  have hl : lv_has ls 1 [(0, .ref (mw_k E i))] := hl
  have hS : va_S (mw_A 75 E) s_.heap s_.heap [] := va_S.rf
  refine xw_com C Z hS tw_2_30 dJ0_coder_7d493_0 ?_
  refine lv_if_eq (tgt := 13) C.1 C.2.1 dJ0_coder_7d493_3 (by decide) (fun c1 => ?_) (fun c1 => ?_)
  · exact absurd c1 (by decide)
  · refine lv_aload_n C.1 C.2.1 dJ0_coder_7d493_6 rfl (lv_at hl 0 rfl) ?_
    refine xw_cod C Z hS i (by omega) tw_6_199 dJ0_coder_7d493_7 ?_
    refine lv_goto (tgt := 14) C.1 C.2.1 dJ0_coder_7d493_10 (by decide) ?_
    exact mw_zret C hr hlk Z hP hS rfl dJ0_coder_7d493_14 (⟨rfl, rfl⟩)

set_option maxHeartbeats 4000000 in
set_option maxRecDepth 100000 in
theorem cX_isLatin1 (l : Launch) (E : mw_E) (σ : mw_M) (i : Nat) (hi : i < 15) : mw_Ci shX 75 gX l yJ0_isLatin1_aae02 cJ0_isLatin1_aae02 1 (some .boolean) (rmF 1 64) E [.ref (mw_k E i)] σ (fun r u => r = 1 ∧ u = σ) := by
  refine mw_ofJ (by decide +kernel) gX_ok (Nat.le_of_ble_eq_true rfl) ?_
  intro p_ e_ s_ m_ below meth c_ C hr hlk Z hP ls hl
  have C : CallFix p_ m_ c_ cJ0_isLatin1_aae02 1 s_ _ lw_good RJ0 := C
  have hl : lv_has ls 1 [(0, .ref (mw_k E i))] := hl
  have hS : va_S (mw_A 75 E) s_.heap s_.heap [] := va_S.rf
  refine xw_com C Z hS tw_2_30 dJ0_isLatin1_aae02_0 ?_
  refine lv_if_eq (tgt := 17) C.1 C.2.1 dJ0_isLatin1_aae02_3 (by decide) (fun c1 => ?_) (fun c1 => ?_)
  · exact absurd c1 (by decide)
  · refine lv_aload_n C.1 C.2.1 dJ0_isLatin1_aae02_6 rfl (lv_at hl 0 rfl) ?_
    refine xw_cod C Z hS i (by omega) tw_6_199 dJ0_isLatin1_aae02_7 ?_
    refine lv_if_ne (tgt := 17) C.1 C.2.1 dJ0_isLatin1_aae02_10 (by decide) (fun c2 => ?_) (fun c2 => ?_)
    · exact absurd c2 (by decide)
    · refine lv_iconst (v := 1) C.1 C.2.1 dJ0_isLatin1_aae02_13 (by decide) ?_
      refine lv_goto (tgt := 18) C.1 C.2.1 dJ0_isLatin1_aae02_14 (by decide) ?_
      exact mw_zret C hr hlk Z hP hS rfl dJ0_isLatin1_aae02_18 (⟨rfl, rfl⟩)

set_option maxHeartbeats 4000000 in
set_option maxRecDepth 100000 in
theorem cX_length (l : Launch) (E : mw_E) (σ : mw_M) (i : Nat) (hi : i < 15) : mw_Ci shX 75 gX l yJ0_length_8abf5 cJ0_length_8abf5 1 (some .int) (rmF 2 84) E [.ref (mw_k E i)] σ (fun r u => r = nI (xLen.getD i 0) ∧ u = σ) := by
  refine mw_ofJ (by decide +kernel) gX_ok (Nat.le_of_ble_eq_true rfl) ?_
  intro p_ e_ s_ m_ below meth c_ C hr hlk Z hP ls hl
  have C : CallFix p_ m_ c_ cJ0_length_8abf5 1 s_ _ lw_good RJ0 := C
  have hl : lv_has ls 1 [(0, .ref (mw_k E i))] := hl
  have hS : va_S (mw_A 75 E) s_.heap s_.heap [] := va_S.rf
  refine lv_aload_n C.1 C.2.1 dJ0_length_8abf5_0 rfl (lv_at hl 0 rfl) ?_
  refine xw_val C Z hS i (by omega) tw_6_198 dJ0_length_8abf5_1 ?_
  refine xw_blen C Z hS i (by omega) dJ0_length_8abf5_4 ?_
  refine lv_aload_n C.1 C.2.1 dJ0_length_8abf5_5 rfl (lv_at hl 0 rfl) ?_
  refine xw_cTi (As := []) (rest := [.int (nI (xLen.getD i 0))]) C Z hP hS i (by omega) (cX_coder l E σ i (by omega)) vb_J0_coder_7d493 tw_2_26 ⟨rfl, rfl⟩ ⟨Nat.le_of_ble_eq_true rfl, Nat.le_of_ble_eq_true rfl⟩ rfl hl.1 rfl (Nat.le_of_ble_eq_true rfl) dJ0_length_8abf5_6 ⟨Nat.zero_le _, Nat.zero_le _⟩ (fun r1 u2 H locs q3 hP hS => ?_)
  obtain ⟨rfl, q3u⟩ := q3
  rw [q3u] at hP; clear q3u
  refine lv_ishr C.1 C.2.1 dJ0_length_8abf5_9 ?_
  refine mw_top (y := nI (xLen.getD i 0)) (ish_0 _) ?_
  exact mw_iret C hr hlk Z hP hS dJ0_length_8abf5_10 (⟨rfl, rfl⟩)

set_option maxHeartbeats 4000000 in
set_option maxRecDepth 100000 in
theorem cX_ckIn (l : Launch) (E : mw_E) (σ : mw_M) (j n : Nat) (hj : j < n) (hn : n < 1000) : mw_Ci shX 75 gX l yJ3_checkIndex_8e157 cJ3_checkIndex_8e157 3 (some .int) (rmF 1 64) E [.int (nI j), .int (nI n), .null] σ (fun r u => r = nI j ∧ u = σ) := by
  refine mw_ofJ (by decide +kernel) gX_ok (Nat.le_of_ble_eq_true rfl) ?_
  intro p_ e_ s_ m_ below meth c_ C hr hlk Z hP ls hl
  have C : CallFix p_ m_ c_ cJ3_checkIndex_8e157 3 s_ _ lw_good RJ3 := C
  have hl : lv_has ls 3 [(0, .int (nI j)), (1, .int (nI n)), (2, .null)] := hl
  have hS : va_S (mw_A 75 E) s_.heap s_.heap [] := va_S.rf
  refine lv_iload_n C.1 C.2.1 dJ3_checkIndex_8e157_0 rfl (lv_at hl 0 rfl) ?_
  refine lv_if_lt (tgt := 9) C.1 C.2.1 dJ3_checkIndex_8e157_1 (by decide) (fun c1 => ?_) (fun c1 => ?_)
  · exact absurd c1 (nI_pos (by omega))
  · refine lv_iload_n C.1 C.2.1 dJ3_checkIndex_8e157_4 rfl (lv_at hl 0 rfl) ?_
    refine lv_iload_n C.1 C.2.1 dJ3_checkIndex_8e157_5 rfl (lv_at hl 1 rfl) ?_
    refine lv_icmp_lt (tgt := 16) C.1 C.2.1 dJ3_checkIndex_8e157_6 (by decide) (fun c2 => ?_) (fun c2 => ?_)
    · refine lv_iload_n C.1 C.2.1 dJ3_checkIndex_8e157_16 rfl (lv_at hl 0 rfl) ?_
      exact mw_iret C hr hlk Z hP hS dJ3_checkIndex_8e157_17 (⟨rfl, rfl⟩)
    · exact absurd ((nI_ltI (by omega) (by omega)).mpr hj) c2

set_option maxHeartbeats 4000000 in
set_option maxRecDepth 100000 in
theorem cX_ckIr (l : Launch) (E : mw_E) (σ : mw_M) (j n : Nat) (hj : j < n) (hn : n < 1000) (t : Nat) : mw_Ci shX 75 gX l yJ3_checkIndex_8e157 cJ3_checkIndex_8e157 3 (some .int) (rmF 1 64) E [.int (nI j), .int (nI n), .ref (t)] σ (fun r u => r = nI j ∧ u = σ) := by
  refine mw_ofJ (by decide +kernel) gX_ok (Nat.le_of_ble_eq_true rfl) ?_
  intro p_ e_ s_ m_ below meth c_ C hr hlk Z hP ls hl
  have C : CallFix p_ m_ c_ cJ3_checkIndex_8e157 3 s_ _ lw_good RJ3 := C
  have hl : lv_has ls 3 [(0, .int (nI j)), (1, .int (nI n)), (2, .ref (t))] := hl
  have hS : va_S (mw_A 75 E) s_.heap s_.heap [] := va_S.rf
  refine lv_iload_n C.1 C.2.1 dJ3_checkIndex_8e157_0 rfl (lv_at hl 0 rfl) ?_
  refine lv_if_lt (tgt := 9) C.1 C.2.1 dJ3_checkIndex_8e157_1 (by decide) (fun c1 => ?_) (fun c1 => ?_)
  · exact absurd c1 (nI_pos (by omega))
  · refine lv_iload_n C.1 C.2.1 dJ3_checkIndex_8e157_4 rfl (lv_at hl 0 rfl) ?_
    refine lv_iload_n C.1 C.2.1 dJ3_checkIndex_8e157_5 rfl (lv_at hl 1 rfl) ?_
    refine lv_icmp_lt (tgt := 16) C.1 C.2.1 dJ3_checkIndex_8e157_6 (by decide) (fun c2 => ?_) (fun c2 => ?_)
    · refine lv_iload_n C.1 C.2.1 dJ3_checkIndex_8e157_16 rfl (lv_at hl 0 rfl) ?_
      exact mw_iret C hr hlk Z hP hS dJ3_checkIndex_8e157_17 (⟨rfl, rfl⟩)
    · exact absurd ((nI_ltI (by omega) (by omega)).mpr hj) c2

set_option maxHeartbeats 4000000 in
set_option maxRecDepth 100000 in
theorem cX_ck (l : Launch) (E : mw_E) (σ : mw_M) (j n : Nat) (hj : j < n) (hn : n < 1000) : mw_Cv shX 75 gX l yJ0_checkIndex_df160 cJ0_checkIndex_df160 2 none (rmF 2 86) E [.int (nI j), .int (nI n)] σ (fun u => u = σ) := by
  refine mw_ofJ (by decide +kernel) gX_ok (Nat.le_of_ble_eq_true rfl) ?_
  intro p_ e_ s_ m_ below meth c_ C hr hlk Z hP ls hl
  have C : CallFix p_ m_ c_ cJ0_checkIndex_df160 2 s_ _ lw_good RJ0 := C
  have hl : lv_has ls 2 [(0, .int (nI j)), (1, .int (nI n))] := hl
  have hS : va_S (mw_A 75 E) s_.heap s_.heap [] := va_S.rf
  refine lv_iload_n C.1 C.2.1 dJ0_checkIndex_df160_0 rfl (lv_at hl 0 rfl) ?_
  refine lv_iload_n C.1 C.2.1 dJ0_checkIndex_df160_1 rfl (lv_at hl 1 rfl) ?_
  rcases Z.2.2.1.2.2.1 with hz | ⟨t, hz⟩
  · refine va_gets C.1 C.2.1 hz hS C.2.2.2.1 (C.2.2.2.2 _ tw_2_46) (fun _ h => h) dJ0_checkIndex_df160_2 ?_
    refine mw_cSi (As := [.int (nI j), .int (nI n), .null]) (rest := []) C Z hP hS (cX_ckIn l E σ j n hj hn) sb_J3_checkIndex_8e157 tw_2_48 ⟨rfl, rfl⟩ ⟨Nat.le_of_ble_eq_true rfl, Nat.le_of_ble_eq_true rfl⟩ rfl hl.1 rfl (Nat.le_of_ble_eq_true rfl) dJ0_checkIndex_df160_5 ⟨Nat.zero_le _, Nat.zero_le _⟩ (fun r1 u2 H locs q3 hP hS => ?_)
    obtain ⟨rfl, q3u⟩ := q3
    rw [q3u] at hP; clear q3u
    refine lv_pop C.1 C.2.1 dJ0_checkIndex_df160_8 rfl ?_
    exact mw_vret C hr hlk Z hP hS dJ0_checkIndex_df160_9 (rfl)
  · refine va_gets C.1 C.2.1 hz hS C.2.2.2.1 (C.2.2.2.2 _ tw_2_46) (fun _ h => h) dJ0_checkIndex_df160_2 ?_
    refine mw_cSi (As := [.int (nI j), .int (nI n), .ref (t)]) (rest := []) C Z hP hS (cX_ckIr l E σ j n hj hn t) sb_J3_checkIndex_8e157 tw_2_48 ⟨rfl, rfl⟩ ⟨Nat.le_of_ble_eq_true rfl, Nat.le_of_ble_eq_true rfl⟩ rfl hl.1 rfl (Nat.le_of_ble_eq_true rfl) dJ0_checkIndex_df160_5 ⟨Nat.zero_le _, Nat.zero_le _⟩ (fun r4 u5 H locs q6 hP hS => ?_)
    obtain ⟨rfl, q6u⟩ := q6
    rw [q6u] at hP; clear q6u
    refine lv_pop C.1 C.2.1 dJ0_checkIndex_df160_8 rfl ?_
    exact mw_vret C hr hlk Z hP hS dJ0_checkIndex_df160_9 (rfl)

set_option maxHeartbeats 4000000 in
set_option maxRecDepth 100000 in
theorem cX_charB (l : Launch) (E : mw_E) (σ : mw_M) (i : Nat) (hi : i < 15) (j : Nat) (hj : j < xLen.getD i 0) : mw_Ci shX 75 gX l yJ1_charAt_3b067 cJ1_charAt_3b067 2 (some .char) (rmF 3 108) E [.ref (mw_v E i), .int (nI j)] σ (fun r u => r = (xByt.getD i []).getD j 0 ∧ u = σ) := by
  refine mw_ofJ (by decide +kernel) gX_ok (Nat.le_of_ble_eq_true rfl) ?_
  intro p_ e_ s_ m_ below meth c_ C hr hlk Z hP ls hl
  have C : CallFix p_ m_ c_ cJ1_charAt_3b067 2 s_ _ lw_good RJ1 := C
  have hl : lv_has ls 2 [(0, .ref (mw_v E i)), (1, .int (nI j))] := hl
  have hS : va_S (mw_A 75 E) s_.heap s_.heap [] := va_S.rf
  refine lv_iload_n C.1 C.2.1 dJ1_charAt_3b067_0 rfl (lv_at hl 1 rfl) ?_
  refine lv_aload_n C.1 C.2.1 dJ1_charAt_3b067_1 rfl (lv_at hl 0 rfl) ?_
  refine xw_blen C Z hS i (by omega) dJ1_charAt_3b067_2 ?_
  refine mw_cSv (As := [.int (nI j), .int (nI (xLen.getD i 0))]) (rest := []) C Z hP hS (cX_ck l E σ j (xLen.getD i 0) hj (by have := xLen_le i hi; omega)) sb_J0_checkIndex_df160 tw_2_43 ⟨rfl, rfl⟩ ⟨Nat.le_of_ble_eq_true rfl, Nat.le_of_ble_eq_true rfl⟩ rfl hl.1 rfl (Nat.le_of_ble_eq_true rfl) dJ1_charAt_3b067_3 ⟨Nat.zero_le _, Nat.zero_le _⟩ (fun u2 H locs q3 hP hS => ?_)
  rw [q3] at hP; clear q3
  refine lv_aload_n C.1 C.2.1 dJ1_charAt_3b067_6 rfl (lv_at hl 0 rfl) ?_
  refine lv_iload_n C.1 C.2.1 dJ1_charAt_3b067_7 rfl (lv_at hl 1 rfl) ?_
  refine xw_bld C Z hS i (j) (by omega) rfl (by omega) (by have := xLen_le i hi; omega) dJ1_charAt_3b067_8 ?_
  refine lv_sipush (v := 255) C.1 C.2.1 dJ1_charAt_3b067_9 (by decide) ?_
  refine lv_iand C.1 C.2.1 dJ1_charAt_3b067_12 ?_
  refine lv_i2c C.1 C.2.1 dJ1_charAt_3b067_13 rfl ?_
  refine mw_top (y := (xByt.getD i []).getD j 0) (byt_ch ⟨i, hi⟩ ⟨j, by have := xLen_le i hi; omega⟩) ?_
  exact mw_zret C hr hlk Z hP hS (byt_nar ⟨i, hi⟩ ⟨j, by have := xLen_le i hi; omega⟩) dJ1_charAt_3b067_14 (⟨rfl, rfl⟩)

set_option maxHeartbeats 4000000 in
set_option maxRecDepth 100000 in
theorem cX_charAt (l : Launch) (E : mw_E) (σ : mw_M) (i : Nat) (hi : i < 15) (j : Nat) (hj : j < xLen.getD i 0) : mw_Ci shX 75 gX l yJ0_charAt_5068e cJ0_charAt_5068e 2 (some .char) (rmF 4 130) E [.ref (mw_k E i), .int (nI j)] σ (fun r u => r = (xByt.getD i []).getD j 0 ∧ u = σ) := by
  refine mw_ofJ (by decide +kernel) gX_ok (Nat.le_of_ble_eq_true rfl) ?_
  intro p_ e_ s_ m_ below meth c_ C hr hlk Z hP ls hl
  have C : CallFix p_ m_ c_ cJ0_charAt_5068e 2 s_ _ lw_good RJ0 := C
  have hl : lv_has ls 2 [(0, .ref (mw_k E i)), (1, .int (nI j))] := hl
  have hS : va_S (mw_A 75 E) s_.heap s_.heap [] := va_S.rf
  refine lv_aload_n C.1 C.2.1 dJ0_charAt_5068e_0 rfl (lv_at hl 0 rfl) ?_
  refine xw_cTi (As := []) (rest := []) C Z hP hS i (by omega) (cX_isLatin1 l E σ i (by omega)) vb_J0_isLatin1_aae02 tw_2_36 ⟨rfl, rfl⟩ ⟨Nat.le_of_ble_eq_true rfl, Nat.le_of_ble_eq_true rfl⟩ rfl hl.1 rfl (Nat.le_of_ble_eq_true rfl) dJ0_charAt_5068e_1 ⟨Nat.zero_le _, Nat.zero_le _⟩ (fun r1 u2 H locs q3 hP hS => ?_)
  obtain ⟨rfl, q3u⟩ := q3
  rw [q3u] at hP; clear q3u
  refine lv_if_eq (tgt := 16) C.1 C.2.1 dJ0_charAt_5068e_4 (by decide) (fun c4 => ?_) (fun c4 => ?_)
  · exact absurd c4 (by decide)
  · refine lv_aload_n C.1 C.2.1 dJ0_charAt_5068e_7 rfl (lv_at hl 0 rfl) ?_
    refine xw_val C Z hS i (by omega) tw_6_198 dJ0_charAt_5068e_8 ?_
    refine lv_iload_n C.1 C.2.1 dJ0_charAt_5068e_11 rfl (lv_at hl 1 rfl) ?_
    refine mw_cSi (As := [.ref (mw_v E i), .int (nI j)]) (rest := []) C Z hP hS (cX_charB l E σ i hi j hj) sb_J1_charAt_3b067 tw_2_40 ⟨rfl, rfl⟩ ⟨Nat.le_of_ble_eq_true rfl, Nat.le_of_ble_eq_true rfl⟩ rfl hl.1 rfl (Nat.le_of_ble_eq_true rfl) dJ0_charAt_5068e_12 ⟨Nat.zero_le _, Nat.zero_le _⟩ (fun r5 u6 H locs q7 hP hS => ?_)
    obtain ⟨rfl, q7u⟩ := q7
    rw [q7u] at hP; clear q7u
    exact mw_zret C hr hlk Z hP hS (byt_nar ⟨i, hi⟩ ⟨j, by have := xLen_le i hi; omega⟩) dJ0_charAt_5068e_15 (⟨rfl, rfl⟩)

theorem nI_eqI {a b : Nat} (ha : a < 2 ^ 31) (hb : b < 2 ^ 31) (h : nI a = nI b) : a = b := by have := congrArg Int32.toInt h; rw [nI_toInt ha, nI_toInt hb] at this; omega
set_option maxHeartbeats 4000000 in
set_option maxRecDepth 100000 in
theorem cX_spell (l : Launch) (E : mw_E) (σ : mw_M) (k : Nat) (hk : k < 12) : mw_Cr shX 75 gX l yX10_spellingOf cX10_spellingOf 1 (some (.object "java/lang/String")) (rmF 1 64) E [.int (nI k)] σ (fun u => u = σ) (mw_k E k) := by
  refine mw_of (by decide) gX_ok (Nat.le_of_ble_eq_true rfl) ?_
  intro p_ e_ s_ m_ below meth c_ C hr hlk Z hP ls hl
  have C : CallFix p_ m_ c_ cX10_spellingOf 1 s_ _ lw_good RX10 := C
  have hl : lv_has ls 1 [(0, .int (nI k))] := hl
  have hS : va_S (mw_A 75 E) s_.heap s_.heap [] := va_S.rf
  refine lv_iload_n C.1 C.2.1 dX10_spellingOf_0 rfl (lv_at hl 0 rfl) ?_
  by_cases c1 : nI k = 0
  · have ek : k = 0 := nI_eqI (by omega) (by decide) c1
    subst ek
    refine lv_tableIn (off := 63) (tgt := 64) C.1 C.2.1 dX10_spellingOf_1 (by rw [c1]; decide) (by rw [c1]; decide) (by rw [c1]; decide) (by decide) ?_
    refine xw_ldcS C Z 0 (by decide) ⟨rfl, rfl⟩ dX10_spellingOf_64 ?_
    exact mw_aret C hr hlk Z hP hS (Or.inl ⟨_, rfl⟩) dX10_spellingOf_66 (rfl)
  by_cases c2 : nI k = 1
  · have ek : k = 1 := nI_eqI (by omega) (by decide) c2
    subst ek
    refine lv_tableIn (off := 66) (tgt := 67) C.1 C.2.1 dX10_spellingOf_1 (by rw [c2]; decide) (by rw [c2]; decide) (by rw [c2]; decide) (by decide) ?_
    refine xw_ldcS C Z 1 (by decide) ⟨rfl, rfl⟩ dX10_spellingOf_67 ?_
    exact mw_aret C hr hlk Z hP hS (Or.inl ⟨_, rfl⟩) dX10_spellingOf_69 (rfl)
  by_cases c3 : nI k = 2
  · have ek : k = 2 := nI_eqI (by omega) (by decide) c3
    subst ek
    refine lv_tableIn (off := 69) (tgt := 70) C.1 C.2.1 dX10_spellingOf_1 (by rw [c3]; decide) (by rw [c3]; decide) (by rw [c3]; decide) (by decide) ?_
    refine xw_ldcS C Z 2 (by decide) ⟨rfl, rfl⟩ dX10_spellingOf_70 ?_
    exact mw_aret C hr hlk Z hP hS (Or.inl ⟨_, rfl⟩) dX10_spellingOf_72 (rfl)
  by_cases c4 : nI k = 3
  · have ek : k = 3 := nI_eqI (by omega) (by decide) c4
    subst ek
    refine lv_tableIn (off := 72) (tgt := 73) C.1 C.2.1 dX10_spellingOf_1 (by rw [c4]; decide) (by rw [c4]; decide) (by rw [c4]; decide) (by decide) ?_
    refine xw_ldcS C Z 3 (by decide) ⟨rfl, rfl⟩ dX10_spellingOf_73 ?_
    exact mw_aret C hr hlk Z hP hS (Or.inl ⟨_, rfl⟩) dX10_spellingOf_75 (rfl)
  by_cases c5 : nI k = 4
  · have ek : k = 4 := nI_eqI (by omega) (by decide) c5
    subst ek
    refine lv_tableIn (off := 75) (tgt := 76) C.1 C.2.1 dX10_spellingOf_1 (by rw [c5]; decide) (by rw [c5]; decide) (by rw [c5]; decide) (by decide) ?_
    refine xw_ldcS C Z 4 (by decide) ⟨rfl, rfl⟩ dX10_spellingOf_76 ?_
    exact mw_aret C hr hlk Z hP hS (Or.inl ⟨_, rfl⟩) dX10_spellingOf_78 (rfl)
  by_cases c6 : nI k = 5
  · have ek : k = 5 := nI_eqI (by omega) (by decide) c6
    subst ek
    refine lv_tableIn (off := 78) (tgt := 79) C.1 C.2.1 dX10_spellingOf_1 (by rw [c6]; decide) (by rw [c6]; decide) (by rw [c6]; decide) (by decide) ?_
    refine xw_ldcS C Z 5 (by decide) ⟨rfl, rfl⟩ dX10_spellingOf_79 ?_
    exact mw_aret C hr hlk Z hP hS (Or.inl ⟨_, rfl⟩) dX10_spellingOf_81 (rfl)
  by_cases c7 : nI k = 6
  · have ek : k = 6 := nI_eqI (by omega) (by decide) c7
    subst ek
    refine lv_tableIn (off := 81) (tgt := 82) C.1 C.2.1 dX10_spellingOf_1 (by rw [c7]; decide) (by rw [c7]; decide) (by rw [c7]; decide) (by decide) ?_
    refine xw_ldcS C Z 6 (by decide) ⟨rfl, rfl⟩ dX10_spellingOf_82 ?_
    exact mw_aret C hr hlk Z hP hS (Or.inl ⟨_, rfl⟩) dX10_spellingOf_84 (rfl)
  by_cases c8 : nI k = 7
  · have ek : k = 7 := nI_eqI (by omega) (by decide) c8
    subst ek
    refine lv_tableIn (off := 84) (tgt := 85) C.1 C.2.1 dX10_spellingOf_1 (by rw [c8]; decide) (by rw [c8]; decide) (by rw [c8]; decide) (by decide) ?_
    refine xw_ldcS C Z 7 (by decide) ⟨rfl, rfl⟩ dX10_spellingOf_85 ?_
    exact mw_aret C hr hlk Z hP hS (Or.inl ⟨_, rfl⟩) dX10_spellingOf_87 (rfl)
  by_cases c9 : nI k = 8
  · have ek : k = 8 := nI_eqI (by omega) (by decide) c9
    subst ek
    refine lv_tableIn (off := 87) (tgt := 88) C.1 C.2.1 dX10_spellingOf_1 (by rw [c9]; decide) (by rw [c9]; decide) (by rw [c9]; decide) (by decide) ?_
    refine xw_ldcS C Z 8 (by decide) ⟨rfl, rfl⟩ dX10_spellingOf_88 ?_
    exact mw_aret C hr hlk Z hP hS (Or.inl ⟨_, rfl⟩) dX10_spellingOf_90 (rfl)
  by_cases c10 : nI k = 9
  · have ek : k = 9 := nI_eqI (by omega) (by decide) c10
    subst ek
    refine lv_tableIn (off := 90) (tgt := 91) C.1 C.2.1 dX10_spellingOf_1 (by rw [c10]; decide) (by rw [c10]; decide) (by rw [c10]; decide) (by decide) ?_
    refine xw_ldcS C Z 9 (by decide) ⟨rfl, rfl⟩ dX10_spellingOf_91 ?_
    exact mw_aret C hr hlk Z hP hS (Or.inl ⟨_, rfl⟩) dX10_spellingOf_93 (rfl)
  by_cases c11 : nI k = 10
  · have ek : k = 10 := nI_eqI (by omega) (by decide) c11
    subst ek
    refine lv_tableIn (off := 93) (tgt := 94) C.1 C.2.1 dX10_spellingOf_1 (by rw [c11]; decide) (by rw [c11]; decide) (by rw [c11]; decide) (by decide) ?_
    refine xw_ldcS C Z 10 (by decide) ⟨rfl, rfl⟩ dX10_spellingOf_94 ?_
    exact mw_aret C hr hlk Z hP hS (Or.inl ⟨_, rfl⟩) dX10_spellingOf_96 (rfl)
  by_cases c12 : nI k = 11
  · have ek : k = 11 := nI_eqI (by omega) (by decide) c12
    subst ek
    refine lv_tableIn (off := 96) (tgt := 97) C.1 C.2.1 dX10_spellingOf_1 (by rw [c12]; decide) (by rw [c12]; decide) (by rw [c12]; decide) (by decide) ?_
    refine xw_ldcS C Z 11 (by decide) ⟨rfl, rfl⟩ dX10_spellingOf_97 ?_
    exact mw_aret C hr hlk Z hP hS (Or.inl ⟨_, rfl⟩) dX10_spellingOf_99 (rfl)
  exfalso; have z0 : ¬ k = 0 := fun y => c1 (by rw [y]; rfl); have z1 : ¬ k = 1 := fun y => c2 (by rw [y]; rfl); have z2 : ¬ k = 2 := fun y => c3 (by rw [y]; rfl); have z3 : ¬ k = 3 := fun y => c4 (by rw [y]; rfl); have z4 : ¬ k = 4 := fun y => c5 (by rw [y]; rfl); have z5 : ¬ k = 5 := fun y => c6 (by rw [y]; rfl); have z6 : ¬ k = 6 := fun y => c7 (by rw [y]; rfl); have z7 : ¬ k = 7 := fun y => c8 (by rw [y]; rfl); have z8 : ¬ k = 8 := fun y => c9 (by rw [y]; rfl); have z9 : ¬ k = 9 := fun y => c10 (by rw [y]; rfl); have z10 : ¬ k = 10 := fun y => c11 (by rw [y]; rfl); have z11 : ¬ k = 11 := fun y => c12 (by rw [y]; rfl); omega
