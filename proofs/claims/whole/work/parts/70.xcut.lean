/-! THE CLASS: THE LEXER -/
theorem xB_w : ∀ i : Fin 12, xByt.getD i.val [] = wordsF.getD i.val [] := by decide +kernel
theorem xB_l' : ∀ i : Fin 12, (wordsF.getD i.val []).length = xLen.getD i.val 0 := by decide +kernel
theorem xB_l {i : Nat} (hi : i < 12) : (wordsF.getD i []).length = xLen.getD i 0 := xB_l' ⟨i, hi⟩

set_option maxHeartbeats 4000000 in
set_option maxRecDepth 100000 in
theorem cX_isSpelt (l : Launch) (E : mw_E) (σ : mw_M) (i : Nat) (hi : i < 12) (n : Nat) (hn : σ.1 31 1 = nI n) (h6 : n ≤ 160) (q e : Nat) (hqe : q ≤ e) (hen : e ≤ n) : mw_Ci shX 75 gX l yX10_isSpelt cX10_isSpelt 5 (some .boolean) (rmF 6 170) E [.ref (mw_k E i), .ref (mw_a E 31), .int (nI q), .int (nI e)] σ (fun r u => r = bI (mtB (σ.2.1 32) n q e (wordsF.getD i []) = true) ∧ u = σ) := by
  refine mw_of (by decide) gX_ok (Nat.le_of_ble_eq_true rfl) ?_
  intro p_ e_ s_ m_ below meth c_ C hr hlk Z hP ls hl
  have C : CallFix p_ m_ c_ cX10_isSpelt 5 s_ _ lw_good RX10 := C
  have hl : lv_has ls 5 [(0, .ref (mw_k E i)), (1, .ref (mw_a E 31)), (2, .int (nI q)), (3, .int (nI e))] := hl
  have hS : va_S (mw_A 75 E) s_.heap s_.heap [] := va_S.rf
  have hx := xLen_le i (by omega)
  refine lv_aload_n C.1 C.2.1 dX10_isSpelt_0 rfl (lv_at hl 0 rfl) ?_
  refine xw_cTi (As := []) (rest := []) C Z hP hS i (by omega) (cX_length l E σ i (by omega)) vb_J0_length_8abf5 tw_2_130 ⟨rfl, rfl⟩ ⟨Nat.le_of_ble_eq_true rfl, Nat.le_of_ble_eq_true rfl⟩ rfl hl.1 rfl (Nat.le_of_ble_eq_true rfl) dX10_isSpelt_1 ⟨Nat.zero_le _, Nat.zero_le _⟩ (fun r1 u2 H locs q3 hP hS => ?_)
  obtain ⟨rfl, q3u⟩ := q3
  rw [q3u] at hP; clear q3u
  refine lv_iload_n C.1 C.2.1 dX10_isSpelt_4 rfl (lv_at hl 3 rfl) ?_
  refine lv_iload_n C.1 C.2.1 dX10_isSpelt_5 rfl (lv_at hl 2 rfl) ?_
  refine lv_isub C.1 C.2.1 dX10_isSpelt_6 ?_
  refine mw_top (y := nI (e - q)) (pk_sub hqe) ?_
  refine lv_icmp_eq (tgt := 12) C.1 C.2.1 dX10_isSpelt_7 (by decide) (fun c4 => ?_) (fun c4 => ?_)
  · have hle : e - q = xLen.getD i 0 := (nI_eqI (by omega) (by omega) c4).symm
    refine lv_iconst (v := 0) C.1 C.2.1 dX10_isSpelt_12 (by decide) ?_
    refine lv_istore (lv' := [(4, .int 0), (0, .ref (mw_k E i)), (1, .ref (mw_a E 31)), (2, .int (nI q)), (3, .int (nI e))]) C.1 C.2.1 dX10_isSpelt_13 hl (by decide) rfl (fun ls hl => ?_)
    have lpa : ∀ (N : Nat) (j : Nat) (H : Heap) (locs : List Loc), xLen.getD i 0 + 1 ≤ j + N → (j ≤ xLen.getD i 0) → (∀ p, p < j → byF (σ.2.1 32) n (q + p) = (wordsF.getD i []).getD p 0) → va_P (mw_D E) vwCl (mw_ws shX 75 E σ) H → va_S (mw_A 75 E) s_.heap H locs → ∀ (ls : Array Slot), lv_has ls 5 [(0, .ref (mw_k E i)), (1, .ref (mw_a E 31)), (2, .int (nI q)), (3, .int (nI e)), (4, .int (nI j))] → xWi p_ l e_ (rmF 6 170) s_ m_ [.ref (mw_k E i), .ref (mw_a E 31), .int (nI q), .int (nI e)] below meth c_ E (fun r u => r = bI (mtB (σ.2.1 32) n q e (wordsF.getD i []) = true) ∧ u = σ) H locs (F0 m_ 15 ls []) := by
      intro N
      induction N with
      | zero => intros; exfalso; omega
      | succ N iha =>
        intro j H locs hNa hj hm hP hS ls hl
        refine lv_iload C.1 C.2.1 dX10_isSpelt_15 (lv_at hl 4 rfl) ?_
        refine lv_aload_n C.1 C.2.1 dX10_isSpelt_17 rfl (lv_at hl 0 rfl) ?_
        refine xw_cTi (As := []) (rest := [.int (nI j)]) C Z hP hS i (by omega) (cX_length l E σ i (by omega)) vb_J0_length_8abf5 tw_2_130 ⟨rfl, rfl⟩ ⟨Nat.le_of_ble_eq_true rfl, Nat.le_of_ble_eq_true rfl⟩ rfl hl.1 rfl (Nat.le_of_ble_eq_true rfl) dX10_isSpelt_18 ⟨Nat.zero_le _, Nat.zero_le _⟩ (fun r5 u6 H locs q7 hP hS => ?_)
        obtain ⟨rfl, q7u⟩ := q7
        rw [q7u] at hP; clear q7u
        refine lv_icmp_ge (tgt := 49) C.1 C.2.1 dX10_isSpelt_21 (by decide) (fun c8 => ?_) (fun c8 => ?_)
        · have c8 := (nI_leI (by omega) (by omega)).mp c8
          refine lv_iconst (v := 1) C.1 C.2.1 dX10_isSpelt_49 (by decide) ?_
          exact mw_zret C hr hlk Z hP hS rfl dX10_isSpelt_50 (⟨(bI_t (mtB_iff.mpr ⟨hle.trans (xB_l hi).symm, fun p hp => hm p (by rw [xB_l hi] at hp; omega)⟩)).symm, rfl⟩)
        · have c8 : _ := (not_congr (nI_leI (by omega) (by omega))).mp c8
          refine lv_aload_n C.1 C.2.1 dX10_isSpelt_24 rfl (lv_at hl 0 rfl) ?_
          refine lv_iload C.1 C.2.1 dX10_isSpelt_25 (lv_at hl 4 rfl) ?_
          refine xw_cTi (As := [.int (nI j)]) (rest := []) C Z hP hS i (by omega) (cX_charAt l E σ i (by omega) j (by omega)) vb_J0_charAt_5068e tw_2_131 ⟨rfl, rfl⟩ ⟨Nat.le_of_ble_eq_true rfl, Nat.le_of_ble_eq_true rfl⟩ rfl hl.1 rfl (Nat.le_of_ble_eq_true rfl) dX10_isSpelt_27 ⟨Nat.zero_le _, Nat.zero_le _⟩ (fun r9 u10 H locs q11 hP hS => ?_)
          obtain ⟨rfl, q11u⟩ := q11
          rw [q11u] at hP; clear q11u
          refine mw_top (y := (wordsF.getD i []).getD j 0) (by rw [xB_w ⟨i, hi⟩]) ?_
          refine lv_aload_n C.1 C.2.1 dX10_isSpelt_30 rfl (lv_at hl 1 rfl) ?_
          refine lv_iload_n C.1 C.2.1 dX10_isSpelt_31 rfl (lv_at hl 2 rfl) ?_
          refine lv_iload C.1 C.2.1 dX10_isSpelt_32 (lv_at hl 4 rfl) ?_
          refine lv_iadd C.1 C.2.1 dX10_isSpelt_34 ?_
          refine mw_top (y := nI (q + j)) (nI_add _ _) ?_
          refine mw_cVi (As := [.int (nI (q + j))]) (rest := [.int ((wordsF.getD i []).getD j 0)]) C Z hP hS (31) (cX_letterAt l E σ n hn h6 (q + j) (by omega)) vb_X7_letterAt tw_2_132 ⟨rfl, rfl⟩ ⟨Nat.le_of_ble_eq_true rfl, Nat.le_of_ble_eq_true rfl⟩ (by decide) sx_31 rfl rfl rfl hl.1 rfl (Nat.le_of_ble_eq_true rfl) dX10_isSpelt_35 ⟨Nat.zero_le _, Nat.zero_le _⟩ (fun r12 u13 H locs q14 hP hS => ?_)
          obtain ⟨rfl, q14u⟩ := q14
          rw [q14u] at hP; clear q14u
          refine lv_icmp_eq (tgt := 43) C.1 C.2.1 dX10_isSpelt_38 (by decide) (fun c15 => ?_) (fun c15 => ?_)
          · refine lv_iinc (v := nI (j + 1)) (lv' := [(4, .int (nI (j + 1))), (0, .ref (mw_k E i)), (1, .ref (mw_a E 31)), (2, .int (nI q)), (3, .int (nI e))]) C.1 C.2.1 dX10_isSpelt_43 hl (k := 4) rfl (nI_1 _) (by decide) rfl (fun ls hl => ?_)
            refine lv_goto (tgt := 15) C.1 C.2.1 dX10_isSpelt_46 (by decide) ?_
            exact iha (j + 1) _ _ (by omega) (by omega) (fun p hp => (Nat.lt_succ_iff_lt_or_eq.mp hp).elim (hm p) (fun y => by rw [y]; exact c15.symm)) hP hS ls (lv_sub hl [1, 2, 3, 4, 0] rfl)
          · refine lv_iconst (v := 0) C.1 C.2.1 dX10_isSpelt_41 (by decide) ?_
            exact mw_zret C hr hlk Z hP hS rfl dX10_isSpelt_42 (⟨(bI_f (fun y => c15 ((mtB_iff.mp y).2 j (by rw [xB_l hi]; omega)).symm)).symm, rfl⟩)
    exact lpa (xLen.getD i 0 + 1) 0 _ _ (by omega) (by omega) (fun p hp => by omega) hP hS ls (lv_sub hl [1, 2, 3, 4, 0] rfl)
  · have hle : ¬ e - q = xLen.getD i 0 := fun y => c4 (by rw [y])
    refine lv_iconst (v := 0) C.1 C.2.1 dX10_isSpelt_10 (by decide) ?_
    exact mw_zret C hr hlk Z hP hS rfl dX10_isSpelt_11 (⟨(bI_f (fun y => hle ((mtB_iff.mp y).1.trans (xB_l hi)))).symm, rfl⟩)

set_option maxHeartbeats 4000000 in
set_option maxRecDepth 100000 in
theorem cX_wordOf (l : Launch) (E : mw_E) (σ : mw_M) (n : Nat) (hn : σ.1 31 1 = nI n) (h6 : n ≤ 160) (q e : Nat) (hqe : q ≤ e) (hen : e ≤ n) : mw_Ci shX 75 gX l yX10_wordOf cX10_wordOf 4 (some .int) (rmF 7 194) E [.ref (mw_a E 31), .int (nI q), .int (nI e)] σ (fun r u => r = nI (wcF (σ.2.1 32) n q e) ∧ u = σ) := by
  refine mw_of (by decide) gX_ok (Nat.le_of_ble_eq_true rfl) ?_
  intro p_ e_ s_ m_ below meth c_ C hr hlk Z hP ls hl
  have C : CallFix p_ m_ c_ cX10_wordOf 4 s_ _ lw_good RX10 := C
  have hl : lv_has ls 4 [(0, .ref (mw_a E 31)), (1, .int (nI q)), (2, .int (nI e))] := hl
  have hS : va_S (mw_A 75 E) s_.heap s_.heap [] := va_S.rf
  refine lv_iconst (v := 0) C.1 C.2.1 dX10_wordOf_0 (by decide) ?_
  refine lv_istore_n (lv' := [(3, .int 0), (0, .ref (mw_a E 31)), (1, .int (nI q)), (2, .int (nI e))]) C.1 C.2.1 dX10_wordOf_1 rfl hl (by decide) rfl (fun ls hl => ?_)
  have lpa : ∀ (N : Nat) (w : Nat) (H : Heap) (locs : List Loc), 13 ≤ w + N → (w ≤ 12) → (∀ v, v < w → ¬ mtB (σ.2.1 32) n q e (wordsF.getD v []) = true) → va_P (mw_D E) vwCl (mw_ws shX 75 E σ) H → va_S (mw_A 75 E) s_.heap H locs → ∀ (ls : Array Slot), lv_has ls 4 [(0, .ref (mw_a E 31)), (1, .int (nI q)), (2, .int (nI e)), (3, .int (nI w))] → xWi p_ l e_ (rmF 7 194) s_ m_ [.ref (mw_a E 31), .int (nI q), .int (nI e)] below meth c_ E (fun r u => r = nI (wcF (σ.2.1 32) n q e) ∧ u = σ) H locs (F0 m_ 2 ls []) := by
    intro N
    induction N with
    | zero => intros; exfalso; omega
    | succ N iha =>
      intro w H locs hNa hw hm hP hS ls hl
      refine lv_iload_n C.1 C.2.1 dX10_wordOf_2 rfl (lv_at hl 3 rfl) ?_
      refine lv_bipush (v := 12) C.1 C.2.1 dX10_wordOf_3 (by decide) ?_
      refine lv_icmp_ge (tgt := 29) C.1 C.2.1 dX10_wordOf_5 (by decide) (fun c1 => ?_) (fun c1 => ?_)
      · have c1 := (nI_leI (a := 12) (by decide) (by omega)).mp c1
        refine lv_bipush (v := 22) C.1 C.2.1 dX10_wordOf_29 (by decide) ?_
        exact mw_iret C hr hlk Z hP hS dX10_wordOf_31 (⟨by rw [show wcF (σ.2.1 32) n q e = 22 from (wcF_range (σ.2.1 32) n q e).resolve_left (fun y => hm _ (by omega) (mtB_iff.mpr ((wcF_iff y).mp rfl)))]; rfl, rfl⟩)
      · have c1 := (not_congr (nI_leI (a := 12) (by decide) (by omega))).mp c1
        refine lv_iload_n C.1 C.2.1 dX10_wordOf_8 rfl (lv_at hl 3 rfl) ?_
        refine mw_cSr (As := [.int (nI w)]) (rest := []) C Z hP hS (cX_spell l E σ w (by omega)) sb_X10_spellingOf tw_2_111 ⟨rfl, rfl⟩ ⟨Nat.le_of_ble_eq_true rfl, Nat.le_of_ble_eq_true rfl⟩ rfl hl.1 rfl (Nat.le_of_ble_eq_true rfl) dX10_wordOf_9 ⟨Nat.zero_le _, Nat.zero_le _⟩ (fun u3 H locs q4 hP hS => ?_)
        rw [q4] at hP; clear q4
        refine lv_aload_n C.1 C.2.1 dX10_wordOf_12 rfl (lv_at hl 0 rfl) ?_
        refine lv_iload_n C.1 C.2.1 dX10_wordOf_13 rfl (lv_at hl 1 rfl) ?_
        refine lv_iload_n C.1 C.2.1 dX10_wordOf_14 rfl (lv_at hl 2 rfl) ?_
        refine mw_cSi (As := [.ref (mw_k E w), .ref (mw_a E 31), .int (nI q), .int (nI e)]) (rest := []) C Z hP hS (cX_isSpelt l E σ w (by omega) n hn h6 q e hqe hen) sb_X10_isSpelt tw_2_127 ⟨rfl, rfl⟩ ⟨Nat.le_of_ble_eq_true rfl, Nat.le_of_ble_eq_true rfl⟩ rfl hl.1 rfl (Nat.le_of_ble_eq_true rfl) dX10_wordOf_15 ⟨Nat.zero_le _, Nat.zero_le _⟩ (fun r5 u6 H locs q7 hP hS => ?_)
        obtain ⟨rfl, q7u⟩ := q7
        rw [q7u] at hP; clear q7u
        refine lv_if_eq (tgt := 23) C.1 C.2.1 dX10_wordOf_18 (by decide) (fun c8 => ?_) (fun c8 => ?_)
        · have c8 := bI_0.mp c8
          refine lv_iinc (v := nI (w + 1)) (lv' := [(3, .int (nI (w + 1))), (0, .ref (mw_a E 31)), (1, .int (nI q)), (2, .int (nI e))]) C.1 C.2.1 dX10_wordOf_23 hl (k := 3) rfl (nI_1 _) (by decide) rfl (fun ls hl => ?_)
          refine lv_goto (tgt := 2) C.1 C.2.1 dX10_wordOf_26 (by decide) ?_
          exact iha (w + 1) _ _ (by omega) (by omega) (fun v hv => (Nat.lt_succ_iff_lt_or_eq.mp hv).elim (hm v) (fun y => by rw [y]; exact c8)) hP hS ls (lv_sub hl [1, 2, 3, 0] rfl)
        · have c8 := bI_n.mp c8
          refine lv_iload_n C.1 C.2.1 dX10_wordOf_21 rfl (lv_at hl 3 rfl) ?_
          exact mw_iret C hr hlk Z hP hS dX10_wordOf_22 (⟨by rw [(wcF_iff (i := w) (by omega)).mpr (mtB_iff.mp c8)], rfl⟩)
  exact lpa (13) 0 _ _ (by omega) (by omega) (fun v hv => by omega) hP hS ls (lv_sub hl [1, 2, 3, 0] rfl)

theorem nv_stepI {b : Int32} (h : 48 ≤ b.toInt ∧ b.toInt ≤ 57) (x : Nat) : (nI (10 * x) + b) - 48 = nI (10 * x + (b.toInt - 48).toNat) := by
  obtain ⟨k, hk, rfl⟩ := nI_ofI (k := 57) (by omega) h.2
  rw [nI_toInt (by omega)] at h ⊢
  rw [nI_add, show (48 : Int32) = nI 48 from rfl, pk_sub (by omega)]
  congr 1
  omega
theorem nvF_100 {bs : Nat → Int32} {n q k : Nat} (hk : k ≤ 4) (h : ∀ i, i < k → 48 ≤ (byF bs n (q + i)).toInt ∧ (byF bs n (q + i)).toInt ≤ 57) : nvF bs n k q 0 < 10000 := by
  have h1 := nvF_lt k q 0 h
  have h2 : 10 ^ k ≤ 10 ^ 4 := Nat.pow_le_pow_right (by decide) hk
  omega

set_option maxHeartbeats 4000000 in
set_option maxRecDepth 100000 in
theorem cX_numberOf (l : Launch) (E : mw_E) (σ : mw_M) (n : Nat) (hn : σ.1 31 1 = nI n) (h6 : n ≤ 160) (q e : Nat) (hqe : q ≤ e) (hen : e ≤ n) (hdg : ∀ i, q ≤ i → i < e → 48 ≤ (byF (σ.2.1 32) n i).toInt ∧ (byF (σ.2.1 32) n i).toInt ≤ 57) : mw_Ci shX 75 gX l yX10_numberOf cX10_numberOf 5 (some .int) (rmF 2 85) E [.ref (mw_a E 31), .int (nI q), .int (nI e)] σ (fun r u => r = nI (if 4 < e - q then 22 else 100 + nvF (σ.2.1 32) n (e - q) q 0) ∧ u = σ) := by
  refine mw_of (by decide) gX_ok (Nat.le_of_ble_eq_true rfl) ?_
  intro p_ e_ s_ m_ below meth c_ C hr hlk Z hP ls hl
  have C : CallFix p_ m_ c_ cX10_numberOf 5 s_ _ lw_good RX10 := C
  have hl : lv_has ls 5 [(0, .ref (mw_a E 31)), (1, .int (nI q)), (2, .int (nI e))] := hl
  have hS : va_S (mw_A 75 E) s_.heap s_.heap [] := va_S.rf
  refine lv_iload_n C.1 C.2.1 dX10_numberOf_0 rfl (lv_at hl 2 rfl) ?_
  refine lv_iload_n C.1 C.2.1 dX10_numberOf_1 rfl (lv_at hl 1 rfl) ?_
  refine lv_isub C.1 C.2.1 dX10_numberOf_2 ?_
  refine mw_top (y := nI (e - q)) (pk_sub hqe) ?_
  refine lv_iconst (v := 4) C.1 C.2.1 dX10_numberOf_3 (by decide) ?_
  refine lv_icmp_le (tgt := 10) C.1 C.2.1 dX10_numberOf_4 (by decide) (fun c1 => ?_) (fun c1 => ?_)
  · have c1 := (nI_leI (b := 4) (by omega) (by decide)).mp c1
    refine lv_iconst (v := 0) C.1 C.2.1 dX10_numberOf_10 (by decide) ?_
    refine lv_istore_n (lv' := [(3, .int 0), (0, .ref (mw_a E 31)), (1, .int (nI q)), (2, .int (nI e))]) C.1 C.2.1 dX10_numberOf_11 rfl hl (by decide) rfl (fun ls hl => ?_)
    refine lv_iload_n C.1 C.2.1 dX10_numberOf_12 rfl (lv_at hl 2 rfl) ?_
    refine lv_istore (lv' := [(4, .int (nI q)), (3, .int 0), (0, .ref (mw_a E 31)), (1, .int (nI q)), (2, .int (nI e))]) C.1 C.2.1 dX10_numberOf_13 hl (by decide) rfl (fun ls hl => ?_)
    have lpa : ∀ (N : Nat) (k : Nat) (H : Heap) (locs : List Loc), e - q + 1 ≤ k + N → (k ≤ e - q) → va_P (mw_D E) vwCl (mw_ws shX 75 E σ) H → va_S (mw_A 75 E) s_.heap H locs → ∀ (ls : Array Slot), lv_has ls 5 [(0, .ref (mw_a E 31)), (1, .int (nI q)), (2, .int (nI e)), (3, .int (nI (nvF (σ.2.1 32) n k q 0))), (4, .int (nI (q + k)))] → xWi p_ l e_ (rmF 2 85) s_ m_ [.ref (mw_a E 31), .int (nI q), .int (nI e)] below meth c_ E (fun r u => r = nI (if 4 < e - q then 22 else 100 + nvF (σ.2.1 32) n (e - q) q 0) ∧ u = σ) H locs (F0 m_ 15 ls []) := by
      intro N
      induction N with
      | zero => intros; exfalso; omega
      | succ N iha =>
        intro k H locs hNa hk hP hS ls hl
        refine lv_iload C.1 C.2.1 dX10_numberOf_15 (lv_at hl 4 rfl) ?_
        refine lv_iload_n C.1 C.2.1 dX10_numberOf_17 rfl (lv_at hl 2 rfl) ?_
        refine lv_icmp_ge (tgt := 42) C.1 C.2.1 dX10_numberOf_18 (by decide) (fun c2 => ?_) (fun c2 => ?_)
        · have c2 := (nI_leI (by omega) (by omega)).mp c2
          refine lv_bipush (v := 100) C.1 C.2.1 dX10_numberOf_42 (by decide) ?_
          refine lv_iload_n C.1 C.2.1 dX10_numberOf_44 rfl (lv_at hl 3 rfl) ?_
          refine lv_iadd C.1 C.2.1 dX10_numberOf_45 ?_
          refine mw_top (y := nI (100 + nvF (σ.2.1 32) n k q 0)) (nI_add 100 _) ?_
          have ek : k = e - q := by omega
          exact mw_iret C hr hlk Z hP hS dX10_numberOf_46 (⟨by rw [if_neg (by omega), ek], rfl⟩)
        · have c2 : _ := (not_congr (nI_leI (by omega) (by omega))).mp c2
          refine lv_bipush (v := 10) C.1 C.2.1 dX10_numberOf_21 (by decide) ?_
          refine lv_iload_n C.1 C.2.1 dX10_numberOf_23 rfl (lv_at hl 3 rfl) ?_
          refine lv_imul C.1 C.2.1 dX10_numberOf_24 ?_
          refine mw_top (y := nI (10 * (nvF (σ.2.1 32) n k q 0))) (pk_mul 10 (nvF (σ.2.1 32) n k q 0)) ?_
          refine lv_aload_n C.1 C.2.1 dX10_numberOf_25 rfl (lv_at hl 0 rfl) ?_
          refine lv_iload C.1 C.2.1 dX10_numberOf_26 (lv_at hl 4 rfl) ?_
          refine mw_cVi (As := [.int (nI (q + k))]) (rest := [.int (nI (10 * (nvF (σ.2.1 32) n k q 0)))]) C Z hP hS (31) (cX_letterAt l E σ n hn h6 (q + k) (by omega)) vb_X7_letterAt tw_2_132 ⟨rfl, rfl⟩ ⟨Nat.le_of_ble_eq_true rfl, Nat.le_of_ble_eq_true rfl⟩ (by decide) sx_31 rfl rfl rfl hl.1 rfl (Nat.le_of_ble_eq_true rfl) dX10_numberOf_28 ⟨Nat.zero_le _, Nat.zero_le _⟩ (fun r3 u4 H locs q5 hP hS => ?_)
          obtain ⟨rfl, q5u⟩ := q5
          rw [q5u] at hP; clear q5u
          refine lv_iadd C.1 C.2.1 dX10_numberOf_31 ?_
          refine lv_bipush (v := 48) C.1 C.2.1 dX10_numberOf_32 (by decide) ?_
          refine lv_isub C.1 C.2.1 dX10_numberOf_34 ?_
          refine mw_top (y := nI (nvF (σ.2.1 32) n (k + 1) q 0)) (by rw [nvF_snoc]; exact nv_stepI (hdg (q + k) (by omega) (by omega)) _) ?_
          refine lv_istore_n (lv' := [(3, .int (nI (nvF (σ.2.1 32) n (k + 1) q 0))), (0, .ref (mw_a E 31)), (1, .int (nI q)), (2, .int (nI e)), (4, .int (nI (q + k)))]) C.1 C.2.1 dX10_numberOf_35 rfl hl (by decide) rfl (fun ls hl => ?_)
          refine lv_iinc (v := nI (q + k + 1)) (lv' := [(4, .int (nI (q + k + 1))), (3, .int (nI (nvF (σ.2.1 32) n (k + 1) q 0))), (0, .ref (mw_a E 31)), (1, .int (nI q)), (2, .int (nI e))]) C.1 C.2.1 dX10_numberOf_36 hl (k := 4) rfl (nI_1 _) (by decide) rfl (fun ls hl => ?_)
          refine lv_goto (tgt := 15) C.1 C.2.1 dX10_numberOf_39 (by decide) ?_
          exact iha (k + 1) _ _ (by omega) (by omega) hP hS ls (lv_sub hl [2, 3, 4, 1, 0] rfl)
    exact lpa (e - q + 1) 0 _ _ (by omega) (by omega) hP hS ls (lv_sub hl [2, 3, 4, 1, 0] rfl)
  · have c1 := (not_congr (nI_leI (b := 4) (by omega) (by decide))).mp c1
    refine lv_bipush (v := 22) C.1 C.2.1 dX10_numberOf_7 (by decide) ?_
    exact mw_iret C hr hlk Z hP hS dX10_numberOf_9 (⟨by rw [if_pos (by omega)]; rfl, rfl⟩)

set_option maxHeartbeats 4000000 in
set_option maxRecDepth 100000 in
theorem cX_endOf (l : Launch) (E : mw_E) (σ : mw_M) (n : Nat) (hn : σ.1 31 1 = nI n) (h6 : n ≤ 160) (q : Nat) (hq0 : q < n) : mw_Ci shX 75 gX l yX10_endOf cX10_endOf 3 (some .int) (rmF 3 107) E [.ref (mw_a E 31), .int (nI q)] σ (fun r u => r = nI (enF (σ.2.1 32) n q) ∧ u = σ) := by
  refine mw_of (by decide) gX_ok (Nat.le_of_ble_eq_true rfl) ?_
  intro p_ e_ s_ m_ below meth c_ C hr hlk Z hP ls hl
  have C : CallFix p_ m_ c_ cX10_endOf 3 s_ _ lw_good RX10 := C
  have hl : lv_has ls 3 [(0, .ref (mw_a E 31)), (1, .int (nI q))] := hl
  have hS : va_S (mw_A 75 E) s_.heap s_.heap [] := va_S.rf
  refine lv_iload_n C.1 C.2.1 dX10_endOf_0 rfl (lv_at hl 1 rfl) ?_
  refine lv_iconst (v := 1) C.1 C.2.1 dX10_endOf_1 (by decide) ?_
  refine lv_iadd C.1 C.2.1 dX10_endOf_2 ?_
  refine mw_top (y := nI (q + 1)) (nI_1 _) ?_
  refine lv_istore_n (lv' := [(2, .int (nI (q + 1))), (0, .ref (mw_a E 31)), (1, .int (nI q))]) C.1 C.2.1 dX10_endOf_3 rfl hl (by decide) rfl (fun ls hl => ?_)
  refine lv_aload_n C.1 C.2.1 dX10_endOf_4 rfl (lv_at hl 1 rfl) ?_
  refine lv_iload_n C.1 C.2.1 dX10_endOf_5 rfl (lv_at hl 2 rfl) ?_
  refine mw_cVi (As := [.int (nI q)]) (rest := []) C Z hP hS (31) (cX_isSmall l E σ n hn h6 q (by omega)) vb_X7_isSmall tw_2_89 ⟨rfl, rfl⟩ ⟨Nat.le_of_ble_eq_true rfl, Nat.le_of_ble_eq_true rfl⟩ (by decide) sx_31 rfl rfl rfl hl.1 rfl (Nat.le_of_ble_eq_true rfl) dX10_endOf_6 ⟨Nat.zero_le _, Nat.zero_le _⟩ (fun r1 u2 H locs q3 hP hS => ?_)
  obtain ⟨rfl, q3u⟩ := q3
  rw [q3u] at hP; clear q3u
  refine lv_if_eq (tgt := 34) C.1 C.2.1 dX10_endOf_9 (by decide) (fun c4 => ?_) (fun c4 => ?_)
  · have c4 := bI_0.mp c4
    have hc0 := c4
    refine lv_aload_n C.1 C.2.1 dX10_endOf_34 rfl (lv_at hl 1 rfl) ?_
    refine lv_iload_n C.1 C.2.1 dX10_endOf_35 rfl (lv_at hl 2 rfl) ?_
    refine mw_cVi (As := [.int (nI q)]) (rest := []) C Z hP hS (31) (cX_isDigit l E σ n hn h6 q (by omega)) vb_X7_isDigit tw_2_97 ⟨rfl, rfl⟩ ⟨Nat.le_of_ble_eq_true rfl, Nat.le_of_ble_eq_true rfl⟩ (by decide) sx_31 rfl rfl rfl hl.1 rfl (Nat.le_of_ble_eq_true rfl) dX10_endOf_36 ⟨Nat.zero_le _, Nat.zero_le _⟩ (fun r5 u6 H locs q7 hP hS => ?_)
    obtain ⟨rfl, q7u⟩ := q7
    rw [q7u] at hP; clear q7u
    refine lv_if_eq (tgt := 64) C.1 C.2.1 dX10_endOf_39 (by decide) (fun c8 => ?_) (fun c8 => ?_)
    · have c8 := bI_0.mp c8
      have hc1 := c8
      refine lv_iload_n C.1 C.2.1 dX10_endOf_64 rfl (lv_at hl 0 rfl) ?_
      exact mw_iret C hr hlk Z hP hS dX10_endOf_65 (⟨by unfold enF; rw [if_neg hc0, if_neg hc1], rfl⟩)
    · have c8 := bI_n.mp c8
      have hc1 := c8
      have lpb : ∀ (N : Nat) (h : Nat) (H : Heap) (locs : List Loc), n + 1 ≤ h + N → (h ≤ n) → (q < h) → (dgF (σ.2.1 32) n 161 q = dgF (σ.2.1 32) n 161 h) → va_P (mw_D E) vwCl (mw_ws shX 75 E σ) H → va_S (mw_A 75 E) s_.heap H locs → ∀ (ls : Array Slot), lv_has ls 3 [(0, .ref (mw_a E 31)), (1, .int (nI q)), (2, .int (nI h))] → xWi p_ l e_ (rmF 3 107) s_ m_ [.ref (mw_a E 31), .int (nI q)] below meth c_ E (fun r u => r = nI (enF (σ.2.1 32) n q) ∧ u = σ) H locs (F0 m_ 42 ls []) := by
        intro N
        induction N with
        | zero => intros; exfalso; omega
        | succ N ihb =>
          intro h H locs hNb hh hq he hP hS ls hl
          refine lv_iload_n C.1 C.2.1 dX10_endOf_42 rfl (lv_at hl 2 rfl) ?_
          refine lv_aload_n C.1 C.2.1 dX10_endOf_43 rfl (lv_at hl 0 rfl) ?_
          refine mw_geti C Z hP (31) 1 (by decide) sx_31 rfl rfl (by decide) inX7 tw_1_123 dX10_endOf_44 ?_
          refine mw_top (y := nI n) (hn) ?_
          refine lv_icmp_ge (tgt := 64) C.1 C.2.1 dX10_endOf_47 (by decide) (fun c9 => ?_) (fun c9 => ?_)
          · have c9 := (nI_leI (by omega) (by omega)).mp c9
            refine lv_iload_n C.1 C.2.1 dX10_endOf_64 rfl (lv_at hl 2 rfl) ?_
            exact mw_iret C hr hlk Z hP hS dX10_endOf_65 (⟨by unfold enF; rw [if_neg hc0, if_pos hc1, he, dgF_stop (fun y => by have := byF_di y; omega)], rfl⟩)
          · have c9 : _ := (not_congr (nI_leI (by omega) (by omega))).mp c9
            refine lv_aload_n C.1 C.2.1 dX10_endOf_50 rfl (lv_at hl 0 rfl) ?_
            refine lv_iload_n C.1 C.2.1 dX10_endOf_51 rfl (lv_at hl 2 rfl) ?_
            refine mw_cVi (As := [.int (nI h)]) (rest := []) C Z hP hS (31) (cX_isDigit l E σ n hn h6 h (by omega)) vb_X7_isDigit tw_2_97 ⟨rfl, rfl⟩ ⟨Nat.le_of_ble_eq_true rfl, Nat.le_of_ble_eq_true rfl⟩ (by decide) sx_31 rfl rfl rfl hl.1 rfl (Nat.le_of_ble_eq_true rfl) dX10_endOf_52 ⟨Nat.zero_le _, Nat.zero_le _⟩ (fun r10 u11 H locs q12 hP hS => ?_)
            obtain ⟨rfl, q12u⟩ := q12
            rw [q12u] at hP; clear q12u
            refine lv_if_eq (tgt := 64) C.1 C.2.1 dX10_endOf_55 (by decide) (fun c13 => ?_) (fun c13 => ?_)
            · have c13 := bI_0.mp c13
              refine lv_iload_n C.1 C.2.1 dX10_endOf_64 rfl (lv_at hl 2 rfl) ?_
              exact mw_iret C hr hlk Z hP hS dX10_endOf_65 (⟨by unfold enF; rw [if_neg hc0, if_pos hc1, he, dgF_stop c13], rfl⟩)
            · have c13 := bI_n.mp c13
              refine lv_iinc (v := nI (h + 1)) (lv' := [(2, .int (nI (h + 1))), (0, .ref (mw_a E 31)), (1, .int (nI q))]) C.1 C.2.1 dX10_endOf_58 hl (k := 2) rfl (nI_1 _) (by decide) rfl (fun ls hl => ?_)
              refine lv_goto (tgt := 42) C.1 C.2.1 dX10_endOf_61 (by decide) ?_
              exact ihb (h + 1) _ _ (by omega) (by omega) (by omega) (he.trans (dgF_step h6 c13)) hP hS ls (lv_sub hl [1, 2, 0] rfl)
      exact lpb (n + 1) (q + 1) _ _ (by omega) (by omega) (by omega) (dgF_step h6 hc1) hP hS ls (lv_sub hl [1, 2, 0] rfl)
  · have c4 := bI_n.mp c4
    have hc1 := c4
    have lpa : ∀ (N : Nat) (h : Nat) (H : Heap) (locs : List Loc), n + 1 ≤ h + N → (h ≤ n) → (q < h) → (wdF (σ.2.1 32) n 161 q = wdF (σ.2.1 32) n 161 h) → va_P (mw_D E) vwCl (mw_ws shX 75 E σ) H → va_S (mw_A 75 E) s_.heap H locs → ∀ (ls : Array Slot), lv_has ls 3 [(0, .ref (mw_a E 31)), (1, .int (nI q)), (2, .int (nI h))] → xWi p_ l e_ (rmF 3 107) s_ m_ [.ref (mw_a E 31), .int (nI q)] below meth c_ E (fun r u => r = nI (enF (σ.2.1 32) n q) ∧ u = σ) H locs (F0 m_ 12 ls []) := by
      intro N
      induction N with
      | zero => intros; exfalso; omega
      | succ N iha =>
        intro h H locs hNa hh hq he hP hS ls hl
        refine lv_iload_n C.1 C.2.1 dX10_endOf_12 rfl (lv_at hl 2 rfl) ?_
        refine lv_aload_n C.1 C.2.1 dX10_endOf_13 rfl (lv_at hl 0 rfl) ?_
        refine mw_geti C Z hP (31) 1 (by decide) sx_31 rfl rfl (by decide) inX7 tw_1_123 dX10_endOf_14 ?_
        refine mw_top (y := nI n) (hn) ?_
        refine lv_icmp_ge (tgt := 64) C.1 C.2.1 dX10_endOf_17 (by decide) (fun c14 => ?_) (fun c14 => ?_)
        · have c14 := (nI_leI (by omega) (by omega)).mp c14
          refine lv_iload_n C.1 C.2.1 dX10_endOf_64 rfl (lv_at hl 2 rfl) ?_
          exact mw_iret C hr hlk Z hP hS dX10_endOf_65 (⟨by unfold enF; rw [if_pos hc1, he, wdF_stop (fun y => by have := byF_sm y; omega)], rfl⟩)
        · have c14 : _ := (not_congr (nI_leI (by omega) (by omega))).mp c14
          refine lv_aload_n C.1 C.2.1 dX10_endOf_20 rfl (lv_at hl 0 rfl) ?_
          refine lv_iload_n C.1 C.2.1 dX10_endOf_21 rfl (lv_at hl 2 rfl) ?_
          refine mw_cVi (As := [.int (nI h)]) (rest := []) C Z hP hS (31) (cX_isSmall l E σ n hn h6 h (by omega)) vb_X7_isSmall tw_2_89 ⟨rfl, rfl⟩ ⟨Nat.le_of_ble_eq_true rfl, Nat.le_of_ble_eq_true rfl⟩ (by decide) sx_31 rfl rfl rfl hl.1 rfl (Nat.le_of_ble_eq_true rfl) dX10_endOf_22 ⟨Nat.zero_le _, Nat.zero_le _⟩ (fun r15 u16 H locs q17 hP hS => ?_)
          obtain ⟨rfl, q17u⟩ := q17
          rw [q17u] at hP; clear q17u
          refine lv_if_eq (tgt := 64) C.1 C.2.1 dX10_endOf_25 (by decide) (fun c18 => ?_) (fun c18 => ?_)
          · have c18 := bI_0.mp c18
            refine lv_iload_n C.1 C.2.1 dX10_endOf_64 rfl (lv_at hl 2 rfl) ?_
            exact mw_iret C hr hlk Z hP hS dX10_endOf_65 (⟨by unfold enF; rw [if_pos hc1, he, wdF_stop c18], rfl⟩)
          · have c18 := bI_n.mp c18
            refine lv_iinc (v := nI (h + 1)) (lv' := [(2, .int (nI (h + 1))), (0, .ref (mw_a E 31)), (1, .int (nI q))]) C.1 C.2.1 dX10_endOf_28 hl (k := 2) rfl (nI_1 _) (by decide) rfl (fun ls hl => ?_)
            refine lv_goto (tgt := 12) C.1 C.2.1 dX10_endOf_31 (by decide) ?_
            exact iha (h + 1) _ _ (by omega) (by omega) (by omega) (he.trans (wdF_step h6 c18)) hP hS ls (lv_sub hl [1, 2, 0] rfl)
    exact lpa (n + 1) (q + 1) _ _ (by omega) (by omega) (by omega) (wdF_step h6 hc1) hP hS ls (lv_sub hl [1, 2, 0] rfl)

def scX (x : Int32) : Int32 := if scF x = 22 then -1 else nI (scF x - 12)
theorem sg13 : ∀ j : Fin 8, (xByt.getD 13 []).getD j.val 0 = signsF.getD j.val 0 := by decide +kernel

set_option maxHeartbeats 4000000 in
set_option maxRecDepth 100000 in
theorem cX_idxC (l : Launch) (E : mw_E) (σ : mw_M) (x : Int32) (kx : Nat) (hkx : kx ≤ 255) (ex : x = nI kx) : mw_Ci shX 75 gX l yJ1_indexOfChar_4cfef cJ1_indexOfChar_4cfef 6 (some .int) (rmF 1 64) E [.ref (mw_v E 13), .int x, .int 0, .int (nI 8)] σ (fun r u => r = scX x ∧ u = σ) := by
  refine mw_ofJ (by decide +kernel) gX_ok (Nat.le_of_ble_eq_true rfl) ?_
  intro p_ e_ s_ m_ below meth c_ C hr hlk Z hP ls hl
  have C : CallFix p_ m_ c_ cJ1_indexOfChar_4cfef 6 s_ _ lw_good RJ1 := C
  have hl : lv_has ls 6 [(0, .ref (mw_v E 13)), (1, .int x), (2, .int 0), (3, .int (nI 8))] := hl
  have hS : va_S (mw_A 75 E) s_.heap s_.heap [] := va_S.rf
  refine lv_iload_n C.1 C.2.1 dJ1_indexOfChar_4cfef_0 rfl (lv_at hl 1 rfl) ?_
  refine lv_i2b C.1 C.2.1 dJ1_indexOfChar_4cfef_1 rfl ?_
  refine lv_istore (lv' := [(4, .int (x.toInt8.toInt32)), (0, .ref (mw_v E 13)), (1, .int x), (2, .int 0), (3, .int (nI 8))]) C.1 C.2.1 dJ1_indexOfChar_4cfef_2 hl (by decide) rfl (fun ls hl => ?_)
  refine lv_iload_n C.1 C.2.1 dJ1_indexOfChar_4cfef_4 rfl (lv_at hl 3 rfl) ?_
  refine lv_istore (lv' := [(5, .int 0), (4, .int (x.toInt8.toInt32)), (0, .ref (mw_v E 13)), (1, .int x), (2, .int 0), (3, .int (nI 8))]) C.1 C.2.1 dJ1_indexOfChar_4cfef_5 hl (by decide) rfl (fun ls hl => ?_)
  have lpa : ∀ (N : Nat) (j : Nat) (H : Heap) (locs : List Loc), 9 ≤ j + N → (j ≤ 8) → (∀ p, p < j → ¬ x = signsF.getD p 0) → va_P (mw_D E) vwCl (mw_ws shX 75 E σ) H → va_S (mw_A 75 E) s_.heap H locs → ∀ (ls : Array Slot), lv_has ls 6 [(0, .ref (mw_v E 13)), (1, .int x), (2, .int 0), (3, .int (nI 8)), (4, .int (x.toInt8.toInt32)), (5, .int (nI j))] → xWi p_ l e_ (rmF 1 64) s_ m_ [.ref (mw_v E 13), .int x, .int 0, .int (nI 8)] below meth c_ E (fun r u => r = scX x ∧ u = σ) H locs (F0 m_ 7 ls []) := by
    intro N
    induction N with
    | zero => intros; exfalso; omega
    | succ N iha =>
      intro j H locs hNa hj hm hP hS ls hl
      refine lv_iload C.1 C.2.1 dJ1_indexOfChar_4cfef_7 (lv_at hl 5 rfl) ?_
      refine lv_iload_n C.1 C.2.1 dJ1_indexOfChar_4cfef_9 rfl (lv_at hl 3 rfl) ?_
      refine lv_icmp_ge (tgt := 31) C.1 C.2.1 dJ1_indexOfChar_4cfef_10 (by decide) (fun c1 => ?_) (fun c1 => ?_)
      · have c1 := (nI_leI (by omega) (by omega)).mp c1
        refine lv_iconst (v := -1) C.1 C.2.1 dJ1_indexOfChar_4cfef_31 (by decide) ?_
        exact mw_iret C hr hlk Z hP hS dJ1_indexOfChar_4cfef_32 (⟨by unfold scX; rw [if_pos ((scF_range x).resolve_left (fun y => hm (scF x - 12) (by omega) ((scF_iff (by omega)).mp (by omega))))], rfl⟩)
      · have c1 : _ := (not_congr (nI_leI (by omega) (by omega))).mp c1
        refine lv_aload_n C.1 C.2.1 dJ1_indexOfChar_4cfef_13 rfl (lv_at hl 0 rfl) ?_
        refine lv_iload C.1 C.2.1 dJ1_indexOfChar_4cfef_14 (lv_at hl 5 rfl) ?_
        refine xw_bld C Z hS 13 (j) (by omega) rfl (by show j < 8; omega) (by decide) dJ1_indexOfChar_4cfef_16 ?_
        refine mw_top (y := signsF.getD j 0) (sg13 ⟨j, by omega⟩) ?_
        refine lv_iload C.1 C.2.1 dJ1_indexOfChar_4cfef_17 (lv_at hl 4 rfl) ?_
        refine lv_icmp_ne (tgt := 25) C.1 C.2.1 dJ1_indexOfChar_4cfef_19 (by decide) (fun c2 => ?_) (fun c2 => ?_)
        · have hsb := sign_b ⟨kx, by omega⟩ ⟨j, by omega⟩
          have hne : ¬ x = signsF.getD j 0 := fun y => c2 (by rw [ex] at y ⊢; exact (hsb.mpr y).symm)
          refine lv_iinc (v := nI (j + 1)) (lv' := [(5, .int (nI (j + 1))), (0, .ref (mw_v E 13)), (1, .int x), (2, .int 0), (3, .int (nI 8)), (4, .int (x.toInt8.toInt32))]) C.1 C.2.1 dJ1_indexOfChar_4cfef_25 hl (k := 5) rfl (nI_1 _) (by decide) rfl (fun ls hl => ?_)
          refine lv_goto (tgt := 7) C.1 C.2.1 dJ1_indexOfChar_4cfef_28 (by decide) ?_
          exact iha (j + 1) _ _ (by omega) (by omega) (fun p hp => (Nat.lt_succ_iff_lt_or_eq.mp hp).elim (hm p) (fun y => by rw [y]; exact hne)) hP hS ls (lv_sub hl [1, 2, 3, 4, 5, 0] rfl)
        · have hsb := sign_b ⟨kx, by omega⟩ ⟨j, by omega⟩
          have heq : x = signsF.getD j 0 := by rw [ex] at c2 ⊢; exact hsb.mp c2.symm
          refine lv_iload C.1 C.2.1 dJ1_indexOfChar_4cfef_22 (lv_at hl 5 rfl) ?_
          have hsc := (scF_iff (b := x) (i := j) (by omega)).mpr heq
          exact mw_iret C hr hlk Z hP hS dJ1_indexOfChar_4cfef_24 (⟨by unfold scX; rw [if_neg (by omega), hsc, Nat.add_sub_cancel_left], rfl⟩)
  exact lpa (9) 0 _ _ (by omega) (by omega) (fun p hp => by omega) hP hS ls (lv_sub hl [2, 3, 4, 5, 1, 0] rfl)

set_option maxHeartbeats 4000000 in
set_option maxRecDepth 100000 in
theorem cX_canEnc (l : Launch) (E : mw_E) (σ : mw_M) (x : Int32) (kx : Nat) (hkx : kx ≤ 255) (ex : x = nI kx) : mw_Ci shX 75 gX l yJ1_canEncode_9a6ad cJ1_canEncode_9a6ad 1 (some .boolean) (rmF 1 64) E [.int x] σ (fun r u => r = 1 ∧ u = σ) := by
  refine mw_ofJ (by decide +kernel) gX_ok (Nat.le_of_ble_eq_true rfl) ?_
  intro p_ e_ s_ m_ below meth c_ C hr hlk Z hP ls hl
  have C : CallFix p_ m_ c_ cJ1_canEncode_9a6ad 1 s_ _ lw_good RJ1 := C
  have hl : lv_has ls 1 [(0, .int x)] := hl
  have hS : va_S (mw_A 75 E) s_.heap s_.heap [] := va_S.rf
  refine lv_iload_n C.1 C.2.1 dJ1_canEncode_9a6ad_0 rfl (lv_at hl 0 rfl) ?_
  refine lv_if_lt (tgt := 15) C.1 C.2.1 dJ1_canEncode_9a6ad_1 (by decide) (fun c1 => ?_) (fun c1 => ?_)
  · exact absurd c1 (by rw [ex]; exact nI_pos (by omega))
  · refine lv_iload_n C.1 C.2.1 dJ1_canEncode_9a6ad_4 rfl (lv_at hl 0 rfl) ?_
    refine lv_sipush (v := 255) C.1 C.2.1 dJ1_canEncode_9a6ad_5 (by decide) ?_
    refine lv_icmp_gt (tgt := 15) C.1 C.2.1 dJ1_canEncode_9a6ad_8 (by decide) (fun c2 => ?_) (fun c2 => ?_)
    · exact absurd (by rw [ex]; exact (nI_leI (b := 255) (by omega) (by decide)).mpr hkx) (Int32.not_le.mpr c2)
    · refine lv_iconst (v := 1) C.1 C.2.1 dJ1_canEncode_9a6ad_11 (by decide) ?_
      refine lv_goto (tgt := 16) C.1 C.2.1 dJ1_canEncode_9a6ad_12 (by decide) ?_
      exact mw_zret C hr hlk Z hP hS rfl dJ1_canEncode_9a6ad_16 (⟨rfl, rfl⟩)

set_option maxHeartbeats 4000000 in
set_option maxRecDepth 100000 in
theorem cX_idxL (l : Launch) (E : mw_E) (σ : mw_M) (x : Int32) (kx : Nat) (hkx : kx ≤ 255) (ex : x = nI kx) : mw_Ci shX 75 gX l yJ1_indexOf_4cfef cJ1_indexOf_4cfef 4 (some .int) (rmF 2 89) E [.ref (mw_v E 13), .int x, .int 0, .int (nI 8)] σ (fun r u => r = scX x ∧ u = σ) := by
  refine mw_ofJ (by decide +kernel) gX_ok (Nat.le_of_ble_eq_true rfl) ?_
  intro p_ e_ s_ m_ below meth c_ C hr hlk Z hP ls hl
  have C : CallFix p_ m_ c_ cJ1_indexOf_4cfef 4 s_ _ lw_good RJ1 := C
  have hl : lv_has ls 4 [(0, .ref (mw_v E 13)), (1, .int x), (2, .int 0), (3, .int (nI 8))] := hl
  have hS : va_S (mw_A 75 E) s_.heap s_.heap [] := va_S.rf
  refine lv_iload_n C.1 C.2.1 dJ1_indexOf_4cfef_0 rfl (lv_at hl 1 rfl) ?_
  refine mw_cSi (As := [.int x]) (rest := []) C Z hP hS (cX_canEnc l E σ x kx hkx ex) sb_J1_canEncode_9a6ad tw_2_149 ⟨rfl, rfl⟩ ⟨Nat.le_of_ble_eq_true rfl, Nat.le_of_ble_eq_true rfl⟩ rfl hl.1 rfl (Nat.le_of_ble_eq_true rfl) dJ1_indexOf_4cfef_1 ⟨Nat.zero_le _, Nat.zero_le _⟩ (fun r1 u2 H locs q3 hP hS => ?_)
  obtain ⟨rfl, q3u⟩ := q3
  rw [q3u] at hP; clear q3u
  refine lv_if_ne (tgt := 9) C.1 C.2.1 dJ1_indexOf_4cfef_4 (by decide) (fun c4 => ?_) (fun c4 => ?_)
  · refine lv_iload_n C.1 C.2.1 dJ1_indexOf_4cfef_9 rfl (lv_at hl 2 rfl) ?_
    refine lv_iconst (v := 0) C.1 C.2.1 dJ1_indexOf_4cfef_10 (by decide) ?_
    refine mw_cSi (As := [.int 0, .int 0]) (rest := []) C Z hP hS (cX_max l E σ 0 0) sb_J9_max_7cf53 tw_2_152 ⟨rfl, rfl⟩ ⟨Nat.le_of_ble_eq_true rfl, Nat.le_of_ble_eq_true rfl⟩ rfl hl.1 rfl (Nat.le_of_ble_eq_true rfl) dJ1_indexOf_4cfef_11 ⟨Nat.zero_le _, Nat.zero_le _⟩ (fun r5 u6 H locs q7 hP hS => ?_)
    obtain ⟨rfl, q7u⟩ := q7
    rw [q7u] at hP; clear q7u
    refine mw_top (y := 0) (rfl) ?_
    refine lv_istore_n (lv' := [(2, .int 0), (0, .ref (mw_v E 13)), (1, .int x), (3, .int (nI 8))]) C.1 C.2.1 dJ1_indexOf_4cfef_14 rfl hl (by decide) rfl (fun ls hl => ?_)
    refine lv_iload_n C.1 C.2.1 dJ1_indexOf_4cfef_15 rfl (lv_at hl 3 rfl) ?_
    refine lv_aload_n C.1 C.2.1 dJ1_indexOf_4cfef_16 rfl (lv_at hl 1 rfl) ?_
    refine xw_blen C Z hS 13 (by omega) dJ1_indexOf_4cfef_17 ?_
    refine mw_top (y := nI 8) (rfl) ?_
    refine mw_cSi (As := [.int (nI 8), .int (nI 8)]) (rest := []) C Z hP hS (cX_min l E σ (nI 8) (nI 8)) sb_J9_min_7cf53 tw_2_155 ⟨rfl, rfl⟩ ⟨Nat.le_of_ble_eq_true rfl, Nat.le_of_ble_eq_true rfl⟩ rfl hl.1 rfl (Nat.le_of_ble_eq_true rfl) dJ1_indexOf_4cfef_18 ⟨Nat.zero_le _, Nat.zero_le _⟩ (fun r8 u9 H locs q10 hP hS => ?_)
    obtain ⟨rfl, q10u⟩ := q10
    rw [q10u] at hP; clear q10u
    refine mw_top (y := nI 8) (rfl) ?_
    refine lv_istore_n (lv' := [(3, .int (nI 8)), (2, .int 0), (0, .ref (mw_v E 13)), (1, .int x)]) C.1 C.2.1 dJ1_indexOf_4cfef_21 rfl hl (by decide) rfl (fun ls hl => ?_)
    refine lv_iload_n C.1 C.2.1 dJ1_indexOf_4cfef_22 rfl (lv_at hl 1 rfl) ?_
    refine lv_iload_n C.1 C.2.1 dJ1_indexOf_4cfef_23 rfl (lv_at hl 0 rfl) ?_
    refine lv_icmp_lt (tgt := 29) C.1 C.2.1 dJ1_indexOf_4cfef_24 (by decide) (fun c11 => ?_) (fun c11 => ?_)
    · refine lv_aload_n C.1 C.2.1 dJ1_indexOf_4cfef_29 rfl (lv_at hl 2 rfl) ?_
      refine lv_iload_n C.1 C.2.1 dJ1_indexOf_4cfef_30 rfl (lv_at hl 3 rfl) ?_
      refine lv_iload_n C.1 C.2.1 dJ1_indexOf_4cfef_31 rfl (lv_at hl 1 rfl) ?_
      refine lv_iload_n C.1 C.2.1 dJ1_indexOf_4cfef_32 rfl (lv_at hl 0 rfl) ?_
      refine mw_cSi (As := [.ref (mw_v E 13), .int x, .int 0, .int (nI 8)]) (rest := []) C Z hP hS (cX_idxC l E σ x kx hkx ex) sb_J1_indexOfChar_4cfef tw_2_158 ⟨rfl, rfl⟩ ⟨Nat.le_of_ble_eq_true rfl, Nat.le_of_ble_eq_true rfl⟩ rfl hl.1 rfl (Nat.le_of_ble_eq_true rfl) dJ1_indexOf_4cfef_33 ⟨Nat.zero_le _, Nat.zero_le _⟩ (fun r12 u13 H locs q14 hP hS => ?_)
      obtain ⟨rfl, q14u⟩ := q14
      rw [q14u] at hP; clear q14u
      exact mw_iret C hr hlk Z hP hS dJ1_indexOf_4cfef_36 (⟨rfl, rfl⟩)
    · exact absurd (by decide) c11
  · exact absurd c4 (by decide)

set_option maxHeartbeats 4000000 in
set_option maxRecDepth 100000 in
theorem cX_idx2 (l : Launch) (E : mw_E) (σ : mw_M) (x : Int32) (kx : Nat) (hkx : kx ≤ 255) (ex : x = nI kx) : mw_Ci shX 75 gX l yJ0_indexOf_7cf53 cJ0_indexOf_7cf53 3 (some .int) (rmF 6 180) E [.ref (mw_k E 13), .int x, .int 0] σ (fun r u => r = scX x ∧ u = σ) := by
  refine mw_ofJ (by decide +kernel) gX_ok (Nat.le_of_ble_eq_true rfl) ?_
  intro p_ e_ s_ m_ below meth c_ C hr hlk Z hP ls hl
  have C : CallFix p_ m_ c_ cJ0_indexOf_7cf53 3 s_ _ lw_good RJ0 := C
  have hl : lv_has ls 3 [(0, .ref (mw_k E 13)), (1, .int x), (2, .int 0)] := hl
  have hS : va_S (mw_A 75 E) s_.heap s_.heap [] := va_S.rf
  refine lv_aload_n C.1 C.2.1 dJ0_indexOf_7cf53_0 rfl (lv_at hl 0 rfl) ?_
  refine xw_cTi (As := []) (rest := []) C Z hP hS 13 (by omega) (cX_isLatin1 l E σ 13 (by omega)) vb_J0_isLatin1_aae02 tw_2_36 ⟨rfl, rfl⟩ ⟨Nat.le_of_ble_eq_true rfl, Nat.le_of_ble_eq_true rfl⟩ rfl hl.1 rfl (Nat.le_of_ble_eq_true rfl) dJ0_indexOf_7cf53_1 ⟨Nat.zero_le _, Nat.zero_le _⟩ (fun r1 u2 H locs q3 hP hS => ?_)
  obtain ⟨rfl, q3u⟩ := q3
  rw [q3u] at hP; clear q3u
  refine lv_if_eq (tgt := 23) C.1 C.2.1 dJ0_indexOf_7cf53_4 (by decide) (fun c4 => ?_) (fun c4 => ?_)
  · exact absurd c4 (by decide)
  · refine lv_aload_n C.1 C.2.1 dJ0_indexOf_7cf53_7 rfl (lv_at hl 0 rfl) ?_
    refine xw_val C Z hS 13 (by omega) tw_6_198 dJ0_indexOf_7cf53_8 ?_
    refine lv_iload_n C.1 C.2.1 dJ0_indexOf_7cf53_11 rfl (lv_at hl 1 rfl) ?_
    refine lv_iload_n C.1 C.2.1 dJ0_indexOf_7cf53_12 rfl (lv_at hl 2 rfl) ?_
    refine lv_aload_n C.1 C.2.1 dJ0_indexOf_7cf53_13 rfl (lv_at hl 0 rfl) ?_
    refine xw_cTi (As := []) (rest := [.int 0, .int x, .ref (mw_v E 13)]) C Z hP hS 13 (by omega) (cX_length l E σ 13 (by omega)) vb_J0_length_8abf5 tw_2_145 ⟨rfl, rfl⟩ ⟨Nat.le_of_ble_eq_true rfl, Nat.le_of_ble_eq_true rfl⟩ rfl hl.1 rfl (Nat.le_of_ble_eq_true rfl) dJ0_indexOf_7cf53_14 ⟨Nat.zero_le _, Nat.zero_le _⟩ (fun r5 u6 H locs q7 hP hS => ?_)
    obtain ⟨rfl, q7u⟩ := q7
    rw [q7u] at hP; clear q7u
    refine mw_top (y := nI 8) (rfl) ?_
    refine mw_cSi (As := [.ref (mw_v E 13), .int x, .int 0, .int (nI 8)]) (rest := []) C Z hP hS (cX_idxL l E σ x kx hkx ex) sb_J1_indexOf_4cfef tw_2_146 ⟨rfl, rfl⟩ ⟨Nat.le_of_ble_eq_true rfl, Nat.le_of_ble_eq_true rfl⟩ rfl hl.1 rfl (Nat.le_of_ble_eq_true rfl) dJ0_indexOf_7cf53_17 ⟨Nat.zero_le _, Nat.zero_le _⟩ (fun r8 u9 H locs q10 hP hS => ?_)
    obtain ⟨rfl, q10u⟩ := q10
    rw [q10u] at hP; clear q10u
    refine lv_goto (tgt := 36) C.1 C.2.1 dJ0_indexOf_7cf53_20 (by decide) ?_
    exact mw_iret C hr hlk Z hP hS dJ0_indexOf_7cf53_36 (⟨rfl, rfl⟩)

set_option maxHeartbeats 4000000 in
set_option maxRecDepth 100000 in
theorem cX_idx1 (l : Launch) (E : mw_E) (σ : mw_M) (x : Int32) (kx : Nat) (hkx : kx ≤ 255) (ex : x = nI kx) : mw_Ci shX 75 gX l yJ0_indexOf_0f7a4 cJ0_indexOf_0f7a4 2 (some .int) (rmF 7 202) E [.ref (mw_k E 13), .int x] σ (fun r u => r = scX x ∧ u = σ) := by
  refine mw_ofJ (by decide +kernel) gX_ok (Nat.le_of_ble_eq_true rfl) ?_
  intro p_ e_ s_ m_ below meth c_ C hr hlk Z hP ls hl
  have C : CallFix p_ m_ c_ cJ0_indexOf_0f7a4 2 s_ _ lw_good RJ0 := C
  have hl : lv_has ls 2 [(0, .ref (mw_k E 13)), (1, .int x)] := hl
  have hS : va_S (mw_A 75 E) s_.heap s_.heap [] := va_S.rf
  refine lv_aload_n C.1 C.2.1 dJ0_indexOf_0f7a4_0 rfl (lv_at hl 0 rfl) ?_
  refine lv_iload_n C.1 C.2.1 dJ0_indexOf_0f7a4_1 rfl (lv_at hl 1 rfl) ?_
  refine lv_iconst (v := 0) C.1 C.2.1 dJ0_indexOf_0f7a4_2 (by decide) ?_
  refine xw_cTi (As := [.int x, .int 0]) (rest := []) C Z hP hS 13 (by omega) (cX_idx2 l E σ x kx hkx ex) vb_J0_indexOf_7cf53 tw_2_141 ⟨rfl, rfl⟩ ⟨Nat.le_of_ble_eq_true rfl, Nat.le_of_ble_eq_true rfl⟩ rfl hl.1 rfl (Nat.le_of_ble_eq_true rfl) dJ0_indexOf_0f7a4_3 ⟨Nat.zero_le _, Nat.zero_le _⟩ (fun r1 u2 H locs q3 hP hS => ?_)
  obtain ⟨rfl, q3u⟩ := q3
  rw [q3u] at hP; clear q3u
  exact mw_iret C hr hlk Z hP hS dJ0_indexOf_0f7a4_6 (⟨rfl, rfl⟩)
