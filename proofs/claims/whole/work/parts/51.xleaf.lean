/-! THE CLASS'S SMALL METHODS -/
theorem mw_nf {σ : mw_M} {k g j f : Nat} {v : Int32} (h : f ≠ g) : (mw_si σ k g v).1 j f = σ.1 j f := by
  show va_up σ.1 k (va_up (σ.1 k) g v) j f = _
  by_cases e : j = k
  · subst e
    rw [va_up_self, va_up_ne _ _ h]
  · rw [va_up_ne _ _ e]
theorem mw_np {σ : mw_M} {k g j f : Nat} {v : Int32} (h : j ≠ k) : (mw_si σ k g v).1 j f = σ.1 j f := by
  show va_up σ.1 k (va_up (σ.1 k) g v) j f = _
  rw [va_up_ne _ _ h]
theorem mw_npF {σ : mw_M} {k g j : Nat} {v : Int32} (h : j ≠ k) : (mw_si σ k g v).1 j = σ.1 j := by
  show va_up σ.1 k (va_up (σ.1 k) g v) j = _
  rw [va_up_ne _ _ h]
theorem mw_sf {σ : mw_M} {k f : Nat} {v : Int32} : (mw_si σ k f v).1 k f = v := by
  show va_up σ.1 k (va_up (σ.1 k) f v) k f = _
  rw [va_up_self, va_up_self]
theorem mw_san {σ : mw_M} {k i j : Nat} {v : Int32} (h : j ≠ i) : (mw_sa σ k i v).2.1 k j = σ.2.1 k j := by
  show va_up σ.2.1 k (upd (σ.2.1 k) i v) k j = _
  rw [va_up_self]
  exact pk_un h
theorem mw_sap {σ : mw_M} {k i q : Nat} {v : Int32} (h : q ≠ k) : (mw_sa σ k i v).2.1 q = σ.2.1 q := by
  show va_up σ.2.1 k (upd (σ.2.1 k) i v) q = _
  rw [va_up_ne _ _ h]
def mxF (x y : Int32) : Int32 := if x < y then y else x
def mnF (x y : Int32) : Int32 := if y < x then y else x
theorem xLen_le : ∀ i, i < 15 → xLen.getD i 0 < 64 := by decide
theorem zero32 : (0 : Int32).toInt = 0 := rfl

set_option maxHeartbeats 4000000 in
set_option maxRecDepth 100000 in
theorem cX_max (l : Launch) (E : mw_E) (σ : mw_M) (x y : Int32) : mw_Ci shX 75 gX l yJ9_max_7cf53 cJ9_max_7cf53 2 (some .int) (rmF 1 64) E [.int x, .int y] σ (fun r u => r = mxF x y ∧ u = σ) := by
  refine mw_ofJ (by decide +kernel) gX_ok (Nat.le_of_ble_eq_true rfl) ?_
  intro p_ e_ s_ m_ below meth c_ C hr hlk Z hP ls hl
  have C : CallFix p_ m_ c_ cJ9_max_7cf53 2 s_ _ lw_good RJ9 := C
  have hl : lv_has ls 2 [(0, .int x), (1, .int y)] := hl
  have hS : va_S (mw_A 75 E) s_.heap s_.heap [] := va_S.rf
  refine lv_iload_n C.1 C.2.1 dJ9_max_7cf53_0 rfl (lv_at hl 0 rfl) ?_
  refine lv_iload_n C.1 C.2.1 dJ9_max_7cf53_1 rfl (lv_at hl 1 rfl) ?_
  refine lv_icmp_lt (tgt := 9) C.1 C.2.1 dJ9_max_7cf53_2 (by decide) (fun c1 => ?_) (fun c1 => ?_)
  · refine lv_iload_n C.1 C.2.1 dJ9_max_7cf53_9 rfl (lv_at hl 1 rfl) ?_
    exact mw_iret C hr hlk Z hP hS dJ9_max_7cf53_10 (⟨by unfold mxF; simp only [ni_lt, ni_le] at c1 ⊢; split <;> first | rfl | (exact (ni_eq _ _).mpr (by omega)) | (exfalso; omega), rfl⟩)
  · refine lv_iload_n C.1 C.2.1 dJ9_max_7cf53_5 rfl (lv_at hl 0 rfl) ?_
    refine lv_goto (tgt := 10) C.1 C.2.1 dJ9_max_7cf53_6 (by decide) ?_
    exact mw_iret C hr hlk Z hP hS dJ9_max_7cf53_10 (⟨by unfold mxF; simp only [ni_lt, ni_le] at c1 ⊢; split <;> first | rfl | (exact (ni_eq _ _).mpr (by omega)) | (exfalso; omega), rfl⟩)

set_option maxHeartbeats 4000000 in
set_option maxRecDepth 100000 in
theorem cX_min (l : Launch) (E : mw_E) (σ : mw_M) (x y : Int32) : mw_Ci shX 75 gX l yJ9_min_7cf53 cJ9_min_7cf53 2 (some .int) (rmF 1 64) E [.int x, .int y] σ (fun r u => r = mnF x y ∧ u = σ) := by
  refine mw_ofJ (by decide +kernel) gX_ok (Nat.le_of_ble_eq_true rfl) ?_
  intro p_ e_ s_ m_ below meth c_ C hr hlk Z hP ls hl
  have C : CallFix p_ m_ c_ cJ9_min_7cf53 2 s_ _ lw_good RJ9 := C
  have hl : lv_has ls 2 [(0, .int x), (1, .int y)] := hl
  have hS : va_S (mw_A 75 E) s_.heap s_.heap [] := va_S.rf
  refine lv_iload_n C.1 C.2.1 dJ9_min_7cf53_0 rfl (lv_at hl 0 rfl) ?_
  refine lv_iload_n C.1 C.2.1 dJ9_min_7cf53_1 rfl (lv_at hl 1 rfl) ?_
  refine lv_icmp_gt (tgt := 9) C.1 C.2.1 dJ9_min_7cf53_2 (by decide) (fun c1 => ?_) (fun c1 => ?_)
  · refine lv_iload_n C.1 C.2.1 dJ9_min_7cf53_9 rfl (lv_at hl 1 rfl) ?_
    exact mw_iret C hr hlk Z hP hS dJ9_min_7cf53_10 (⟨by unfold mnF; simp only [ni_lt, ni_le] at c1 ⊢; split <;> first | rfl | (exact (ni_eq _ _).mpr (by omega)) | (exfalso; omega), rfl⟩)
  · refine lv_iload_n C.1 C.2.1 dJ9_min_7cf53_5 rfl (lv_at hl 0 rfl) ?_
    refine lv_goto (tgt := 10) C.1 C.2.1 dJ9_min_7cf53_6 (by decide) ?_
    exact mw_iret C hr hlk Z hP hS dJ9_min_7cf53_10 (⟨by unfold mnF; simp only [ni_lt, ni_le] at c1 ⊢; split <;> first | rfl | (exact (ni_eq _ _).mpr (by omega)) | (exfalso; omega), rfl⟩)

theorem wI_mm (v b : Int32) (hb : 0 ≤ b.toInt) : mxF 0 (mnF v b) = wI v 0 b := by
  unfold mxF mnF wI
  have z := zero32
  by_cases h1 : b < v
  · rw [if_pos h1, if_neg (c := v < 0) (by rw [ni_lt] at h1 ⊢; omega)]
    by_cases h2 : (0 : Int32) < b
    · rw [if_pos h2]
    · rw [if_neg h2]
      rw [ni_lt] at h2
      exact (ni_eq _ _).mpr (by omega)
  · rw [if_neg h1]
    by_cases h2 : (0 : Int32) < v
    · rw [if_pos h2, if_neg (by rw [ni_lt] at h2 ⊢; omega)]
    · rw [if_neg h2]
      rw [ni_lt] at h2
      by_cases h3 : v < 0
      · rw [if_pos h3]
      · rw [if_neg h3]
        rw [ni_lt] at h3
        exact (ni_eq _ _).mpr (by omega)

set_option maxHeartbeats 4000000 in
set_option maxRecDepth 100000 in
theorem cX_bounded (l : Launch) (E : mw_E) (σ : mw_M) (v b : Int32) (hb : 0 ≤ b.toInt) : mw_Ci shX 75 gX l yX11_bounded cX11_bounded 2 (some .int) (rmF 2 85) E [.int v, .int b] σ (fun r u => r = wI v 0 b ∧ u = σ) := by
  refine mw_of (by decide) gX_ok (Nat.le_of_ble_eq_true rfl) ?_
  intro p_ e_ s_ m_ below meth c_ C hr hlk Z hP ls hl
  have C : CallFix p_ m_ c_ cX11_bounded 2 s_ _ lw_good RX11 := C
  have hl : lv_has ls 2 [(0, .int v), (1, .int b)] := hl
  have hS : va_S (mw_A 75 E) s_.heap s_.heap [] := va_S.rf
  refine lv_iconst (v := 0) C.1 C.2.1 dX11_bounded_0 (by decide) ?_
  refine lv_iload_n C.1 C.2.1 dX11_bounded_1 rfl (lv_at hl 0 rfl) ?_
  refine lv_iload_n C.1 C.2.1 dX11_bounded_2 rfl (lv_at hl 1 rfl) ?_
  refine mw_cSi (As := [.int v, .int b]) (rest := [.int 0]) C Z hP hS (cX_min l E σ v b) sb_J9_min_7cf53 tw_3_109 ⟨rfl, rfl⟩ ⟨Nat.le_of_ble_eq_true rfl, Nat.le_of_ble_eq_true rfl⟩ rfl hl.1 rfl (Nat.le_of_ble_eq_true rfl) dX11_bounded_3 ⟨Nat.zero_le _, Nat.zero_le _⟩ (fun r1 u2 H locs q3 hP hS => ?_)
  obtain ⟨rfl, q3u⟩ := q3
  rw [q3u] at hP; clear q3u
  refine mw_cSi (As := [.int 0, .int (mnF v b)]) (rest := []) C Z hP hS (cX_max l E σ 0 (mnF v b)) sb_J9_max_7cf53 tw_3_110 ⟨rfl, rfl⟩ ⟨Nat.le_of_ble_eq_true rfl, Nat.le_of_ble_eq_true rfl⟩ rfl hl.1 rfl (Nat.le_of_ble_eq_true rfl) dX11_bounded_6 ⟨Nat.zero_le _, Nat.zero_le _⟩ (fun r4 u5 H locs q6 hP hS => ?_)
  obtain ⟨rfl, q6u⟩ := q6
  rw [q6u] at hP; clear q6u
  exact mw_iret C hr hlk Z hP hS dX11_bounded_9 (⟨wI_mm v b hb, rfl⟩)

set_option maxHeartbeats 4000000 in
set_option maxRecDepth 100000 in
theorem cX_isWithin (l : Launch) (E : mw_E) (σ : mw_M) (v a b : Int32) : mw_Ci shX 75 gX l yX11_isWithin cX11_isWithin 3 (some .boolean) (rmF 1 64) E [.int v, .int a, .int b] σ (fun r u => r = bI (a.toInt ≤ v.toInt ∧ v.toInt ≤ b.toInt) ∧ u = σ) := by
  refine mw_of (by decide) gX_ok (Nat.le_of_ble_eq_true rfl) ?_
  intro p_ e_ s_ m_ below meth c_ C hr hlk Z hP ls hl
  have C : CallFix p_ m_ c_ cX11_isWithin 3 s_ _ lw_good RX11 := C
  have hl : lv_has ls 3 [(0, .int v), (1, .int a), (2, .int b)] := hl
  have hS : va_S (mw_A 75 E) s_.heap s_.heap [] := va_S.rf
  refine lv_iload_n C.1 C.2.1 dX11_isWithin_0 rfl (lv_at hl 0 rfl) ?_
  refine lv_iload_n C.1 C.2.1 dX11_isWithin_1 rfl (lv_at hl 1 rfl) ?_
  refine lv_icmp_lt (tgt := 14) C.1 C.2.1 dX11_isWithin_2 (by decide) (fun c1 => ?_) (fun c1 => ?_)
  · refine lv_iconst (v := 0) C.1 C.2.1 dX11_isWithin_14 (by decide) ?_
    exact mw_zret C hr hlk Z hP hS rfl dX11_isWithin_15 (⟨(bI_f (by simp only [ni_lt, ni_le, ni_eq] at c1; have q0 : (0 : Int32).toInt = 0 := rfl; have q1 : (1 : Int32).toInt = 1 := rfl; have q10 : (10 : Int32).toInt = 10 := rfl; have q4 : (4 : Int32).toInt = 4 := rfl; have q8 : (8 : Int32).toInt = 8 := rfl; omega)).symm, rfl⟩)
  · refine lv_iload_n C.1 C.2.1 dX11_isWithin_5 rfl (lv_at hl 0 rfl) ?_
    refine lv_iload_n C.1 C.2.1 dX11_isWithin_6 rfl (lv_at hl 2 rfl) ?_
    refine lv_icmp_gt (tgt := 14) C.1 C.2.1 dX11_isWithin_7 (by decide) (fun c2 => ?_) (fun c2 => ?_)
    · refine lv_iconst (v := 0) C.1 C.2.1 dX11_isWithin_14 (by decide) ?_
      exact mw_zret C hr hlk Z hP hS rfl dX11_isWithin_15 (⟨(bI_f (by simp only [ni_lt, ni_le, ni_eq] at c1 c2; have q0 : (0 : Int32).toInt = 0 := rfl; have q1 : (1 : Int32).toInt = 1 := rfl; have q10 : (10 : Int32).toInt = 10 := rfl; have q4 : (4 : Int32).toInt = 4 := rfl; have q8 : (8 : Int32).toInt = 8 := rfl; omega)).symm, rfl⟩)
    · refine lv_iconst (v := 1) C.1 C.2.1 dX11_isWithin_10 (by decide) ?_
      refine lv_goto (tgt := 15) C.1 C.2.1 dX11_isWithin_11 (by decide) ?_
      exact mw_zret C hr hlk Z hP hS rfl dX11_isWithin_15 (⟨(bI_t (by simp only [ni_lt, ni_le, ni_eq] at c1 c2; have q0 : (0 : Int32).toInt = 0 := rfl; have q1 : (1 : Int32).toInt = 1 := rfl; have q10 : (10 : Int32).toInt = 10 := rfl; have q4 : (4 : Int32).toInt = 4 := rfl; have q8 : (8 : Int32).toInt = 8 := rfl; omega)).symm, rfl⟩)

set_option maxHeartbeats 4000000 in
set_option maxRecDepth 100000 in
theorem cX_is01 (l : Launch) (E : mw_E) (σ : mw_M) (v : Int32) : mw_Ci shX 75 gX l yX11_isZeroOrOne cX11_isZeroOrOne 1 (some .boolean) (rmF 1 64) E [.int v] σ (fun r u => r = bI (0 ≤ v.toInt ∧ v.toInt ≤ 1) ∧ u = σ) := by
  refine mw_of (by decide) gX_ok (Nat.le_of_ble_eq_true rfl) ?_
  intro p_ e_ s_ m_ below meth c_ C hr hlk Z hP ls hl
  have C : CallFix p_ m_ c_ cX11_isZeroOrOne 1 s_ _ lw_good RX11 := C
  have hl : lv_has ls 1 [(0, .int v)] := hl
  have hS : va_S (mw_A 75 E) s_.heap s_.heap [] := va_S.rf
  refine lv_iload_n C.1 C.2.1 dX11_isZeroOrOne_0 rfl (lv_at hl 0 rfl) ?_
  refine lv_if_eq (tgt := 9) C.1 C.2.1 dX11_isZeroOrOne_1 (by decide) (fun c1 => ?_) (fun c1 => ?_)
  · refine lv_iconst (v := 1) C.1 C.2.1 dX11_isZeroOrOne_9 (by decide) ?_
    refine lv_goto (tgt := 14) C.1 C.2.1 dX11_isZeroOrOne_10 (by decide) ?_
    exact mw_zret C hr hlk Z hP hS rfl dX11_isZeroOrOne_14 (⟨(bI_t (by simp only [ni_lt, ni_le, ni_eq] at c1; have q0 : (0 : Int32).toInt = 0 := rfl; have q1 : (1 : Int32).toInt = 1 := rfl; have q10 : (10 : Int32).toInt = 10 := rfl; have q4 : (4 : Int32).toInt = 4 := rfl; have q8 : (8 : Int32).toInt = 8 := rfl; omega)).symm, rfl⟩)
  · refine lv_iload_n C.1 C.2.1 dX11_isZeroOrOne_4 rfl (lv_at hl 0 rfl) ?_
    refine lv_iconst (v := 1) C.1 C.2.1 dX11_isZeroOrOne_5 (by decide) ?_
    refine lv_icmp_ne (tgt := 13) C.1 C.2.1 dX11_isZeroOrOne_6 (by decide) (fun c2 => ?_) (fun c2 => ?_)
    · refine lv_iconst (v := 0) C.1 C.2.1 dX11_isZeroOrOne_13 (by decide) ?_
      exact mw_zret C hr hlk Z hP hS rfl dX11_isZeroOrOne_14 (⟨(bI_f (by simp only [ni_lt, ni_le, ni_eq] at c1 c2; have q0 : (0 : Int32).toInt = 0 := rfl; have q1 : (1 : Int32).toInt = 1 := rfl; have q10 : (10 : Int32).toInt = 10 := rfl; have q4 : (4 : Int32).toInt = 4 := rfl; have q8 : (8 : Int32).toInt = 8 := rfl; omega)).symm, rfl⟩)
    · refine lv_iconst (v := 1) C.1 C.2.1 dX11_isZeroOrOne_9 (by decide) ?_
      refine lv_goto (tgt := 14) C.1 C.2.1 dX11_isZeroOrOne_10 (by decide) ?_
      exact mw_zret C hr hlk Z hP hS rfl dX11_isZeroOrOne_14 (⟨(bI_t (by simp only [ni_lt, ni_le, ni_eq] at c1 c2; have q0 : (0 : Int32).toInt = 0 := rfl; have q1 : (1 : Int32).toInt = 1 := rfl; have q10 : (10 : Int32).toInt = 10 := rfl; have q4 : (4 : Int32).toInt = 4 := rfl; have q8 : (8 : Int32).toInt = 8 := rfl; omega)).symm, rfl⟩)

set_option maxHeartbeats 4000000 in
set_option maxRecDepth 100000 in
theorem cX_isHour (l : Launch) (E : mw_E) (σ : mw_M) (v : Int32) : mw_Ci shX 75 gX l yX11_isHour cX11_isHour 1 (some .boolean) (rmF 1 64) E [.int v] σ (fun r u => r = bI (0 ≤ v.toInt ∧ v.toInt ≤ 9) ∧ u = σ) := by
  refine mw_of (by decide) gX_ok (Nat.le_of_ble_eq_true rfl) ?_
  intro p_ e_ s_ m_ below meth c_ C hr hlk Z hP ls hl
  have C : CallFix p_ m_ c_ cX11_isHour 1 s_ _ lw_good RX11 := C
  have hl : lv_has ls 1 [(0, .int v)] := hl
  have hS : va_S (mw_A 75 E) s_.heap s_.heap [] := va_S.rf
  refine lv_iload_n C.1 C.2.1 dX11_isHour_0 rfl (lv_at hl 0 rfl) ?_
  refine lv_if_lt (tgt := 14) C.1 C.2.1 dX11_isHour_1 (by decide) (fun c1 => ?_) (fun c1 => ?_)
  · refine lv_iconst (v := 0) C.1 C.2.1 dX11_isHour_14 (by decide) ?_
    exact mw_zret C hr hlk Z hP hS rfl dX11_isHour_15 (⟨(bI_f (by simp only [ni_lt, ni_le, ni_eq] at c1; have q0 : (0 : Int32).toInt = 0 := rfl; have q1 : (1 : Int32).toInt = 1 := rfl; have q10 : (10 : Int32).toInt = 10 := rfl; have q4 : (4 : Int32).toInt = 4 := rfl; have q8 : (8 : Int32).toInt = 8 := rfl; omega)).symm, rfl⟩)
  · refine lv_iload_n C.1 C.2.1 dX11_isHour_4 rfl (lv_at hl 0 rfl) ?_
    refine lv_bipush (v := 10) C.1 C.2.1 dX11_isHour_5 (by decide) ?_
    refine lv_icmp_ge (tgt := 14) C.1 C.2.1 dX11_isHour_7 (by decide) (fun c2 => ?_) (fun c2 => ?_)
    · refine lv_iconst (v := 0) C.1 C.2.1 dX11_isHour_14 (by decide) ?_
      exact mw_zret C hr hlk Z hP hS rfl dX11_isHour_15 (⟨(bI_f (by simp only [ni_lt, ni_le, ni_eq] at c1 c2; have q0 : (0 : Int32).toInt = 0 := rfl; have q1 : (1 : Int32).toInt = 1 := rfl; have q10 : (10 : Int32).toInt = 10 := rfl; have q4 : (4 : Int32).toInt = 4 := rfl; have q8 : (8 : Int32).toInt = 8 := rfl; omega)).symm, rfl⟩)
    · refine lv_iconst (v := 1) C.1 C.2.1 dX11_isHour_10 (by decide) ?_
      refine lv_goto (tgt := 15) C.1 C.2.1 dX11_isHour_11 (by decide) ?_
      exact mw_zret C hr hlk Z hP hS rfl dX11_isHour_15 (⟨(bI_t (by simp only [ni_lt, ni_le, ni_eq] at c1 c2; have q0 : (0 : Int32).toInt = 0 := rfl; have q1 : (1 : Int32).toInt = 1 := rfl; have q10 : (10 : Int32).toInt = 10 := rfl; have q4 : (4 : Int32).toInt = 4 := rfl; have q8 : (8 : Int32).toInt = 8 := rfl; omega)).symm, rfl⟩)

set_option maxHeartbeats 4000000 in
set_option maxRecDepth 100000 in
theorem cX_isSheet (l : Launch) (E : mw_E) (σ : mw_M) (v : Int32) : mw_Ci shX 75 gX l yX11_isSheet cX11_isSheet 1 (some .boolean) (rmF 1 64) E [.int v] σ (fun r u => r = bI (0 ≤ v.toInt ∧ v.toInt ≤ 3) ∧ u = σ) := by
  refine mw_of (by decide) gX_ok (Nat.le_of_ble_eq_true rfl) ?_
  intro p_ e_ s_ m_ below meth c_ C hr hlk Z hP ls hl
  have C : CallFix p_ m_ c_ cX11_isSheet 1 s_ _ lw_good RX11 := C
  have hl : lv_has ls 1 [(0, .int v)] := hl
  have hS : va_S (mw_A 75 E) s_.heap s_.heap [] := va_S.rf
  refine lv_iload_n C.1 C.2.1 dX11_isSheet_0 rfl (lv_at hl 0 rfl) ?_
  refine lv_if_lt (tgt := 13) C.1 C.2.1 dX11_isSheet_1 (by decide) (fun c1 => ?_) (fun c1 => ?_)
  · refine lv_iconst (v := 0) C.1 C.2.1 dX11_isSheet_13 (by decide) ?_
    exact mw_zret C hr hlk Z hP hS rfl dX11_isSheet_14 (⟨(bI_f (by simp only [ni_lt, ni_le, ni_eq] at c1; have q0 : (0 : Int32).toInt = 0 := rfl; have q1 : (1 : Int32).toInt = 1 := rfl; have q10 : (10 : Int32).toInt = 10 := rfl; have q4 : (4 : Int32).toInt = 4 := rfl; have q8 : (8 : Int32).toInt = 8 := rfl; omega)).symm, rfl⟩)
  · refine lv_iload_n C.1 C.2.1 dX11_isSheet_4 rfl (lv_at hl 0 rfl) ?_
    refine lv_iconst (v := 4) C.1 C.2.1 dX11_isSheet_5 (by decide) ?_
    refine lv_icmp_ge (tgt := 13) C.1 C.2.1 dX11_isSheet_6 (by decide) (fun c2 => ?_) (fun c2 => ?_)
    · refine lv_iconst (v := 0) C.1 C.2.1 dX11_isSheet_13 (by decide) ?_
      exact mw_zret C hr hlk Z hP hS rfl dX11_isSheet_14 (⟨(bI_f (by simp only [ni_lt, ni_le, ni_eq] at c1 c2; have q0 : (0 : Int32).toInt = 0 := rfl; have q1 : (1 : Int32).toInt = 1 := rfl; have q10 : (10 : Int32).toInt = 10 := rfl; have q4 : (4 : Int32).toInt = 4 := rfl; have q8 : (8 : Int32).toInt = 8 := rfl; omega)).symm, rfl⟩)
    · refine lv_iconst (v := 1) C.1 C.2.1 dX11_isSheet_9 (by decide) ?_
      refine lv_goto (tgt := 14) C.1 C.2.1 dX11_isSheet_10 (by decide) ?_
      exact mw_zret C hr hlk Z hP hS rfl dX11_isSheet_14 (⟨(bI_t (by simp only [ni_lt, ni_le, ni_eq] at c1 c2; have q0 : (0 : Int32).toInt = 0 := rfl; have q1 : (1 : Int32).toInt = 1 := rfl; have q10 : (10 : Int32).toInt = 10 := rfl; have q4 : (4 : Int32).toInt = 4 := rfl; have q8 : (8 : Int32).toInt = 8 := rfl; omega)).symm, rfl⟩)

theorem cX_isWithin2 (l : Launch) (E : mw_E) (σ : mw_M) (v a b : Int32) (P : Prop) [Decidable P] (h : P ↔ a.toInt ≤ v.toInt ∧ v.toInt ≤ b.toInt) : mw_Ci shX 75 gX l yX11_isWithin cX11_isWithin 3 (some .boolean) (rmF 1 64) E [.int v, .int a, .int b] σ (fun r u => r = bI P ∧ u = σ) := by
  have e := cX_isWithin l E σ v a b
  rw [show bI (a.toInt ≤ v.toInt ∧ v.toInt ≤ b.toInt) = bI P from bI_congr h.symm] at e
  exact e

def comM (σ : mw_M) (cp : Nat) (k m h : Int32) : mw_M := mw_si (mw_si (mw_si (mw_si (mw_si σ cp 0 k) cp 1 m) cp 2 h) cp 3 20) cp 4 0
def becM (σ : mw_M) (cp dp : Nat) : mw_M := mw_si (mw_si (mw_si (mw_si (mw_si σ cp 0 (σ.1 dp 0)) cp 1 (σ.1 dp 1)) cp 2 (σ.1 dp 2)) cp 3 (σ.1 dp 3)) cp 4 (σ.1 dp 4)
theorem comM_at (σ : mw_M) (cp : Nat) (k m h : Int32) : (comM σ cp k m h).1 cp 0 = k ∧ (comM σ cp k m h).1 cp 1 = m ∧ (comM σ cp k m h).1 cp 2 = h ∧ (comM σ cp k m h).1 cp 3 = 20 ∧ (comM σ cp k m h).1 cp 4 = 0 := by
  unfold comM
  exact ⟨(mw_nf (by decide)).trans ((mw_nf (by decide)).trans ((mw_nf (by decide)).trans ((mw_nf (by decide)).trans mw_sf))), (mw_nf (by decide)).trans ((mw_nf (by decide)).trans ((mw_nf (by decide)).trans mw_sf)), (mw_nf (by decide)).trans ((mw_nf (by decide)).trans mw_sf), (mw_nf (by decide)).trans mw_sf, mw_sf⟩
theorem comM_ne (σ : mw_M) {cp q : Nat} (k m h : Int32) (hq : q ≠ cp) : (comM σ cp k m h).1 q = σ.1 q := by
  unfold comM
  rw [mw_npF hq, mw_npF hq, mw_npF hq, mw_npF hq, mw_npF hq]
theorem becM_at (σ : mw_M) (cp dp : Nat) : ∀ f, f < 5 → (becM σ cp dp).1 cp f = σ.1 dp f := by
  intro f hf
  unfold becM
  match f, hf with
  | 0, _ => exact (mw_nf (by decide)).trans ((mw_nf (by decide)).trans ((mw_nf (by decide)).trans ((mw_nf (by decide)).trans mw_sf)))
  | 1, _ => exact (mw_nf (by decide)).trans ((mw_nf (by decide)).trans ((mw_nf (by decide)).trans mw_sf))
  | 2, _ => exact (mw_nf (by decide)).trans ((mw_nf (by decide)).trans mw_sf)
  | 3, _ => exact (mw_nf (by decide)).trans mw_sf
  | 4, _ => exact mw_sf
theorem becM_ne (σ : mw_M) {cp dp q : Nat} (hq : q ≠ cp) : (becM σ cp dp).1 q = σ.1 q := by
  unfold becM
  rw [mw_npF hq, mw_npF hq, mw_npF hq, mw_npF hq, mw_npF hq]

set_option maxHeartbeats 4000000 in
set_option maxRecDepth 100000 in
theorem cX_come (l : Launch) (E : mw_E) (σ : mw_M) (cp : Nat) (hcp : 6 ≤ cp ∧ cp < 30) (k m h : Int32) : mw_Cv shX 75 gX l yX1_come cX1_come 4 none (rmF 1 64) E [.ref (mw_a E (cp)), .int k, .int m, .int h] σ (fun u => u = comM σ cp k m h) := by
  refine mw_of (by decide) gX_ok (Nat.le_of_ble_eq_true rfl) ?_
  intro p_ e_ s_ m_ below meth c_ C hr hlk Z hP ls hl
  have C : CallFix p_ m_ c_ cX1_come 4 s_ _ lw_good RX1 := C
  have hl : lv_has ls 4 [(0, .ref (mw_a E (cp))), (1, .int k), (2, .int m), (3, .int h)] := hl
  have hS : va_S (mw_A 75 E) s_.heap s_.heap [] := va_S.rf
  refine lv_aload_n C.1 C.2.1 dX1_come_0 rfl (lv_at hl 0 rfl) ?_
  refine lv_iload_n C.1 C.2.1 dX1_come_1 rfl (lv_at hl 1 rfl) ?_
  refine mw_puti C Z hP hS (cp) 0 (by omega) (sx_cu (by omega) (by omega)) rfl rfl (by decide) inX1 tyX1 tyX1_ok nmX1 rfl tw_1_44 rfl rfl dX1_come_2 (fun H locs hP hS => ?_)
  refine lv_aload_n C.1 C.2.1 dX1_come_5 rfl (lv_at hl 0 rfl) ?_
  refine lv_iload_n C.1 C.2.1 dX1_come_6 rfl (lv_at hl 2 rfl) ?_
  refine mw_puti C Z hP hS (cp) 1 (by omega) (sx_cu (by omega) (by omega)) rfl rfl (by decide) inX1 tyX1 tyX1_ok nmX1 rfl tw_1_46 rfl rfl dX1_come_7 (fun H locs hP hS => ?_)
  refine lv_aload_n C.1 C.2.1 dX1_come_10 rfl (lv_at hl 0 rfl) ?_
  refine lv_iload_n C.1 C.2.1 dX1_come_11 rfl (lv_at hl 3 rfl) ?_
  refine mw_puti C Z hP hS (cp) 2 (by omega) (sx_cu (by omega) (by omega)) rfl rfl (by decide) inX1 tyX1 tyX1_ok nmX1 rfl tw_1_50 rfl rfl dX1_come_12 (fun H locs hP hS => ?_)
  refine lv_aload_n C.1 C.2.1 dX1_come_15 rfl (lv_at hl 0 rfl) ?_
  refine lv_bipush (v := 20) C.1 C.2.1 dX1_come_16 (by decide) ?_
  refine mw_puti C Z hP hS (cp) 3 (by omega) (sx_cu (by omega) (by omega)) rfl rfl (by decide) inX1 tyX1 tyX1_ok nmX1 rfl tw_1_55 rfl rfl dX1_come_18 (fun H locs hP hS => ?_)
  refine lv_aload_n C.1 C.2.1 dX1_come_21 rfl (lv_at hl 0 rfl) ?_
  refine lv_iconst (v := 0) C.1 C.2.1 dX1_come_22 (by decide) ?_
  refine mw_puti C Z hP hS (cp) 4 (by omega) (sx_cu (by omega) (by omega)) rfl rfl (by decide) inX1 tyX1 tyX1_ok nmX1 rfl tw_1_59 rfl rfl dX1_come_23 (fun H locs hP hS => ?_)
  exact mw_vret C hr hlk Z hP hS dX1_come_26 (rfl)

set_option maxHeartbeats 4000000 in
set_option maxRecDepth 100000 in
theorem cX_becomeC (l : Launch) (E : mw_E) (σ : mw_M) (cp dp : Nat) (hcp : 6 ≤ cp ∧ cp < 30) (hdp : 6 ≤ dp ∧ dp < 30) : mw_Cv shX 75 gX l yX1_become cX1_become 2 none (rmF 1 64) E [.ref (mw_a E (cp)), .ref (mw_a E (dp))] σ (fun u => u = becM σ cp dp) := by
  refine mw_of (by decide) gX_ok (Nat.le_of_ble_eq_true rfl) ?_
  intro p_ e_ s_ m_ below meth c_ C hr hlk Z hP ls hl
  have C : CallFix p_ m_ c_ cX1_become 2 s_ _ lw_good RX1 := C
  have hl : lv_has ls 2 [(0, .ref (mw_a E (cp))), (1, .ref (mw_a E (dp)))] := hl
  have hS : va_S (mw_A 75 E) s_.heap s_.heap [] := va_S.rf
  refine lv_aload_n C.1 C.2.1 dX1_become_0 rfl (lv_at hl 0 rfl) ?_
  refine lv_aload_n C.1 C.2.1 dX1_become_1 rfl (lv_at hl 1 rfl) ?_
  refine mw_geti C Z hP (dp) 0 (by omega) (sx_cu (by omega) (by omega)) rfl rfl (by decide) inX1 tw_1_44 dX1_become_2 ?_
  refine mw_puti C Z hP hS (cp) 0 (by omega) (sx_cu (by omega) (by omega)) rfl rfl (by decide) inX1 tyX1 tyX1_ok nmX1 rfl tw_1_44 rfl rfl dX1_become_5 (fun H locs hP hS => ?_)
  refine lv_aload_n C.1 C.2.1 dX1_become_8 rfl (lv_at hl 0 rfl) ?_
  refine lv_aload_n C.1 C.2.1 dX1_become_9 rfl (lv_at hl 1 rfl) ?_
  refine mw_geti C Z hP (dp) 1 (by omega) (sx_cu (by omega) (by omega)) rfl rfl (by decide) inX1 tw_1_46 dX1_become_10 ?_
  refine mw_top (y := σ.1 dp 1) (mw_nf (by decide)) ?_
  refine mw_puti C Z hP hS (cp) 1 (by omega) (sx_cu (by omega) (by omega)) rfl rfl (by decide) inX1 tyX1 tyX1_ok nmX1 rfl tw_1_46 rfl rfl dX1_become_13 (fun H locs hP hS => ?_)
  refine lv_aload_n C.1 C.2.1 dX1_become_16 rfl (lv_at hl 0 rfl) ?_
  refine lv_aload_n C.1 C.2.1 dX1_become_17 rfl (lv_at hl 1 rfl) ?_
  refine mw_geti C Z hP (dp) 2 (by omega) (sx_cu (by omega) (by omega)) rfl rfl (by decide) inX1 tw_1_50 dX1_become_18 ?_
  refine mw_top (y := σ.1 dp 2) ((mw_nf (by decide)).trans (mw_nf (by decide))) ?_
  refine mw_puti C Z hP hS (cp) 2 (by omega) (sx_cu (by omega) (by omega)) rfl rfl (by decide) inX1 tyX1 tyX1_ok nmX1 rfl tw_1_50 rfl rfl dX1_become_21 (fun H locs hP hS => ?_)
  refine lv_aload_n C.1 C.2.1 dX1_become_24 rfl (lv_at hl 0 rfl) ?_
  refine lv_aload_n C.1 C.2.1 dX1_become_25 rfl (lv_at hl 1 rfl) ?_
  refine mw_geti C Z hP (dp) 3 (by omega) (sx_cu (by omega) (by omega)) rfl rfl (by decide) inX1 tw_1_55 dX1_become_26 ?_
  refine mw_top (y := σ.1 dp 3) ((mw_nf (by decide)).trans ((mw_nf (by decide)).trans (mw_nf (by decide)))) ?_
  refine mw_puti C Z hP hS (cp) 3 (by omega) (sx_cu (by omega) (by omega)) rfl rfl (by decide) inX1 tyX1 tyX1_ok nmX1 rfl tw_1_55 rfl rfl dX1_become_29 (fun H locs hP hS => ?_)
  refine lv_aload_n C.1 C.2.1 dX1_become_32 rfl (lv_at hl 0 rfl) ?_
  refine lv_aload_n C.1 C.2.1 dX1_become_33 rfl (lv_at hl 1 rfl) ?_
  refine mw_geti C Z hP (dp) 4 (by omega) (sx_cu (by omega) (by omega)) rfl rfl (by decide) inX1 tw_1_59 dX1_become_34 ?_
  refine mw_top (y := σ.1 dp 4) ((mw_nf (by decide)).trans ((mw_nf (by decide)).trans ((mw_nf (by decide)).trans (mw_nf (by decide))))) ?_
  refine mw_puti C Z hP hS (cp) 4 (by omega) (sx_cu (by omega) (by omega)) rfl rfl (by decide) inX1 tyX1 tyX1_ok nmX1 rfl tw_1_59 rfl rfl dX1_become_37 (fun H locs hP hS => ?_)
  exact mw_vret C hr hlk Z hP hS dX1_become_40 (rfl)

def cuRd (c : Nat → Int32) (w : Nat) : Int32 := if w = 5 then c 1 else if w = 6 then c 2 else if w = 7 then c 3 else if w = 8 then c 0 else c 4
theorem cuRd_td (z : zP) (st c : Nat → Int32) {w : Nat} (h : 5 ≤ w ∧ w ≤ 9) : cuRd c w = tdF z st c w := by
  obtain ⟨h1, h2⟩ := h
  have : w = 5 ∨ w = 6 ∨ w = 7 ∨ w = 8 ∨ w = 9 := by omega
  rcases this with rfl | rfl | rfl | rfl | rfl <;> rfl
theorem nI_lit {w k : Nat} (hw : w < 2 ^ 31) (hk : k < 2 ^ 31) : nI w = nI k ↔ w = k := nI_eq hw hk

set_option maxHeartbeats 4000000 in
set_option maxRecDepth 100000 in
theorem cX_readingC (l : Launch) (E : mw_E) (σ : mw_M) (cp : Nat) (hcp : 6 ≤ cp ∧ cp < 30) (w : Nat) (hw : w < 100) : mw_Ci shX 75 gX l yX1_reading cX1_reading 2 (some .int) (rmF 1 64) E [.ref (mw_a E (cp)), .int (nI w)] σ (fun r u => r = cuRd (σ.1 cp) w ∧ u = σ) := by
  refine mw_of (by decide) gX_ok (Nat.le_of_ble_eq_true rfl) ?_
  intro p_ e_ s_ m_ below meth c_ C hr hlk Z hP ls hl
  have C : CallFix p_ m_ c_ cX1_reading 2 s_ _ lw_good RX1 := C
  have hl : lv_has ls 2 [(0, .ref (mw_a E (cp))), (1, .int (nI w))] := hl
  have hS : va_S (mw_A 75 E) s_.heap s_.heap [] := va_S.rf
  refine lv_iload_n C.1 C.2.1 dX1_reading_0 rfl (lv_at hl 1 rfl) ?_
  by_cases c1 : nI w = 5
  · refine lv_tableIn (off := 31) (tgt := 32) C.1 C.2.1 dX1_reading_1 (by rw [c1]; decide) (by rw [c1]; decide) (by rw [c1]; decide) (by decide) ?_
    refine lv_aload_n C.1 C.2.1 dX1_reading_32 rfl (lv_at hl 0 rfl) ?_
    refine mw_geti C Z hP (cp) 1 (by omega) (sx_cu (by omega) (by omega)) rfl rfl (by decide) inX1 tw_1_46 dX1_reading_33 ?_
    exact mw_iret C hr hlk Z hP hS dX1_reading_36 (⟨by unfold cuRd; have c1 := (nI_eq (b := 5) (by omega) (by decide)).mp c1; simp [c1], rfl⟩)
  by_cases c2 : nI w = 6
  · refine lv_tableIn (off := 36) (tgt := 37) C.1 C.2.1 dX1_reading_1 (by rw [c2]; decide) (by rw [c2]; decide) (by rw [c2]; decide) (by decide) ?_
    refine lv_aload_n C.1 C.2.1 dX1_reading_37 rfl (lv_at hl 0 rfl) ?_
    refine mw_geti C Z hP (cp) 2 (by omega) (sx_cu (by omega) (by omega)) rfl rfl (by decide) inX1 tw_1_50 dX1_reading_38 ?_
    exact mw_iret C hr hlk Z hP hS dX1_reading_41 (⟨by unfold cuRd; have c1 := (not_congr (nI_eq (b := 5) (by omega) (by decide))).mp c1; have c2 := (nI_eq (b := 6) (by omega) (by decide)).mp c2; simp [c1, c2], rfl⟩)
  by_cases c3 : nI w = 7
  · refine lv_tableIn (off := 41) (tgt := 42) C.1 C.2.1 dX1_reading_1 (by rw [c3]; decide) (by rw [c3]; decide) (by rw [c3]; decide) (by decide) ?_
    refine lv_aload_n C.1 C.2.1 dX1_reading_42 rfl (lv_at hl 0 rfl) ?_
    refine mw_geti C Z hP (cp) 3 (by omega) (sx_cu (by omega) (by omega)) rfl rfl (by decide) inX1 tw_1_55 dX1_reading_43 ?_
    exact mw_iret C hr hlk Z hP hS dX1_reading_46 (⟨by unfold cuRd; have c1 := (not_congr (nI_eq (b := 5) (by omega) (by decide))).mp c1; have c2 := (not_congr (nI_eq (b := 6) (by omega) (by decide))).mp c2; have c3 := (nI_eq (b := 7) (by omega) (by decide)).mp c3; simp [c1, c2, c3], rfl⟩)
  by_cases c4 : nI w = 8
  · refine lv_tableIn (off := 46) (tgt := 47) C.1 C.2.1 dX1_reading_1 (by rw [c4]; decide) (by rw [c4]; decide) (by rw [c4]; decide) (by decide) ?_
    refine lv_aload_n C.1 C.2.1 dX1_reading_47 rfl (lv_at hl 0 rfl) ?_
    refine mw_geti C Z hP (cp) 0 (by omega) (sx_cu (by omega) (by omega)) rfl rfl (by decide) inX1 tw_1_44 dX1_reading_48 ?_
    exact mw_iret C hr hlk Z hP hS dX1_reading_51 (⟨by unfold cuRd; have c1 := (not_congr (nI_eq (b := 5) (by omega) (by decide))).mp c1; have c2 := (not_congr (nI_eq (b := 6) (by omega) (by decide))).mp c2; have c3 := (not_congr (nI_eq (b := 7) (by omega) (by decide))).mp c3; have c4 := (nI_eq (b := 8) (by omega) (by decide)).mp c4; simp [c1, c2, c3, c4], rfl⟩)
  refine lv_tableOut (tgt := 52) C.1 C.2.1 dX1_reading_1 (by have z0 := (not_congr (ni_eq _ _)).mp c1; have y0 : (5 : Int32).toInt = 5 := rfl; have z1 := (not_congr (ni_eq _ _)).mp c2; have y1 : (6 : Int32).toInt = 6 := rfl; have z2 := (not_congr (ni_eq _ _)).mp c3; have y2 : (7 : Int32).toInt = 7 := rfl; have z3 := (not_congr (ni_eq _ _)).mp c4; have y3 : (8 : Int32).toInt = 8 := rfl; omega) (by decide) ?_
  refine lv_aload_n C.1 C.2.1 dX1_reading_52 rfl (lv_at hl 0 rfl) ?_
  refine mw_geti C Z hP (cp) 4 (by omega) (sx_cu (by omega) (by omega)) rfl rfl (by decide) inX1 tw_1_59 dX1_reading_53 ?_
  exact mw_iret C hr hlk Z hP hS dX1_reading_56 (⟨by unfold cuRd; have c1 := (not_congr (nI_eq (b := 5) (by omega) (by decide))).mp c1; have c2 := (not_congr (nI_eq (b := 6) (by omega) (by decide))).mp c2; have c3 := (not_congr (nI_eq (b := 7) (by omega) (by decide))).mp c3; have c4 := (not_congr (nI_eq (b := 8) (by omega) (by decide))).mp c4; simp [c1, c2, c3, c4], rfl⟩)

def layM (σ : mw_M) (cp w : Nat) (v : Int32) : mw_M := if w = 5 then mw_si σ cp 1 v else if w = 6 then mw_si σ cp 2 v else if w = 7 then mw_si σ cp 3 v else σ

set_option maxHeartbeats 4000000 in
set_option maxRecDepth 100000 in
theorem cX_layC (l : Launch) (E : mw_E) (σ : mw_M) (cp : Nat) (hcp : 6 ≤ cp ∧ cp < 30) (w : Nat) (hw : w < 100) (v : Int32) : mw_Cv shX 75 gX l yX1_lay cX1_lay 3 none (rmF 1 64) E [.ref (mw_a E (cp)), .int (nI w), .int v] σ (fun u => u = layM σ cp w v) := by
  refine mw_of (by decide) gX_ok (Nat.le_of_ble_eq_true rfl) ?_
  intro p_ e_ s_ m_ below meth c_ C hr hlk Z hP ls hl
  have C : CallFix p_ m_ c_ cX1_lay 3 s_ _ lw_good RX1 := C
  have hl : lv_has ls 3 [(0, .ref (mw_a E (cp))), (1, .int (nI w)), (2, .int v)] := hl
  have hS : va_S (mw_A 75 E) s_.heap s_.heap [] := va_S.rf
  refine lv_iload_n C.1 C.2.1 dX1_lay_0 rfl (lv_at hl 1 rfl) ?_
  by_cases c1 : nI w = 5
  · refine lv_tableIn (off := 27) (tgt := 28) C.1 C.2.1 dX1_lay_1 (by rw [c1]; decide) (by rw [c1]; decide) (by rw [c1]; decide) (by decide) ?_
    refine lv_aload_n C.1 C.2.1 dX1_lay_28 rfl (lv_at hl 0 rfl) ?_
    refine lv_iload_n C.1 C.2.1 dX1_lay_29 rfl (lv_at hl 2 rfl) ?_
    refine mw_puti C Z hP hS (cp) 1 (by omega) (sx_cu (by omega) (by omega)) rfl rfl (by decide) inX1 tyX1 tyX1_ok nmX1 rfl tw_1_46 rfl rfl dX1_lay_30 (fun H locs hP hS => ?_)
    refine lv_goto (tgt := 52) C.1 C.2.1 dX1_lay_33 (by decide) ?_
    exact mw_vret C hr hlk Z hP hS dX1_lay_52 (by unfold layM; have c1 := (nI_eq (b := 5) (by omega) (by decide)).mp c1; simp [c1])
  by_cases c2 : nI w = 6
  · refine lv_tableIn (off := 35) (tgt := 36) C.1 C.2.1 dX1_lay_1 (by rw [c2]; decide) (by rw [c2]; decide) (by rw [c2]; decide) (by decide) ?_
    refine lv_aload_n C.1 C.2.1 dX1_lay_36 rfl (lv_at hl 0 rfl) ?_
    refine lv_iload_n C.1 C.2.1 dX1_lay_37 rfl (lv_at hl 2 rfl) ?_
    refine mw_puti C Z hP hS (cp) 2 (by omega) (sx_cu (by omega) (by omega)) rfl rfl (by decide) inX1 tyX1 tyX1_ok nmX1 rfl tw_1_50 rfl rfl dX1_lay_38 (fun H locs hP hS => ?_)
    refine lv_goto (tgt := 52) C.1 C.2.1 dX1_lay_41 (by decide) ?_
    exact mw_vret C hr hlk Z hP hS dX1_lay_52 (by unfold layM; have c1 := (not_congr (nI_eq (b := 5) (by omega) (by decide))).mp c1; have c2 := (nI_eq (b := 6) (by omega) (by decide)).mp c2; simp [c1, c2])
  by_cases c3 : nI w = 7
  · refine lv_tableIn (off := 43) (tgt := 44) C.1 C.2.1 dX1_lay_1 (by rw [c3]; decide) (by rw [c3]; decide) (by rw [c3]; decide) (by decide) ?_
    refine lv_aload_n C.1 C.2.1 dX1_lay_44 rfl (lv_at hl 0 rfl) ?_
    refine lv_iload_n C.1 C.2.1 dX1_lay_45 rfl (lv_at hl 2 rfl) ?_
    refine mw_puti C Z hP hS (cp) 3 (by omega) (sx_cu (by omega) (by omega)) rfl rfl (by decide) inX1 tyX1 tyX1_ok nmX1 rfl tw_1_55 rfl rfl dX1_lay_46 (fun H locs hP hS => ?_)
    refine lv_goto (tgt := 52) C.1 C.2.1 dX1_lay_49 (by decide) ?_
    exact mw_vret C hr hlk Z hP hS dX1_lay_52 (by unfold layM; have c1 := (not_congr (nI_eq (b := 5) (by omega) (by decide))).mp c1; have c2 := (not_congr (nI_eq (b := 6) (by omega) (by decide))).mp c2; have c3 := (nI_eq (b := 7) (by omega) (by decide)).mp c3; simp [c1, c2, c3])
  refine lv_tableOut (tgt := 52) C.1 C.2.1 dX1_lay_1 (by have z0 := (not_congr (ni_eq _ _)).mp c1; have y0 : (5 : Int32).toInt = 5 := rfl; have z1 := (not_congr (ni_eq _ _)).mp c2; have y1 : (6 : Int32).toInt = 6 := rfl; have z2 := (not_congr (ni_eq _ _)).mp c3; have y2 : (7 : Int32).toInt = 7 := rfl; omega) (by decide) ?_
  exact mw_vret C hr hlk Z hP hS dX1_lay_52 (by unfold layM; have c1 := (not_congr (nI_eq (b := 5) (by omega) (by decide))).mp c1; have c2 := (not_congr (nI_eq (b := 6) (by omega) (by decide))).mp c2; have c3 := (not_congr (nI_eq (b := 7) (by omega) (by decide))).mp c3; simp [c1, c2, c3])

set_option maxHeartbeats 4000000 in
set_option maxRecDepth 100000 in
theorem cX_hasS (l : Launch) (E : mw_E) (σ : mw_M) (s : Nat) (hs : s < 3) (n : Nat) (hn : σ.1 s 6 = nI n) (h8 : n ≤ 8) (v : Int32) : mw_Ci shX 75 gX l yX6_has cX6_has 2 (some .boolean) (rmF 1 64) E [.ref (mw_a E (s)), .int v] σ (fun r u => r = bI (0 ≤ v.toInt ∧ v.toInt < n) ∧ u = σ) := by
  refine mw_of (by decide) gX_ok (Nat.le_of_ble_eq_true rfl) ?_
  intro p_ e_ s_ m_ below meth c_ C hr hlk Z hP ls hl
  have C : CallFix p_ m_ c_ cX6_has 2 s_ _ lw_good RX6 := C
  have hl : lv_has ls 2 [(0, .ref (mw_a E (s))), (1, .int v)] := hl
  have hS : va_S (mw_A 75 E) s_.heap s_.heap [] := va_S.rf
  refine lv_iload_n C.1 C.2.1 dX6_has_0 rfl (lv_at hl 1 rfl) ?_
  refine lv_if_lt (tgt := 22) C.1 C.2.1 dX6_has_1 (by decide) (fun c1 => ?_) (fun c1 => ?_)
  · refine lv_iconst (v := 0) C.1 C.2.1 dX6_has_22 (by decide) ?_
    exact mw_zret C hr hlk Z hP hS rfl dX6_has_23 (⟨(bI_f (by simp only [ni_lt, ni_le] at c1; have q0 : (0 : Int32).toInt = 0 := rfl; have q1 : (1 : Int32).toInt = 1 := rfl; have q10 : (10 : Int32).toInt = 10 := rfl; have q4 : (4 : Int32).toInt = 4 := rfl; have q8 : (8 : Int32).toInt = 8 := rfl; omega)).symm, rfl⟩)
  · refine lv_iload_n C.1 C.2.1 dX6_has_4 rfl (lv_at hl 1 rfl) ?_
    refine lv_aload_n C.1 C.2.1 dX6_has_5 rfl (lv_at hl 0 rfl) ?_
    refine mw_geti C Z hP (s) 6 (by omega) (sx_st (by omega)) rfl rfl (by decide) inX6 tw_1_92 dX6_has_6 ?_
    refine mw_top (y := nI n) (hn) ?_
    refine lv_icmp_ge (tgt := 22) C.1 C.2.1 dX6_has_9 (by decide) (fun c2 => ?_) (fun c2 => ?_)
    · refine lv_iconst (v := 0) C.1 C.2.1 dX6_has_22 (by decide) ?_
      exact mw_zret C hr hlk Z hP hS rfl dX6_has_23 (⟨(bI_f (by simp only [ni_lt, ni_le] at c1 c2; rw [nI_toInt (by omega)] at *; have q0 : (0 : Int32).toInt = 0 := rfl; have q1 : (1 : Int32).toInt = 1 := rfl; have q10 : (10 : Int32).toInt = 10 := rfl; have q4 : (4 : Int32).toInt = 4 := rfl; have q8 : (8 : Int32).toInt = 8 := rfl; omega)).symm, rfl⟩)
    · refine lv_iload_n C.1 C.2.1 dX6_has_12 rfl (lv_at hl 1 rfl) ?_
      refine lv_bipush (v := 8) C.1 C.2.1 dX6_has_13 (by decide) ?_
      refine lv_icmp_ge (tgt := 22) C.1 C.2.1 dX6_has_15 (by decide) (fun c3 => ?_) (fun c3 => ?_)
      · refine lv_iconst (v := 0) C.1 C.2.1 dX6_has_22 (by decide) ?_
        exact mw_zret C hr hlk Z hP hS rfl dX6_has_23 (⟨(bI_f (by simp only [ni_lt, ni_le] at c1 c2 c3; rw [nI_toInt (by omega)] at *; have q0 : (0 : Int32).toInt = 0 := rfl; have q1 : (1 : Int32).toInt = 1 := rfl; have q10 : (10 : Int32).toInt = 10 := rfl; have q4 : (4 : Int32).toInt = 4 := rfl; have q8 : (8 : Int32).toInt = 8 := rfl; omega)).symm, rfl⟩)
      · refine lv_iconst (v := 1) C.1 C.2.1 dX6_has_18 (by decide) ?_
        refine lv_goto (tgt := 23) C.1 C.2.1 dX6_has_19 (by decide) ?_
        exact mw_zret C hr hlk Z hP hS rfl dX6_has_23 (⟨(bI_t (by simp only [ni_lt, ni_le] at c1 c2 c3; rw [nI_toInt (by omega)] at *; have q0 : (0 : Int32).toInt = 0 := rfl; have q1 : (1 : Int32).toInt = 1 := rfl; have q10 : (10 : Int32).toInt = 10 := rfl; have q4 : (4 : Int32).toInt = 4 := rfl; have q8 : (8 : Int32).toInt = 8 := rfl; omega)).symm, rfl⟩)

set_option maxHeartbeats 4000000 in
set_option maxRecDepth 100000 in
theorem cX_isThere (l : Launch) (E : mw_E) (σ : mw_M) (s : Nat) (hs : s < 3) (cp : Nat) (hcp : 6 ≤ cp ∧ cp < 30) : mw_Ci shX 75 gX l yX6_isThere cX6_isThere 2 (some .boolean) (rmF 1 64) E [.ref (mw_a E (s)), .ref (mw_a E (cp))] σ (fun r u => r = bI (thereP (σ.1 s) (σ.1 cp)) ∧ u = σ) := by
  refine mw_of (by decide) gX_ok (Nat.le_of_ble_eq_true rfl) ?_
  intro p_ e_ s_ m_ below meth c_ C hr hlk Z hP ls hl
  have C : CallFix p_ m_ c_ cX6_isThere 2 s_ _ lw_good RX6 := C
  have hl : lv_has ls 2 [(0, .ref (mw_a E (s))), (1, .ref (mw_a E (cp)))] := hl
  have hS : va_S (mw_A 75 E) s_.heap s_.heap [] := va_S.rf
  refine lv_aload_n C.1 C.2.1 dX6_isThere_0 rfl (lv_at hl 0 rfl) ?_
  refine mw_geti C Z hP (s) 3 (by omega) (sx_st (by omega)) rfl rfl (by decide) inX6 tw_1_85 dX6_isThere_1 ?_
  refine lv_aload_n C.1 C.2.1 dX6_isThere_4 rfl (lv_at hl 1 rfl) ?_
  refine mw_geti C Z hP (cp) 2 (by omega) (sx_cu (by omega) (by omega)) rfl rfl (by decide) inX1 tw_1_51 dX6_isThere_5 ?_
  refine lv_ishr C.1 C.2.1 dX6_isThere_8 ?_
  refine lv_iconst (v := 1) C.1 C.2.1 dX6_isThere_9 (by decide) ?_
  refine lv_iand C.1 C.2.1 dX6_isThere_10 ?_
  refine lv_iconst (v := 1) C.1 C.2.1 dX6_isThere_11 (by decide) ?_
  refine lv_icmp_ne (tgt := 19) C.1 C.2.1 dX6_isThere_12 (by decide) (fun c1 => ?_) (fun c1 => ?_)
  · refine lv_iconst (v := 0) C.1 C.2.1 dX6_isThere_19 (by decide) ?_
    exact mw_zret C hr hlk Z hP hS rfl dX6_isThere_20 (⟨(bI_f c1).symm, rfl⟩)
  · refine lv_iconst (v := 1) C.1 C.2.1 dX6_isThere_15 (by decide) ?_
    refine lv_goto (tgt := 20) C.1 C.2.1 dX6_isThere_16 (by decide) ?_
    exact mw_zret C hr hlk Z hP hS rfl dX6_isThere_20 (⟨(bI_t c1).symm, rfl⟩)

def stRd (c : Nat → Int32) (w : Nat) : Int32 := if w = 0 then c 0 else if w = 1 then c 1 else if w = 2 then c 2 else if w = 3 then c 3 else c 4
theorem stRd_at (c : Nat → Int32) {w : Nat} (h : w ≤ 4) : stRd c w = c w := by
  have : w = 0 ∨ w = 1 ∨ w = 2 ∨ w = 3 ∨ w = 4 := by omega
  rcases this with rfl | rfl | rfl | rfl | rfl <;> rfl
def slyM (σ : mw_M) (s w : Nat) (v : Int32) : mw_M := if w = 0 then mw_si σ s 0 v else if w = 1 then mw_si σ s 1 v else if w = 2 then mw_si σ s 2 v else if w = 3 then mw_si σ s 3 v else if w = 4 then mw_si σ s 4 v else σ
theorem slyM_at (σ : mw_M) (s : Nat) {w : Nat} (v : Int32) (h : w ≤ 4) : slyM σ s w v = mw_si σ s w v := by
  have : w = 0 ∨ w = 1 ∨ w = 2 ∨ w = 3 ∨ w = 4 := by omega
  rcases this with rfl | rfl | rfl | rfl | rfl <;> rfl

set_option maxHeartbeats 4000000 in
set_option maxRecDepth 100000 in
theorem cX_readingS (l : Launch) (E : mw_E) (σ : mw_M) (s : Nat) (hs : s < 3) (w : Nat) (hw : w < 100) : mw_Ci shX 75 gX l yX6_reading cX6_reading 2 (some .int) (rmF 1 64) E [.ref (mw_a E (s)), .int (nI w)] σ (fun r u => r = stRd (σ.1 s) w ∧ u = σ) := by
  refine mw_of (by decide) gX_ok (Nat.le_of_ble_eq_true rfl) ?_
  intro p_ e_ s_ m_ below meth c_ C hr hlk Z hP ls hl
  have C : CallFix p_ m_ c_ cX6_reading 2 s_ _ lw_good RX6 := C
  have hl : lv_has ls 2 [(0, .ref (mw_a E (s))), (1, .int (nI w))] := hl
  have hS : va_S (mw_A 75 E) s_.heap s_.heap [] := va_S.rf
  refine lv_iload_n C.1 C.2.1 dX6_reading_0 rfl (lv_at hl 1 rfl) ?_
  by_cases c1 : nI w = 0
  · refine lv_tableIn (off := 31) (tgt := 32) C.1 C.2.1 dX6_reading_1 (by rw [c1]; decide) (by rw [c1]; decide) (by rw [c1]; decide) (by decide) ?_
    refine lv_aload_n C.1 C.2.1 dX6_reading_32 rfl (lv_at hl 0 rfl) ?_
    refine mw_geti C Z hP (s) 0 (by omega) (sx_st (by omega)) rfl rfl (by decide) inX6 tw_1_73 dX6_reading_33 ?_
    exact mw_iret C hr hlk Z hP hS dX6_reading_36 (⟨by unfold stRd; have c1 := (nI_eq (b := 0) (by omega) (by decide)).mp c1; simp [c1], rfl⟩)
  by_cases c2 : nI w = 1
  · refine lv_tableIn (off := 36) (tgt := 37) C.1 C.2.1 dX6_reading_1 (by rw [c2]; decide) (by rw [c2]; decide) (by rw [c2]; decide) (by decide) ?_
    refine lv_aload_n C.1 C.2.1 dX6_reading_37 rfl (lv_at hl 0 rfl) ?_
    refine mw_geti C Z hP (s) 1 (by omega) (sx_st (by omega)) rfl rfl (by decide) inX6 tw_1_77 dX6_reading_38 ?_
    exact mw_iret C hr hlk Z hP hS dX6_reading_41 (⟨by unfold stRd; have c1 := (not_congr (nI_eq (b := 0) (by omega) (by decide))).mp c1; have c2 := (nI_eq (b := 1) (by omega) (by decide)).mp c2; simp [c1, c2], rfl⟩)
  by_cases c3 : nI w = 2
  · refine lv_tableIn (off := 41) (tgt := 42) C.1 C.2.1 dX6_reading_1 (by rw [c3]; decide) (by rw [c3]; decide) (by rw [c3]; decide) (by decide) ?_
    refine lv_aload_n C.1 C.2.1 dX6_reading_42 rfl (lv_at hl 0 rfl) ?_
    refine mw_geti C Z hP (s) 2 (by omega) (sx_st (by omega)) rfl rfl (by decide) inX6 tw_1_81 dX6_reading_43 ?_
    exact mw_iret C hr hlk Z hP hS dX6_reading_46 (⟨by unfold stRd; have c1 := (not_congr (nI_eq (b := 0) (by omega) (by decide))).mp c1; have c2 := (not_congr (nI_eq (b := 1) (by omega) (by decide))).mp c2; have c3 := (nI_eq (b := 2) (by omega) (by decide)).mp c3; simp [c1, c2, c3], rfl⟩)
  by_cases c4 : nI w = 3
  · refine lv_tableIn (off := 46) (tgt := 47) C.1 C.2.1 dX6_reading_1 (by rw [c4]; decide) (by rw [c4]; decide) (by rw [c4]; decide) (by decide) ?_
    refine lv_aload_n C.1 C.2.1 dX6_reading_47 rfl (lv_at hl 0 rfl) ?_
    refine mw_geti C Z hP (s) 3 (by omega) (sx_st (by omega)) rfl rfl (by decide) inX6 tw_1_85 dX6_reading_48 ?_
    exact mw_iret C hr hlk Z hP hS dX6_reading_51 (⟨by unfold stRd; have c1 := (not_congr (nI_eq (b := 0) (by omega) (by decide))).mp c1; have c2 := (not_congr (nI_eq (b := 1) (by omega) (by decide))).mp c2; have c3 := (not_congr (nI_eq (b := 2) (by omega) (by decide))).mp c3; have c4 := (nI_eq (b := 3) (by omega) (by decide)).mp c4; simp [c1, c2, c3, c4], rfl⟩)
  refine lv_tableOut (tgt := 52) C.1 C.2.1 dX6_reading_1 (by have z0 := (not_congr (ni_eq _ _)).mp c1; have y0 : (0 : Int32).toInt = 0 := rfl; have z1 := (not_congr (ni_eq _ _)).mp c2; have y1 : (1 : Int32).toInt = 1 := rfl; have z2 := (not_congr (ni_eq _ _)).mp c3; have y2 : (2 : Int32).toInt = 2 := rfl; have z3 := (not_congr (ni_eq _ _)).mp c4; have y3 : (3 : Int32).toInt = 3 := rfl; omega) (by decide) ?_
  refine lv_aload_n C.1 C.2.1 dX6_reading_52 rfl (lv_at hl 0 rfl) ?_
  refine mw_geti C Z hP (s) 4 (by omega) (sx_st (by omega)) rfl rfl (by decide) inX6 tw_1_87 dX6_reading_53 ?_
  exact mw_iret C hr hlk Z hP hS dX6_reading_56 (⟨by unfold stRd; have c1 := (not_congr (nI_eq (b := 0) (by omega) (by decide))).mp c1; have c2 := (not_congr (nI_eq (b := 1) (by omega) (by decide))).mp c2; have c3 := (not_congr (nI_eq (b := 2) (by omega) (by decide))).mp c3; have c4 := (not_congr (nI_eq (b := 3) (by omega) (by decide))).mp c4; simp [c1, c2, c3, c4], rfl⟩)

set_option maxHeartbeats 4000000 in
set_option maxRecDepth 100000 in
theorem cX_layS (l : Launch) (E : mw_E) (σ : mw_M) (s : Nat) (hs : s < 3) (w : Nat) (hw : w < 100) (v : Int32) : mw_Cv shX 75 gX l yX6_lay cX6_lay 3 none (rmF 1 64) E [.ref (mw_a E (s)), .int (nI w), .int v] σ (fun u => u = slyM σ s w v) := by
  refine mw_of (by decide) gX_ok (Nat.le_of_ble_eq_true rfl) ?_
  intro p_ e_ s_ m_ below meth c_ C hr hlk Z hP ls hl
  have C : CallFix p_ m_ c_ cX6_lay 3 s_ _ lw_good RX6 := C
  have hl : lv_has ls 3 [(0, .ref (mw_a E (s))), (1, .int (nI w)), (2, .int v)] := hl
  have hS : va_S (mw_A 75 E) s_.heap s_.heap [] := va_S.rf
  refine lv_iload_n C.1 C.2.1 dX6_lay_0 rfl (lv_at hl 1 rfl) ?_
  by_cases c1 : nI w = 0
  · refine lv_tableIn (off := 35) (tgt := 36) C.1 C.2.1 dX6_lay_1 (by rw [c1]; decide) (by rw [c1]; decide) (by rw [c1]; decide) (by decide) ?_
    refine lv_aload_n C.1 C.2.1 dX6_lay_36 rfl (lv_at hl 0 rfl) ?_
    refine lv_iload_n C.1 C.2.1 dX6_lay_37 rfl (lv_at hl 2 rfl) ?_
    refine mw_puti C Z hP hS (s) 0 (by omega) (sx_st (by omega)) rfl rfl (by decide) inX6 tyX6 tyX6_ok nmX6 rfl tw_1_73 rfl rfl dX6_lay_38 (fun H locs hP hS => ?_)
    refine lv_goto (tgt := 76) C.1 C.2.1 dX6_lay_41 (by decide) ?_
    exact mw_vret C hr hlk Z hP hS dX6_lay_76 (by unfold slyM; have c1 := (nI_eq (b := 0) (by omega) (by decide)).mp c1; simp [c1])
  by_cases c2 : nI w = 1
  · refine lv_tableIn (off := 43) (tgt := 44) C.1 C.2.1 dX6_lay_1 (by rw [c2]; decide) (by rw [c2]; decide) (by rw [c2]; decide) (by decide) ?_
    refine lv_aload_n C.1 C.2.1 dX6_lay_44 rfl (lv_at hl 0 rfl) ?_
    refine lv_iload_n C.1 C.2.1 dX6_lay_45 rfl (lv_at hl 2 rfl) ?_
    refine mw_puti C Z hP hS (s) 1 (by omega) (sx_st (by omega)) rfl rfl (by decide) inX6 tyX6 tyX6_ok nmX6 rfl tw_1_77 rfl rfl dX6_lay_46 (fun H locs hP hS => ?_)
    refine lv_goto (tgt := 76) C.1 C.2.1 dX6_lay_49 (by decide) ?_
    exact mw_vret C hr hlk Z hP hS dX6_lay_76 (by unfold slyM; have c1 := (not_congr (nI_eq (b := 0) (by omega) (by decide))).mp c1; have c2 := (nI_eq (b := 1) (by omega) (by decide)).mp c2; simp [c1, c2])
  by_cases c3 : nI w = 2
  · refine lv_tableIn (off := 51) (tgt := 52) C.1 C.2.1 dX6_lay_1 (by rw [c3]; decide) (by rw [c3]; decide) (by rw [c3]; decide) (by decide) ?_
    refine lv_aload_n C.1 C.2.1 dX6_lay_52 rfl (lv_at hl 0 rfl) ?_
    refine lv_iload_n C.1 C.2.1 dX6_lay_53 rfl (lv_at hl 2 rfl) ?_
    refine mw_puti C Z hP hS (s) 2 (by omega) (sx_st (by omega)) rfl rfl (by decide) inX6 tyX6 tyX6_ok nmX6 rfl tw_1_81 rfl rfl dX6_lay_54 (fun H locs hP hS => ?_)
    refine lv_goto (tgt := 76) C.1 C.2.1 dX6_lay_57 (by decide) ?_
    exact mw_vret C hr hlk Z hP hS dX6_lay_76 (by unfold slyM; have c1 := (not_congr (nI_eq (b := 0) (by omega) (by decide))).mp c1; have c2 := (not_congr (nI_eq (b := 1) (by omega) (by decide))).mp c2; have c3 := (nI_eq (b := 2) (by omega) (by decide)).mp c3; simp [c1, c2, c3])
  by_cases c4 : nI w = 3
  · refine lv_tableIn (off := 59) (tgt := 60) C.1 C.2.1 dX6_lay_1 (by rw [c4]; decide) (by rw [c4]; decide) (by rw [c4]; decide) (by decide) ?_
    refine lv_aload_n C.1 C.2.1 dX6_lay_60 rfl (lv_at hl 0 rfl) ?_
    refine lv_iload_n C.1 C.2.1 dX6_lay_61 rfl (lv_at hl 2 rfl) ?_
    refine mw_puti C Z hP hS (s) 3 (by omega) (sx_st (by omega)) rfl rfl (by decide) inX6 tyX6 tyX6_ok nmX6 rfl tw_1_85 rfl rfl dX6_lay_62 (fun H locs hP hS => ?_)
    refine lv_goto (tgt := 76) C.1 C.2.1 dX6_lay_65 (by decide) ?_
    exact mw_vret C hr hlk Z hP hS dX6_lay_76 (by unfold slyM; have c1 := (not_congr (nI_eq (b := 0) (by omega) (by decide))).mp c1; have c2 := (not_congr (nI_eq (b := 1) (by omega) (by decide))).mp c2; have c3 := (not_congr (nI_eq (b := 2) (by omega) (by decide))).mp c3; have c4 := (nI_eq (b := 3) (by omega) (by decide)).mp c4; simp [c1, c2, c3, c4])
  by_cases c5 : nI w = 4
  · refine lv_tableIn (off := 67) (tgt := 68) C.1 C.2.1 dX6_lay_1 (by rw [c5]; decide) (by rw [c5]; decide) (by rw [c5]; decide) (by decide) ?_
    refine lv_aload_n C.1 C.2.1 dX6_lay_68 rfl (lv_at hl 0 rfl) ?_
    refine lv_iload_n C.1 C.2.1 dX6_lay_69 rfl (lv_at hl 2 rfl) ?_
    refine mw_puti C Z hP hS (s) 4 (by omega) (sx_st (by omega)) rfl rfl (by decide) inX6 tyX6 tyX6_ok nmX6 rfl tw_1_87 rfl rfl dX6_lay_70 (fun H locs hP hS => ?_)
    refine lv_goto (tgt := 76) C.1 C.2.1 dX6_lay_73 (by decide) ?_
    exact mw_vret C hr hlk Z hP hS dX6_lay_76 (by unfold slyM; have c1 := (not_congr (nI_eq (b := 0) (by omega) (by decide))).mp c1; have c2 := (not_congr (nI_eq (b := 1) (by omega) (by decide))).mp c2; have c3 := (not_congr (nI_eq (b := 2) (by omega) (by decide))).mp c3; have c4 := (not_congr (nI_eq (b := 3) (by omega) (by decide))).mp c4; have c5 := (nI_eq (b := 4) (by omega) (by decide)).mp c5; simp [c1, c2, c3, c4, c5])
  refine lv_tableOut (tgt := 76) C.1 C.2.1 dX6_lay_1 (by have z0 := (not_congr (ni_eq _ _)).mp c1; have y0 : (0 : Int32).toInt = 0 := rfl; have z1 := (not_congr (ni_eq _ _)).mp c2; have y1 : (1 : Int32).toInt = 1 := rfl; have z2 := (not_congr (ni_eq _ _)).mp c3; have y2 : (2 : Int32).toInt = 2 := rfl; have z3 := (not_congr (ni_eq _ _)).mp c4; have y3 : (3 : Int32).toInt = 3 := rfl; have z4 := (not_congr (ni_eq _ _)).mp c5; have y4 : (4 : Int32).toInt = 4 := rfl; omega) (by decide) ?_
  exact mw_vret C hr hlk Z hP hS dX6_lay_76 (by unfold slyM; have c1 := (not_congr (nI_eq (b := 0) (by omega) (by decide))).mp c1; have c2 := (not_congr (nI_eq (b := 1) (by omega) (by decide))).mp c2; have c3 := (not_congr (nI_eq (b := 2) (by omega) (by decide))).mp c3; have c4 := (not_congr (nI_eq (b := 3) (by omega) (by decide))).mp c4; have c5 := (not_congr (nI_eq (b := 4) (by omega) (by decide))).mp c5; simp [c1, c2, c3, c4, c5])
