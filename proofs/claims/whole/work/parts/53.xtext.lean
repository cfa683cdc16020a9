/-! THE CLASS: SHEETS, TAPE, TOKENS, TEXTS -/

set_option maxHeartbeats 4000000 in
set_option maxRecDepth 100000 in
theorem cX_missing (l : Launch) (E : mw_E) (σ : mw_M) (k : Nat) (hk : k < 4) : mw_Ci shX 75 gX l yX5_isMissing cX5_isMissing 1 (some .boolean) (rmF 1 64) E [.ref (mw_a E (67 + k))] σ (fun r u => r = bI (σ.1 (67 + k) 0 = -1) ∧ u = σ) := by
  refine mw_of (by decide) gX_ok (Nat.le_of_ble_eq_true rfl) ?_
  intro p_ e_ s_ m_ below meth c_ C hr hlk Z hP ls hl
  have C : CallFix p_ m_ c_ cX5_isMissing 1 s_ _ lw_good RX5 := C
  have hl : lv_has ls 1 [(0, .ref (mw_a E (67 + k)))] := hl
  have hS : va_S (mw_A 75 E) s_.heap s_.heap [] := va_S.rf
  refine lv_aload_n C.1 C.2.1 dX5_isMissing_0 rfl (lv_at hl 0 rfl) ?_
  refine mw_geti C Z hP (67 + k) 0 (by omega) (sx_sh (by omega)) rfl rfl (by decide) inX5 tw_2_8 dX5_isMissing_1 ?_
  refine lv_iconst (v := -1) C.1 C.2.1 dX5_isMissing_4 (by decide) ?_
  refine lv_icmp_ne (tgt := 12) C.1 C.2.1 dX5_isMissing_5 (by decide) (fun c1 => ?_) (fun c1 => ?_)
  · refine lv_iconst (v := 0) C.1 C.2.1 dX5_isMissing_12 (by decide) ?_
    exact mw_zret C hr hlk Z hP hS rfl dX5_isMissing_13 (⟨(bI_f c1).symm, rfl⟩)
  · refine lv_iconst (v := 1) C.1 C.2.1 dX5_isMissing_8 (by decide) ?_
    refine lv_goto (tgt := 13) C.1 C.2.1 dX5_isMissing_9 (by decide) ?_
    exact mw_zret C hr hlk Z hP hS rfl dX5_isMissing_13 (⟨(bI_t c1).symm, rfl⟩)

set_option maxHeartbeats 4000000 in
set_option maxRecDepth 100000 in
theorem cX_holds (l : Launch) (E : mw_E) (σ : mw_M) (k : Nat) (hk : k < 4) (m : Nat) (hm : σ.1 (67 + k) 1 = nI m) (hm4 : m ≤ 40) (i n : Int32) : mw_Ci shX 75 gX l yX5_holds cX5_holds 3 (some .boolean) (rmF 1 64) E [.ref (mw_a E (67 + k)), .int i, .int n] σ (fun r u => r = bI (0 ≤ n.toInt ∧ 0 ≤ i.toInt ∧ i.toInt ≤ m ∧ n.toInt ≤ m - i.toInt) ∧ u = σ) := by
  refine mw_of (by decide) gX_ok (Nat.le_of_ble_eq_true rfl) ?_
  intro p_ e_ s_ m_ below meth c_ C hr hlk Z hP ls hl
  have C : CallFix p_ m_ c_ cX5_holds 3 s_ _ lw_good RX5 := C
  have hl : lv_has ls 3 [(0, .ref (mw_a E (67 + k))), (1, .int i), (2, .int n)] := hl
  have hS : va_S (mw_A 75 E) s_.heap s_.heap [] := va_S.rf
  refine lv_iload_n C.1 C.2.1 dX5_holds_0 rfl (lv_at hl 2 rfl) ?_
  refine lv_if_lt (tgt := 30) C.1 C.2.1 dX5_holds_1 (by decide) (fun c1 => ?_) (fun c1 => ?_)
  · refine lv_iconst (v := 0) C.1 C.2.1 dX5_holds_30 (by decide) ?_
    exact mw_zret C hr hlk Z hP hS rfl dX5_holds_31 (⟨(bI_f (by simp only [ni_lt, ni_le] at c1; have q0 := zero32; have qm := nI_toInt (n := m) (by omega); have qi := i.toInt_lt; omega)).symm, rfl⟩)
  · refine lv_iload_n C.1 C.2.1 dX5_holds_4 rfl (lv_at hl 1 rfl) ?_
    refine lv_if_lt (tgt := 30) C.1 C.2.1 dX5_holds_5 (by decide) (fun c2 => ?_) (fun c2 => ?_)
    · refine lv_iconst (v := 0) C.1 C.2.1 dX5_holds_30 (by decide) ?_
      exact mw_zret C hr hlk Z hP hS rfl dX5_holds_31 (⟨(bI_f (by simp only [ni_lt, ni_le] at c1 c2; have q0 := zero32; have qm := nI_toInt (n := m) (by omega); have qi := i.toInt_lt; omega)).symm, rfl⟩)
    · refine lv_iload_n C.1 C.2.1 dX5_holds_8 rfl (lv_at hl 1 rfl) ?_
      refine lv_aload_n C.1 C.2.1 dX5_holds_9 rfl (lv_at hl 0 rfl) ?_
      refine mw_geti C Z hP (67 + k) 1 (by omega) (sx_sh (by omega)) rfl rfl (by decide) inX5 tw_2_10 dX5_holds_10 ?_
      refine mw_top (y := nI m) (hm) ?_
      refine lv_icmp_gt (tgt := 30) C.1 C.2.1 dX5_holds_13 (by decide) (fun c3 => ?_) (fun c3 => ?_)
      · refine lv_iconst (v := 0) C.1 C.2.1 dX5_holds_30 (by decide) ?_
        exact mw_zret C hr hlk Z hP hS rfl dX5_holds_31 (⟨(bI_f (by simp only [ni_lt, ni_le] at c1 c2 c3; have q0 := zero32; have qm := nI_toInt (n := m) (by omega); have qi := i.toInt_lt; omega)).symm, rfl⟩)
      · refine lv_iload_n C.1 C.2.1 dX5_holds_16 rfl (lv_at hl 2 rfl) ?_
        refine lv_aload_n C.1 C.2.1 dX5_holds_17 rfl (lv_at hl 0 rfl) ?_
        refine mw_geti C Z hP (67 + k) 1 (by omega) (sx_sh (by omega)) rfl rfl (by decide) inX5 tw_2_10 dX5_holds_18 ?_
        refine mw_top (y := nI m) (hm) ?_
        refine lv_iload_n C.1 C.2.1 dX5_holds_21 rfl (lv_at hl 1 rfl) ?_
        refine lv_isub C.1 C.2.1 dX5_holds_22 ?_
        refine lv_icmp_gt (tgt := 30) C.1 C.2.1 dX5_holds_23 (by decide) (fun c4 => ?_) (fun c4 => ?_)
        · refine lv_iconst (v := 0) C.1 C.2.1 dX5_holds_30 (by decide) ?_
          exact mw_zret C hr hlk Z hP hS rfl dX5_holds_31 (⟨(bI_f (by simp only [ni_lt, ni_le] at c1 c2 c3 c4; have q0 := zero32; have qm := nI_toInt (n := m) (by omega); have qi := i.toInt_lt; have qs : (nI m - i).toInt = (m : Int) - i.toInt := sub_sz hm4 (by omega); omega)).symm, rfl⟩)
        · refine lv_iconst (v := 1) C.1 C.2.1 dX5_holds_26 (by decide) ?_
          refine lv_goto (tgt := 31) C.1 C.2.1 dX5_holds_27 (by decide) ?_
          exact mw_zret C hr hlk Z hP hS rfl dX5_holds_31 (⟨(bI_t (by simp only [ni_lt, ni_le] at c1 c2 c3 c4; have q0 := zero32; have qm := nI_toInt (n := m) (by omega); have qi := i.toInt_lt; have qs : (nI m - i).toInt = (m : Int) - i.toInt := sub_sz hm4 (by omega); omega)).symm, rfl⟩)

def xShb (σ : mw_M) (k : Nat) (so n : Int32) (j : Nat) (u : mw_M) : Prop := u.1 = (mw_si (mw_si σ (67 + k) 0 so) (67 + k) 1 (wI n 0 40)).1 ∧ u.2.2 = σ.2.2 ∧ u.2.1 = va_up σ.2.1 (71 + k) (zF (σ.2.1 (71 + k)) 0 j)
theorem xShb.next {σ u : mw_M} {k j : Nat} {so n : Int32} (h : xShb σ k so n j u) : xShb σ k so n (j + 1) (mw_sa u (71 + k) j 0) := by
  refine ⟨h.1, h.2.1, ?_⟩
  show va_up u.2.1 (71 + k) (upd (u.2.1 (71 + k)) j 0) = _
  rw [h.2.2, va_up_self, bx_uu]
  have := zF_s (σ.2.1 (71 + k)) 0 j
  rw [Nat.zero_add] at this
  rw [this]

set_option maxHeartbeats 4000000 in
set_option maxRecDepth 100000 in
theorem cX_becomeH (l : Launch) (E : mw_E) (σ : mw_M) (k : Nat) (hk : k < 4) (so n : Int32) : mw_Cv shX 75 gX l yX5_become cX5_become 4 none (rmF 3 106) E [.ref (mw_a E (67 + k)), .int so, .int n] σ (fun u => xShb σ k so n 40 u) := by
  refine mw_of (by decide) gX_ok (Nat.le_of_ble_eq_true rfl) ?_
  intro p_ e_ s_ m_ below meth c_ C hr hlk Z hP ls hl
  have C : CallFix p_ m_ c_ cX5_become 4 s_ _ lw_good RX5 := C
  have hl : lv_has ls 4 [(0, .ref (mw_a E (67 + k))), (1, .int so), (2, .int n)] := hl
  have hS : va_S (mw_A 75 E) s_.heap s_.heap [] := va_S.rf
  refine lv_aload_n C.1 C.2.1 dX5_become_0 rfl (lv_at hl 0 rfl) ?_
  refine lv_iload_n C.1 C.2.1 dX5_become_1 rfl (lv_at hl 1 rfl) ?_
  refine mw_puti C Z hP hS (67 + k) 0 (by omega) (sx_sh (by omega)) rfl rfl (by decide) inX5 tyX5 tyX5_ok nmX5 rfl tw_2_8 rfl rfl dX5_become_2 (fun H locs hP hS => ?_)
  refine lv_aload_n C.1 C.2.1 dX5_become_5 rfl (lv_at hl 0 rfl) ?_
  refine lv_iload_n C.1 C.2.1 dX5_become_6 rfl (lv_at hl 2 rfl) ?_
  refine lv_bipush (v := 40) C.1 C.2.1 dX5_become_7 (by decide) ?_
  refine mw_cSiN (As := [.int n, .int 40]) (rest := [.ref (mw_a E (67 + k))]) C Z hP hS (cX_bounded l E (mw_si σ (67 + k) 0 so) n 40 (by decide)) sb_X11_bounded Z.2.2.1.2.2.2.2.2.2.2.1 ⟨rfl, rfl⟩ ⟨Nat.le_of_ble_eq_true rfl, Nat.le_of_ble_eq_true rfl⟩ rfl hl.1 rfl (Nat.le_of_ble_eq_true rfl) dX5_become_9 ⟨Nat.zero_le _, Nat.zero_le _⟩ (fun r1 u2 H locs q3 hP hS => ?_)
  obtain ⟨rfl, q3u⟩ := q3
  rw [q3u] at hP; clear q3u
  refine mw_puti C Z hP hS (67 + k) 1 (by omega) (sx_sh (by omega)) rfl rfl (by decide) inX5 tyX5 tyX5_ok nmX5 rfl tw_2_10 rfl rfl dX5_become_12 (fun H locs hP hS => ?_)
  refine lv_iconst (v := 0) C.1 C.2.1 dX5_become_15 (by decide) ?_
  refine lv_istore_n (lv' := [(3, .int 0), (0, .ref (mw_a E (67 + k))), (1, .int so), (2, .int n)]) C.1 C.2.1 dX5_become_16 rfl hl (by decide) rfl (fun ls hl => ?_)
  have lpa : ∀ (N : Nat) (j : Nat) (ςa : mw_M) (H : Heap) (locs : List Loc), 40 + 1 ≤ j + N → (j ≤ 40) → xShb σ k so n j ςa → va_P (mw_D E) vwCl (mw_ws shX 75 E ςa) H → va_S (mw_A 75 E) s_.heap H locs → ∀ (ls : Array Slot), lv_has ls 4 [(0, .ref (mw_a E (67 + k))), (1, .int so), (2, .int n), (3, .int (nI j))] → xWv p_ l e_ (rmF 3 106) s_ m_ [.ref (mw_a E (67 + k)), .int so, .int n] below meth c_ E (fun u => xShb σ k so n 40 u) H locs (F0 m_ 17 ls []) := by
    intro N
    induction N with
    | zero => intros; exfalso; omega
    | succ N iha =>
      intro j ςa H locs hNa hj fra hP hS ls hl
      refine lv_iload_n C.1 C.2.1 dX5_become_17 rfl (lv_at hl 3 rfl) ?_
      refine lv_bipush (v := 40) C.1 C.2.1 dX5_become_18 (by decide) ?_
      refine lv_icmp_ge (tgt := 36) C.1 C.2.1 dX5_become_20 (by decide) (fun c4 => ?_) (fun c4 => ?_)
      · have c4 := (nI_leI (a := 40) (by decide) (by omega)).mp c4
        have ej : j = 40 := by omega
        exact mw_vret C hr hlk Z hP hS dX5_become_36 (ej ▸ fra)
      · have c4 := (not_congr (nI_leI (a := 40) (by decide) (by omega))).mp c4
        refine lv_aload_n C.1 C.2.1 dX5_become_23 rfl (lv_at hl 0 rfl) ?_
        refine mw_getr C Z hP (67 + k) 2 (71 + k) (by omega) (sx_sh (by omega)) rfl rfl (by decide) inX5 tw_2_12 dX5_become_24 ?_
        refine lv_iload_n C.1 C.2.1 dX5_become_27 rfl (lv_at hl 3 rfl) ?_
        refine lv_iconst (v := 0) C.1 C.2.1 dX5_become_28 (by decide) ?_
        refine mw_iast C Z hP hS (71 + k) (j) (by omega) (sx_ce (by omega)) (Nat.lt_of_lt_of_le (by decide : 40 < 961) (Nat.le_of_ble_eq_true rfl)) rfl (by omega) dX5_become_29 (fun H locs hP hS => ?_)
        refine lv_iinc (v := nI (j + 1)) (lv' := [(3, .int (nI (j + 1))), (0, .ref (mw_a E (67 + k))), (1, .int so), (2, .int n)]) C.1 C.2.1 dX5_become_30 hl (k := 3) rfl (nI_1 _) (by decide) rfl (fun ls hl => ?_)
        refine lv_goto (tgt := 17) C.1 C.2.1 dX5_become_33 (by decide) ?_
        exact iha (j + 1) (mw_sa ςa (71 + k) j 0) _ _ (by omega) (by omega) fra.next hP hS ls (lv_sub hl [1, 2, 3, 0] rfl)
  exact lpa (41) 0 (mw_si (mw_si σ (67 + k) 0 so) (67 + k) 1 (wI n 0 40)) _ _ (by omega) (by omega) ⟨rfl, rfl, by rw [zF_0, up_self]; rfl⟩ hP hS ls (lv_sub hl [1, 2, 3, 0] rfl)

set_option maxHeartbeats 4000000 in
set_option maxRecDepth 100000 in
theorem cX_put (l : Launch) (E : mw_E) (σ : mw_M) (k : Nat) (hk : k < 4) (m : Nat) (hm : σ.1 (67 + k) 1 = nI m) (hm4 : m ≤ 40) (q : Nat) (hq : q < m) (v : Int32) : mw_Cv shX 75 gX l yX5_put cX5_put 3 none (rmF 2 86) E [.ref (mw_a E (67 + k)), .int (nI q), .int v] σ (fun u => u = mw_sa σ (71 + k) q (narF (σ.1 (67 + k) 0) v)) := by
  refine mw_of (by decide) gX_ok (Nat.le_of_ble_eq_true rfl) ?_
  intro p_ e_ s_ m_ below meth c_ C hr hlk Z hP ls hl
  have C : CallFix p_ m_ c_ cX5_put 3 s_ _ lw_good RX5 := C
  have hl : lv_has ls 3 [(0, .ref (mw_a E (67 + k))), (1, .int (nI q)), (2, .int v)] := hl
  have hS : va_S (mw_A 75 E) s_.heap s_.heap [] := va_S.rf
  refine lv_aload_n C.1 C.2.1 dX5_put_0 rfl (lv_at hl 0 rfl) ?_
  refine lv_iload_n C.1 C.2.1 dX5_put_1 rfl (lv_at hl 1 rfl) ?_
  refine lv_iconst (v := 1) C.1 C.2.1 dX5_put_2 (by decide) ?_
  refine mw_cVi (As := [.int (nI q), .int 1]) (rest := []) C Z hP hS (67 + k) (cX_holds l E σ k (by omega) m hm hm4 (nI q) (1 : Int32)) vb_X5_holds tw_4_86 ⟨rfl, rfl⟩ ⟨Nat.le_of_ble_eq_true rfl, Nat.le_of_ble_eq_true rfl⟩ (by omega) (sx_sh (by omega)) rfl rfl rfl hl.1 rfl (Nat.le_of_ble_eq_true rfl) dX5_put_3 ⟨Nat.zero_le _, Nat.zero_le _⟩ (fun r1 u2 H locs q3 hP hS => ?_)
  obtain ⟨rfl, q3u⟩ := q3
  rw [q3u] at hP; clear q3u
  refine lv_if_ne (tgt := 10) C.1 C.2.1 dX5_put_6 (by decide) (fun c4 => ?_) (fun c4 => ?_)
  · have c4 := bI_n.mp c4
    refine lv_aload_n C.1 C.2.1 dX5_put_10 rfl (lv_at hl 0 rfl) ?_
    refine mw_geti C Z hP (67 + k) 0 (by omega) (sx_sh (by omega)) rfl rfl (by decide) inX5 tw_2_8 dX5_put_11 ?_
    refine lv_if_ne (tgt := 28) C.1 C.2.1 dX5_put_14 (by decide) (fun c5 => ?_) (fun c5 => ?_)
    · refine lv_aload_n C.1 C.2.1 dX5_put_28 rfl (lv_at hl 0 rfl) ?_
      refine mw_geti C Z hP (67 + k) 0 (by omega) (sx_sh (by omega)) rfl rfl (by decide) inX5 tw_2_8 dX5_put_29 ?_
      refine lv_iconst (v := 1) C.1 C.2.1 dX5_put_32 (by decide) ?_
      refine lv_icmp_ne (tgt := 47) C.1 C.2.1 dX5_put_33 (by decide) (fun c6 => ?_) (fun c6 => ?_)
      · refine lv_aload_n C.1 C.2.1 dX5_put_47 rfl (lv_at hl 0 rfl) ?_
        refine mw_getr C Z hP (67 + k) 2 (71 + k) (by omega) (sx_sh (by omega)) rfl rfl (by decide) inX5 tw_2_12 dX5_put_48 ?_
        refine lv_iload_n C.1 C.2.1 dX5_put_51 rfl (lv_at hl 1 rfl) ?_
        refine lv_iload_n C.1 C.2.1 dX5_put_52 rfl (lv_at hl 2 rfl) ?_
        refine mw_iast C Z hP hS (71 + k) (q) (by omega) (sx_ce (by omega)) (Nat.lt_of_lt_of_le (by decide : 40 < 961) (Nat.le_of_ble_eq_true rfl)) rfl (by omega) dX5_put_53 (fun H locs hP hS => ?_)
        exact mw_vret C hr hlk Z hP hS dX5_put_54 (by unfold narF; simp [c5, c6])
      · refine lv_aload_n C.1 C.2.1 dX5_put_36 rfl (lv_at hl 0 rfl) ?_
        refine mw_getr C Z hP (67 + k) 2 (71 + k) (by omega) (sx_sh (by omega)) rfl rfl (by decide) inX5 tw_2_12 dX5_put_37 ?_
        refine lv_iload_n C.1 C.2.1 dX5_put_40 rfl (lv_at hl 1 rfl) ?_
        refine lv_iload_n C.1 C.2.1 dX5_put_41 rfl (lv_at hl 2 rfl) ?_
        refine lv_i2s C.1 C.2.1 dX5_put_42 rfl ?_
        refine mw_iast C Z hP hS (71 + k) (q) (by omega) (sx_ce (by omega)) (Nat.lt_of_lt_of_le (by decide : 40 < 961) (Nat.le_of_ble_eq_true rfl)) rfl (by omega) dX5_put_43 (fun H locs hP hS => ?_)
        refine lv_goto (tgt := 54) C.1 C.2.1 dX5_put_44 (by decide) ?_
        exact mw_vret C hr hlk Z hP hS dX5_put_54 (by unfold narF; simp [c5, c6])
    · refine lv_aload_n C.1 C.2.1 dX5_put_17 rfl (lv_at hl 0 rfl) ?_
      refine mw_getr C Z hP (67 + k) 2 (71 + k) (by omega) (sx_sh (by omega)) rfl rfl (by decide) inX5 tw_2_12 dX5_put_18 ?_
      refine lv_iload_n C.1 C.2.1 dX5_put_21 rfl (lv_at hl 1 rfl) ?_
      refine lv_iload_n C.1 C.2.1 dX5_put_22 rfl (lv_at hl 2 rfl) ?_
      refine lv_i2b C.1 C.2.1 dX5_put_23 rfl ?_
      refine mw_iast C Z hP hS (71 + k) (q) (by omega) (sx_ce (by omega)) (Nat.lt_of_lt_of_le (by decide : 40 < 961) (Nat.le_of_ble_eq_true rfl)) rfl (by omega) dX5_put_24 (fun H locs hP hS => ?_)
      refine lv_goto (tgt := 54) C.1 C.2.1 dX5_put_25 (by decide) ?_
      exact mw_vret C hr hlk Z hP hS dX5_put_54 (by unfold narF; simp [c5])
  · have c4 := bI_0.mp c4
    exact absurd ⟨by decide, by rw [nI_toInt (by omega)]; omega, by rw [nI_toInt (by omega)]; omega, by rw [nI_toInt (by omega)]; have : (1 : Int32).toInt = 1 := rfl; omega⟩ c4

set_option maxHeartbeats 4000000 in
set_option maxRecDepth 100000 in
theorem cX_take (l : Launch) (E : mw_E) (σ : mw_M) (n : Nat) (hn : σ.1 31 1 = nI n) (h6 : n ≤ 160) (v : Int32) : mw_Ci shX 75 gX l yX7_take cX7_take 2 (some .boolean) (rmF 1 64) E [.ref (mw_a E 31), .int v] σ (fun r u => (n < 160 → r = 1 ∧ u = mw_si (mw_sa σ 32 n v) 31 1 (nI (n + 1))) ∧ (n = 160 → r = 0 ∧ u = σ)) := by
  refine mw_of (by decide) gX_ok (Nat.le_of_ble_eq_true rfl) ?_
  intro p_ e_ s_ m_ below meth c_ C hr hlk Z hP ls hl
  have C : CallFix p_ m_ c_ cX7_take 2 s_ _ lw_good RX7 := C
  have hl : lv_has ls 2 [(0, .ref (mw_a E 31)), (1, .int v)] := hl
  have hS : va_S (mw_A 75 E) s_.heap s_.heap [] := va_S.rf
  refine lv_aload_n C.1 C.2.1 dX7_take_0 rfl (lv_at hl 0 rfl) ?_
  refine mw_geti C Z hP (31) 1 (by decide) sx_31 rfl rfl (by decide) inX7 tw_1_122 dX7_take_1 ?_
  refine mw_top (y := nI n) (hn) ?_
  refine lv_if_lt (tgt := 17) C.1 C.2.1 dX7_take_4 (by decide) (fun c1 => ?_) (fun c1 => ?_)
  · exact absurd c1 (nI_pos (by omega))
  · refine lv_aload_n C.1 C.2.1 dX7_take_7 rfl (lv_at hl 0 rfl) ?_
    refine mw_geti C Z hP (31) 1 (by decide) sx_31 rfl rfl (by decide) inX7 tw_1_122 dX7_take_8 ?_
    refine mw_top (y := nI n) (hn) ?_
    refine lv_sipush (v := 160) C.1 C.2.1 dX7_take_11 (by decide) ?_
    refine lv_icmp_lt (tgt := 19) C.1 C.2.1 dX7_take_14 (by decide) (fun c2 => ?_) (fun c2 => ?_)
    · have c2 := (nI_ltI (b := 160) (by omega) (by decide)).mp c2
      refine lv_aload_n C.1 C.2.1 dX7_take_19 rfl (lv_at hl 0 rfl) ?_
      refine mw_getr C Z hP (31) 0 (32) (by decide) sx_31 rfl rfl (by decide) inX7 tw_1_121 dX7_take_20 ?_
      refine lv_aload_n C.1 C.2.1 dX7_take_23 rfl (lv_at hl 0 rfl) ?_
      refine mw_geti C Z hP (31) 1 (by decide) sx_31 rfl rfl (by decide) inX7 tw_1_122 dX7_take_24 ?_
      refine mw_top (y := nI n) (hn) ?_
      refine lv_iload_n C.1 C.2.1 dX7_take_27 rfl (lv_at hl 1 rfl) ?_
      refine mw_iast C Z hP hS (32) (n) (by decide) sx_32 (Nat.lt_of_lt_of_le (by decide : 160 < 961) (Nat.le_of_ble_eq_true rfl)) rfl (by omega) dX7_take_28 (fun H locs hP hS => ?_)
      refine lv_aload_n C.1 C.2.1 dX7_take_29 rfl (lv_at hl 0 rfl) ?_
      refine lv_dup C.1 C.2.1 dX7_take_30 rfl ?_
      refine mw_geti C Z hP (31) 1 (by decide) sx_31 rfl rfl (by decide) inX7 tw_1_122 dX7_take_31 ?_
      refine mw_top (y := nI n) (hn) ?_
      refine lv_iconst (v := 1) C.1 C.2.1 dX7_take_34 (by decide) ?_
      refine lv_iadd C.1 C.2.1 dX7_take_35 ?_
      refine mw_top (y := nI (n + 1)) (nI_1 _) ?_
      refine mw_puti C Z hP hS (31) 1 (by decide) sx_31 rfl rfl (by decide) inX7 tyX7 tyX7_ok nmX7 rfl tw_1_122 rfl rfl dX7_take_36 (fun H locs hP hS => ?_)
      refine lv_iconst (v := 1) C.1 C.2.1 dX7_take_39 (by decide) ?_
      exact mw_zret C hr hlk Z hP hS rfl dX7_take_40 (⟨fun _ => ⟨rfl, rfl⟩, fun y => absurd y (by omega)⟩)
    · have c2 := (not_congr (nI_ltI (b := 160) (by omega) (by decide))).mp c2
      refine lv_iconst (v := 0) C.1 C.2.1 dX7_take_17 (by decide) ?_
      exact mw_zret C hr hlk Z hP hS rfl dX7_take_18 (⟨fun y => absurd y (by omega), fun _ => ⟨rfl, rfl⟩⟩)

set_option maxHeartbeats 4000000 in
set_option maxRecDepth 100000 in
theorem cX_letterAt (l : Launch) (E : mw_E) (σ : mw_M) (n : Nat) (hn : σ.1 31 1 = nI n) (h6 : n ≤ 160) (h : Nat) (hh : h ≤ 1000) : mw_Ci shX 75 gX l yX7_letterAt cX7_letterAt 2 (some .int) (rmF 1 64) E [.ref (mw_a E 31), .int (nI h)] σ (fun r u => r = byF (σ.2.1 32) n h ∧ u = σ) := by
  refine mw_of (by decide) gX_ok (Nat.le_of_ble_eq_true rfl) ?_
  intro p_ e_ s_ m_ below meth c_ C hr hlk Z hP ls hl
  have C : CallFix p_ m_ c_ cX7_letterAt 2 s_ _ lw_good RX7 := C
  have hl : lv_has ls 2 [(0, .ref (mw_a E 31)), (1, .int (nI h))] := hl
  have hS : va_S (mw_A 75 E) s_.heap s_.heap [] := va_S.rf
  refine lv_iload_n C.1 C.2.1 dX7_letterAt_0 rfl (lv_at hl 1 rfl) ?_
  refine lv_if_lt (tgt := 28) C.1 C.2.1 dX7_letterAt_1 (by decide) (fun c1 => ?_) (fun c1 => ?_)
  · exact absurd c1 (nI_pos (by omega))
  · refine lv_iload_n C.1 C.2.1 dX7_letterAt_4 rfl (lv_at hl 1 rfl) ?_
    refine lv_aload_n C.1 C.2.1 dX7_letterAt_5 rfl (lv_at hl 0 rfl) ?_
    refine mw_geti C Z hP (31) 1 (by decide) sx_31 rfl rfl (by decide) inX7 tw_1_122 dX7_letterAt_6 ?_
    refine mw_top (y := nI n) (hn) ?_
    refine lv_icmp_ge (tgt := 28) C.1 C.2.1 dX7_letterAt_9 (by decide) (fun c2 => ?_) (fun c2 => ?_)
    · have c2 := (nI_leI (by omega) (by omega)).mp c2
      refine lv_iconst (v := -1) C.1 C.2.1 dX7_letterAt_28 (by decide) ?_
      exact mw_iret C hr hlk Z hP hS dX7_letterAt_29 (⟨by unfold byF; rw [if_neg (by omega)], rfl⟩)
    · have c2 : _ := (not_congr (nI_leI (by omega) (by omega))).mp c2
      refine lv_iload_n C.1 C.2.1 dX7_letterAt_12 rfl (lv_at hl 1 rfl) ?_
      refine lv_sipush (v := 160) C.1 C.2.1 dX7_letterAt_13 (by decide) ?_
      refine lv_icmp_ge (tgt := 28) C.1 C.2.1 dX7_letterAt_16 (by decide) (fun c3 => ?_) (fun c3 => ?_)
      · have c3 := (nI_leI (a := 160) (by decide) (by omega)).mp c3
        refine lv_iconst (v := -1) C.1 C.2.1 dX7_letterAt_28 (by decide) ?_
        exact mw_iret C hr hlk Z hP hS dX7_letterAt_29 (⟨by unfold byF; rw [if_neg (by omega)], rfl⟩)
      · have c3 := (not_congr (nI_leI (a := 160) (by decide) (by omega))).mp c3
        refine lv_aload_n C.1 C.2.1 dX7_letterAt_19 rfl (lv_at hl 0 rfl) ?_
        refine mw_getr C Z hP (31) 0 (32) (by decide) sx_31 rfl rfl (by decide) inX7 tw_1_121 dX7_letterAt_20 ?_
        refine lv_iload_n C.1 C.2.1 dX7_letterAt_23 rfl (lv_at hl 1 rfl) ?_
        refine mw_iald C Z hP (32) (h) (by decide) sx_32 (Nat.lt_of_lt_of_le (by decide : 160 < 961) (Nat.le_of_ble_eq_true rfl)) rfl (by omega) dX7_letterAt_24 ?_
        refine lv_goto (tgt := 29) C.1 C.2.1 dX7_letterAt_25 (by decide) ?_
        exact mw_iret C hr hlk Z hP hS dX7_letterAt_29 (⟨by unfold byF; rw [if_pos (by omega)], rfl⟩)

set_option maxHeartbeats 4000000 in
set_option maxRecDepth 100000 in
theorem cX_isBlank (l : Launch) (E : mw_E) (σ : mw_M) (n : Nat) (hn : σ.1 31 1 = nI n) (h6 : n ≤ 160) (h : Nat) (hh : h ≤ 1000) : mw_Ci shX 75 gX l yX7_isBlank cX7_isBlank 3 (some .boolean) (rmF 2 85) E [.ref (mw_a E 31), .int (nI h)] σ (fun r u => r = bI (byF (σ.2.1 32) n h = 32 ∨ byF (σ.2.1 32) n h = 10) ∧ u = σ) := by
  refine mw_of (by decide) gX_ok (Nat.le_of_ble_eq_true rfl) ?_
  intro p_ e_ s_ m_ below meth c_ C hr hlk Z hP ls hl
  have C : CallFix p_ m_ c_ cX7_isBlank 3 s_ _ lw_good RX7 := C
  have hl : lv_has ls 3 [(0, .ref (mw_a E 31)), (1, .int (nI h))] := hl
  have hS : va_S (mw_A 75 E) s_.heap s_.heap [] := va_S.rf
  refine lv_aload_n C.1 C.2.1 dX7_isBlank_0 rfl (lv_at hl 0 rfl) ?_
  refine lv_iload_n C.1 C.2.1 dX7_isBlank_1 rfl (lv_at hl 1 rfl) ?_
  refine mw_cVi (As := [.int (nI h)]) (rest := []) C Z hP hS (31) (cX_letterAt l E σ n hn h6 h (by omega)) vb_X7_letterAt tw_2_93 ⟨rfl, rfl⟩ ⟨Nat.le_of_ble_eq_true rfl, Nat.le_of_ble_eq_true rfl⟩ (by decide) sx_31 rfl rfl rfl hl.1 rfl (Nat.le_of_ble_eq_true rfl) dX7_isBlank_2 ⟨Nat.zero_le _, Nat.zero_le _⟩ (fun r1 u2 H locs q3 hP hS => ?_)
  obtain ⟨rfl, q3u⟩ := q3
  rw [q3u] at hP; clear q3u
  refine lv_istore_n (lv' := [(2, .int (byF (σ.2.1 32) n h)), (0, .ref (mw_a E 31)), (1, .int (nI h))]) C.1 C.2.1 dX7_isBlank_5 rfl hl (by decide) rfl (fun ls hl => ?_)
  refine lv_iload_n C.1 C.2.1 dX7_isBlank_6 rfl (lv_at hl 0 rfl) ?_
  refine lv_bipush (v := 32) C.1 C.2.1 dX7_isBlank_7 (by decide) ?_
  refine lv_icmp_eq (tgt := 18) C.1 C.2.1 dX7_isBlank_9 (by decide) (fun c4 => ?_) (fun c4 => ?_)
  · refine lv_iconst (v := 1) C.1 C.2.1 dX7_isBlank_18 (by decide) ?_
    refine lv_goto (tgt := 23) C.1 C.2.1 dX7_isBlank_19 (by decide) ?_
    exact mw_zret C hr hlk Z hP hS rfl dX7_isBlank_23 (⟨(bI_t (Or.inl c4)).symm, rfl⟩)
  · refine lv_iload_n C.1 C.2.1 dX7_isBlank_12 rfl (lv_at hl 0 rfl) ?_
    refine lv_bipush (v := 10) C.1 C.2.1 dX7_isBlank_13 (by decide) ?_
    refine lv_icmp_ne (tgt := 22) C.1 C.2.1 dX7_isBlank_15 (by decide) (fun c5 => ?_) (fun c5 => ?_)
    · refine lv_iconst (v := 0) C.1 C.2.1 dX7_isBlank_22 (by decide) ?_
      exact mw_zret C hr hlk Z hP hS rfl dX7_isBlank_23 (⟨(bI_f (fun y => y.elim c4 c5)).symm, rfl⟩)
    · refine lv_iconst (v := 1) C.1 C.2.1 dX7_isBlank_18 (by decide) ?_
      refine lv_goto (tgt := 23) C.1 C.2.1 dX7_isBlank_19 (by decide) ?_
      exact mw_zret C hr hlk Z hP hS rfl dX7_isBlank_23 (⟨(bI_t (Or.inr c5)).symm, rfl⟩)

set_option maxHeartbeats 4000000 in
set_option maxRecDepth 100000 in
theorem cX_isSmall (l : Launch) (E : mw_E) (σ : mw_M) (n : Nat) (hn : σ.1 31 1 = nI n) (h6 : n ≤ 160) (h : Nat) (hh : h ≤ 1000) : mw_Ci shX 75 gX l yX7_isSmall cX7_isSmall 3 (some .boolean) (rmF 2 85) E [.ref (mw_a E 31), .int (nI h)] σ (fun r u => r = bI (97 ≤ (byF (σ.2.1 32) n h).toInt ∧ (byF (σ.2.1 32) n h).toInt ≤ 122) ∧ u = σ) := by
  refine mw_of (by decide) gX_ok (Nat.le_of_ble_eq_true rfl) ?_
  intro p_ e_ s_ m_ below meth c_ C hr hlk Z hP ls hl
  have C : CallFix p_ m_ c_ cX7_isSmall 3 s_ _ lw_good RX7 := C
  have hl : lv_has ls 3 [(0, .ref (mw_a E 31)), (1, .int (nI h))] := hl
  have hS : va_S (mw_A 75 E) s_.heap s_.heap [] := va_S.rf
  refine lv_aload_n C.1 C.2.1 dX7_isSmall_0 rfl (lv_at hl 0 rfl) ?_
  refine lv_iload_n C.1 C.2.1 dX7_isSmall_1 rfl (lv_at hl 1 rfl) ?_
  refine mw_cVi (As := [.int (nI h)]) (rest := []) C Z hP hS (31) (cX_letterAt l E σ n hn h6 h (by omega)) vb_X7_letterAt tw_2_93 ⟨rfl, rfl⟩ ⟨Nat.le_of_ble_eq_true rfl, Nat.le_of_ble_eq_true rfl⟩ (by decide) sx_31 rfl rfl rfl hl.1 rfl (Nat.le_of_ble_eq_true rfl) dX7_isSmall_2 ⟨Nat.zero_le _, Nat.zero_le _⟩ (fun r1 u2 H locs q3 hP hS => ?_)
  obtain ⟨rfl, q3u⟩ := q3
  rw [q3u] at hP; clear q3u
  refine lv_istore_n (lv' := [(2, .int (byF (σ.2.1 32) n h)), (0, .ref (mw_a E 31)), (1, .int (nI h))]) C.1 C.2.1 dX7_isSmall_5 rfl hl (by decide) rfl (fun ls hl => ?_)
  refine lv_iload_n C.1 C.2.1 dX7_isSmall_6 rfl (lv_at hl 0 rfl) ?_
  refine lv_bipush (v := 97) C.1 C.2.1 dX7_isSmall_7 (by decide) ?_
  refine lv_icmp_lt (tgt := 22) C.1 C.2.1 dX7_isSmall_9 (by decide) (fun c4 => ?_) (fun c4 => ?_)
  · refine lv_iconst (v := 0) C.1 C.2.1 dX7_isSmall_22 (by decide) ?_
    exact mw_zret C hr hlk Z hP hS rfl dX7_isSmall_23 (⟨(bI_f (by simp only [ni_lt, ni_le] at c4; have : (97 : Int32).toInt = 97 := rfl; have : (122 : Int32).toInt = 122 := rfl; have : (48 : Int32).toInt = 48 := rfl; have : (57 : Int32).toInt = 57 := rfl; omega)).symm, rfl⟩)
  · refine lv_iload_n C.1 C.2.1 dX7_isSmall_12 rfl (lv_at hl 0 rfl) ?_
    refine lv_bipush (v := 122) C.1 C.2.1 dX7_isSmall_13 (by decide) ?_
    refine lv_icmp_gt (tgt := 22) C.1 C.2.1 dX7_isSmall_15 (by decide) (fun c5 => ?_) (fun c5 => ?_)
    · refine lv_iconst (v := 0) C.1 C.2.1 dX7_isSmall_22 (by decide) ?_
      exact mw_zret C hr hlk Z hP hS rfl dX7_isSmall_23 (⟨(bI_f (by simp only [ni_lt, ni_le] at c4 c5; have : (97 : Int32).toInt = 97 := rfl; have : (122 : Int32).toInt = 122 := rfl; have : (48 : Int32).toInt = 48 := rfl; have : (57 : Int32).toInt = 57 := rfl; omega)).symm, rfl⟩)
    · refine lv_iconst (v := 1) C.1 C.2.1 dX7_isSmall_18 (by decide) ?_
      refine lv_goto (tgt := 23) C.1 C.2.1 dX7_isSmall_19 (by decide) ?_
      exact mw_zret C hr hlk Z hP hS rfl dX7_isSmall_23 (⟨(bI_t (by simp only [ni_lt, ni_le] at c4 c5; have : (97 : Int32).toInt = 97 := rfl; have : (122 : Int32).toInt = 122 := rfl; have : (48 : Int32).toInt = 48 := rfl; have : (57 : Int32).toInt = 57 := rfl; omega)).symm, rfl⟩)

set_option maxHeartbeats 4000000 in
set_option maxRecDepth 100000 in
theorem cX_isDigit (l : Launch) (E : mw_E) (σ : mw_M) (n : Nat) (hn : σ.1 31 1 = nI n) (h6 : n ≤ 160) (h : Nat) (hh : h ≤ 1000) : mw_Ci shX 75 gX l yX7_isDigit cX7_isDigit 3 (some .boolean) (rmF 2 85) E [.ref (mw_a E 31), .int (nI h)] σ (fun r u => r = bI (48 ≤ (byF (σ.2.1 32) n h).toInt ∧ (byF (σ.2.1 32) n h).toInt ≤ 57) ∧ u = σ) := by
  refine mw_of (by decide) gX_ok (Nat.le_of_ble_eq_true rfl) ?_
  intro p_ e_ s_ m_ below meth c_ C hr hlk Z hP ls hl
  have C : CallFix p_ m_ c_ cX7_isDigit 3 s_ _ lw_good RX7 := C
  have hl : lv_has ls 3 [(0, .ref (mw_a E 31)), (1, .int (nI h))] := hl
  have hS : va_S (mw_A 75 E) s_.heap s_.heap [] := va_S.rf
  refine lv_aload_n C.1 C.2.1 dX7_isDigit_0 rfl (lv_at hl 0 rfl) ?_
  refine lv_iload_n C.1 C.2.1 dX7_isDigit_1 rfl (lv_at hl 1 rfl) ?_
  refine mw_cVi (As := [.int (nI h)]) (rest := []) C Z hP hS (31) (cX_letterAt l E σ n hn h6 h (by omega)) vb_X7_letterAt tw_2_93 ⟨rfl, rfl⟩ ⟨Nat.le_of_ble_eq_true rfl, Nat.le_of_ble_eq_true rfl⟩ (by decide) sx_31 rfl rfl rfl hl.1 rfl (Nat.le_of_ble_eq_true rfl) dX7_isDigit_2 ⟨Nat.zero_le _, Nat.zero_le _⟩ (fun r1 u2 H locs q3 hP hS => ?_)
  obtain ⟨rfl, q3u⟩ := q3
  rw [q3u] at hP; clear q3u
  refine lv_istore_n (lv' := [(2, .int (byF (σ.2.1 32) n h)), (0, .ref (mw_a E 31)), (1, .int (nI h))]) C.1 C.2.1 dX7_isDigit_5 rfl hl (by decide) rfl (fun ls hl => ?_)
  refine lv_iload_n C.1 C.2.1 dX7_isDigit_6 rfl (lv_at hl 0 rfl) ?_
  refine lv_bipush (v := 48) C.1 C.2.1 dX7_isDigit_7 (by decide) ?_
  refine lv_icmp_lt (tgt := 22) C.1 C.2.1 dX7_isDigit_9 (by decide) (fun c4 => ?_) (fun c4 => ?_)
  · refine lv_iconst (v := 0) C.1 C.2.1 dX7_isDigit_22 (by decide) ?_
    exact mw_zret C hr hlk Z hP hS rfl dX7_isDigit_23 (⟨(bI_f (by simp only [ni_lt, ni_le] at c4; have : (97 : Int32).toInt = 97 := rfl; have : (122 : Int32).toInt = 122 := rfl; have : (48 : Int32).toInt = 48 := rfl; have : (57 : Int32).toInt = 57 := rfl; omega)).symm, rfl⟩)
  · refine lv_iload_n C.1 C.2.1 dX7_isDigit_12 rfl (lv_at hl 0 rfl) ?_
    refine lv_bipush (v := 57) C.1 C.2.1 dX7_isDigit_13 (by decide) ?_
    refine lv_icmp_gt (tgt := 22) C.1 C.2.1 dX7_isDigit_15 (by decide) (fun c5 => ?_) (fun c5 => ?_)
    · refine lv_iconst (v := 0) C.1 C.2.1 dX7_isDigit_22 (by decide) ?_
      exact mw_zret C hr hlk Z hP hS rfl dX7_isDigit_23 (⟨(bI_f (by simp only [ni_lt, ni_le] at c4 c5; have : (97 : Int32).toInt = 97 := rfl; have : (122 : Int32).toInt = 122 := rfl; have : (48 : Int32).toInt = 48 := rfl; have : (57 : Int32).toInt = 57 := rfl; omega)).symm, rfl⟩)
    · refine lv_iconst (v := 1) C.1 C.2.1 dX7_isDigit_18 (by decide) ?_
      refine lv_goto (tgt := 23) C.1 C.2.1 dX7_isDigit_19 (by decide) ?_
      exact mw_zret C hr hlk Z hP hS rfl dX7_isDigit_23 (⟨(bI_t (by simp only [ni_lt, ni_le] at c4 c5; have : (97 : Int32).toInt = 97 := rfl; have : (122 : Int32).toInt = 122 := rfl; have : (48 : Int32).toInt = 48 := rfl; have : (57 : Int32).toInt = 57 := rfl; omega)).symm, rfl⟩)

set_option maxHeartbeats 4000000 in
set_option maxRecDepth 100000 in
theorem cX_hasT (l : Launch) (E : mw_E) (σ : mw_M) (tc : Nat) (htc : σ.1 37 1 = nI tc) (h6 : tc ≤ 6) (v : Int32) : mw_Ci shX 75 gX l yX9_has cX9_has 2 (some .boolean) (rmF 1 64) E [.ref (mw_a E 37), .int v] σ (fun r u => r = bI (0 ≤ v.toInt ∧ v.toInt < tc) ∧ u = σ) := by
  refine mw_of (by decide) gX_ok (Nat.le_of_ble_eq_true rfl) ?_
  intro p_ e_ s_ m_ below meth c_ C hr hlk Z hP ls hl
  have C : CallFix p_ m_ c_ cX9_has 2 s_ _ lw_good RX9 := C
  have hl : lv_has ls 2 [(0, .ref (mw_a E 37)), (1, .int v)] := hl
  have hS : va_S (mw_A 75 E) s_.heap s_.heap [] := va_S.rf
  refine lv_iload_n C.1 C.2.1 dX9_has_0 rfl (lv_at hl 1 rfl) ?_
  refine lv_if_lt (tgt := 22) C.1 C.2.1 dX9_has_1 (by decide) (fun c1 => ?_) (fun c1 => ?_)
  · refine lv_iconst (v := 0) C.1 C.2.1 dX9_has_22 (by decide) ?_
    exact mw_zret C hr hlk Z hP hS rfl dX9_has_23 (⟨(bI_f (by simp only [ni_lt, ni_le] at c1; have q6 : (6 : Int32).toInt = 6 := rfl; have q0 := zero32; have qn := nI_toInt (n := tc) (by omega); omega)).symm, rfl⟩)
  · refine lv_iload_n C.1 C.2.1 dX9_has_4 rfl (lv_at hl 1 rfl) ?_
    refine lv_aload_n C.1 C.2.1 dX9_has_5 rfl (lv_at hl 0 rfl) ?_
    refine mw_geti C Z hP (37) 1 (by decide) sx_37 rfl rfl (by decide) inX9 tw_1_192 dX9_has_6 ?_
    refine mw_top (y := nI tc) (htc) ?_
    refine lv_icmp_ge (tgt := 22) C.1 C.2.1 dX9_has_9 (by decide) (fun c2 => ?_) (fun c2 => ?_)
    · refine lv_iconst (v := 0) C.1 C.2.1 dX9_has_22 (by decide) ?_
      exact mw_zret C hr hlk Z hP hS rfl dX9_has_23 (⟨(bI_f (by simp only [ni_lt, ni_le] at c1 c2; have q6 : (6 : Int32).toInt = 6 := rfl; have q0 := zero32; have qn := nI_toInt (n := tc) (by omega); omega)).symm, rfl⟩)
    · refine lv_iload_n C.1 C.2.1 dX9_has_12 rfl (lv_at hl 1 rfl) ?_
      refine lv_bipush (v := 6) C.1 C.2.1 dX9_has_13 (by decide) ?_
      refine lv_icmp_ge (tgt := 22) C.1 C.2.1 dX9_has_15 (by decide) (fun c3 => ?_) (fun c3 => ?_)
      · refine lv_iconst (v := 0) C.1 C.2.1 dX9_has_22 (by decide) ?_
        exact mw_zret C hr hlk Z hP hS rfl dX9_has_23 (⟨(bI_f (by simp only [ni_lt, ni_le] at c1 c2 c3; have q6 : (6 : Int32).toInt = 6 := rfl; have q0 := zero32; have qn := nI_toInt (n := tc) (by omega); omega)).symm, rfl⟩)
      · refine lv_iconst (v := 1) C.1 C.2.1 dX9_has_18 (by decide) ?_
        refine lv_goto (tgt := 23) C.1 C.2.1 dX9_has_19 (by decide) ?_
        exact mw_zret C hr hlk Z hP hS rfl dX9_has_23 (⟨(bI_t (by simp only [ni_lt, ni_le] at c1 c2 c3; have q6 : (6 : Int32).toInt = 6 := rfl; have q0 := zero32; have qn := nI_toInt (n := tc) (by omega); omega)).symm, rfl⟩)

set_option maxHeartbeats 4000000 in
set_option maxRecDepth 100000 in
theorem cX_ruleOf (l : Launch) (E : mw_E) (σ : mw_M) (s : Nat) (hs : s < 3) (tc : Nat) (htc : σ.1 37 1 = nI tc) (h6 : tc ≤ 6) (t : Nat) (ht : t < tc) (h5 : σ.1 s 5 = nI t) : mw_Cr shX 75 gX l yX9_ruleOf cX9_ruleOf 2 (some (.object "OneCubeEach$Text")) (rmF 2 85) E [.ref (mw_a E 37), .ref (mw_a E (s))] σ (fun u => u = σ) (mw_a E (39 + t)) := by
  refine mw_of (by decide) gX_ok (Nat.le_of_ble_eq_true rfl) ?_
  intro p_ e_ s_ m_ below meth c_ C hr hlk Z hP ls hl
  have C : CallFix p_ m_ c_ cX9_ruleOf 2 s_ _ lw_good RX9 := C
  have hl : lv_has ls 2 [(0, .ref (mw_a E 37)), (1, .ref (mw_a E (s)))] := hl
  have hS : va_S (mw_A 75 E) s_.heap s_.heap [] := va_S.rf
  refine lv_aload_n C.1 C.2.1 dX9_ruleOf_0 rfl (lv_at hl 0 rfl) ?_
  refine lv_aload_n C.1 C.2.1 dX9_ruleOf_1 rfl (lv_at hl 1 rfl) ?_
  refine mw_geti C Z hP (s) 5 (by omega) (sx_st (by omega)) rfl rfl (by decide) inX6 tw_1_90 dX9_ruleOf_2 ?_
  refine mw_top (y := nI t) (h5) ?_
  refine mw_cVi (As := [.int (nI t)]) (rest := []) C Z hP hS (37) (cX_hasT l E σ tc htc h6 (nI t)) vb_X9_has tw_3_89 ⟨rfl, rfl⟩ ⟨Nat.le_of_ble_eq_true rfl, Nat.le_of_ble_eq_true rfl⟩ (by decide) sx_37 rfl rfl rfl hl.1 rfl (Nat.le_of_ble_eq_true rfl) dX9_ruleOf_5 ⟨Nat.zero_le _, Nat.zero_le _⟩ (fun r1 u2 H locs q3 hP hS => ?_)
  obtain ⟨rfl, q3u⟩ := q3
  rw [q3u] at hP; clear q3u
  refine lv_if_eq (tgt := 23) C.1 C.2.1 dX9_ruleOf_8 (by decide) (fun c4 => ?_) (fun c4 => ?_)
  · have c4 := bI_0.mp c4
    exact absurd ⟨by rw [nI_toInt (by omega)]; omega, by rw [nI_toInt (by omega)]; omega⟩ c4
  · have c4 := bI_n.mp c4
    refine lv_aload_n C.1 C.2.1 dX9_ruleOf_11 rfl (lv_at hl 0 rfl) ?_
    refine mw_getr C Z hP (37) 0 (38) (by decide) sx_37 rfl rfl (by decide) inX9 tw_1_190 dX9_ruleOf_12 ?_
    refine lv_aload_n C.1 C.2.1 dX9_ruleOf_15 rfl (lv_at hl 1 rfl) ?_
    refine mw_geti C Z hP (s) 5 (by omega) (sx_st (by omega)) rfl rfl (by decide) inX6 tw_1_90 dX9_ruleOf_16 ?_
    refine mw_top (y := nI t) (h5) ?_
    refine mw_aald C Z hP (38) (t) (by decide) sx_38 (by decide) rfl (Nat.lt_of_lt_of_le (by decide : 6 < 961) (Nat.le_of_ble_eq_true rfl)) rfl (by omega) dX9_ruleOf_19 ?_
    refine lv_goto (tgt := 29) C.1 C.2.1 dX9_ruleOf_20 (by decide) ?_
    exact mw_aret C hr hlk Z hP hS (Or.inl ⟨_, rfl⟩) dX9_ruleOf_29 (rfl)

set_option maxHeartbeats 4000000 in
set_option maxRecDepth 100000 in
theorem cX_tokenAt (l : Launch) (E : mw_E) (σ : mw_M) (L : Nat) (hL : σ.1 34 2 = nI L) (h61 : L ≤ 161) (a : Nat) (ha : a ≤ 1000) : mw_Ci shX 75 gX l yX10_tokenAt cX10_tokenAt 2 (some .int) (rmF 1 64) E [.ref (mw_a E 34), .int (nI a)] σ (fun r u => r = (if a < L then σ.2.1 35 a else 21) ∧ u = σ) := by
  refine mw_of (by decide) gX_ok (Nat.le_of_ble_eq_true rfl) ?_
  intro p_ e_ s_ m_ below meth c_ C hr hlk Z hP ls hl
  have C : CallFix p_ m_ c_ cX10_tokenAt 2 s_ _ lw_good RX10 := C
  have hl : lv_has ls 2 [(0, .ref (mw_a E 34)), (1, .int (nI a))] := hl
  have hS : va_S (mw_A 75 E) s_.heap s_.heap [] := va_S.rf
  refine lv_iload_n C.1 C.2.1 dX10_tokenAt_0 rfl (lv_at hl 1 rfl) ?_
  refine lv_if_lt (tgt := 30) C.1 C.2.1 dX10_tokenAt_1 (by decide) (fun c1 => ?_) (fun c1 => ?_)
  · exact absurd c1 (nI_pos (by omega))
  · refine lv_iload_n C.1 C.2.1 dX10_tokenAt_4 rfl (lv_at hl 1 rfl) ?_
    refine lv_aload_n C.1 C.2.1 dX10_tokenAt_5 rfl (lv_at hl 0 rfl) ?_
    refine mw_geti C Z hP (34) 2 (by decide) sx_34 rfl rfl (by decide) inX10 tw_1_145 dX10_tokenAt_6 ?_
    refine mw_top (y := nI L) (hL) ?_
    refine lv_icmp_ge (tgt := 30) C.1 C.2.1 dX10_tokenAt_9 (by decide) (fun c2 => ?_) (fun c2 => ?_)
    · have c2 := (nI_leI (by omega) (by omega)).mp c2
      refine lv_bipush (v := 21) C.1 C.2.1 dX10_tokenAt_30 (by decide) ?_
      exact mw_iret C hr hlk Z hP hS dX10_tokenAt_32 (⟨by rw [if_neg (by omega)], rfl⟩)
    · have c2 : _ := (not_congr (nI_leI (by omega) (by omega))).mp c2
      refine lv_iload_n C.1 C.2.1 dX10_tokenAt_12 rfl (lv_at hl 1 rfl) ?_
      refine lv_aload_n C.1 C.2.1 dX10_tokenAt_13 rfl (lv_at hl 0 rfl) ?_
      refine mw_getr C Z hP (34) 0 (35) (by decide) sx_34 rfl rfl (by decide) inX10 tw_1_143 dX10_tokenAt_14 ?_
      refine mw_alen C Z hP (35) (by decide) sx_35 dX10_tokenAt_17 ?_
      refine lv_icmp_ge (tgt := 30) C.1 C.2.1 dX10_tokenAt_18 (by decide) (fun c3 => ?_) (fun c3 => ?_)
      · have c3 := (nI_leI (by omega) (by omega)).mp c3
        refine lv_bipush (v := 21) C.1 C.2.1 dX10_tokenAt_30 (by decide) ?_
        exact mw_iret C hr hlk Z hP hS dX10_tokenAt_32 (⟨by rw [if_neg (by omega)], rfl⟩)
      · have c3 : _ := (not_congr (nI_leI (by omega) (by omega))).mp c3
        refine lv_aload_n C.1 C.2.1 dX10_tokenAt_21 rfl (lv_at hl 0 rfl) ?_
        refine mw_getr C Z hP (34) 0 (35) (by decide) sx_34 rfl rfl (by decide) inX10 tw_1_143 dX10_tokenAt_22 ?_
        refine lv_iload_n C.1 C.2.1 dX10_tokenAt_25 rfl (lv_at hl 1 rfl) ?_
        refine mw_iald C Z hP (35) (a) (by decide) sx_35 (Nat.lt_of_lt_of_le (by decide : 161 < 961) (Nat.le_of_ble_eq_true rfl)) rfl (by omega) dX10_tokenAt_26 ?_
        refine lv_goto (tgt := 32) C.1 C.2.1 dX10_tokenAt_27 (by decide) ?_
        exact mw_iret C hr hlk Z hP hS dX10_tokenAt_32 (⟨by rw [if_pos (by omega)], rfl⟩)

set_option maxHeartbeats 4000000 in
set_option maxRecDepth 100000 in
theorem cX_placeAt (l : Launch) (E : mw_E) (σ : mw_M) (L : Nat) (hL : σ.1 34 2 = nI L) (h61 : L ≤ 161) (a : Nat) (ha : a ≤ 1000) : mw_Ci shX 75 gX l yX10_placeAt cX10_placeAt 2 (some .int) (rmF 1 64) E [.ref (mw_a E 34), .int (nI a)] σ (fun r u => r = (if a < L then σ.2.1 36 a else 0) ∧ u = σ) := by
  refine mw_of (by decide) gX_ok (Nat.le_of_ble_eq_true rfl) ?_
  intro p_ e_ s_ m_ below meth c_ C hr hlk Z hP ls hl
  have C : CallFix p_ m_ c_ cX10_placeAt 2 s_ _ lw_good RX10 := C
  have hl : lv_has ls 2 [(0, .ref (mw_a E 34)), (1, .int (nI a))] := hl
  have hS : va_S (mw_A 75 E) s_.heap s_.heap [] := va_S.rf
  refine lv_iload_n C.1 C.2.1 dX10_placeAt_0 rfl (lv_at hl 1 rfl) ?_
  refine lv_if_lt (tgt := 30) C.1 C.2.1 dX10_placeAt_1 (by decide) (fun c1 => ?_) (fun c1 => ?_)
  · exact absurd c1 (nI_pos (by omega))
  · refine lv_iload_n C.1 C.2.1 dX10_placeAt_4 rfl (lv_at hl 1 rfl) ?_
    refine lv_aload_n C.1 C.2.1 dX10_placeAt_5 rfl (lv_at hl 0 rfl) ?_
    refine mw_geti C Z hP (34) 2 (by decide) sx_34 rfl rfl (by decide) inX10 tw_1_145 dX10_placeAt_6 ?_
    refine mw_top (y := nI L) (hL) ?_
    refine lv_icmp_ge (tgt := 30) C.1 C.2.1 dX10_placeAt_9 (by decide) (fun c2 => ?_) (fun c2 => ?_)
    · have c2 := (nI_leI (by omega) (by omega)).mp c2
      refine lv_iconst (v := 0) C.1 C.2.1 dX10_placeAt_30 (by decide) ?_
      exact mw_iret C hr hlk Z hP hS dX10_placeAt_31 (⟨by rw [if_neg (by omega)], rfl⟩)
    · have c2 : _ := (not_congr (nI_leI (by omega) (by omega))).mp c2
      refine lv_iload_n C.1 C.2.1 dX10_placeAt_12 rfl (lv_at hl 1 rfl) ?_
      refine lv_aload_n C.1 C.2.1 dX10_placeAt_13 rfl (lv_at hl 0 rfl) ?_
      refine mw_getr C Z hP (34) 1 (36) (by decide) sx_34 rfl rfl (by decide) inX10 tw_1_144 dX10_placeAt_14 ?_
      refine mw_alen C Z hP (36) (by decide) sx_36 dX10_placeAt_17 ?_
      refine lv_icmp_ge (tgt := 30) C.1 C.2.1 dX10_placeAt_18 (by decide) (fun c3 => ?_) (fun c3 => ?_)
      · have c3 := (nI_leI (by omega) (by omega)).mp c3
        refine lv_iconst (v := 0) C.1 C.2.1 dX10_placeAt_30 (by decide) ?_
        exact mw_iret C hr hlk Z hP hS dX10_placeAt_31 (⟨by rw [if_neg (by omega)], rfl⟩)
      · have c3 : _ := (not_congr (nI_leI (by omega) (by omega))).mp c3
        refine lv_aload_n C.1 C.2.1 dX10_placeAt_21 rfl (lv_at hl 0 rfl) ?_
        refine mw_getr C Z hP (34) 1 (36) (by decide) sx_34 rfl rfl (by decide) inX10 tw_1_144 dX10_placeAt_22 ?_
        refine lv_iload_n C.1 C.2.1 dX10_placeAt_25 rfl (lv_at hl 1 rfl) ?_
        refine mw_iald C Z hP (36) (a) (by decide) sx_36 (Nat.lt_of_lt_of_le (by decide : 161 < 961) (Nat.le_of_ble_eq_true rfl)) rfl (by omega) dX10_placeAt_26 ?_
        refine lv_goto (tgt := 31) C.1 C.2.1 dX10_placeAt_27 (by decide) ?_
        exact mw_iret C hr hlk Z hP hS dX10_placeAt_31 (⟨by rw [if_pos (by omega)], rfl⟩)

set_option maxHeartbeats 4000000 in
set_option maxRecDepth 100000 in
theorem cX_putT (l : Launch) (E : mw_E) (σ : mw_M) (L : Nat) (hL : σ.1 34 2 = nI L) (h61 : L ≤ 161) (hlt : L < 161) (v p : Int32) : mw_Cv shX 75 gX l yX10_put cX10_put 3 none (rmF 1 64) E [.ref (mw_a E 34), .int v, .int p] σ (fun u => u = mw_si (mw_sa (mw_sa σ 35 L v) 36 L p) 34 2 (nI (L + 1))) := by
  refine mw_of (by decide) gX_ok (Nat.le_of_ble_eq_true rfl) ?_
  intro p_ e_ s_ m_ below meth c_ C hr hlk Z hP ls hl
  have C : CallFix p_ m_ c_ cX10_put 3 s_ _ lw_good RX10 := C
  have hl : lv_has ls 3 [(0, .ref (mw_a E 34)), (1, .int v), (2, .int p)] := hl
  have hS : va_S (mw_A 75 E) s_.heap s_.heap [] := va_S.rf
  refine lv_aload_n C.1 C.2.1 dX10_put_0 rfl (lv_at hl 0 rfl) ?_
  refine mw_geti C Z hP (34) 2 (by decide) sx_34 rfl rfl (by decide) inX10 tw_1_145 dX10_put_1 ?_
  refine mw_top (y := nI L) (hL) ?_
  refine lv_aload_n C.1 C.2.1 dX10_put_4 rfl (lv_at hl 0 rfl) ?_
  refine mw_getr C Z hP (34) 0 (35) (by decide) sx_34 rfl rfl (by decide) inX10 tw_1_143 dX10_put_5 ?_
  refine mw_alen C Z hP (35) (by decide) sx_35 dX10_put_8 ?_
  refine lv_icmp_ge (tgt := 54) C.1 C.2.1 dX10_put_9 (by decide) (fun c1 => ?_) (fun c1 => ?_)
  · exact absurd ((nI_leI (by decide) (by omega)).mp c1) (by omega)
  · refine lv_aload_n C.1 C.2.1 dX10_put_12 rfl (lv_at hl 0 rfl) ?_
    refine mw_geti C Z hP (34) 2 (by decide) sx_34 rfl rfl (by decide) inX10 tw_1_145 dX10_put_13 ?_
    refine mw_top (y := nI L) (hL) ?_
    refine lv_aload_n C.1 C.2.1 dX10_put_16 rfl (lv_at hl 0 rfl) ?_
    refine mw_getr C Z hP (34) 1 (36) (by decide) sx_34 rfl rfl (by decide) inX10 tw_1_144 dX10_put_17 ?_
    refine mw_alen C Z hP (36) (by decide) sx_36 dX10_put_20 ?_
    refine lv_icmp_ge (tgt := 54) C.1 C.2.1 dX10_put_21 (by decide) (fun c2 => ?_) (fun c2 => ?_)
    · exact absurd ((nI_leI (by decide) (by omega)).mp c2) (by omega)
    · refine lv_aload_n C.1 C.2.1 dX10_put_24 rfl (lv_at hl 0 rfl) ?_
      refine mw_getr C Z hP (34) 0 (35) (by decide) sx_34 rfl rfl (by decide) inX10 tw_1_143 dX10_put_25 ?_
      refine lv_aload_n C.1 C.2.1 dX10_put_28 rfl (lv_at hl 0 rfl) ?_
      refine mw_geti C Z hP (34) 2 (by decide) sx_34 rfl rfl (by decide) inX10 tw_1_145 dX10_put_29 ?_
      refine mw_top (y := nI L) (hL) ?_
      refine lv_iload_n C.1 C.2.1 dX10_put_32 rfl (lv_at hl 1 rfl) ?_
      refine mw_iast C Z hP hS (35) (L) (by decide) sx_35 (Nat.lt_of_lt_of_le (by decide : 161 < 961) (Nat.le_of_ble_eq_true rfl)) rfl (by omega) dX10_put_33 (fun H locs hP hS => ?_)
      refine lv_aload_n C.1 C.2.1 dX10_put_34 rfl (lv_at hl 0 rfl) ?_
      refine mw_getr C Z hP (34) 1 (36) (by decide) sx_34 rfl rfl (by decide) inX10 tw_1_144 dX10_put_35 ?_
      refine lv_aload_n C.1 C.2.1 dX10_put_38 rfl (lv_at hl 0 rfl) ?_
      refine mw_geti C Z hP (34) 2 (by decide) sx_34 rfl rfl (by decide) inX10 tw_1_145 dX10_put_39 ?_
      refine mw_top (y := nI L) (hL) ?_
      refine lv_iload_n C.1 C.2.1 dX10_put_42 rfl (lv_at hl 2 rfl) ?_
      refine mw_iast C Z hP hS (36) (L) (by decide) sx_36 (Nat.lt_of_lt_of_le (by decide : 161 < 961) (Nat.le_of_ble_eq_true rfl)) rfl (by omega) dX10_put_43 (fun H locs hP hS => ?_)
      refine lv_aload_n C.1 C.2.1 dX10_put_44 rfl (lv_at hl 0 rfl) ?_
      refine lv_dup C.1 C.2.1 dX10_put_45 rfl ?_
      refine mw_geti C Z hP (34) 2 (by decide) sx_34 rfl rfl (by decide) inX10 tw_1_145 dX10_put_46 ?_
      refine mw_top (y := nI L) (hL) ?_
      refine lv_iconst (v := 1) C.1 C.2.1 dX10_put_49 (by decide) ?_
      refine lv_iadd C.1 C.2.1 dX10_put_50 ?_
      refine mw_top (y := nI (L + 1)) (nI_1 _) ?_
      refine mw_puti C Z hP hS (34) 2 (by decide) sx_34 rfl rfl (by decide) inX10 tyX10 tyX10_ok nmX10 rfl tw_1_145 rfl rfl dX10_put_51 (fun H locs hP hS => ?_)
      exact mw_vret C hr hlk Z hP hS dX10_put_54 (rfl)

set_option maxHeartbeats 4000000 in
set_option maxRecDepth 100000 in
theorem cX_add (l : Launch) (E : mw_E) (σ : mw_M) (j : Nat) (hj : j < 6) (k : Nat) (hk : σ.1 (39 + j) 3 = nI k) (hk6 : k ≤ 160) (v : Int32) : mw_Cv shX 75 gX l yX8_add cX8_add 2 none (rmF 1 64) E [.ref (mw_a E (39 + j)), .int v] σ (fun u => (k < 160 → u = mw_si (mw_sa σ (45 + j) k v) (39 + j) 3 (nI (k + 1))) ∧ (k = 160 → u = σ)) := by
  refine mw_of (by decide) gX_ok (Nat.le_of_ble_eq_true rfl) ?_
  intro p_ e_ s_ m_ below meth c_ C hr hlk Z hP ls hl
  have C : CallFix p_ m_ c_ cX8_add 2 s_ _ lw_good RX8 := C
  have hl : lv_has ls 2 [(0, .ref (mw_a E (39 + j))), (1, .int v)] := hl
  have hS : va_S (mw_A 75 E) s_.heap s_.heap [] := va_S.rf
  refine lv_aload_n C.1 C.2.1 dX8_add_0 rfl (lv_at hl 0 rfl) ?_
  refine mw_geti C Z hP (39 + j) 3 (by omega) (sx_tx (by omega)) rfl rfl (by decide) inX8 tw_1_179 dX8_add_1 ?_
  refine mw_top (y := nI k) (hk) ?_
  refine lv_sipush (v := 160) C.1 C.2.1 dX8_add_4 (by decide) ?_
  refine lv_icmp_ge (tgt := 30) C.1 C.2.1 dX8_add_7 (by decide) (fun c1 => ?_) (fun c1 => ?_)
  · have c1 := (nI_leI (a := 160) (by decide) (by omega)).mp c1
    exact mw_vret C hr hlk Z hP hS dX8_add_30 (⟨fun y => absurd y (by omega), fun _ => rfl⟩)
  · have c1 := (not_congr (nI_leI (a := 160) (by decide) (by omega))).mp c1
    refine lv_aload_n C.1 C.2.1 dX8_add_10 rfl (lv_at hl 0 rfl) ?_
    refine mw_getr C Z hP (39 + j) 0 (45 + j) (by omega) (sx_tx (by omega)) rfl rfl (by decide) inX8 tw_1_176 dX8_add_11 ?_
    refine lv_aload_n C.1 C.2.1 dX8_add_14 rfl (lv_at hl 0 rfl) ?_
    refine mw_geti C Z hP (39 + j) 3 (by omega) (sx_tx (by omega)) rfl rfl (by decide) inX8 tw_1_179 dX8_add_15 ?_
    refine mw_top (y := nI k) (hk) ?_
    refine lv_iload_n C.1 C.2.1 dX8_add_18 rfl (lv_at hl 1 rfl) ?_
    refine mw_iast C Z hP hS (45 + j) (k) (by omega) (sx_ts (by omega)) (Nat.lt_of_lt_of_le (by decide : 160 < 961) (Nat.le_of_ble_eq_true rfl)) rfl (by omega) dX8_add_19 (fun H locs hP hS => ?_)
    refine lv_aload_n C.1 C.2.1 dX8_add_20 rfl (lv_at hl 0 rfl) ?_
    refine lv_dup C.1 C.2.1 dX8_add_21 rfl ?_
    refine mw_geti C Z hP (39 + j) 3 (by omega) (sx_tx (by omega)) rfl rfl (by decide) inX8 tw_1_179 dX8_add_22 ?_
    refine mw_top (y := nI k) (hk) ?_
    refine lv_iconst (v := 1) C.1 C.2.1 dX8_add_25 (by decide) ?_
    refine lv_iadd C.1 C.2.1 dX8_add_26 ?_
    refine mw_top (y := nI (k + 1)) (nI_1 _) ?_
    refine mw_puti C Z hP hS (39 + j) 3 (by omega) (sx_tx (by omega)) rfl rfl (by decide) inX8 tyX8 tyX8_ok nmX8 rfl tw_1_179 rfl rfl dX8_add_27 (fun H locs hP hS => ?_)
    exact mw_vret C hr hlk Z hP hS dX8_add_30 (⟨fun _ => rfl, fun y => absurd y (by omega)⟩)

set_option maxHeartbeats 4000000 in
set_option maxRecDepth 100000 in
theorem cX_endPart (l : Launch) (E : mw_E) (σ : mw_M) (j : Nat) (hj : j < 6) (w : Nat) (hw : w < 3) : mw_Cv shX 75 gX l yX8_endPart cX8_endPart 2 none (rmF 1 64) E [.ref (mw_a E (39 + j)), .int (nI w)] σ (fun u => u = mw_sa σ (51 + j) w (σ.1 (39 + j) 3)) := by
  refine mw_of (by decide) gX_ok (Nat.le_of_ble_eq_true rfl) ?_
  intro p_ e_ s_ m_ below meth c_ C hr hlk Z hP ls hl
  have C : CallFix p_ m_ c_ cX8_endPart 2 s_ _ lw_good RX8 := C
  have hl : lv_has ls 2 [(0, .ref (mw_a E (39 + j))), (1, .int (nI w))] := hl
  have hS : va_S (mw_A 75 E) s_.heap s_.heap [] := va_S.rf
  refine lv_iload_n C.1 C.2.1 dX8_endPart_0 rfl (lv_at hl 1 rfl) ?_
  refine lv_if_lt (tgt := 19) C.1 C.2.1 dX8_endPart_1 (by decide) (fun c1 => ?_) (fun c1 => ?_)
  · exact absurd c1 (nI_pos (by omega))
  · refine lv_iload_n C.1 C.2.1 dX8_endPart_4 rfl (lv_at hl 1 rfl) ?_
    refine lv_iconst (v := 3) C.1 C.2.1 dX8_endPart_5 (by decide) ?_
    refine lv_icmp_ge (tgt := 19) C.1 C.2.1 dX8_endPart_6 (by decide) (fun c2 => ?_) (fun c2 => ?_)
    · exact absurd ((nI_leI (a := 3) (by decide) (by omega)).mp c2) (by omega)
    · refine lv_aload_n C.1 C.2.1 dX8_endPart_9 rfl (lv_at hl 0 rfl) ?_
      refine mw_getr C Z hP (39 + j) 1 (51 + j) (by omega) (sx_tx (by omega)) rfl rfl (by decide) inX8 tw_1_177 dX8_endPart_10 ?_
      refine lv_iload_n C.1 C.2.1 dX8_endPart_13 rfl (lv_at hl 1 rfl) ?_
      refine lv_aload_n C.1 C.2.1 dX8_endPart_14 rfl (lv_at hl 0 rfl) ?_
      refine mw_geti C Z hP (39 + j) 3 (by omega) (sx_tx (by omega)) rfl rfl (by decide) inX8 tw_1_179 dX8_endPart_15 ?_
      refine mw_iast C Z hP hS (51 + j) (w) (by omega) (sx_te (by omega)) (Nat.lt_of_lt_of_le (by decide : 3 < 961) (Nat.le_of_ble_eq_true rfl)) rfl (by omega) dX8_endPart_18 (fun H locs hP hS => ?_)
      exact mw_vret C hr hlk Z hP hS dX8_endPart_19 (rfl)

set_option maxHeartbeats 4000000 in
set_option maxRecDepth 100000 in
theorem cX_named (l : Launch) (E : mw_E) (σ : mw_M) (c : Nat) (hc : c ≤ 5) (s : Nat) (hs : s < 3) (cp : Nat) (hcp : 6 ≤ cp ∧ cp < 30) : mw_Ci shX 75 gX l yX8_named cX8_named 3 (some .int) (rmF 1 64) E [.int (nI c), .ref (mw_a E (s)), .ref (mw_a E (cp))] σ (fun r u => r = evP (σ.1 s) (σ.1 cp) c ∧ u = σ) := by
  refine mw_of (by decide) gX_ok (Nat.le_of_ble_eq_true rfl) ?_
  intro p_ e_ s_ m_ below meth c_ C hr hlk Z hP ls hl
  have C : CallFix p_ m_ c_ cX8_named 3 s_ _ lw_good RX8 := C
  have hl : lv_has ls 3 [(0, .int (nI c)), (1, .ref (mw_a E (s))), (2, .ref (mw_a E (cp)))] := hl
  have hS : va_S (mw_A 75 E) s_.heap s_.heap [] := va_S.rf
  refine lv_iload_n C.1 C.2.1 dX8_named_0 rfl (lv_at hl 0 rfl) ?_
  by_cases c1 : nI c = 0
  · refine lv_tableIn (off := 35) (tgt := 36) C.1 C.2.1 dX8_named_1 (by rw [c1]; decide) (by rw [c1]; decide) (by rw [c1]; decide) (by decide) ?_
    refine lv_aload_n C.1 C.2.1 dX8_named_36 rfl (lv_at hl 2 rfl) ?_
    refine mw_geti C Z hP (cp) 2 (by omega) (sx_cu (by omega) (by omega)) rfl rfl (by decide) inX1 tw_1_52 dX8_named_37 ?_
    exact mw_iret C hr hlk Z hP hS dX8_named_40 (⟨by unfold evP; have c1 := (nI_eq (b := 0) (by omega) (by decide)).mp c1; simp [c1], rfl⟩)
  by_cases c2 : nI c = 1
  · refine lv_tableIn (off := 40) (tgt := 41) C.1 C.2.1 dX8_named_1 (by rw [c2]; decide) (by rw [c2]; decide) (by rw [c2]; decide) (by decide) ?_
    refine lv_aload_n C.1 C.2.1 dX8_named_41 rfl (lv_at hl 2 rfl) ?_
    refine mw_geti C Z hP (cp) 3 (by omega) (sx_cu (by omega) (by omega)) rfl rfl (by decide) inX1 tw_1_57 dX8_named_42 ?_
    exact mw_iret C hr hlk Z hP hS dX8_named_45 (⟨by unfold evP; have c1 := (not_congr (nI_eq (b := 0) (by omega) (by decide))).mp c1; have c2 := (nI_eq (b := 1) (by omega) (by decide)).mp c2; simp [c1, c2], rfl⟩)
  by_cases c3 : nI c = 2
  · refine lv_tableIn (off := 45) (tgt := 46) C.1 C.2.1 dX8_named_1 (by rw [c3]; decide) (by rw [c3]; decide) (by rw [c3]; decide) (by decide) ?_
    refine lv_aload_n C.1 C.2.1 dX8_named_46 rfl (lv_at hl 2 rfl) ?_
    refine mw_geti C Z hP (cp) 1 (by omega) (sx_cu (by omega) (by omega)) rfl rfl (by decide) inX1 tw_1_48 dX8_named_47 ?_
    exact mw_iret C hr hlk Z hP hS dX8_named_50 (⟨by unfold evP; have c1 := (not_congr (nI_eq (b := 0) (by omega) (by decide))).mp c1; have c2 := (not_congr (nI_eq (b := 1) (by omega) (by decide))).mp c2; have c3 := (nI_eq (b := 2) (by omega) (by decide)).mp c3; simp [c1, c2, c3], rfl⟩)
  by_cases c4 : nI c = 3
  · refine lv_tableIn (off := 50) (tgt := 51) C.1 C.2.1 dX8_named_1 (by rw [c4]; decide) (by rw [c4]; decide) (by rw [c4]; decide) (by decide) ?_
    refine lv_aload_n C.1 C.2.1 dX8_named_51 rfl (lv_at hl 1 rfl) ?_
    refine mw_geti C Z hP (s) 2 (by omega) (sx_st (by omega)) rfl rfl (by decide) inX6 tw_1_83 dX8_named_52 ?_
    exact mw_iret C hr hlk Z hP hS dX8_named_55 (⟨by unfold evP; have c1 := (not_congr (nI_eq (b := 0) (by omega) (by decide))).mp c1; have c2 := (not_congr (nI_eq (b := 1) (by omega) (by decide))).mp c2; have c3 := (not_congr (nI_eq (b := 2) (by omega) (by decide))).mp c3; have c4 := (nI_eq (b := 3) (by omega) (by decide)).mp c4; simp [c1, c2, c3, c4], rfl⟩)
  by_cases c5 : nI c = 4
  · refine lv_tableIn (off := 55) (tgt := 56) C.1 C.2.1 dX8_named_1 (by rw [c5]; decide) (by rw [c5]; decide) (by rw [c5]; decide) (by decide) ?_
    refine lv_aload_n C.1 C.2.1 dX8_named_56 rfl (lv_at hl 1 rfl) ?_
    refine mw_geti C Z hP (s) 0 (by omega) (sx_st (by omega)) rfl rfl (by decide) inX6 tw_1_74 dX8_named_57 ?_
    exact mw_iret C hr hlk Z hP hS dX8_named_60 (⟨by unfold evP; have c1 := (not_congr (nI_eq (b := 0) (by omega) (by decide))).mp c1; have c2 := (not_congr (nI_eq (b := 1) (by omega) (by decide))).mp c2; have c3 := (not_congr (nI_eq (b := 2) (by omega) (by decide))).mp c3; have c4 := (not_congr (nI_eq (b := 3) (by omega) (by decide))).mp c4; have c5 := (nI_eq (b := 4) (by omega) (by decide)).mp c5; simp [c1, c2, c3, c4, c5], rfl⟩)
  refine lv_tableOut (tgt := 61) C.1 C.2.1 dX8_named_1 (by have z0 := (not_congr (ni_eq _ _)).mp c1; have y0 : (0 : Int32).toInt = 0 := rfl; have z1 := (not_congr (ni_eq _ _)).mp c2; have y1 : (1 : Int32).toInt = 1 := rfl; have z2 := (not_congr (ni_eq _ _)).mp c3; have y2 : (2 : Int32).toInt = 2 := rfl; have z3 := (not_congr (ni_eq _ _)).mp c4; have y3 : (3 : Int32).toInt = 3 := rfl; have z4 := (not_congr (ni_eq _ _)).mp c5; have y4 : (4 : Int32).toInt = 4 := rfl; omega) (by decide) ?_
  refine lv_aload_n C.1 C.2.1 dX8_named_61 rfl (lv_at hl 1 rfl) ?_
  refine mw_geti C Z hP (s) 1 (by omega) (sx_st (by omega)) rfl rfl (by decide) inX6 tw_1_79 dX8_named_62 ?_
  exact mw_iret C hr hlk Z hP hS dX8_named_65 (⟨by unfold evP; have c1 := (not_congr (nI_eq (b := 0) (by omega) (by decide))).mp c1; have c2 := (not_congr (nI_eq (b := 1) (by omega) (by decide))).mp c2; have c3 := (not_congr (nI_eq (b := 2) (by omega) (by decide))).mp c3; have c4 := (not_congr (nI_eq (b := 3) (by omega) (by decide))).mp c4; have c5 := (not_congr (nI_eq (b := 4) (by omega) (by decide))).mp c5; simp [c1, c2, c3, c4, c5], rfl⟩)

def turF (c : Nat) (v : Int32) : Int32 := if c = 20 then -v else bI (v = 0)

set_option maxHeartbeats 4000000 in
set_option maxRecDepth 100000 in
theorem cX_turned (l : Launch) (E : mw_E) (σ : mw_M) (c : Nat) (hc : c < 1000) (v : Int32) : mw_Ci shX 75 gX l yX8_turned cX8_turned 2 (some .int) (rmF 1 64) E [.int (nI c), .int v] σ (fun r u => r = turF c v ∧ u = σ) := by
  refine mw_of (by decide) gX_ok (Nat.le_of_ble_eq_true rfl) ?_
  intro p_ e_ s_ m_ below meth c_ C hr hlk Z hP ls hl
  have C : CallFix p_ m_ c_ cX8_turned 2 s_ _ lw_good RX8 := C
  have hl : lv_has ls 2 [(0, .int (nI c)), (1, .int v)] := hl
  have hS : va_S (mw_A 75 E) s_.heap s_.heap [] := va_S.rf
  refine lv_iload_n C.1 C.2.1 dX8_turned_0 rfl (lv_at hl 0 rfl) ?_
  refine lv_bipush (v := 20) C.1 C.2.1 dX8_turned_1 (by decide) ?_
  refine lv_icmp_ne (tgt := 9) C.1 C.2.1 dX8_turned_3 (by decide) (fun c1 => ?_) (fun c1 => ?_)
  · refine lv_iload_n C.1 C.2.1 dX8_turned_9 rfl (lv_at hl 1 rfl) ?_
    refine lv_if_ne (tgt := 17) C.1 C.2.1 dX8_turned_10 (by decide) (fun c2 => ?_) (fun c2 => ?_)
    · refine lv_iconst (v := 0) C.1 C.2.1 dX8_turned_17 (by decide) ?_
      exact mw_iret C hr hlk Z hP hS dX8_turned_18 (⟨by unfold turF; rw [if_neg ((not_congr (nI_eq (b := 20) (by omega) (by decide))).mp c1), bI_f c2], rfl⟩)
    · refine lv_iconst (v := 1) C.1 C.2.1 dX8_turned_13 (by decide) ?_
      refine lv_goto (tgt := 18) C.1 C.2.1 dX8_turned_14 (by decide) ?_
      exact mw_iret C hr hlk Z hP hS dX8_turned_18 (⟨by unfold turF; rw [if_neg ((not_congr (nI_eq (b := 20) (by omega) (by decide))).mp c1), bI_t c2], rfl⟩)
  · refine lv_iload_n C.1 C.2.1 dX8_turned_6 rfl (lv_at hl 1 rfl) ?_
    refine lv_ineg C.1 C.2.1 dX8_turned_7 ?_
    exact mw_iret C hr hlk Z hP hS dX8_turned_8 (⟨by unfold turF; rw [if_pos ((nI_eq (b := 20) (by omega) (by decide)).mp c1)], rfl⟩)

set_option maxHeartbeats 4000000 in
set_option maxRecDepth 100000 in
theorem cX_joined (l : Launch) (E : mw_E) (σ : mw_M) (c : Nat) (hc : c = 9 ∨ c = 10 ∨ (15 ≤ c ∧ c ≤ 19)) (a b : Int32) : mw_Ci shX 75 gX l yX8_joined cX8_joined 3 (some .int) (rmF 1 64) E [.int (nI c), .int a, .int b] σ (fun r u => r = opF c a b ∧ u = σ) := by
  refine mw_of (by decide) gX_ok (Nat.le_of_ble_eq_true rfl) ?_
  intro p_ e_ s_ m_ below meth c_ C hr hlk Z hP ls hl
  have C : CallFix p_ m_ c_ cX8_joined 3 s_ _ lw_good RX8 := C
  have hl : lv_has ls 3 [(0, .int (nI c)), (1, .int a), (2, .int b)] := hl
  have hS : va_S (mw_A 75 E) s_.heap s_.heap [] := va_S.rf
  refine lv_iload_n C.1 C.2.1 dX8_joined_0 rfl (lv_at hl 0 rfl) ?_
  by_cases c1 : nI c = 9
  · refine lv_tableIn (off := 59) (tgt := 60) C.1 C.2.1 dX8_joined_1 (by rw [c1]; decide) (by rw [c1]; decide) (by rw [c1]; decide) (by decide) ?_
    refine lv_iload_n C.1 C.2.1 dX8_joined_60 rfl (lv_at hl 1 rfl) ?_
    refine lv_if_ne (tgt := 68) C.1 C.2.1 dX8_joined_61 (by decide) (fun c2 => ?_) (fun c2 => ?_)
    · refine lv_iconst (v := 1) C.1 C.2.1 dX8_joined_68 (by decide) ?_
      refine lv_goto (tgt := 73) C.1 C.2.1 dX8_joined_69 (by decide) ?_
      have ec := (nI_eq (b := 9) (by omega) (by decide)).mp c1
      subst ec
      exact mw_iret C hr hlk Z hP hS dX8_joined_73 (⟨by unfold opF; rw [if_pos rfl]; exact (bI_t (Or.inl c2)).symm, rfl⟩)
    · refine lv_iload_n C.1 C.2.1 dX8_joined_64 rfl (lv_at hl 2 rfl) ?_
      refine lv_if_eq (tgt := 72) C.1 C.2.1 dX8_joined_65 (by decide) (fun c3 => ?_) (fun c3 => ?_)
      · refine lv_iconst (v := 0) C.1 C.2.1 dX8_joined_72 (by decide) ?_
        have ec := (nI_eq (b := 9) (by omega) (by decide)).mp c1
        subst ec
        exact mw_iret C hr hlk Z hP hS dX8_joined_73 (⟨by unfold opF; rw [if_pos rfl]; exact (bI_f (fun y => y.elim (fun y => y c2) (fun y => y c3))).symm, rfl⟩)
      · refine lv_iconst (v := 1) C.1 C.2.1 dX8_joined_68 (by decide) ?_
        refine lv_goto (tgt := 73) C.1 C.2.1 dX8_joined_69 (by decide) ?_
        have ec := (nI_eq (b := 9) (by omega) (by decide)).mp c1
        subst ec
        exact mw_iret C hr hlk Z hP hS dX8_joined_73 (⟨by unfold opF; rw [if_pos rfl]; exact (bI_t (Or.inr c3)).symm, rfl⟩)
  by_cases c4 : nI c = 10
  · refine lv_tableIn (off := 73) (tgt := 74) C.1 C.2.1 dX8_joined_1 (by rw [c4]; decide) (by rw [c4]; decide) (by rw [c4]; decide) (by decide) ?_
    refine lv_iload_n C.1 C.2.1 dX8_joined_74 rfl (lv_at hl 1 rfl) ?_
    refine lv_if_eq (tgt := 86) C.1 C.2.1 dX8_joined_75 (by decide) (fun c5 => ?_) (fun c5 => ?_)
    · refine lv_iconst (v := 0) C.1 C.2.1 dX8_joined_86 (by decide) ?_
      have ec := (nI_eq (b := 10) (by omega) (by decide)).mp c4
      subst ec
      exact mw_iret C hr hlk Z hP hS dX8_joined_87 (⟨by unfold opF; rw [if_neg (by decide), if_pos rfl]; exact (bI_f (fun y => y.1 c5)).symm, rfl⟩)
    · refine lv_iload_n C.1 C.2.1 dX8_joined_78 rfl (lv_at hl 2 rfl) ?_
      refine lv_if_eq (tgt := 86) C.1 C.2.1 dX8_joined_79 (by decide) (fun c6 => ?_) (fun c6 => ?_)
      · refine lv_iconst (v := 0) C.1 C.2.1 dX8_joined_86 (by decide) ?_
        have ec := (nI_eq (b := 10) (by omega) (by decide)).mp c4
        subst ec
        exact mw_iret C hr hlk Z hP hS dX8_joined_87 (⟨by unfold opF; rw [if_neg (by decide), if_pos rfl]; exact (bI_f (fun y => y.2 c6)).symm, rfl⟩)
      · refine lv_iconst (v := 1) C.1 C.2.1 dX8_joined_82 (by decide) ?_
        refine lv_goto (tgt := 87) C.1 C.2.1 dX8_joined_83 (by decide) ?_
        have ec := (nI_eq (b := 10) (by omega) (by decide)).mp c4
        subst ec
        exact mw_iret C hr hlk Z hP hS dX8_joined_87 (⟨by unfold opF; rw [if_neg (by decide), if_pos rfl]; exact (bI_t ⟨c5, c6⟩).symm, rfl⟩)
  by_cases c7 : nI c = 11
  · refine lv_tableIn (off := 117) (tgt := 118) C.1 C.2.1 dX8_joined_1 (by rw [c7]; decide) (by rw [c7]; decide) (by rw [c7]; decide) (by decide) ?_
    refine lv_iload_n C.1 C.2.1 dX8_joined_118 rfl (lv_at hl 1 rfl) ?_
    refine lv_iload_n C.1 C.2.1 dX8_joined_119 rfl (lv_at hl 2 rfl) ?_
    refine lv_imul C.1 C.2.1 dX8_joined_120 ?_
    have ec := (nI_eq (b := 11) (by omega) (by decide)).mp c7
    exact absurd hc (by omega)
  by_cases c8 : nI c = 12
  · refine lv_tableIn (off := 117) (tgt := 118) C.1 C.2.1 dX8_joined_1 (by rw [c8]; decide) (by rw [c8]; decide) (by rw [c8]; decide) (by decide) ?_
    refine lv_iload_n C.1 C.2.1 dX8_joined_118 rfl (lv_at hl 1 rfl) ?_
    refine lv_iload_n C.1 C.2.1 dX8_joined_119 rfl (lv_at hl 2 rfl) ?_
    refine lv_imul C.1 C.2.1 dX8_joined_120 ?_
    have ec := (nI_eq (b := 12) (by omega) (by decide)).mp c8
    exact absurd hc (by omega)
  by_cases c9 : nI c = 13
  · refine lv_tableIn (off := 117) (tgt := 118) C.1 C.2.1 dX8_joined_1 (by rw [c9]; decide) (by rw [c9]; decide) (by rw [c9]; decide) (by decide) ?_
    refine lv_iload_n C.1 C.2.1 dX8_joined_118 rfl (lv_at hl 1 rfl) ?_
    refine lv_iload_n C.1 C.2.1 dX8_joined_119 rfl (lv_at hl 2 rfl) ?_
    refine lv_imul C.1 C.2.1 dX8_joined_120 ?_
    have ec := (nI_eq (b := 13) (by omega) (by decide)).mp c9
    exact absurd hc (by omega)
  by_cases c10 : nI c = 14
  · refine lv_tableIn (off := 117) (tgt := 118) C.1 C.2.1 dX8_joined_1 (by rw [c10]; decide) (by rw [c10]; decide) (by rw [c10]; decide) (by decide) ?_
    refine lv_iload_n C.1 C.2.1 dX8_joined_118 rfl (lv_at hl 1 rfl) ?_
    refine lv_iload_n C.1 C.2.1 dX8_joined_119 rfl (lv_at hl 2 rfl) ?_
    refine lv_imul C.1 C.2.1 dX8_joined_120 ?_
    have ec := (nI_eq (b := 14) (by omega) (by decide)).mp c10
    exact absurd hc (by omega)
  by_cases c11 : nI c = 15
  · refine lv_tableIn (off := 109) (tgt := 110) C.1 C.2.1 dX8_joined_1 (by rw [c11]; decide) (by rw [c11]; decide) (by rw [c11]; decide) (by decide) ?_
    refine lv_iload_n C.1 C.2.1 dX8_joined_110 rfl (lv_at hl 1 rfl) ?_
    refine lv_iload_n C.1 C.2.1 dX8_joined_111 rfl (lv_at hl 2 rfl) ?_
    refine lv_iadd C.1 C.2.1 dX8_joined_112 ?_
    have ec := (nI_eq (b := 15) (by omega) (by decide)).mp c11
    subst ec
    exact mw_iret C hr hlk Z hP hS dX8_joined_113 (⟨rfl, rfl⟩)
  by_cases c12 : nI c = 16
  · refine lv_tableIn (off := 113) (tgt := 114) C.1 C.2.1 dX8_joined_1 (by rw [c12]; decide) (by rw [c12]; decide) (by rw [c12]; decide) (by decide) ?_
    refine lv_iload_n C.1 C.2.1 dX8_joined_114 rfl (lv_at hl 1 rfl) ?_
    refine lv_iload_n C.1 C.2.1 dX8_joined_115 rfl (lv_at hl 2 rfl) ?_
    refine lv_isub C.1 C.2.1 dX8_joined_116 ?_
    have ec := (nI_eq (b := 16) (by omega) (by decide)).mp c12
    subst ec
    exact mw_iret C hr hlk Z hP hS dX8_joined_117 (⟨rfl, rfl⟩)
  by_cases c13 : nI c = 17
  · refine lv_tableIn (off := 117) (tgt := 118) C.1 C.2.1 dX8_joined_1 (by rw [c13]; decide) (by rw [c13]; decide) (by rw [c13]; decide) (by decide) ?_
    refine lv_iload_n C.1 C.2.1 dX8_joined_118 rfl (lv_at hl 1 rfl) ?_
    refine lv_iload_n C.1 C.2.1 dX8_joined_119 rfl (lv_at hl 2 rfl) ?_
    refine lv_imul C.1 C.2.1 dX8_joined_120 ?_
    have ec := (nI_eq (b := 17) (by omega) (by decide)).mp c13
    subst ec
    exact mw_iret C hr hlk Z hP hS dX8_joined_121 (⟨rfl, rfl⟩)
  by_cases c14 : nI c = 18
  · refine lv_tableIn (off := 87) (tgt := 88) C.1 C.2.1 dX8_joined_1 (by rw [c14]; decide) (by rw [c14]; decide) (by rw [c14]; decide) (by decide) ?_
    refine lv_iload_n C.1 C.2.1 dX8_joined_88 rfl (lv_at hl 1 rfl) ?_
    refine lv_iload_n C.1 C.2.1 dX8_joined_89 rfl (lv_at hl 2 rfl) ?_
    refine lv_icmp_ge (tgt := 97) C.1 C.2.1 dX8_joined_90 (by decide) (fun c15 => ?_) (fun c15 => ?_)
    · refine lv_iconst (v := 0) C.1 C.2.1 dX8_joined_97 (by decide) ?_
      have ec := (nI_eq (b := 18) (by omega) (by decide)).mp c14
      subst ec
      exact mw_iret C hr hlk Z hP hS dX8_joined_98 (⟨by unfold opF; rw [if_neg (by decide), if_neg (by decide), if_pos rfl]; exact (bI_f (Int32.not_lt.mpr c15)).symm, rfl⟩)
    · refine lv_iconst (v := 1) C.1 C.2.1 dX8_joined_93 (by decide) ?_
      refine lv_goto (tgt := 98) C.1 C.2.1 dX8_joined_94 (by decide) ?_
      have ec := (nI_eq (b := 18) (by omega) (by decide)).mp c14
      subst ec
      exact mw_iret C hr hlk Z hP hS dX8_joined_98 (⟨by unfold opF; rw [if_neg (by decide), if_neg (by decide), if_pos rfl]; exact (bI_t (Int32.not_le.mp c15)).symm, rfl⟩)
  by_cases c16 : nI c = 19
  · refine lv_tableIn (off := 98) (tgt := 99) C.1 C.2.1 dX8_joined_1 (by rw [c16]; decide) (by rw [c16]; decide) (by rw [c16]; decide) (by decide) ?_
    refine lv_iload_n C.1 C.2.1 dX8_joined_99 rfl (lv_at hl 1 rfl) ?_
    refine lv_iload_n C.1 C.2.1 dX8_joined_100 rfl (lv_at hl 2 rfl) ?_
    refine lv_icmp_ne (tgt := 108) C.1 C.2.1 dX8_joined_101 (by decide) (fun c17 => ?_) (fun c17 => ?_)
    · refine lv_iconst (v := 0) C.1 C.2.1 dX8_joined_108 (by decide) ?_
      have ec := (nI_eq (b := 19) (by omega) (by decide)).mp c16
      subst ec
      exact mw_iret C hr hlk Z hP hS dX8_joined_109 (⟨by unfold opF; rw [if_neg (by decide), if_neg (by decide), if_neg (by decide), if_pos rfl]; exact (bI_f c17).symm, rfl⟩)
    · refine lv_iconst (v := 1) C.1 C.2.1 dX8_joined_104 (by decide) ?_
      refine lv_goto (tgt := 109) C.1 C.2.1 dX8_joined_105 (by decide) ?_
      have ec := (nI_eq (b := 19) (by omega) (by decide)).mp c16
      subst ec
      exact mw_iret C hr hlk Z hP hS dX8_joined_109 (⟨by unfold opF; rw [if_neg (by decide), if_neg (by decide), if_neg (by decide), if_pos rfl]; exact (bI_t c17).symm, rfl⟩)
  refine lv_tableOut (tgt := 118) C.1 C.2.1 dX8_joined_1 (by have z0 := (not_congr (ni_eq _ _)).mp c1; have y0 : (9 : Int32).toInt = 9 := rfl; have z1 := (not_congr (ni_eq _ _)).mp c4; have y1 : (10 : Int32).toInt = 10 := rfl; have z2 := (not_congr (ni_eq _ _)).mp c7; have y2 : (11 : Int32).toInt = 11 := rfl; have z3 := (not_congr (ni_eq _ _)).mp c8; have y3 : (12 : Int32).toInt = 12 := rfl; have z4 := (not_congr (ni_eq _ _)).mp c9; have y4 : (13 : Int32).toInt = 13 := rfl; have z5 := (not_congr (ni_eq _ _)).mp c10; have y5 : (14 : Int32).toInt = 14 := rfl; have z6 := (not_congr (ni_eq _ _)).mp c11; have y6 : (15 : Int32).toInt = 15 := rfl; have z7 := (not_congr (ni_eq _ _)).mp c12; have y7 : (16 : Int32).toInt = 16 := rfl; have z8 := (not_congr (ni_eq _ _)).mp c13; have y8 : (17 : Int32).toInt = 17 := rfl; have z9 := (not_congr (ni_eq _ _)).mp c14; have y9 : (18 : Int32).toInt = 18 := rfl; have z10 := (not_congr (ni_eq _ _)).mp c16; have y10 : (19 : Int32).toInt = 19 := rfl; omega) (by decide) ?_
  refine lv_iload_n C.1 C.2.1 dX8_joined_118 rfl (lv_at hl 1 rfl) ?_
  refine lv_iload_n C.1 C.2.1 dX8_joined_119 rfl (lv_at hl 2 rfl) ?_
  refine lv_imul C.1 C.2.1 dX8_joined_120 ?_
  have ec : c = 17 := by have := (not_congr (nI_eq (b := 9) (by omega) (by decide))).mp c1; have := (not_congr (nI_eq (b := 10) (by omega) (by decide))).mp c4; have := (not_congr (nI_eq (b := 15) (by omega) (by decide))).mp c11; have := (not_congr (nI_eq (b := 16) (by omega) (by decide))).mp c12; have := (not_congr (nI_eq (b := 17) (by omega) (by decide))).mp c13; have := (not_congr (nI_eq (b := 18) (by omega) (by decide))).mp c14; have := (not_congr (nI_eq (b := 19) (by omega) (by decide))).mp c16; omega
  subst ec
  exact mw_iret C hr hlk Z hP hS dX8_joined_121 (⟨rfl, rfl⟩)

def lvF (c : Nat) : Int32 := if c = 9 then 0 else if c = 10 then 1 else if c = 18 ∨ c = 19 then 2 else if c = 15 ∨ c = 16 then 3 else if c = 17 then 4 else -1

set_option maxHeartbeats 4000000 in
set_option maxRecDepth 100000 in
theorem cX_levelOf (l : Launch) (E : mw_E) (σ : mw_M) (c : Nat) (hc : c < 100000) : mw_Ci shX 75 gX l yX3_levelOf cX3_levelOf 1 (some .int) (rmF 1 64) E [.int (nI c)] σ (fun r u => r = lvF c ∧ u = σ) := by
  refine mw_of (by decide) gX_ok (Nat.le_of_ble_eq_true rfl) ?_
  intro p_ e_ s_ m_ below meth c_ C hr hlk Z hP ls hl
  have C : CallFix p_ m_ c_ cX3_levelOf 1 s_ _ lw_good RX3 := C
  have hl : lv_has ls 1 [(0, .int (nI c))] := hl
  have hS : va_S (mw_A 75 E) s_.heap s_.heap [] := va_S.rf
  refine lv_iload_n C.1 C.2.1 dX3_levelOf_0 rfl (lv_at hl 0 rfl) ?_
  by_cases c1 : nI c = 9
  · refine lv_tableIn (off := 59) (tgt := 60) C.1 C.2.1 dX3_levelOf_1 (by rw [c1]; decide) (by rw [c1]; decide) (by rw [c1]; decide) (by decide) ?_
    refine lv_iconst (v := 0) C.1 C.2.1 dX3_levelOf_60 (by decide) ?_
    have ec := (nI_eq (b := 9) (by omega) (by decide)).mp c1
    subst ec
    exact mw_iret C hr hlk Z hP hS dX3_levelOf_61 (⟨rfl, rfl⟩)
  by_cases c2 : nI c = 10
  · refine lv_tableIn (off := 61) (tgt := 62) C.1 C.2.1 dX3_levelOf_1 (by rw [c2]; decide) (by rw [c2]; decide) (by rw [c2]; decide) (by decide) ?_
    refine lv_iconst (v := 1) C.1 C.2.1 dX3_levelOf_62 (by decide) ?_
    have ec := (nI_eq (b := 10) (by omega) (by decide)).mp c2
    subst ec
    exact mw_iret C hr hlk Z hP hS dX3_levelOf_63 (⟨rfl, rfl⟩)
  by_cases c3 : nI c = 11
  · refine lv_tableIn (off := 69) (tgt := 70) C.1 C.2.1 dX3_levelOf_1 (by rw [c3]; decide) (by rw [c3]; decide) (by rw [c3]; decide) (by decide) ?_
    refine lv_iconst (v := -1) C.1 C.2.1 dX3_levelOf_70 (by decide) ?_
    have ec := (nI_eq (b := 11) (by omega) (by decide)).mp c3
    subst ec
    exact mw_iret C hr hlk Z hP hS dX3_levelOf_71 (⟨rfl, rfl⟩)
  by_cases c4 : nI c = 12
  · refine lv_tableIn (off := 69) (tgt := 70) C.1 C.2.1 dX3_levelOf_1 (by rw [c4]; decide) (by rw [c4]; decide) (by rw [c4]; decide) (by decide) ?_
    refine lv_iconst (v := -1) C.1 C.2.1 dX3_levelOf_70 (by decide) ?_
    have ec := (nI_eq (b := 12) (by omega) (by decide)).mp c4
    subst ec
    exact mw_iret C hr hlk Z hP hS dX3_levelOf_71 (⟨rfl, rfl⟩)
  by_cases c5 : nI c = 13
  · refine lv_tableIn (off := 69) (tgt := 70) C.1 C.2.1 dX3_levelOf_1 (by rw [c5]; decide) (by rw [c5]; decide) (by rw [c5]; decide) (by decide) ?_
    refine lv_iconst (v := -1) C.1 C.2.1 dX3_levelOf_70 (by decide) ?_
    have ec := (nI_eq (b := 13) (by omega) (by decide)).mp c5
    subst ec
    exact mw_iret C hr hlk Z hP hS dX3_levelOf_71 (⟨rfl, rfl⟩)
  by_cases c6 : nI c = 14
  · refine lv_tableIn (off := 69) (tgt := 70) C.1 C.2.1 dX3_levelOf_1 (by rw [c6]; decide) (by rw [c6]; decide) (by rw [c6]; decide) (by decide) ?_
    refine lv_iconst (v := -1) C.1 C.2.1 dX3_levelOf_70 (by decide) ?_
    have ec := (nI_eq (b := 14) (by omega) (by decide)).mp c6
    subst ec
    exact mw_iret C hr hlk Z hP hS dX3_levelOf_71 (⟨rfl, rfl⟩)
  by_cases c7 : nI c = 15
  · refine lv_tableIn (off := 65) (tgt := 66) C.1 C.2.1 dX3_levelOf_1 (by rw [c7]; decide) (by rw [c7]; decide) (by rw [c7]; decide) (by decide) ?_
    refine lv_iconst (v := 3) C.1 C.2.1 dX3_levelOf_66 (by decide) ?_
    have ec := (nI_eq (b := 15) (by omega) (by decide)).mp c7
    subst ec
    exact mw_iret C hr hlk Z hP hS dX3_levelOf_67 (⟨rfl, rfl⟩)
  by_cases c8 : nI c = 16
  · refine lv_tableIn (off := 65) (tgt := 66) C.1 C.2.1 dX3_levelOf_1 (by rw [c8]; decide) (by rw [c8]; decide) (by rw [c8]; decide) (by decide) ?_
    refine lv_iconst (v := 3) C.1 C.2.1 dX3_levelOf_66 (by decide) ?_
    have ec := (nI_eq (b := 16) (by omega) (by decide)).mp c8
    subst ec
    exact mw_iret C hr hlk Z hP hS dX3_levelOf_67 (⟨rfl, rfl⟩)
  by_cases c9 : nI c = 17
  · refine lv_tableIn (off := 67) (tgt := 68) C.1 C.2.1 dX3_levelOf_1 (by rw [c9]; decide) (by rw [c9]; decide) (by rw [c9]; decide) (by decide) ?_
    refine lv_iconst (v := 4) C.1 C.2.1 dX3_levelOf_68 (by decide) ?_
    have ec := (nI_eq (b := 17) (by omega) (by decide)).mp c9
    subst ec
    exact mw_iret C hr hlk Z hP hS dX3_levelOf_69 (⟨rfl, rfl⟩)
  by_cases c10 : nI c = 18
  · refine lv_tableIn (off := 63) (tgt := 64) C.1 C.2.1 dX3_levelOf_1 (by rw [c10]; decide) (by rw [c10]; decide) (by rw [c10]; decide) (by decide) ?_
    refine lv_iconst (v := 2) C.1 C.2.1 dX3_levelOf_64 (by decide) ?_
    have ec := (nI_eq (b := 18) (by omega) (by decide)).mp c10
    subst ec
    exact mw_iret C hr hlk Z hP hS dX3_levelOf_65 (⟨rfl, rfl⟩)
  by_cases c11 : nI c = 19
  · refine lv_tableIn (off := 63) (tgt := 64) C.1 C.2.1 dX3_levelOf_1 (by rw [c11]; decide) (by rw [c11]; decide) (by rw [c11]; decide) (by decide) ?_
    refine lv_iconst (v := 2) C.1 C.2.1 dX3_levelOf_64 (by decide) ?_
    have ec := (nI_eq (b := 19) (by omega) (by decide)).mp c11
    subst ec
    exact mw_iret C hr hlk Z hP hS dX3_levelOf_65 (⟨rfl, rfl⟩)
  refine lv_tableOut (tgt := 70) C.1 C.2.1 dX3_levelOf_1 (by have z0 := (not_congr (ni_eq _ _)).mp c1; have y0 : (9 : Int32).toInt = 9 := rfl; have z1 := (not_congr (ni_eq _ _)).mp c2; have y1 : (10 : Int32).toInt = 10 := rfl; have z2 := (not_congr (ni_eq _ _)).mp c3; have y2 : (11 : Int32).toInt = 11 := rfl; have z3 := (not_congr (ni_eq _ _)).mp c4; have y3 : (12 : Int32).toInt = 12 := rfl; have z4 := (not_congr (ni_eq _ _)).mp c5; have y4 : (13 : Int32).toInt = 13 := rfl; have z5 := (not_congr (ni_eq _ _)).mp c6; have y5 : (14 : Int32).toInt = 14 := rfl; have z6 := (not_congr (ni_eq _ _)).mp c7; have y6 : (15 : Int32).toInt = 15 := rfl; have z7 := (not_congr (ni_eq _ _)).mp c8; have y7 : (16 : Int32).toInt = 16 := rfl; have z8 := (not_congr (ni_eq _ _)).mp c9; have y8 : (17 : Int32).toInt = 17 := rfl; have z9 := (not_congr (ni_eq _ _)).mp c10; have y9 : (18 : Int32).toInt = 18 := rfl; have z10 := (not_congr (ni_eq _ _)).mp c11; have y10 : (19 : Int32).toInt = 19 := rfl; omega) (by decide) ?_
  refine lv_iconst (v := -1) C.1 C.2.1 dX3_levelOf_70 (by decide) ?_
  exact mw_iret C hr hlk Z hP hS dX3_levelOf_71 (⟨by unfold lvF; have := (not_congr (nI_eq (b := 9) (by omega) (by decide))).mp c1; have := (not_congr (nI_eq (b := 10) (by omega) (by decide))).mp c2; have := (not_congr (nI_eq (b := 11) (by omega) (by decide))).mp c3; have := (not_congr (nI_eq (b := 12) (by omega) (by decide))).mp c4; have := (not_congr (nI_eq (b := 13) (by omega) (by decide))).mp c5; have := (not_congr (nI_eq (b := 14) (by omega) (by decide))).mp c6; have := (not_congr (nI_eq (b := 15) (by omega) (by decide))).mp c7; have := (not_congr (nI_eq (b := 16) (by omega) (by decide))).mp c8; have := (not_congr (nI_eq (b := 17) (by omega) (by decide))).mp c9; have := (not_congr (nI_eq (b := 18) (by omega) (by decide))).mp c10; have := (not_congr (nI_eq (b := 19) (by omega) (by decide))).mp c11; rw [if_neg (by omega), if_neg (by omega), if_neg (by omega), if_neg (by omega), if_neg (by omega)], rfl⟩)
