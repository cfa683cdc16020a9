/-! THE CLASS: WHAT CUSTOMERS EAT, TRY, SPEND -/
theorem tell_rng (z : zP) (w : Nat) (st cu : Nat → Int32) : ∃ k : Nat, k ≤ 99 ∧ tellP z w st cu = nI k := by unfold tellP; exact wI_rng (b := 99) (by decide)
theorem tell_pos (z : zP) (w : Nat) (st cu : Nat → Int32) : ¬ tellP z w st cu < 0 := by
  obtain ⟨k, h1, h2⟩ := tell_rng z w st cu
  rw [h2]
  exact nI_pos (by omega)
theorem wI_mn {v b : Int32} (h : ¬ v < 0) : wI v 0 b = mnF v b := by unfold wI mnF; rw [if_neg h]
theorem wI_in {v : Int32} {k b : Nat} (h : v = nI k) (hk : k ≤ b) (hb : b < 2 ^ 31) : wI v 0 (nI b) = v := by
  subst h
  unfold wI
  rw [if_neg (nI_pos (by omega)), if_neg (nI_nlt hk hb)]
theorem tell_99 (z : zP) (w : Nat) (st cu : Nat → Int32) : wI (tellP z w st cu) 0 99 = tellP z w st cu := by
  obtain ⟨k, h1, h2⟩ := tell_rng z w st cu
  exact wI_in (b := 99) h2 h1 (by decide)
theorem tell_999 (z : zP) (w : Nat) (st cu : Nat → Int32) : wI (tellP z w st cu) 0 999 = tellP z w st cu := by
  obtain ⟨k, h1, h2⟩ := tell_rng z w st cu
  exact wI_in (b := 999) h2 (by omega) (by decide)

set_option maxHeartbeats 4000000 in
set_option maxRecDepth 100000 in
theorem cX_eatsOf (l : Launch) (E : mw_E) (σ : mw_M) (s : Nat) (hs : s < 3) (cp : Nat) (hcp : 6 ≤ cp ∧ cp < 30) (z : zP) (hru : xRu σ s z) : mw_Ci shX 75 gX l yX4_eatsOf cX4_eatsOf 4 (some .int) (rmF 4 132) E [.ref (mw_a E 63), .ref (mw_a E (s)), .ref (mw_a E (cp))] σ (fun r u => r = eatsP z (σ.1 s) (σ.1 cp) ∧ xFs σ u) := by
  refine mw_of (by decide) gX_ok (Nat.le_of_ble_eq_true rfl) ?_
  intro p_ e_ s_ m_ below meth c_ C hr hlk Z hP ls hl
  have C : CallFix p_ m_ c_ cX4_eatsOf 4 s_ _ lw_good RX4 := C
  have hl : lv_has ls 4 [(0, .ref (mw_a E 63)), (1, .ref (mw_a E (s))), (2, .ref (mw_a E (cp)))] := hl
  have hS : va_S (mw_A 75 E) s_.heap s_.heap [] := va_S.rf
  obtain ⟨t, tc, h5, htc, htl, h6, hx⟩ := hru
  refine lv_aload_n C.1 C.2.1 dX4_eatsOf_0 rfl (lv_at hl 2 rfl) ?_
  refine mw_geti C Z hP (cp) 0 (by omega) (sx_cu (by omega) (by omega)) rfl rfl (by decide) inX1 tw_1_43 dX4_eatsOf_1 ?_
  refine lv_iconst (v := 4) C.1 C.2.1 dX4_eatsOf_4 (by decide) ?_
  refine lv_icmp_ne (tgt := 18) C.1 C.2.1 dX4_eatsOf_5 (by decide) (fun c1 => ?_) (fun c1 => ?_)
  · refine lv_aload_n C.1 C.2.1 dX4_eatsOf_18 rfl (lv_at hl 0 rfl) ?_
    refine mw_getr C Z hP (63) 0 (37) (by decide) sx_63 rfl rfl (by decide) inX4 tw_1_205 dX4_eatsOf_19 ?_
    refine lv_aload_n C.1 C.2.1 dX4_eatsOf_22 rfl (lv_at hl 1 rfl) ?_
    refine mw_cVr (As := [.ref (mw_a E (s))]) (rest := []) C Z hP hS (37) (cX_ruleOf l E σ (s) (by omega) tc htc h6 t htl h5) vb_X9_ruleOf tw_3_85 ⟨rfl, rfl⟩ ⟨Nat.le_of_ble_eq_true rfl, Nat.le_of_ble_eq_true rfl⟩ (by decide) sx_37 rfl rfl rfl hl.1 rfl (Nat.le_of_ble_eq_true rfl) dX4_eatsOf_23 ⟨Nat.zero_le _, Nat.zero_le _⟩ (fun u3 H locs q4 hP hS => ?_)
    rw [q4] at hP; clear q4
    refine lv_iconst (v := 0) C.1 C.2.1 dX4_eatsOf_26 (by decide) ?_
    refine lv_aload_n C.1 C.2.1 dX4_eatsOf_27 rfl (lv_at hl 1 rfl) ?_
    refine lv_aload_n C.1 C.2.1 dX4_eatsOf_28 rfl (lv_at hl 2 rfl) ?_
    refine mw_cVi (As := [.int 0, .ref (mw_a E (s)), .ref (mw_a E (cp))]) (rest := []) C Z hP hS (39 + t) (cX_tell0 l E σ t z hx s hs cp hcp) vb_X8_tell tw_3_93 ⟨rfl, rfl⟩ ⟨Nat.le_of_ble_eq_true rfl, Nat.le_of_ble_eq_true rfl⟩ (by omega) (sx_tx (by omega)) rfl rfl rfl hl.1 rfl (Nat.le_of_ble_eq_true rfl) dX4_eatsOf_29 ⟨Nat.zero_le _, Nat.zero_le _⟩ (fun r5 u6 H locs q7 hP hS => ?_)
    obtain ⟨e9, f8⟩ := q7
    subst e9
    refine lv_istore_n (lv' := [(3, .int (tellP z 0 (σ.1 s) (σ.1 cp))), (0, .ref (mw_a E 63)), (1, .ref (mw_a E (s))), (2, .ref (mw_a E (cp)))]) C.1 C.2.1 dX4_eatsOf_32 rfl hl (by decide) rfl (fun ls hl => ?_)
    refine lv_aload_n C.1 C.2.1 dX4_eatsOf_33 rfl (lv_at hl 3 rfl) ?_
    refine mw_geti C Z hP (cp) 0 (by omega) (sx_cu (by omega) (by omega)) rfl rfl (by decide) inX1 tw_1_43 dX4_eatsOf_34 ?_
    refine mw_top (y := σ.1 cp 0) ((congrFun (congrFun f8.1 _) _)) ?_
    by_cases c10 : σ.1 cp 0 = 1
    · refine lv_tableIn (off := 35) (tgt := 72) C.1 C.2.1 dX4_eatsOf_37 (by rw [c10]; decide) (by rw [c10]; decide) (by rw [c10]; decide) (by decide) ?_
      refine lv_iconst (v := 2) C.1 C.2.1 dX4_eatsOf_72 (by decide) ?_
      refine lv_iload_n C.1 C.2.1 dX4_eatsOf_73 rfl (lv_at hl 0 rfl) ?_
      refine lv_imul C.1 C.2.1 dX4_eatsOf_74 ?_
      refine lv_bipush (v := 99) C.1 C.2.1 dX4_eatsOf_75 (by decide) ?_
      refine mw_cSiN (As := [.int (2 * (tellP z 0 (σ.1 s) (σ.1 cp))), .int 99]) (rest := []) C Z hP hS (cX_bounded l E u6 (2 * (tellP z 0 (σ.1 s) (σ.1 cp))) 99 (by decide)) sb_X11_bounded Z.2.2.1.2.2.2.2.2.2.1 ⟨rfl, rfl⟩ ⟨Nat.le_of_ble_eq_true rfl, Nat.le_of_ble_eq_true rfl⟩ rfl hl.1 rfl (Nat.le_of_ble_eq_true rfl) dX4_eatsOf_77 ⟨Nat.zero_le _, Nat.zero_le _⟩ (fun r11 u12 H locs q13 hP hS => ?_)
      obtain ⟨rfl, q13u⟩ := q13
      rw [q13u] at hP; clear q13u
      exact mw_iret C hr hlk Z hP hS dX4_eatsOf_80 (⟨by first | (unfold eatsP; simp [c1, c10, tell_99 z 0 (σ.1 s) (σ.1 cp), wI_mn (tell_pos z 0 (σ.1 s) (σ.1 cp))]; done) | (exfalso; simp_all; done), f8⟩)
    by_cases c14 : σ.1 cp 0 = 2
    · refine lv_tableIn (off := 44) (tgt := 81) C.1 C.2.1 dX4_eatsOf_37 (by rw [c14]; decide) (by rw [c14]; decide) (by rw [c14]; decide) (by decide) ?_
      refine lv_iload_n C.1 C.2.1 dX4_eatsOf_81 rfl (lv_at hl 0 rfl) ?_
      refine lv_aload_n C.1 C.2.1 dX4_eatsOf_82 rfl (lv_at hl 2 rfl) ?_
      refine mw_geti C Z hP (s) 1 (by omega) (sx_st (by omega)) rfl rfl (by decide) inX6 tw_1_78 dX4_eatsOf_83 ?_
      refine mw_top (y := σ.1 s 1) ((congrFun (congrFun f8.1 _) _)) ?_
      refine mw_cSi (As := [.int (tellP z 0 (σ.1 s) (σ.1 cp)), .int (σ.1 s 1)]) (rest := []) C Z hP hS (cX_min l E u6 (tellP z 0 (σ.1 s) (σ.1 cp)) (σ.1 s 1)) sb_J9_min_7cf53 tw_3_112 ⟨rfl, rfl⟩ ⟨Nat.le_of_ble_eq_true rfl, Nat.le_of_ble_eq_true rfl⟩ rfl hl.1 rfl (Nat.le_of_ble_eq_true rfl) dX4_eatsOf_86 ⟨Nat.zero_le _, Nat.zero_le _⟩ (fun r15 u16 H locs q17 hP hS => ?_)
      obtain ⟨rfl, q17u⟩ := q17
      rw [q17u] at hP; clear q17u
      refine lv_bipush (v := 99) C.1 C.2.1 dX4_eatsOf_89 (by decide) ?_
      refine mw_cSiN (As := [.int (mnF (tellP z 0 (σ.1 s) (σ.1 cp)) (σ.1 s 1)), .int 99]) (rest := []) C Z hP hS (cX_bounded l E u6 (mnF (tellP z 0 (σ.1 s) (σ.1 cp)) (σ.1 s 1)) 99 (by decide)) sb_X11_bounded Z.2.2.1.2.2.2.2.2.2.1 ⟨rfl, rfl⟩ ⟨Nat.le_of_ble_eq_true rfl, Nat.le_of_ble_eq_true rfl⟩ rfl hl.1 rfl (Nat.le_of_ble_eq_true rfl) dX4_eatsOf_91 ⟨Nat.zero_le _, Nat.zero_le _⟩ (fun r18 u19 H locs q20 hP hS => ?_)
      obtain ⟨rfl, q20u⟩ := q20
      rw [q20u] at hP; clear q20u
      exact mw_iret C hr hlk Z hP hS dX4_eatsOf_94 (⟨by first | (unfold eatsP; simp [c1, c10, c14, tell_99 z 0 (σ.1 s) (σ.1 cp), wI_mn (tell_pos z 0 (σ.1 s) (σ.1 cp))]; done) | (exfalso; simp_all; done), f8⟩)
    by_cases c21 : σ.1 cp 0 = 3
    · refine lv_tableIn (off := 58) (tgt := 95) C.1 C.2.1 dX4_eatsOf_37 (by rw [c21]; decide) (by rw [c21]; decide) (by rw [c21]; decide) (by decide) ?_
      refine lv_iconst (v := 2) C.1 C.2.1 dX4_eatsOf_95 (by decide) ?_
      refine lv_iload_n C.1 C.2.1 dX4_eatsOf_96 rfl (lv_at hl 0 rfl) ?_
      refine lv_imul C.1 C.2.1 dX4_eatsOf_97 ?_
      refine lv_aload_n C.1 C.2.1 dX4_eatsOf_98 rfl (lv_at hl 3 rfl) ?_
      refine mw_geti C Z hP (cp) 3 (by omega) (sx_cu (by omega) (by omega)) rfl rfl (by decide) inX1 tw_1_56 dX4_eatsOf_99 ?_
      refine mw_top (y := σ.1 cp 3) ((congrFun (congrFun f8.1 _) _)) ?_
      refine lv_bipush (v := 10) C.1 C.2.1 dX4_eatsOf_102 (by decide) ?_
      refine lv_idiv C.1 C.2.1 dX4_eatsOf_104 (by decide) ?_
      refine lv_iadd C.1 C.2.1 dX4_eatsOf_105 ?_
      refine lv_bipush (v := 99) C.1 C.2.1 dX4_eatsOf_106 (by decide) ?_
      refine mw_cSiN (As := [.int ((2 * (tellP z 0 (σ.1 s) (σ.1 cp))) + ((σ.1 cp 3) / 10)), .int 99]) (rest := []) C Z hP hS (cX_bounded l E u6 ((2 * (tellP z 0 (σ.1 s) (σ.1 cp))) + ((σ.1 cp 3) / 10)) 99 (by decide)) sb_X11_bounded Z.2.2.1.2.2.2.2.2.2.1 ⟨rfl, rfl⟩ ⟨Nat.le_of_ble_eq_true rfl, Nat.le_of_ble_eq_true rfl⟩ rfl hl.1 rfl (Nat.le_of_ble_eq_true rfl) dX4_eatsOf_108 ⟨Nat.zero_le _, Nat.zero_le _⟩ (fun r22 u23 H locs q24 hP hS => ?_)
      obtain ⟨rfl, q24u⟩ := q24
      rw [q24u] at hP; clear q24u
      exact mw_iret C hr hlk Z hP hS dX4_eatsOf_111 (⟨by first | (unfold eatsP; simp [c1, c10, c14, c21, tell_99 z 0 (σ.1 s) (σ.1 cp), wI_mn (tell_pos z 0 (σ.1 s) (σ.1 cp))]; done) | (exfalso; simp_all; done), f8⟩)
    by_cases c25 : σ.1 cp 0 = 4
    · refine lv_tableIn (off := 44) (tgt := 81) C.1 C.2.1 dX4_eatsOf_37 (by rw [c25]; decide) (by rw [c25]; decide) (by rw [c25]; decide) (by decide) ?_
      refine lv_iload_n C.1 C.2.1 dX4_eatsOf_81 rfl (lv_at hl 0 rfl) ?_
      refine lv_aload_n C.1 C.2.1 dX4_eatsOf_82 rfl (lv_at hl 2 rfl) ?_
      refine mw_geti C Z hP (s) 1 (by omega) (sx_st (by omega)) rfl rfl (by decide) inX6 tw_1_78 dX4_eatsOf_83 ?_
      refine mw_top (y := σ.1 s 1) ((congrFun (congrFun f8.1 _) _)) ?_
      refine mw_cSi (As := [.int (tellP z 0 (σ.1 s) (σ.1 cp)), .int (σ.1 s 1)]) (rest := []) C Z hP hS (cX_min l E u6 (tellP z 0 (σ.1 s) (σ.1 cp)) (σ.1 s 1)) sb_J9_min_7cf53 tw_3_112 ⟨rfl, rfl⟩ ⟨Nat.le_of_ble_eq_true rfl, Nat.le_of_ble_eq_true rfl⟩ rfl hl.1 rfl (Nat.le_of_ble_eq_true rfl) dX4_eatsOf_86 ⟨Nat.zero_le _, Nat.zero_le _⟩ (fun r26 u27 H locs q28 hP hS => ?_)
      obtain ⟨rfl, q28u⟩ := q28
      rw [q28u] at hP; clear q28u
      refine lv_bipush (v := 99) C.1 C.2.1 dX4_eatsOf_89 (by decide) ?_
      refine mw_cSiN (As := [.int (mnF (tellP z 0 (σ.1 s) (σ.1 cp)) (σ.1 s 1)), .int 99]) (rest := []) C Z hP hS (cX_bounded l E u6 (mnF (tellP z 0 (σ.1 s) (σ.1 cp)) (σ.1 s 1)) 99 (by decide)) sb_X11_bounded Z.2.2.1.2.2.2.2.2.2.1 ⟨rfl, rfl⟩ ⟨Nat.le_of_ble_eq_true rfl, Nat.le_of_ble_eq_true rfl⟩ rfl hl.1 rfl (Nat.le_of_ble_eq_true rfl) dX4_eatsOf_91 ⟨Nat.zero_le _, Nat.zero_le _⟩ (fun r29 u30 H locs q31 hP hS => ?_)
      obtain ⟨rfl, q31u⟩ := q31
      rw [q31u] at hP; clear q31u
      exact mw_iret C hr hlk Z hP hS dX4_eatsOf_94 (⟨by first | (unfold eatsP; simp [c1, c10, c14, c21, c25, tell_99 z 0 (σ.1 s) (σ.1 cp), wI_mn (tell_pos z 0 (σ.1 s) (σ.1 cp))]; done) | (exfalso; simp_all; done), f8⟩)
    by_cases c32 : σ.1 cp 0 = 5
    · refine lv_tableIn (off := 75) (tgt := 112) C.1 C.2.1 dX4_eatsOf_37 (by rw [c32]; decide) (by rw [c32]; decide) (by rw [c32]; decide) (by decide) ?_
      refine lv_iload_n C.1 C.2.1 dX4_eatsOf_112 rfl (lv_at hl 0 rfl) ?_
      refine lv_iconst (v := 1) C.1 C.2.1 dX4_eatsOf_113 (by decide) ?_
      refine mw_cSi (As := [.int (tellP z 0 (σ.1 s) (σ.1 cp)), .int 1]) (rest := []) C Z hP hS (cX_min l E u6 (tellP z 0 (σ.1 s) (σ.1 cp)) 1) sb_J9_min_7cf53 tw_3_112 ⟨rfl, rfl⟩ ⟨Nat.le_of_ble_eq_true rfl, Nat.le_of_ble_eq_true rfl⟩ rfl hl.1 rfl (Nat.le_of_ble_eq_true rfl) dX4_eatsOf_114 ⟨Nat.zero_le _, Nat.zero_le _⟩ (fun r33 u34 H locs q35 hP hS => ?_)
      obtain ⟨rfl, q35u⟩ := q35
      rw [q35u] at hP; clear q35u
      refine lv_bipush (v := 99) C.1 C.2.1 dX4_eatsOf_117 (by decide) ?_
      refine mw_cSiN (As := [.int (mnF (tellP z 0 (σ.1 s) (σ.1 cp)) 1), .int 99]) (rest := []) C Z hP hS (cX_bounded l E u6 (mnF (tellP z 0 (σ.1 s) (σ.1 cp)) 1) 99 (by decide)) sb_X11_bounded Z.2.2.1.2.2.2.2.2.2.1 ⟨rfl, rfl⟩ ⟨Nat.le_of_ble_eq_true rfl, Nat.le_of_ble_eq_true rfl⟩ rfl hl.1 rfl (Nat.le_of_ble_eq_true rfl) dX4_eatsOf_119 ⟨Nat.zero_le _, Nat.zero_le _⟩ (fun r36 u37 H locs q38 hP hS => ?_)
      obtain ⟨rfl, q38u⟩ := q38
      rw [q38u] at hP; clear q38u
      exact mw_iret C hr hlk Z hP hS dX4_eatsOf_122 (⟨by first | (unfold eatsP; simp [c1, c10, c14, c21, c25, c32, tell_99 z 0 (σ.1 s) (σ.1 cp), wI_mn (tell_pos z 0 (σ.1 s) (σ.1 cp))]; done) | (exfalso; simp_all; done), f8⟩)
    refine lv_tableOut (tgt := 123) C.1 C.2.1 dX4_eatsOf_37 (by have z0 := (not_congr (ni_eq _ _)).mp c10; have y0 : (1 : Int32).toInt = 1 := rfl; have z1 := (not_congr (ni_eq _ _)).mp c14; have y1 : (2 : Int32).toInt = 2 := rfl; have z2 := (not_congr (ni_eq _ _)).mp c21; have y2 : (3 : Int32).toInt = 3 := rfl; have z3 := (not_congr (ni_eq _ _)).mp c25; have y3 : (4 : Int32).toInt = 4 := rfl; have z4 := (not_congr (ni_eq _ _)).mp c32; have y4 : (5 : Int32).toInt = 5 := rfl; omega) (by decide) ?_
    refine lv_iload_n C.1 C.2.1 dX4_eatsOf_123 rfl (lv_at hl 0 rfl) ?_
    exact mw_iret C hr hlk Z hP hS dX4_eatsOf_124 (⟨by first | (unfold eatsP; simp [c1, c10, c14, c21, c25, c32, tell_99 z 0 (σ.1 s) (σ.1 cp), wI_mn (tell_pos z 0 (σ.1 s) (σ.1 cp))]; done) | (exfalso; simp_all; done), f8⟩)
  · refine lv_aload_n C.1 C.2.1 dX4_eatsOf_8 rfl (lv_at hl 1 rfl) ?_
    refine mw_geti C Z hP (s) 2 (by omega) (sx_st (by omega)) rfl rfl (by decide) inX6 tw_1_82 dX4_eatsOf_9 ?_
    refine lv_iconst (v := 1) C.1 C.2.1 dX4_eatsOf_12 (by decide) ?_
    refine lv_icmp_ne (tgt := 18) C.1 C.2.1 dX4_eatsOf_13 (by decide) (fun c39 => ?_) (fun c39 => ?_)
    · refine lv_aload_n C.1 C.2.1 dX4_eatsOf_18 rfl (lv_at hl 0 rfl) ?_
      refine mw_getr C Z hP (63) 0 (37) (by decide) sx_63 rfl rfl (by decide) inX4 tw_1_205 dX4_eatsOf_19 ?_
      refine lv_aload_n C.1 C.2.1 dX4_eatsOf_22 rfl (lv_at hl 1 rfl) ?_
      refine mw_cVr (As := [.ref (mw_a E (s))]) (rest := []) C Z hP hS (37) (cX_ruleOf l E σ (s) (by omega) tc htc h6 t htl h5) vb_X9_ruleOf tw_3_85 ⟨rfl, rfl⟩ ⟨Nat.le_of_ble_eq_true rfl, Nat.le_of_ble_eq_true rfl⟩ (by decide) sx_37 rfl rfl rfl hl.1 rfl (Nat.le_of_ble_eq_true rfl) dX4_eatsOf_23 ⟨Nat.zero_le _, Nat.zero_le _⟩ (fun u41 H locs q42 hP hS => ?_)
      rw [q42] at hP; clear q42
      refine lv_iconst (v := 0) C.1 C.2.1 dX4_eatsOf_26 (by decide) ?_
      refine lv_aload_n C.1 C.2.1 dX4_eatsOf_27 rfl (lv_at hl 1 rfl) ?_
      refine lv_aload_n C.1 C.2.1 dX4_eatsOf_28 rfl (lv_at hl 2 rfl) ?_
      refine mw_cVi (As := [.int 0, .ref (mw_a E (s)), .ref (mw_a E (cp))]) (rest := []) C Z hP hS (39 + t) (cX_tell0 l E σ t z hx s hs cp hcp) vb_X8_tell tw_3_93 ⟨rfl, rfl⟩ ⟨Nat.le_of_ble_eq_true rfl, Nat.le_of_ble_eq_true rfl⟩ (by omega) (sx_tx (by omega)) rfl rfl rfl hl.1 rfl (Nat.le_of_ble_eq_true rfl) dX4_eatsOf_29 ⟨Nat.zero_le _, Nat.zero_le _⟩ (fun r43 u44 H locs q45 hP hS => ?_)
      obtain ⟨e47, f46⟩ := q45
      subst e47
      refine lv_istore_n (lv' := [(3, .int (tellP z 0 (σ.1 s) (σ.1 cp))), (0, .ref (mw_a E 63)), (1, .ref (mw_a E (s))), (2, .ref (mw_a E (cp)))]) C.1 C.2.1 dX4_eatsOf_32 rfl hl (by decide) rfl (fun ls hl => ?_)
      refine lv_aload_n C.1 C.2.1 dX4_eatsOf_33 rfl (lv_at hl 3 rfl) ?_
      refine mw_geti C Z hP (cp) 0 (by omega) (sx_cu (by omega) (by omega)) rfl rfl (by decide) inX1 tw_1_43 dX4_eatsOf_34 ?_
      refine mw_top (y := σ.1 cp 0) ((congrFun (congrFun f46.1 _) _)) ?_
      by_cases c48 : σ.1 cp 0 = 1
      · refine lv_tableIn (off := 35) (tgt := 72) C.1 C.2.1 dX4_eatsOf_37 (by rw [c48]; decide) (by rw [c48]; decide) (by rw [c48]; decide) (by decide) ?_
        refine lv_iconst (v := 2) C.1 C.2.1 dX4_eatsOf_72 (by decide) ?_
        refine lv_iload_n C.1 C.2.1 dX4_eatsOf_73 rfl (lv_at hl 0 rfl) ?_
        refine lv_imul C.1 C.2.1 dX4_eatsOf_74 ?_
        refine lv_bipush (v := 99) C.1 C.2.1 dX4_eatsOf_75 (by decide) ?_
        refine mw_cSiN (As := [.int (2 * (tellP z 0 (σ.1 s) (σ.1 cp))), .int 99]) (rest := []) C Z hP hS (cX_bounded l E u44 (2 * (tellP z 0 (σ.1 s) (σ.1 cp))) 99 (by decide)) sb_X11_bounded Z.2.2.1.2.2.2.2.2.2.1 ⟨rfl, rfl⟩ ⟨Nat.le_of_ble_eq_true rfl, Nat.le_of_ble_eq_true rfl⟩ rfl hl.1 rfl (Nat.le_of_ble_eq_true rfl) dX4_eatsOf_77 ⟨Nat.zero_le _, Nat.zero_le _⟩ (fun r49 u50 H locs q51 hP hS => ?_)
        obtain ⟨rfl, q51u⟩ := q51
        rw [q51u] at hP; clear q51u
        exact mw_iret C hr hlk Z hP hS dX4_eatsOf_80 (⟨by first | (unfold eatsP; simp [c1, c39, c48, tell_99 z 0 (σ.1 s) (σ.1 cp), wI_mn (tell_pos z 0 (σ.1 s) (σ.1 cp))]; done) | (exfalso; simp_all; done), f46⟩)
      by_cases c52 : σ.1 cp 0 = 2
      · refine lv_tableIn (off := 44) (tgt := 81) C.1 C.2.1 dX4_eatsOf_37 (by rw [c52]; decide) (by rw [c52]; decide) (by rw [c52]; decide) (by decide) ?_
        refine lv_iload_n C.1 C.2.1 dX4_eatsOf_81 rfl (lv_at hl 0 rfl) ?_
        refine lv_aload_n C.1 C.2.1 dX4_eatsOf_82 rfl (lv_at hl 2 rfl) ?_
        refine mw_geti C Z hP (s) 1 (by omega) (sx_st (by omega)) rfl rfl (by decide) inX6 tw_1_78 dX4_eatsOf_83 ?_
        refine mw_top (y := σ.1 s 1) ((congrFun (congrFun f46.1 _) _)) ?_
        refine mw_cSi (As := [.int (tellP z 0 (σ.1 s) (σ.1 cp)), .int (σ.1 s 1)]) (rest := []) C Z hP hS (cX_min l E u44 (tellP z 0 (σ.1 s) (σ.1 cp)) (σ.1 s 1)) sb_J9_min_7cf53 tw_3_112 ⟨rfl, rfl⟩ ⟨Nat.le_of_ble_eq_true rfl, Nat.le_of_ble_eq_true rfl⟩ rfl hl.1 rfl (Nat.le_of_ble_eq_true rfl) dX4_eatsOf_86 ⟨Nat.zero_le _, Nat.zero_le _⟩ (fun r53 u54 H locs q55 hP hS => ?_)
        obtain ⟨rfl, q55u⟩ := q55
        rw [q55u] at hP; clear q55u
        refine lv_bipush (v := 99) C.1 C.2.1 dX4_eatsOf_89 (by decide) ?_
        refine mw_cSiN (As := [.int (mnF (tellP z 0 (σ.1 s) (σ.1 cp)) (σ.1 s 1)), .int 99]) (rest := []) C Z hP hS (cX_bounded l E u44 (mnF (tellP z 0 (σ.1 s) (σ.1 cp)) (σ.1 s 1)) 99 (by decide)) sb_X11_bounded Z.2.2.1.2.2.2.2.2.2.1 ⟨rfl, rfl⟩ ⟨Nat.le_of_ble_eq_true rfl, Nat.le_of_ble_eq_true rfl⟩ rfl hl.1 rfl (Nat.le_of_ble_eq_true rfl) dX4_eatsOf_91 ⟨Nat.zero_le _, Nat.zero_le _⟩ (fun r56 u57 H locs q58 hP hS => ?_)
        obtain ⟨rfl, q58u⟩ := q58
        rw [q58u] at hP; clear q58u
        exact mw_iret C hr hlk Z hP hS dX4_eatsOf_94 (⟨by first | (unfold eatsP; simp [c1, c39, c48, c52, tell_99 z 0 (σ.1 s) (σ.1 cp), wI_mn (tell_pos z 0 (σ.1 s) (σ.1 cp))]; done) | (exfalso; simp_all; done), f46⟩)
      by_cases c59 : σ.1 cp 0 = 3
      · refine lv_tableIn (off := 58) (tgt := 95) C.1 C.2.1 dX4_eatsOf_37 (by rw [c59]; decide) (by rw [c59]; decide) (by rw [c59]; decide) (by decide) ?_
        refine lv_iconst (v := 2) C.1 C.2.1 dX4_eatsOf_95 (by decide) ?_
        refine lv_iload_n C.1 C.2.1 dX4_eatsOf_96 rfl (lv_at hl 0 rfl) ?_
        refine lv_imul C.1 C.2.1 dX4_eatsOf_97 ?_
        refine lv_aload_n C.1 C.2.1 dX4_eatsOf_98 rfl (lv_at hl 3 rfl) ?_
        refine mw_geti C Z hP (cp) 3 (by omega) (sx_cu (by omega) (by omega)) rfl rfl (by decide) inX1 tw_1_56 dX4_eatsOf_99 ?_
        refine mw_top (y := σ.1 cp 3) ((congrFun (congrFun f46.1 _) _)) ?_
        refine lv_bipush (v := 10) C.1 C.2.1 dX4_eatsOf_102 (by decide) ?_
        refine lv_idiv C.1 C.2.1 dX4_eatsOf_104 (by decide) ?_
        refine lv_iadd C.1 C.2.1 dX4_eatsOf_105 ?_
        refine lv_bipush (v := 99) C.1 C.2.1 dX4_eatsOf_106 (by decide) ?_
        refine mw_cSiN (As := [.int ((2 * (tellP z 0 (σ.1 s) (σ.1 cp))) + ((σ.1 cp 3) / 10)), .int 99]) (rest := []) C Z hP hS (cX_bounded l E u44 ((2 * (tellP z 0 (σ.1 s) (σ.1 cp))) + ((σ.1 cp 3) / 10)) 99 (by decide)) sb_X11_bounded Z.2.2.1.2.2.2.2.2.2.1 ⟨rfl, rfl⟩ ⟨Nat.le_of_ble_eq_true rfl, Nat.le_of_ble_eq_true rfl⟩ rfl hl.1 rfl (Nat.le_of_ble_eq_true rfl) dX4_eatsOf_108 ⟨Nat.zero_le _, Nat.zero_le _⟩ (fun r60 u61 H locs q62 hP hS => ?_)
        obtain ⟨rfl, q62u⟩ := q62
        rw [q62u] at hP; clear q62u
        exact mw_iret C hr hlk Z hP hS dX4_eatsOf_111 (⟨by first | (unfold eatsP; simp [c1, c39, c48, c52, c59, tell_99 z 0 (σ.1 s) (σ.1 cp), wI_mn (tell_pos z 0 (σ.1 s) (σ.1 cp))]; done) | (exfalso; simp_all; done), f46⟩)
      by_cases c63 : σ.1 cp 0 = 4
      · refine lv_tableIn (off := 44) (tgt := 81) C.1 C.2.1 dX4_eatsOf_37 (by rw [c63]; decide) (by rw [c63]; decide) (by rw [c63]; decide) (by decide) ?_
        refine lv_iload_n C.1 C.2.1 dX4_eatsOf_81 rfl (lv_at hl 0 rfl) ?_
        refine lv_aload_n C.1 C.2.1 dX4_eatsOf_82 rfl (lv_at hl 2 rfl) ?_
        refine mw_geti C Z hP (s) 1 (by omega) (sx_st (by omega)) rfl rfl (by decide) inX6 tw_1_78 dX4_eatsOf_83 ?_
        refine mw_top (y := σ.1 s 1) ((congrFun (congrFun f46.1 _) _)) ?_
        refine mw_cSi (As := [.int (tellP z 0 (σ.1 s) (σ.1 cp)), .int (σ.1 s 1)]) (rest := []) C Z hP hS (cX_min l E u44 (tellP z 0 (σ.1 s) (σ.1 cp)) (σ.1 s 1)) sb_J9_min_7cf53 tw_3_112 ⟨rfl, rfl⟩ ⟨Nat.le_of_ble_eq_true rfl, Nat.le_of_ble_eq_true rfl⟩ rfl hl.1 rfl (Nat.le_of_ble_eq_true rfl) dX4_eatsOf_86 ⟨Nat.zero_le _, Nat.zero_le _⟩ (fun r64 u65 H locs q66 hP hS => ?_)
        obtain ⟨rfl, q66u⟩ := q66
        rw [q66u] at hP; clear q66u
        refine lv_bipush (v := 99) C.1 C.2.1 dX4_eatsOf_89 (by decide) ?_
        refine mw_cSiN (As := [.int (mnF (tellP z 0 (σ.1 s) (σ.1 cp)) (σ.1 s 1)), .int 99]) (rest := []) C Z hP hS (cX_bounded l E u44 (mnF (tellP z 0 (σ.1 s) (σ.1 cp)) (σ.1 s 1)) 99 (by decide)) sb_X11_bounded Z.2.2.1.2.2.2.2.2.2.1 ⟨rfl, rfl⟩ ⟨Nat.le_of_ble_eq_true rfl, Nat.le_of_ble_eq_true rfl⟩ rfl hl.1 rfl (Nat.le_of_ble_eq_true rfl) dX4_eatsOf_91 ⟨Nat.zero_le _, Nat.zero_le _⟩ (fun r67 u68 H locs q69 hP hS => ?_)
        obtain ⟨rfl, q69u⟩ := q69
        rw [q69u] at hP; clear q69u
        exact mw_iret C hr hlk Z hP hS dX4_eatsOf_94 (⟨by first | (unfold eatsP; simp [c1, c39, c48, c52, c59, c63, tell_99 z 0 (σ.1 s) (σ.1 cp), wI_mn (tell_pos z 0 (σ.1 s) (σ.1 cp))]; done) | (exfalso; simp_all; done), f46⟩)
      by_cases c70 : σ.1 cp 0 = 5
      · refine lv_tableIn (off := 75) (tgt := 112) C.1 C.2.1 dX4_eatsOf_37 (by rw [c70]; decide) (by rw [c70]; decide) (by rw [c70]; decide) (by decide) ?_
        refine lv_iload_n C.1 C.2.1 dX4_eatsOf_112 rfl (lv_at hl 0 rfl) ?_
        refine lv_iconst (v := 1) C.1 C.2.1 dX4_eatsOf_113 (by decide) ?_
        refine mw_cSi (As := [.int (tellP z 0 (σ.1 s) (σ.1 cp)), .int 1]) (rest := []) C Z hP hS (cX_min l E u44 (tellP z 0 (σ.1 s) (σ.1 cp)) 1) sb_J9_min_7cf53 tw_3_112 ⟨rfl, rfl⟩ ⟨Nat.le_of_ble_eq_true rfl, Nat.le_of_ble_eq_true rfl⟩ rfl hl.1 rfl (Nat.le_of_ble_eq_true rfl) dX4_eatsOf_114 ⟨Nat.zero_le _, Nat.zero_le _⟩ (fun r71 u72 H locs q73 hP hS => ?_)
        obtain ⟨rfl, q73u⟩ := q73
        rw [q73u] at hP; clear q73u
        refine lv_bipush (v := 99) C.1 C.2.1 dX4_eatsOf_117 (by decide) ?_
        refine mw_cSiN (As := [.int (mnF (tellP z 0 (σ.1 s) (σ.1 cp)) 1), .int 99]) (rest := []) C Z hP hS (cX_bounded l E u44 (mnF (tellP z 0 (σ.1 s) (σ.1 cp)) 1) 99 (by decide)) sb_X11_bounded Z.2.2.1.2.2.2.2.2.2.1 ⟨rfl, rfl⟩ ⟨Nat.le_of_ble_eq_true rfl, Nat.le_of_ble_eq_true rfl⟩ rfl hl.1 rfl (Nat.le_of_ble_eq_true rfl) dX4_eatsOf_119 ⟨Nat.zero_le _, Nat.zero_le _⟩ (fun r74 u75 H locs q76 hP hS => ?_)
        obtain ⟨rfl, q76u⟩ := q76
        rw [q76u] at hP; clear q76u
        exact mw_iret C hr hlk Z hP hS dX4_eatsOf_122 (⟨by first | (unfold eatsP; simp [c1, c39, c48, c52, c59, c63, c70, tell_99 z 0 (σ.1 s) (σ.1 cp), wI_mn (tell_pos z 0 (σ.1 s) (σ.1 cp))]; done) | (exfalso; simp_all; done), f46⟩)
      refine lv_tableOut (tgt := 123) C.1 C.2.1 dX4_eatsOf_37 (by have z0 := (not_congr (ni_eq _ _)).mp c48; have y0 : (1 : Int32).toInt = 1 := rfl; have z1 := (not_congr (ni_eq _ _)).mp c52; have y1 : (2 : Int32).toInt = 2 := rfl; have z2 := (not_congr (ni_eq _ _)).mp c59; have y2 : (3 : Int32).toInt = 3 := rfl; have z3 := (not_congr (ni_eq _ _)).mp c63; have y3 : (4 : Int32).toInt = 4 := rfl; have z4 := (not_congr (ni_eq _ _)).mp c70; have y4 : (5 : Int32).toInt = 5 := rfl; omega) (by decide) ?_
      refine lv_iload_n C.1 C.2.1 dX4_eatsOf_123 rfl (lv_at hl 0 rfl) ?_
      exact mw_iret C hr hlk Z hP hS dX4_eatsOf_124 (⟨by first | (unfold eatsP; simp [c1, c39, c48, c52, c59, c63, c70, tell_99 z 0 (σ.1 s) (σ.1 cp), wI_mn (tell_pos z 0 (σ.1 s) (σ.1 cp))]; done) | (exfalso; simp_all; done), f46⟩)
    · refine lv_iconst (v := 1) C.1 C.2.1 dX4_eatsOf_16 (by decide) ?_
      exact mw_iret C hr hlk Z hP hS dX4_eatsOf_17 (⟨by first | (unfold eatsP; simp [c1, c39, tell_99 z 0 (σ.1 s) (σ.1 cp), wI_mn (tell_pos z 0 (σ.1 s) (σ.1 cp))]; done) | (exfalso; simp_all; done), (xFs.rf σ)⟩)

set_option maxHeartbeats 4000000 in
set_option maxRecDepth 100000 in
theorem cX_triesOf (l : Launch) (E : mw_E) (σ : mw_M) (s : Nat) (hs : s < 3) (cp : Nat) (hcp : 6 ≤ cp ∧ cp < 30) (z : zP) (hru : xRu σ s z) : mw_Ci shX 75 gX l yX4_triesOf cX4_triesOf 4 (some .int) (rmF 4 132) E [.ref (mw_a E 63), .ref (mw_a E (s)), .ref (mw_a E (cp))] σ (fun r u => r = triesP z (σ.1 s) (σ.1 cp) ∧ xFs σ u) := by
  refine mw_of (by decide) gX_ok (Nat.le_of_ble_eq_true rfl) ?_
  intro p_ e_ s_ m_ below meth c_ C hr hlk Z hP ls hl
  have C : CallFix p_ m_ c_ cX4_triesOf 4 s_ _ lw_good RX4 := C
  have hl : lv_has ls 4 [(0, .ref (mw_a E 63)), (1, .ref (mw_a E (s))), (2, .ref (mw_a E (cp)))] := hl
  have hS : va_S (mw_A 75 E) s_.heap s_.heap [] := va_S.rf
  obtain ⟨t, tc, h5, htc, htl, h6, hx⟩ := hru
  refine lv_aload_n C.1 C.2.1 dX4_triesOf_0 rfl (lv_at hl 2 rfl) ?_
  refine mw_geti C Z hP (cp) 0 (by omega) (sx_cu (by omega) (by omega)) rfl rfl (by decide) inX1 tw_1_43 dX4_triesOf_1 ?_
  refine lv_iconst (v := 1) C.1 C.2.1 dX4_triesOf_4 (by decide) ?_
  refine lv_icmp_eq (tgt := 16) C.1 C.2.1 dX4_triesOf_5 (by decide) (fun c1 => ?_) (fun c1 => ?_)
  · refine lv_iconst (v := 0) C.1 C.2.1 dX4_triesOf_16 (by decide) ?_
    exact mw_iret C hr hlk Z hP hS dX4_triesOf_17 (⟨by first | (unfold triesP; simp [c1, tell_99 z 1 (σ.1 s) (σ.1 cp)]; done) | (exfalso; simp_all; done), (xFs.rf σ)⟩)
  · refine lv_aload_n C.1 C.2.1 dX4_triesOf_8 rfl (lv_at hl 2 rfl) ?_
    refine mw_geti C Z hP (cp) 0 (by omega) (sx_cu (by omega) (by omega)) rfl rfl (by decide) inX1 tw_1_43 dX4_triesOf_9 ?_
    refine lv_iconst (v := 4) C.1 C.2.1 dX4_triesOf_12 (by decide) ?_
    refine lv_icmp_ne (tgt := 18) C.1 C.2.1 dX4_triesOf_13 (by decide) (fun c2 => ?_) (fun c2 => ?_)
    · refine lv_aload_n C.1 C.2.1 dX4_triesOf_18 rfl (lv_at hl 2 rfl) ?_
      refine mw_geti C Z hP (cp) 0 (by omega) (sx_cu (by omega) (by omega)) rfl rfl (by decide) inX1 tw_1_43 dX4_triesOf_19 ?_
      refine lv_iconst (v := 5) C.1 C.2.1 dX4_triesOf_22 (by decide) ?_
      refine lv_icmp_ne (tgt := 36) C.1 C.2.1 dX4_triesOf_23 (by decide) (fun c3 => ?_) (fun c3 => ?_)
      · refine lv_aload_n C.1 C.2.1 dX4_triesOf_36 rfl (lv_at hl 0 rfl) ?_
        refine mw_getr C Z hP (63) 0 (37) (by decide) sx_63 rfl rfl (by decide) inX4 tw_1_205 dX4_triesOf_37 ?_
        refine lv_aload_n C.1 C.2.1 dX4_triesOf_40 rfl (lv_at hl 1 rfl) ?_
        refine mw_cVr (As := [.ref (mw_a E (s))]) (rest := []) C Z hP hS (37) (cX_ruleOf l E σ (s) (by omega) tc htc h6 t htl h5) vb_X9_ruleOf tw_3_85 ⟨rfl, rfl⟩ ⟨Nat.le_of_ble_eq_true rfl, Nat.le_of_ble_eq_true rfl⟩ (by decide) sx_37 rfl rfl rfl hl.1 rfl (Nat.le_of_ble_eq_true rfl) dX4_triesOf_41 ⟨Nat.zero_le _, Nat.zero_le _⟩ (fun u5 H locs q6 hP hS => ?_)
        rw [q6] at hP; clear q6
        refine lv_iconst (v := 1) C.1 C.2.1 dX4_triesOf_44 (by decide) ?_
        refine lv_aload_n C.1 C.2.1 dX4_triesOf_45 rfl (lv_at hl 1 rfl) ?_
        refine lv_aload_n C.1 C.2.1 dX4_triesOf_46 rfl (lv_at hl 2 rfl) ?_
        refine mw_cVi (As := [.int 1, .ref (mw_a E (s)), .ref (mw_a E (cp))]) (rest := []) C Z hP hS (39 + t) (cX_tell1 l E σ t z hx s hs cp hcp) vb_X8_tell tw_3_93 ⟨rfl, rfl⟩ ⟨Nat.le_of_ble_eq_true rfl, Nat.le_of_ble_eq_true rfl⟩ (by omega) (sx_tx (by omega)) rfl rfl rfl hl.1 rfl (Nat.le_of_ble_eq_true rfl) dX4_triesOf_47 ⟨Nat.zero_le _, Nat.zero_le _⟩ (fun r7 u8 H locs q9 hP hS => ?_)
        obtain ⟨e11, f10⟩ := q9
        subst e11
        refine lv_istore_n (lv' := [(3, .int (tellP z 1 (σ.1 s) (σ.1 cp))), (0, .ref (mw_a E 63)), (1, .ref (mw_a E (s))), (2, .ref (mw_a E (cp)))]) C.1 C.2.1 dX4_triesOf_50 rfl hl (by decide) rfl (fun ls hl => ?_)
        refine lv_aload_n C.1 C.2.1 dX4_triesOf_51 rfl (lv_at hl 3 rfl) ?_
        refine mw_geti C Z hP (cp) 0 (by omega) (sx_cu (by omega) (by omega)) rfl rfl (by decide) inX1 tw_1_43 dX4_triesOf_52 ?_
        refine mw_top (y := σ.1 cp 0) ((congrFun (congrFun f10.1 _) _)) ?_
        by_cases c12 : σ.1 cp 0 = 2
        · refine lv_lookup (off := 25) (tgt := 80) C.1 C.2.1 dX4_triesOf_55 (by decide) (by rw [c12]; decide) (by decide) ?_
          refine lv_iconst (v := 2) C.1 C.2.1 dX4_triesOf_80 (by decide) ?_
          refine lv_iload_n C.1 C.2.1 dX4_triesOf_81 rfl (lv_at hl 0 rfl) ?_
          refine lv_imul C.1 C.2.1 dX4_triesOf_82 ?_
          refine lv_bipush (v := 99) C.1 C.2.1 dX4_triesOf_83 (by decide) ?_
          refine mw_cSiN (As := [.int (2 * (tellP z 1 (σ.1 s) (σ.1 cp))), .int 99]) (rest := []) C Z hP hS (cX_bounded l E u8 (2 * (tellP z 1 (σ.1 s) (σ.1 cp))) 99 (by decide)) sb_X11_bounded Z.2.2.1.2.2.2.2.2.2.1 ⟨rfl, rfl⟩ ⟨Nat.le_of_ble_eq_true rfl, Nat.le_of_ble_eq_true rfl⟩ rfl hl.1 rfl (Nat.le_of_ble_eq_true rfl) dX4_triesOf_85 ⟨Nat.zero_le _, Nat.zero_le _⟩ (fun r13 u14 H locs q15 hP hS => ?_)
          obtain ⟨rfl, q15u⟩ := q15
          rw [q15u] at hP; clear q15u
          exact mw_iret C hr hlk Z hP hS dX4_triesOf_88 (⟨by first | (unfold triesP; simp [c1, c2, c3, c12, tell_99 z 1 (σ.1 s) (σ.1 cp)]; done) | (exfalso; simp_all; done), f10⟩)
        by_cases c16 : σ.1 cp 0 = 3
        · refine lv_lookup (off := 34) (tgt := 89) C.1 C.2.1 dX4_triesOf_55 (by decide) (by rw [c16]; decide) (by decide) ?_
          refine lv_iload_n C.1 C.2.1 dX4_triesOf_89 rfl (lv_at hl 0 rfl) ?_
          refine lv_aload_n C.1 C.2.1 dX4_triesOf_90 rfl (lv_at hl 3 rfl) ?_
          refine mw_geti C Z hP (cp) 1 (by omega) (sx_cu (by omega) (by omega)) rfl rfl (by decide) inX1 tw_1_47 dX4_triesOf_91 ?_
          refine mw_top (y := σ.1 cp 1) ((congrFun (congrFun f10.1 _) _)) ?_
          refine lv_iadd C.1 C.2.1 dX4_triesOf_94 ?_
          refine lv_bipush (v := 99) C.1 C.2.1 dX4_triesOf_95 (by decide) ?_
          refine mw_cSiN (As := [.int ((tellP z 1 (σ.1 s) (σ.1 cp)) + (σ.1 cp 1)), .int 99]) (rest := []) C Z hP hS (cX_bounded l E u8 ((tellP z 1 (σ.1 s) (σ.1 cp)) + (σ.1 cp 1)) 99 (by decide)) sb_X11_bounded Z.2.2.1.2.2.2.2.2.2.1 ⟨rfl, rfl⟩ ⟨Nat.le_of_ble_eq_true rfl, Nat.le_of_ble_eq_true rfl⟩ rfl hl.1 rfl (Nat.le_of_ble_eq_true rfl) dX4_triesOf_97 ⟨Nat.zero_le _, Nat.zero_le _⟩ (fun r17 u18 H locs q19 hP hS => ?_)
          obtain ⟨rfl, q19u⟩ := q19
          rw [q19u] at hP; clear q19u
          exact mw_iret C hr hlk Z hP hS dX4_triesOf_100 (⟨by first | (unfold triesP; simp [c1, c2, c3, c12, c16, tell_99 z 1 (σ.1 s) (σ.1 cp)]; done) | (exfalso; simp_all; done), f10⟩)
        refine lv_lookup (off := 46) (tgt := 101) C.1 C.2.1 dX4_triesOf_55 (by decide) ((lv_osw (k := 2) c12 rfl).trans ((lv_osw (k := 3) c16 rfl).trans (rfl))) (by decide) ?_
        refine lv_iload_n C.1 C.2.1 dX4_triesOf_101 rfl (lv_at hl 0 rfl) ?_
        exact mw_iret C hr hlk Z hP hS dX4_triesOf_102 (⟨by first | (unfold triesP; simp [c1, c2, c3, c12, c16, tell_99 z 1 (σ.1 s) (σ.1 cp)]; done) | (exfalso; simp_all; done), f10⟩)
      · refine lv_aload_n C.1 C.2.1 dX4_triesOf_26 rfl (lv_at hl 1 rfl) ?_
        refine mw_geti C Z hP (s) 1 (by omega) (sx_st (by omega)) rfl rfl (by decide) inX6 tw_1_78 dX4_triesOf_27 ?_
        refine lv_iconst (v := 3) C.1 C.2.1 dX4_triesOf_30 (by decide) ?_
        refine lv_icmp_le (tgt := 36) C.1 C.2.1 dX4_triesOf_31 (by decide) (fun c20 => ?_) (fun c20 => ?_)
        · have c20 := Int32.not_lt.mpr c20
          refine lv_aload_n C.1 C.2.1 dX4_triesOf_36 rfl (lv_at hl 0 rfl) ?_
          refine mw_getr C Z hP (63) 0 (37) (by decide) sx_63 rfl rfl (by decide) inX4 tw_1_205 dX4_triesOf_37 ?_
          refine lv_aload_n C.1 C.2.1 dX4_triesOf_40 rfl (lv_at hl 1 rfl) ?_
          refine mw_cVr (As := [.ref (mw_a E (s))]) (rest := []) C Z hP hS (37) (cX_ruleOf l E σ (s) (by omega) tc htc h6 t htl h5) vb_X9_ruleOf tw_3_85 ⟨rfl, rfl⟩ ⟨Nat.le_of_ble_eq_true rfl, Nat.le_of_ble_eq_true rfl⟩ (by decide) sx_37 rfl rfl rfl hl.1 rfl (Nat.le_of_ble_eq_true rfl) dX4_triesOf_41 ⟨Nat.zero_le _, Nat.zero_le _⟩ (fun u22 H locs q23 hP hS => ?_)
          rw [q23] at hP; clear q23
          refine lv_iconst (v := 1) C.1 C.2.1 dX4_triesOf_44 (by decide) ?_
          refine lv_aload_n C.1 C.2.1 dX4_triesOf_45 rfl (lv_at hl 1 rfl) ?_
          refine lv_aload_n C.1 C.2.1 dX4_triesOf_46 rfl (lv_at hl 2 rfl) ?_
          refine mw_cVi (As := [.int 1, .ref (mw_a E (s)), .ref (mw_a E (cp))]) (rest := []) C Z hP hS (39 + t) (cX_tell1 l E σ t z hx s hs cp hcp) vb_X8_tell tw_3_93 ⟨rfl, rfl⟩ ⟨Nat.le_of_ble_eq_true rfl, Nat.le_of_ble_eq_true rfl⟩ (by omega) (sx_tx (by omega)) rfl rfl rfl hl.1 rfl (Nat.le_of_ble_eq_true rfl) dX4_triesOf_47 ⟨Nat.zero_le _, Nat.zero_le _⟩ (fun r24 u25 H locs q26 hP hS => ?_)
          obtain ⟨e28, f27⟩ := q26
          subst e28
          refine lv_istore_n (lv' := [(3, .int (tellP z 1 (σ.1 s) (σ.1 cp))), (0, .ref (mw_a E 63)), (1, .ref (mw_a E (s))), (2, .ref (mw_a E (cp)))]) C.1 C.2.1 dX4_triesOf_50 rfl hl (by decide) rfl (fun ls hl => ?_)
          refine lv_aload_n C.1 C.2.1 dX4_triesOf_51 rfl (lv_at hl 3 rfl) ?_
          refine mw_geti C Z hP (cp) 0 (by omega) (sx_cu (by omega) (by omega)) rfl rfl (by decide) inX1 tw_1_43 dX4_triesOf_52 ?_
          refine mw_top (y := σ.1 cp 0) ((congrFun (congrFun f27.1 _) _)) ?_
          by_cases c29 : σ.1 cp 0 = 2
          · refine lv_lookup (off := 25) (tgt := 80) C.1 C.2.1 dX4_triesOf_55 (by decide) (by rw [c29]; decide) (by decide) ?_
            refine lv_iconst (v := 2) C.1 C.2.1 dX4_triesOf_80 (by decide) ?_
            refine lv_iload_n C.1 C.2.1 dX4_triesOf_81 rfl (lv_at hl 0 rfl) ?_
            refine lv_imul C.1 C.2.1 dX4_triesOf_82 ?_
            refine lv_bipush (v := 99) C.1 C.2.1 dX4_triesOf_83 (by decide) ?_
            refine mw_cSiN (As := [.int (2 * (tellP z 1 (σ.1 s) (σ.1 cp))), .int 99]) (rest := []) C Z hP hS (cX_bounded l E u25 (2 * (tellP z 1 (σ.1 s) (σ.1 cp))) 99 (by decide)) sb_X11_bounded Z.2.2.1.2.2.2.2.2.2.1 ⟨rfl, rfl⟩ ⟨Nat.le_of_ble_eq_true rfl, Nat.le_of_ble_eq_true rfl⟩ rfl hl.1 rfl (Nat.le_of_ble_eq_true rfl) dX4_triesOf_85 ⟨Nat.zero_le _, Nat.zero_le _⟩ (fun r30 u31 H locs q32 hP hS => ?_)
            obtain ⟨rfl, q32u⟩ := q32
            rw [q32u] at hP; clear q32u
            exact mw_iret C hr hlk Z hP hS dX4_triesOf_88 (⟨by first | (unfold triesP; simp [c1, c2, c3, c20, c29, tell_99 z 1 (σ.1 s) (σ.1 cp)]; done) | (exfalso; simp_all; done), f27⟩)
          by_cases c33 : σ.1 cp 0 = 3
          · refine lv_lookup (off := 34) (tgt := 89) C.1 C.2.1 dX4_triesOf_55 (by decide) (by rw [c33]; decide) (by decide) ?_
            refine lv_iload_n C.1 C.2.1 dX4_triesOf_89 rfl (lv_at hl 0 rfl) ?_
            refine lv_aload_n C.1 C.2.1 dX4_triesOf_90 rfl (lv_at hl 3 rfl) ?_
            refine mw_geti C Z hP (cp) 1 (by omega) (sx_cu (by omega) (by omega)) rfl rfl (by decide) inX1 tw_1_47 dX4_triesOf_91 ?_
            refine mw_top (y := σ.1 cp 1) ((congrFun (congrFun f27.1 _) _)) ?_
            refine lv_iadd C.1 C.2.1 dX4_triesOf_94 ?_
            refine lv_bipush (v := 99) C.1 C.2.1 dX4_triesOf_95 (by decide) ?_
            refine mw_cSiN (As := [.int ((tellP z 1 (σ.1 s) (σ.1 cp)) + (σ.1 cp 1)), .int 99]) (rest := []) C Z hP hS (cX_bounded l E u25 ((tellP z 1 (σ.1 s) (σ.1 cp)) + (σ.1 cp 1)) 99 (by decide)) sb_X11_bounded Z.2.2.1.2.2.2.2.2.2.1 ⟨rfl, rfl⟩ ⟨Nat.le_of_ble_eq_true rfl, Nat.le_of_ble_eq_true rfl⟩ rfl hl.1 rfl (Nat.le_of_ble_eq_true rfl) dX4_triesOf_97 ⟨Nat.zero_le _, Nat.zero_le _⟩ (fun r34 u35 H locs q36 hP hS => ?_)
            obtain ⟨rfl, q36u⟩ := q36
            rw [q36u] at hP; clear q36u
            exact mw_iret C hr hlk Z hP hS dX4_triesOf_100 (⟨by first | (unfold triesP; simp [c1, c2, c3, c20, c29, c33, tell_99 z 1 (σ.1 s) (σ.1 cp)]; done) | (exfalso; simp_all; done), f27⟩)
          refine lv_lookup (off := 46) (tgt := 101) C.1 C.2.1 dX4_triesOf_55 (by decide) ((lv_osw (k := 2) c29 rfl).trans ((lv_osw (k := 3) c33 rfl).trans (rfl))) (by decide) ?_
          refine lv_iload_n C.1 C.2.1 dX4_triesOf_101 rfl (lv_at hl 0 rfl) ?_
          exact mw_iret C hr hlk Z hP hS dX4_triesOf_102 (⟨by first | (unfold triesP; simp [c1, c2, c3, c20, c29, c33, tell_99 z 1 (σ.1 s) (σ.1 cp)]; done) | (exfalso; simp_all; done), f27⟩)
        · have c20 := Int32.not_le.mp c20
          refine lv_iconst (v := 1) C.1 C.2.1 dX4_triesOf_34 (by decide) ?_
          exact mw_iret C hr hlk Z hP hS dX4_triesOf_35 (⟨by first | (unfold triesP; simp [c1, c2, c3, c20, tell_99 z 1 (σ.1 s) (σ.1 cp)]; done) | (exfalso; simp_all; done), (xFs.rf σ)⟩)
    · refine lv_iconst (v := 0) C.1 C.2.1 dX4_triesOf_16 (by decide) ?_
      exact mw_iret C hr hlk Z hP hS dX4_triesOf_17 (⟨by first | (unfold triesP; simp [c1, c2, tell_99 z 1 (σ.1 s) (σ.1 cp)]; done) | (exfalso; simp_all; done), (xFs.rf σ)⟩)

set_option maxHeartbeats 4000000 in
set_option maxRecDepth 100000 in
theorem cX_spendsOf (l : Launch) (E : mw_E) (σ : mw_M) (s : Nat) (hs : s < 3) (cp : Nat) (hcp : 6 ≤ cp ∧ cp < 30) (z : zP) (hru : xRu σ s z) : mw_Ci shX 75 gX l yX4_spendsOf cX4_spendsOf 4 (some .int) (rmF 4 132) E [.ref (mw_a E 63), .ref (mw_a E (s)), .ref (mw_a E (cp))] σ (fun r u => r = spendsP z (σ.1 s) (σ.1 cp) ∧ xFs σ u) := by
  refine mw_of (by decide) gX_ok (Nat.le_of_ble_eq_true rfl) ?_
  intro p_ e_ s_ m_ below meth c_ C hr hlk Z hP ls hl
  have C : CallFix p_ m_ c_ cX4_spendsOf 4 s_ _ lw_good RX4 := C
  have hl : lv_has ls 4 [(0, .ref (mw_a E 63)), (1, .ref (mw_a E (s))), (2, .ref (mw_a E (cp)))] := hl
  have hS : va_S (mw_A 75 E) s_.heap s_.heap [] := va_S.rf
  obtain ⟨t, tc, h5, htc, htl, h6, hx⟩ := hru
  refine lv_aload_n C.1 C.2.1 dX4_spendsOf_0 rfl (lv_at hl 2 rfl) ?_
  refine mw_geti C Z hP (cp) 0 (by omega) (sx_cu (by omega) (by omega)) rfl rfl (by decide) inX1 tw_1_43 dX4_spendsOf_1 ?_
  refine lv_iconst (v := 1) C.1 C.2.1 dX4_spendsOf_4 (by decide) ?_
  refine lv_icmp_ne (tgt := 10) C.1 C.2.1 dX4_spendsOf_5 (by decide) (fun c1 => ?_) (fun c1 => ?_)
  · refine lv_aload_n C.1 C.2.1 dX4_spendsOf_10 rfl (lv_at hl 2 rfl) ?_
    refine mw_geti C Z hP (cp) 0 (by omega) (sx_cu (by omega) (by omega)) rfl rfl (by decide) inX1 tw_1_43 dX4_spendsOf_11 ?_
    refine lv_iconst (v := 3) C.1 C.2.1 dX4_spendsOf_14 (by decide) ?_
    refine lv_icmp_ne (tgt := 20) C.1 C.2.1 dX4_spendsOf_15 (by decide) (fun c2 => ?_) (fun c2 => ?_)
    · refine lv_aload_n C.1 C.2.1 dX4_spendsOf_20 rfl (lv_at hl 0 rfl) ?_
      refine mw_getr C Z hP (63) 0 (37) (by decide) sx_63 rfl rfl (by decide) inX4 tw_1_205 dX4_spendsOf_21 ?_
      refine lv_aload_n C.1 C.2.1 dX4_spendsOf_24 rfl (lv_at hl 1 rfl) ?_
      refine mw_cVr (As := [.ref (mw_a E (s))]) (rest := []) C Z hP hS (37) (cX_ruleOf l E σ (s) (by omega) tc htc h6 t htl h5) vb_X9_ruleOf tw_3_85 ⟨rfl, rfl⟩ ⟨Nat.le_of_ble_eq_true rfl, Nat.le_of_ble_eq_true rfl⟩ (by decide) sx_37 rfl rfl rfl hl.1 rfl (Nat.le_of_ble_eq_true rfl) dX4_spendsOf_25 ⟨Nat.zero_le _, Nat.zero_le _⟩ (fun u4 H locs q5 hP hS => ?_)
      rw [q5] at hP; clear q5
      refine lv_iconst (v := 2) C.1 C.2.1 dX4_spendsOf_28 (by decide) ?_
      refine lv_aload_n C.1 C.2.1 dX4_spendsOf_29 rfl (lv_at hl 1 rfl) ?_
      refine lv_aload_n C.1 C.2.1 dX4_spendsOf_30 rfl (lv_at hl 2 rfl) ?_
      refine mw_cVi (As := [.int 2, .ref (mw_a E (s)), .ref (mw_a E (cp))]) (rest := []) C Z hP hS (39 + t) (cX_tell2 l E σ t z hx s hs cp hcp) vb_X8_tell tw_3_93 ⟨rfl, rfl⟩ ⟨Nat.le_of_ble_eq_true rfl, Nat.le_of_ble_eq_true rfl⟩ (by omega) (sx_tx (by omega)) rfl rfl rfl hl.1 rfl (Nat.le_of_ble_eq_true rfl) dX4_spendsOf_31 ⟨Nat.zero_le _, Nat.zero_le _⟩ (fun r6 u7 H locs q8 hP hS => ?_)
      obtain ⟨e10, f9⟩ := q8
      subst e10
      refine lv_istore_n (lv' := [(3, .int (tellP z 2 (σ.1 s) (σ.1 cp))), (0, .ref (mw_a E 63)), (1, .ref (mw_a E (s))), (2, .ref (mw_a E (cp)))]) C.1 C.2.1 dX4_spendsOf_34 rfl hl (by decide) rfl (fun ls hl => ?_)
      refine lv_aload_n C.1 C.2.1 dX4_spendsOf_35 rfl (lv_at hl 3 rfl) ?_
      refine mw_geti C Z hP (cp) 0 (by omega) (sx_cu (by omega) (by omega)) rfl rfl (by decide) inX1 tw_1_43 dX4_spendsOf_36 ?_
      refine mw_top (y := σ.1 cp 0) ((congrFun (congrFun f9.1 _) _)) ?_
      by_cases c11 : σ.1 cp 0 = 2
      · refine lv_tableIn (off := 29) (tgt := 68) C.1 C.2.1 dX4_spendsOf_39 (by rw [c11]; decide) (by rw [c11]; decide) (by rw [c11]; decide) (by decide) ?_
        refine lv_iload_n C.1 C.2.1 dX4_spendsOf_68 rfl (lv_at hl 0 rfl) ?_
        refine lv_iconst (v := 2) C.1 C.2.1 dX4_spendsOf_69 (by decide) ?_
        refine lv_idiv C.1 C.2.1 dX4_spendsOf_70 (by decide) ?_
        refine lv_sipush (v := 999) C.1 C.2.1 dX4_spendsOf_71 (by decide) ?_
        refine mw_cSiN (As := [.int ((tellP z 2 (σ.1 s) (σ.1 cp)) / 2), .int 999]) (rest := []) C Z hP hS (cX_bounded l E u7 ((tellP z 2 (σ.1 s) (σ.1 cp)) / 2) 999 (by decide)) sb_X11_bounded Z.2.2.1.2.2.2.2.2.2.1 ⟨rfl, rfl⟩ ⟨Nat.le_of_ble_eq_true rfl, Nat.le_of_ble_eq_true rfl⟩ rfl hl.1 rfl (Nat.le_of_ble_eq_true rfl) dX4_spendsOf_74 ⟨Nat.zero_le _, Nat.zero_le _⟩ (fun r12 u13 H locs q14 hP hS => ?_)
        obtain ⟨rfl, q14u⟩ := q14
        rw [q14u] at hP; clear q14u
        exact mw_iret C hr hlk Z hP hS dX4_spendsOf_77 (⟨by first | (unfold spendsP; simp [c1, c2, c11, tell_999 z 2 (σ.1 s) (σ.1 cp)]; done) | (exfalso; simp_all; done), f9⟩)
      by_cases c15 : σ.1 cp 0 = 3
      · refine lv_tableIn (off := 55) (tgt := 94) C.1 C.2.1 dX4_spendsOf_39 (by rw [c15]; decide) (by rw [c15]; decide) (by rw [c15]; decide) (by decide) ?_
        refine lv_iload_n C.1 C.2.1 dX4_spendsOf_94 rfl (lv_at hl 0 rfl) ?_
        exact mw_iret C hr hlk Z hP hS dX4_spendsOf_95 (⟨by first | (unfold spendsP; simp [c1, c2, c11, c15, tell_999 z 2 (σ.1 s) (σ.1 cp)]; done) | (exfalso; simp_all; done), f9⟩)
      by_cases c16 : σ.1 cp 0 = 4
      · refine lv_tableIn (off := 29) (tgt := 68) C.1 C.2.1 dX4_spendsOf_39 (by rw [c16]; decide) (by rw [c16]; decide) (by rw [c16]; decide) (by decide) ?_
        refine lv_iload_n C.1 C.2.1 dX4_spendsOf_68 rfl (lv_at hl 0 rfl) ?_
        refine lv_iconst (v := 2) C.1 C.2.1 dX4_spendsOf_69 (by decide) ?_
        refine lv_idiv C.1 C.2.1 dX4_spendsOf_70 (by decide) ?_
        refine lv_sipush (v := 999) C.1 C.2.1 dX4_spendsOf_71 (by decide) ?_
        refine mw_cSiN (As := [.int ((tellP z 2 (σ.1 s) (σ.1 cp)) / 2), .int 999]) (rest := []) C Z hP hS (cX_bounded l E u7 ((tellP z 2 (σ.1 s) (σ.1 cp)) / 2) 999 (by decide)) sb_X11_bounded Z.2.2.1.2.2.2.2.2.2.1 ⟨rfl, rfl⟩ ⟨Nat.le_of_ble_eq_true rfl, Nat.le_of_ble_eq_true rfl⟩ rfl hl.1 rfl (Nat.le_of_ble_eq_true rfl) dX4_spendsOf_74 ⟨Nat.zero_le _, Nat.zero_le _⟩ (fun r17 u18 H locs q19 hP hS => ?_)
        obtain ⟨rfl, q19u⟩ := q19
        rw [q19u] at hP; clear q19u
        exact mw_iret C hr hlk Z hP hS dX4_spendsOf_77 (⟨by first | (unfold spendsP; simp [c1, c2, c11, c15, c16, tell_999 z 2 (σ.1 s) (σ.1 cp)]; done) | (exfalso; simp_all; done), f9⟩)
      by_cases c20 : σ.1 cp 0 = 5
      · refine lv_tableIn (off := 39) (tgt := 78) C.1 C.2.1 dX4_spendsOf_39 (by rw [c20]; decide) (by rw [c20]; decide) (by rw [c20]; decide) (by decide) ?_
        refine lv_iload_n C.1 C.2.1 dX4_spendsOf_78 rfl (lv_at hl 0 rfl) ?_
        refine lv_bipush (v := 10) C.1 C.2.1 dX4_spendsOf_79 (by decide) ?_
        refine lv_aload_n C.1 C.2.1 dX4_spendsOf_81 rfl (lv_at hl 3 rfl) ?_
        refine mw_geti C Z hP (cp) 1 (by omega) (sx_cu (by omega) (by omega)) rfl rfl (by decide) inX1 tw_1_47 dX4_spendsOf_82 ?_
        refine mw_top (y := σ.1 cp 1) ((congrFun (congrFun f9.1 _) _)) ?_
        refine lv_imul C.1 C.2.1 dX4_spendsOf_85 ?_
        refine lv_iadd C.1 C.2.1 dX4_spendsOf_86 ?_
        refine lv_sipush (v := 999) C.1 C.2.1 dX4_spendsOf_87 (by decide) ?_
        refine mw_cSiN (As := [.int ((tellP z 2 (σ.1 s) (σ.1 cp)) + (10 * (σ.1 cp 1))), .int 999]) (rest := []) C Z hP hS (cX_bounded l E u7 ((tellP z 2 (σ.1 s) (σ.1 cp)) + (10 * (σ.1 cp 1))) 999 (by decide)) sb_X11_bounded Z.2.2.1.2.2.2.2.2.2.1 ⟨rfl, rfl⟩ ⟨Nat.le_of_ble_eq_true rfl, Nat.le_of_ble_eq_true rfl⟩ rfl hl.1 rfl (Nat.le_of_ble_eq_true rfl) dX4_spendsOf_90 ⟨Nat.zero_le _, Nat.zero_le _⟩ (fun r21 u22 H locs q23 hP hS => ?_)
        obtain ⟨rfl, q23u⟩ := q23
        rw [q23u] at hP; clear q23u
        exact mw_iret C hr hlk Z hP hS dX4_spendsOf_93 (⟨by first | (unfold spendsP; simp [c1, c2, c11, c15, c16, c20, tell_999 z 2 (σ.1 s) (σ.1 cp)]; done) | (exfalso; simp_all; done), f9⟩)
      refine lv_tableOut (tgt := 94) C.1 C.2.1 dX4_spendsOf_39 (by have z0 := (not_congr (ni_eq _ _)).mp c11; have y0 : (2 : Int32).toInt = 2 := rfl; have z1 := (not_congr (ni_eq _ _)).mp c15; have y1 : (3 : Int32).toInt = 3 := rfl; have z2 := (not_congr (ni_eq _ _)).mp c16; have y2 : (4 : Int32).toInt = 4 := rfl; have z3 := (not_congr (ni_eq _ _)).mp c20; have y3 : (5 : Int32).toInt = 5 := rfl; omega) (by decide) ?_
      refine lv_iload_n C.1 C.2.1 dX4_spendsOf_94 rfl (lv_at hl 0 rfl) ?_
      exact mw_iret C hr hlk Z hP hS dX4_spendsOf_95 (⟨by first | (unfold spendsP; simp [c1, c2, c11, c15, c16, c20, tell_999 z 2 (σ.1 s) (σ.1 cp)]; done) | (exfalso; simp_all; done), f9⟩)
    · refine lv_iconst (v := 3) C.1 C.2.1 dX4_spendsOf_18 (by decide) ?_
      exact mw_iret C hr hlk Z hP hS dX4_spendsOf_19 (⟨by first | (unfold spendsP; simp [c1, c2, tell_999 z 2 (σ.1 s) (σ.1 cp)]; done) | (exfalso; simp_all; done), (xFs.rf σ)⟩)
  · refine lv_iconst (v := 0) C.1 C.2.1 dX4_spendsOf_8 (by decide) ?_
    exact mw_iret C hr hlk Z hP hS dX4_spendsOf_9 (⟨by first | (unfold spendsP; simp [c1, tell_999 z 2 (σ.1 s) (σ.1 cp)]; done) | (exfalso; simp_all; done), (xFs.rf σ)⟩)

def eatnP (z : zP) (st cu : Nat → Int32) : Int32 := if thereP st cu then eatsP z st cu else 0
def trthP (z : zP) (st cu : Nat → Int32) : Int32 := if thereP st cu then triesP z st cu else 0
def priceF (st : Nat → Int32) (v : Int32) : Int32 := v * st 0 * st 4 / 10
theorem cost_eq (z : zP) (st cu : Nat → Int32) : costP z st cu = priceF st (eatnP z st cu) := by
  unfold costP priceF eatnP
  split
  · rfl
  · rw [Int32.zero_mul, Int32.zero_mul]
    rfl
theorem zero_shl (x : Int32) : (0 : Int32) <<< x = 0 := by
  apply Int32.toBitVec_inj.mp
  rw [Int32.toBitVec_shiftLeft]
  simp
theorem eatn_h (z : zP) (st cu : Nat → Int32) (h : Int32) : (if thereP st cu ∧ cu 2 = h then eatsP z st cu else 0) = if cu 2 = h then eatnP z st cu else 0 := by
  unfold eatnP
  by_cases h1 : thereP st cu
  · by_cases h2 : cu 2 = h
    · rw [if_pos ⟨h1, h2⟩, if_pos h2, if_pos h1]
    · rw [if_neg (fun q => h2 q.2), if_neg h2]
  · rw [if_neg (fun q => h1 q.1), if_neg h1, ite_self]
theorem bd3_eq (z : zP) (st : Nat → Int32) (cu : Nat → Nat → Int32) (p : Nat) : bd3 z st cu p = if 0 < eatnP z st (cu p) ∧ triesP z st (cu p) = 0 then 1 <<< (nI p &&& 31) else 0 := by
  unfold bd3 eatnP
  by_cases h1 : thereP st (cu p)
  · rw [if_pos h1, if_pos h1]
    by_cases h2 : 0 < eatsP z st (cu p) ∧ triesP z st (cu p) = 0
    · rw [if_pos h2, bI_t h2]
    · rw [if_neg h2, bI_f h2, zero_shl]
  · rw [if_neg h1, if_neg h1, if_neg (fun q => absurd q.1 (by decide))]
theorem gain_eq (z : zP) (st cu : Nat → Int32) : gainP z st cu = if thereP st cu then (if triesP z st cu ≤ 0 then 0 else spendsP z st cu * 1000 / triesP z st cu) - 1000 * priceF st (eatsP z st cu) else 0 := by
  unfold gainP
  by_cases h : thereP st cu
  · rw [if_pos h, if_pos h]
    congr 1
    · obtain ⟨k, h1, h2⟩ := tries_rng z st cu
      rw [h2]
      by_cases hk : k = 0
      · subst hk; rfl
      · rw [if_neg (nI_ne0 (by omega) (by omega)), if_neg (nI_nle (by omega) (by omega))]
    · unfold costP priceF
      rw [if_pos h]
  · rw [if_neg h, if_neg h]

set_option maxHeartbeats 4000000 in
set_option maxRecDepth 100000 in
theorem cX_eatenBy (l : Launch) (E : mw_E) (σ : mw_M) (s : Nat) (hs : s < 3) (cp : Nat) (hcp : 6 ≤ cp ∧ cp < 30) (z : zP) (hru : xRu σ s z) : mw_Ci shX 75 gX l yX4_eatenBy cX4_eatenBy 3 (some .int) (rmF 5 155) E [.ref (mw_a E 63), .ref (mw_a E (s)), .ref (mw_a E (cp))] σ (fun r u => r = eatnP z (σ.1 s) (σ.1 cp) ∧ xFs σ u) := by
  refine mw_of (by decide) gX_ok (Nat.le_of_ble_eq_true rfl) ?_
  intro p_ e_ s_ m_ below meth c_ C hr hlk Z hP ls hl
  have C : CallFix p_ m_ c_ cX4_eatenBy 3 s_ _ lw_good RX4 := C
  have hl : lv_has ls 3 [(0, .ref (mw_a E 63)), (1, .ref (mw_a E (s))), (2, .ref (mw_a E (cp)))] := hl
  have hS : va_S (mw_A 75 E) s_.heap s_.heap [] := va_S.rf
  refine lv_aload_n C.1 C.2.1 dX4_eatenBy_0 rfl (lv_at hl 1 rfl) ?_
  refine lv_aload_n C.1 C.2.1 dX4_eatenBy_1 rfl (lv_at hl 2 rfl) ?_
  refine mw_cVi (As := [.ref (mw_a E (cp))]) (rest := []) C Z hP hS (s) (cX_isThere l E σ (s) (by omega) (cp) (by omega)) vb_X6_isThere tw_3_133 ⟨rfl, rfl⟩ ⟨Nat.le_of_ble_eq_true rfl, Nat.le_of_ble_eq_true rfl⟩ (by omega) (sx_st (by omega)) rfl rfl rfl hl.1 rfl (Nat.le_of_ble_eq_true rfl) dX4_eatenBy_2 ⟨Nat.zero_le _, Nat.zero_le _⟩ (fun r1 u2 H locs q3 hP hS => ?_)
  obtain ⟨rfl, q3u⟩ := q3
  rw [q3u] at hP; clear q3u
  refine lv_if_eq (tgt := 17) C.1 C.2.1 dX4_eatenBy_5 (by decide) (fun c4 => ?_) (fun c4 => ?_)
  · have c4 := bI_0.mp c4
    refine lv_iconst (v := 0) C.1 C.2.1 dX4_eatenBy_17 (by decide) ?_
    exact mw_iret C hr hlk Z hP hS dX4_eatenBy_18 (⟨by unfold eatnP; rw [if_neg c4], (xFs.rf σ)⟩)
  · have c4 := bI_n.mp c4
    refine lv_aload_n C.1 C.2.1 dX4_eatenBy_8 rfl (lv_at hl 0 rfl) ?_
    refine lv_aload_n C.1 C.2.1 dX4_eatenBy_9 rfl (lv_at hl 1 rfl) ?_
    refine lv_aload_n C.1 C.2.1 dX4_eatenBy_10 rfl (lv_at hl 2 rfl) ?_
    refine mw_cVi (As := [.ref (mw_a E (s)), .ref (mw_a E (cp))]) (rest := []) C Z hP hS (63) (cX_eatsOf l E σ (s) (by omega) (cp) (by omega) z ((xFs.rf σ).ru hru)) vb_X4_eatsOf tw_3_134 ⟨rfl, rfl⟩ ⟨Nat.le_of_ble_eq_true rfl, Nat.le_of_ble_eq_true rfl⟩ (by decide) sx_63 rfl rfl rfl hl.1 rfl (Nat.le_of_ble_eq_true rfl) dX4_eatenBy_11 ⟨Nat.zero_le _, Nat.zero_le _⟩ (fun r5 u6 H locs q7 hP hS => ?_)
    obtain ⟨e9, f8⟩ := q7
    subst e9
    refine lv_goto (tgt := 18) C.1 C.2.1 dX4_eatenBy_14 (by decide) ?_
    exact mw_iret C hr hlk Z hP hS dX4_eatenBy_18 (⟨by unfold eatnP; rw [if_pos c4], f8⟩)

set_option maxHeartbeats 4000000 in
set_option maxRecDepth 100000 in
theorem cX_triesIfThere (l : Launch) (E : mw_E) (σ : mw_M) (s : Nat) (hs : s < 3) (cp : Nat) (hcp : 6 ≤ cp ∧ cp < 30) (z : zP) (hru : xRu σ s z) : mw_Ci shX 75 gX l yX4_triesIfThere cX4_triesIfThere 3 (some .int) (rmF 5 155) E [.ref (mw_a E 63), .ref (mw_a E (s)), .ref (mw_a E (cp))] σ (fun r u => r = trthP z (σ.1 s) (σ.1 cp) ∧ xFs σ u) := by
  refine mw_of (by decide) gX_ok (Nat.le_of_ble_eq_true rfl) ?_
  intro p_ e_ s_ m_ below meth c_ C hr hlk Z hP ls hl
  have C : CallFix p_ m_ c_ cX4_triesIfThere 3 s_ _ lw_good RX4 := C
  have hl : lv_has ls 3 [(0, .ref (mw_a E 63)), (1, .ref (mw_a E (s))), (2, .ref (mw_a E (cp)))] := hl
  have hS : va_S (mw_A 75 E) s_.heap s_.heap [] := va_S.rf
  refine lv_aload_n C.1 C.2.1 dX4_triesIfThere_0 rfl (lv_at hl 1 rfl) ?_
  refine lv_aload_n C.1 C.2.1 dX4_triesIfThere_1 rfl (lv_at hl 2 rfl) ?_
  refine mw_cVi (As := [.ref (mw_a E (cp))]) (rest := []) C Z hP hS (s) (cX_isThere l E σ (s) (by omega) (cp) (by omega)) vb_X6_isThere tw_3_133 ⟨rfl, rfl⟩ ⟨Nat.le_of_ble_eq_true rfl, Nat.le_of_ble_eq_true rfl⟩ (by omega) (sx_st (by omega)) rfl rfl rfl hl.1 rfl (Nat.le_of_ble_eq_true rfl) dX4_triesIfThere_2 ⟨Nat.zero_le _, Nat.zero_le _⟩ (fun r1 u2 H locs q3 hP hS => ?_)
  obtain ⟨rfl, q3u⟩ := q3
  rw [q3u] at hP; clear q3u
  refine lv_if_eq (tgt := 17) C.1 C.2.1 dX4_triesIfThere_5 (by decide) (fun c4 => ?_) (fun c4 => ?_)
  · have c4 := bI_0.mp c4
    refine lv_iconst (v := 0) C.1 C.2.1 dX4_triesIfThere_17 (by decide) ?_
    exact mw_iret C hr hlk Z hP hS dX4_triesIfThere_18 (⟨by unfold trthP; rw [if_neg c4], (xFs.rf σ)⟩)
  · have c4 := bI_n.mp c4
    refine lv_aload_n C.1 C.2.1 dX4_triesIfThere_8 rfl (lv_at hl 0 rfl) ?_
    refine lv_aload_n C.1 C.2.1 dX4_triesIfThere_9 rfl (lv_at hl 1 rfl) ?_
    refine lv_aload_n C.1 C.2.1 dX4_triesIfThere_10 rfl (lv_at hl 2 rfl) ?_
    refine mw_cVi (As := [.ref (mw_a E (s)), .ref (mw_a E (cp))]) (rest := []) C Z hP hS (63) (cX_triesOf l E σ (s) (by omega) (cp) (by omega) z ((xFs.rf σ).ru hru)) vb_X4_triesOf tw_3_142 ⟨rfl, rfl⟩ ⟨Nat.le_of_ble_eq_true rfl, Nat.le_of_ble_eq_true rfl⟩ (by decide) sx_63 rfl rfl rfl hl.1 rfl (Nat.le_of_ble_eq_true rfl) dX4_triesIfThere_11 ⟨Nat.zero_le _, Nat.zero_le _⟩ (fun r5 u6 H locs q7 hP hS => ?_)
    obtain ⟨e9, f8⟩ := q7
    subst e9
    refine lv_goto (tgt := 18) C.1 C.2.1 dX4_triesIfThere_14 (by decide) ?_
    exact mw_iret C hr hlk Z hP hS dX4_triesIfThere_18 (⟨by unfold trthP; rw [if_pos c4], f8⟩)

set_option maxHeartbeats 4000000 in
set_option maxRecDepth 100000 in
theorem cX_priceOf (l : Launch) (E : mw_E) (σ : mw_M) (s : Nat) (hs : s < 3) (v : Int32) : mw_Ci shX 75 gX l yX4_priceOf cX4_priceOf 2 (some .int) (rmF 1 64) E [.ref (mw_a E (s)), .int v] σ (fun r u => r = priceF (σ.1 s) v ∧ u = σ) := by
  refine mw_of (by decide) gX_ok (Nat.le_of_ble_eq_true rfl) ?_
  intro p_ e_ s_ m_ below meth c_ C hr hlk Z hP ls hl
  have C : CallFix p_ m_ c_ cX4_priceOf 2 s_ _ lw_good RX4 := C
  have hl : lv_has ls 2 [(0, .ref (mw_a E (s))), (1, .int v)] := hl
  have hS : va_S (mw_A 75 E) s_.heap s_.heap [] := va_S.rf
  refine lv_iload_n C.1 C.2.1 dX4_priceOf_0 rfl (lv_at hl 1 rfl) ?_
  refine lv_aload_n C.1 C.2.1 dX4_priceOf_1 rfl (lv_at hl 0 rfl) ?_
  refine mw_geti C Z hP (s) 0 (by omega) (sx_st (by omega)) rfl rfl (by decide) inX6 tw_1_75 dX4_priceOf_2 ?_
  refine lv_imul C.1 C.2.1 dX4_priceOf_5 ?_
  refine lv_aload_n C.1 C.2.1 dX4_priceOf_6 rfl (lv_at hl 0 rfl) ?_
  refine mw_geti C Z hP (s) 4 (by omega) (sx_st (by omega)) rfl rfl (by decide) inX6 tw_1_88 dX4_priceOf_7 ?_
  refine lv_imul C.1 C.2.1 dX4_priceOf_10 ?_
  refine lv_bipush (v := 10) C.1 C.2.1 dX4_priceOf_11 (by decide) ?_
  refine lv_idiv C.1 C.2.1 dX4_priceOf_13 (by decide) ?_
  exact mw_iret C hr hlk Z hP hS dX4_priceOf_14 (⟨rfl, rfl⟩)

set_option maxHeartbeats 4000000 in
set_option maxRecDepth 100000 in
theorem cX_costOf (l : Launch) (E : mw_E) (σ : mw_M) (s : Nat) (hs : s < 3) (cp : Nat) (hcp : 6 ≤ cp ∧ cp < 30) (z : zP) (hru : xRu σ s z) : mw_Ci shX 75 gX l yX4_costOf cX4_costOf 3 (some .int) (rmF 6 177) E [.ref (mw_a E 63), .ref (mw_a E (s)), .ref (mw_a E (cp))] σ (fun r u => r = costP z (σ.1 s) (σ.1 cp) ∧ xFs σ u) := by
  refine mw_of (by decide) gX_ok (Nat.le_of_ble_eq_true rfl) ?_
  intro p_ e_ s_ m_ below meth c_ C hr hlk Z hP ls hl
  have C : CallFix p_ m_ c_ cX4_costOf 3 s_ _ lw_good RX4 := C
  have hl : lv_has ls 3 [(0, .ref (mw_a E 63)), (1, .ref (mw_a E (s))), (2, .ref (mw_a E (cp)))] := hl
  have hS : va_S (mw_A 75 E) s_.heap s_.heap [] := va_S.rf
  refine lv_aload_n C.1 C.2.1 dX4_costOf_0 rfl (lv_at hl 1 rfl) ?_
  refine lv_aload_n C.1 C.2.1 dX4_costOf_1 rfl (lv_at hl 0 rfl) ?_
  refine lv_aload_n C.1 C.2.1 dX4_costOf_2 rfl (lv_at hl 1 rfl) ?_
  refine lv_aload_n C.1 C.2.1 dX4_costOf_3 rfl (lv_at hl 2 rfl) ?_
  refine mw_cVi (As := [.ref (mw_a E (s)), .ref (mw_a E (cp))]) (rest := [.ref (mw_a E (s))]) C Z hP hS (63) (cX_eatenBy l E σ (s) (by omega) (cp) (by omega) z ((xFs.rf σ).ru hru)) vb_X4_eatenBy tw_3_129 ⟨rfl, rfl⟩ ⟨Nat.le_of_ble_eq_true rfl, Nat.le_of_ble_eq_true rfl⟩ (by decide) sx_63 rfl rfl rfl hl.1 rfl (Nat.le_of_ble_eq_true rfl) dX4_costOf_4 ⟨Nat.zero_le _, Nat.zero_le _⟩ (fun r1 u2 H locs q3 hP hS => ?_)
  obtain ⟨e5, f4⟩ := q3
  subst e5
  refine mw_cSi (As := [.ref (mw_a E (s)), .int (eatnP z (σ.1 s) (σ.1 cp))]) (rest := []) C Z hP hS (cX_priceOf l E u2 (s) (by omega) (eatnP z (σ.1 s) (σ.1 cp))) sb_X4_priceOf tw_3_135 ⟨rfl, rfl⟩ ⟨Nat.le_of_ble_eq_true rfl, Nat.le_of_ble_eq_true rfl⟩ rfl hl.1 rfl (Nat.le_of_ble_eq_true rfl) dX4_costOf_7 ⟨Nat.zero_le _, Nat.zero_le _⟩ (fun r6 u7 H locs q8 hP hS => ?_)
  rw [f4.1] at q8
  obtain ⟨rfl, q8u⟩ := q8
  rw [q8u] at hP; clear q8u
  exact mw_iret C hr hlk Z hP hS dX4_costOf_10 (⟨(cost_eq _ _ _).symm, f4⟩)

set_option maxHeartbeats 4000000 in
set_option maxRecDepth 100000 in
theorem cX_gainOf (l : Launch) (E : mw_E) (σ : mw_M) (s : Nat) (hs : s < 3) (cp : Nat) (hcp : 6 ≤ cp ∧ cp < 30) (z : zP) (hru : xRu σ s z) : mw_Ci shX 75 gX l yX4_gainOf cX4_gainOf 5 (some .int) (rmF 5 155) E [.ref (mw_a E 63), .ref (mw_a E (s)), .ref (mw_a E (cp))] σ (fun r u => r = gainP z (σ.1 s) (σ.1 cp) ∧ xFs σ u) := by
  refine mw_of (by decide) gX_ok (Nat.le_of_ble_eq_true rfl) ?_
  intro p_ e_ s_ m_ below meth c_ C hr hlk Z hP ls hl
  have C : CallFix p_ m_ c_ cX4_gainOf 5 s_ _ lw_good RX4 := C
  have hl : lv_has ls 5 [(0, .ref (mw_a E 63)), (1, .ref (mw_a E (s))), (2, .ref (mw_a E (cp)))] := hl
  have hS : va_S (mw_A 75 E) s_.heap s_.heap [] := va_S.rf
  refine lv_aload_n C.1 C.2.1 dX4_gainOf_0 rfl (lv_at hl 1 rfl) ?_
  refine lv_aload_n C.1 C.2.1 dX4_gainOf_1 rfl (lv_at hl 2 rfl) ?_
  refine mw_cVi (As := [.ref (mw_a E (cp))]) (rest := []) C Z hP hS (s) (cX_isThere l E σ (s) (by omega) (cp) (by omega)) vb_X6_isThere tw_3_133 ⟨rfl, rfl⟩ ⟨Nat.le_of_ble_eq_true rfl, Nat.le_of_ble_eq_true rfl⟩ (by omega) (sx_st (by omega)) rfl rfl rfl hl.1 rfl (Nat.le_of_ble_eq_true rfl) dX4_gainOf_2 ⟨Nat.zero_le _, Nat.zero_le _⟩ (fun r1 u2 H locs q3 hP hS => ?_)
  obtain ⟨rfl, q3u⟩ := q3
  rw [q3u] at hP; clear q3u
  refine lv_if_ne (tgt := 10) C.1 C.2.1 dX4_gainOf_5 (by decide) (fun c4 => ?_) (fun c4 => ?_)
  · have c4 := bI_n.mp c4
    refine lv_aload_n C.1 C.2.1 dX4_gainOf_10 rfl (lv_at hl 0 rfl) ?_
    refine lv_aload_n C.1 C.2.1 dX4_gainOf_11 rfl (lv_at hl 1 rfl) ?_
    refine lv_aload_n C.1 C.2.1 dX4_gainOf_12 rfl (lv_at hl 2 rfl) ?_
    refine mw_cVi (As := [.ref (mw_a E (s)), .ref (mw_a E (cp))]) (rest := []) C Z hP hS (63) (cX_triesOf l E σ (s) (by omega) (cp) (by omega) z ((xFs.rf σ).ru hru)) vb_X4_triesOf tw_3_142 ⟨rfl, rfl⟩ ⟨Nat.le_of_ble_eq_true rfl, Nat.le_of_ble_eq_true rfl⟩ (by decide) sx_63 rfl rfl rfl hl.1 rfl (Nat.le_of_ble_eq_true rfl) dX4_gainOf_13 ⟨Nat.zero_le _, Nat.zero_le _⟩ (fun r5 u6 H locs q7 hP hS => ?_)
    obtain ⟨e9, f8⟩ := q7
    subst e9
    refine lv_istore_n (lv' := [(3, .int (triesP z (σ.1 s) (σ.1 cp))), (0, .ref (mw_a E 63)), (1, .ref (mw_a E (s))), (2, .ref (mw_a E (cp)))]) C.1 C.2.1 dX4_gainOf_16 rfl hl (by decide) rfl (fun ls hl => ?_)
    refine lv_iload_n C.1 C.2.1 dX4_gainOf_17 rfl (lv_at hl 0 rfl) ?_
    refine lv_if_le (tgt := 36) C.1 C.2.1 dX4_gainOf_18 (by decide) (fun c10 => ?_) (fun c10 => ?_)
    · refine lv_iconst (v := 0) C.1 C.2.1 dX4_gainOf_36 (by decide) ?_
      refine lv_istore (lv' := [(4, .int 0), (3, .int (triesP z (σ.1 s) (σ.1 cp))), (0, .ref (mw_a E 63)), (1, .ref (mw_a E (s))), (2, .ref (mw_a E (cp)))]) C.1 C.2.1 dX4_gainOf_37 hl (by decide) rfl (fun ls hl => ?_)
      refine lv_iload C.1 C.2.1 dX4_gainOf_39 (lv_at hl 0 rfl) ?_
      refine lv_sipush (v := 1000) C.1 C.2.1 dX4_gainOf_41 (by decide) ?_
      refine lv_aload_n C.1 C.2.1 dX4_gainOf_44 rfl (lv_at hl 3 rfl) ?_
      refine lv_aload_n C.1 C.2.1 dX4_gainOf_45 rfl (lv_at hl 2 rfl) ?_
      refine lv_aload_n C.1 C.2.1 dX4_gainOf_46 rfl (lv_at hl 3 rfl) ?_
      refine lv_aload_n C.1 C.2.1 dX4_gainOf_47 rfl (lv_at hl 4 rfl) ?_
      refine mw_cVi (As := [.ref (mw_a E (s)), .ref (mw_a E (cp))]) (rest := [.ref (mw_a E (s)), .int 1000, .int 0]) C Z hP hS (63) (cX_eatsOf l E u6 (s) (by omega) (cp) (by omega) z (f8.ru hru)) vb_X4_eatsOf tw_3_134 ⟨rfl, rfl⟩ ⟨Nat.le_of_ble_eq_true rfl, Nat.le_of_ble_eq_true rfl⟩ (by decide) sx_63 rfl rfl rfl hl.1 rfl (Nat.le_of_ble_eq_true rfl) dX4_gainOf_48 ⟨Nat.zero_le _, Nat.zero_le _⟩ (fun r11 u12 H locs q13 hP hS => ?_)
      obtain ⟨e15, f14⟩ := q13
      rw [f8.1] at e15
      subst e15
      refine mw_cSi (As := [.ref (mw_a E (s)), .int (eatsP z (σ.1 s) (σ.1 cp))]) (rest := [.int 1000, .int 0]) C Z hP hS (cX_priceOf l E u12 (s) (by omega) (eatsP z (σ.1 s) (σ.1 cp))) sb_X4_priceOf tw_3_135 ⟨rfl, rfl⟩ ⟨Nat.le_of_ble_eq_true rfl, Nat.le_of_ble_eq_true rfl⟩ rfl hl.1 rfl (Nat.le_of_ble_eq_true rfl) dX4_gainOf_51 ⟨Nat.zero_le _, Nat.zero_le _⟩ (fun r16 u17 H locs q18 hP hS => ?_)
      rw [(f8.tr f14).1] at q18
      obtain ⟨rfl, q18u⟩ := q18
      rw [q18u] at hP; clear q18u
      refine lv_imul C.1 C.2.1 dX4_gainOf_54 ?_
      refine lv_isub C.1 C.2.1 dX4_gainOf_55 ?_
      exact mw_iret C hr hlk Z hP hS dX4_gainOf_56 (⟨by rw [gain_eq, if_pos c4, if_pos c10], (f8.tr f14)⟩)
    · refine lv_aload_n C.1 C.2.1 dX4_gainOf_21 rfl (lv_at hl 1 rfl) ?_
      refine lv_aload_n C.1 C.2.1 dX4_gainOf_22 rfl (lv_at hl 2 rfl) ?_
      refine lv_aload_n C.1 C.2.1 dX4_gainOf_23 rfl (lv_at hl 3 rfl) ?_
      refine mw_cVi (As := [.ref (mw_a E (s)), .ref (mw_a E (cp))]) (rest := []) C Z hP hS (63) (cX_spendsOf l E u6 (s) (by omega) (cp) (by omega) z (f8.ru hru)) vb_X4_spendsOf tw_3_143 ⟨rfl, rfl⟩ ⟨Nat.le_of_ble_eq_true rfl, Nat.le_of_ble_eq_true rfl⟩ (by decide) sx_63 rfl rfl rfl hl.1 rfl (Nat.le_of_ble_eq_true rfl) dX4_gainOf_24 ⟨Nat.zero_le _, Nat.zero_le _⟩ (fun r19 u20 H locs q21 hP hS => ?_)
      obtain ⟨e23, f22⟩ := q21
      rw [f8.1] at e23
      subst e23
      refine lv_sipush (v := 1000) C.1 C.2.1 dX4_gainOf_27 (by decide) ?_
      refine lv_imul C.1 C.2.1 dX4_gainOf_30 ?_
      refine lv_iload_n C.1 C.2.1 dX4_gainOf_31 rfl (lv_at hl 0 rfl) ?_
      refine lv_idiv C.1 C.2.1 dX4_gainOf_32 (fun y => c10 (by rw [y]; decide)) ?_
      refine lv_goto (tgt := 37) C.1 C.2.1 dX4_gainOf_33 (by decide) ?_
      refine lv_istore (lv' := [(4, .int (((spendsP z (σ.1 s) (σ.1 cp)) * 1000) / (triesP z (σ.1 s) (σ.1 cp)))), (3, .int (triesP z (σ.1 s) (σ.1 cp))), (0, .ref (mw_a E 63)), (1, .ref (mw_a E (s))), (2, .ref (mw_a E (cp)))]) C.1 C.2.1 dX4_gainOf_37 hl (by decide) rfl (fun ls hl => ?_)
      refine lv_iload C.1 C.2.1 dX4_gainOf_39 (lv_at hl 0 rfl) ?_
      refine lv_sipush (v := 1000) C.1 C.2.1 dX4_gainOf_41 (by decide) ?_
      refine lv_aload_n C.1 C.2.1 dX4_gainOf_44 rfl (lv_at hl 3 rfl) ?_
      refine lv_aload_n C.1 C.2.1 dX4_gainOf_45 rfl (lv_at hl 2 rfl) ?_
      refine lv_aload_n C.1 C.2.1 dX4_gainOf_46 rfl (lv_at hl 3 rfl) ?_
      refine lv_aload_n C.1 C.2.1 dX4_gainOf_47 rfl (lv_at hl 4 rfl) ?_
      refine mw_cVi (As := [.ref (mw_a E (s)), .ref (mw_a E (cp))]) (rest := [.ref (mw_a E (s)), .int 1000, .int (((spendsP z (σ.1 s) (σ.1 cp)) * 1000) / (triesP z (σ.1 s) (σ.1 cp)))]) C Z hP hS (63) (cX_eatsOf l E u20 (s) (by omega) (cp) (by omega) z ((f8.tr f22).ru hru)) vb_X4_eatsOf tw_3_134 ⟨rfl, rfl⟩ ⟨Nat.le_of_ble_eq_true rfl, Nat.le_of_ble_eq_true rfl⟩ (by decide) sx_63 rfl rfl rfl hl.1 rfl (Nat.le_of_ble_eq_true rfl) dX4_gainOf_48 ⟨Nat.zero_le _, Nat.zero_le _⟩ (fun r24 u25 H locs q26 hP hS => ?_)
      obtain ⟨e28, f27⟩ := q26
      rw [(f8.tr f22).1] at e28
      subst e28
      refine mw_cSi (As := [.ref (mw_a E (s)), .int (eatsP z (σ.1 s) (σ.1 cp))]) (rest := [.int 1000, .int (((spendsP z (σ.1 s) (σ.1 cp)) * 1000) / (triesP z (σ.1 s) (σ.1 cp)))]) C Z hP hS (cX_priceOf l E u25 (s) (by omega) (eatsP z (σ.1 s) (σ.1 cp))) sb_X4_priceOf tw_3_135 ⟨rfl, rfl⟩ ⟨Nat.le_of_ble_eq_true rfl, Nat.le_of_ble_eq_true rfl⟩ rfl hl.1 rfl (Nat.le_of_ble_eq_true rfl) dX4_gainOf_51 ⟨Nat.zero_le _, Nat.zero_le _⟩ (fun r29 u30 H locs q31 hP hS => ?_)
      rw [((f8.tr f22).tr f27).1] at q31
      obtain ⟨rfl, q31u⟩ := q31
      rw [q31u] at hP; clear q31u
      refine lv_imul C.1 C.2.1 dX4_gainOf_54 ?_
      refine lv_isub C.1 C.2.1 dX4_gainOf_55 ?_
      exact mw_iret C hr hlk Z hP hS dX4_gainOf_56 (⟨by rw [gain_eq, if_pos c4, if_neg c10], ((f8.tr f22).tr f27)⟩)
  · have c4 := bI_0.mp c4
    refine lv_iconst (v := 0) C.1 C.2.1 dX4_gainOf_8 (by decide) ?_
    exact mw_iret C hr hlk Z hP hS dX4_gainOf_9 (⟨by rw [gain_eq, if_neg c4], (xFs.rf σ)⟩)

set_option maxHeartbeats 4000000 in
set_option maxRecDepth 100000 in
theorem cX_allGain0 (l : Launch) (E : mw_E) (σ : mw_M) (s : Nat) (hs : s < 3) (n : Nat) (hn : σ.1 s 6 = nI n) (h8 : n ≤ 8) (z : zP) (hru : xRu σ s z) : mw_Ci shX 75 gX l yX4_allGainOf cX4_allGainOf 4 (some .int) (rmF 6 179) E [.ref (mw_a E 63), .ref (mw_a E (s))] σ (fun r u => r = sumP (fun p => gainP z (σ.1 s) (cuX σ s p)) n ∧ xFs σ u) := by
  refine mw_of (by decide) gX_ok (Nat.le_of_ble_eq_true rfl) ?_
  intro p_ e_ s_ m_ below meth c_ C hr hlk Z hP ls hl
  have C : CallFix p_ m_ c_ cX4_allGainOf 4 s_ _ lw_good RX4 := C
  have hl : lv_has ls 4 [(0, .ref (mw_a E 63)), (1, .ref (mw_a E (s)))] := hl
  have hS : va_S (mw_A 75 E) s_.heap s_.heap [] := va_S.rf
  refine lv_iconst (v := 0) C.1 C.2.1 dX4_allGainOf_0 (by decide) ?_
  refine lv_istore_n (lv' := [(2, .int 0), (0, .ref (mw_a E 63)), (1, .ref (mw_a E (s)))]) C.1 C.2.1 dX4_allGainOf_1 rfl hl (by decide) rfl (fun ls hl => ?_)
  refine lv_iconst (v := 0) C.1 C.2.1 dX4_allGainOf_2 (by decide) ?_
  refine lv_istore_n (lv' := [(3, .int 0), (2, .int 0), (0, .ref (mw_a E 63)), (1, .ref (mw_a E (s)))]) C.1 C.2.1 dX4_allGainOf_3 rfl hl (by decide) rfl (fun ls hl => ?_)
  have lpa : ∀ (N : Nat) (j : Nat) (x : Int32) (ςa : mw_M) (H : Heap) (locs : List Loc), n + 1 ≤ j + N → (j ≤ n) → (x = sumP (fun p => gainP z (σ.1 s) (cuX σ s p)) j) → xFs σ ςa → va_P (mw_D E) vwCl (mw_ws shX 75 E ςa) H → va_S (mw_A 75 E) s_.heap H locs → ∀ (ls : Array Slot), lv_has ls 4 [(0, .ref (mw_a E 63)), (1, .ref (mw_a E (s))), (2, .int x), (3, .int (nI j))] → xWi p_ l e_ (rmF 6 179) s_ m_ [.ref (mw_a E 63), .ref (mw_a E (s))] below meth c_ E (fun r u => r = sumP (fun p => gainP z (σ.1 s) (cuX σ s p)) n ∧ xFs σ u) H locs (F0 m_ 4 ls []) := by
    intro N
    induction N with
    | zero => intros; exfalso; omega
    | succ N iha =>
      intro j x ςa H locs hNa hj ex fra hP hS ls hl
      refine lv_iload_n C.1 C.2.1 dX4_allGainOf_4 rfl (lv_at hl 3 rfl) ?_
      refine lv_aload_n C.1 C.2.1 dX4_allGainOf_5 rfl (lv_at hl 1 rfl) ?_
      refine mw_geti C Z hP (s) 6 (by omega) (sx_st (by omega)) rfl rfl (by decide) inX6 tw_1_94 dX4_allGainOf_6 ?_
      refine mw_top (y := nI n) ((congrFun (congrFun fra.1 _) _).trans hn) ?_
      refine lv_icmp_ge (tgt := 38) C.1 C.2.1 dX4_allGainOf_9 (by decide) (fun c1 => ?_) (fun c1 => ?_)
      · have c1 := (nI_leI (by omega) (by omega)).mp c1
        refine lv_iload_n C.1 C.2.1 dX4_allGainOf_38 rfl (lv_at hl 2 rfl) ?_
        exact mw_iret C hr hlk Z hP hS dX4_allGainOf_39 (⟨by rw [ex, show j = n by omega], fra⟩)
      · have c1 : _ := (not_congr (nI_leI (by omega) (by omega))).mp c1
        refine lv_iload_n C.1 C.2.1 dX4_allGainOf_12 rfl (lv_at hl 3 rfl) ?_
        refine lv_bipush (v := 8) C.1 C.2.1 dX4_allGainOf_13 (by decide) ?_
        refine lv_icmp_ge (tgt := 38) C.1 C.2.1 dX4_allGainOf_15 (by decide) (fun c2 => ?_) (fun c2 => ?_)
        · exact absurd ((nI_leI (a := 8) (by decide) (by omega)).mp c2) (by omega)
        · refine lv_iload_n C.1 C.2.1 dX4_allGainOf_18 rfl (lv_at hl 2 rfl) ?_
          refine lv_aload_n C.1 C.2.1 dX4_allGainOf_19 rfl (lv_at hl 0 rfl) ?_
          refine lv_aload_n C.1 C.2.1 dX4_allGainOf_20 rfl (lv_at hl 1 rfl) ?_
          refine lv_aload_n C.1 C.2.1 dX4_allGainOf_21 rfl (lv_at hl 1 rfl) ?_
          refine mw_getr C Z hP (s) 7 (3 + s) (by omega) (sx_st (by omega)) rfl rfl (by decide) inX6 tw_1_97 dX4_allGainOf_22 ?_
          refine lv_iload_n C.1 C.2.1 dX4_allGainOf_25 rfl (lv_at hl 3 rfl) ?_
          refine mw_aald C Z hP (3 + s) (j) (by omega) (sx_ca (by omega)) (by decide) rfl (Nat.lt_of_lt_of_le (by decide : 8 < 961) (Nat.le_of_ble_eq_true rfl)) rfl (by omega) dX4_allGainOf_26 ?_
          refine mw_cVi (As := [.ref (mw_a E (s)), .ref (mw_a E (6 + 8 * s + j))]) (rest := [.int x]) C Z hP hS (63) (cX_gainOf l E ςa (s) (by omega) (6 + 8 * s + j) (by omega) z (fra.ru hru)) vb_X4_gainOf tw_3_162 ⟨rfl, rfl⟩ ⟨Nat.le_of_ble_eq_true rfl, Nat.le_of_ble_eq_true rfl⟩ (by decide) sx_63 rfl rfl rfl hl.1 rfl (Nat.le_of_ble_eq_true rfl) dX4_allGainOf_27 ⟨Nat.zero_le _, Nat.zero_le _⟩ (fun r3 u4 H locs q5 hP hS => ?_)
          obtain ⟨e7, f6⟩ := q5
          rw [fra.1] at e7
          subst e7
          refine lv_iadd C.1 C.2.1 dX4_allGainOf_30 ?_
          refine lv_istore_n (lv' := [(2, .int (x + (gainP z (σ.1 s) (σ.1 (6 + 8 * s + j))))), (0, .ref (mw_a E 63)), (1, .ref (mw_a E (s))), (3, .int (nI j))]) C.1 C.2.1 dX4_allGainOf_31 rfl hl (by decide) rfl (fun ls hl => ?_)
          refine lv_iinc (v := nI (j + 1)) (lv' := [(3, .int (nI (j + 1))), (2, .int (x + (gainP z (σ.1 s) (σ.1 (6 + 8 * s + j))))), (0, .ref (mw_a E 63)), (1, .ref (mw_a E (s)))]) C.1 C.2.1 dX4_allGainOf_32 hl (k := 3) rfl (nI_1 _) (by decide) rfl (fun ls hl => ?_)
          refine lv_goto (tgt := 4) C.1 C.2.1 dX4_allGainOf_35 (by decide) ?_
          exact iha (j + 1) (x + (gainP z (σ.1 s) (σ.1 (6 + 8 * s + j)))) u4 _ _ (by omega) (by omega) (by rw [ex]; rfl) (fra.tr f6) hP hS ls (lv_sub hl [2, 3, 1, 0] rfl)
  exact lpa (n + 1) 0 0 σ _ _ (by omega) (by omega) (rfl) (xFs.rf σ) hP hS ls (lv_sub hl [2, 3, 1, 0] rfl)

set_option maxHeartbeats 4000000 in
set_option maxRecDepth 100000 in
theorem cX_allCost (l : Launch) (E : mw_E) (σ : mw_M) (s : Nat) (hs : s < 3) (n : Nat) (hn : σ.1 s 6 = nI n) (h8 : n ≤ 8) (z : zP) (hru : xRu σ s z) : mw_Ci shX 75 gX l yX4_allCostOf cX4_allCostOf 4 (some .int) (rmF 7 199) E [.ref (mw_a E 63), .ref (mw_a E (s))] σ (fun r u => r = sumP (bd2 z (σ.1 s) (cuX σ s)) n ∧ xFs σ u) := by
  refine mw_of (by decide) gX_ok (Nat.le_of_ble_eq_true rfl) ?_
  intro p_ e_ s_ m_ below meth c_ C hr hlk Z hP ls hl
  have C : CallFix p_ m_ c_ cX4_allCostOf 4 s_ _ lw_good RX4 := C
  have hl : lv_has ls 4 [(0, .ref (mw_a E 63)), (1, .ref (mw_a E (s)))] := hl
  have hS : va_S (mw_A 75 E) s_.heap s_.heap [] := va_S.rf
  refine lv_iconst (v := 0) C.1 C.2.1 dX4_allCostOf_0 (by decide) ?_
  refine lv_istore_n (lv' := [(2, .int 0), (0, .ref (mw_a E 63)), (1, .ref (mw_a E (s)))]) C.1 C.2.1 dX4_allCostOf_1 rfl hl (by decide) rfl (fun ls hl => ?_)
  refine lv_iconst (v := 0) C.1 C.2.1 dX4_allCostOf_2 (by decide) ?_
  refine lv_istore_n (lv' := [(3, .int 0), (2, .int 0), (0, .ref (mw_a E 63)), (1, .ref (mw_a E (s)))]) C.1 C.2.1 dX4_allCostOf_3 rfl hl (by decide) rfl (fun ls hl => ?_)
  have lpa : ∀ (N : Nat) (j : Nat) (x : Int32) (ςa : mw_M) (H : Heap) (locs : List Loc), n + 1 ≤ j + N → (j ≤ n) → (x = sumP (bd2 z (σ.1 s) (cuX σ s)) j) → xFs σ ςa → va_P (mw_D E) vwCl (mw_ws shX 75 E ςa) H → va_S (mw_A 75 E) s_.heap H locs → ∀ (ls : Array Slot), lv_has ls 4 [(0, .ref (mw_a E 63)), (1, .ref (mw_a E (s))), (2, .int x), (3, .int (nI j))] → xWi p_ l e_ (rmF 7 199) s_ m_ [.ref (mw_a E 63), .ref (mw_a E (s))] below meth c_ E (fun r u => r = sumP (bd2 z (σ.1 s) (cuX σ s)) n ∧ xFs σ u) H locs (F0 m_ 4 ls []) := by
    intro N
    induction N with
    | zero => intros; exfalso; omega
    | succ N iha =>
      intro j x ςa H locs hNa hj ex fra hP hS ls hl
      refine lv_iload_n C.1 C.2.1 dX4_allCostOf_4 rfl (lv_at hl 3 rfl) ?_
      refine lv_aload_n C.1 C.2.1 dX4_allCostOf_5 rfl (lv_at hl 1 rfl) ?_
      refine mw_geti C Z hP (s) 6 (by omega) (sx_st (by omega)) rfl rfl (by decide) inX6 tw_1_94 dX4_allCostOf_6 ?_
      refine mw_top (y := nI n) ((congrFun (congrFun fra.1 _) _).trans hn) ?_
      refine lv_icmp_ge (tgt := 38) C.1 C.2.1 dX4_allCostOf_9 (by decide) (fun c1 => ?_) (fun c1 => ?_)
      · have c1 := (nI_leI (by omega) (by omega)).mp c1
        refine lv_iload_n C.1 C.2.1 dX4_allCostOf_38 rfl (lv_at hl 2 rfl) ?_
        exact mw_iret C hr hlk Z hP hS dX4_allCostOf_39 (⟨by rw [ex, show j = n by omega], fra⟩)
      · have c1 : _ := (not_congr (nI_leI (by omega) (by omega))).mp c1
        refine lv_iload_n C.1 C.2.1 dX4_allCostOf_12 rfl (lv_at hl 3 rfl) ?_
        refine lv_bipush (v := 8) C.1 C.2.1 dX4_allCostOf_13 (by decide) ?_
        refine lv_icmp_ge (tgt := 38) C.1 C.2.1 dX4_allCostOf_15 (by decide) (fun c2 => ?_) (fun c2 => ?_)
        · exact absurd ((nI_leI (a := 8) (by decide) (by omega)).mp c2) (by omega)
        · refine lv_iload_n C.1 C.2.1 dX4_allCostOf_18 rfl (lv_at hl 2 rfl) ?_
          refine lv_aload_n C.1 C.2.1 dX4_allCostOf_19 rfl (lv_at hl 0 rfl) ?_
          refine lv_aload_n C.1 C.2.1 dX4_allCostOf_20 rfl (lv_at hl 1 rfl) ?_
          refine lv_aload_n C.1 C.2.1 dX4_allCostOf_21 rfl (lv_at hl 1 rfl) ?_
          refine mw_getr C Z hP (s) 7 (3 + s) (by omega) (sx_st (by omega)) rfl rfl (by decide) inX6 tw_1_97 dX4_allCostOf_22 ?_
          refine lv_iload_n C.1 C.2.1 dX4_allCostOf_25 rfl (lv_at hl 3 rfl) ?_
          refine mw_aald C Z hP (3 + s) (j) (by omega) (sx_ca (by omega)) (by decide) rfl (Nat.lt_of_lt_of_le (by decide : 8 < 961) (Nat.le_of_ble_eq_true rfl)) rfl (by omega) dX4_allCostOf_26 ?_
          refine mw_cVi (As := [.ref (mw_a E (s)), .ref (mw_a E (6 + 8 * s + j))]) (rest := [.int x]) C Z hP hS (63) (cX_costOf l E ςa (s) (by omega) (6 + 8 * s + j) (by omega) z (fra.ru hru)) vb_X4_costOf tw_3_171 ⟨rfl, rfl⟩ ⟨Nat.le_of_ble_eq_true rfl, Nat.le_of_ble_eq_true rfl⟩ (by decide) sx_63 rfl rfl rfl hl.1 rfl (Nat.le_of_ble_eq_true rfl) dX4_allCostOf_27 ⟨Nat.zero_le _, Nat.zero_le _⟩ (fun r3 u4 H locs q5 hP hS => ?_)
          obtain ⟨e7, f6⟩ := q5
          rw [fra.1] at e7
          subst e7
          refine lv_iadd C.1 C.2.1 dX4_allCostOf_30 ?_
          refine lv_istore_n (lv' := [(2, .int (x + (costP z (σ.1 s) (σ.1 (6 + 8 * s + j))))), (0, .ref (mw_a E 63)), (1, .ref (mw_a E (s))), (3, .int (nI j))]) C.1 C.2.1 dX4_allCostOf_31 rfl hl (by decide) rfl (fun ls hl => ?_)
          refine lv_iinc (v := nI (j + 1)) (lv' := [(3, .int (nI (j + 1))), (2, .int (x + (costP z (σ.1 s) (σ.1 (6 + 8 * s + j))))), (0, .ref (mw_a E 63)), (1, .ref (mw_a E (s)))]) C.1 C.2.1 dX4_allCostOf_32 hl (k := 3) rfl (nI_1 _) (by decide) rfl (fun ls hl => ?_)
          refine lv_goto (tgt := 4) C.1 C.2.1 dX4_allCostOf_35 (by decide) ?_
          exact iha (j + 1) (x + (costP z (σ.1 s) (σ.1 (6 + 8 * s + j)))) u4 _ _ (by omega) (by omega) (by rw [ex]; rfl) (fra.tr f6) hP hS ls (lv_sub hl [2, 3, 1, 0] rfl)
  exact lpa (n + 1) 0 0 σ _ _ (by omega) (by omega) (rfl) (xFs.rf σ) hP hS ls (lv_sub hl [2, 3, 1, 0] rfl)

set_option maxHeartbeats 4000000 in
set_option maxRecDepth 100000 in
theorem cX_allEaten (l : Launch) (E : mw_E) (σ : mw_M) (s : Nat) (hs : s < 3) (n : Nat) (hn : σ.1 s 6 = nI n) (h8 : n ≤ 8) (z : zP) (hru : xRu σ s z) : mw_Ci shX 75 gX l yX4_allEatenOf cX4_allEatenOf 4 (some .int) (rmF 6 177) E [.ref (mw_a E 63), .ref (mw_a E (s))] σ (fun r u => r = sumP (bd1 z (σ.1 s) (cuX σ s)) n ∧ xFs σ u) := by
  refine mw_of (by decide) gX_ok (Nat.le_of_ble_eq_true rfl) ?_
  intro p_ e_ s_ m_ below meth c_ C hr hlk Z hP ls hl
  have C : CallFix p_ m_ c_ cX4_allEatenOf 4 s_ _ lw_good RX4 := C
  have hl : lv_has ls 4 [(0, .ref (mw_a E 63)), (1, .ref (mw_a E (s)))] := hl
  have hS : va_S (mw_A 75 E) s_.heap s_.heap [] := va_S.rf
  refine lv_iconst (v := 0) C.1 C.2.1 dX4_allEatenOf_0 (by decide) ?_
  refine lv_istore_n (lv' := [(2, .int 0), (0, .ref (mw_a E 63)), (1, .ref (mw_a E (s)))]) C.1 C.2.1 dX4_allEatenOf_1 rfl hl (by decide) rfl (fun ls hl => ?_)
  refine lv_iconst (v := 0) C.1 C.2.1 dX4_allEatenOf_2 (by decide) ?_
  refine lv_istore_n (lv' := [(3, .int 0), (2, .int 0), (0, .ref (mw_a E 63)), (1, .ref (mw_a E (s)))]) C.1 C.2.1 dX4_allEatenOf_3 rfl hl (by decide) rfl (fun ls hl => ?_)
  have lpa : ∀ (N : Nat) (j : Nat) (x : Int32) (ςa : mw_M) (H : Heap) (locs : List Loc), n + 1 ≤ j + N → (j ≤ n) → (x = sumP (bd1 z (σ.1 s) (cuX σ s)) j) → xFs σ ςa → va_P (mw_D E) vwCl (mw_ws shX 75 E ςa) H → va_S (mw_A 75 E) s_.heap H locs → ∀ (ls : Array Slot), lv_has ls 4 [(0, .ref (mw_a E 63)), (1, .ref (mw_a E (s))), (2, .int x), (3, .int (nI j))] → xWi p_ l e_ (rmF 6 177) s_ m_ [.ref (mw_a E 63), .ref (mw_a E (s))] below meth c_ E (fun r u => r = sumP (bd1 z (σ.1 s) (cuX σ s)) n ∧ xFs σ u) H locs (F0 m_ 4 ls []) := by
    intro N
    induction N with
    | zero => intros; exfalso; omega
    | succ N iha =>
      intro j x ςa H locs hNa hj ex fra hP hS ls hl
      refine lv_iload_n C.1 C.2.1 dX4_allEatenOf_4 rfl (lv_at hl 3 rfl) ?_
      refine lv_aload_n C.1 C.2.1 dX4_allEatenOf_5 rfl (lv_at hl 1 rfl) ?_
      refine mw_geti C Z hP (s) 6 (by omega) (sx_st (by omega)) rfl rfl (by decide) inX6 tw_1_94 dX4_allEatenOf_6 ?_
      refine mw_top (y := nI n) ((congrFun (congrFun fra.1 _) _).trans hn) ?_
      refine lv_icmp_ge (tgt := 38) C.1 C.2.1 dX4_allEatenOf_9 (by decide) (fun c1 => ?_) (fun c1 => ?_)
      · have c1 := (nI_leI (by omega) (by omega)).mp c1
        refine lv_iload_n C.1 C.2.1 dX4_allEatenOf_38 rfl (lv_at hl 2 rfl) ?_
        exact mw_iret C hr hlk Z hP hS dX4_allEatenOf_39 (⟨by rw [ex, show j = n by omega], fra⟩)
      · have c1 : _ := (not_congr (nI_leI (by omega) (by omega))).mp c1
        refine lv_iload_n C.1 C.2.1 dX4_allEatenOf_12 rfl (lv_at hl 3 rfl) ?_
        refine lv_bipush (v := 8) C.1 C.2.1 dX4_allEatenOf_13 (by decide) ?_
        refine lv_icmp_ge (tgt := 38) C.1 C.2.1 dX4_allEatenOf_15 (by decide) (fun c2 => ?_) (fun c2 => ?_)
        · exact absurd ((nI_leI (a := 8) (by decide) (by omega)).mp c2) (by omega)
        · refine lv_iload_n C.1 C.2.1 dX4_allEatenOf_18 rfl (lv_at hl 2 rfl) ?_
          refine lv_aload_n C.1 C.2.1 dX4_allEatenOf_19 rfl (lv_at hl 0 rfl) ?_
          refine lv_aload_n C.1 C.2.1 dX4_allEatenOf_20 rfl (lv_at hl 1 rfl) ?_
          refine lv_aload_n C.1 C.2.1 dX4_allEatenOf_21 rfl (lv_at hl 1 rfl) ?_
          refine mw_getr C Z hP (s) 7 (3 + s) (by omega) (sx_st (by omega)) rfl rfl (by decide) inX6 tw_1_97 dX4_allEatenOf_22 ?_
          refine lv_iload_n C.1 C.2.1 dX4_allEatenOf_25 rfl (lv_at hl 3 rfl) ?_
          refine mw_aald C Z hP (3 + s) (j) (by omega) (sx_ca (by omega)) (by decide) rfl (Nat.lt_of_lt_of_le (by decide : 8 < 961) (Nat.le_of_ble_eq_true rfl)) rfl (by omega) dX4_allEatenOf_26 ?_
          refine mw_cVi (As := [.ref (mw_a E (s)), .ref (mw_a E (6 + 8 * s + j))]) (rest := [.int x]) C Z hP hS (63) (cX_eatenBy l E ςa (s) (by omega) (6 + 8 * s + j) (by omega) z (fra.ru hru)) vb_X4_eatenBy tw_3_129 ⟨rfl, rfl⟩ ⟨Nat.le_of_ble_eq_true rfl, Nat.le_of_ble_eq_true rfl⟩ (by decide) sx_63 rfl rfl rfl hl.1 rfl (Nat.le_of_ble_eq_true rfl) dX4_allEatenOf_27 ⟨Nat.zero_le _, Nat.zero_le _⟩ (fun r3 u4 H locs q5 hP hS => ?_)
          obtain ⟨e7, f6⟩ := q5
          rw [fra.1] at e7
          subst e7
          refine lv_iadd C.1 C.2.1 dX4_allEatenOf_30 ?_
          refine lv_istore_n (lv' := [(2, .int (x + (eatnP z (σ.1 s) (σ.1 (6 + 8 * s + j))))), (0, .ref (mw_a E 63)), (1, .ref (mw_a E (s))), (3, .int (nI j))]) C.1 C.2.1 dX4_allEatenOf_31 rfl hl (by decide) rfl (fun ls hl => ?_)
          refine lv_iinc (v := nI (j + 1)) (lv' := [(3, .int (nI (j + 1))), (2, .int (x + (eatnP z (σ.1 s) (σ.1 (6 + 8 * s + j))))), (0, .ref (mw_a E 63)), (1, .ref (mw_a E (s)))]) C.1 C.2.1 dX4_allEatenOf_32 hl (k := 3) rfl (nI_1 _) (by decide) rfl (fun ls hl => ?_)
          refine lv_goto (tgt := 4) C.1 C.2.1 dX4_allEatenOf_35 (by decide) ?_
          exact iha (j + 1) (x + (eatnP z (σ.1 s) (σ.1 (6 + 8 * s + j)))) u4 _ _ (by omega) (by omega) (by rw [ex]; rfl) (fra.tr f6) hP hS ls (lv_sub hl [2, 3, 1, 0] rfl)
  exact lpa (n + 1) 0 0 σ _ _ (by omega) (by omega) (rfl) (xFs.rf σ) hP hS ls (lv_sub hl [2, 3, 1, 0] rfl)

set_option maxHeartbeats 4000000 in
set_option maxRecDepth 100000 in
theorem cX_eatenIn0 (l : Launch) (E : mw_E) (σ : mw_M) (s : Nat) (hs : s < 3) (n : Nat) (hn : σ.1 s 6 = nI n) (h8 : n ≤ 8) (z : zP) (hru : xRu σ s z) (hr1 : Int32) : mw_Ci shX 75 gX l yX4_eatenIn cX4_eatenIn 5 (some .int) (rmF 6 177) E [.ref (mw_a E 63), .ref (mw_a E (s)), .int hr1] σ (fun r u => r = sumP (fun p => if thereP (σ.1 s) (cuX σ s p) ∧ cuX σ s p 2 = hr1 then eatsP z (σ.1 s) (cuX σ s p) else 0) n ∧ xFs σ u) := by
  refine mw_of (by decide) gX_ok (Nat.le_of_ble_eq_true rfl) ?_
  intro p_ e_ s_ m_ below meth c_ C hr hlk Z hP ls hl
  have C : CallFix p_ m_ c_ cX4_eatenIn 5 s_ _ lw_good RX4 := C
  have hl : lv_has ls 5 [(0, .ref (mw_a E 63)), (1, .ref (mw_a E (s))), (2, .int hr1)] := hl
  have hS : va_S (mw_A 75 E) s_.heap s_.heap [] := va_S.rf
  refine lv_iconst (v := 0) C.1 C.2.1 dX4_eatenIn_0 (by decide) ?_
  refine lv_istore_n (lv' := [(3, .int 0), (0, .ref (mw_a E 63)), (1, .ref (mw_a E (s))), (2, .int hr1)]) C.1 C.2.1 dX4_eatenIn_1 rfl hl (by decide) rfl (fun ls hl => ?_)
  refine lv_iconst (v := 0) C.1 C.2.1 dX4_eatenIn_2 (by decide) ?_
  refine lv_istore (lv' := [(4, .int 0), (3, .int 0), (0, .ref (mw_a E 63)), (1, .ref (mw_a E (s))), (2, .int hr1)]) C.1 C.2.1 dX4_eatenIn_3 hl (by decide) rfl (fun ls hl => ?_)
  have lpa : ∀ (N : Nat) (j : Nat) (x : Int32) (ςa : mw_M) (H : Heap) (locs : List Loc), n + 1 ≤ j + N → (j ≤ n) → (x = sumP (fun p => if thereP (σ.1 s) (cuX σ s p) ∧ cuX σ s p 2 = hr1 then eatsP z (σ.1 s) (cuX σ s p) else 0) j) → xFs σ ςa → va_P (mw_D E) vwCl (mw_ws shX 75 E ςa) H → va_S (mw_A 75 E) s_.heap H locs → ∀ (ls : Array Slot), lv_has ls 5 [(0, .ref (mw_a E 63)), (1, .ref (mw_a E (s))), (2, .int hr1), (3, .int x), (4, .int (nI j))] → xWi p_ l e_ (rmF 6 177) s_ m_ [.ref (mw_a E 63), .ref (mw_a E (s)), .int hr1] below meth c_ E (fun r u => r = sumP (fun p => if thereP (σ.1 s) (cuX σ s p) ∧ cuX σ s p 2 = hr1 then eatsP z (σ.1 s) (cuX σ s p) else 0) n ∧ xFs σ u) H locs (F0 m_ 5 ls []) := by
    intro N
    induction N with
    | zero => intros; exfalso; omega
    | succ N iha =>
      intro j x ςa H locs hNa hj ex fra hP hS ls hl
      refine lv_iload C.1 C.2.1 dX4_eatenIn_5 (lv_at hl 4 rfl) ?_
      refine lv_aload_n C.1 C.2.1 dX4_eatenIn_7 rfl (lv_at hl 1 rfl) ?_
      refine mw_geti C Z hP (s) 6 (by omega) (sx_st (by omega)) rfl rfl (by decide) inX6 tw_1_94 dX4_eatenIn_8 ?_
      refine mw_top (y := nI n) ((congrFun (congrFun fra.1 _) _).trans hn) ?_
      refine lv_icmp_ge (tgt := 56) C.1 C.2.1 dX4_eatenIn_11 (by decide) (fun c1 => ?_) (fun c1 => ?_)
      · have c1 := (nI_leI (by omega) (by omega)).mp c1
        refine lv_iload_n C.1 C.2.1 dX4_eatenIn_56 rfl (lv_at hl 3 rfl) ?_
        exact mw_iret C hr hlk Z hP hS dX4_eatenIn_57 (⟨by rw [ex, show j = n by omega], fra⟩)
      · have c1 : _ := (not_congr (nI_leI (by omega) (by omega))).mp c1
        refine lv_iload C.1 C.2.1 dX4_eatenIn_14 (lv_at hl 4 rfl) ?_
        refine lv_bipush (v := 8) C.1 C.2.1 dX4_eatenIn_16 (by decide) ?_
        refine lv_icmp_ge (tgt := 56) C.1 C.2.1 dX4_eatenIn_18 (by decide) (fun c2 => ?_) (fun c2 => ?_)
        · exact absurd ((nI_leI (a := 8) (by decide) (by omega)).mp c2) (by omega)
        · refine lv_aload_n C.1 C.2.1 dX4_eatenIn_21 rfl (lv_at hl 1 rfl) ?_
          refine mw_getr C Z hP (s) 7 (3 + s) (by omega) (sx_st (by omega)) rfl rfl (by decide) inX6 tw_1_97 dX4_eatenIn_22 ?_
          refine lv_iload C.1 C.2.1 dX4_eatenIn_25 (lv_at hl 4 rfl) ?_
          refine mw_aald C Z hP (3 + s) (j) (by omega) (sx_ca (by omega)) (by decide) rfl (Nat.lt_of_lt_of_le (by decide : 8 < 961) (Nat.le_of_ble_eq_true rfl)) rfl (by omega) dX4_eatenIn_27 ?_
          refine mw_geti C Z hP (6 + 8 * s + j) 2 (by omega) (sx_cu (by omega) (by omega)) rfl rfl (by decide) inX1 tw_1_53 dX4_eatenIn_28 ?_
          refine mw_top (y := σ.1 (6 + 8 * s + j) 2) ((congrFun (congrFun fra.1 _) _)) ?_
          refine lv_iload_n C.1 C.2.1 dX4_eatenIn_31 rfl (lv_at hl 2 rfl) ?_
          refine lv_icmp_ne (tgt := 50) C.1 C.2.1 dX4_eatenIn_32 (by decide) (fun c3 => ?_) (fun c3 => ?_)
          · refine lv_iinc (v := nI (j + 1)) (lv' := [(4, .int (nI (j + 1))), (0, .ref (mw_a E 63)), (1, .ref (mw_a E (s))), (2, .int hr1), (3, .int x)]) C.1 C.2.1 dX4_eatenIn_50 hl (k := 4) rfl (nI_1 _) (by decide) rfl (fun ls hl => ?_)
            refine lv_goto (tgt := 5) C.1 C.2.1 dX4_eatenIn_53 (by decide) ?_
            exact iha (j + 1) x ςa _ _ (by omega) (by omega) (by rw [ex]; exact sumP_0 (if_neg (fun y => c3 y.2))) fra hP hS ls (lv_sub hl [1, 2, 3, 4, 0] rfl)
          · refine lv_iload_n C.1 C.2.1 dX4_eatenIn_35 rfl (lv_at hl 3 rfl) ?_
            refine lv_aload_n C.1 C.2.1 dX4_eatenIn_36 rfl (lv_at hl 0 rfl) ?_
            refine lv_aload_n C.1 C.2.1 dX4_eatenIn_37 rfl (lv_at hl 1 rfl) ?_
            refine lv_aload_n C.1 C.2.1 dX4_eatenIn_38 rfl (lv_at hl 1 rfl) ?_
            refine mw_getr C Z hP (s) 7 (3 + s) (by omega) (sx_st (by omega)) rfl rfl (by decide) inX6 tw_1_97 dX4_eatenIn_39 ?_
            refine lv_iload C.1 C.2.1 dX4_eatenIn_42 (lv_at hl 4 rfl) ?_
            refine mw_aald C Z hP (3 + s) (j) (by omega) (sx_ca (by omega)) (by decide) rfl (Nat.lt_of_lt_of_le (by decide : 8 < 961) (Nat.le_of_ble_eq_true rfl)) rfl (by omega) dX4_eatenIn_44 ?_
            refine mw_cVi (As := [.ref (mw_a E (s)), .ref (mw_a E (6 + 8 * s + j))]) (rest := [.int x]) C Z hP hS (63) (cX_eatenBy l E ςa (s) (by omega) (6 + 8 * s + j) (by omega) z (fra.ru hru)) vb_X4_eatenBy tw_3_129 ⟨rfl, rfl⟩ ⟨Nat.le_of_ble_eq_true rfl, Nat.le_of_ble_eq_true rfl⟩ (by decide) sx_63 rfl rfl rfl hl.1 rfl (Nat.le_of_ble_eq_true rfl) dX4_eatenIn_45 ⟨Nat.zero_le _, Nat.zero_le _⟩ (fun r4 u5 H locs q6 hP hS => ?_)
            obtain ⟨e8, f7⟩ := q6
            rw [fra.1] at e8
            subst e8
            refine lv_iadd C.1 C.2.1 dX4_eatenIn_48 ?_
            refine lv_istore_n (lv' := [(3, .int (x + (eatnP z (σ.1 s) (σ.1 (6 + 8 * s + j))))), (0, .ref (mw_a E 63)), (1, .ref (mw_a E (s))), (2, .int hr1), (4, .int (nI j))]) C.1 C.2.1 dX4_eatenIn_49 rfl hl (by decide) rfl (fun ls hl => ?_)
            refine lv_iinc (v := nI (j + 1)) (lv' := [(4, .int (nI (j + 1))), (3, .int (x + (eatnP z (σ.1 s) (σ.1 (6 + 8 * s + j))))), (0, .ref (mw_a E 63)), (1, .ref (mw_a E (s))), (2, .int hr1)]) C.1 C.2.1 dX4_eatenIn_50 hl (k := 4) rfl (nI_1 _) (by decide) rfl (fun ls hl => ?_)
            refine lv_goto (tgt := 5) C.1 C.2.1 dX4_eatenIn_53 (by decide) ?_
            exact iha (j + 1) (x + (eatnP z (σ.1 s) (σ.1 (6 + 8 * s + j)))) u5 _ _ (by omega) (by omega) (by rw [ex]; exact sumP_s ((eatn_h z _ _ hr1).trans (if_pos c3))) (fra.tr f7) hP hS ls (lv_sub hl [2, 3, 4, 1, 0] rfl)
  exact lpa (n + 1) 0 0 σ _ _ (by omega) (by omega) (rfl) (xFs.rf σ) hP hS ls (lv_sub hl [2, 3, 4, 1, 0] rfl)

set_option maxHeartbeats 4000000 in
set_option maxRecDepth 100000 in
theorem cX_onlyEaters (l : Launch) (E : mw_E) (σ : mw_M) (s : Nat) (hs : s < 3) (n : Nat) (hn : σ.1 s 6 = nI n) (h8 : n ≤ 8) (z : zP) (hru : xRu σ s z) : mw_Ci shX 75 gX l yX4_onlyEatersOf cX4_onlyEatersOf 5 (some .int) (rmF 6 177) E [.ref (mw_a E 63), .ref (mw_a E (s))] σ (fun r u => r = orP (bd3 z (σ.1 s) (cuX σ s)) n ∧ xFs σ u) := by
  refine mw_of (by decide) gX_ok (Nat.le_of_ble_eq_true rfl) ?_
  intro p_ e_ s_ m_ below meth c_ C hr hlk Z hP ls hl
  have C : CallFix p_ m_ c_ cX4_onlyEatersOf 5 s_ _ lw_good RX4 := C
  have hl : lv_has ls 5 [(0, .ref (mw_a E 63)), (1, .ref (mw_a E (s)))] := hl
  have hS : va_S (mw_A 75 E) s_.heap s_.heap [] := va_S.rf
  refine lv_iconst (v := 0) C.1 C.2.1 dX4_onlyEatersOf_0 (by decide) ?_
  refine lv_istore_n (lv' := [(2, .int 0), (0, .ref (mw_a E 63)), (1, .ref (mw_a E (s)))]) C.1 C.2.1 dX4_onlyEatersOf_1 rfl hl (by decide) rfl (fun ls hl => ?_)
  refine lv_iconst (v := 0) C.1 C.2.1 dX4_onlyEatersOf_2 (by decide) ?_
  refine lv_istore_n (lv' := [(3, .int 0), (2, .int 0), (0, .ref (mw_a E 63)), (1, .ref (mw_a E (s)))]) C.1 C.2.1 dX4_onlyEatersOf_3 rfl hl (by decide) rfl (fun ls hl => ?_)
  have lpa : ∀ (N : Nat) (j : Nat) (x : Int32) (ςa : mw_M) (H : Heap) (locs : List Loc), n + 1 ≤ j + N → (j ≤ n) → (x = orP (bd3 z (σ.1 s) (cuX σ s)) j) → xFs σ ςa → va_P (mw_D E) vwCl (mw_ws shX 75 E ςa) H → va_S (mw_A 75 E) s_.heap H locs → ∀ (ls : Array Slot), lv_has ls 5 [(0, .ref (mw_a E 63)), (1, .ref (mw_a E (s))), (2, .int x), (3, .int (nI j))] → xWi p_ l e_ (rmF 6 177) s_ m_ [.ref (mw_a E 63), .ref (mw_a E (s))] below meth c_ E (fun r u => r = orP (bd3 z (σ.1 s) (cuX σ s)) n ∧ xFs σ u) H locs (F0 m_ 4 ls []) := by
    intro N
    induction N with
    | zero => intros; exfalso; omega
    | succ N iha =>
      intro j x ςa H locs hNa hj ex fra hP hS ls hl
      refine lv_iload_n C.1 C.2.1 dX4_onlyEatersOf_4 rfl (lv_at hl 3 rfl) ?_
      refine lv_aload_n C.1 C.2.1 dX4_onlyEatersOf_5 rfl (lv_at hl 1 rfl) ?_
      refine mw_geti C Z hP (s) 6 (by omega) (sx_st (by omega)) rfl rfl (by decide) inX6 tw_1_94 dX4_onlyEatersOf_6 ?_
      refine mw_top (y := nI n) ((congrFun (congrFun fra.1 _) _).trans hn) ?_
      refine lv_icmp_ge (tgt := 58) C.1 C.2.1 dX4_onlyEatersOf_9 (by decide) (fun c1 => ?_) (fun c1 => ?_)
      · have c1 := (nI_leI (by omega) (by omega)).mp c1
        refine lv_iload_n C.1 C.2.1 dX4_onlyEatersOf_58 rfl (lv_at hl 2 rfl) ?_
        exact mw_iret C hr hlk Z hP hS dX4_onlyEatersOf_59 (⟨by rw [ex, show j = n by omega], fra⟩)
      · have c1 : _ := (not_congr (nI_leI (by omega) (by omega))).mp c1
        refine lv_iload_n C.1 C.2.1 dX4_onlyEatersOf_12 rfl (lv_at hl 3 rfl) ?_
        refine lv_bipush (v := 8) C.1 C.2.1 dX4_onlyEatersOf_13 (by decide) ?_
        refine lv_icmp_ge (tgt := 58) C.1 C.2.1 dX4_onlyEatersOf_15 (by decide) (fun c2 => ?_) (fun c2 => ?_)
        · exact absurd ((nI_leI (a := 8) (by decide) (by omega)).mp c2) (by omega)
        · refine lv_aload_n C.1 C.2.1 dX4_onlyEatersOf_18 rfl (lv_at hl 1 rfl) ?_
          refine mw_getr C Z hP (s) 7 (3 + s) (by omega) (sx_st (by omega)) rfl rfl (by decide) inX6 tw_1_97 dX4_onlyEatersOf_19 ?_
          refine lv_iload_n C.1 C.2.1 dX4_onlyEatersOf_22 rfl (lv_at hl 3 rfl) ?_
          refine mw_aald C Z hP (3 + s) (j) (by omega) (sx_ca (by omega)) (by decide) rfl (Nat.lt_of_lt_of_le (by decide : 8 < 961) (Nat.le_of_ble_eq_true rfl)) rfl (by omega) dX4_onlyEatersOf_23 ?_
          refine lv_astore (lv' := [(4, .ref (mw_a E (6 + 8 * s + j))), (0, .ref (mw_a E 63)), (1, .ref (mw_a E (s))), (2, .int x), (3, .int (nI j))]) C.1 C.2.1 dX4_onlyEatersOf_24 hl (by decide) rfl (fun ls hl => ?_)
          refine lv_aload_n C.1 C.2.1 dX4_onlyEatersOf_26 rfl (lv_at hl 1 rfl) ?_
          refine lv_aload_n C.1 C.2.1 dX4_onlyEatersOf_27 rfl (lv_at hl 2 rfl) ?_
          refine lv_aload C.1 C.2.1 dX4_onlyEatersOf_28 (lv_at hl 0 rfl) ?_
          refine mw_cVi (As := [.ref (mw_a E (s)), .ref (mw_a E (6 + 8 * s + j))]) (rest := []) C Z hP hS (63) (cX_eatenBy l E ςa (s) (by omega) (6 + 8 * s + j) (by omega) z (fra.ru hru)) vb_X4_eatenBy tw_3_129 ⟨rfl, rfl⟩ ⟨Nat.le_of_ble_eq_true rfl, Nat.le_of_ble_eq_true rfl⟩ (by decide) sx_63 rfl rfl rfl hl.1 rfl (Nat.le_of_ble_eq_true rfl) dX4_onlyEatersOf_30 ⟨Nat.zero_le _, Nat.zero_le _⟩ (fun r3 u4 H locs q5 hP hS => ?_)
          obtain ⟨e7, f6⟩ := q5
          rw [fra.1] at e7
          subst e7
          refine lv_if_le (tgt := 52) C.1 C.2.1 dX4_onlyEatersOf_33 (by decide) (fun c8 => ?_) (fun c8 => ?_)
          · refine lv_iinc (v := nI (j + 1)) (lv' := [(3, .int (nI (j + 1))), (4, .ref (mw_a E (6 + 8 * s + j))), (0, .ref (mw_a E 63)), (1, .ref (mw_a E (s))), (2, .int x)]) C.1 C.2.1 dX4_onlyEatersOf_52 hl (k := 4) rfl (nI_1 _) (by decide) rfl (fun ls hl => ?_)
            refine lv_goto (tgt := 4) C.1 C.2.1 dX4_onlyEatersOf_55 (by decide) ?_
            exact iha (j + 1) x u4 _ _ (by omega) (by omega) (by rw [ex]; exact orP_0 ((bd3_eq z _ _ j).trans (if_neg (fun q => Int32.not_lt.mpr c8 q.1)))) (fra.tr f6) hP hS ls (lv_sub hl [2, 3, 4, 0] rfl)
          · refine lv_aload_n C.1 C.2.1 dX4_onlyEatersOf_36 rfl (lv_at hl 1 rfl) ?_
            refine lv_aload_n C.1 C.2.1 dX4_onlyEatersOf_37 rfl (lv_at hl 2 rfl) ?_
            refine lv_aload C.1 C.2.1 dX4_onlyEatersOf_38 (lv_at hl 0 rfl) ?_
            refine mw_cVi (As := [.ref (mw_a E (s)), .ref (mw_a E (6 + 8 * s + j))]) (rest := []) C Z hP hS (63) (cX_triesOf l E u4 (s) (by omega) (6 + 8 * s + j) (by omega) z ((fra.tr f6).ru hru)) vb_X4_triesOf tw_3_142 ⟨rfl, rfl⟩ ⟨Nat.le_of_ble_eq_true rfl, Nat.le_of_ble_eq_true rfl⟩ (by decide) sx_63 rfl rfl rfl hl.1 rfl (Nat.le_of_ble_eq_true rfl) dX4_onlyEatersOf_40 ⟨Nat.zero_le _, Nat.zero_le _⟩ (fun r9 u10 H locs q11 hP hS => ?_)
            obtain ⟨e13, f12⟩ := q11
            rw [(fra.tr f6).1] at e13
            subst e13
            refine lv_if_ne (tgt := 52) C.1 C.2.1 dX4_onlyEatersOf_43 (by decide) (fun c14 => ?_) (fun c14 => ?_)
            · refine lv_iinc (v := nI (j + 1)) (lv' := [(3, .int (nI (j + 1))), (4, .ref (mw_a E (6 + 8 * s + j))), (0, .ref (mw_a E 63)), (1, .ref (mw_a E (s))), (2, .int x)]) C.1 C.2.1 dX4_onlyEatersOf_52 hl (k := 4) rfl (nI_1 _) (by decide) rfl (fun ls hl => ?_)
              refine lv_goto (tgt := 4) C.1 C.2.1 dX4_onlyEatersOf_55 (by decide) ?_
              exact iha (j + 1) x u10 _ _ (by omega) (by omega) (by rw [ex]; exact orP_0 ((bd3_eq z _ _ j).trans (if_neg (fun q => c14 q.2)))) ((fra.tr f6).tr f12) hP hS ls (lv_sub hl [2, 3, 4, 0] rfl)
            · refine lv_iload_n C.1 C.2.1 dX4_onlyEatersOf_46 rfl (lv_at hl 3 rfl) ?_
              refine lv_iconst (v := 1) C.1 C.2.1 dX4_onlyEatersOf_47 (by decide) ?_
              refine lv_iload_n C.1 C.2.1 dX4_onlyEatersOf_48 rfl (lv_at hl 4 rfl) ?_
              refine lv_ishl C.1 C.2.1 dX4_onlyEatersOf_49 ?_
              refine lv_ior C.1 C.2.1 dX4_onlyEatersOf_50 ?_
              refine lv_istore_n (lv' := [(2, .int (x ||| (1 <<< ((nI j) &&& 31)))), (4, .ref (mw_a E (6 + 8 * s + j))), (0, .ref (mw_a E 63)), (1, .ref (mw_a E (s))), (3, .int (nI j))]) C.1 C.2.1 dX4_onlyEatersOf_51 rfl hl (by decide) rfl (fun ls hl => ?_)
              refine lv_iinc (v := nI (j + 1)) (lv' := [(3, .int (nI (j + 1))), (2, .int (x ||| (1 <<< ((nI j) &&& 31)))), (4, .ref (mw_a E (6 + 8 * s + j))), (0, .ref (mw_a E 63)), (1, .ref (mw_a E (s)))]) C.1 C.2.1 dX4_onlyEatersOf_52 hl (k := 4) rfl (nI_1 _) (by decide) rfl (fun ls hl => ?_)
              refine lv_goto (tgt := 4) C.1 C.2.1 dX4_onlyEatersOf_55 (by decide) ?_
              exact iha (j + 1) (x ||| (1 <<< ((nI j) &&& 31))) u10 _ _ (by omega) (by omega) (by rw [ex]; exact orP_s ((bd3_eq z _ _ j).trans (if_pos ⟨Int32.not_le.mp c8, c14⟩))) ((fra.tr f6).tr f12) hP hS ls (lv_sub hl [3, 4, 1, 0] rfl)
  exact lpa (n + 1) 0 0 σ _ _ (by omega) (by omega) (rfl) (xFs.rf σ) hP hS ls (lv_sub hl [2, 3, 1, 0] rfl)
