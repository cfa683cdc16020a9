/-! THE CLASS: BOARD, HOURS, WHAT IS BEST -/
def xHr (cu : Nat → Nat → Int32) (n : Nat) : Prop := ∀ p, p < n → ∃ h : Nat, h ≤ 9 ∧ cu p 2 = nI h
theorem among_all {st : Nat → Int32} {cu : Nat → Nat → Int32} {n : Nat} (hh : xHr cu n) : orP (amongF st cu 1023) n = orP (bd5 st cu) n := by
  refine orP_cg (fun p hp => ?_)
  obtain ⟨h, h9, e⟩ := hh p hp
  unfold amongF bd5
  have : ((1023 : Int32) >>> (cu p 2 &&& 31)) &&& 1 = 1 := by
    rw [e]
    exact (by decide : ∀ h : Fin 10, ((1023 : Int32) >>> (nI h.val &&& 31)) &&& 1 = 1) ⟨h, by omega⟩
  by_cases y : thereP st (cu p)
  · rw [if_pos ⟨y, this⟩, if_pos y]
  · rw [if_neg (fun q => y q.1), if_neg y]
theorem among_one {st : Nat → Int32} {cu : Nat → Nat → Int32} {n k : Nat} (hk : k ≤ 9) (hh : xHr cu n) : orP (amongF st cu (1 <<< (nI k &&& 31))) n = orP (hour1 st cu (nI k)) n := by
  refine orP_cg (fun p hp => ?_)
  obtain ⟨h, h9, e⟩ := hh p hp
  unfold amongF hour1
  have : ((1 : Int32) <<< (nI k &&& 31)) >>> (cu p 2 &&& 31) &&& 1 = 1 ↔ cu p 2 = nI k := by
    rw [e, nI_eq (by omega) (by omega)]
    exact (by decide : ∀ (k h : Fin 10), (((1 : Int32) <<< (nI k.val &&& 31)) >>> (nI h.val &&& 31) &&& 1 = 1 ↔ h.val = k.val)) ⟨k, by omega⟩ ⟨h, by omega⟩
  by_cases y : thereP st (cu p) ∧ cu p 2 = nI k
  · rw [if_pos ⟨y.1, this.mpr y.2⟩, bI_t y]
  · rw [if_neg (fun q => y ⟨q.1, this.mp q.2⟩), bI_f y, zero_shl]
def xBc (σ : mw_M) (B : Int32 × Int32) (u : mw_M) : Prop := xQs σ u ∧ (u.1 64 0, u.1 64 1) = B ∧ u.1 64 2 = 1
theorem xQs.sumG {σ u : mw_M} (h : xQs σ u) {n : Nat} (hn : n ≤ 8) (z : zP) : sumP (fun p => gainP z (u.1 0) (cuX u 0 p)) n = allGain z (σ.1 0) (cuX σ 0) n := by
  unfold allGain
  refine sumP_cg (fun p hp => ?_)
  rw [h.1 0 (by decide), h.cu (by omega)]
theorem xQs.eat {σ u : mw_M} (h : xQs σ u) {n : Nat} (hn : n ≤ 8) (z : zP) (hr : Int32) : sumP (fun p => if thereP (u.1 0) (cuX u 0 p) ∧ cuX u 0 p 2 = hr then eatsP z (u.1 0) (cuX u 0 p) else 0) n = eatenF z (σ.1 0) (cuX σ 0) n hr := by
  unfold eatenF
  refine sumP_cg (fun p hp => ?_)
  rw [h.1 0 (by decide), h.cu (by omega)]

set_option maxHeartbeats 4000000 in
set_option maxRecDepth 100000 in
theorem cX_crowd (l : Launch) (E : mw_E) (σ : mw_M) (n : Nat) (hn : σ.1 0 6 = nI n) (h8 : n ≤ 8) (z : zP) (hru : xRu σ 0 z) : mw_Ci shX 75 gX l yX11_crowdedHour cX11_crowdedHour 2 (some .int) (rmF 7 201) E [.ref (mw_a E 30)] σ (fun r u => r = crowdF z (σ.1 0) (cuX σ 0) n ∧ xQs σ u) := by
  refine mw_of (by decide) gX_ok (Nat.le_of_ble_eq_true rfl) ?_
  intro p_ e_ s_ m_ below meth c_ C hr hlk Z hP ls hl
  have C : CallFix p_ m_ c_ cX11_crowdedHour 2 s_ _ lw_good RX11 := C
  have hl : lv_has ls 2 [(0, .ref (mw_a E 30))] := hl
  have hS : va_S (mw_A 75 E) s_.heap s_.heap [] := va_S.rf
  refine lv_aload_n C.1 C.2.1 dX11_crowdedHour_0 rfl (lv_at hl 0 rfl) ?_
  refine mw_getr C Z hP (30) 8 (64) (by decide) sx_30 rfl rfl (by decide) inX11 tw_3_7 dX11_crowdedHour_1 ?_
  refine lv_iconst (v := -1) C.1 C.2.1 dX11_crowdedHour_4 (by decide) ?_
  refine lv_iconst (v := 0) C.1 C.2.1 dX11_crowdedHour_5 (by decide) ?_
  refine mw_cVv (As := [.int (-1), .int 0]) (rest := []) C Z hP hS (64) (cX_beginWith l E σ (-1) 0) vb_X0_beginWith tw_3_180 ⟨rfl, rfl⟩ ⟨Nat.le_of_ble_eq_true rfl, Nat.le_of_ble_eq_true rfl⟩ (by decide) sx_64 rfl rfl rfl hl.1 rfl (Nat.le_of_ble_eq_true rfl) dX11_crowdedHour_6 ⟨Nat.zero_le _, Nat.zero_le _⟩ (fun u2 H locs q3 hP hS => ?_)
  subst q3
  refine lv_iconst (v := 0) C.1 C.2.1 dX11_crowdedHour_9 (by decide) ?_
  refine lv_istore_n (lv' := [(1, .int 0), (0, .ref (mw_a E 30))]) C.1 C.2.1 dX11_crowdedHour_10 rfl hl (by decide) rfl (fun ls hl => ?_)
  have lpa : ∀ (N : Nat) (j : Nat) (ςa : mw_M) (H : Heap) (locs : List Loc), 10 + 1 ≤ j + N → (j ≤ 10) → xBc σ (csF (-1, 0) nI (fun h => eatenF z (σ.1 0) (cuX σ 0) n (nI h)) j) ςa → va_P (mw_D E) vwCl (mw_ws shX 75 E ςa) H → va_S (mw_A 75 E) s_.heap H locs → ∀ (ls : Array Slot), lv_has ls 2 [(0, .ref (mw_a E 30)), (1, .int (nI j))] → xWi p_ l e_ (rmF 7 201) s_ m_ [.ref (mw_a E 30)] below meth c_ E (fun r u => r = crowdF z (σ.1 0) (cuX σ 0) n ∧ xQs σ u) H locs (F0 m_ 11 ls []) := by
    intro N
    induction N with
    | zero => intros; exfalso; omega
    | succ N iha =>
      intro j ςa H locs hNa hj fra hP hS ls hl
      refine lv_iload_n C.1 C.2.1 dX11_crowdedHour_11 rfl (lv_at hl 1 rfl) ?_
      refine lv_bipush (v := 10) C.1 C.2.1 dX11_crowdedHour_12 (by decide) ?_
      refine lv_icmp_ge (tgt := 43) C.1 C.2.1 dX11_crowdedHour_14 (by decide) (fun c4 => ?_) (fun c4 => ?_)
      · have c4 := (nI_leI (a := 10) (by decide) (by omega)).mp c4
        refine lv_aload_n C.1 C.2.1 dX11_crowdedHour_43 rfl (lv_at hl 0 rfl) ?_
        refine mw_getr C Z hP (30) 8 (64) (by decide) sx_30 rfl rfl (by decide) inX11 tw_3_7 dX11_crowdedHour_44 ?_
        refine mw_geti C Z hP (64) 0 (by decide) sx_64 rfl rfl (by decide) inX0 tw_1_216 dX11_crowdedHour_47 ?_
        exact mw_iret C hr hlk Z hP hS dX11_crowdedHour_50 (⟨by have e := fra.2.1; rw [show j = 10 by omega] at e; unfold crowdF; rw [← e], fra.1⟩)
      · have c4 := (not_congr (nI_leI (a := 10) (by decide) (by omega))).mp c4
        refine lv_aload_n C.1 C.2.1 dX11_crowdedHour_17 rfl (lv_at hl 0 rfl) ?_
        refine mw_getr C Z hP (30) 8 (64) (by decide) sx_30 rfl rfl (by decide) inX11 tw_3_7 dX11_crowdedHour_18 ?_
        refine lv_iload_n C.1 C.2.1 dX11_crowdedHour_21 rfl (lv_at hl 1 rfl) ?_
        refine lv_aload_n C.1 C.2.1 dX11_crowdedHour_22 rfl (lv_at hl 0 rfl) ?_
        refine mw_getr C Z hP (30) 7 (63) (by decide) sx_30 rfl rfl (by decide) inX11 tw_3_6 dX11_crowdedHour_23 ?_
        refine lv_aload_n C.1 C.2.1 dX11_crowdedHour_26 rfl (lv_at hl 0 rfl) ?_
        refine mw_getr C Z hP (30) 0 (0) (by decide) sx_30 rfl rfl (by decide) inX11 tw_2_239 dX11_crowdedHour_27 ?_
        refine lv_iload_n C.1 C.2.1 dX11_crowdedHour_30 rfl (lv_at hl 1 rfl) ?_
        refine mw_cVi (As := [.ref (mw_a E 0), .int (nI j)]) (rest := [.int (nI j), .ref (mw_a E 64)]) C Z hP hS (63) (cX_eatenIn0 l E ςa 0 (by decide) n ((congrFun (fra.1.1 0 (by decide)) _).trans hn) h8 z (fra.1.ru (by decide) hru) (nI j)) vb_X4_eatenIn tw_3_184 ⟨rfl, rfl⟩ ⟨Nat.le_of_ble_eq_true rfl, Nat.le_of_ble_eq_true rfl⟩ (by decide) sx_63 rfl rfl rfl hl.1 rfl (Nat.le_of_ble_eq_true rfl) dX11_crowdedHour_31 ⟨Nat.zero_le _, Nat.zero_le _⟩ (fun r5 u6 H locs q7 hP hS => ?_)
        obtain ⟨e9, f8⟩ := q7
        rw [fra.1.eat h8 z (nI j)] at e9
        subst e9
        refine mw_cVv (As := [.int (nI j), .int (eatenF z (σ.1 0) (cuX σ 0) n (nI j))]) (rest := []) C Z hP hS (64) (cX_offer l E u6 (nI j) (eatenF z (σ.1 0) (cuX σ 0) n (nI j))) vb_X0_offer tw_3_188 ⟨rfl, rfl⟩ ⟨Nat.le_of_ble_eq_true rfl, Nat.le_of_ble_eq_true rfl⟩ (by decide) sx_64 rfl rfl rfl hl.1 rfl (Nat.le_of_ble_eq_true rfl) dX11_crowdedHour_34 ⟨Nat.zero_le _, Nat.zero_le _⟩ (fun u11 H locs q12 hP hS => ?_)
        subst q12
        refine lv_iinc (v := nI (j + 1)) (lv' := [(1, .int (nI (j + 1))), (0, .ref (mw_a E 30))]) C.1 C.2.1 dX11_crowdedHour_37 hl (k := 1) rfl (nI_1 _) (by decide) rfl (fun ls hl => ?_)
        refine lv_goto (tgt := 11) C.1 C.2.1 dX11_crowdedHour_40 (by decide) ?_
        exact iha (j + 1) (ofM u6 (nI j) (eatenF z (σ.1 0) (cuX σ 0) n (nI j))) _ _ (by omega) (by omega) ⟨((fra.1.fs f8).of _ _), of_C _ _ (by rw [f8.1]; exact fra.2.2) (by rw [f8.1]; exact fra.2.1)⟩ hP hS ls (lv_sub hl [1, 0] rfl)
  exact lpa (11) 0 (bwM σ (-1) 0) _ _ (by omega) (by omega) ⟨((xQs.rf σ).bw _ _), rfl, rfl⟩ hP hS ls (lv_sub hl [1, 0] rfl)

set_option maxHeartbeats 4000000 in
set_option maxRecDepth 100000 in
theorem cX_board (l : Launch) (E : mw_E) (σ : mw_M) (n : Nat) (hn : σ.1 0 6 = nI n) (h8 : n ≤ 8) (z : zP) (hru : xRu σ 0 z) (hh : xHr (cuX σ 0) n) (w : Int32) : mw_Ci shX 75 gX l yX11_board cX11_board 2 (some .int) (rmF 8 222) E [.ref (mw_a E 30), .int w] σ (fun r u => r = boardF z (σ.1 0) (cuX σ 0) n w ∧ xQs σ u) := by
  refine mw_of (by decide) gX_ok (Nat.le_of_ble_eq_true rfl) ?_
  intro p_ e_ s_ m_ below meth c_ C hr hlk Z hP ls hl
  have C : CallFix p_ m_ c_ cX11_board 2 s_ _ lw_good RX11 := C
  have hl : lv_has ls 2 [(0, .ref (mw_a E 30)), (1, .int w)] := hl
  have hS : va_S (mw_A 75 E) s_.heap s_.heap [] := va_S.rf
  refine lv_iload_n C.1 C.2.1 dX11_board_0 rfl (lv_at hl 1 rfl) ?_
  by_cases c1 : w = 0
  · refine lv_tableIn (off := 39) (tgt := 40) C.1 C.2.1 dX11_board_1 (by rw [c1]; decide) (by rw [c1]; decide) (by rw [c1]; decide) (by decide) ?_
    refine lv_aload_n C.1 C.2.1 dX11_board_40 rfl (lv_at hl 0 rfl) ?_
    refine mw_getr C Z hP (30) 7 (63) (by decide) sx_30 rfl rfl (by decide) inX11 tw_3_6 dX11_board_41 ?_
    refine lv_aload_n C.1 C.2.1 dX11_board_44 rfl (lv_at hl 0 rfl) ?_
    refine mw_getr C Z hP (30) 0 (0) (by decide) sx_30 rfl rfl (by decide) inX11 tw_2_239 dX11_board_45 ?_
    refine mw_cVi (As := [.ref (mw_a E 0)]) (rest := []) C Z hP hS (63) (cX_allGain0 l E σ 0 (by decide) n hn h8 z hru) vb_X4_allGainOf tw_3_158 ⟨rfl, rfl⟩ ⟨Nat.le_of_ble_eq_true rfl, Nat.le_of_ble_eq_true rfl⟩ (by decide) sx_63 rfl rfl rfl hl.1 rfl (Nat.le_of_ble_eq_true rfl) dX11_board_48 ⟨Nat.zero_le _, Nat.zero_le _⟩ (fun r2 u3 H locs q4 hP hS => ?_)
    obtain ⟨e6, f5⟩ := q4
    rw [(xQs.rf σ).sumG h8 z] at e6
    subst e6
    exact mw_iret C hr hlk Z hP hS dX11_board_51 (⟨by rw [c1]; rfl, ((xQs.rf σ).fs f5)⟩)
  by_cases c7 : w = 1
  · refine lv_tableIn (off := 51) (tgt := 52) C.1 C.2.1 dX11_board_1 (by rw [c7]; decide) (by rw [c7]; decide) (by rw [c7]; decide) (by decide) ?_
    refine lv_aload_n C.1 C.2.1 dX11_board_52 rfl (lv_at hl 0 rfl) ?_
    refine mw_getr C Z hP (30) 7 (63) (by decide) sx_30 rfl rfl (by decide) inX11 tw_3_6 dX11_board_53 ?_
    refine lv_aload_n C.1 C.2.1 dX11_board_56 rfl (lv_at hl 0 rfl) ?_
    refine mw_getr C Z hP (30) 0 (0) (by decide) sx_30 rfl rfl (by decide) inX11 tw_2_239 dX11_board_57 ?_
    refine mw_cVi (As := [.ref (mw_a E 0)]) (rest := []) C Z hP hS (63) (cX_allEaten l E σ 0 (by decide) n hn h8 z hru) vb_X4_allEatenOf tw_3_163 ⟨rfl, rfl⟩ ⟨Nat.le_of_ble_eq_true rfl, Nat.le_of_ble_eq_true rfl⟩ (by decide) sx_63 rfl rfl rfl hl.1 rfl (Nat.le_of_ble_eq_true rfl) dX11_board_60 ⟨Nat.zero_le _, Nat.zero_le _⟩ (fun r8 u9 H locs q10 hP hS => ?_)
    obtain ⟨e12, f11⟩ := q10
    subst e12
    exact mw_iret C hr hlk Z hP hS dX11_board_63 (⟨by rw [c7]; rfl, ((xQs.rf σ).fs f11)⟩)
  by_cases c13 : w = 2
  · refine lv_tableIn (off := 63) (tgt := 64) C.1 C.2.1 dX11_board_1 (by rw [c13]; decide) (by rw [c13]; decide) (by rw [c13]; decide) (by decide) ?_
    refine lv_aload_n C.1 C.2.1 dX11_board_64 rfl (lv_at hl 0 rfl) ?_
    refine mw_getr C Z hP (30) 7 (63) (by decide) sx_30 rfl rfl (by decide) inX11 tw_3_6 dX11_board_65 ?_
    refine lv_aload_n C.1 C.2.1 dX11_board_68 rfl (lv_at hl 0 rfl) ?_
    refine mw_getr C Z hP (30) 0 (0) (by decide) sx_30 rfl rfl (by decide) inX11 tw_2_239 dX11_board_69 ?_
    refine mw_cVi (As := [.ref (mw_a E 0)]) (rest := []) C Z hP hS (63) (cX_allCost l E σ 0 (by decide) n hn h8 z hru) vb_X4_allCostOf tw_3_167 ⟨rfl, rfl⟩ ⟨Nat.le_of_ble_eq_true rfl, Nat.le_of_ble_eq_true rfl⟩ (by decide) sx_63 rfl rfl rfl hl.1 rfl (Nat.le_of_ble_eq_true rfl) dX11_board_72 ⟨Nat.zero_le _, Nat.zero_le _⟩ (fun r14 u15 H locs q16 hP hS => ?_)
    obtain ⟨e18, f17⟩ := q16
    subst e18
    exact mw_iret C hr hlk Z hP hS dX11_board_75 (⟨by rw [c13]; rfl, ((xQs.rf σ).fs f17)⟩)
  by_cases c19 : w = 3
  · refine lv_tableIn (off := 75) (tgt := 76) C.1 C.2.1 dX11_board_1 (by rw [c19]; decide) (by rw [c19]; decide) (by rw [c19]; decide) (by decide) ?_
    refine lv_aload_n C.1 C.2.1 dX11_board_76 rfl (lv_at hl 0 rfl) ?_
    refine mw_getr C Z hP (30) 7 (63) (by decide) sx_30 rfl rfl (by decide) inX11 tw_3_6 dX11_board_77 ?_
    refine lv_aload_n C.1 C.2.1 dX11_board_80 rfl (lv_at hl 0 rfl) ?_
    refine mw_getr C Z hP (30) 0 (0) (by decide) sx_30 rfl rfl (by decide) inX11 tw_2_239 dX11_board_81 ?_
    refine mw_cVi (As := [.ref (mw_a E 0)]) (rest := []) C Z hP hS (63) (cX_onlyEaters l E σ 0 (by decide) n hn h8 z hru) vb_X4_onlyEatersOf tw_3_172 ⟨rfl, rfl⟩ ⟨Nat.le_of_ble_eq_true rfl, Nat.le_of_ble_eq_true rfl⟩ (by decide) sx_63 rfl rfl rfl hl.1 rfl (Nat.le_of_ble_eq_true rfl) dX11_board_84 ⟨Nat.zero_le _, Nat.zero_le _⟩ (fun r20 u21 H locs q22 hP hS => ?_)
    obtain ⟨e24, f23⟩ := q22
    subst e24
    exact mw_iret C hr hlk Z hP hS dX11_board_87 (⟨by rw [c19]; rfl, ((xQs.rf σ).fs f23)⟩)
  by_cases c25 : w = 4
  · refine lv_tableIn (off := 87) (tgt := 88) C.1 C.2.1 dX11_board_1 (by rw [c25]; decide) (by rw [c25]; decide) (by rw [c25]; decide) (by decide) ?_
    refine lv_aload_n C.1 C.2.1 dX11_board_88 rfl (lv_at hl 0 rfl) ?_
    refine mw_cVi (As := []) (rest := []) C Z hP hS (30) (cX_crowd l E σ n hn h8 z hru) vb_X11_crowdedHour tw_3_176 ⟨rfl, rfl⟩ ⟨Nat.le_of_ble_eq_true rfl, Nat.le_of_ble_eq_true rfl⟩ (by decide) sx_30 rfl rfl rfl hl.1 rfl (Nat.le_of_ble_eq_true rfl) dX11_board_89 ⟨Nat.zero_le _, Nat.zero_le _⟩ (fun r26 u27 H locs q28 hP hS => ?_)
    obtain ⟨e30, f29⟩ := q28
    subst e30
    exact mw_iret C hr hlk Z hP hS dX11_board_92 (⟨by rw [c25]; rfl, f29⟩)
  by_cases c31 : w = 5
  · refine lv_tableIn (off := 92) (tgt := 93) C.1 C.2.1 dX11_board_1 (by rw [c31]; decide) (by rw [c31]; decide) (by rw [c31]; decide) (by decide) ?_
    refine lv_aload_n C.1 C.2.1 dX11_board_93 rfl (lv_at hl 0 rfl) ?_
    refine mw_getr C Z hP (30) 0 (0) (by decide) sx_30 rfl rfl (by decide) inX11 tw_2_239 dX11_board_94 ?_
    refine lv_sipush (v := 1023) C.1 C.2.1 dX11_board_97 (by decide) ?_
    refine mw_cVi (As := [.int 1023]) (rest := []) C Z hP hS (0) (cX_among l E σ 0 (by decide) n hn h8 (1023 : Int32)) vb_X6_thereAmong tw_3_193 ⟨rfl, rfl⟩ ⟨Nat.le_of_ble_eq_true rfl, Nat.le_of_ble_eq_true rfl⟩ (by decide) sx_0 rfl rfl rfl hl.1 rfl (Nat.le_of_ble_eq_true rfl) dX11_board_100 ⟨Nat.zero_le _, Nat.zero_le _⟩ (fun r32 u33 H locs q34 hP hS => ?_)
    obtain ⟨rfl, q34u⟩ := q34
    rw [q34u] at hP; clear q34u
    exact mw_iret C hr hlk Z hP hS dX11_board_103 (⟨by rw [c31]; exact among_all hh, (xQs.rf σ)⟩)
  refine lv_tableOut (tgt := 104) C.1 C.2.1 dX11_board_1 (by have z0 := (not_congr (ni_eq _ _)).mp c1; have y0 : (0 : Int32).toInt = 0 := rfl; have z1 := (not_congr (ni_eq _ _)).mp c7; have y1 : (1 : Int32).toInt = 1 := rfl; have z2 := (not_congr (ni_eq _ _)).mp c13; have y2 : (2 : Int32).toInt = 2 := rfl; have z3 := (not_congr (ni_eq _ _)).mp c19; have y3 : (3 : Int32).toInt = 3 := rfl; have z4 := (not_congr (ni_eq _ _)).mp c25; have y4 : (4 : Int32).toInt = 4 := rfl; have z5 := (not_congr (ni_eq _ _)).mp c31; have y5 : (5 : Int32).toInt = 5 := rfl; omega) (by decide) ?_
  refine lv_ldc (own := RX11) C.1 C.2.1 C.2.2.2.1 (C.2.2.2.2 _ tw_3_80) dX11_board_104 ?_
  exact mw_iret C hr hlk Z hP hS dX11_board_106 (⟨by unfold boardF; rw [if_pos (fun y => by simp only [ni_lt, ni_le, ni_eq] at c1 c7 c13 c19 c25 c31; have q0 : (0 : Int32).toInt = 0 := rfl; have q1 : (1 : Int32).toInt = 1 := rfl; have q2 : (2 : Int32).toInt = 2 := rfl; have q3 : (3 : Int32).toInt = 3 := rfl; have q4 : (4 : Int32).toInt = 4 := rfl; have q5 : (5 : Int32).toInt = 5 := rfl; omega)], (xQs.rf σ)⟩)

set_option maxHeartbeats 4000000 in
set_option maxRecDepth 100000 in
theorem cX_hour (l : Launch) (E : mw_E) (σ : mw_M) (n : Nat) (hn : σ.1 0 6 = nI n) (h8 : n ≤ 8) (z : zP) (hru : xRu σ 0 z) (hh : xHr (cuX σ 0) n) (hr1 w : Int32) : mw_Ci shX 75 gX l yX11_hour cX11_hour 3 (some .int) (rmF 7 201) E [.ref (mw_a E 30), .int hr1, .int w] σ (fun r u => r = hourF z (σ.1 0) (cuX σ 0) n hr1 w ∧ xQs σ u) := by
  refine mw_of (by decide) gX_ok (Nat.le_of_ble_eq_true rfl) ?_
  intro p_ e_ s_ m_ below meth c_ C hr hlk Z hP ls hl
  have C : CallFix p_ m_ c_ cX11_hour 3 s_ _ lw_good RX11 := C
  have hl : lv_has ls 3 [(0, .ref (mw_a E 30)), (1, .int hr1), (2, .int w)] := hl
  have hS : va_S (mw_A 75 E) s_.heap s_.heap [] := va_S.rf
  refine lv_iload_n C.1 C.2.1 dX11_hour_0 rfl (lv_at hl 1 rfl) ?_
  refine mw_cSi (As := [.int hr1]) (rest := []) C Z hP hS (cX_isHour l E σ hr1) sb_X11_isHour tw_3_69 ⟨rfl, rfl⟩ ⟨Nat.le_of_ble_eq_true rfl, Nat.le_of_ble_eq_true rfl⟩ rfl hl.1 rfl (Nat.le_of_ble_eq_true rfl) dX11_hour_1 ⟨Nat.zero_le _, Nat.zero_le _⟩ (fun r1 u2 H locs q3 hP hS => ?_)
  obtain ⟨rfl, q3u⟩ := q3
  rw [q3u] at hP; clear q3u
  refine lv_if_eq (tgt := 14) C.1 C.2.1 dX11_hour_4 (by decide) (fun c4 => ?_) (fun c4 => ?_)
  · have c4 := bI_0.mp c4
    refine lv_bipush (v := -2) C.1 C.2.1 dX11_hour_14 (by decide) ?_
    exact mw_iret C hr hlk Z hP hS dX11_hour_16 (⟨by unfold hourF; rw [if_pos (Or.inl c4)], (xQs.rf σ)⟩)
  · have c4 := bI_n.mp c4
    refine lv_iload_n C.1 C.2.1 dX11_hour_7 rfl (lv_at hl 2 rfl) ?_
    refine mw_cSi (As := [.int w]) (rest := []) C Z hP hS (cX_is01 l E σ w) sb_X11_isZeroOrOne tw_3_202 ⟨rfl, rfl⟩ ⟨Nat.le_of_ble_eq_true rfl, Nat.le_of_ble_eq_true rfl⟩ rfl hl.1 rfl (Nat.le_of_ble_eq_true rfl) dX11_hour_8 ⟨Nat.zero_le _, Nat.zero_le _⟩ (fun r5 u6 H locs q7 hP hS => ?_)
    obtain ⟨rfl, q7u⟩ := q7
    rw [q7u] at hP; clear q7u
    refine lv_if_ne (tgt := 17) C.1 C.2.1 dX11_hour_11 (by decide) (fun c8 => ?_) (fun c8 => ?_)
    · have c8 := bI_n.mp c8
      refine lv_iload_n C.1 C.2.1 dX11_hour_17 rfl (lv_at hl 2 rfl) ?_
      refine lv_if_ne (tgt := 36) C.1 C.2.1 dX11_hour_18 (by decide) (fun c9 => ?_) (fun c9 => ?_)
      · refine lv_aload_n C.1 C.2.1 dX11_hour_36 rfl (lv_at hl 0 rfl) ?_
        refine mw_getr C Z hP (30) 0 (0) (by decide) sx_30 rfl rfl (by decide) inX11 tw_2_239 dX11_hour_37 ?_
        refine lv_iconst (v := 1) C.1 C.2.1 dX11_hour_40 (by decide) ?_
        refine lv_iload_n C.1 C.2.1 dX11_hour_41 rfl (lv_at hl 1 rfl) ?_
        refine lv_ishl C.1 C.2.1 dX11_hour_42 ?_
        refine mw_cVi (As := [.int (1 <<< (hr1 &&& 31))]) (rest := []) C Z hP hS (0) (cX_among l E σ 0 (by decide) n hn h8 (1 <<< (hr1 &&& 31))) vb_X6_thereAmong tw_3_193 ⟨rfl, rfl⟩ ⟨Nat.le_of_ble_eq_true rfl, Nat.le_of_ble_eq_true rfl⟩ (by decide) sx_0 rfl rfl rfl hl.1 rfl (Nat.le_of_ble_eq_true rfl) dX11_hour_43 ⟨Nat.zero_le _, Nat.zero_le _⟩ (fun r10 u11 H locs q12 hP hS => ?_)
        obtain ⟨rfl, q12u⟩ := q12
        rw [q12u] at hP; clear q12u
        obtain ⟨k, hk9, ek⟩ := nI_ofI (k := 9) c4.1 c4.2
        exact mw_iret C hr hlk Z hP hS dX11_hour_46 (⟨by unfold hourF; rw [if_neg (fun y => y.elim (fun y => y c4) (fun y => y c8)), if_neg c9, ek]; exact among_one hk9 hh, (xQs.rf σ)⟩)
      · refine lv_aload_n C.1 C.2.1 dX11_hour_21 rfl (lv_at hl 0 rfl) ?_
        refine mw_getr C Z hP (30) 7 (63) (by decide) sx_30 rfl rfl (by decide) inX11 tw_3_6 dX11_hour_22 ?_
        refine lv_aload_n C.1 C.2.1 dX11_hour_25 rfl (lv_at hl 0 rfl) ?_
        refine mw_getr C Z hP (30) 0 (0) (by decide) sx_30 rfl rfl (by decide) inX11 tw_2_239 dX11_hour_26 ?_
        refine lv_iload_n C.1 C.2.1 dX11_hour_29 rfl (lv_at hl 1 rfl) ?_
        refine mw_cVi (As := [.ref (mw_a E 0), .int hr1]) (rest := []) C Z hP hS (63) (cX_eatenIn0 l E σ 0 (by decide) n hn h8 z hru hr1) vb_X4_eatenIn tw_3_184 ⟨rfl, rfl⟩ ⟨Nat.le_of_ble_eq_true rfl, Nat.le_of_ble_eq_true rfl⟩ (by decide) sx_63 rfl rfl rfl hl.1 rfl (Nat.le_of_ble_eq_true rfl) dX11_hour_30 ⟨Nat.zero_le _, Nat.zero_le _⟩ (fun r13 u14 H locs q15 hP hS => ?_)
        obtain ⟨e17, f16⟩ := q15
        rw [(xQs.rf σ).eat h8 z hr1] at e17
        subst e17
        refine lv_goto (tgt := 46) C.1 C.2.1 dX11_hour_33 (by decide) ?_
        exact mw_iret C hr hlk Z hP hS dX11_hour_46 (⟨by unfold hourF; rw [if_neg (fun y => y.elim (fun y => y c4) (fun y => y c8)), if_pos c9], ((xQs.rf σ).fs f16)⟩)
    · have c8 := bI_0.mp c8
      refine lv_bipush (v := -2) C.1 C.2.1 dX11_hour_14 (by decide) ?_
      exact mw_iret C hr hlk Z hP hS dX11_hour_16 (⟨by unfold hourF; rw [if_pos (Or.inr c8)], (xQs.rf σ)⟩)

set_option maxHeartbeats 4000000 in
set_option maxRecDepth 100000 in
theorem cX_sendAway (l : Launch) (E : mw_E) (σ : mw_M) (n : Nat) (hn : σ.1 0 6 = nI n) (h8 : n ≤ 8) (z : zP) (hru : xRu σ 0 z) (w : Int32) : mw_Ci shX 75 gX l yX11_sendAway cX11_sendAway 4 (some .int) (rmF 7 202) E [.ref (mw_a E 30), .int w] σ (fun r u => r = sendF z (σ.1 0) (cuX σ 0) n w ∧ xQs σ u) := by
  refine mw_of (by decide) gX_ok (Nat.le_of_ble_eq_true rfl) ?_
  intro p_ e_ s_ m_ below meth c_ C hr hlk Z hP ls hl
  have C : CallFix p_ m_ c_ cX11_sendAway 4 s_ _ lw_good RX11 := C
  have hl : lv_has ls 4 [(0, .ref (mw_a E 30)), (1, .int w)] := hl
  have hS : va_S (mw_A 75 E) s_.heap s_.heap [] := va_S.rf
  refine lv_iload_n C.1 C.2.1 dX11_sendAway_0 rfl (lv_at hl 1 rfl) ?_
  refine mw_cSi (As := [.int w]) (rest := []) C Z hP hS (cX_is01 l E σ w) sb_X11_isZeroOrOne tw_3_202 ⟨rfl, rfl⟩ ⟨Nat.le_of_ble_eq_true rfl, Nat.le_of_ble_eq_true rfl⟩ rfl hl.1 rfl (Nat.le_of_ble_eq_true rfl) dX11_sendAway_1 ⟨Nat.zero_le _, Nat.zero_le _⟩ (fun r1 u2 H locs q3 hP hS => ?_)
  obtain ⟨rfl, q3u⟩ := q3
  rw [q3u] at hP; clear q3u
  refine lv_if_ne (tgt := 10) C.1 C.2.1 dX11_sendAway_4 (by decide) (fun c4 => ?_) (fun c4 => ?_)
  · have c4 := bI_n.mp c4
    have hrw := c4
    refine lv_aload_n C.1 C.2.1 dX11_sendAway_10 rfl (lv_at hl 0 rfl) ?_
    refine mw_getr C Z hP (30) 7 (63) (by decide) sx_30 rfl rfl (by decide) inX11 tw_3_6 dX11_sendAway_11 ?_
    refine lv_aload_n C.1 C.2.1 dX11_sendAway_14 rfl (lv_at hl 0 rfl) ?_
    refine mw_getr C Z hP (30) 0 (0) (by decide) sx_30 rfl rfl (by decide) inX11 tw_2_239 dX11_sendAway_15 ?_
    refine mw_cVi (As := [.ref (mw_a E 0)]) (rest := []) C Z hP hS (63) (cX_allGain0 l E σ 0 (by decide) n hn h8 z hru) vb_X4_allGainOf tw_3_158 ⟨rfl, rfl⟩ ⟨Nat.le_of_ble_eq_true rfl, Nat.le_of_ble_eq_true rfl⟩ (by decide) sx_63 rfl rfl rfl hl.1 rfl (Nat.le_of_ble_eq_true rfl) dX11_sendAway_18 ⟨Nat.zero_le _, Nat.zero_le _⟩ (fun r5 u6 H locs q7 hP hS => ?_)
    obtain ⟨e9, f8⟩ := q7
    rw [(xQs.rf σ).sumG h8 z] at e9
    subst e9
    refine lv_istore_n (lv' := [(2, .int (allGain z (σ.1 0) (cuX σ 0) n)), (0, .ref (mw_a E 30)), (1, .int w)]) C.1 C.2.1 dX11_sendAway_21 rfl hl (by decide) rfl (fun ls hl => ?_)
    refine lv_aload_n C.1 C.2.1 dX11_sendAway_22 rfl (lv_at hl 1 rfl) ?_
    refine mw_getr C Z hP (30) 8 (64) (by decide) sx_30 rfl rfl (by decide) inX11 tw_3_7 dX11_sendAway_23 ?_
    refine lv_iconst (v := -1) C.1 C.2.1 dX11_sendAway_26 (by decide) ?_
    refine lv_iload_n C.1 C.2.1 dX11_sendAway_27 rfl (lv_at hl 0 rfl) ?_
    refine mw_cVv (As := [.int (-1), .int (allGain z (σ.1 0) (cuX σ 0) n)]) (rest := []) C Z hP hS (64) (cX_beginWith l E u6 (-1) (allGain z (σ.1 0) (cuX σ 0) n)) vb_X0_beginWith tw_3_180 ⟨rfl, rfl⟩ ⟨Nat.le_of_ble_eq_true rfl, Nat.le_of_ble_eq_true rfl⟩ (by decide) sx_64 rfl rfl rfl hl.1 rfl (Nat.le_of_ble_eq_true rfl) dX11_sendAway_28 ⟨Nat.zero_le _, Nat.zero_le _⟩ (fun u11 H locs q12 hP hS => ?_)
    subst q12
    refine lv_iconst (v := 0) C.1 C.2.1 dX11_sendAway_31 (by decide) ?_
    refine lv_istore_n (lv' := [(3, .int 0), (2, .int (allGain z (σ.1 0) (cuX σ 0) n)), (0, .ref (mw_a E 30)), (1, .int w)]) C.1 C.2.1 dX11_sendAway_32 rfl hl (by decide) rfl (fun ls hl => ?_)
    have lpa : ∀ (N : Nat) (j : Nat) (ςa : mw_M) (H : Heap) (locs : List Loc), n + 1 ≤ j + N → (j ≤ n) → xBc σ (csF (-1, allGain z (σ.1 0) (cuX σ 0) n) nI (fun p => allGain z (σ.1 0) (cuX σ 0) n - gainP z (σ.1 0) (cuX σ 0 p)) j) ςa → va_P (mw_D E) vwCl (mw_ws shX 75 E ςa) H → va_S (mw_A 75 E) s_.heap H locs → ∀ (ls : Array Slot), lv_has ls 4 [(0, .ref (mw_a E 30)), (1, .int w), (2, .int (allGain z (σ.1 0) (cuX σ 0) n)), (3, .int (nI j))] → xWi p_ l e_ (rmF 7 202) s_ m_ [.ref (mw_a E 30), .int w] below meth c_ E (fun r u => r = sendF z (σ.1 0) (cuX σ 0) n w ∧ xQs σ u) H locs (F0 m_ 33 ls []) := by
      intro N
      induction N with
      | zero => intros; exfalso; omega
      | succ N iha =>
        intro j ςa H locs hNa hj fra hP hS ls hl
        refine lv_iload_n C.1 C.2.1 dX11_sendAway_33 rfl (lv_at hl 3 rfl) ?_
        refine lv_aload_n C.1 C.2.1 dX11_sendAway_34 rfl (lv_at hl 0 rfl) ?_
        refine mw_getr C Z hP (30) 0 (0) (by decide) sx_30 rfl rfl (by decide) inX11 tw_2_239 dX11_sendAway_35 ?_
        refine mw_geti C Z hP (0) 6 (by decide) sx_0 rfl rfl (by decide) inX6 tw_1_93 dX11_sendAway_38 ?_
        refine mw_top (y := nI n) ((congrFun (fra.1.1 0 (by decide)) _).trans hn) ?_
        refine lv_icmp_ge (tgt := 86) C.1 C.2.1 dX11_sendAway_41 (by decide) (fun c13 => ?_) (fun c13 => ?_)
        · have c13 := (nI_leI (by omega) (by omega)).mp c13
          refine lv_aload_n C.1 C.2.1 dX11_sendAway_86 rfl (lv_at hl 0 rfl) ?_
          refine mw_getr C Z hP (30) 8 (64) (by decide) sx_30 rfl rfl (by decide) inX11 tw_3_7 dX11_sendAway_87 ?_
          refine lv_iload_n C.1 C.2.1 dX11_sendAway_90 rfl (lv_at hl 1 rfl) ?_
          refine mw_cVi (As := [.int w]) (rest := []) C Z hP hS (64) (cX_answer l E ςa w) vb_X0_answer tw_4_18 ⟨rfl, rfl⟩ ⟨Nat.le_of_ble_eq_true rfl, Nat.le_of_ble_eq_true rfl⟩ (by decide) sx_64 rfl rfl rfl hl.1 rfl (Nat.le_of_ble_eq_true rfl) dX11_sendAway_91 ⟨Nat.zero_le _, Nat.zero_le _⟩ (fun r14 u15 H locs q16 hP hS => ?_)
          obtain ⟨rfl, q16u⟩ := q16
          rw [q16u] at hP; clear q16u
          exact mw_iret C hr hlk Z hP hS dX11_sendAway_94 (⟨by have e := fra.2.1; rw [show j = n by omega] at e; unfold sendF sendP; rw [if_neg (Decidable.not_not.mpr hrw), ← e], fra.1⟩)
        · have c13 : _ := (not_congr (nI_leI (by omega) (by omega))).mp c13
          refine lv_iload_n C.1 C.2.1 dX11_sendAway_44 rfl (lv_at hl 3 rfl) ?_
          refine lv_bipush (v := 8) C.1 C.2.1 dX11_sendAway_45 (by decide) ?_
          refine lv_icmp_ge (tgt := 86) C.1 C.2.1 dX11_sendAway_47 (by decide) (fun c17 => ?_) (fun c17 => ?_)
          · exact absurd ((nI_leI (a := 8) (by decide) (by omega)).mp c17) (by omega)
          · refine lv_aload_n C.1 C.2.1 dX11_sendAway_50 rfl (lv_at hl 0 rfl) ?_
            refine mw_getr C Z hP (30) 8 (64) (by decide) sx_30 rfl rfl (by decide) inX11 tw_3_7 dX11_sendAway_51 ?_
            refine lv_iload_n C.1 C.2.1 dX11_sendAway_54 rfl (lv_at hl 3 rfl) ?_
            refine lv_iload_n C.1 C.2.1 dX11_sendAway_55 rfl (lv_at hl 2 rfl) ?_
            refine lv_aload_n C.1 C.2.1 dX11_sendAway_56 rfl (lv_at hl 0 rfl) ?_
            refine mw_getr C Z hP (30) 7 (63) (by decide) sx_30 rfl rfl (by decide) inX11 tw_3_6 dX11_sendAway_57 ?_
            refine lv_aload_n C.1 C.2.1 dX11_sendAway_60 rfl (lv_at hl 0 rfl) ?_
            refine mw_getr C Z hP (30) 0 (0) (by decide) sx_30 rfl rfl (by decide) inX11 tw_2_239 dX11_sendAway_61 ?_
            refine lv_aload_n C.1 C.2.1 dX11_sendAway_64 rfl (lv_at hl 0 rfl) ?_
            refine mw_getr C Z hP (30) 0 (0) (by decide) sx_30 rfl rfl (by decide) inX11 tw_2_239 dX11_sendAway_65 ?_
            refine mw_getr C Z hP (0) 7 (3) (by decide) sx_0 rfl rfl (by decide) inX6 tw_1_96 dX11_sendAway_68 ?_
            refine lv_iload_n C.1 C.2.1 dX11_sendAway_71 rfl (lv_at hl 3 rfl) ?_
            refine mw_aald C Z hP (3) (j) (by decide) sx_3 (by decide) rfl (Nat.lt_of_lt_of_le (by decide : 8 < 961) (Nat.le_of_ble_eq_true rfl)) rfl (by omega) dX11_sendAway_72 ?_
            refine mw_cVi (As := [.ref (mw_a E 0), .ref (mw_a E (6 + j))]) (rest := [.int (allGain z (σ.1 0) (cuX σ 0) n), .int (nI j), .ref (mw_a E 64)]) C Z hP hS (63) (cX_gainOf l E ςa (0) (by omega) (6 + j) (by omega) z (fra.1.ru (by decide) hru)) vb_X4_gainOf tw_3_138 ⟨rfl, rfl⟩ ⟨Nat.le_of_ble_eq_true rfl, Nat.le_of_ble_eq_true rfl⟩ (by decide) sx_63 rfl rfl rfl hl.1 rfl (Nat.le_of_ble_eq_true rfl) dX11_sendAway_73 ⟨Nat.zero_le _, Nat.zero_le _⟩ (fun r18 u19 H locs q20 hP hS => ?_)
            obtain ⟨e22, f21⟩ := q20
            rw [fra.1.1 0 (by decide), fra.1.1 (6 + j) (by refine ⟨?_, ?_, ?_⟩ <;> omega)] at e22
            subst e22
            refine lv_isub C.1 C.2.1 dX11_sendAway_76 ?_
            refine mw_cVv (As := [.int (nI j), .int ((allGain z (σ.1 0) (cuX σ 0) n) - (gainP z (σ.1 0) (σ.1 (6 + j))))]) (rest := []) C Z hP hS (64) (cX_offer l E u19 (nI j) ((allGain z (σ.1 0) (cuX σ 0) n) - (gainP z (σ.1 0) (σ.1 (6 + j))))) vb_X0_offer tw_3_188 ⟨rfl, rfl⟩ ⟨Nat.le_of_ble_eq_true rfl, Nat.le_of_ble_eq_true rfl⟩ (by decide) sx_64 rfl rfl rfl hl.1 rfl (Nat.le_of_ble_eq_true rfl) dX11_sendAway_77 ⟨Nat.zero_le _, Nat.zero_le _⟩ (fun u24 H locs q25 hP hS => ?_)
            subst q25
            refine lv_iinc (v := nI (j + 1)) (lv' := [(3, .int (nI (j + 1))), (0, .ref (mw_a E 30)), (1, .int w), (2, .int (allGain z (σ.1 0) (cuX σ 0) n))]) C.1 C.2.1 dX11_sendAway_80 hl (k := 3) rfl (nI_1 _) (by decide) rfl (fun ls hl => ?_)
            refine lv_goto (tgt := 33) C.1 C.2.1 dX11_sendAway_83 (by decide) ?_
            exact iha (j + 1) (ofM u19 (nI j) ((allGain z (σ.1 0) (cuX σ 0) n) - (gainP z (σ.1 0) (σ.1 (6 + j))))) _ _ (by omega) (by omega) ⟨((fra.1.fs f21).of _ _), of_C _ _ (by rw [f21.1]; exact fra.2.2) (by rw [f21.1]; exact fra.2.1)⟩ hP hS ls (lv_sub hl [1, 2, 3, 0] rfl)
    exact lpa (n + 1) 0 (bwM u6 (-1) (allGain z (σ.1 0) (cuX σ 0) n)) _ _ (by omega) (by omega) ⟨(((xQs.rf σ).fs f8).bw _ _), rfl, rfl⟩ hP hS ls (lv_sub hl [2, 3, 1, 0] rfl)
  · have c4 := bI_0.mp c4
    refine lv_ldc (own := RX11) C.1 C.2.1 C.2.2.2.1 (C.2.2.2.2 _ tw_3_80) dX11_sendAway_7 ?_
    exact mw_iret C hr hlk Z hP hS dX11_sendAway_9 (⟨by unfold sendF; rw [if_pos c4], (xQs.rf σ)⟩)
