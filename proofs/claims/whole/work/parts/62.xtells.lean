/-! THE CLASS: TELLS, FILM -/
def xShs (σ : mw_M) : Prop := ∀ s, s < 4 → ∃ m : Nat, m ≤ 40 ∧ σ.1 (67 + s) 1 = nI m

set_option maxHeartbeats 4000000 in
set_option maxRecDepth 100000 in
theorem cX_tells0 (l : Launch) (E : mw_E) (σ : mw_M) (n : Nat) (hn : σ.1 0 6 = nI n) (h8 : n ≤ 8) (z : zP) (hru : xRu σ 0 z) (hsh : xShs σ) (ss oo : Int32) : mw_Ci shX 75 gX l yX11_tells cX11_tells 6 (some .int) (rmF 7 206) E [.ref (mw_a E 30), .int ss, .int oo, .int 0] σ (fun r u => r = (if ¬ (0 ≤ ss.toInt ∧ ss.toInt ≤ 3) ∨ ¬ (0 ≤ oo.toInt ∧ oo.toInt < n) then -2 else if σ.1 (67 + ss.toNatClampNeg) 0 = -1 then -11 else foF (fun k => eatsP z (upd (σ.1 0) 0 (nI (k + 1))) (cuX σ 0 oo.toNatClampNeg)) (σ.2.1 (71 + ss.toNatClampNeg)) (σ.1 (67 + ss.toNatClampNeg) 1).toNatClampNeg 0) ∧ xQs σ u) := by
  refine mw_of (by decide) gX_ok (Nat.le_of_ble_eq_true rfl) ?_
  intro p_ e_ s_ m_ below meth c_ C hr hlk Z hP ls hl
  have C : CallFix p_ m_ c_ cX11_tells 6 s_ _ lw_good RX11 := C
  have hl : lv_has ls 6 [(0, .ref (mw_a E 30)), (1, .int ss), (2, .int oo), (3, .int 0)] := hl
  have hS : va_S (mw_A 75 E) s_.heap s_.heap [] := va_S.rf
  refine lv_iload_n C.1 C.2.1 dX11_tells_0 rfl (lv_at hl 1 rfl) ?_
  refine mw_cSi (As := [.int ss]) (rest := []) C Z hP hS (cX_isSheet l E σ ss) sb_X11_isSheet tw_4_50 ⟨rfl, rfl⟩ ⟨Nat.le_of_ble_eq_true rfl, Nat.le_of_ble_eq_true rfl⟩ rfl hl.1 rfl (Nat.le_of_ble_eq_true rfl) dX11_tells_1 ⟨Nat.zero_le _, Nat.zero_le _⟩ (fun r1 u2 H locs q3 hP hS => ?_)
  obtain ⟨rfl, q3u⟩ := q3
  rw [q3u] at hP; clear q3u
  refine lv_if_eq (tgt := 28) C.1 C.2.1 dX11_tells_4 (by decide) (fun c4 => ?_) (fun c4 => ?_)
  · have c4 := bI_0.mp c4
    refine lv_bipush (v := -2) C.1 C.2.1 dX11_tells_28 (by decide) ?_
    exact mw_iret C hr hlk Z hP hS dX11_tells_30 (⟨by rw [if_pos (Or.inl c4)], (xQs.rf σ)⟩)
  · have c4 := bI_n.mp c4
    have hrs := c4
    obtain ⟨s, hs3, es0⟩ := nI_ofI (k := 3) hrs.1 hrs.2
    have hs : s < 4 := by omega
    subst es0
    have es : (nI s).toNatClampNeg = s := nI_clamp (by omega)
    obtain ⟨m, hm4, hm⟩ := hsh s hs
    refine lv_aload_n C.1 C.2.1 dX11_tells_7 rfl (lv_at hl 0 rfl) ?_
    refine mw_getr C Z hP (30) 0 (0) (by decide) sx_30 rfl rfl (by decide) inX11 tw_2_239 dX11_tells_8 ?_
    refine lv_iload_n C.1 C.2.1 dX11_tells_11 rfl (lv_at hl 2 rfl) ?_
    refine mw_cVi (As := [.int oo]) (rest := []) C Z hP hS (0) (cX_hasS l E σ 0 (by decide) n hn h8 oo) vb_X6_has tw_3_53 ⟨rfl, rfl⟩ ⟨Nat.le_of_ble_eq_true rfl, Nat.le_of_ble_eq_true rfl⟩ (by decide) sx_0 rfl rfl rfl hl.1 rfl (Nat.le_of_ble_eq_true rfl) dX11_tells_12 ⟨Nat.zero_le _, Nat.zero_le _⟩ (fun r5 u6 H locs q7 hP hS => ?_)
    obtain ⟨rfl, q7u⟩ := q7
    rw [q7u] at hP; clear q7u
    refine lv_if_eq (tgt := 28) C.1 C.2.1 dX11_tells_15 (by decide) (fun c8 => ?_) (fun c8 => ?_)
    · have c8 := bI_0.mp c8
      refine lv_bipush (v := -2) C.1 C.2.1 dX11_tells_28 (by decide) ?_
      exact mw_iret C hr hlk Z hP hS dX11_tells_30 (⟨by rw [if_pos (Or.inr c8)], (xQs.rf σ)⟩)
    · have c8 := bI_n.mp c8
      have hhas := c8
      obtain ⟨q, hq8, eq0⟩ := nI_ofI (k := 8) hhas.1 (by omega)
      have hqn : q < n := by have y := hhas.2; rw [eq0, nI_toInt (by omega)] at y; omega
      have hq : q < 8 := by omega
      subst eq0
      have eq : (nI q).toNatClampNeg = q := nI_clamp (by omega)
      refine lv_iload_n C.1 C.2.1 dX11_tells_18 rfl (lv_at hl 3 rfl) ?_
      refine lv_iconst (v := 0) C.1 C.2.1 dX11_tells_19 (by decide) ?_
      refine lv_bipush (v := 7) C.1 C.2.1 dX11_tells_20 (by decide) ?_
      refine mw_cSi (As := [.int 0, .int 0, .int 7]) (rest := []) C Z hP hS (cX_isWithin2 l E σ (0 : Int32) (0 : Int32) (7 : Int32) True (by decide)) sb_X11_isWithin tw_3_42 ⟨rfl, rfl⟩ ⟨Nat.le_of_ble_eq_true rfl, Nat.le_of_ble_eq_true rfl⟩ rfl hl.1 rfl (Nat.le_of_ble_eq_true rfl) dX11_tells_22 ⟨Nat.zero_le _, Nat.zero_le _⟩ (fun r9 u10 H locs q11 hP hS => ?_)
      obtain ⟨rfl, q11u⟩ := q11
      rw [q11u] at hP; clear q11u
      refine mw_top (y := 1) (bI_t trivial) ?_
      refine lv_if_ne (tgt := 31) C.1 C.2.1 dX11_tells_25 (by decide) (fun c12 => ?_) (fun c12 => ?_)
      · refine lv_aload_n C.1 C.2.1 dX11_tells_31 rfl (lv_at hl 0 rfl) ?_
        refine mw_getr C Z hP (30) 10 (66) (by decide) sx_30 rfl rfl (by decide) inX11 tw_3_9 dX11_tells_32 ?_
        refine lv_iload_n C.1 C.2.1 dX11_tells_35 rfl (lv_at hl 1 rfl) ?_
        refine mw_aald C Z hP (66) (s) (by decide) sx_66 (by decide) rfl (Nat.lt_of_lt_of_le (by decide : 4 < 961) (Nat.le_of_ble_eq_true rfl)) rfl (by omega) dX11_tells_36 ?_
        refine lv_astore (lv' := [(4, .ref (mw_a E (67 + s))), (0, .ref (mw_a E 30)), (1, .int (nI s)), (2, .int (nI q)), (3, .int 0)]) C.1 C.2.1 dX11_tells_37 hl (by decide) rfl (fun ls hl => ?_)
        refine lv_aload C.1 C.2.1 dX11_tells_39 (lv_at hl 0 rfl) ?_
        refine mw_cVi (As := []) (rest := []) C Z hP hS (67 + s) (cX_missing l E σ s (by omega)) vb_X5_isMissing tw_4_53 ⟨rfl, rfl⟩ ⟨Nat.le_of_ble_eq_true rfl, Nat.le_of_ble_eq_true rfl⟩ (by omega) (sx_sh (by omega)) rfl rfl rfl hl.1 rfl (Nat.le_of_ble_eq_true rfl) dX11_tells_41 ⟨Nat.zero_le _, Nat.zero_le _⟩ (fun r13 u14 H locs q15 hP hS => ?_)
        obtain ⟨rfl, q15u⟩ := q15
        rw [q15u] at hP; clear q15u
        refine lv_if_eq (tgt := 50) C.1 C.2.1 dX11_tells_44 (by decide) (fun c16 => ?_) (fun c16 => ?_)
        · have c16 := bI_0.mp c16
          have hms := c16
          refine lv_aload_n C.1 C.2.1 dX11_tells_50 rfl (lv_at hl 1 rfl) ?_
          refine mw_getr C Z hP (30) 1 (1) (by decide) sx_30 rfl rfl (by decide) inX11 tw_3_0 dX11_tells_51 ?_
          refine lv_aload_n C.1 C.2.1 dX11_tells_54 rfl (lv_at hl 1 rfl) ?_
          refine mw_getr C Z hP (30) 0 (0) (by decide) sx_30 rfl rfl (by decide) inX11 tw_2_239 dX11_tells_55 ?_
          refine mw_cVv (As := [.ref (mw_a E 0)]) (rest := []) C Z hP hS (1) (cX_becomeS l E σ 1 0 (by decide) (by decide) (by decide) n hn h8) vb_X6_become tw_4_6 ⟨rfl, rfl⟩ ⟨Nat.le_of_ble_eq_true rfl, Nat.le_of_ble_eq_true rfl⟩ (by decide) sx_1 rfl rfl rfl hl.1 rfl (Nat.le_of_ble_eq_true rfl) dX11_tells_58 ⟨Nat.zero_le _, Nat.zero_le _⟩ (fun u18 H locs q19 hP hS => ?_)
          have su20 := q19.su (fun j => j = 0) (fun _ => False) hqn
          refine lv_aload_n C.1 C.2.1 dX11_tells_61 rfl (lv_at hl 1 rfl) ?_
          refine mw_getr C Z hP (30) 1 (1) (by decide) sx_30 rfl rfl (by decide) inX11 tw_3_0 dX11_tells_62 ?_
          refine mw_getr C Z hP (1) 7 (4) (by decide) sx_1 rfl rfl (by decide) inX6 tw_1_96 dX11_tells_65 ?_
          refine lv_iload_n C.1 C.2.1 dX11_tells_68 rfl (lv_at hl 3 rfl) ?_
          refine mw_aald C Z hP (4) (q) (by decide) sx_4 (by decide) rfl (Nat.lt_of_lt_of_le (by decide : 8 < 961) (Nat.le_of_ble_eq_true rfl)) rfl (by omega) dX11_tells_69 ?_
          refine lv_astore (lv' := [(5, .ref (mw_a E (14 + q))), (4, .ref (mw_a E (67 + s))), (0, .ref (mw_a E 30)), (1, .int (nI s)), (2, .int (nI q)), (3, .int 0)]) C.1 C.2.1 dX11_tells_70 hl (by decide) rfl (fun ls hl => ?_)
          refine lv_iload_n C.1 C.2.1 dX11_tells_72 rfl (lv_at hl 5 rfl) ?_
          refine lv_if_ne (tgt := 87) C.1 C.2.1 dX11_tells_73 (by decide) (fun c21 => ?_) (fun c21 => ?_)
          · exact absurd c21 (by decide)
          · refine lv_aload_n C.1 C.2.1 dX11_tells_76 rfl (lv_at hl 2 rfl) ?_
            refine lv_aload C.1 C.2.1 dX11_tells_77 (lv_at hl 1 rfl) ?_
            refine lv_aload C.1 C.2.1 dX11_tells_79 (lv_at hl 0 rfl) ?_
            refine mw_cVi (As := [.ref (mw_a E (67 + s)), .ref (mw_a E (14 + q))]) (rest := []) C Z hP hS (30) (cX_first l E u18 z (su20.ru (by decide) hru) s hs m ((congrFun (su20.1.1 (67 + s) (by refine ⟨?_, ?_, ?_⟩ <;> omega)) _).trans hm) hm4 q hq) vb_X11_firstOtherwise tw_4_57 ⟨rfl, rfl⟩ ⟨Nat.le_of_ble_eq_true rfl, Nat.le_of_ble_eq_true rfl⟩ (by decide) sx_30 rfl rfl rfl hl.1 rfl (Nat.le_of_ble_eq_true rfl) dX11_tells_81 ⟨Nat.zero_le _, Nat.zero_le _⟩ (fun r22 u23 H locs q24 hP hS => ?_)
            obtain ⟨e26, f25⟩ := q24
            rw [su_ok (st2 := σ.1 0) (cu2 := cuX σ 0 q) (cl2 := σ.2.1 (71 + s)) (fun j hj h0 => su20.2.1 j (by omega) h0) (fun f hf => su20.2.2 f (by omega) (fun y => y)) (fun i hi => congrFun (su20.1.2 (71 + s) (by omega)) i)] at e26
            subst e26
            refine lv_goto (tgt := 96) C.1 C.2.1 dX11_tells_84 (by decide) ?_
            exact mw_iret C hr hlk Z hP hS dX11_tells_96 (⟨by rw [if_neg (fun y => y.elim (fun y => y hrs) (fun y => y hhas)), if_neg (by rw [es]; exact hms), es, eq, hm, nI_clamp (n := m) (by omega)], (su20.cb rfl f25).1⟩)
        · have c16 := bI_n.mp c16
          refine lv_bipush (v := -11) C.1 C.2.1 dX11_tells_47 (by decide) ?_
          exact mw_iret C hr hlk Z hP hS dX11_tells_49 (⟨by rw [if_neg (fun y => y.elim (fun y => y hrs) (fun y => y hhas)), if_pos (by rw [es]; exact c16)], (xQs.rf σ)⟩)
      · exact absurd c12 (by decide)

set_option maxHeartbeats 4000000 in
set_option maxRecDepth 100000 in
theorem cX_tells1 (l : Launch) (E : mw_E) (σ : mw_M) (n : Nat) (hn : σ.1 0 6 = nI n) (h8 : n ≤ 8) (z : zP) (hru : xRu σ 0 z) (hsh : xShs σ) (ss oo : Int32) : mw_Ci shX 75 gX l yX11_tells cX11_tells 6 (some .int) (rmF 7 206) E [.ref (mw_a E 30), .int ss, .int oo, .int 1] σ (fun r u => r = (if ¬ (0 ≤ ss.toInt ∧ ss.toInt ≤ 3) ∨ ¬ (0 ≤ oo.toInt ∧ oo.toInt < n) then -2 else if σ.1 (67 + ss.toNatClampNeg) 0 = -1 then -11 else tellP3 (fun v => okF z (σ.1 0) (upd (cuX σ 0 oo.toNatClampNeg) 0 (nI v)) (σ.2.1 (71 + ss.toNatClampNeg)) (σ.1 (67 + ss.toNatClampNeg) 1).toNatClampNeg) 0 6 1) ∧ xQs σ u) := by
  refine mw_of (by decide) gX_ok (Nat.le_of_ble_eq_true rfl) ?_
  intro p_ e_ s_ m_ below meth c_ C hr hlk Z hP ls hl
  have C : CallFix p_ m_ c_ cX11_tells 6 s_ _ lw_good RX11 := C
  have hl : lv_has ls 6 [(0, .ref (mw_a E 30)), (1, .int ss), (2, .int oo), (3, .int 1)] := hl
  have hS : va_S (mw_A 75 E) s_.heap s_.heap [] := va_S.rf
  refine lv_iload_n C.1 C.2.1 dX11_tells_0 rfl (lv_at hl 1 rfl) ?_
  refine mw_cSi (As := [.int ss]) (rest := []) C Z hP hS (cX_isSheet l E σ ss) sb_X11_isSheet tw_4_50 ⟨rfl, rfl⟩ ⟨Nat.le_of_ble_eq_true rfl, Nat.le_of_ble_eq_true rfl⟩ rfl hl.1 rfl (Nat.le_of_ble_eq_true rfl) dX11_tells_1 ⟨Nat.zero_le _, Nat.zero_le _⟩ (fun r1 u2 H locs q3 hP hS => ?_)
  obtain ⟨rfl, q3u⟩ := q3
  rw [q3u] at hP; clear q3u
  refine lv_if_eq (tgt := 28) C.1 C.2.1 dX11_tells_4 (by decide) (fun c4 => ?_) (fun c4 => ?_)
  · have c4 := bI_0.mp c4
    refine lv_bipush (v := -2) C.1 C.2.1 dX11_tells_28 (by decide) ?_
    exact mw_iret C hr hlk Z hP hS dX11_tells_30 (⟨by rw [if_pos (Or.inl c4)], (xQs.rf σ)⟩)
  · have c4 := bI_n.mp c4
    have hrs := c4
    obtain ⟨s, hs3, es0⟩ := nI_ofI (k := 3) hrs.1 hrs.2
    have hs : s < 4 := by omega
    subst es0
    have es : (nI s).toNatClampNeg = s := nI_clamp (by omega)
    obtain ⟨m, hm4, hm⟩ := hsh s hs
    refine lv_aload_n C.1 C.2.1 dX11_tells_7 rfl (lv_at hl 0 rfl) ?_
    refine mw_getr C Z hP (30) 0 (0) (by decide) sx_30 rfl rfl (by decide) inX11 tw_2_239 dX11_tells_8 ?_
    refine lv_iload_n C.1 C.2.1 dX11_tells_11 rfl (lv_at hl 2 rfl) ?_
    refine mw_cVi (As := [.int oo]) (rest := []) C Z hP hS (0) (cX_hasS l E σ 0 (by decide) n hn h8 oo) vb_X6_has tw_3_53 ⟨rfl, rfl⟩ ⟨Nat.le_of_ble_eq_true rfl, Nat.le_of_ble_eq_true rfl⟩ (by decide) sx_0 rfl rfl rfl hl.1 rfl (Nat.le_of_ble_eq_true rfl) dX11_tells_12 ⟨Nat.zero_le _, Nat.zero_le _⟩ (fun r5 u6 H locs q7 hP hS => ?_)
    obtain ⟨rfl, q7u⟩ := q7
    rw [q7u] at hP; clear q7u
    refine lv_if_eq (tgt := 28) C.1 C.2.1 dX11_tells_15 (by decide) (fun c8 => ?_) (fun c8 => ?_)
    · have c8 := bI_0.mp c8
      refine lv_bipush (v := -2) C.1 C.2.1 dX11_tells_28 (by decide) ?_
      exact mw_iret C hr hlk Z hP hS dX11_tells_30 (⟨by rw [if_pos (Or.inr c8)], (xQs.rf σ)⟩)
    · have c8 := bI_n.mp c8
      have hhas := c8
      obtain ⟨q, hq8, eq0⟩ := nI_ofI (k := 8) hhas.1 (by omega)
      have hqn : q < n := by have y := hhas.2; rw [eq0, nI_toInt (by omega)] at y; omega
      have hq : q < 8 := by omega
      subst eq0
      have eq : (nI q).toNatClampNeg = q := nI_clamp (by omega)
      refine lv_iload_n C.1 C.2.1 dX11_tells_18 rfl (lv_at hl 3 rfl) ?_
      refine lv_iconst (v := 0) C.1 C.2.1 dX11_tells_19 (by decide) ?_
      refine lv_bipush (v := 7) C.1 C.2.1 dX11_tells_20 (by decide) ?_
      refine mw_cSi (As := [.int 1, .int 0, .int 7]) (rest := []) C Z hP hS (cX_isWithin2 l E σ (1 : Int32) (0 : Int32) (7 : Int32) True (by decide)) sb_X11_isWithin tw_3_42 ⟨rfl, rfl⟩ ⟨Nat.le_of_ble_eq_true rfl, Nat.le_of_ble_eq_true rfl⟩ rfl hl.1 rfl (Nat.le_of_ble_eq_true rfl) dX11_tells_22 ⟨Nat.zero_le _, Nat.zero_le _⟩ (fun r9 u10 H locs q11 hP hS => ?_)
      obtain ⟨rfl, q11u⟩ := q11
      rw [q11u] at hP; clear q11u
      refine mw_top (y := 1) (bI_t trivial) ?_
      refine lv_if_ne (tgt := 31) C.1 C.2.1 dX11_tells_25 (by decide) (fun c12 => ?_) (fun c12 => ?_)
      · refine lv_aload_n C.1 C.2.1 dX11_tells_31 rfl (lv_at hl 0 rfl) ?_
        refine mw_getr C Z hP (30) 10 (66) (by decide) sx_30 rfl rfl (by decide) inX11 tw_3_9 dX11_tells_32 ?_
        refine lv_iload_n C.1 C.2.1 dX11_tells_35 rfl (lv_at hl 1 rfl) ?_
        refine mw_aald C Z hP (66) (s) (by decide) sx_66 (by decide) rfl (Nat.lt_of_lt_of_le (by decide : 4 < 961) (Nat.le_of_ble_eq_true rfl)) rfl (by omega) dX11_tells_36 ?_
        refine lv_astore (lv' := [(4, .ref (mw_a E (67 + s))), (0, .ref (mw_a E 30)), (1, .int (nI s)), (2, .int (nI q)), (3, .int 1)]) C.1 C.2.1 dX11_tells_37 hl (by decide) rfl (fun ls hl => ?_)
        refine lv_aload C.1 C.2.1 dX11_tells_39 (lv_at hl 0 rfl) ?_
        refine mw_cVi (As := []) (rest := []) C Z hP hS (67 + s) (cX_missing l E σ s (by omega)) vb_X5_isMissing tw_4_53 ⟨rfl, rfl⟩ ⟨Nat.le_of_ble_eq_true rfl, Nat.le_of_ble_eq_true rfl⟩ (by omega) (sx_sh (by omega)) rfl rfl rfl hl.1 rfl (Nat.le_of_ble_eq_true rfl) dX11_tells_41 ⟨Nat.zero_le _, Nat.zero_le _⟩ (fun r13 u14 H locs q15 hP hS => ?_)
        obtain ⟨rfl, q15u⟩ := q15
        rw [q15u] at hP; clear q15u
        refine lv_if_eq (tgt := 50) C.1 C.2.1 dX11_tells_44 (by decide) (fun c16 => ?_) (fun c16 => ?_)
        · have c16 := bI_0.mp c16
          have hms := c16
          refine lv_aload_n C.1 C.2.1 dX11_tells_50 rfl (lv_at hl 1 rfl) ?_
          refine mw_getr C Z hP (30) 1 (1) (by decide) sx_30 rfl rfl (by decide) inX11 tw_3_0 dX11_tells_51 ?_
          refine lv_aload_n C.1 C.2.1 dX11_tells_54 rfl (lv_at hl 1 rfl) ?_
          refine mw_getr C Z hP (30) 0 (0) (by decide) sx_30 rfl rfl (by decide) inX11 tw_2_239 dX11_tells_55 ?_
          refine mw_cVv (As := [.ref (mw_a E 0)]) (rest := []) C Z hP hS (1) (cX_becomeS l E σ 1 0 (by decide) (by decide) (by decide) n hn h8) vb_X6_become tw_4_6 ⟨rfl, rfl⟩ ⟨Nat.le_of_ble_eq_true rfl, Nat.le_of_ble_eq_true rfl⟩ (by decide) sx_1 rfl rfl rfl hl.1 rfl (Nat.le_of_ble_eq_true rfl) dX11_tells_58 ⟨Nat.zero_le _, Nat.zero_le _⟩ (fun u18 H locs q19 hP hS => ?_)
          have su20 := q19.su (fun j => j = 0) (fun f => f = 0) hqn
          refine lv_aload_n C.1 C.2.1 dX11_tells_61 rfl (lv_at hl 1 rfl) ?_
          refine mw_getr C Z hP (30) 1 (1) (by decide) sx_30 rfl rfl (by decide) inX11 tw_3_0 dX11_tells_62 ?_
          refine mw_getr C Z hP (1) 7 (4) (by decide) sx_1 rfl rfl (by decide) inX6 tw_1_96 dX11_tells_65 ?_
          refine lv_iload_n C.1 C.2.1 dX11_tells_68 rfl (lv_at hl 3 rfl) ?_
          refine mw_aald C Z hP (4) (q) (by decide) sx_4 (by decide) rfl (Nat.lt_of_lt_of_le (by decide : 8 < 961) (Nat.le_of_ble_eq_true rfl)) rfl (by omega) dX11_tells_69 ?_
          refine lv_astore (lv' := [(5, .ref (mw_a E (14 + q))), (4, .ref (mw_a E (67 + s))), (0, .ref (mw_a E 30)), (1, .int (nI s)), (2, .int (nI q)), (3, .int 1)]) C.1 C.2.1 dX11_tells_70 hl (by decide) rfl (fun ls hl => ?_)
          refine lv_iload_n C.1 C.2.1 dX11_tells_72 rfl (lv_at hl 5 rfl) ?_
          refine lv_if_ne (tgt := 87) C.1 C.2.1 dX11_tells_73 (by decide) (fun c21 => ?_) (fun c21 => ?_)
          · refine lv_aload_n C.1 C.2.1 dX11_tells_87 rfl (lv_at hl 2 rfl) ?_
            refine lv_aload C.1 C.2.1 dX11_tells_88 (lv_at hl 1 rfl) ?_
            refine lv_aload C.1 C.2.1 dX11_tells_90 (lv_at hl 0 rfl) ?_
            refine lv_iload_n C.1 C.2.1 dX11_tells_92 rfl (lv_at hl 5 rfl) ?_
            refine mw_cVi (As := [.ref (mw_a E (67 + s)), .ref (mw_a E (14 + q)), .int 1]) (rest := []) C Z hP hS (30) (cX_allBy1 l E σ u18 z hru s hs m hm hm4 q hq su20) vb_X11_allBy tw_4_61 ⟨rfl, rfl⟩ ⟨Nat.le_of_ble_eq_true rfl, Nat.le_of_ble_eq_true rfl⟩ (by decide) sx_30 rfl rfl rfl hl.1 rfl (Nat.le_of_ble_eq_true rfl) dX11_tells_93 ⟨Nat.zero_le _, Nat.zero_le _⟩ (fun r22 u23 H locs q24 hP hS => ?_)
            obtain ⟨e26, f25⟩ := q24
            subst e26
            exact mw_iret C hr hlk Z hP hS dX11_tells_96 (⟨by rw [if_neg (fun y => y.elim (fun y => y hrs) (fun y => y hhas)), if_neg (by rw [es]; exact hms), es, eq, hm, nI_clamp (n := m) (by omega)], f25⟩)
          · exact absurd c21 (by decide)
        · have c16 := bI_n.mp c16
          refine lv_bipush (v := -11) C.1 C.2.1 dX11_tells_47 (by decide) ?_
          exact mw_iret C hr hlk Z hP hS dX11_tells_49 (⟨by rw [if_neg (fun y => y.elim (fun y => y hrs) (fun y => y hhas)), if_pos (by rw [es]; exact c16)], (xQs.rf σ)⟩)
      · exact absurd c12 (by decide)

set_option maxHeartbeats 4000000 in
set_option maxRecDepth 100000 in
theorem cX_tells2 (l : Launch) (E : mw_E) (σ : mw_M) (n : Nat) (hn : σ.1 0 6 = nI n) (h8 : n ≤ 8) (z : zP) (hru : xRu σ 0 z) (hsh : xShs σ) (ss oo : Int32) : mw_Ci shX 75 gX l yX11_tells cX11_tells 6 (some .int) (rmF 7 206) E [.ref (mw_a E 30), .int ss, .int oo, .int 2] σ (fun r u => r = (if ¬ (0 ≤ ss.toInt ∧ ss.toInt ≤ 3) ∨ ¬ (0 ≤ oo.toInt ∧ oo.toInt < n) then -2 else if σ.1 (67 + ss.toNatClampNeg) 0 = -1 then -11 else tellP3 (fun v => okF z (σ.1 0) (upd (cuX σ 0 oo.toNatClampNeg) 1 (nI v)) (σ.2.1 (71 + ss.toNatClampNeg)) (σ.1 (67 + ss.toNatClampNeg) 1).toNatClampNeg) 0 10 2) ∧ xQs σ u) := by
  refine mw_of (by decide) gX_ok (Nat.le_of_ble_eq_true rfl) ?_
  intro p_ e_ s_ m_ below meth c_ C hr hlk Z hP ls hl
  have C : CallFix p_ m_ c_ cX11_tells 6 s_ _ lw_good RX11 := C
  have hl : lv_has ls 6 [(0, .ref (mw_a E 30)), (1, .int ss), (2, .int oo), (3, .int 2)] := hl
  have hS : va_S (mw_A 75 E) s_.heap s_.heap [] := va_S.rf
  refine lv_iload_n C.1 C.2.1 dX11_tells_0 rfl (lv_at hl 1 rfl) ?_
  refine mw_cSi (As := [.int ss]) (rest := []) C Z hP hS (cX_isSheet l E σ ss) sb_X11_isSheet tw_4_50 ⟨rfl, rfl⟩ ⟨Nat.le_of_ble_eq_true rfl, Nat.le_of_ble_eq_true rfl⟩ rfl hl.1 rfl (Nat.le_of_ble_eq_true rfl) dX11_tells_1 ⟨Nat.zero_le _, Nat.zero_le _⟩ (fun r1 u2 H locs q3 hP hS => ?_)
  obtain ⟨rfl, q3u⟩ := q3
  rw [q3u] at hP; clear q3u
  refine lv_if_eq (tgt := 28) C.1 C.2.1 dX11_tells_4 (by decide) (fun c4 => ?_) (fun c4 => ?_)
  · have c4 := bI_0.mp c4
    refine lv_bipush (v := -2) C.1 C.2.1 dX11_tells_28 (by decide) ?_
    exact mw_iret C hr hlk Z hP hS dX11_tells_30 (⟨by rw [if_pos (Or.inl c4)], (xQs.rf σ)⟩)
  · have c4 := bI_n.mp c4
    have hrs := c4
    obtain ⟨s, hs3, es0⟩ := nI_ofI (k := 3) hrs.1 hrs.2
    have hs : s < 4 := by omega
    subst es0
    have es : (nI s).toNatClampNeg = s := nI_clamp (by omega)
    obtain ⟨m, hm4, hm⟩ := hsh s hs
    refine lv_aload_n C.1 C.2.1 dX11_tells_7 rfl (lv_at hl 0 rfl) ?_
    refine mw_getr C Z hP (30) 0 (0) (by decide) sx_30 rfl rfl (by decide) inX11 tw_2_239 dX11_tells_8 ?_
    refine lv_iload_n C.1 C.2.1 dX11_tells_11 rfl (lv_at hl 2 rfl) ?_
    refine mw_cVi (As := [.int oo]) (rest := []) C Z hP hS (0) (cX_hasS l E σ 0 (by decide) n hn h8 oo) vb_X6_has tw_3_53 ⟨rfl, rfl⟩ ⟨Nat.le_of_ble_eq_true rfl, Nat.le_of_ble_eq_true rfl⟩ (by decide) sx_0 rfl rfl rfl hl.1 rfl (Nat.le_of_ble_eq_true rfl) dX11_tells_12 ⟨Nat.zero_le _, Nat.zero_le _⟩ (fun r5 u6 H locs q7 hP hS => ?_)
    obtain ⟨rfl, q7u⟩ := q7
    rw [q7u] at hP; clear q7u
    refine lv_if_eq (tgt := 28) C.1 C.2.1 dX11_tells_15 (by decide) (fun c8 => ?_) (fun c8 => ?_)
    · have c8 := bI_0.mp c8
      refine lv_bipush (v := -2) C.1 C.2.1 dX11_tells_28 (by decide) ?_
      exact mw_iret C hr hlk Z hP hS dX11_tells_30 (⟨by rw [if_pos (Or.inr c8)], (xQs.rf σ)⟩)
    · have c8 := bI_n.mp c8
      have hhas := c8
      obtain ⟨q, hq8, eq0⟩ := nI_ofI (k := 8) hhas.1 (by omega)
      have hqn : q < n := by have y := hhas.2; rw [eq0, nI_toInt (by omega)] at y; omega
      have hq : q < 8 := by omega
      subst eq0
      have eq : (nI q).toNatClampNeg = q := nI_clamp (by omega)
      refine lv_iload_n C.1 C.2.1 dX11_tells_18 rfl (lv_at hl 3 rfl) ?_
      refine lv_iconst (v := 0) C.1 C.2.1 dX11_tells_19 (by decide) ?_
      refine lv_bipush (v := 7) C.1 C.2.1 dX11_tells_20 (by decide) ?_
      refine mw_cSi (As := [.int 2, .int 0, .int 7]) (rest := []) C Z hP hS (cX_isWithin2 l E σ (2 : Int32) (0 : Int32) (7 : Int32) True (by decide)) sb_X11_isWithin tw_3_42 ⟨rfl, rfl⟩ ⟨Nat.le_of_ble_eq_true rfl, Nat.le_of_ble_eq_true rfl⟩ rfl hl.1 rfl (Nat.le_of_ble_eq_true rfl) dX11_tells_22 ⟨Nat.zero_le _, Nat.zero_le _⟩ (fun r9 u10 H locs q11 hP hS => ?_)
      obtain ⟨rfl, q11u⟩ := q11
      rw [q11u] at hP; clear q11u
      refine mw_top (y := 1) (bI_t trivial) ?_
      refine lv_if_ne (tgt := 31) C.1 C.2.1 dX11_tells_25 (by decide) (fun c12 => ?_) (fun c12 => ?_)
      · refine lv_aload_n C.1 C.2.1 dX11_tells_31 rfl (lv_at hl 0 rfl) ?_
        refine mw_getr C Z hP (30) 10 (66) (by decide) sx_30 rfl rfl (by decide) inX11 tw_3_9 dX11_tells_32 ?_
        refine lv_iload_n C.1 C.2.1 dX11_tells_35 rfl (lv_at hl 1 rfl) ?_
        refine mw_aald C Z hP (66) (s) (by decide) sx_66 (by decide) rfl (Nat.lt_of_lt_of_le (by decide : 4 < 961) (Nat.le_of_ble_eq_true rfl)) rfl (by omega) dX11_tells_36 ?_
        refine lv_astore (lv' := [(4, .ref (mw_a E (67 + s))), (0, .ref (mw_a E 30)), (1, .int (nI s)), (2, .int (nI q)), (3, .int 2)]) C.1 C.2.1 dX11_tells_37 hl (by decide) rfl (fun ls hl => ?_)
        refine lv_aload C.1 C.2.1 dX11_tells_39 (lv_at hl 0 rfl) ?_
        refine mw_cVi (As := []) (rest := []) C Z hP hS (67 + s) (cX_missing l E σ s (by omega)) vb_X5_isMissing tw_4_53 ⟨rfl, rfl⟩ ⟨Nat.le_of_ble_eq_true rfl, Nat.le_of_ble_eq_true rfl⟩ (by omega) (sx_sh (by omega)) rfl rfl rfl hl.1 rfl (Nat.le_of_ble_eq_true rfl) dX11_tells_41 ⟨Nat.zero_le _, Nat.zero_le _⟩ (fun r13 u14 H locs q15 hP hS => ?_)
        obtain ⟨rfl, q15u⟩ := q15
        rw [q15u] at hP; clear q15u
        refine lv_if_eq (tgt := 50) C.1 C.2.1 dX11_tells_44 (by decide) (fun c16 => ?_) (fun c16 => ?_)
        · have c16 := bI_0.mp c16
          have hms := c16
          refine lv_aload_n C.1 C.2.1 dX11_tells_50 rfl (lv_at hl 1 rfl) ?_
          refine mw_getr C Z hP (30) 1 (1) (by decide) sx_30 rfl rfl (by decide) inX11 tw_3_0 dX11_tells_51 ?_
          refine lv_aload_n C.1 C.2.1 dX11_tells_54 rfl (lv_at hl 1 rfl) ?_
          refine mw_getr C Z hP (30) 0 (0) (by decide) sx_30 rfl rfl (by decide) inX11 tw_2_239 dX11_tells_55 ?_
          refine mw_cVv (As := [.ref (mw_a E 0)]) (rest := []) C Z hP hS (1) (cX_becomeS l E σ 1 0 (by decide) (by decide) (by decide) n hn h8) vb_X6_become tw_4_6 ⟨rfl, rfl⟩ ⟨Nat.le_of_ble_eq_true rfl, Nat.le_of_ble_eq_true rfl⟩ (by decide) sx_1 rfl rfl rfl hl.1 rfl (Nat.le_of_ble_eq_true rfl) dX11_tells_58 ⟨Nat.zero_le _, Nat.zero_le _⟩ (fun u18 H locs q19 hP hS => ?_)
          have su20 := q19.su (fun j => j = 0) (fun f => f = 1) hqn
          refine lv_aload_n C.1 C.2.1 dX11_tells_61 rfl (lv_at hl 1 rfl) ?_
          refine mw_getr C Z hP (30) 1 (1) (by decide) sx_30 rfl rfl (by decide) inX11 tw_3_0 dX11_tells_62 ?_
          refine mw_getr C Z hP (1) 7 (4) (by decide) sx_1 rfl rfl (by decide) inX6 tw_1_96 dX11_tells_65 ?_
          refine lv_iload_n C.1 C.2.1 dX11_tells_68 rfl (lv_at hl 3 rfl) ?_
          refine mw_aald C Z hP (4) (q) (by decide) sx_4 (by decide) rfl (Nat.lt_of_lt_of_le (by decide : 8 < 961) (Nat.le_of_ble_eq_true rfl)) rfl (by omega) dX11_tells_69 ?_
          refine lv_astore (lv' := [(5, .ref (mw_a E (14 + q))), (4, .ref (mw_a E (67 + s))), (0, .ref (mw_a E 30)), (1, .int (nI s)), (2, .int (nI q)), (3, .int 2)]) C.1 C.2.1 dX11_tells_70 hl (by decide) rfl (fun ls hl => ?_)
          refine lv_iload_n C.1 C.2.1 dX11_tells_72 rfl (lv_at hl 5 rfl) ?_
          refine lv_if_ne (tgt := 87) C.1 C.2.1 dX11_tells_73 (by decide) (fun c21 => ?_) (fun c21 => ?_)
          · refine lv_aload_n C.1 C.2.1 dX11_tells_87 rfl (lv_at hl 2 rfl) ?_
            refine lv_aload C.1 C.2.1 dX11_tells_88 (lv_at hl 1 rfl) ?_
            refine lv_aload C.1 C.2.1 dX11_tells_90 (lv_at hl 0 rfl) ?_
            refine lv_iload_n C.1 C.2.1 dX11_tells_92 rfl (lv_at hl 5 rfl) ?_
            refine mw_cVi (As := [.ref (mw_a E (67 + s)), .ref (mw_a E (14 + q)), .int 2]) (rest := []) C Z hP hS (30) (cX_allBy2 l E σ u18 z hru s hs m hm hm4 q hq su20) vb_X11_allBy tw_4_61 ⟨rfl, rfl⟩ ⟨Nat.le_of_ble_eq_true rfl, Nat.le_of_ble_eq_true rfl⟩ (by decide) sx_30 rfl rfl rfl hl.1 rfl (Nat.le_of_ble_eq_true rfl) dX11_tells_93 ⟨Nat.zero_le _, Nat.zero_le _⟩ (fun r22 u23 H locs q24 hP hS => ?_)
            obtain ⟨e26, f25⟩ := q24
            subst e26
            exact mw_iret C hr hlk Z hP hS dX11_tells_96 (⟨by rw [if_neg (fun y => y.elim (fun y => y hrs) (fun y => y hhas)), if_neg (by rw [es]; exact hms), es, eq, hm, nI_clamp (n := m) (by omega)], f25⟩)
          · exact absurd c21 (by decide)
        · have c16 := bI_n.mp c16
          refine lv_bipush (v := -11) C.1 C.2.1 dX11_tells_47 (by decide) ?_
          exact mw_iret C hr hlk Z hP hS dX11_tells_49 (⟨by rw [if_neg (fun y => y.elim (fun y => y hrs) (fun y => y hhas)), if_pos (by rw [es]; exact c16)], (xQs.rf σ)⟩)
      · exact absurd c12 (by decide)

set_option maxHeartbeats 4000000 in
set_option maxRecDepth 100000 in
theorem cX_tells3 (l : Launch) (E : mw_E) (σ : mw_M) (n : Nat) (hn : σ.1 0 6 = nI n) (h8 : n ≤ 8) (z : zP) (hru : xRu σ 0 z) (hsh : xShs σ) (ss oo : Int32) : mw_Ci shX 75 gX l yX11_tells cX11_tells 6 (some .int) (rmF 7 206) E [.ref (mw_a E 30), .int ss, .int oo, .int 3] σ (fun r u => r = (if ¬ (0 ≤ ss.toInt ∧ ss.toInt ≤ 3) ∨ ¬ (0 ≤ oo.toInt ∧ oo.toInt < n) then -2 else if σ.1 (67 + ss.toNatClampNeg) 0 = -1 then -11 else tellP3 (fun v => okF z (σ.1 0) (upd (cuX σ 0 oo.toNatClampNeg) 3 (nI v)) (σ.2.1 (71 + ss.toNatClampNeg)) (σ.1 (67 + ss.toNatClampNeg) 1).toNatClampNeg) 0 100 3) ∧ xQs σ u) := by
  refine mw_of (by decide) gX_ok (Nat.le_of_ble_eq_true rfl) ?_
  intro p_ e_ s_ m_ below meth c_ C hr hlk Z hP ls hl
  have C : CallFix p_ m_ c_ cX11_tells 6 s_ _ lw_good RX11 := C
  have hl : lv_has ls 6 [(0, .ref (mw_a E 30)), (1, .int ss), (2, .int oo), (3, .int 3)] := hl
  have hS : va_S (mw_A 75 E) s_.heap s_.heap [] := va_S.rf
  refine lv_iload_n C.1 C.2.1 dX11_tells_0 rfl (lv_at hl 1 rfl) ?_
  refine mw_cSi (As := [.int ss]) (rest := []) C Z hP hS (cX_isSheet l E σ ss) sb_X11_isSheet tw_4_50 ⟨rfl, rfl⟩ ⟨Nat.le_of_ble_eq_true rfl, Nat.le_of_ble_eq_true rfl⟩ rfl hl.1 rfl (Nat.le_of_ble_eq_true rfl) dX11_tells_1 ⟨Nat.zero_le _, Nat.zero_le _⟩ (fun r1 u2 H locs q3 hP hS => ?_)
  obtain ⟨rfl, q3u⟩ := q3
  rw [q3u] at hP; clear q3u
  refine lv_if_eq (tgt := 28) C.1 C.2.1 dX11_tells_4 (by decide) (fun c4 => ?_) (fun c4 => ?_)
  · have c4 := bI_0.mp c4
    refine lv_bipush (v := -2) C.1 C.2.1 dX11_tells_28 (by decide) ?_
    exact mw_iret C hr hlk Z hP hS dX11_tells_30 (⟨by rw [if_pos (Or.inl c4)], (xQs.rf σ)⟩)
  · have c4 := bI_n.mp c4
    have hrs := c4
    obtain ⟨s, hs3, es0⟩ := nI_ofI (k := 3) hrs.1 hrs.2
    have hs : s < 4 := by omega
    subst es0
    have es : (nI s).toNatClampNeg = s := nI_clamp (by omega)
    obtain ⟨m, hm4, hm⟩ := hsh s hs
    refine lv_aload_n C.1 C.2.1 dX11_tells_7 rfl (lv_at hl 0 rfl) ?_
    refine mw_getr C Z hP (30) 0 (0) (by decide) sx_30 rfl rfl (by decide) inX11 tw_2_239 dX11_tells_8 ?_
    refine lv_iload_n C.1 C.2.1 dX11_tells_11 rfl (lv_at hl 2 rfl) ?_
    refine mw_cVi (As := [.int oo]) (rest := []) C Z hP hS (0) (cX_hasS l E σ 0 (by decide) n hn h8 oo) vb_X6_has tw_3_53 ⟨rfl, rfl⟩ ⟨Nat.le_of_ble_eq_true rfl, Nat.le_of_ble_eq_true rfl⟩ (by decide) sx_0 rfl rfl rfl hl.1 rfl (Nat.le_of_ble_eq_true rfl) dX11_tells_12 ⟨Nat.zero_le _, Nat.zero_le _⟩ (fun r5 u6 H locs q7 hP hS => ?_)
    obtain ⟨rfl, q7u⟩ := q7
    rw [q7u] at hP; clear q7u
    refine lv_if_eq (tgt := 28) C.1 C.2.1 dX11_tells_15 (by decide) (fun c8 => ?_) (fun c8 => ?_)
    · have c8 := bI_0.mp c8
      refine lv_bipush (v := -2) C.1 C.2.1 dX11_tells_28 (by decide) ?_
      exact mw_iret C hr hlk Z hP hS dX11_tells_30 (⟨by rw [if_pos (Or.inr c8)], (xQs.rf σ)⟩)
    · have c8 := bI_n.mp c8
      have hhas := c8
      obtain ⟨q, hq8, eq0⟩ := nI_ofI (k := 8) hhas.1 (by omega)
      have hqn : q < n := by have y := hhas.2; rw [eq0, nI_toInt (by omega)] at y; omega
      have hq : q < 8 := by omega
      subst eq0
      have eq : (nI q).toNatClampNeg = q := nI_clamp (by omega)
      refine lv_iload_n C.1 C.2.1 dX11_tells_18 rfl (lv_at hl 3 rfl) ?_
      refine lv_iconst (v := 0) C.1 C.2.1 dX11_tells_19 (by decide) ?_
      refine lv_bipush (v := 7) C.1 C.2.1 dX11_tells_20 (by decide) ?_
      refine mw_cSi (As := [.int 3, .int 0, .int 7]) (rest := []) C Z hP hS (cX_isWithin2 l E σ (3 : Int32) (0 : Int32) (7 : Int32) True (by decide)) sb_X11_isWithin tw_3_42 ⟨rfl, rfl⟩ ⟨Nat.le_of_ble_eq_true rfl, Nat.le_of_ble_eq_true rfl⟩ rfl hl.1 rfl (Nat.le_of_ble_eq_true rfl) dX11_tells_22 ⟨Nat.zero_le _, Nat.zero_le _⟩ (fun r9 u10 H locs q11 hP hS => ?_)
      obtain ⟨rfl, q11u⟩ := q11
      rw [q11u] at hP; clear q11u
      refine mw_top (y := 1) (bI_t trivial) ?_
      refine lv_if_ne (tgt := 31) C.1 C.2.1 dX11_tells_25 (by decide) (fun c12 => ?_) (fun c12 => ?_)
      · refine lv_aload_n C.1 C.2.1 dX11_tells_31 rfl (lv_at hl 0 rfl) ?_
        refine mw_getr C Z hP (30) 10 (66) (by decide) sx_30 rfl rfl (by decide) inX11 tw_3_9 dX11_tells_32 ?_
        refine lv_iload_n C.1 C.2.1 dX11_tells_35 rfl (lv_at hl 1 rfl) ?_
        refine mw_aald C Z hP (66) (s) (by decide) sx_66 (by decide) rfl (Nat.lt_of_lt_of_le (by decide : 4 < 961) (Nat.le_of_ble_eq_true rfl)) rfl (by omega) dX11_tells_36 ?_
        refine lv_astore (lv' := [(4, .ref (mw_a E (67 + s))), (0, .ref (mw_a E 30)), (1, .int (nI s)), (2, .int (nI q)), (3, .int 3)]) C.1 C.2.1 dX11_tells_37 hl (by decide) rfl (fun ls hl => ?_)
        refine lv_aload C.1 C.2.1 dX11_tells_39 (lv_at hl 0 rfl) ?_
        refine mw_cVi (As := []) (rest := []) C Z hP hS (67 + s) (cX_missing l E σ s (by omega)) vb_X5_isMissing tw_4_53 ⟨rfl, rfl⟩ ⟨Nat.le_of_ble_eq_true rfl, Nat.le_of_ble_eq_true rfl⟩ (by omega) (sx_sh (by omega)) rfl rfl rfl hl.1 rfl (Nat.le_of_ble_eq_true rfl) dX11_tells_41 ⟨Nat.zero_le _, Nat.zero_le _⟩ (fun r13 u14 H locs q15 hP hS => ?_)
        obtain ⟨rfl, q15u⟩ := q15
        rw [q15u] at hP; clear q15u
        refine lv_if_eq (tgt := 50) C.1 C.2.1 dX11_tells_44 (by decide) (fun c16 => ?_) (fun c16 => ?_)
        · have c16 := bI_0.mp c16
          have hms := c16
          refine lv_aload_n C.1 C.2.1 dX11_tells_50 rfl (lv_at hl 1 rfl) ?_
          refine mw_getr C Z hP (30) 1 (1) (by decide) sx_30 rfl rfl (by decide) inX11 tw_3_0 dX11_tells_51 ?_
          refine lv_aload_n C.1 C.2.1 dX11_tells_54 rfl (lv_at hl 1 rfl) ?_
          refine mw_getr C Z hP (30) 0 (0) (by decide) sx_30 rfl rfl (by decide) inX11 tw_2_239 dX11_tells_55 ?_
          refine mw_cVv (As := [.ref (mw_a E 0)]) (rest := []) C Z hP hS (1) (cX_becomeS l E σ 1 0 (by decide) (by decide) (by decide) n hn h8) vb_X6_become tw_4_6 ⟨rfl, rfl⟩ ⟨Nat.le_of_ble_eq_true rfl, Nat.le_of_ble_eq_true rfl⟩ (by decide) sx_1 rfl rfl rfl hl.1 rfl (Nat.le_of_ble_eq_true rfl) dX11_tells_58 ⟨Nat.zero_le _, Nat.zero_le _⟩ (fun u18 H locs q19 hP hS => ?_)
          have su20 := q19.su (fun j => j = 0) (fun f => f = 3) hqn
          refine lv_aload_n C.1 C.2.1 dX11_tells_61 rfl (lv_at hl 1 rfl) ?_
          refine mw_getr C Z hP (30) 1 (1) (by decide) sx_30 rfl rfl (by decide) inX11 tw_3_0 dX11_tells_62 ?_
          refine mw_getr C Z hP (1) 7 (4) (by decide) sx_1 rfl rfl (by decide) inX6 tw_1_96 dX11_tells_65 ?_
          refine lv_iload_n C.1 C.2.1 dX11_tells_68 rfl (lv_at hl 3 rfl) ?_
          refine mw_aald C Z hP (4) (q) (by decide) sx_4 (by decide) rfl (Nat.lt_of_lt_of_le (by decide : 8 < 961) (Nat.le_of_ble_eq_true rfl)) rfl (by omega) dX11_tells_69 ?_
          refine lv_astore (lv' := [(5, .ref (mw_a E (14 + q))), (4, .ref (mw_a E (67 + s))), (0, .ref (mw_a E 30)), (1, .int (nI s)), (2, .int (nI q)), (3, .int 3)]) C.1 C.2.1 dX11_tells_70 hl (by decide) rfl (fun ls hl => ?_)
          refine lv_iload_n C.1 C.2.1 dX11_tells_72 rfl (lv_at hl 5 rfl) ?_
          refine lv_if_ne (tgt := 87) C.1 C.2.1 dX11_tells_73 (by decide) (fun c21 => ?_) (fun c21 => ?_)
          · refine lv_aload_n C.1 C.2.1 dX11_tells_87 rfl (lv_at hl 2 rfl) ?_
            refine lv_aload C.1 C.2.1 dX11_tells_88 (lv_at hl 1 rfl) ?_
            refine lv_aload C.1 C.2.1 dX11_tells_90 (lv_at hl 0 rfl) ?_
            refine lv_iload_n C.1 C.2.1 dX11_tells_92 rfl (lv_at hl 5 rfl) ?_
            refine mw_cVi (As := [.ref (mw_a E (67 + s)), .ref (mw_a E (14 + q)), .int 3]) (rest := []) C Z hP hS (30) (cX_allBy3 l E σ u18 z hru s hs m hm hm4 q hq su20) vb_X11_allBy tw_4_61 ⟨rfl, rfl⟩ ⟨Nat.le_of_ble_eq_true rfl, Nat.le_of_ble_eq_true rfl⟩ (by decide) sx_30 rfl rfl rfl hl.1 rfl (Nat.le_of_ble_eq_true rfl) dX11_tells_93 ⟨Nat.zero_le _, Nat.zero_le _⟩ (fun r22 u23 H locs q24 hP hS => ?_)
            obtain ⟨e26, f25⟩ := q24
            subst e26
            exact mw_iret C hr hlk Z hP hS dX11_tells_96 (⟨by rw [if_neg (fun y => y.elim (fun y => y hrs) (fun y => y hhas)), if_neg (by rw [es]; exact hms), es, eq, hm, nI_clamp (n := m) (by omega)], f25⟩)
          · exact absurd c21 (by decide)
        · have c16 := bI_n.mp c16
          refine lv_bipush (v := -11) C.1 C.2.1 dX11_tells_47 (by decide) ?_
          exact mw_iret C hr hlk Z hP hS dX11_tells_49 (⟨by rw [if_neg (fun y => y.elim (fun y => y hrs) (fun y => y hhas)), if_pos (by rw [es]; exact c16)], (xQs.rf σ)⟩)
      · exact absurd c12 (by decide)

set_option maxHeartbeats 4000000 in
set_option maxRecDepth 100000 in
theorem cX_tells4 (l : Launch) (E : mw_E) (σ : mw_M) (n : Nat) (hn : σ.1 0 6 = nI n) (h8 : n ≤ 8) (z : zP) (hru : xRu σ 0 z) (hsh : xShs σ) (ss oo : Int32) : mw_Ci shX 75 gX l yX11_tells cX11_tells 6 (some .int) (rmF 7 206) E [.ref (mw_a E 30), .int ss, .int oo, .int 4] σ (fun r u => r = (if ¬ (0 ≤ ss.toInt ∧ ss.toInt ≤ 3) ∨ ¬ (0 ≤ oo.toInt ∧ oo.toInt < n) then -2 else if σ.1 (67 + ss.toNatClampNeg) 0 = -1 then -11 else tellP3 (fun v => okF z (σ.1 0) (upd (cuX σ 0 oo.toNatClampNeg) 3 (nI v)) (σ.2.1 (71 + ss.toNatClampNeg)) (σ.1 (67 + ss.toNatClampNeg) 1).toNatClampNeg) 0 100 4) ∧ xQs σ u) := by
  refine mw_of (by decide) gX_ok (Nat.le_of_ble_eq_true rfl) ?_
  intro p_ e_ s_ m_ below meth c_ C hr hlk Z hP ls hl
  have C : CallFix p_ m_ c_ cX11_tells 6 s_ _ lw_good RX11 := C
  have hl : lv_has ls 6 [(0, .ref (mw_a E 30)), (1, .int ss), (2, .int oo), (3, .int 4)] := hl
  have hS : va_S (mw_A 75 E) s_.heap s_.heap [] := va_S.rf
  refine lv_iload_n C.1 C.2.1 dX11_tells_0 rfl (lv_at hl 1 rfl) ?_
  refine mw_cSi (As := [.int ss]) (rest := []) C Z hP hS (cX_isSheet l E σ ss) sb_X11_isSheet tw_4_50 ⟨rfl, rfl⟩ ⟨Nat.le_of_ble_eq_true rfl, Nat.le_of_ble_eq_true rfl⟩ rfl hl.1 rfl (Nat.le_of_ble_eq_true rfl) dX11_tells_1 ⟨Nat.zero_le _, Nat.zero_le _⟩ (fun r1 u2 H locs q3 hP hS => ?_)
  obtain ⟨rfl, q3u⟩ := q3
  rw [q3u] at hP; clear q3u
  refine lv_if_eq (tgt := 28) C.1 C.2.1 dX11_tells_4 (by decide) (fun c4 => ?_) (fun c4 => ?_)
  · have c4 := bI_0.mp c4
    refine lv_bipush (v := -2) C.1 C.2.1 dX11_tells_28 (by decide) ?_
    exact mw_iret C hr hlk Z hP hS dX11_tells_30 (⟨by rw [if_pos (Or.inl c4)], (xQs.rf σ)⟩)
  · have c4 := bI_n.mp c4
    have hrs := c4
    obtain ⟨s, hs3, es0⟩ := nI_ofI (k := 3) hrs.1 hrs.2
    have hs : s < 4 := by omega
    subst es0
    have es : (nI s).toNatClampNeg = s := nI_clamp (by omega)
    obtain ⟨m, hm4, hm⟩ := hsh s hs
    refine lv_aload_n C.1 C.2.1 dX11_tells_7 rfl (lv_at hl 0 rfl) ?_
    refine mw_getr C Z hP (30) 0 (0) (by decide) sx_30 rfl rfl (by decide) inX11 tw_2_239 dX11_tells_8 ?_
    refine lv_iload_n C.1 C.2.1 dX11_tells_11 rfl (lv_at hl 2 rfl) ?_
    refine mw_cVi (As := [.int oo]) (rest := []) C Z hP hS (0) (cX_hasS l E σ 0 (by decide) n hn h8 oo) vb_X6_has tw_3_53 ⟨rfl, rfl⟩ ⟨Nat.le_of_ble_eq_true rfl, Nat.le_of_ble_eq_true rfl⟩ (by decide) sx_0 rfl rfl rfl hl.1 rfl (Nat.le_of_ble_eq_true rfl) dX11_tells_12 ⟨Nat.zero_le _, Nat.zero_le _⟩ (fun r5 u6 H locs q7 hP hS => ?_)
    obtain ⟨rfl, q7u⟩ := q7
    rw [q7u] at hP; clear q7u
    refine lv_if_eq (tgt := 28) C.1 C.2.1 dX11_tells_15 (by decide) (fun c8 => ?_) (fun c8 => ?_)
    · have c8 := bI_0.mp c8
      refine lv_bipush (v := -2) C.1 C.2.1 dX11_tells_28 (by decide) ?_
      exact mw_iret C hr hlk Z hP hS dX11_tells_30 (⟨by rw [if_pos (Or.inr c8)], (xQs.rf σ)⟩)
    · have c8 := bI_n.mp c8
      have hhas := c8
      obtain ⟨q, hq8, eq0⟩ := nI_ofI (k := 8) hhas.1 (by omega)
      have hqn : q < n := by have y := hhas.2; rw [eq0, nI_toInt (by omega)] at y; omega
      have hq : q < 8 := by omega
      subst eq0
      have eq : (nI q).toNatClampNeg = q := nI_clamp (by omega)
      refine lv_iload_n C.1 C.2.1 dX11_tells_18 rfl (lv_at hl 3 rfl) ?_
      refine lv_iconst (v := 0) C.1 C.2.1 dX11_tells_19 (by decide) ?_
      refine lv_bipush (v := 7) C.1 C.2.1 dX11_tells_20 (by decide) ?_
      refine mw_cSi (As := [.int 4, .int 0, .int 7]) (rest := []) C Z hP hS (cX_isWithin2 l E σ (4 : Int32) (0 : Int32) (7 : Int32) True (by decide)) sb_X11_isWithin tw_3_42 ⟨rfl, rfl⟩ ⟨Nat.le_of_ble_eq_true rfl, Nat.le_of_ble_eq_true rfl⟩ rfl hl.1 rfl (Nat.le_of_ble_eq_true rfl) dX11_tells_22 ⟨Nat.zero_le _, Nat.zero_le _⟩ (fun r9 u10 H locs q11 hP hS => ?_)
      obtain ⟨rfl, q11u⟩ := q11
      rw [q11u] at hP; clear q11u
      refine mw_top (y := 1) (bI_t trivial) ?_
      refine lv_if_ne (tgt := 31) C.1 C.2.1 dX11_tells_25 (by decide) (fun c12 => ?_) (fun c12 => ?_)
      · refine lv_aload_n C.1 C.2.1 dX11_tells_31 rfl (lv_at hl 0 rfl) ?_
        refine mw_getr C Z hP (30) 10 (66) (by decide) sx_30 rfl rfl (by decide) inX11 tw_3_9 dX11_tells_32 ?_
        refine lv_iload_n C.1 C.2.1 dX11_tells_35 rfl (lv_at hl 1 rfl) ?_
        refine mw_aald C Z hP (66) (s) (by decide) sx_66 (by decide) rfl (Nat.lt_of_lt_of_le (by decide : 4 < 961) (Nat.le_of_ble_eq_true rfl)) rfl (by omega) dX11_tells_36 ?_
        refine lv_astore (lv' := [(4, .ref (mw_a E (67 + s))), (0, .ref (mw_a E 30)), (1, .int (nI s)), (2, .int (nI q)), (3, .int 4)]) C.1 C.2.1 dX11_tells_37 hl (by decide) rfl (fun ls hl => ?_)
        refine lv_aload C.1 C.2.1 dX11_tells_39 (lv_at hl 0 rfl) ?_
        refine mw_cVi (As := []) (rest := []) C Z hP hS (67 + s) (cX_missing l E σ s (by omega)) vb_X5_isMissing tw_4_53 ⟨rfl, rfl⟩ ⟨Nat.le_of_ble_eq_true rfl, Nat.le_of_ble_eq_true rfl⟩ (by omega) (sx_sh (by omega)) rfl rfl rfl hl.1 rfl (Nat.le_of_ble_eq_true rfl) dX11_tells_41 ⟨Nat.zero_le _, Nat.zero_le _⟩ (fun r13 u14 H locs q15 hP hS => ?_)
        obtain ⟨rfl, q15u⟩ := q15
        rw [q15u] at hP; clear q15u
        refine lv_if_eq (tgt := 50) C.1 C.2.1 dX11_tells_44 (by decide) (fun c16 => ?_) (fun c16 => ?_)
        · have c16 := bI_0.mp c16
          have hms := c16
          refine lv_aload_n C.1 C.2.1 dX11_tells_50 rfl (lv_at hl 1 rfl) ?_
          refine mw_getr C Z hP (30) 1 (1) (by decide) sx_30 rfl rfl (by decide) inX11 tw_3_0 dX11_tells_51 ?_
          refine lv_aload_n C.1 C.2.1 dX11_tells_54 rfl (lv_at hl 1 rfl) ?_
          refine mw_getr C Z hP (30) 0 (0) (by decide) sx_30 rfl rfl (by decide) inX11 tw_2_239 dX11_tells_55 ?_
          refine mw_cVv (As := [.ref (mw_a E 0)]) (rest := []) C Z hP hS (1) (cX_becomeS l E σ 1 0 (by decide) (by decide) (by decide) n hn h8) vb_X6_become tw_4_6 ⟨rfl, rfl⟩ ⟨Nat.le_of_ble_eq_true rfl, Nat.le_of_ble_eq_true rfl⟩ (by decide) sx_1 rfl rfl rfl hl.1 rfl (Nat.le_of_ble_eq_true rfl) dX11_tells_58 ⟨Nat.zero_le _, Nat.zero_le _⟩ (fun u18 H locs q19 hP hS => ?_)
          have su20 := q19.su (fun j => j = 0) (fun f => f = 3) hqn
          refine lv_aload_n C.1 C.2.1 dX11_tells_61 rfl (lv_at hl 1 rfl) ?_
          refine mw_getr C Z hP (30) 1 (1) (by decide) sx_30 rfl rfl (by decide) inX11 tw_3_0 dX11_tells_62 ?_
          refine mw_getr C Z hP (1) 7 (4) (by decide) sx_1 rfl rfl (by decide) inX6 tw_1_96 dX11_tells_65 ?_
          refine lv_iload_n C.1 C.2.1 dX11_tells_68 rfl (lv_at hl 3 rfl) ?_
          refine mw_aald C Z hP (4) (q) (by decide) sx_4 (by decide) rfl (Nat.lt_of_lt_of_le (by decide : 8 < 961) (Nat.le_of_ble_eq_true rfl)) rfl (by omega) dX11_tells_69 ?_
          refine lv_astore (lv' := [(5, .ref (mw_a E (14 + q))), (4, .ref (mw_a E (67 + s))), (0, .ref (mw_a E 30)), (1, .int (nI s)), (2, .int (nI q)), (3, .int 4)]) C.1 C.2.1 dX11_tells_70 hl (by decide) rfl (fun ls hl => ?_)
          refine lv_iload_n C.1 C.2.1 dX11_tells_72 rfl (lv_at hl 5 rfl) ?_
          refine lv_if_ne (tgt := 87) C.1 C.2.1 dX11_tells_73 (by decide) (fun c21 => ?_) (fun c21 => ?_)
          · refine lv_aload_n C.1 C.2.1 dX11_tells_87 rfl (lv_at hl 2 rfl) ?_
            refine lv_aload C.1 C.2.1 dX11_tells_88 (lv_at hl 1 rfl) ?_
            refine lv_aload C.1 C.2.1 dX11_tells_90 (lv_at hl 0 rfl) ?_
            refine lv_iload_n C.1 C.2.1 dX11_tells_92 rfl (lv_at hl 5 rfl) ?_
            refine mw_cVi (As := [.ref (mw_a E (67 + s)), .ref (mw_a E (14 + q)), .int 4]) (rest := []) C Z hP hS (30) (cX_allBy4 l E σ u18 z hru s hs m hm hm4 q hq su20) vb_X11_allBy tw_4_61 ⟨rfl, rfl⟩ ⟨Nat.le_of_ble_eq_true rfl, Nat.le_of_ble_eq_true rfl⟩ (by decide) sx_30 rfl rfl rfl hl.1 rfl (Nat.le_of_ble_eq_true rfl) dX11_tells_93 ⟨Nat.zero_le _, Nat.zero_le _⟩ (fun r22 u23 H locs q24 hP hS => ?_)
            obtain ⟨e26, f25⟩ := q24
            subst e26
            exact mw_iret C hr hlk Z hP hS dX11_tells_96 (⟨by rw [if_neg (fun y => y.elim (fun y => y hrs) (fun y => y hhas)), if_neg (by rw [es]; exact hms), es, eq, hm, nI_clamp (n := m) (by omega)], f25⟩)
          · exact absurd c21 (by decide)
        · have c16 := bI_n.mp c16
          refine lv_bipush (v := -11) C.1 C.2.1 dX11_tells_47 (by decide) ?_
          exact mw_iret C hr hlk Z hP hS dX11_tells_49 (⟨by rw [if_neg (fun y => y.elim (fun y => y hrs) (fun y => y hhas)), if_pos (by rw [es]; exact c16)], (xQs.rf σ)⟩)
      · exact absurd c12 (by decide)

set_option maxHeartbeats 4000000 in
set_option maxRecDepth 100000 in
theorem cX_tells5 (l : Launch) (E : mw_E) (σ : mw_M) (n : Nat) (hn : σ.1 0 6 = nI n) (h8 : n ≤ 8) (z : zP) (hru : xRu σ 0 z) (hsh : xShs σ) (ss oo : Int32) : mw_Ci shX 75 gX l yX11_tells cX11_tells 6 (some .int) (rmF 7 206) E [.ref (mw_a E 30), .int ss, .int oo, .int 5] σ (fun r u => r = (if ¬ (0 ≤ ss.toInt ∧ ss.toInt ≤ 3) ∨ ¬ (0 ≤ oo.toInt ∧ oo.toInt < n) then -2 else if σ.1 (67 + ss.toNatClampNeg) 0 = -1 then -11 else tellP3 (fun v => okF z (σ.1 0) (upd (cuX σ 0 oo.toNatClampNeg) 2 (nI v)) (σ.2.1 (71 + ss.toNatClampNeg)) (σ.1 (67 + ss.toNatClampNeg) 1).toNatClampNeg) 0 10 5) ∧ xQs σ u) := by
  refine mw_of (by decide) gX_ok (Nat.le_of_ble_eq_true rfl) ?_
  intro p_ e_ s_ m_ below meth c_ C hr hlk Z hP ls hl
  have C : CallFix p_ m_ c_ cX11_tells 6 s_ _ lw_good RX11 := C
  have hl : lv_has ls 6 [(0, .ref (mw_a E 30)), (1, .int ss), (2, .int oo), (3, .int 5)] := hl
  have hS : va_S (mw_A 75 E) s_.heap s_.heap [] := va_S.rf
  refine lv_iload_n C.1 C.2.1 dX11_tells_0 rfl (lv_at hl 1 rfl) ?_
  refine mw_cSi (As := [.int ss]) (rest := []) C Z hP hS (cX_isSheet l E σ ss) sb_X11_isSheet tw_4_50 ⟨rfl, rfl⟩ ⟨Nat.le_of_ble_eq_true rfl, Nat.le_of_ble_eq_true rfl⟩ rfl hl.1 rfl (Nat.le_of_ble_eq_true rfl) dX11_tells_1 ⟨Nat.zero_le _, Nat.zero_le _⟩ (fun r1 u2 H locs q3 hP hS => ?_)
  obtain ⟨rfl, q3u⟩ := q3
  rw [q3u] at hP; clear q3u
  refine lv_if_eq (tgt := 28) C.1 C.2.1 dX11_tells_4 (by decide) (fun c4 => ?_) (fun c4 => ?_)
  · have c4 := bI_0.mp c4
    refine lv_bipush (v := -2) C.1 C.2.1 dX11_tells_28 (by decide) ?_
    exact mw_iret C hr hlk Z hP hS dX11_tells_30 (⟨by rw [if_pos (Or.inl c4)], (xQs.rf σ)⟩)
  · have c4 := bI_n.mp c4
    have hrs := c4
    obtain ⟨s, hs3, es0⟩ := nI_ofI (k := 3) hrs.1 hrs.2
    have hs : s < 4 := by omega
    subst es0
    have es : (nI s).toNatClampNeg = s := nI_clamp (by omega)
    obtain ⟨m, hm4, hm⟩ := hsh s hs
    refine lv_aload_n C.1 C.2.1 dX11_tells_7 rfl (lv_at hl 0 rfl) ?_
    refine mw_getr C Z hP (30) 0 (0) (by decide) sx_30 rfl rfl (by decide) inX11 tw_2_239 dX11_tells_8 ?_
    refine lv_iload_n C.1 C.2.1 dX11_tells_11 rfl (lv_at hl 2 rfl) ?_
    refine mw_cVi (As := [.int oo]) (rest := []) C Z hP hS (0) (cX_hasS l E σ 0 (by decide) n hn h8 oo) vb_X6_has tw_3_53 ⟨rfl, rfl⟩ ⟨Nat.le_of_ble_eq_true rfl, Nat.le_of_ble_eq_true rfl⟩ (by decide) sx_0 rfl rfl rfl hl.1 rfl (Nat.le_of_ble_eq_true rfl) dX11_tells_12 ⟨Nat.zero_le _, Nat.zero_le _⟩ (fun r5 u6 H locs q7 hP hS => ?_)
    obtain ⟨rfl, q7u⟩ := q7
    rw [q7u] at hP; clear q7u
    refine lv_if_eq (tgt := 28) C.1 C.2.1 dX11_tells_15 (by decide) (fun c8 => ?_) (fun c8 => ?_)
    · have c8 := bI_0.mp c8
      refine lv_bipush (v := -2) C.1 C.2.1 dX11_tells_28 (by decide) ?_
      exact mw_iret C hr hlk Z hP hS dX11_tells_30 (⟨by rw [if_pos (Or.inr c8)], (xQs.rf σ)⟩)
    · have c8 := bI_n.mp c8
      have hhas := c8
      obtain ⟨q, hq8, eq0⟩ := nI_ofI (k := 8) hhas.1 (by omega)
      have hqn : q < n := by have y := hhas.2; rw [eq0, nI_toInt (by omega)] at y; omega
      have hq : q < 8 := by omega
      subst eq0
      have eq : (nI q).toNatClampNeg = q := nI_clamp (by omega)
      refine lv_iload_n C.1 C.2.1 dX11_tells_18 rfl (lv_at hl 3 rfl) ?_
      refine lv_iconst (v := 0) C.1 C.2.1 dX11_tells_19 (by decide) ?_
      refine lv_bipush (v := 7) C.1 C.2.1 dX11_tells_20 (by decide) ?_
      refine mw_cSi (As := [.int 5, .int 0, .int 7]) (rest := []) C Z hP hS (cX_isWithin2 l E σ (5 : Int32) (0 : Int32) (7 : Int32) True (by decide)) sb_X11_isWithin tw_3_42 ⟨rfl, rfl⟩ ⟨Nat.le_of_ble_eq_true rfl, Nat.le_of_ble_eq_true rfl⟩ rfl hl.1 rfl (Nat.le_of_ble_eq_true rfl) dX11_tells_22 ⟨Nat.zero_le _, Nat.zero_le _⟩ (fun r9 u10 H locs q11 hP hS => ?_)
      obtain ⟨rfl, q11u⟩ := q11
      rw [q11u] at hP; clear q11u
      refine mw_top (y := 1) (bI_t trivial) ?_
      refine lv_if_ne (tgt := 31) C.1 C.2.1 dX11_tells_25 (by decide) (fun c12 => ?_) (fun c12 => ?_)
      · refine lv_aload_n C.1 C.2.1 dX11_tells_31 rfl (lv_at hl 0 rfl) ?_
        refine mw_getr C Z hP (30) 10 (66) (by decide) sx_30 rfl rfl (by decide) inX11 tw_3_9 dX11_tells_32 ?_
        refine lv_iload_n C.1 C.2.1 dX11_tells_35 rfl (lv_at hl 1 rfl) ?_
        refine mw_aald C Z hP (66) (s) (by decide) sx_66 (by decide) rfl (Nat.lt_of_lt_of_le (by decide : 4 < 961) (Nat.le_of_ble_eq_true rfl)) rfl (by omega) dX11_tells_36 ?_
        refine lv_astore (lv' := [(4, .ref (mw_a E (67 + s))), (0, .ref (mw_a E 30)), (1, .int (nI s)), (2, .int (nI q)), (3, .int 5)]) C.1 C.2.1 dX11_tells_37 hl (by decide) rfl (fun ls hl => ?_)
        refine lv_aload C.1 C.2.1 dX11_tells_39 (lv_at hl 0 rfl) ?_
        refine mw_cVi (As := []) (rest := []) C Z hP hS (67 + s) (cX_missing l E σ s (by omega)) vb_X5_isMissing tw_4_53 ⟨rfl, rfl⟩ ⟨Nat.le_of_ble_eq_true rfl, Nat.le_of_ble_eq_true rfl⟩ (by omega) (sx_sh (by omega)) rfl rfl rfl hl.1 rfl (Nat.le_of_ble_eq_true rfl) dX11_tells_41 ⟨Nat.zero_le _, Nat.zero_le _⟩ (fun r13 u14 H locs q15 hP hS => ?_)
        obtain ⟨rfl, q15u⟩ := q15
        rw [q15u] at hP; clear q15u
        refine lv_if_eq (tgt := 50) C.1 C.2.1 dX11_tells_44 (by decide) (fun c16 => ?_) (fun c16 => ?_)
        · have c16 := bI_0.mp c16
          have hms := c16
          refine lv_aload_n C.1 C.2.1 dX11_tells_50 rfl (lv_at hl 1 rfl) ?_
          refine mw_getr C Z hP (30) 1 (1) (by decide) sx_30 rfl rfl (by decide) inX11 tw_3_0 dX11_tells_51 ?_
          refine lv_aload_n C.1 C.2.1 dX11_tells_54 rfl (lv_at hl 1 rfl) ?_
          refine mw_getr C Z hP (30) 0 (0) (by decide) sx_30 rfl rfl (by decide) inX11 tw_2_239 dX11_tells_55 ?_
          refine mw_cVv (As := [.ref (mw_a E 0)]) (rest := []) C Z hP hS (1) (cX_becomeS l E σ 1 0 (by decide) (by decide) (by decide) n hn h8) vb_X6_become tw_4_6 ⟨rfl, rfl⟩ ⟨Nat.le_of_ble_eq_true rfl, Nat.le_of_ble_eq_true rfl⟩ (by decide) sx_1 rfl rfl rfl hl.1 rfl (Nat.le_of_ble_eq_true rfl) dX11_tells_58 ⟨Nat.zero_le _, Nat.zero_le _⟩ (fun u18 H locs q19 hP hS => ?_)
          have su20 := q19.su (fun j => j = 0) (fun f => f = 2) hqn
          refine lv_aload_n C.1 C.2.1 dX11_tells_61 rfl (lv_at hl 1 rfl) ?_
          refine mw_getr C Z hP (30) 1 (1) (by decide) sx_30 rfl rfl (by decide) inX11 tw_3_0 dX11_tells_62 ?_
          refine mw_getr C Z hP (1) 7 (4) (by decide) sx_1 rfl rfl (by decide) inX6 tw_1_96 dX11_tells_65 ?_
          refine lv_iload_n C.1 C.2.1 dX11_tells_68 rfl (lv_at hl 3 rfl) ?_
          refine mw_aald C Z hP (4) (q) (by decide) sx_4 (by decide) rfl (Nat.lt_of_lt_of_le (by decide : 8 < 961) (Nat.le_of_ble_eq_true rfl)) rfl (by omega) dX11_tells_69 ?_
          refine lv_astore (lv' := [(5, .ref (mw_a E (14 + q))), (4, .ref (mw_a E (67 + s))), (0, .ref (mw_a E 30)), (1, .int (nI s)), (2, .int (nI q)), (3, .int 5)]) C.1 C.2.1 dX11_tells_70 hl (by decide) rfl (fun ls hl => ?_)
          refine lv_iload_n C.1 C.2.1 dX11_tells_72 rfl (lv_at hl 5 rfl) ?_
          refine lv_if_ne (tgt := 87) C.1 C.2.1 dX11_tells_73 (by decide) (fun c21 => ?_) (fun c21 => ?_)
          · refine lv_aload_n C.1 C.2.1 dX11_tells_87 rfl (lv_at hl 2 rfl) ?_
            refine lv_aload C.1 C.2.1 dX11_tells_88 (lv_at hl 1 rfl) ?_
            refine lv_aload C.1 C.2.1 dX11_tells_90 (lv_at hl 0 rfl) ?_
            refine lv_iload_n C.1 C.2.1 dX11_tells_92 rfl (lv_at hl 5 rfl) ?_
            refine mw_cVi (As := [.ref (mw_a E (67 + s)), .ref (mw_a E (14 + q)), .int 5]) (rest := []) C Z hP hS (30) (cX_allBy5 l E σ u18 z hru s hs m hm hm4 q hq su20) vb_X11_allBy tw_4_61 ⟨rfl, rfl⟩ ⟨Nat.le_of_ble_eq_true rfl, Nat.le_of_ble_eq_true rfl⟩ (by decide) sx_30 rfl rfl rfl hl.1 rfl (Nat.le_of_ble_eq_true rfl) dX11_tells_93 ⟨Nat.zero_le _, Nat.zero_le _⟩ (fun r22 u23 H locs q24 hP hS => ?_)
            obtain ⟨e26, f25⟩ := q24
            subst e26
            exact mw_iret C hr hlk Z hP hS dX11_tells_96 (⟨by rw [if_neg (fun y => y.elim (fun y => y hrs) (fun y => y hhas)), if_neg (by rw [es]; exact hms), es, eq, hm, nI_clamp (n := m) (by omega)], f25⟩)
          · exact absurd c21 (by decide)
        · have c16 := bI_n.mp c16
          refine lv_bipush (v := -11) C.1 C.2.1 dX11_tells_47 (by decide) ?_
          exact mw_iret C hr hlk Z hP hS dX11_tells_49 (⟨by rw [if_neg (fun y => y.elim (fun y => y hrs) (fun y => y hhas)), if_pos (by rw [es]; exact c16)], (xQs.rf σ)⟩)
      · exact absurd c12 (by decide)

set_option maxHeartbeats 4000000 in
set_option maxRecDepth 100000 in
theorem cX_tells6 (l : Launch) (E : mw_E) (σ : mw_M) (n : Nat) (hn : σ.1 0 6 = nI n) (h8 : n ≤ 8) (z : zP) (hru : xRu σ 0 z) (hsh : xShs σ) (ss oo : Int32) : mw_Ci shX 75 gX l yX11_tells cX11_tells 6 (some .int) (rmF 7 206) E [.ref (mw_a E 30), .int ss, .int oo, .int 6] σ (fun r u => r = (if ¬ (0 ≤ ss.toInt ∧ ss.toInt ≤ 3) ∨ ¬ (0 ≤ oo.toInt ∧ oo.toInt < n) then -2 else if σ.1 (67 + ss.toNatClampNeg) 0 = -1 then -11 else tellP3 (fun v => okF z (upd (σ.1 0) 1 (nI v)) (cuX σ 0 oo.toNatClampNeg) (σ.2.1 (71 + ss.toNatClampNeg)) (σ.1 (67 + ss.toNatClampNeg) 1).toNatClampNeg) 1 6 6) ∧ xQs σ u) := by
  refine mw_of (by decide) gX_ok (Nat.le_of_ble_eq_true rfl) ?_
  intro p_ e_ s_ m_ below meth c_ C hr hlk Z hP ls hl
  have C : CallFix p_ m_ c_ cX11_tells 6 s_ _ lw_good RX11 := C
  have hl : lv_has ls 6 [(0, .ref (mw_a E 30)), (1, .int ss), (2, .int oo), (3, .int 6)] := hl
  have hS : va_S (mw_A 75 E) s_.heap s_.heap [] := va_S.rf
  refine lv_iload_n C.1 C.2.1 dX11_tells_0 rfl (lv_at hl 1 rfl) ?_
  refine mw_cSi (As := [.int ss]) (rest := []) C Z hP hS (cX_isSheet l E σ ss) sb_X11_isSheet tw_4_50 ⟨rfl, rfl⟩ ⟨Nat.le_of_ble_eq_true rfl, Nat.le_of_ble_eq_true rfl⟩ rfl hl.1 rfl (Nat.le_of_ble_eq_true rfl) dX11_tells_1 ⟨Nat.zero_le _, Nat.zero_le _⟩ (fun r1 u2 H locs q3 hP hS => ?_)
  obtain ⟨rfl, q3u⟩ := q3
  rw [q3u] at hP; clear q3u
  refine lv_if_eq (tgt := 28) C.1 C.2.1 dX11_tells_4 (by decide) (fun c4 => ?_) (fun c4 => ?_)
  · have c4 := bI_0.mp c4
    refine lv_bipush (v := -2) C.1 C.2.1 dX11_tells_28 (by decide) ?_
    exact mw_iret C hr hlk Z hP hS dX11_tells_30 (⟨by rw [if_pos (Or.inl c4)], (xQs.rf σ)⟩)
  · have c4 := bI_n.mp c4
    have hrs := c4
    obtain ⟨s, hs3, es0⟩ := nI_ofI (k := 3) hrs.1 hrs.2
    have hs : s < 4 := by omega
    subst es0
    have es : (nI s).toNatClampNeg = s := nI_clamp (by omega)
    obtain ⟨m, hm4, hm⟩ := hsh s hs
    refine lv_aload_n C.1 C.2.1 dX11_tells_7 rfl (lv_at hl 0 rfl) ?_
    refine mw_getr C Z hP (30) 0 (0) (by decide) sx_30 rfl rfl (by decide) inX11 tw_2_239 dX11_tells_8 ?_
    refine lv_iload_n C.1 C.2.1 dX11_tells_11 rfl (lv_at hl 2 rfl) ?_
    refine mw_cVi (As := [.int oo]) (rest := []) C Z hP hS (0) (cX_hasS l E σ 0 (by decide) n hn h8 oo) vb_X6_has tw_3_53 ⟨rfl, rfl⟩ ⟨Nat.le_of_ble_eq_true rfl, Nat.le_of_ble_eq_true rfl⟩ (by decide) sx_0 rfl rfl rfl hl.1 rfl (Nat.le_of_ble_eq_true rfl) dX11_tells_12 ⟨Nat.zero_le _, Nat.zero_le _⟩ (fun r5 u6 H locs q7 hP hS => ?_)
    obtain ⟨rfl, q7u⟩ := q7
    rw [q7u] at hP; clear q7u
    refine lv_if_eq (tgt := 28) C.1 C.2.1 dX11_tells_15 (by decide) (fun c8 => ?_) (fun c8 => ?_)
    · have c8 := bI_0.mp c8
      refine lv_bipush (v := -2) C.1 C.2.1 dX11_tells_28 (by decide) ?_
      exact mw_iret C hr hlk Z hP hS dX11_tells_30 (⟨by rw [if_pos (Or.inr c8)], (xQs.rf σ)⟩)
    · have c8 := bI_n.mp c8
      have hhas := c8
      obtain ⟨q, hq8, eq0⟩ := nI_ofI (k := 8) hhas.1 (by omega)
      have hqn : q < n := by have y := hhas.2; rw [eq0, nI_toInt (by omega)] at y; omega
      have hq : q < 8 := by omega
      subst eq0
      have eq : (nI q).toNatClampNeg = q := nI_clamp (by omega)
      refine lv_iload_n C.1 C.2.1 dX11_tells_18 rfl (lv_at hl 3 rfl) ?_
      refine lv_iconst (v := 0) C.1 C.2.1 dX11_tells_19 (by decide) ?_
      refine lv_bipush (v := 7) C.1 C.2.1 dX11_tells_20 (by decide) ?_
      refine mw_cSi (As := [.int 6, .int 0, .int 7]) (rest := []) C Z hP hS (cX_isWithin2 l E σ (6 : Int32) (0 : Int32) (7 : Int32) True (by decide)) sb_X11_isWithin tw_3_42 ⟨rfl, rfl⟩ ⟨Nat.le_of_ble_eq_true rfl, Nat.le_of_ble_eq_true rfl⟩ rfl hl.1 rfl (Nat.le_of_ble_eq_true rfl) dX11_tells_22 ⟨Nat.zero_le _, Nat.zero_le _⟩ (fun r9 u10 H locs q11 hP hS => ?_)
      obtain ⟨rfl, q11u⟩ := q11
      rw [q11u] at hP; clear q11u
      refine mw_top (y := 1) (bI_t trivial) ?_
      refine lv_if_ne (tgt := 31) C.1 C.2.1 dX11_tells_25 (by decide) (fun c12 => ?_) (fun c12 => ?_)
      · refine lv_aload_n C.1 C.2.1 dX11_tells_31 rfl (lv_at hl 0 rfl) ?_
        refine mw_getr C Z hP (30) 10 (66) (by decide) sx_30 rfl rfl (by decide) inX11 tw_3_9 dX11_tells_32 ?_
        refine lv_iload_n C.1 C.2.1 dX11_tells_35 rfl (lv_at hl 1 rfl) ?_
        refine mw_aald C Z hP (66) (s) (by decide) sx_66 (by decide) rfl (Nat.lt_of_lt_of_le (by decide : 4 < 961) (Nat.le_of_ble_eq_true rfl)) rfl (by omega) dX11_tells_36 ?_
        refine lv_astore (lv' := [(4, .ref (mw_a E (67 + s))), (0, .ref (mw_a E 30)), (1, .int (nI s)), (2, .int (nI q)), (3, .int 6)]) C.1 C.2.1 dX11_tells_37 hl (by decide) rfl (fun ls hl => ?_)
        refine lv_aload C.1 C.2.1 dX11_tells_39 (lv_at hl 0 rfl) ?_
        refine mw_cVi (As := []) (rest := []) C Z hP hS (67 + s) (cX_missing l E σ s (by omega)) vb_X5_isMissing tw_4_53 ⟨rfl, rfl⟩ ⟨Nat.le_of_ble_eq_true rfl, Nat.le_of_ble_eq_true rfl⟩ (by omega) (sx_sh (by omega)) rfl rfl rfl hl.1 rfl (Nat.le_of_ble_eq_true rfl) dX11_tells_41 ⟨Nat.zero_le _, Nat.zero_le _⟩ (fun r13 u14 H locs q15 hP hS => ?_)
        obtain ⟨rfl, q15u⟩ := q15
        rw [q15u] at hP; clear q15u
        refine lv_if_eq (tgt := 50) C.1 C.2.1 dX11_tells_44 (by decide) (fun c16 => ?_) (fun c16 => ?_)
        · have c16 := bI_0.mp c16
          have hms := c16
          refine lv_aload_n C.1 C.2.1 dX11_tells_50 rfl (lv_at hl 1 rfl) ?_
          refine mw_getr C Z hP (30) 1 (1) (by decide) sx_30 rfl rfl (by decide) inX11 tw_3_0 dX11_tells_51 ?_
          refine lv_aload_n C.1 C.2.1 dX11_tells_54 rfl (lv_at hl 1 rfl) ?_
          refine mw_getr C Z hP (30) 0 (0) (by decide) sx_30 rfl rfl (by decide) inX11 tw_2_239 dX11_tells_55 ?_
          refine mw_cVv (As := [.ref (mw_a E 0)]) (rest := []) C Z hP hS (1) (cX_becomeS l E σ 1 0 (by decide) (by decide) (by decide) n hn h8) vb_X6_become tw_4_6 ⟨rfl, rfl⟩ ⟨Nat.le_of_ble_eq_true rfl, Nat.le_of_ble_eq_true rfl⟩ (by decide) sx_1 rfl rfl rfl hl.1 rfl (Nat.le_of_ble_eq_true rfl) dX11_tells_58 ⟨Nat.zero_le _, Nat.zero_le _⟩ (fun u18 H locs q19 hP hS => ?_)
          have su20 := q19.su (fun j => j = 0 ∨ j = 1) (fun _ => False) hqn
          refine lv_aload_n C.1 C.2.1 dX11_tells_61 rfl (lv_at hl 1 rfl) ?_
          refine mw_getr C Z hP (30) 1 (1) (by decide) sx_30 rfl rfl (by decide) inX11 tw_3_0 dX11_tells_62 ?_
          refine mw_getr C Z hP (1) 7 (4) (by decide) sx_1 rfl rfl (by decide) inX6 tw_1_96 dX11_tells_65 ?_
          refine lv_iload_n C.1 C.2.1 dX11_tells_68 rfl (lv_at hl 3 rfl) ?_
          refine mw_aald C Z hP (4) (q) (by decide) sx_4 (by decide) rfl (Nat.lt_of_lt_of_le (by decide : 8 < 961) (Nat.le_of_ble_eq_true rfl)) rfl (by omega) dX11_tells_69 ?_
          refine lv_astore (lv' := [(5, .ref (mw_a E (14 + q))), (4, .ref (mw_a E (67 + s))), (0, .ref (mw_a E 30)), (1, .int (nI s)), (2, .int (nI q)), (3, .int 6)]) C.1 C.2.1 dX11_tells_70 hl (by decide) rfl (fun ls hl => ?_)
          refine lv_iload_n C.1 C.2.1 dX11_tells_72 rfl (lv_at hl 5 rfl) ?_
          refine lv_if_ne (tgt := 87) C.1 C.2.1 dX11_tells_73 (by decide) (fun c21 => ?_) (fun c21 => ?_)
          · refine lv_aload_n C.1 C.2.1 dX11_tells_87 rfl (lv_at hl 2 rfl) ?_
            refine lv_aload C.1 C.2.1 dX11_tells_88 (lv_at hl 1 rfl) ?_
            refine lv_aload C.1 C.2.1 dX11_tells_90 (lv_at hl 0 rfl) ?_
            refine lv_iload_n C.1 C.2.1 dX11_tells_92 rfl (lv_at hl 5 rfl) ?_
            refine mw_cVi (As := [.ref (mw_a E (67 + s)), .ref (mw_a E (14 + q)), .int 6]) (rest := []) C Z hP hS (30) (cX_allBy6 l E σ u18 z hru s hs m hm hm4 q hq su20) vb_X11_allBy tw_4_61 ⟨rfl, rfl⟩ ⟨Nat.le_of_ble_eq_true rfl, Nat.le_of_ble_eq_true rfl⟩ (by decide) sx_30 rfl rfl rfl hl.1 rfl (Nat.le_of_ble_eq_true rfl) dX11_tells_93 ⟨Nat.zero_le _, Nat.zero_le _⟩ (fun r22 u23 H locs q24 hP hS => ?_)
            obtain ⟨e26, f25⟩ := q24
            subst e26
            exact mw_iret C hr hlk Z hP hS dX11_tells_96 (⟨by rw [if_neg (fun y => y.elim (fun y => y hrs) (fun y => y hhas)), if_neg (by rw [es]; exact hms), es, eq, hm, nI_clamp (n := m) (by omega)], f25⟩)
          · exact absurd c21 (by decide)
        · have c16 := bI_n.mp c16
          refine lv_bipush (v := -11) C.1 C.2.1 dX11_tells_47 (by decide) ?_
          exact mw_iret C hr hlk Z hP hS dX11_tells_49 (⟨by rw [if_neg (fun y => y.elim (fun y => y hrs) (fun y => y hhas)), if_pos (by rw [es]; exact c16)], (xQs.rf σ)⟩)
      · exact absurd c12 (by decide)

set_option maxHeartbeats 4000000 in
set_option maxRecDepth 100000 in
theorem cX_tells7 (l : Launch) (E : mw_E) (σ : mw_M) (n : Nat) (hn : σ.1 0 6 = nI n) (h8 : n ≤ 8) (tc : Nat) (htc : σ.1 37 1 = nI tc) (ht1 : 1 ≤ tc) (h6 : tc ≤ 6) (zz : Nat → zP) (hts : ∀ t, t < tc → xTx σ t (zz t)) (hsh : xShs σ) (ss oo : Int32) : mw_Ci shX 75 gX l yX11_tells cX11_tells 6 (some .int) (rmF 7 206) E [.ref (mw_a E 30), .int ss, .int oo, .int 7] σ (fun r u => r = (if ¬ (0 ≤ ss.toInt ∧ ss.toInt ≤ 3) ∨ ¬ (0 ≤ oo.toInt ∧ oo.toInt < n) then -2 else if σ.1 (67 + ss.toNatClampNeg) 0 = -1 then -11 else tellP3 (fun v => okF (zz v) (σ.1 0) (cuX σ 0 oo.toNatClampNeg) (σ.2.1 (71 + ss.toNatClampNeg)) (σ.1 (67 + ss.toNatClampNeg) 1).toNatClampNeg) 0 tc 7) ∧ xQs σ u) := by
  refine mw_of (by decide) gX_ok (Nat.le_of_ble_eq_true rfl) ?_
  intro p_ e_ s_ m_ below meth c_ C hr hlk Z hP ls hl
  have C : CallFix p_ m_ c_ cX11_tells 6 s_ _ lw_good RX11 := C
  have hl : lv_has ls 6 [(0, .ref (mw_a E 30)), (1, .int ss), (2, .int oo), (3, .int 7)] := hl
  have hS : va_S (mw_A 75 E) s_.heap s_.heap [] := va_S.rf
  refine lv_iload_n C.1 C.2.1 dX11_tells_0 rfl (lv_at hl 1 rfl) ?_
  refine mw_cSi (As := [.int ss]) (rest := []) C Z hP hS (cX_isSheet l E σ ss) sb_X11_isSheet tw_4_50 ⟨rfl, rfl⟩ ⟨Nat.le_of_ble_eq_true rfl, Nat.le_of_ble_eq_true rfl⟩ rfl hl.1 rfl (Nat.le_of_ble_eq_true rfl) dX11_tells_1 ⟨Nat.zero_le _, Nat.zero_le _⟩ (fun r1 u2 H locs q3 hP hS => ?_)
  obtain ⟨rfl, q3u⟩ := q3
  rw [q3u] at hP; clear q3u
  refine lv_if_eq (tgt := 28) C.1 C.2.1 dX11_tells_4 (by decide) (fun c4 => ?_) (fun c4 => ?_)
  · have c4 := bI_0.mp c4
    refine lv_bipush (v := -2) C.1 C.2.1 dX11_tells_28 (by decide) ?_
    exact mw_iret C hr hlk Z hP hS dX11_tells_30 (⟨by rw [if_pos (Or.inl c4)], (xQs.rf σ)⟩)
  · have c4 := bI_n.mp c4
    have hrs := c4
    obtain ⟨s, hs3, es0⟩ := nI_ofI (k := 3) hrs.1 hrs.2
    have hs : s < 4 := by omega
    subst es0
    have es : (nI s).toNatClampNeg = s := nI_clamp (by omega)
    obtain ⟨m, hm4, hm⟩ := hsh s hs
    refine lv_aload_n C.1 C.2.1 dX11_tells_7 rfl (lv_at hl 0 rfl) ?_
    refine mw_getr C Z hP (30) 0 (0) (by decide) sx_30 rfl rfl (by decide) inX11 tw_2_239 dX11_tells_8 ?_
    refine lv_iload_n C.1 C.2.1 dX11_tells_11 rfl (lv_at hl 2 rfl) ?_
    refine mw_cVi (As := [.int oo]) (rest := []) C Z hP hS (0) (cX_hasS l E σ 0 (by decide) n hn h8 oo) vb_X6_has tw_3_53 ⟨rfl, rfl⟩ ⟨Nat.le_of_ble_eq_true rfl, Nat.le_of_ble_eq_true rfl⟩ (by decide) sx_0 rfl rfl rfl hl.1 rfl (Nat.le_of_ble_eq_true rfl) dX11_tells_12 ⟨Nat.zero_le _, Nat.zero_le _⟩ (fun r5 u6 H locs q7 hP hS => ?_)
    obtain ⟨rfl, q7u⟩ := q7
    rw [q7u] at hP; clear q7u
    refine lv_if_eq (tgt := 28) C.1 C.2.1 dX11_tells_15 (by decide) (fun c8 => ?_) (fun c8 => ?_)
    · have c8 := bI_0.mp c8
      refine lv_bipush (v := -2) C.1 C.2.1 dX11_tells_28 (by decide) ?_
      exact mw_iret C hr hlk Z hP hS dX11_tells_30 (⟨by rw [if_pos (Or.inr c8)], (xQs.rf σ)⟩)
    · have c8 := bI_n.mp c8
      have hhas := c8
      obtain ⟨q, hq8, eq0⟩ := nI_ofI (k := 8) hhas.1 (by omega)
      have hqn : q < n := by have y := hhas.2; rw [eq0, nI_toInt (by omega)] at y; omega
      have hq : q < 8 := by omega
      subst eq0
      have eq : (nI q).toNatClampNeg = q := nI_clamp (by omega)
      refine lv_iload_n C.1 C.2.1 dX11_tells_18 rfl (lv_at hl 3 rfl) ?_
      refine lv_iconst (v := 0) C.1 C.2.1 dX11_tells_19 (by decide) ?_
      refine lv_bipush (v := 7) C.1 C.2.1 dX11_tells_20 (by decide) ?_
      refine mw_cSi (As := [.int 7, .int 0, .int 7]) (rest := []) C Z hP hS (cX_isWithin2 l E σ (7 : Int32) (0 : Int32) (7 : Int32) True (by decide)) sb_X11_isWithin tw_3_42 ⟨rfl, rfl⟩ ⟨Nat.le_of_ble_eq_true rfl, Nat.le_of_ble_eq_true rfl⟩ rfl hl.1 rfl (Nat.le_of_ble_eq_true rfl) dX11_tells_22 ⟨Nat.zero_le _, Nat.zero_le _⟩ (fun r9 u10 H locs q11 hP hS => ?_)
      obtain ⟨rfl, q11u⟩ := q11
      rw [q11u] at hP; clear q11u
      refine mw_top (y := 1) (bI_t trivial) ?_
      refine lv_if_ne (tgt := 31) C.1 C.2.1 dX11_tells_25 (by decide) (fun c12 => ?_) (fun c12 => ?_)
      · refine lv_aload_n C.1 C.2.1 dX11_tells_31 rfl (lv_at hl 0 rfl) ?_
        refine mw_getr C Z hP (30) 10 (66) (by decide) sx_30 rfl rfl (by decide) inX11 tw_3_9 dX11_tells_32 ?_
        refine lv_iload_n C.1 C.2.1 dX11_tells_35 rfl (lv_at hl 1 rfl) ?_
        refine mw_aald C Z hP (66) (s) (by decide) sx_66 (by decide) rfl (Nat.lt_of_lt_of_le (by decide : 4 < 961) (Nat.le_of_ble_eq_true rfl)) rfl (by omega) dX11_tells_36 ?_
        refine lv_astore (lv' := [(4, .ref (mw_a E (67 + s))), (0, .ref (mw_a E 30)), (1, .int (nI s)), (2, .int (nI q)), (3, .int 7)]) C.1 C.2.1 dX11_tells_37 hl (by decide) rfl (fun ls hl => ?_)
        refine lv_aload C.1 C.2.1 dX11_tells_39 (lv_at hl 0 rfl) ?_
        refine mw_cVi (As := []) (rest := []) C Z hP hS (67 + s) (cX_missing l E σ s (by omega)) vb_X5_isMissing tw_4_53 ⟨rfl, rfl⟩ ⟨Nat.le_of_ble_eq_true rfl, Nat.le_of_ble_eq_true rfl⟩ (by omega) (sx_sh (by omega)) rfl rfl rfl hl.1 rfl (Nat.le_of_ble_eq_true rfl) dX11_tells_41 ⟨Nat.zero_le _, Nat.zero_le _⟩ (fun r13 u14 H locs q15 hP hS => ?_)
        obtain ⟨rfl, q15u⟩ := q15
        rw [q15u] at hP; clear q15u
        refine lv_if_eq (tgt := 50) C.1 C.2.1 dX11_tells_44 (by decide) (fun c16 => ?_) (fun c16 => ?_)
        · have c16 := bI_0.mp c16
          have hms := c16
          refine lv_aload_n C.1 C.2.1 dX11_tells_50 rfl (lv_at hl 1 rfl) ?_
          refine mw_getr C Z hP (30) 1 (1) (by decide) sx_30 rfl rfl (by decide) inX11 tw_3_0 dX11_tells_51 ?_
          refine lv_aload_n C.1 C.2.1 dX11_tells_54 rfl (lv_at hl 1 rfl) ?_
          refine mw_getr C Z hP (30) 0 (0) (by decide) sx_30 rfl rfl (by decide) inX11 tw_2_239 dX11_tells_55 ?_
          refine mw_cVv (As := [.ref (mw_a E 0)]) (rest := []) C Z hP hS (1) (cX_becomeS l E σ 1 0 (by decide) (by decide) (by decide) n hn h8) vb_X6_become tw_4_6 ⟨rfl, rfl⟩ ⟨Nat.le_of_ble_eq_true rfl, Nat.le_of_ble_eq_true rfl⟩ (by decide) sx_1 rfl rfl rfl hl.1 rfl (Nat.le_of_ble_eq_true rfl) dX11_tells_58 ⟨Nat.zero_le _, Nat.zero_le _⟩ (fun u18 H locs q19 hP hS => ?_)
          have su20 := q19.su (fun j => j = 0 ∨ j = 5) (fun _ => False) hqn
          refine lv_aload_n C.1 C.2.1 dX11_tells_61 rfl (lv_at hl 1 rfl) ?_
          refine mw_getr C Z hP (30) 1 (1) (by decide) sx_30 rfl rfl (by decide) inX11 tw_3_0 dX11_tells_62 ?_
          refine mw_getr C Z hP (1) 7 (4) (by decide) sx_1 rfl rfl (by decide) inX6 tw_1_96 dX11_tells_65 ?_
          refine lv_iload_n C.1 C.2.1 dX11_tells_68 rfl (lv_at hl 3 rfl) ?_
          refine mw_aald C Z hP (4) (q) (by decide) sx_4 (by decide) rfl (Nat.lt_of_lt_of_le (by decide : 8 < 961) (Nat.le_of_ble_eq_true rfl)) rfl (by omega) dX11_tells_69 ?_
          refine lv_astore (lv' := [(5, .ref (mw_a E (14 + q))), (4, .ref (mw_a E (67 + s))), (0, .ref (mw_a E 30)), (1, .int (nI s)), (2, .int (nI q)), (3, .int 7)]) C.1 C.2.1 dX11_tells_70 hl (by decide) rfl (fun ls hl => ?_)
          refine lv_iload_n C.1 C.2.1 dX11_tells_72 rfl (lv_at hl 5 rfl) ?_
          refine lv_if_ne (tgt := 87) C.1 C.2.1 dX11_tells_73 (by decide) (fun c21 => ?_) (fun c21 => ?_)
          · refine lv_aload_n C.1 C.2.1 dX11_tells_87 rfl (lv_at hl 2 rfl) ?_
            refine lv_aload C.1 C.2.1 dX11_tells_88 (lv_at hl 1 rfl) ?_
            refine lv_aload C.1 C.2.1 dX11_tells_90 (lv_at hl 0 rfl) ?_
            refine lv_iload_n C.1 C.2.1 dX11_tells_92 rfl (lv_at hl 5 rfl) ?_
            refine mw_cVi (As := [.ref (mw_a E (67 + s)), .ref (mw_a E (14 + q)), .int 7]) (rest := []) C Z hP hS (30) (cX_allBy7 l E σ u18 tc htc ht1 h6 zz hts s hs m hm hm4 q hq su20) vb_X11_allBy tw_4_61 ⟨rfl, rfl⟩ ⟨Nat.le_of_ble_eq_true rfl, Nat.le_of_ble_eq_true rfl⟩ (by decide) sx_30 rfl rfl rfl hl.1 rfl (Nat.le_of_ble_eq_true rfl) dX11_tells_93 ⟨Nat.zero_le _, Nat.zero_le _⟩ (fun r22 u23 H locs q24 hP hS => ?_)
            obtain ⟨e26, f25⟩ := q24
            subst e26
            exact mw_iret C hr hlk Z hP hS dX11_tells_96 (⟨by rw [if_neg (fun y => y.elim (fun y => y hrs) (fun y => y hhas)), if_neg (by rw [es]; exact hms), es, eq, hm, nI_clamp (n := m) (by omega)], f25⟩)
          · exact absurd c21 (by decide)
        · have c16 := bI_n.mp c16
          refine lv_bipush (v := -11) C.1 C.2.1 dX11_tells_47 (by decide) ?_
          exact mw_iret C hr hlk Z hP hS dX11_tells_49 (⟨by rw [if_neg (fun y => y.elim (fun y => y hrs) (fun y => y hhas)), if_pos (by rw [es]; exact c16)], (xQs.rf σ)⟩)
      · exact absurd c12 (by decide)

set_option maxHeartbeats 4000000 in
set_option maxRecDepth 100000 in
theorem cX_tellsB (l : Launch) (E : mw_E) (σ : mw_M) (n : Nat) (hn : σ.1 0 6 = nI n) (h8 : n ≤ 8) (ss oo ww : Int32) (hw : ¬ (0 ≤ ww.toInt ∧ ww.toInt ≤ 7)) : mw_Ci shX 75 gX l yX11_tells cX11_tells 6 (some .int) (rmF 7 206) E [.ref (mw_a E 30), .int ss, .int oo, .int ww] σ (fun r u => r = -2 ∧ xQs σ u) := by
  refine mw_of (by decide) gX_ok (Nat.le_of_ble_eq_true rfl) ?_
  intro p_ e_ s_ m_ below meth c_ C hr hlk Z hP ls hl
  have C : CallFix p_ m_ c_ cX11_tells 6 s_ _ lw_good RX11 := C
  have hl : lv_has ls 6 [(0, .ref (mw_a E 30)), (1, .int ss), (2, .int oo), (3, .int ww)] := hl
  have hS : va_S (mw_A 75 E) s_.heap s_.heap [] := va_S.rf
  refine lv_iload_n C.1 C.2.1 dX11_tells_0 rfl (lv_at hl 1 rfl) ?_
  refine mw_cSi (As := [.int ss]) (rest := []) C Z hP hS (cX_isSheet l E σ ss) sb_X11_isSheet tw_4_50 ⟨rfl, rfl⟩ ⟨Nat.le_of_ble_eq_true rfl, Nat.le_of_ble_eq_true rfl⟩ rfl hl.1 rfl (Nat.le_of_ble_eq_true rfl) dX11_tells_1 ⟨Nat.zero_le _, Nat.zero_le _⟩ (fun r1 u2 H locs q3 hP hS => ?_)
  obtain ⟨rfl, q3u⟩ := q3
  rw [q3u] at hP; clear q3u
  refine lv_if_eq (tgt := 28) C.1 C.2.1 dX11_tells_4 (by decide) (fun c4 => ?_) (fun c4 => ?_)
  · have c4 := bI_0.mp c4
    refine lv_bipush (v := -2) C.1 C.2.1 dX11_tells_28 (by decide) ?_
    exact mw_iret C hr hlk Z hP hS dX11_tells_30 (⟨rfl, (xQs.rf σ)⟩)
  · have c4 := bI_n.mp c4
    refine lv_aload_n C.1 C.2.1 dX11_tells_7 rfl (lv_at hl 0 rfl) ?_
    refine mw_getr C Z hP (30) 0 (0) (by decide) sx_30 rfl rfl (by decide) inX11 tw_2_239 dX11_tells_8 ?_
    refine lv_iload_n C.1 C.2.1 dX11_tells_11 rfl (lv_at hl 2 rfl) ?_
    refine mw_cVi (As := [.int oo]) (rest := []) C Z hP hS (0) (cX_hasS l E σ 0 (by decide) n hn h8 oo) vb_X6_has tw_3_53 ⟨rfl, rfl⟩ ⟨Nat.le_of_ble_eq_true rfl, Nat.le_of_ble_eq_true rfl⟩ (by decide) sx_0 rfl rfl rfl hl.1 rfl (Nat.le_of_ble_eq_true rfl) dX11_tells_12 ⟨Nat.zero_le _, Nat.zero_le _⟩ (fun r5 u6 H locs q7 hP hS => ?_)
    obtain ⟨rfl, q7u⟩ := q7
    rw [q7u] at hP; clear q7u
    refine lv_if_eq (tgt := 28) C.1 C.2.1 dX11_tells_15 (by decide) (fun c8 => ?_) (fun c8 => ?_)
    · have c8 := bI_0.mp c8
      refine lv_bipush (v := -2) C.1 C.2.1 dX11_tells_28 (by decide) ?_
      exact mw_iret C hr hlk Z hP hS dX11_tells_30 (⟨rfl, (xQs.rf σ)⟩)
    · have c8 := bI_n.mp c8
      refine lv_iload_n C.1 C.2.1 dX11_tells_18 rfl (lv_at hl 3 rfl) ?_
      refine lv_iconst (v := 0) C.1 C.2.1 dX11_tells_19 (by decide) ?_
      refine lv_bipush (v := 7) C.1 C.2.1 dX11_tells_20 (by decide) ?_
      refine mw_cSi (As := [.int ww, .int 0, .int 7]) (rest := []) C Z hP hS (cX_isWithin2 l E σ ww (0 : Int32) (7 : Int32) (0 ≤ ww.toInt ∧ ww.toInt ≤ 7) Iff.rfl) sb_X11_isWithin tw_3_42 ⟨rfl, rfl⟩ ⟨Nat.le_of_ble_eq_true rfl, Nat.le_of_ble_eq_true rfl⟩ rfl hl.1 rfl (Nat.le_of_ble_eq_true rfl) dX11_tells_22 ⟨Nat.zero_le _, Nat.zero_le _⟩ (fun r9 u10 H locs q11 hP hS => ?_)
      obtain ⟨rfl, q11u⟩ := q11
      rw [q11u] at hP; clear q11u
      refine lv_if_ne (tgt := 31) C.1 C.2.1 dX11_tells_25 (by decide) (fun c12 => ?_) (fun c12 => ?_)
      · have c12 := bI_n.mp c12
        exact absurd c12 hw
      · have c12 := bI_0.mp c12
        refine lv_bipush (v := -2) C.1 C.2.1 dX11_tells_28 (by decide) ?_
        exact mw_iret C hr hlk Z hP hS dX11_tells_30 (⟨rfl, (xQs.rf σ)⟩)
