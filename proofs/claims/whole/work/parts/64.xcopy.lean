/-! THE CLASS: COPY, CUSTOMERS, SETTINGS -/
def cpyR (σ : mw_M) (s i o j n : Int32) : Int32 := if ¬ (0 ≤ s.toInt ∧ s.toInt ≤ 3) ∨ ¬ (0 ≤ o.toInt ∧ o.toInt ≤ 3) then -2 else if σ.1 (67 + s.toNatClampNeg) 0 = -1 ∨ σ.1 (67 + o.toNatClampNeg) 0 = -1 then -11 else if ¬ σ.1 (67 + s.toNatClampNeg) 0 = σ.1 (67 + o.toNatClampNeg) 0 then -13 else if ¬ (0 ≤ n.toInt ∧ 0 ≤ i.toInt ∧ 0 ≤ j.toInt ∧ i.toInt ≤ (σ.1 (67 + s.toNatClampNeg) 1).toInt - n.toInt ∧ j.toInt ≤ (σ.1 (67 + o.toNatClampNeg) 1).toInt - n.toInt) then -12 else n
def cpyM (σ : mw_M) (s i o j n : Nat) : mw_M := mw_sA σ (71 + o) (va_cpy (σ.2.1 (71 + s)) (σ.2.1 (71 + o)) i j n)

/-- that it is copied at all -/
def cpyG (σ : mw_M) (s i o j n : Int32) : Prop := (0 ≤ s.toInt ∧ s.toInt ≤ 3) ∧ (0 ≤ o.toInt ∧ o.toInt ≤ 3) ∧ ¬ σ.1 (67 + s.toNatClampNeg) 0 = -1 ∧ ¬ σ.1 (67 + o.toNatClampNeg) 0 = -1 ∧ σ.1 (67 + s.toNatClampNeg) 0 = σ.1 (67 + o.toNatClampNeg) 0 ∧ (0 ≤ n.toInt ∧ 0 ≤ i.toInt ∧ 0 ≤ j.toInt ∧ i.toInt ≤ (σ.1 (67 + s.toNatClampNeg) 1).toInt - n.toInt ∧ j.toInt ≤ (σ.1 (67 + o.toNatClampNeg) 1).toInt - n.toInt)
theorem cpyR_y {σ : mw_M} {s i o j n : Int32} (h : cpyG σ s i o j n) : cpyR σ s i o j n = n := by
  obtain ⟨h1, h2, h3, h4, h5, h6⟩ := h
  unfold cpyR
  rw [if_neg (fun y => y.elim (fun y => y h1) (fun y => y h2)), if_neg (fun y => y.elim h3 h4), if_neg (Decidable.not_not.mpr h5), if_neg (Decidable.not_not.mpr h6)]

set_option maxHeartbeats 4000000 in
set_option maxRecDepth 100000 in
theorem cX_copy (l : Launch) (E : mw_E) (σ : mw_M) (hsh : xShs σ) (ss i1 oo j1 n1 : Int32) : mw_Ci shX 75 gX l yX11_copy cX11_copy 8 (some .int) (rmF 2 86) E [.ref (mw_a E 30), .int ss, .int i1, .int oo, .int j1, .int n1] σ (fun r u => r = cpyR σ ss i1 oo j1 n1 ∧ (cpyG σ ss i1 oo j1 n1 → xQs (cpyM σ ss.toNatClampNeg i1.toNatClampNeg oo.toNatClampNeg j1.toNatClampNeg n1.toNatClampNeg) u) ∧ (¬ cpyG σ ss i1 oo j1 n1 → xQs σ u)) := by
  refine mw_of (by decide) gX_ok (Nat.le_of_ble_eq_true rfl) ?_
  intro p_ e_ s_ m_ below meth c_ C hr hlk Z hP ls hl
  have C : CallFix p_ m_ c_ cX11_copy 8 s_ _ lw_good RX11 := C
  have hl : lv_has ls 8 [(0, .ref (mw_a E 30)), (1, .int ss), (2, .int i1), (3, .int oo), (4, .int j1), (5, .int n1)] := hl
  have hS : va_S (mw_A 75 E) s_.heap s_.heap [] := va_S.rf
  refine lv_iload_n C.1 C.2.1 dX11_copy_0 rfl (lv_at hl 1 rfl) ?_
  refine mw_cSi (As := [.int ss]) (rest := []) C Z hP hS (cX_isSheet l E σ ss) sb_X11_isSheet tw_4_50 ⟨rfl, rfl⟩ ⟨Nat.le_of_ble_eq_true rfl, Nat.le_of_ble_eq_true rfl⟩ rfl hl.1 rfl (Nat.le_of_ble_eq_true rfl) dX11_copy_1 ⟨Nat.zero_le _, Nat.zero_le _⟩ (fun r1 u2 H locs q3 hP hS => ?_)
  obtain ⟨rfl, q3u⟩ := q3
  rw [q3u] at hP; clear q3u
  refine lv_if_eq (tgt := 14) C.1 C.2.1 dX11_copy_4 (by decide) (fun c4 => ?_) (fun c4 => ?_)
  · have c4 := bI_0.mp c4
    refine lv_bipush (v := -2) C.1 C.2.1 dX11_copy_14 (by decide) ?_
    have er : cpyR σ ss i1 oo j1 n1 = -2 := by unfold cpyR; rw [if_pos (Or.inl c4)]
    exact mw_iret C hr hlk Z hP hS dX11_copy_16 (⟨er.symm, fun y => absurd (y.1) c4, fun _ => (xQs.rf σ)⟩)
  · have c4 := bI_n.mp c4
    have hrs := c4
    obtain ⟨s, hs3, es0⟩ := nI_ofI (k := 3) hrs.1 hrs.2
    have hs : s < 4 := by omega
    subst es0
    have es : (nI s).toNatClampNeg = s := nI_clamp (by omega)
    obtain ⟨m, hm4, hm⟩ := hsh s hs
    refine lv_iload_n C.1 C.2.1 dX11_copy_7 rfl (lv_at hl 3 rfl) ?_
    refine mw_cSi (As := [.int oo]) (rest := []) C Z hP hS (cX_isSheet l E σ oo) sb_X11_isSheet tw_4_50 ⟨rfl, rfl⟩ ⟨Nat.le_of_ble_eq_true rfl, Nat.le_of_ble_eq_true rfl⟩ rfl hl.1 rfl (Nat.le_of_ble_eq_true rfl) dX11_copy_8 ⟨Nat.zero_le _, Nat.zero_le _⟩ (fun r5 u6 H locs q7 hP hS => ?_)
    obtain ⟨rfl, q7u⟩ := q7
    rw [q7u] at hP; clear q7u
    refine lv_if_ne (tgt := 17) C.1 C.2.1 dX11_copy_11 (by decide) (fun c8 => ?_) (fun c8 => ?_)
    · have c8 := bI_n.mp c8
      have hro := c8
      obtain ⟨o, ho3, eo0⟩ := nI_ofI (k := 3) hro.1 hro.2
      have ho : o < 4 := by omega
      subst eo0
      have eo : (nI o).toNatClampNeg = o := nI_clamp (by omega)
      obtain ⟨mB, hmB4, hmB⟩ := hsh o ho
      refine lv_aload_n C.1 C.2.1 dX11_copy_17 rfl (lv_at hl 0 rfl) ?_
      refine mw_getr C Z hP (30) 10 (66) (by decide) sx_30 rfl rfl (by decide) inX11 tw_3_9 dX11_copy_18 ?_
      refine lv_iload_n C.1 C.2.1 dX11_copy_21 rfl (lv_at hl 1 rfl) ?_
      refine mw_aald C Z hP (66) (s) (by decide) sx_66 (by decide) rfl (Nat.lt_of_lt_of_le (by decide : 4 < 961) (Nat.le_of_ble_eq_true rfl)) rfl (by omega) dX11_copy_22 ?_
      refine lv_astore (lv' := [(6, .ref (mw_a E (67 + s))), (0, .ref (mw_a E 30)), (1, .int (nI s)), (2, .int i1), (3, .int (nI o)), (4, .int j1), (5, .int n1)]) C.1 C.2.1 dX11_copy_23 hl (by decide) rfl (fun ls hl => ?_)
      refine lv_aload_n C.1 C.2.1 dX11_copy_25 rfl (lv_at hl 1 rfl) ?_
      refine mw_getr C Z hP (30) 10 (66) (by decide) sx_30 rfl rfl (by decide) inX11 tw_3_9 dX11_copy_26 ?_
      refine lv_iload_n C.1 C.2.1 dX11_copy_29 rfl (lv_at hl 4 rfl) ?_
      refine mw_aald C Z hP (66) (o) (by decide) sx_66 (by decide) rfl (Nat.lt_of_lt_of_le (by decide : 4 < 961) (Nat.le_of_ble_eq_true rfl)) rfl (by omega) dX11_copy_30 ?_
      refine lv_astore (lv' := [(7, .ref (mw_a E (67 + o))), (6, .ref (mw_a E (67 + s))), (0, .ref (mw_a E 30)), (1, .int (nI s)), (2, .int i1), (3, .int (nI o)), (4, .int j1), (5, .int n1)]) C.1 C.2.1 dX11_copy_31 hl (by decide) rfl (fun ls hl => ?_)
      refine lv_aload C.1 C.2.1 dX11_copy_33 (lv_at hl 1 rfl) ?_
      refine mw_cVi (As := []) (rest := []) C Z hP hS (67 + s) (cX_missing l E σ s (by omega)) vb_X5_isMissing tw_4_53 ⟨rfl, rfl⟩ ⟨Nat.le_of_ble_eq_true rfl, Nat.le_of_ble_eq_true rfl⟩ (by omega) (sx_sh (by omega)) rfl rfl rfl hl.1 rfl (Nat.le_of_ble_eq_true rfl) dX11_copy_35 ⟨Nat.zero_le _, Nat.zero_le _⟩ (fun r9 u10 H locs q11 hP hS => ?_)
      obtain ⟨rfl, q11u⟩ := q11
      rw [q11u] at hP; clear q11u
      refine lv_if_ne (tgt := 49) C.1 C.2.1 dX11_copy_38 (by decide) (fun c12 => ?_) (fun c12 => ?_)
      · have c12 := bI_n.mp c12
        refine lv_bipush (v := -11) C.1 C.2.1 dX11_copy_49 (by decide) ?_
        have er : cpyR σ (nI s) i1 (nI o) j1 n1 = -11 := by unfold cpyR; rw [if_neg (fun y => y.elim (fun y => y hrs) (fun y => y hro)), es, eo, if_pos (Or.inl c12)]
        exact mw_iret C hr hlk Z hP hS dX11_copy_51 (⟨er.symm, fun y => absurd (by rw [es]; exact c12) y.2.2.1, fun _ => (xQs.rf σ)⟩)
      · have c12 := bI_0.mp c12
        have hms := c12
        refine lv_aload C.1 C.2.1 dX11_copy_41 (lv_at hl 0 rfl) ?_
        refine mw_cVi (As := []) (rest := []) C Z hP hS (67 + o) (cX_missing l E σ o (by omega)) vb_X5_isMissing tw_4_53 ⟨rfl, rfl⟩ ⟨Nat.le_of_ble_eq_true rfl, Nat.le_of_ble_eq_true rfl⟩ (by omega) (sx_sh (by omega)) rfl rfl rfl hl.1 rfl (Nat.le_of_ble_eq_true rfl) dX11_copy_43 ⟨Nat.zero_le _, Nat.zero_le _⟩ (fun r13 u14 H locs q15 hP hS => ?_)
        obtain ⟨rfl, q15u⟩ := q15
        rw [q15u] at hP; clear q15u
        refine lv_if_eq (tgt := 52) C.1 C.2.1 dX11_copy_46 (by decide) (fun c16 => ?_) (fun c16 => ?_)
        · have c16 := bI_0.mp c16
          have hmo := c16
          refine lv_aload C.1 C.2.1 dX11_copy_52 (lv_at hl 1 rfl) ?_
          refine mw_geti C Z hP (67 + s) 0 (by omega) (sx_sh (by omega)) rfl rfl (by decide) inX5 tw_2_9 dX11_copy_54 ?_
          refine lv_aload C.1 C.2.1 dX11_copy_57 (lv_at hl 0 rfl) ?_
          refine mw_geti C Z hP (67 + o) 0 (by omega) (sx_sh (by omega)) rfl rfl (by decide) inX5 tw_2_9 dX11_copy_59 ?_
          refine lv_icmp_eq (tgt := 68) C.1 C.2.1 dX11_copy_62 (by decide) (fun c17 => ?_) (fun c17 => ?_)
          · have hsame := c17
            refine lv_aload C.1 C.2.1 dX11_copy_68 (lv_at hl 1 rfl) ?_
            refine lv_iload_n C.1 C.2.1 dX11_copy_70 rfl (lv_at hl 4 rfl) ?_
            refine lv_iload C.1 C.2.1 dX11_copy_71 (lv_at hl 7 rfl) ?_
            refine mw_cVi (As := [.int i1, .int n1]) (rest := []) C Z hP hS (67 + s) (cX_holds l E σ s (by omega) m hm hm4 i1 n1) vb_X5_holds tw_4_133 ⟨rfl, rfl⟩ ⟨Nat.le_of_ble_eq_true rfl, Nat.le_of_ble_eq_true rfl⟩ (by omega) (sx_sh (by omega)) rfl rfl rfl hl.1 rfl (Nat.le_of_ble_eq_true rfl) dX11_copy_73 ⟨Nat.zero_le _, Nat.zero_le _⟩ (fun r18 u19 H locs q20 hP hS => ?_)
            obtain ⟨rfl, q20u⟩ := q20
            rw [q20u] at hP; clear q20u
            refine lv_if_eq (tgt := 91) C.1 C.2.1 dX11_copy_76 (by decide) (fun c21 => ?_) (fun c21 => ?_)
            · have c21 := bI_0.mp c21
              refine lv_bipush (v := -12) C.1 C.2.1 dX11_copy_91 (by decide) ?_
              have hno : ¬ (0 ≤ n1.toInt ∧ 0 ≤ i1.toInt ∧ 0 ≤ j1.toInt ∧ i1.toInt ≤ (σ.1 (67 + s) 1).toInt - n1.toInt ∧ j1.toInt ≤ (σ.1 (67 + o) 1).toInt - n1.toInt) := fun w => c21 (by rw [hm, hmB, nI_toInt (n := m) (by omega), nI_toInt (n := mB) (by omega)] at w; omega)
              have er : cpyR σ (nI s) i1 (nI o) j1 n1 = -12 := by unfold cpyR; rw [if_neg (fun y => y.elim (fun y => y hrs) (fun y => y hro)), es, eo, if_neg (fun y => y.elim hms hmo), if_neg (Decidable.not_not.mpr hsame), if_pos hno]
              exact mw_iret C hr hlk Z hP hS dX11_copy_93 (⟨er.symm, fun y => absurd (by have w := y.2.2.2.2.2; rw [es, eo] at w; exact w) hno, fun _ => (xQs.rf σ)⟩)
            · have c21 := bI_n.mp c21
              refine lv_aload C.1 C.2.1 dX11_copy_79 (lv_at hl 0 rfl) ?_
              refine lv_iload C.1 C.2.1 dX11_copy_81 (lv_at hl 6 rfl) ?_
              refine lv_iload C.1 C.2.1 dX11_copy_83 (lv_at hl 7 rfl) ?_
              refine mw_cVi (As := [.int j1, .int n1]) (rest := []) C Z hP hS (67 + o) (cX_holds l E σ o (by omega) mB hmB hmB4 j1 n1) vb_X5_holds tw_4_133 ⟨rfl, rfl⟩ ⟨Nat.le_of_ble_eq_true rfl, Nat.le_of_ble_eq_true rfl⟩ (by omega) (sx_sh (by omega)) rfl rfl rfl hl.1 rfl (Nat.le_of_ble_eq_true rfl) dX11_copy_85 ⟨Nat.zero_le _, Nat.zero_le _⟩ (fun r22 u23 H locs q24 hP hS => ?_)
              obtain ⟨rfl, q24u⟩ := q24
              rw [q24u] at hP; clear q24u
              refine lv_if_ne (tgt := 94) C.1 C.2.1 dX11_copy_88 (by decide) (fun c25 => ?_) (fun c25 => ?_)
              · have c25 := bI_n.mp c25
                have hcp : 0 ≤ n1.toInt ∧ 0 ≤ i1.toInt ∧ 0 ≤ j1.toInt ∧ i1.toInt ≤ (σ.1 (67 + s) 1).toInt - n1.toInt ∧ j1.toInt ≤ (σ.1 (67 + o) 1).toInt - n1.toInt := by rw [hm, hmB, nI_toInt (n := m) (by omega), nI_toInt (n := mB) (by omega)]; omega
                have hcq := hcp
                rw [hm, hmB, nI_toInt (n := m) (by omega), nI_toInt (n := mB) (by omega)] at hcq
                obtain ⟨nn, hnn, en0⟩ := nI_ofI (k := 40) hcq.1 (by omega)
                obtain ⟨i, hi, ei0⟩ := nI_ofI (k := 40) hcq.2.1 (by omega)
                obtain ⟨j, hj, ej0⟩ := nI_ofI (k := 40) hcq.2.2.1 (by omega)
                subst en0
                subst ei0
                subst ej0
                rw [nI_toInt (n := nn) (by omega), nI_toInt (n := i) (by omega), nI_toInt (n := j) (by omega)] at hcq
                refine lv_aload C.1 C.2.1 dX11_copy_94 (lv_at hl 1 rfl) ?_
                refine mw_getr C Z hP (67 + s) 2 (71 + s) (by omega) (sx_sh (by omega)) rfl rfl (by decide) inX5 tw_2_13 dX11_copy_96 ?_
                refine lv_iload_n C.1 C.2.1 dX11_copy_99 rfl (lv_at hl 4 rfl) ?_
                refine lv_aload C.1 C.2.1 dX11_copy_100 (lv_at hl 0 rfl) ?_
                refine mw_getr C Z hP (67 + o) 2 (71 + o) (by omega) (sx_sh (by omega)) rfl rfl (by decide) inX5 tw_2_13 dX11_copy_102 ?_
                refine lv_iload C.1 C.2.1 dX11_copy_105 (lv_at hl 6 rfl) ?_
                refine lv_iload C.1 C.2.1 dX11_copy_107 (lv_at hl 7 rfl) ?_
                refine mw_acopy C Z hP hS (71 + s) (71 + o) i j nn (by omega) (sx_ce (by omega)) (by omega) (sx_ce (by omega)) (by omega) (by omega) (by decide) (by decide) tw_4_138 Z.2.2.1.2.2.2.2.2.2.2.2 tw_4_139 tw_1_21 hl.1 (Nat.le_of_ble_eq_true rfl) (Nat.le_of_ble_eq_true rfl) dX11_copy_109 (fun H locs hP hS => ?_)
                refine lv_iload C.1 C.2.1 dX11_copy_112 (lv_at hl 7 rfl) ?_
                have hg : cpyG σ (nI s) (nI i) (nI o) (nI j) (nI nn) := ⟨hrs, hro, by rw [es]; exact hms, by rw [eo]; exact hmo, by rw [es, eo]; exact hsame, by rw [es, eo]; exact hcp⟩
                exact mw_iret C hr hlk Z hP hS dX11_copy_114 (⟨(cpyR_y hg).symm, fun _ => by rw [es, eo, nI_clamp (n := i) (by omega), nI_clamp (n := j) (by omega), nI_clamp (n := nn) (by omega)]; exact xQs.rf _, fun y => absurd hg y⟩)
              · have c25 := bI_0.mp c25
                refine lv_bipush (v := -12) C.1 C.2.1 dX11_copy_91 (by decide) ?_
                have hno : ¬ (0 ≤ n1.toInt ∧ 0 ≤ i1.toInt ∧ 0 ≤ j1.toInt ∧ i1.toInt ≤ (σ.1 (67 + s) 1).toInt - n1.toInt ∧ j1.toInt ≤ (σ.1 (67 + o) 1).toInt - n1.toInt) := fun w => c25 (by rw [hm, hmB, nI_toInt (n := m) (by omega), nI_toInt (n := mB) (by omega)] at w; omega)
                have er : cpyR σ (nI s) i1 (nI o) j1 n1 = -12 := by unfold cpyR; rw [if_neg (fun y => y.elim (fun y => y hrs) (fun y => y hro)), es, eo, if_neg (fun y => y.elim hms hmo), if_neg (Decidable.not_not.mpr hsame), if_pos hno]
                exact mw_iret C hr hlk Z hP hS dX11_copy_93 (⟨er.symm, fun y => absurd (by have w := y.2.2.2.2.2; rw [es, eo] at w; exact w) hno, fun _ => (xQs.rf σ)⟩)
          · refine lv_bipush (v := -13) C.1 C.2.1 dX11_copy_65 (by decide) ?_
            have er : cpyR σ (nI s) i1 (nI o) j1 n1 = -13 := by unfold cpyR; rw [if_neg (fun y => y.elim (fun y => y hrs) (fun y => y hro)), es, eo, if_neg (fun y => y.elim hms hmo), if_pos c17]
            exact mw_iret C hr hlk Z hP hS dX11_copy_67 (⟨er.symm, fun y => absurd (by have w := y.2.2.2.2.1; rw [es, eo] at w; exact w) c17, fun _ => (xQs.rf σ)⟩)
        · have c16 := bI_n.mp c16
          refine lv_bipush (v := -11) C.1 C.2.1 dX11_copy_49 (by decide) ?_
          have er : cpyR σ (nI s) i1 (nI o) j1 n1 = -11 := by unfold cpyR; rw [if_neg (fun y => y.elim (fun y => y hrs) (fun y => y hro)), es, eo, if_pos (Or.inr c16)]
          exact mw_iret C hr hlk Z hP hS dX11_copy_51 (⟨er.symm, fun y => absurd (by rw [eo]; exact c16) y.2.2.2.1, fun _ => (xQs.rf σ)⟩)
    · have c8 := bI_0.mp c8
      refine lv_bipush (v := -2) C.1 C.2.1 dX11_copy_14 (by decide) ?_
      have er : cpyR σ (nI s) i1 oo j1 n1 = -2 := by unfold cpyR; rw [if_pos (Or.inr c8)]
      exact mw_iret C hr hlk Z hP hS dX11_copy_16 (⟨er.symm, fun y => absurd (y.2.1) c8, fun _ => (xQs.rf σ)⟩)

def xcuM (σ : mw_M) (n : Nat) (k m h : Int32) : mw_M := mw_si (comM σ (6 + n) k m h) 0 6 (nI (n + 1))

set_option maxHeartbeats 4000000 in
set_option maxRecDepth 100000 in
theorem cX_customer (l : Launch) (E : mw_E) (σ : mw_M) (n : Nat) (hn : σ.1 0 6 = nI n) (h8 : n ≤ 8) (kk mm hh : Int32) : mw_Ci shX 75 gX l yX11_customer cX11_customer 4 (some .int) (rmF 2 87) E [.ref (mw_a E 30), .int kk, .int mm, .int hh] σ (fun r u => (¬ cusOK kk mm hh → r = -2 ∧ u = σ) ∧ (cusOK kk mm hh ∧ n = 8 → r = -4 ∧ u = σ) ∧ (cusOK kk mm hh ∧ n < 8 → r = nI n ∧ u = xcuM σ n kk mm hh)) := by
  refine mw_of (by decide) gX_ok (Nat.le_of_ble_eq_true rfl) ?_
  intro p_ e_ s_ m_ below meth c_ C hr hlk Z hP ls hl
  have C : CallFix p_ m_ c_ cX11_customer 4 s_ _ lw_good RX11 := C
  have hl : lv_has ls 4 [(0, .ref (mw_a E 30)), (1, .int kk), (2, .int mm), (3, .int hh)] := hl
  have hS : va_S (mw_A 75 E) s_.heap s_.heap [] := va_S.rf
  refine lv_iload_n C.1 C.2.1 dX11_customer_0 rfl (lv_at hl 1 rfl) ?_
  refine lv_iconst (v := 0) C.1 C.2.1 dX11_customer_1 (by decide) ?_
  refine lv_iconst (v := 5) C.1 C.2.1 dX11_customer_2 (by decide) ?_
  refine mw_cSi (As := [.int kk, .int 0, .int 5]) (rest := []) C Z hP hS (cX_isWithin2 l E σ kk (0 : Int32) (5 : Int32) (0 ≤ kk.toInt ∧ kk.toInt ≤ 5) Iff.rfl) sb_X11_isWithin tw_3_42 ⟨rfl, rfl⟩ ⟨Nat.le_of_ble_eq_true rfl, Nat.le_of_ble_eq_true rfl⟩ rfl hl.1 rfl (Nat.le_of_ble_eq_true rfl) dX11_customer_3 ⟨Nat.zero_le _, Nat.zero_le _⟩ (fun r1 u2 H locs q3 hP hS => ?_)
  obtain ⟨rfl, q3u⟩ := q3
  rw [q3u] at hP; clear q3u
  refine lv_if_eq (tgt := 26) C.1 C.2.1 dX11_customer_6 (by decide) (fun c4 => ?_) (fun c4 => ?_)
  · have c4 := bI_0.mp c4
    refine lv_bipush (v := -2) C.1 C.2.1 dX11_customer_26 (by decide) ?_
    exact mw_iret C hr hlk Z hP hS dX11_customer_28 (⟨fun _ => ⟨rfl, rfl⟩, fun y => absurd (y.1.1) c4, fun y => absurd (y.1.1) c4⟩)
  · have c4 := bI_n.mp c4
    refine lv_iload_n C.1 C.2.1 dX11_customer_9 rfl (lv_at hl 2 rfl) ?_
    refine lv_iconst (v := 0) C.1 C.2.1 dX11_customer_10 (by decide) ?_
    refine lv_bipush (v := 9) C.1 C.2.1 dX11_customer_11 (by decide) ?_
    refine mw_cSi (As := [.int mm, .int 0, .int 9]) (rest := []) C Z hP hS (cX_isWithin2 l E σ mm (0 : Int32) (9 : Int32) (0 ≤ mm.toInt ∧ mm.toInt ≤ 9) Iff.rfl) sb_X11_isWithin tw_3_42 ⟨rfl, rfl⟩ ⟨Nat.le_of_ble_eq_true rfl, Nat.le_of_ble_eq_true rfl⟩ rfl hl.1 rfl (Nat.le_of_ble_eq_true rfl) dX11_customer_13 ⟨Nat.zero_le _, Nat.zero_le _⟩ (fun r5 u6 H locs q7 hP hS => ?_)
    obtain ⟨rfl, q7u⟩ := q7
    rw [q7u] at hP; clear q7u
    refine lv_if_eq (tgt := 26) C.1 C.2.1 dX11_customer_16 (by decide) (fun c8 => ?_) (fun c8 => ?_)
    · have c8 := bI_0.mp c8
      refine lv_bipush (v := -2) C.1 C.2.1 dX11_customer_26 (by decide) ?_
      exact mw_iret C hr hlk Z hP hS dX11_customer_28 (⟨fun _ => ⟨rfl, rfl⟩, fun y => absurd (y.1.2.1) c8, fun y => absurd (y.1.2.1) c8⟩)
    · have c8 := bI_n.mp c8
      refine lv_iload_n C.1 C.2.1 dX11_customer_19 rfl (lv_at hl 3 rfl) ?_
      refine mw_cSi (As := [.int hh]) (rest := []) C Z hP hS (cX_isHour l E σ hh) sb_X11_isHour tw_3_69 ⟨rfl, rfl⟩ ⟨Nat.le_of_ble_eq_true rfl, Nat.le_of_ble_eq_true rfl⟩ rfl hl.1 rfl (Nat.le_of_ble_eq_true rfl) dX11_customer_20 ⟨Nat.zero_le _, Nat.zero_le _⟩ (fun r9 u10 H locs q11 hP hS => ?_)
      obtain ⟨rfl, q11u⟩ := q11
      rw [q11u] at hP; clear q11u
      refine lv_if_ne (tgt := 29) C.1 C.2.1 dX11_customer_23 (by decide) (fun c12 => ?_) (fun c12 => ?_)
      · have c12 := bI_n.mp c12
        refine lv_aload_n C.1 C.2.1 dX11_customer_29 rfl (lv_at hl 0 rfl) ?_
        refine mw_getr C Z hP (30) 0 (0) (by decide) sx_30 rfl rfl (by decide) inX11 tw_2_239 dX11_customer_30 ?_
        refine mw_geti C Z hP (0) 6 (by decide) sx_0 rfl rfl (by decide) inX6 tw_1_93 dX11_customer_33 ?_
        refine mw_top (y := nI n) (hn) ?_
        refine lv_bipush (v := 8) C.1 C.2.1 dX11_customer_36 (by decide) ?_
        refine lv_icmp_lt (tgt := 44) C.1 C.2.1 dX11_customer_38 (by decide) (fun c13 => ?_) (fun c13 => ?_)
        · have c13 := (nI_ltI (b := 8) (by omega) (by decide)).mp c13
          refine lv_aload_n C.1 C.2.1 dX11_customer_44 rfl (lv_at hl 0 rfl) ?_
          refine mw_getr C Z hP (30) 0 (0) (by decide) sx_30 rfl rfl (by decide) inX11 tw_2_239 dX11_customer_45 ?_
          refine mw_getr C Z hP (0) 7 (3) (by decide) sx_0 rfl rfl (by decide) inX6 tw_1_96 dX11_customer_48 ?_
          refine lv_aload_n C.1 C.2.1 dX11_customer_51 rfl (lv_at hl 0 rfl) ?_
          refine mw_getr C Z hP (30) 0 (0) (by decide) sx_30 rfl rfl (by decide) inX11 tw_2_239 dX11_customer_52 ?_
          refine mw_geti C Z hP (0) 6 (by decide) sx_0 rfl rfl (by decide) inX6 tw_1_93 dX11_customer_55 ?_
          refine mw_top (y := nI n) (hn) ?_
          refine mw_aald C Z hP (3) (n) (by decide) sx_3 (by decide) rfl (Nat.lt_of_lt_of_le (by decide : 8 < 961) (Nat.le_of_ble_eq_true rfl)) rfl (by omega) dX11_customer_58 ?_
          refine lv_iload_n C.1 C.2.1 dX11_customer_59 rfl (lv_at hl 1 rfl) ?_
          refine lv_iload_n C.1 C.2.1 dX11_customer_60 rfl (lv_at hl 2 rfl) ?_
          refine lv_iload_n C.1 C.2.1 dX11_customer_61 rfl (lv_at hl 3 rfl) ?_
          refine mw_cVv (As := [.int kk, .int mm, .int hh]) (rest := []) C Z hP hS (6 + n) (cX_come l E σ (6 + n) (by omega) kk mm hh) vb_X1_come tw_3_72 ⟨rfl, rfl⟩ ⟨Nat.le_of_ble_eq_true rfl, Nat.le_of_ble_eq_true rfl⟩ (by omega) (sx_cu (by omega) (by omega)) rfl rfl rfl hl.1 rfl (Nat.le_of_ble_eq_true rfl) dX11_customer_62 ⟨Nat.zero_le _, Nat.zero_le _⟩ (fun u15 H locs q16 hP hS => ?_)
          subst q16
          refine lv_aload_n C.1 C.2.1 dX11_customer_65 rfl (lv_at hl 0 rfl) ?_
          refine mw_getr C Z hP (30) 0 (0) (by decide) sx_30 rfl rfl (by decide) inX11 tw_2_239 dX11_customer_66 ?_
          refine lv_dup C.1 C.2.1 dX11_customer_69 rfl ?_
          refine mw_geti C Z hP (0) 6 (by decide) sx_0 rfl rfl (by decide) inX6 tw_1_93 dX11_customer_70 ?_
          refine mw_top (y := nI n) (((congrFun (comM_ne σ _ _ _ (by omega)) _).trans hn)) ?_
          refine lv_iconst (v := 1) C.1 C.2.1 dX11_customer_73 (by decide) ?_
          refine lv_iadd C.1 C.2.1 dX11_customer_74 ?_
          refine mw_top (y := nI (n + 1)) (nI_1 _) ?_
          refine mw_puti C Z hP hS (0) 6 (by decide) sx_0 rfl rfl (by decide) inX6 tyX6 tyX6_ok nmX6 rfl tw_1_93 rfl rfl dX11_customer_75 (fun H locs hP hS => ?_)
          refine lv_aload_n C.1 C.2.1 dX11_customer_78 rfl (lv_at hl 0 rfl) ?_
          refine mw_getr C Z hP (30) 0 (0) (by decide) sx_30 rfl rfl (by decide) inX11 tw_2_239 dX11_customer_79 ?_
          refine mw_geti C Z hP (0) 6 (by decide) sx_0 rfl rfl (by decide) inX6 tw_1_93 dX11_customer_82 ?_
          refine mw_top (y := nI (n + 1)) (mw_sf) ?_
          refine lv_iconst (v := 1) C.1 C.2.1 dX11_customer_85 (by decide) ?_
          refine lv_isub C.1 C.2.1 dX11_customer_86 ?_
          refine mw_top (y := nI n) (nI_pred _) ?_
          exact mw_iret C hr hlk Z hP hS dX11_customer_87 (⟨fun y => absurd ⟨c4, c8, c12⟩ y, fun y => absurd y.2 (by omega), fun _ => ⟨rfl, rfl⟩⟩)
        · have c13 := (not_congr (nI_ltI (b := 8) (by omega) (by decide))).mp c13
          refine lv_bipush (v := -4) C.1 C.2.1 dX11_customer_41 (by decide) ?_
          exact mw_iret C hr hlk Z hP hS dX11_customer_43 (⟨fun y => absurd ⟨c4, c8, c12⟩ y, fun _ => ⟨rfl, rfl⟩, fun y => absurd y.2 (by omega)⟩)
      · have c12 := bI_0.mp c12
        refine lv_bipush (v := -2) C.1 C.2.1 dX11_customer_26 (by decide) ?_
        exact mw_iret C hr hlk Z hP hS dX11_customer_28 (⟨fun _ => ⟨rfl, rfl⟩, fun y => absurd (y.1.2.2) c12, fun y => absurd (y.1.2.2) c12⟩)
