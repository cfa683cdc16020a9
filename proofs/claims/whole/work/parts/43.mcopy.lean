/-! THE REFERENCE: COPY, CUSTOMERS -/
theorem sub_sz {m : Nat} {x : Int32} (hm : m ≤ 40) (hx : 0 ≤ x.toInt) : (nI m - x).toInt = (m : Int) - x.toInt := by
  rw [Int32.toInt_sub, nI_toInt (by omega)]
  have h := x.toInt_lt
  exact Int.bmod_eq_of_le (by show -((2 ^ 32 : Int) / 2) ≤ _; omega) (by show _ < ((2 ^ 32 : Int) + 1) / 2; omega)
def cpC (f g : Nat → Int32) (b n k : Nat) : Nat → Int32 := fun j => if b + (n - k) ≤ j ∧ j < b + n then f (j - b) else g j
theorem cpC_0 (f g : Nat → Int32) (b n : Nat) : cpC f g b n 0 = g := by
  funext j
  unfold cpC
  rw [if_neg (by omega)]
theorem cpC_n (f g : Nat → Int32) (b n : Nat) : cpC f g b n n = cpB f g b n := by
  funext j
  unfold cpC cpB
  rw [Nat.sub_self, Nat.add_zero]
theorem cpC_s (f g : Nat → Int32) (b n k : Nat) (h : k < n) : upd (cpC f g b n k) (b + (n - 1 - k)) (f (n - 1 - k)) = cpC f g b n (k + 1) := by
  funext j
  unfold upd cpC
  by_cases h1 : j = b + (n - 1 - k)
  · rw [if_pos h1, if_pos (by omega), h1, Nat.add_sub_cancel_left]
  · rw [if_neg h1]
    by_cases h2 : b + (n - k) ≤ j ∧ j < b + n
    · rw [if_pos h2, if_pos (by omega)]
    · rw [if_neg h2, if_neg (by omega)]
abbrev cpyOK (X : Nat → Nat → Int32) (s o : Nat) (i j n : Int32) : Prop := 0 ≤ n.toInt ∧ 0 ≤ i.toInt ∧ 0 ≤ j.toInt ∧ i.toInt ≤ (X 11 s).toInt - n.toInt ∧ j.toInt ≤ (X 11 o).toInt - n.toInt
def cpyF (X : Nat → Nat → Int32) (s i o j n : Int32) : Int32 × (Nat → Nat → Int32) := if ¬ (0 ≤ s.toInt ∧ s.toInt ≤ 3) ∨ ¬ (0 ≤ o.toInt ∧ o.toInt ≤ 3) then (-2, X) else if X 9 s.toNatClampNeg = 0 ∨ X 9 o.toNatClampNeg = 0 then (-11, X) else if ¬ X 10 s.toNatClampNeg = X 10 o.toNatClampNeg then (-13, X) else if ¬ cpyOK X s.toNatClampNeg o.toNatClampNeg i j n then (-12, X) else (n, va_up X 12 (cpB (fun q => X 12 (40 * s.toNatClampNeg + i.toNatClampNeg + q)) (X 12) (40 * o.toNatClampNeg + j.toNatClampNeg) n.toNatClampNeg))

set_option maxHeartbeats 4000000 in
set_option maxRecDepth 100000 in
theorem cM_copy (l : Launch) (E : mw_E) (σ : mw_M) (hsh : mShs σ.2.1) (ss i1 oo j1 n1 : Int32) : mw_Ci shM 13 gM l yX12_copy cX12_copy 9 (some .int) (rmF 2 45) E [.ref (mw_a E 0), .int ss, .int i1, .int oo, .int j1, .int n1] σ (fun r u => r = (cpyF σ.2.1 ss i1 oo j1 n1).1 ∧ mAr σ (cpyF σ.2.1 ss i1 oo j1 n1).2 u) := by
  refine mw_of (by decide) gM_ok (Nat.le_of_ble_eq_true rfl) ?_
  intro p_ e_ s_ m_ below meth c_ C hr hlk Z hP ls hl
  have C : CallFix p_ m_ c_ cX12_copy 9 s_ _ lw_good RX12 := C
  have hl : lv_has ls 9 [(0, .ref (mw_a E 0)), (1, .int ss), (2, .int i1), (3, .int oo), (4, .int j1), (5, .int n1)] := hl
  have hS : va_S (mw_A 13 E) s_.heap s_.heap [] := va_S.rf
  refine lv_iload_n C.1 C.2.1 dX12_copy_0 rfl (lv_at hl 1 rfl) ?_
  refine mw_cSi (As := [.int ss]) (rest := []) C Z hP hS (cM_isSheet l E σ ss) sb_X12_isSheet tw_6_130 ⟨rfl, rfl⟩ ⟨Nat.le_of_ble_eq_true rfl, Nat.le_of_ble_eq_true rfl⟩ rfl hl.1 rfl (Nat.le_of_ble_eq_true rfl) dX12_copy_1 ⟨Nat.zero_le _, Nat.zero_le _⟩ (fun r1 u2 H locs q3 hP hS => ?_)
  obtain ⟨rfl, q3u⟩ := q3
  rw [q3u] at hP; clear q3u
  refine lv_if_eq (tgt := 14) C.1 C.2.1 dX12_copy_4 (by decide) (fun c4 => ?_) (fun c4 => ?_)
  · have c4 := bI_0.mp c4
    refine lv_bipush (v := -2) C.1 C.2.1 dX12_copy_14 (by decide) ?_
    exact mw_iret C hr hlk Z hP hS dX12_copy_16 (⟨by unfold cpyF; rw [if_pos (Or.inl c4)], by unfold cpyF; rw [if_pos (Or.inl c4)]; exact mFs.ar (mFs.rf σ)⟩)
  · have c4 := bI_n.mp c4
    have hrs := c4
    obtain ⟨sn, hsn, esn0⟩ := nI_ofI (k := 3) hrs.1 hrs.2
    subst esn0
    have esn : (nI sn).toNatClampNeg = sn := nI_clamp (by omega)
    refine lv_iload_n C.1 C.2.1 dX12_copy_7 rfl (lv_at hl 3 rfl) ?_
    refine mw_cSi (As := [.int oo]) (rest := []) C Z hP hS (cM_isSheet l E σ oo) sb_X12_isSheet tw_6_130 ⟨rfl, rfl⟩ ⟨Nat.le_of_ble_eq_true rfl, Nat.le_of_ble_eq_true rfl⟩ rfl hl.1 rfl (Nat.le_of_ble_eq_true rfl) dX12_copy_8 ⟨Nat.zero_le _, Nat.zero_le _⟩ (fun r5 u6 H locs q7 hP hS => ?_)
    obtain ⟨rfl, q7u⟩ := q7
    rw [q7u] at hP; clear q7u
    refine lv_if_ne (tgt := 17) C.1 C.2.1 dX12_copy_11 (by decide) (fun c8 => ?_) (fun c8 => ?_)
    · have c8 := bI_n.mp c8
      have hro := c8
      obtain ⟨on, hon, eon0⟩ := nI_ofI (k := 3) hro.1 hro.2
      subst eon0
      have eon : (nI on).toNatClampNeg = on := nI_clamp (by omega)
      have hgood : ¬ (¬ (0 ≤ (nI sn).toInt ∧ (nI sn).toInt ≤ 3) ∨ ¬ (0 ≤ (nI on).toInt ∧ (nI on).toInt ≤ 3)) := fun y => y.elim (fun y => y hrs) (fun y => y hro)
      refine lv_aload_n C.1 C.2.1 dX12_copy_17 rfl (lv_at hl 0 rfl) ?_
      refine mw_getr C Z hP (0) 30 (9) (by decide) rfl rfl rfl (by decide) inX12 tw_4_194 dX12_copy_18 ?_
      refine lv_iload_n C.1 C.2.1 dX12_copy_21 rfl (lv_at hl 1 rfl) ?_
      refine mw_zald C Z hP (9) (sn) (by decide) rfl (Nat.lt_of_lt_of_le (by decide : 4 < 961) (Nat.le_of_ble_eq_true rfl)) rfl (by omega) dX12_copy_22 ?_
      refine lv_if_eq (tgt := 35) C.1 C.2.1 dX12_copy_23 (by decide) (fun c9 => ?_) (fun c9 => ?_)
      · refine lv_bipush (v := -11) C.1 C.2.1 dX12_copy_35 (by decide) ?_
        have e : cpyF σ.2.1 (nI sn) i1 (nI on) j1 n1 = (-11, σ.2.1) := by unfold cpyF; rw [if_neg hgood, esn, eon, if_pos (Or.inl c9)]
        exact mw_iret C hr hlk Z hP hS dX12_copy_37 (⟨by rw [e], by rw [e]; exact mFs.ar (mFs.rf σ)⟩)
      · have ht1 := c9
        refine lv_aload_n C.1 C.2.1 dX12_copy_26 rfl (lv_at hl 0 rfl) ?_
        refine mw_getr C Z hP (0) 30 (9) (by decide) rfl rfl rfl (by decide) inX12 tw_4_194 dX12_copy_27 ?_
        refine lv_iload_n C.1 C.2.1 dX12_copy_30 rfl (lv_at hl 3 rfl) ?_
        refine mw_zald C Z hP (9) (on) (by decide) rfl (Nat.lt_of_lt_of_le (by decide : 4 < 961) (Nat.le_of_ble_eq_true rfl)) rfl (by omega) dX12_copy_31 ?_
        refine lv_if_ne (tgt := 38) C.1 C.2.1 dX12_copy_32 (by decide) (fun c10 => ?_) (fun c10 => ?_)
        · have hth : ¬ (σ.2.1 9 sn = 0 ∨ σ.2.1 9 on = 0) := fun y => y.elim ht1 c10
          obtain ⟨ms, hms4, hms⟩ := ((hsh sn (by omega)).resolve_left ht1).2
          obtain ⟨mo, hmo4, hmo⟩ := ((hsh on (by omega)).resolve_left c10).2
          refine lv_aload_n C.1 C.2.1 dX12_copy_38 rfl (lv_at hl 0 rfl) ?_
          refine mw_getr C Z hP (0) 31 (10) (by decide) rfl rfl rfl (by decide) inX12 tw_4_195 dX12_copy_39 ?_
          refine lv_iload_n C.1 C.2.1 dX12_copy_42 rfl (lv_at hl 1 rfl) ?_
          refine mw_iald C Z hP (10) (sn) (by decide) rfl (Nat.lt_of_lt_of_le (by decide : 4 < 961) (Nat.le_of_ble_eq_true rfl)) rfl (by omega) dX12_copy_43 ?_
          refine lv_aload_n C.1 C.2.1 dX12_copy_44 rfl (lv_at hl 0 rfl) ?_
          refine mw_getr C Z hP (0) 31 (10) (by decide) rfl rfl rfl (by decide) inX12 tw_4_195 dX12_copy_45 ?_
          refine lv_iload_n C.1 C.2.1 dX12_copy_48 rfl (lv_at hl 3 rfl) ?_
          refine mw_iald C Z hP (10) (on) (by decide) rfl (Nat.lt_of_lt_of_le (by decide : 4 < 961) (Nat.le_of_ble_eq_true rfl)) rfl (by omega) dX12_copy_49 ?_
          refine lv_icmp_eq (tgt := 56) C.1 C.2.1 dX12_copy_50 (by decide) (fun c11 => ?_) (fun c11 => ?_)
          · have hso := c11
            refine lv_iload C.1 C.2.1 dX12_copy_56 (lv_at hl 5 rfl) ?_
            refine lv_if_lt (tgt := 97) C.1 C.2.1 dX12_copy_58 (by decide) (fun c12 => ?_) (fun c12 => ?_)
            · refine lv_bipush (v := -12) C.1 C.2.1 dX12_copy_97 (by decide) ?_
              have e : cpyF σ.2.1 (nI sn) i1 (nI on) j1 n1 = (-12, σ.2.1) := by unfold cpyF; rw [if_neg hgood, esn, eon, if_neg hth, if_neg (Decidable.not_not.mpr hso), if_pos (fun y => by obtain ⟨y1, y2, y3, y4, y5⟩ := y; rw [hms, nI_toInt (by omega)] at y4; rw [hmo, nI_toInt (by omega)] at y5; have e0 : (0 : Int32).toInt = 0 := rfl; have := (ni_lt _ _).mp c12; omega)]
              exact mw_iret C hr hlk Z hP hS dX12_copy_99 (⟨by rw [e], by rw [e]; exact mFs.ar (mFs.rf σ)⟩)
            · have hn0 : 0 ≤ n1.toInt := by have y := (not_congr (ni_lt _ _)).mp c12; have e0 : (0 : Int32).toInt = 0 := rfl; omega
              refine lv_iload_n C.1 C.2.1 dX12_copy_61 rfl (lv_at hl 2 rfl) ?_
              refine lv_if_lt (tgt := 97) C.1 C.2.1 dX12_copy_62 (by decide) (fun c13 => ?_) (fun c13 => ?_)
              · refine lv_bipush (v := -12) C.1 C.2.1 dX12_copy_97 (by decide) ?_
                have e : cpyF σ.2.1 (nI sn) i1 (nI on) j1 n1 = (-12, σ.2.1) := by unfold cpyF; rw [if_neg hgood, esn, eon, if_neg hth, if_neg (Decidable.not_not.mpr hso), if_pos (fun y => by obtain ⟨y1, y2, y3, y4, y5⟩ := y; rw [hms, nI_toInt (by omega)] at y4; rw [hmo, nI_toInt (by omega)] at y5; have e0 : (0 : Int32).toInt = 0 := rfl; have := (ni_lt _ _).mp c13; omega)]
                exact mw_iret C hr hlk Z hP hS dX12_copy_99 (⟨by rw [e], by rw [e]; exact mFs.ar (mFs.rf σ)⟩)
              · have hi0 : 0 ≤ i1.toInt := by have y := (not_congr (ni_lt _ _)).mp c13; have e0 : (0 : Int32).toInt = 0 := rfl; omega
                refine lv_iload C.1 C.2.1 dX12_copy_65 (lv_at hl 4 rfl) ?_
                refine lv_if_lt (tgt := 97) C.1 C.2.1 dX12_copy_67 (by decide) (fun c14 => ?_) (fun c14 => ?_)
                · refine lv_bipush (v := -12) C.1 C.2.1 dX12_copy_97 (by decide) ?_
                  have e : cpyF σ.2.1 (nI sn) i1 (nI on) j1 n1 = (-12, σ.2.1) := by unfold cpyF; rw [if_neg hgood, esn, eon, if_neg hth, if_neg (Decidable.not_not.mpr hso), if_pos (fun y => by obtain ⟨y1, y2, y3, y4, y5⟩ := y; rw [hms, nI_toInt (by omega)] at y4; rw [hmo, nI_toInt (by omega)] at y5; have e0 : (0 : Int32).toInt = 0 := rfl; have := (ni_lt _ _).mp c14; omega)]
                  exact mw_iret C hr hlk Z hP hS dX12_copy_99 (⟨by rw [e], by rw [e]; exact mFs.ar (mFs.rf σ)⟩)
                · have hj0 : 0 ≤ j1.toInt := by have y := (not_congr (ni_lt _ _)).mp c14; have e0 : (0 : Int32).toInt = 0 := rfl; omega
                  refine lv_iload_n C.1 C.2.1 dX12_copy_70 rfl (lv_at hl 2 rfl) ?_
                  refine lv_aload_n C.1 C.2.1 dX12_copy_71 rfl (lv_at hl 0 rfl) ?_
                  refine mw_getr C Z hP (0) 32 (11) (by decide) rfl rfl rfl (by decide) inX12 tw_4_196 dX12_copy_72 ?_
                  refine lv_iload_n C.1 C.2.1 dX12_copy_75 rfl (lv_at hl 1 rfl) ?_
                  refine mw_iald C Z hP (11) (sn) (by decide) rfl (Nat.lt_of_lt_of_le (by decide : 4 < 961) (Nat.le_of_ble_eq_true rfl)) rfl (by omega) dX12_copy_76 ?_
                  refine mw_top (y := nI ms) hms ?_
                  refine lv_iload C.1 C.2.1 dX12_copy_77 (lv_at hl 5 rfl) ?_
                  refine lv_isub C.1 C.2.1 dX12_copy_79 ?_
                  refine lv_icmp_gt (tgt := 97) C.1 C.2.1 dX12_copy_80 (by decide) (fun c15 => ?_) (fun c15 => ?_)
                  · refine lv_bipush (v := -12) C.1 C.2.1 dX12_copy_97 (by decide) ?_
                    have e : cpyF σ.2.1 (nI sn) i1 (nI on) j1 n1 = (-12, σ.2.1) := by unfold cpyF; rw [if_neg hgood, esn, eon, if_neg hth, if_neg (Decidable.not_not.mpr hso), if_pos (fun y => by obtain ⟨y1, y2, y3, y4, y5⟩ := y; rw [hms, nI_toInt (by omega)] at y4; rw [hmo, nI_toInt (by omega)] at y5; have e0 : (0 : Int32).toInt = 0 := rfl; have y9 := (ni_lt _ _).mp c15; rw [sub_sz hms4 hn0] at y9; omega)]
                    exact mw_iret C hr hlk Z hP hS dX12_copy_99 (⟨by rw [e], by rw [e]; exact mFs.ar (mFs.rf σ)⟩)
                  · have hi1 : i1.toInt ≤ (ms : Int) - n1.toInt := by have y := (not_congr (ni_lt _ _)).mp c15; rw [sub_sz hms4 hn0] at y; omega
                    refine lv_iload C.1 C.2.1 dX12_copy_83 (lv_at hl 4 rfl) ?_
                    refine lv_aload_n C.1 C.2.1 dX12_copy_85 rfl (lv_at hl 0 rfl) ?_
                    refine mw_getr C Z hP (0) 32 (11) (by decide) rfl rfl rfl (by decide) inX12 tw_4_196 dX12_copy_86 ?_
                    refine lv_iload_n C.1 C.2.1 dX12_copy_89 rfl (lv_at hl 3 rfl) ?_
                    refine mw_iald C Z hP (11) (on) (by decide) rfl (Nat.lt_of_lt_of_le (by decide : 4 < 961) (Nat.le_of_ble_eq_true rfl)) rfl (by omega) dX12_copy_90 ?_
                    refine mw_top (y := nI mo) hmo ?_
                    refine lv_iload C.1 C.2.1 dX12_copy_91 (lv_at hl 5 rfl) ?_
                    refine lv_isub C.1 C.2.1 dX12_copy_93 ?_
                    refine lv_icmp_le (tgt := 100) C.1 C.2.1 dX12_copy_94 (by decide) (fun c16 => ?_) (fun c16 => ?_)
                    · have hj1 : j1.toInt ≤ (mo : Int) - n1.toInt := by have y := (ni_le _ _).mp c16; rw [sub_sz hmo4 hn0] at y; omega
                      have hcp : cpyOK σ.2.1 sn on i1 j1 n1 := ⟨hn0, hi0, hj0, by rw [hms, nI_toInt (by omega)]; omega, by rw [hmo, nI_toInt (by omega)]; omega⟩
                      obtain ⟨nn, hnn, en0⟩ := nI_ofI (k := 40) hn0 (by omega)
                      obtain ⟨i, hi, ei0⟩ := nI_ofI (k := 40) hi0 (by omega)
                      obtain ⟨j, hj, ej0⟩ := nI_ofI (k := 40) hj0 (by omega)
                      subst en0
                      subst ei0
                      subst ej0
                      have enn : (nI nn).toNatClampNeg = nn := nI_clamp (by omega)
                      have eii : (nI i).toNatClampNeg = i := nI_clamp (by omega)
                      have ejj : (nI j).toNatClampNeg = j := nI_clamp (by omega)
                      rw [nI_toInt (by omega), nI_toInt (by omega)] at hi1
                      rw [nI_toInt (by omega), nI_toInt (by omega)] at hj1
                      refine lv_iload_n C.1 C.2.1 dX12_copy_100 rfl (lv_at hl 1 rfl) ?_
                      refine lv_iload_n C.1 C.2.1 dX12_copy_101 rfl (lv_at hl 3 rfl) ?_
                      refine lv_icmp_ne (tgt := 115) C.1 C.2.1 dX12_copy_102 (by decide) (fun c17 => ?_) (fun c17 => ?_)
                      · have hne : sn ≠ on := (not_congr (nI_eq (by omega) (by omega))).mp c17
                        refine lv_iconst (v := 0) C.1 C.2.1 dX12_copy_115 (by decide) ?_
                        refine lv_istore (lv' := [(6, .int 0), (0, .ref (mw_a E 0)), (1, .int (nI sn)), (2, .int (nI i)), (3, .int (nI on)), (4, .int (nI j)), (5, .int (nI nn))]) C.1 C.2.1 dX12_copy_116 hl (by decide) rfl (fun ls hl => ?_)
                        refine lv_iconst (v := 0) C.1 C.2.1 dX12_copy_118 (by decide) ?_
                        refine lv_istore (lv' := [(7, .int 0), (6, .int 0), (0, .ref (mw_a E 0)), (1, .int (nI sn)), (2, .int (nI i)), (3, .int (nI on)), (4, .int (nI j)), (5, .int (nI nn))]) C.1 C.2.1 dX12_copy_119 hl (by decide) rfl (fun ls hl => ?_)
                        have lpa : ∀ (N : Nat) (k : Nat) (ςa : mw_M) (H : Heap) (locs : List Loc), nn + 1 ≤ k + N → (k ≤ nn) → mEx σ (va_up σ.2.1 12 (cpB (fun q => σ.2.1 12 (40 * sn + i + q)) (σ.2.1 12) (40 * on + j) k)) ςa → va_P (mw_D E) vwCl (mw_ws shM 13 E ςa) H → va_S (mw_A 13 E) s_.heap H locs → ∀ (ls : Array Slot), lv_has ls 9 [(0, .ref (mw_a E 0)), (1, .int (nI sn)), (2, .int (nI i)), (3, .int (nI on)), (4, .int (nI j)), (5, .int (nI nn)), (6, .int 0), (7, .int (nI k))] → mWi p_ l e_ (rmF 2 45) s_ m_ [.ref (mw_a E 0), .int (nI sn), .int (nI i), .int (nI on), .int (nI j), .int (nI nn)] below meth c_ E (fun r u => r = (cpyF σ.2.1 (nI sn) (nI i) (nI on) (nI j) (nI nn)).1 ∧ mAr σ (cpyF σ.2.1 (nI sn) (nI i) (nI on) (nI j) (nI nn)).2 u) H locs (F0 m_ 121 ls []) := by
                          intro N
                          induction N with
                          | zero => intros; exfalso; omega
                          | succ N iha =>
                            intro k ςa H locs hNa hk fra hP hS ls hl
                            refine lv_iload C.1 C.2.1 dX12_copy_121 (lv_at hl 7 rfl) ?_
                            refine lv_iload C.1 C.2.1 dX12_copy_123 (lv_at hl 5 rfl) ?_
                            refine lv_icmp_ge (tgt := 182) C.1 C.2.1 dX12_copy_125 (by decide) (fun c18 => ?_) (fun c18 => ?_)
                            · have c18 := (nI_leI (by omega) (by omega)).mp c18
                              refine lv_iload C.1 C.2.1 dX12_copy_182 (lv_at hl 5 rfl) ?_
                              have ek : k = nn := by omega
                              have e : cpyF σ.2.1 (nI sn) (nI i) (nI on) (nI j) (nI nn) = (nI nn, va_up σ.2.1 12 (cpB (fun q => σ.2.1 12 (40 * sn + i + q)) (σ.2.1 12) (40 * on + j) nn)) := by unfold cpyF; rw [if_neg hgood, esn, eon, if_neg hth, if_neg (Decidable.not_not.mpr hso), if_neg (Decidable.not_not.mpr hcp), eii, ejj, enn]
                              exact mw_iret C hr hlk Z hP hS dX12_copy_184 (⟨by rw [e], by rw [e]; exact ⟨by rw [fra.1, ek], fun f _ => congrFun (congrFun fra.2 0) f⟩⟩)
                            · have c18 : _ := (not_congr (nI_leI (by omega) (by omega))).mp c18
                              refine lv_iload C.1 C.2.1 dX12_copy_128 (lv_at hl 6 rfl) ?_
                              refine lv_if_eq (tgt := 143) C.1 C.2.1 dX12_copy_130 (by decide) (fun c19 => ?_) (fun c19 => ?_)
                              · refine lv_iload C.1 C.2.1 dX12_copy_143 (lv_at hl 7 rfl) ?_
                                refine lv_istore (lv' := [(8, .int (nI k)), (0, .ref (mw_a E 0)), (1, .int (nI sn)), (2, .int (nI i)), (3, .int (nI on)), (4, .int (nI j)), (5, .int (nI nn)), (6, .int 0), (7, .int (nI k))]) C.1 C.2.1 dX12_copy_145 hl (by decide) rfl (fun ls hl => ?_)
                                refine lv_aload_n C.1 C.2.1 dX12_copy_147 rfl (lv_at hl 1 rfl) ?_
                                refine mw_getr C Z hP (0) 33 (12) (by decide) rfl rfl rfl (by decide) inX12 tw_4_197 dX12_copy_148 ?_
                                refine lv_bipush (v := 40) C.1 C.2.1 dX12_copy_151 (by decide) ?_
                                refine lv_iload_n C.1 C.2.1 dX12_copy_153 rfl (lv_at hl 4 rfl) ?_
                                refine lv_imul C.1 C.2.1 dX12_copy_154 ?_
                                refine mw_top (y := nI (40 * on)) (pk_mul 40 on) ?_
                                refine lv_iload C.1 C.2.1 dX12_copy_155 (lv_at hl 5 rfl) ?_
                                refine lv_iadd C.1 C.2.1 dX12_copy_157 ?_
                                refine mw_top (y := nI (40 * on + j)) (nI_add _ _) ?_
                                refine lv_iload C.1 C.2.1 dX12_copy_158 (lv_at hl 0 rfl) ?_
                                refine lv_iadd C.1 C.2.1 dX12_copy_160 ?_
                                refine mw_top (y := nI (40 * on + j + k)) (nI_add _ _) ?_
                                refine lv_aload_n C.1 C.2.1 dX12_copy_161 rfl (lv_at hl 1 rfl) ?_
                                refine mw_getr C Z hP (0) 33 (12) (by decide) rfl rfl rfl (by decide) inX12 tw_4_197 dX12_copy_162 ?_
                                refine lv_bipush (v := 40) C.1 C.2.1 dX12_copy_165 (by decide) ?_
                                refine lv_iload_n C.1 C.2.1 dX12_copy_167 rfl (lv_at hl 2 rfl) ?_
                                refine lv_imul C.1 C.2.1 dX12_copy_168 ?_
                                refine mw_top (y := nI (40 * sn)) (pk_mul 40 sn) ?_
                                refine lv_iload_n C.1 C.2.1 dX12_copy_169 rfl (lv_at hl 3 rfl) ?_
                                refine lv_iadd C.1 C.2.1 dX12_copy_170 ?_
                                refine mw_top (y := nI (40 * sn + i)) (nI_add _ _) ?_
                                refine lv_iload C.1 C.2.1 dX12_copy_171 (lv_at hl 0 rfl) ?_
                                refine lv_iadd C.1 C.2.1 dX12_copy_173 ?_
                                refine mw_top (y := nI (40 * sn + i + k)) (nI_add _ _) ?_
                                refine mw_iald C Z hP (12) (40 * sn + i + k) (by decide) rfl (Nat.lt_of_lt_of_le (by decide : 160 < 961) (Nat.le_of_ble_eq_true rfl)) rfl (by omega) dX12_copy_174 ?_
                                refine mw_top (y := σ.2.1 12 (40 * sn + i + k)) (by rw [fra.1, va_up_self]; unfold cpB; rw [if_neg (by omega)]) ?_
                                refine mw_iast C Z hP hS (12) (40 * on + j + k) (by decide) rfl (Nat.lt_of_lt_of_le (by decide : 160 < 961) (Nat.le_of_ble_eq_true rfl)) rfl (by omega) dX12_copy_175 (fun H locs hP hS => ?_)
                                refine lv_iinc (v := nI (k + 1)) (lv' := [(7, .int (nI (k + 1))), (8, .int (nI k)), (0, .ref (mw_a E 0)), (1, .int (nI sn)), (2, .int (nI i)), (3, .int (nI on)), (4, .int (nI j)), (5, .int (nI nn)), (6, .int 0)]) C.1 C.2.1 dX12_copy_176 hl (k := 8) rfl (nI_1 _) (by decide) rfl (fun ls hl => ?_)
                                refine lv_goto (tgt := 121) C.1 C.2.1 dX12_copy_179 (by decide) ?_
                                exact iha (k + 1) (mw_sa ςa 12 (40 * on + j + k) (σ.2.1 12 (40 * sn + i + k))) _ _ (by omega) (by omega) (by have y := mEx.sa fra 12 (40 * on + j + k) ((fun q => σ.2.1 12 (40 * sn + i + q)) k); rw [va_up_self, bx_uu, cpB_s] at y; exact y) hP hS ls (lv_sub hl [2, 3, 4, 5, 6, 7, 8, 0] rfl)
                              · exact absurd c19 (by decide)
                        exact lpa (nn + 1) 0 σ _ _ (by omega) (by omega) ⟨by rw [cpB_0, up_self], rfl⟩ hP hS ls (lv_sub hl [2, 3, 4, 5, 6, 7, 1, 0] rfl)
                      · have heq : sn = on := (nI_eq (by omega) (by omega)).mp c17
                        refine lv_iload_n C.1 C.2.1 dX12_copy_105 rfl (lv_at hl 2 rfl) ?_
                        refine lv_iload C.1 C.2.1 dX12_copy_106 (lv_at hl 4 rfl) ?_
                        refine lv_icmp_ge (tgt := 115) C.1 C.2.1 dX12_copy_108 (by decide) (fun c20 => ?_) (fun c20 => ?_)
                        · have hij : j ≤ i := (nI_leI (by omega) (by omega)).mp c20
                          refine lv_iconst (v := 0) C.1 C.2.1 dX12_copy_115 (by decide) ?_
                          refine lv_istore (lv' := [(6, .int 0), (0, .ref (mw_a E 0)), (1, .int (nI sn)), (2, .int (nI i)), (3, .int (nI on)), (4, .int (nI j)), (5, .int (nI nn))]) C.1 C.2.1 dX12_copy_116 hl (by decide) rfl (fun ls hl => ?_)
                          refine lv_iconst (v := 0) C.1 C.2.1 dX12_copy_118 (by decide) ?_
                          refine lv_istore (lv' := [(7, .int 0), (6, .int 0), (0, .ref (mw_a E 0)), (1, .int (nI sn)), (2, .int (nI i)), (3, .int (nI on)), (4, .int (nI j)), (5, .int (nI nn))]) C.1 C.2.1 dX12_copy_119 hl (by decide) rfl (fun ls hl => ?_)
                          have lpa : ∀ (N : Nat) (k : Nat) (ςa : mw_M) (H : Heap) (locs : List Loc), nn + 1 ≤ k + N → (k ≤ nn) → mEx σ (va_up σ.2.1 12 (cpB (fun q => σ.2.1 12 (40 * sn + i + q)) (σ.2.1 12) (40 * on + j) k)) ςa → va_P (mw_D E) vwCl (mw_ws shM 13 E ςa) H → va_S (mw_A 13 E) s_.heap H locs → ∀ (ls : Array Slot), lv_has ls 9 [(0, .ref (mw_a E 0)), (1, .int (nI sn)), (2, .int (nI i)), (3, .int (nI on)), (4, .int (nI j)), (5, .int (nI nn)), (6, .int 0), (7, .int (nI k))] → mWi p_ l e_ (rmF 2 45) s_ m_ [.ref (mw_a E 0), .int (nI sn), .int (nI i), .int (nI on), .int (nI j), .int (nI nn)] below meth c_ E (fun r u => r = (cpyF σ.2.1 (nI sn) (nI i) (nI on) (nI j) (nI nn)).1 ∧ mAr σ (cpyF σ.2.1 (nI sn) (nI i) (nI on) (nI j) (nI nn)).2 u) H locs (F0 m_ 121 ls []) := by
                            intro N
                            induction N with
                            | zero => intros; exfalso; omega
                            | succ N iha =>
                              intro k ςa H locs hNa hk fra hP hS ls hl
                              refine lv_iload C.1 C.2.1 dX12_copy_121 (lv_at hl 7 rfl) ?_
                              refine lv_iload C.1 C.2.1 dX12_copy_123 (lv_at hl 5 rfl) ?_
                              refine lv_icmp_ge (tgt := 182) C.1 C.2.1 dX12_copy_125 (by decide) (fun c21 => ?_) (fun c21 => ?_)
                              · have c21 := (nI_leI (by omega) (by omega)).mp c21
                                refine lv_iload C.1 C.2.1 dX12_copy_182 (lv_at hl 5 rfl) ?_
                                have ek : k = nn := by omega
                                have e : cpyF σ.2.1 (nI sn) (nI i) (nI on) (nI j) (nI nn) = (nI nn, va_up σ.2.1 12 (cpB (fun q => σ.2.1 12 (40 * sn + i + q)) (σ.2.1 12) (40 * on + j) nn)) := by unfold cpyF; rw [if_neg hgood, esn, eon, if_neg hth, if_neg (Decidable.not_not.mpr hso), if_neg (Decidable.not_not.mpr hcp), eii, ejj, enn]
                                exact mw_iret C hr hlk Z hP hS dX12_copy_184 (⟨by rw [e], by rw [e]; exact ⟨by rw [fra.1, ek], fun f _ => congrFun (congrFun fra.2 0) f⟩⟩)
                              · have c21 : _ := (not_congr (nI_leI (by omega) (by omega))).mp c21
                                refine lv_iload C.1 C.2.1 dX12_copy_128 (lv_at hl 6 rfl) ?_
                                refine lv_if_eq (tgt := 143) C.1 C.2.1 dX12_copy_130 (by decide) (fun c22 => ?_) (fun c22 => ?_)
                                · refine lv_iload C.1 C.2.1 dX12_copy_143 (lv_at hl 7 rfl) ?_
                                  refine lv_istore (lv' := [(8, .int (nI k)), (0, .ref (mw_a E 0)), (1, .int (nI sn)), (2, .int (nI i)), (3, .int (nI on)), (4, .int (nI j)), (5, .int (nI nn)), (6, .int 0), (7, .int (nI k))]) C.1 C.2.1 dX12_copy_145 hl (by decide) rfl (fun ls hl => ?_)
                                  refine lv_aload_n C.1 C.2.1 dX12_copy_147 rfl (lv_at hl 1 rfl) ?_
                                  refine mw_getr C Z hP (0) 33 (12) (by decide) rfl rfl rfl (by decide) inX12 tw_4_197 dX12_copy_148 ?_
                                  refine lv_bipush (v := 40) C.1 C.2.1 dX12_copy_151 (by decide) ?_
                                  refine lv_iload_n C.1 C.2.1 dX12_copy_153 rfl (lv_at hl 4 rfl) ?_
                                  refine lv_imul C.1 C.2.1 dX12_copy_154 ?_
                                  refine mw_top (y := nI (40 * on)) (pk_mul 40 on) ?_
                                  refine lv_iload C.1 C.2.1 dX12_copy_155 (lv_at hl 5 rfl) ?_
                                  refine lv_iadd C.1 C.2.1 dX12_copy_157 ?_
                                  refine mw_top (y := nI (40 * on + j)) (nI_add _ _) ?_
                                  refine lv_iload C.1 C.2.1 dX12_copy_158 (lv_at hl 0 rfl) ?_
                                  refine lv_iadd C.1 C.2.1 dX12_copy_160 ?_
                                  refine mw_top (y := nI (40 * on + j + k)) (nI_add _ _) ?_
                                  refine lv_aload_n C.1 C.2.1 dX12_copy_161 rfl (lv_at hl 1 rfl) ?_
                                  refine mw_getr C Z hP (0) 33 (12) (by decide) rfl rfl rfl (by decide) inX12 tw_4_197 dX12_copy_162 ?_
                                  refine lv_bipush (v := 40) C.1 C.2.1 dX12_copy_165 (by decide) ?_
                                  refine lv_iload_n C.1 C.2.1 dX12_copy_167 rfl (lv_at hl 2 rfl) ?_
                                  refine lv_imul C.1 C.2.1 dX12_copy_168 ?_
                                  refine mw_top (y := nI (40 * sn)) (pk_mul 40 sn) ?_
                                  refine lv_iload_n C.1 C.2.1 dX12_copy_169 rfl (lv_at hl 3 rfl) ?_
                                  refine lv_iadd C.1 C.2.1 dX12_copy_170 ?_
                                  refine mw_top (y := nI (40 * sn + i)) (nI_add _ _) ?_
                                  refine lv_iload C.1 C.2.1 dX12_copy_171 (lv_at hl 0 rfl) ?_
                                  refine lv_iadd C.1 C.2.1 dX12_copy_173 ?_
                                  refine mw_top (y := nI (40 * sn + i + k)) (nI_add _ _) ?_
                                  refine mw_iald C Z hP (12) (40 * sn + i + k) (by decide) rfl (Nat.lt_of_lt_of_le (by decide : 160 < 961) (Nat.le_of_ble_eq_true rfl)) rfl (by omega) dX12_copy_174 ?_
                                  refine mw_top (y := σ.2.1 12 (40 * sn + i + k)) (by rw [fra.1, va_up_self]; unfold cpB; rw [if_neg (by omega)]) ?_
                                  refine mw_iast C Z hP hS (12) (40 * on + j + k) (by decide) rfl (Nat.lt_of_lt_of_le (by decide : 160 < 961) (Nat.le_of_ble_eq_true rfl)) rfl (by omega) dX12_copy_175 (fun H locs hP hS => ?_)
                                  refine lv_iinc (v := nI (k + 1)) (lv' := [(7, .int (nI (k + 1))), (8, .int (nI k)), (0, .ref (mw_a E 0)), (1, .int (nI sn)), (2, .int (nI i)), (3, .int (nI on)), (4, .int (nI j)), (5, .int (nI nn)), (6, .int 0)]) C.1 C.2.1 dX12_copy_176 hl (k := 8) rfl (nI_1 _) (by decide) rfl (fun ls hl => ?_)
                                  refine lv_goto (tgt := 121) C.1 C.2.1 dX12_copy_179 (by decide) ?_
                                  exact iha (k + 1) (mw_sa ςa 12 (40 * on + j + k) (σ.2.1 12 (40 * sn + i + k))) _ _ (by omega) (by omega) (by have y := mEx.sa fra 12 (40 * on + j + k) ((fun q => σ.2.1 12 (40 * sn + i + q)) k); rw [va_up_self, bx_uu, cpB_s] at y; exact y) hP hS ls (lv_sub hl [2, 3, 4, 5, 6, 7, 8, 0] rfl)
                                · exact absurd c22 (by decide)
                          exact lpa (nn + 1) 0 σ _ _ (by omega) (by omega) ⟨by rw [cpB_0, up_self], rfl⟩ hP hS ls (lv_sub hl [2, 3, 4, 5, 6, 7, 1, 0] rfl)
                        · have hij : ¬ j ≤ i := (not_congr (nI_leI (by omega) (by omega))).mp c20
                          refine lv_iconst (v := 1) C.1 C.2.1 dX12_copy_111 (by decide) ?_
                          refine lv_goto (tgt := 116) C.1 C.2.1 dX12_copy_112 (by decide) ?_
                          refine lv_istore (lv' := [(6, .int 1), (0, .ref (mw_a E 0)), (1, .int (nI sn)), (2, .int (nI i)), (3, .int (nI on)), (4, .int (nI j)), (5, .int (nI nn))]) C.1 C.2.1 dX12_copy_116 hl (by decide) rfl (fun ls hl => ?_)
                          refine lv_iconst (v := 0) C.1 C.2.1 dX12_copy_118 (by decide) ?_
                          refine lv_istore (lv' := [(7, .int 0), (6, .int 1), (0, .ref (mw_a E 0)), (1, .int (nI sn)), (2, .int (nI i)), (3, .int (nI on)), (4, .int (nI j)), (5, .int (nI nn))]) C.1 C.2.1 dX12_copy_119 hl (by decide) rfl (fun ls hl => ?_)
                          have lpa : ∀ (N : Nat) (k : Nat) (ςa : mw_M) (H : Heap) (locs : List Loc), nn + 1 ≤ k + N → (k ≤ nn) → mEx σ (va_up σ.2.1 12 (cpC (fun q => σ.2.1 12 (40 * sn + i + q)) (σ.2.1 12) (40 * on + j) nn k)) ςa → va_P (mw_D E) vwCl (mw_ws shM 13 E ςa) H → va_S (mw_A 13 E) s_.heap H locs → ∀ (ls : Array Slot), lv_has ls 9 [(0, .ref (mw_a E 0)), (1, .int (nI sn)), (2, .int (nI i)), (3, .int (nI on)), (4, .int (nI j)), (5, .int (nI nn)), (6, .int 1), (7, .int (nI k))] → mWi p_ l e_ (rmF 2 45) s_ m_ [.ref (mw_a E 0), .int (nI sn), .int (nI i), .int (nI on), .int (nI j), .int (nI nn)] below meth c_ E (fun r u => r = (cpyF σ.2.1 (nI sn) (nI i) (nI on) (nI j) (nI nn)).1 ∧ mAr σ (cpyF σ.2.1 (nI sn) (nI i) (nI on) (nI j) (nI nn)).2 u) H locs (F0 m_ 121 ls []) := by
                            intro N
                            induction N with
                            | zero => intros; exfalso; omega
                            | succ N iha =>
                              intro k ςa H locs hNa hk fra hP hS ls hl
                              refine lv_iload C.1 C.2.1 dX12_copy_121 (lv_at hl 7 rfl) ?_
                              refine lv_iload C.1 C.2.1 dX12_copy_123 (lv_at hl 5 rfl) ?_
                              refine lv_icmp_ge (tgt := 182) C.1 C.2.1 dX12_copy_125 (by decide) (fun c23 => ?_) (fun c23 => ?_)
                              · have c23 := (nI_leI (by omega) (by omega)).mp c23
                                refine lv_iload C.1 C.2.1 dX12_copy_182 (lv_at hl 5 rfl) ?_
                                have ek : k = nn := by omega
                                have e : cpyF σ.2.1 (nI sn) (nI i) (nI on) (nI j) (nI nn) = (nI nn, va_up σ.2.1 12 (cpB (fun q => σ.2.1 12 (40 * sn + i + q)) (σ.2.1 12) (40 * on + j) nn)) := by unfold cpyF; rw [if_neg hgood, esn, eon, if_neg hth, if_neg (Decidable.not_not.mpr hso), if_neg (Decidable.not_not.mpr hcp), eii, ejj, enn]
                                exact mw_iret C hr hlk Z hP hS dX12_copy_184 (⟨by rw [e], by rw [e]; exact ⟨by rw [fra.1, ek, cpC_n], fun f _ => congrFun (congrFun fra.2 0) f⟩⟩)
                              · have c23 : _ := (not_congr (nI_leI (by omega) (by omega))).mp c23
                                refine lv_iload C.1 C.2.1 dX12_copy_128 (lv_at hl 6 rfl) ?_
                                refine lv_if_eq (tgt := 143) C.1 C.2.1 dX12_copy_130 (by decide) (fun c24 => ?_) (fun c24 => ?_)
                                · exact absurd c24 (by decide)
                                · refine lv_iload C.1 C.2.1 dX12_copy_133 (lv_at hl 5 rfl) ?_
                                  refine lv_iconst (v := 1) C.1 C.2.1 dX12_copy_135 (by decide) ?_
                                  refine lv_isub C.1 C.2.1 dX12_copy_136 ?_
                                  refine lv_iload C.1 C.2.1 dX12_copy_137 (lv_at hl 7 rfl) ?_
                                  refine lv_isub C.1 C.2.1 dX12_copy_139 ?_
                                  refine lv_goto (tgt := 145) C.1 C.2.1 dX12_copy_140 (by decide) ?_
                                  refine mw_top (y := nI (nn - 1 - k)) (by rw [show nI nn - 1 = nI (nn - 1) from pk_sub (b := 1) (by omega)]; exact pk_sub (by omega)) ?_
                                  refine lv_istore (lv' := [(8, .int (nI (nn - 1 - k))), (0, .ref (mw_a E 0)), (1, .int (nI sn)), (2, .int (nI i)), (3, .int (nI on)), (4, .int (nI j)), (5, .int (nI nn)), (6, .int 1), (7, .int (nI k))]) C.1 C.2.1 dX12_copy_145 hl (by decide) rfl (fun ls hl => ?_)
                                  refine lv_aload_n C.1 C.2.1 dX12_copy_147 rfl (lv_at hl 1 rfl) ?_
                                  refine mw_getr C Z hP (0) 33 (12) (by decide) rfl rfl rfl (by decide) inX12 tw_4_197 dX12_copy_148 ?_
                                  refine lv_bipush (v := 40) C.1 C.2.1 dX12_copy_151 (by decide) ?_
                                  refine lv_iload_n C.1 C.2.1 dX12_copy_153 rfl (lv_at hl 4 rfl) ?_
                                  refine lv_imul C.1 C.2.1 dX12_copy_154 ?_
                                  refine mw_top (y := nI (40 * on)) (pk_mul 40 on) ?_
                                  refine lv_iload C.1 C.2.1 dX12_copy_155 (lv_at hl 5 rfl) ?_
                                  refine lv_iadd C.1 C.2.1 dX12_copy_157 ?_
                                  refine mw_top (y := nI (40 * on + j)) (nI_add _ _) ?_
                                  refine lv_iload C.1 C.2.1 dX12_copy_158 (lv_at hl 0 rfl) ?_
                                  refine lv_iadd C.1 C.2.1 dX12_copy_160 ?_
                                  refine mw_top (y := nI (40 * on + j + (nn - 1 - k))) (nI_add _ _) ?_
                                  refine lv_aload_n C.1 C.2.1 dX12_copy_161 rfl (lv_at hl 1 rfl) ?_
                                  refine mw_getr C Z hP (0) 33 (12) (by decide) rfl rfl rfl (by decide) inX12 tw_4_197 dX12_copy_162 ?_
                                  refine lv_bipush (v := 40) C.1 C.2.1 dX12_copy_165 (by decide) ?_
                                  refine lv_iload_n C.1 C.2.1 dX12_copy_167 rfl (lv_at hl 2 rfl) ?_
                                  refine lv_imul C.1 C.2.1 dX12_copy_168 ?_
                                  refine mw_top (y := nI (40 * sn)) (pk_mul 40 sn) ?_
                                  refine lv_iload_n C.1 C.2.1 dX12_copy_169 rfl (lv_at hl 3 rfl) ?_
                                  refine lv_iadd C.1 C.2.1 dX12_copy_170 ?_
                                  refine mw_top (y := nI (40 * sn + i)) (nI_add _ _) ?_
                                  refine lv_iload C.1 C.2.1 dX12_copy_171 (lv_at hl 0 rfl) ?_
                                  refine lv_iadd C.1 C.2.1 dX12_copy_173 ?_
                                  refine mw_top (y := nI (40 * sn + i + (nn - 1 - k))) (nI_add _ _) ?_
                                  refine mw_iald C Z hP (12) (40 * sn + i + (nn - 1 - k)) (by decide) rfl (Nat.lt_of_lt_of_le (by decide : 160 < 961) (Nat.le_of_ble_eq_true rfl)) rfl (by omega) dX12_copy_174 ?_
                                  refine mw_top (y := σ.2.1 12 (40 * sn + i + (nn - 1 - k))) (by rw [fra.1, va_up_self]; unfold cpC; rw [if_neg (by omega)]) ?_
                                  refine mw_iast C Z hP hS (12) (40 * on + j + (nn - 1 - k)) (by decide) rfl (Nat.lt_of_lt_of_le (by decide : 160 < 961) (Nat.le_of_ble_eq_true rfl)) rfl (by omega) dX12_copy_175 (fun H locs hP hS => ?_)
                                  refine lv_iinc (v := nI (k + 1)) (lv' := [(7, .int (nI (k + 1))), (8, .int (nI (nn - 1 - k))), (0, .ref (mw_a E 0)), (1, .int (nI sn)), (2, .int (nI i)), (3, .int (nI on)), (4, .int (nI j)), (5, .int (nI nn)), (6, .int 1)]) C.1 C.2.1 dX12_copy_176 hl (k := 8) rfl (nI_1 _) (by decide) rfl (fun ls hl => ?_)
                                  refine lv_goto (tgt := 121) C.1 C.2.1 dX12_copy_179 (by decide) ?_
                                  exact iha (k + 1) (mw_sa ςa 12 (40 * on + j + (nn - 1 - k)) (σ.2.1 12 (40 * sn + i + (nn - 1 - k)))) _ _ (by omega) (by omega) (by have y := mEx.sa fra 12 (40 * on + j + (nn - 1 - k)) ((fun q => σ.2.1 12 (40 * sn + i + q)) (nn - 1 - k)); rw [va_up_self, bx_uu, cpC_s _ _ _ _ _ (by omega)] at y; exact y) hP hS ls (lv_sub hl [2, 3, 4, 5, 6, 7, 8, 0] rfl)
                          exact lpa (nn + 1) 0 σ _ _ (by omega) (by omega) ⟨by rw [cpC_0, up_self], rfl⟩ hP hS ls (lv_sub hl [2, 3, 4, 5, 6, 7, 1, 0] rfl)
                    · refine lv_bipush (v := -12) C.1 C.2.1 dX12_copy_97 (by decide) ?_
                      have e : cpyF σ.2.1 (nI sn) i1 (nI on) j1 n1 = (-12, σ.2.1) := by unfold cpyF; rw [if_neg hgood, esn, eon, if_neg hth, if_neg (Decidable.not_not.mpr hso), if_pos (fun y => by obtain ⟨y1, y2, y3, y4, y5⟩ := y; rw [hms, nI_toInt (by omega)] at y4; rw [hmo, nI_toInt (by omega)] at y5; have e0 : (0 : Int32).toInt = 0 := rfl; have y9 := (not_congr (ni_le _ _)).mp c16; rw [sub_sz hmo4 hn0] at y9; omega)]
                      exact mw_iret C hr hlk Z hP hS dX12_copy_99 (⟨by rw [e], by rw [e]; exact mFs.ar (mFs.rf σ)⟩)
          · refine lv_bipush (v := -13) C.1 C.2.1 dX12_copy_53 (by decide) ?_
            have e : cpyF σ.2.1 (nI sn) i1 (nI on) j1 n1 = (-13, σ.2.1) := by unfold cpyF; rw [if_neg hgood, esn, eon, if_neg hth, if_pos c11]
            exact mw_iret C hr hlk Z hP hS dX12_copy_55 (⟨by rw [e], by rw [e]; exact mFs.ar (mFs.rf σ)⟩)
        · refine lv_bipush (v := -11) C.1 C.2.1 dX12_copy_35 (by decide) ?_
          have e : cpyF σ.2.1 (nI sn) i1 (nI on) j1 n1 = (-11, σ.2.1) := by unfold cpyF; rw [if_neg hgood, esn, eon, if_pos (Or.inr c10)]
          exact mw_iret C hr hlk Z hP hS dX12_copy_37 (⟨by rw [e], by rw [e]; exact mFs.ar (mFs.rf σ)⟩)
    · have c8 := bI_0.mp c8
      refine lv_bipush (v := -2) C.1 C.2.1 dX12_copy_14 (by decide) ?_
      exact mw_iret C hr hlk Z hP hS dX12_copy_16 (⟨by unfold cpyF; rw [if_pos (Or.inr c8)], by unfold cpyF; rw [if_pos (Or.inr c8)]; exact mFs.ar (mFs.rf σ)⟩)

def clF (X : Nat → Nat → Int32) (s : Nat) : Nat → Int32 := fun q => X 12 (40 * s + q)
abbrev triT : Type := Int32 × Int32 × Int32
def cuL (cl : Nat → Int32) (sz : Nat) (a : Int) : Nat → Nat → Nat → List triT × Bool
  | 0, _, _ => ([], true)
  | d + 1, k, n => if 0 ≤ a ∧ a + 3 * k + 3 ≤ sz then (if cusOK (cl (a.toNat + 3 * k)) (cl (a.toNat + 3 * k + 1)) (cl (a.toNat + 3 * k + 2)) ∧ n < 8 then ((cl (a.toNat + 3 * k), cl (a.toNat + 3 * k + 1), cl (a.toNat + 3 * k + 2)) :: (cuL cl sz a d (k + 1) (n + 1)).1, (cuL cl sz a d (k + 1) (n + 1)).2) else cuL cl sz a d (k + 1) n) else ([], false)
def cusMs (σ : mw_M) (n : Nat) : List triT → mw_M
  | [] => σ
  | t :: ts => cusMs (cusM σ n t.1 t.2.1 t.2.2) (n + 1) ts
def cuR (r : List triT × Bool) : Int32 := if r.2 = true then nI r.1.length else -12
theorem cusM_12 (σ : mw_M) (n : Nat) (a b c : Int32) : (cusM σ n a b c).2.1 12 = σ.2.1 12 ∧ (cusM σ n a b c).2.1 11 = σ.2.1 11 ∧ (cusM σ n a b c).1 0 10 = nI (n + 1) := ⟨rfl, rfl, rfl⟩
def custF (X : Nat → Nat → Int32) (n : Nat) (s so a m : Int32) : Int32 × List triT := if ¬ (0 ≤ s.toInt ∧ s.toInt ≤ 3) ∨ ¬ (0 ≤ so.toInt ∧ so.toInt ≤ 2) ∨ ¬ (0 ≤ m.toInt ∧ m.toInt ≤ 8) then (-2, []) else if ¬ X 9 s.toNatClampNeg = 0 ∧ ¬ X 10 s.toNatClampNeg = so then (-13, []) else if X 9 s.toNatClampNeg = 0 then (-11, []) else (cuR (cuL (clF X s.toNatClampNeg) (X 11 s.toNatClampNeg).toNatClampNeg a.toInt m.toNatClampNeg 0 n), (cuL (clF X s.toNatClampNeg) (X 11 s.toNatClampNeg).toNatClampNeg a.toInt m.toNatClampNeg 0 n).1)
theorem cuL_s {cl : Nat → Int32} {sz : Nat} {a : Int} {d k n : Nat} (h : 0 ≤ a ∧ a + 3 * k + 3 ≤ sz) : cuL cl sz a (d + 1) k n = (if cusOK (cl (a.toNat + 3 * k)) (cl (a.toNat + 3 * k + 1)) (cl (a.toNat + 3 * k + 2)) ∧ n < 8 then ((cl (a.toNat + 3 * k), cl (a.toNat + 3 * k + 1), cl (a.toNat + 3 * k + 2)) :: (cuL cl sz a d (k + 1) (n + 1)).1, (cuL cl sz a d (k + 1) (n + 1)).2) else cuL cl sz a d (k + 1) n) := by
  show (if _ then _ else _) = _
  rw [if_pos h]
theorem cuL_x {cl : Nat → Int32} {sz : Nat} {a : Int} {d k n : Nat} (h : ¬ (0 ≤ a ∧ a + 3 * k + 3 ≤ sz)) : cuL cl sz a (d + 1) k n = ([], false) := by
  show (if _ then _ else _) = _
  rw [if_neg h]
theorem cusMs_app (σ : mw_M) (n : Nat) : ∀ (xs ys : List triT), cusMs σ n (xs ++ ys) = cusMs (cusMs σ n xs) (n + xs.length) ys := by
  intro xs
  induction xs generalizing σ n with
  | nil => intro ys; rfl
  | cons t ts ih =>
    intro ys
    show cusMs (cusM σ n t.1 t.2.1 t.2.2) (n + 1) (ts ++ ys) = cusMs (cusMs (cusM σ n t.1 t.2.1 t.2.2) (n + 1) ts) (n + (ts.length + 1)) ys
    rw [ih, show n + 1 + ts.length = n + (ts.length + 1) by omega]
theorem cusMs_keep (σ : mw_M) (n : Nat) (hn : σ.1 0 10 = nI n) : ∀ (xs : List triT), (cusMs σ n xs).2.1 12 = σ.2.1 12 ∧ (cusMs σ n xs).2.1 11 = σ.2.1 11 ∧ (cusMs σ n xs).1 0 10 = nI (n + xs.length) := by
  intro xs
  induction xs generalizing σ n with
  | nil => exact ⟨rfl, rfl, hn⟩
  | cons t ts ih =>
    obtain ⟨h1, h2, h3⟩ := ih (cusM σ n t.1 t.2.1 t.2.2) (n + 1) rfl
    exact ⟨h1, h2, by rw [show n + (t :: ts).length = n + 1 + ts.length by rw [List.length_cons]; omega]; exact h3⟩

theorem sub_sz3 {m k : Nat} (hm : m ≤ 40) (hk : k ≤ 8) : (nI m - nI (3 * k) - 3).toInt = (m : Int) - 3 * k - 3 := by
  have h1 : (nI m - nI (3 * k)).toInt = (m : Int) - (3 * k : Nat) := pk_sub_toInt (by omega) (by omega)
  rw [Int32.toInt_sub, h1]
  have e3 : (3 : Int32).toInt = 3 := rfl
  rw [e3, Int.bmod_eq_of_le (by show -((2 ^ 32 : Int) / 2) ≤ _; omega) (by show _ < ((2 ^ 32 : Int) + 1) / 2; omega)]
  omega

set_option maxHeartbeats 4000000 in
set_option maxRecDepth 100000 in
theorem cM_customers (l : Launch) (E : mw_E) (σ : mw_M) (n : Nat) (hn : σ.1 0 10 = nI n) (h8 : n ≤ 8) (hsh : mShs σ.2.1) (ss so a1 m1 : Int32) : mw_Ci shM 13 gM l yX12_customers cX12_customers 8 (some .int) (rmF 2 48) E [.ref (mw_a E 0), .int ss, .int so, .int a1, .int m1] σ (fun r u => r = (custF σ.2.1 n ss so a1 m1).1 ∧ u = cusMs σ n (custF σ.2.1 n ss so a1 m1).2) := by
  refine mw_of (by decide) gM_ok (Nat.le_of_ble_eq_true rfl) ?_
  intro p_ e_ s_ m_ below meth c_ C hr hlk Z hP ls hl
  have C : CallFix p_ m_ c_ cX12_customers 8 s_ _ lw_good RX12 := C
  have hl : lv_has ls 8 [(0, .ref (mw_a E 0)), (1, .int ss), (2, .int so), (3, .int a1), (4, .int m1)] := hl
  have hS : va_S (mw_A 13 E) s_.heap s_.heap [] := va_S.rf
  refine lv_iload_n C.1 C.2.1 dX12_customers_0 rfl (lv_at hl 1 rfl) ?_
  refine mw_cSi (As := [.int ss]) (rest := []) C Z hP hS (cM_isSheet l E σ ss) sb_X12_isSheet tw_6_130 ⟨rfl, rfl⟩ ⟨Nat.le_of_ble_eq_true rfl, Nat.le_of_ble_eq_true rfl⟩ rfl hl.1 rfl (Nat.le_of_ble_eq_true rfl) dX12_customers_1 ⟨Nat.zero_le _, Nat.zero_le _⟩ (fun r1 u2 H locs q3 hP hS => ?_)
  obtain ⟨rfl, q3u⟩ := q3
  rw [q3u] at hP; clear q3u
  refine lv_if_eq (tgt := 32) C.1 C.2.1 dX12_customers_4 (by decide) (fun c4 => ?_) (fun c4 => ?_)
  · have c4 := bI_0.mp c4
    refine lv_bipush (v := -2) C.1 C.2.1 dX12_customers_32 (by decide) ?_
    exact mw_iret C hr hlk Z hP hS dX12_customers_34 (⟨by unfold custF; rw [if_pos (Or.inl c4)], by unfold custF; rw [if_pos (Or.inl c4)]; rfl⟩)
  · have c4 := bI_n.mp c4
    have hrs := c4
    obtain ⟨sn, hsn, esn0⟩ := nI_ofI (k := 3) hrs.1 hrs.2
    subst esn0
    have esn : (nI sn).toNatClampNeg = sn := nI_clamp (by omega)
    refine lv_iload_n C.1 C.2.1 dX12_customers_7 rfl (lv_at hl 2 rfl) ?_
    refine lv_i2l C.1 C.2.1 dX12_customers_8 rfl ?_
    refine lv_lconst (v := 0) C.1 C.2.1 dX12_customers_9 (by decide) ?_
    refine lv_ldc2 (own := RX12) C.1 C.2.1 C.2.2.2.1 (C.2.2.2.2 _ tw_6_148) dX12_customers_10 ?_
    refine mw_cSi (As := [.long (so.toInt64), .long (0), .long (2)]) (rest := []) C Z hP hS (cM_in l E σ (so.toInt64) 0 2 (0 ≤ so.toInt ∧ so.toInt ≤ 2) (by first | (simp only [nl_i]; exact Iff.rfl) | (simp only [nl_i]; decide) | simp [nl_i])) sb_X12_in tw_5_33 ⟨rfl, rfl⟩ ⟨Nat.le_of_ble_eq_true rfl, Nat.le_of_ble_eq_true rfl⟩ rfl hl.1 rfl (Nat.le_of_ble_eq_true rfl) dX12_customers_13 ⟨Nat.zero_le _, Nat.zero_le _⟩ (fun r5 u6 H locs q7 hP hS => ?_)
    obtain ⟨rfl, q7u⟩ := q7
    rw [q7u] at hP; clear q7u
    refine lv_if_eq (tgt := 32) C.1 C.2.1 dX12_customers_16 (by decide) (fun c8 => ?_) (fun c8 => ?_)
    · have c8 := bI_0.mp c8
      refine lv_bipush (v := -2) C.1 C.2.1 dX12_customers_32 (by decide) ?_
      exact mw_iret C hr hlk Z hP hS dX12_customers_34 (⟨by unfold custF; rw [if_pos (Or.inr (Or.inl c8))], by unfold custF; rw [if_pos (Or.inr (Or.inl c8))]; rfl⟩)
    · have c8 := bI_n.mp c8
      have hrso := c8
      refine lv_iload C.1 C.2.1 dX12_customers_19 (lv_at hl 4 rfl) ?_
      refine lv_i2l C.1 C.2.1 dX12_customers_21 rfl ?_
      refine lv_lconst (v := 0) C.1 C.2.1 dX12_customers_22 (by decide) ?_
      refine lv_ldc2 (own := RX12) C.1 C.2.1 C.2.2.2.1 (C.2.2.2.2 _ tw_6_189) dX12_customers_23 ?_
      refine mw_cSi (As := [.long (m1.toInt64), .long (0), .long (8)]) (rest := []) C Z hP hS (cM_in l E σ (m1.toInt64) 0 8 (0 ≤ m1.toInt ∧ m1.toInt ≤ 8) (by first | (simp only [nl_i]; exact Iff.rfl) | (simp only [nl_i]; decide) | simp [nl_i])) sb_X12_in tw_5_33 ⟨rfl, rfl⟩ ⟨Nat.le_of_ble_eq_true rfl, Nat.le_of_ble_eq_true rfl⟩ rfl hl.1 rfl (Nat.le_of_ble_eq_true rfl) dX12_customers_26 ⟨Nat.zero_le _, Nat.zero_le _⟩ (fun r9 u10 H locs q11 hP hS => ?_)
      obtain ⟨rfl, q11u⟩ := q11
      rw [q11u] at hP; clear q11u
      refine lv_if_ne (tgt := 35) C.1 C.2.1 dX12_customers_29 (by decide) (fun c12 => ?_) (fun c12 => ?_)
      · have c12 := bI_n.mp c12
        have hrm := c12
        obtain ⟨mm, hmm, em0⟩ := nI_ofI (k := 8) hrm.1 hrm.2
        subst em0
        have emm : (nI mm).toNatClampNeg = mm := nI_clamp (by omega)
        have hgood : ¬ (¬ (0 ≤ (nI sn).toInt ∧ (nI sn).toInt ≤ 3) ∨ ¬ (0 ≤ so.toInt ∧ so.toInt ≤ 2) ∨ ¬ (0 ≤ (nI mm).toInt ∧ (nI mm).toInt ≤ 8)) := fun y => y.elim (fun y => y hrs) (fun y => y.elim (fun y => y hrso) (fun y => y hrm))
        refine lv_aload_n C.1 C.2.1 dX12_customers_35 rfl (lv_at hl 0 rfl) ?_
        refine mw_getr C Z hP (0) 30 (9) (by decide) rfl rfl rfl (by decide) inX12 tw_4_194 dX12_customers_36 ?_
        refine lv_iload_n C.1 C.2.1 dX12_customers_39 rfl (lv_at hl 1 rfl) ?_
        refine mw_zald C Z hP (9) (sn) (by decide) rfl (Nat.lt_of_lt_of_le (by decide : 4 < 961) (Nat.le_of_ble_eq_true rfl)) rfl (by omega) dX12_customers_40 ?_
        refine lv_if_eq (tgt := 57) C.1 C.2.1 dX12_customers_41 (by decide) (fun c13 => ?_) (fun c13 => ?_)
        · have hso : ¬ (¬ σ.2.1 9 sn = 0 ∧ ¬ σ.2.1 10 sn = so) := fun y => y.1 c13
          have h90 := c13
          refine lv_aload_n C.1 C.2.1 dX12_customers_57 rfl (lv_at hl 0 rfl) ?_
          refine mw_getr C Z hP (0) 30 (9) (by decide) rfl rfl rfl (by decide) inX12 tw_4_194 dX12_customers_58 ?_
          refine lv_iload_n C.1 C.2.1 dX12_customers_61 rfl (lv_at hl 1 rfl) ?_
          refine mw_zald C Z hP (9) (sn) (by decide) rfl (Nat.lt_of_lt_of_le (by decide : 4 < 961) (Nat.le_of_ble_eq_true rfl)) rfl (by omega) dX12_customers_62 ?_
          refine lv_if_ne (tgt := 69) C.1 C.2.1 dX12_customers_63 (by decide) (fun c14 => ?_) (fun c14 => ?_)
          · have hth := c14
            obtain ⟨mz, hmz, hm⟩ := ((hsh sn (by omega)).resolve_left hth).2
            refine lv_iconst (v := 0) C.1 C.2.1 dX12_customers_69 (by decide) ?_
            refine lv_istore (lv' := [(5, .int 0), (0, .ref (mw_a E 0)), (1, .int (nI sn)), (2, .int so), (3, .int a1), (4, .int (nI mm))]) C.1 C.2.1 dX12_customers_70 hl (by decide) rfl (fun ls hl => ?_)
            refine lv_iconst (v := 0) C.1 C.2.1 dX12_customers_72 (by decide) ?_
            refine lv_istore (lv' := [(6, .int 0), (5, .int 0), (0, .ref (mw_a E 0)), (1, .int (nI sn)), (2, .int so), (3, .int a1), (4, .int (nI mm))]) C.1 C.2.1 dX12_customers_73 hl (by decide) rfl (fun ls hl => ?_)
            have lpa : ∀ (N : Nat) (k : Nat) (xs : List triT) (ςa : mw_M) (H : Heap) (locs : List Loc), mm + 1 ≤ k + N → (k ≤ mm) → (n + xs.length ≤ 8) → (cuL (clF σ.2.1 sn) mz a1.toInt mm 0 n = (xs ++ (cuL (clF σ.2.1 sn) mz a1.toInt (mm - k) k (n + xs.length)).1, (cuL (clF σ.2.1 sn) mz a1.toInt (mm - k) k (n + xs.length)).2)) → ςa = cusMs σ n xs → va_P (mw_D E) vwCl (mw_ws shM 13 E ςa) H → va_S (mw_A 13 E) s_.heap H locs → ∀ (ls : Array Slot), lv_has ls 8 [(0, .ref (mw_a E 0)), (1, .int (nI sn)), (2, .int so), (3, .int a1), (4, .int (nI mm)), (5, .int (nI xs.length)), (6, .int (nI k))] → mWi p_ l e_ (rmF 2 48) s_ m_ [.ref (mw_a E 0), .int (nI sn), .int so, .int a1, .int (nI mm)] below meth c_ E (fun r u => r = (custF σ.2.1 n (nI sn) so a1 (nI mm)).1 ∧ u = cusMs σ n (custF σ.2.1 n (nI sn) so a1 (nI mm)).2) H locs (F0 m_ 75 ls []) := by
              intro N
              induction N with
              | zero => intros; exfalso; omega
              | succ N iha =>
                intro k xs ςa H locs hNa hk hx8 eL fra hP hS ls hl
                have hkeep := cusMs_keep σ n hn xs
                rw [← fra] at hkeep
                have hnk := hkeep.2.2
                refine lv_iload C.1 C.2.1 dX12_customers_75 (lv_at hl 6 rfl) ?_
                refine lv_iload C.1 C.2.1 dX12_customers_77 (lv_at hl 4 rfl) ?_
                refine lv_icmp_ge (tgt := 167) C.1 C.2.1 dX12_customers_79 (by decide) (fun c15 => ?_) (fun c15 => ?_)
                · have c15 := (nI_leI (by omega) (by omega)).mp c15
                  refine lv_iload C.1 C.2.1 dX12_customers_167 (lv_at hl 5 rfl) ?_
                  have e : custF σ.2.1 n (nI sn) so a1 (nI mm) = (cuR (cuL (clF σ.2.1 sn) mz a1.toInt mm 0 n), (cuL (clF σ.2.1 sn) mz a1.toInt mm 0 n).1) := by unfold custF; rw [if_neg hgood, esn, emm, if_neg hso, if_neg hth, hm, nI_clamp (n := mz) (by omega)]
                  have e2 : cuL (clF σ.2.1 sn) mz a1.toInt mm 0 n = (xs, true) := by rw [eL, show mm - k = 0 by omega]; show (xs ++ [], true) = _; rw [List.append_nil]
                  exact mw_iret C hr hlk Z hP hS dX12_customers_169 (⟨by rw [e, e2]; rfl, by rw [e, e2]; exact fra⟩)
                · have c15 : _ := (not_congr (nI_leI (by omega) (by omega))).mp c15
                  refine lv_iload_n C.1 C.2.1 dX12_customers_82 rfl (lv_at hl 3 rfl) ?_
                  refine lv_if_lt (tgt := 103) C.1 C.2.1 dX12_customers_83 (by decide) (fun c16 => ?_) (fun c16 => ?_)
                  · refine lv_bipush (v := -12) C.1 C.2.1 dX12_customers_103 (by decide) ?_
                    have e : custF σ.2.1 n (nI sn) so a1 (nI mm) = (cuR (cuL (clF σ.2.1 sn) mz a1.toInt mm 0 n), (cuL (clF σ.2.1 sn) mz a1.toInt mm 0 n).1) := by unfold custF; rw [if_neg hgood, esn, emm, if_neg hso, if_neg hth, hm, nI_clamp (n := mz) (by omega)]
                    have e2 : cuL (clF σ.2.1 sn) mz a1.toInt mm 0 n = (xs, false) := by rw [eL, show mm - k = (mm - (k + 1)) + 1 by omega, cuL_x (fun y => by have y1 := (ni_lt _ _).mp c16; have e0 : (0 : Int32).toInt = 0 := rfl; have := y.1; omega), List.append_nil]
                    exact mw_iret C hr hlk Z hP hS dX12_customers_105 (⟨by rw [e, e2]; rfl, by rw [e, e2]; exact fra⟩)
                  · have ha0 : 0 ≤ a1.toInt := by have y := (not_congr (ni_lt _ _)).mp c16; have e0 : (0 : Int32).toInt = 0 := rfl; omega
                    refine lv_iload_n C.1 C.2.1 dX12_customers_86 rfl (lv_at hl 3 rfl) ?_
                    refine lv_aload_n C.1 C.2.1 dX12_customers_87 rfl (lv_at hl 0 rfl) ?_
                    refine mw_getr C Z hP (0) 32 (11) (by decide) rfl rfl rfl (by decide) inX12 tw_4_196 dX12_customers_88 ?_
                    refine lv_iload_n C.1 C.2.1 dX12_customers_91 rfl (lv_at hl 1 rfl) ?_
                    refine mw_iald C Z hP (11) (sn) (by decide) rfl (Nat.lt_of_lt_of_le (by decide : 4 < 961) (Nat.le_of_ble_eq_true rfl)) rfl (by omega) dX12_customers_92 ?_
                    refine mw_top (y := nI mz) (by rw [hkeep.2.1]; exact hm) ?_
                    refine lv_iconst (v := 3) C.1 C.2.1 dX12_customers_93 (by decide) ?_
                    refine lv_iload C.1 C.2.1 dX12_customers_94 (lv_at hl 6 rfl) ?_
                    refine lv_imul C.1 C.2.1 dX12_customers_96 ?_
                    refine mw_top (y := nI (3 * k)) (pk_mul 3 k) ?_
                    refine lv_isub C.1 C.2.1 dX12_customers_97 ?_
                    refine lv_iconst (v := 3) C.1 C.2.1 dX12_customers_98 (by decide) ?_
                    refine lv_isub C.1 C.2.1 dX12_customers_99 ?_
                    refine lv_icmp_le (tgt := 106) C.1 C.2.1 dX12_customers_100 (by decide) (fun c17 => ?_) (fun c17 => ?_)
                    · have hrng : 0 ≤ a1.toInt ∧ a1.toInt + 3 * k + 3 ≤ mz := ⟨ha0, by have y1 := (ni_le _ _).mp c17; rw [sub_sz3 hmz (by omega)] at y1; omega⟩
                      obtain ⟨a, ha, ea⟩ := nI_ofI (k := 40) ha0 (by omega)
                      have hidx : a1.toInt.toNat = a := by rw [ea, nI_toInt (by omega)]; rfl
                      refine lv_bipush (v := 40) C.1 C.2.1 dX12_customers_106 (by decide) ?_
                      refine lv_iload_n C.1 C.2.1 dX12_customers_108 rfl (lv_at hl 1 rfl) ?_
                      refine lv_imul C.1 C.2.1 dX12_customers_109 ?_
                      refine mw_top (y := nI (40 * sn)) (pk_mul 40 sn) ?_
                      refine lv_iload_n C.1 C.2.1 dX12_customers_110 rfl (lv_at hl 3 rfl) ?_
                      refine lv_iadd C.1 C.2.1 dX12_customers_111 ?_
                      refine mw_top (y := nI (40 * sn + a)) (by rw [ea]; exact nI_add _ _) ?_
                      refine lv_iconst (v := 3) C.1 C.2.1 dX12_customers_112 (by decide) ?_
                      refine lv_iload C.1 C.2.1 dX12_customers_113 (lv_at hl 6 rfl) ?_
                      refine lv_imul C.1 C.2.1 dX12_customers_115 ?_
                      refine mw_top (y := nI (3 * k)) (pk_mul 3 k) ?_
                      refine lv_iadd C.1 C.2.1 dX12_customers_116 ?_
                      refine mw_top (y := nI (40 * sn + a + 3 * k)) (nI_add _ _) ?_
                      refine lv_istore (lv' := [(7, .int (nI (40 * sn + a + 3 * k))), (0, .ref (mw_a E 0)), (1, .int (nI sn)), (2, .int so), (3, .int a1), (4, .int (nI mm)), (5, .int (nI xs.length)), (6, .int (nI k))]) C.1 C.2.1 dX12_customers_117 hl (by decide) rfl (fun ls hl => ?_)
                      refine lv_iload C.1 C.2.1 dX12_customers_119 (lv_at hl 6 rfl) ?_
                      refine lv_aload_n C.1 C.2.1 dX12_customers_121 rfl (lv_at hl 1 rfl) ?_
                      refine lv_aload_n C.1 C.2.1 dX12_customers_122 rfl (lv_at hl 1 rfl) ?_
                      refine mw_getr C Z hP (0) 33 (12) (by decide) rfl rfl rfl (by decide) inX12 tw_4_197 dX12_customers_123 ?_
                      refine lv_iload C.1 C.2.1 dX12_customers_126 (lv_at hl 0 rfl) ?_
                      refine mw_iald C Z hP (12) (40 * sn + a + 3 * k) (by decide) rfl (Nat.lt_of_lt_of_le (by decide : 160 < 961) (Nat.le_of_ble_eq_true rfl)) rfl (by omega) dX12_customers_128 ?_
                      refine mw_top (y := clF σ.2.1 sn (a1.toInt.toNat + 3 * k)) (by rw [hkeep.1]; unfold clF; rw [hidx]; exact congrArg _ (by omega)) ?_
                      refine lv_aload_n C.1 C.2.1 dX12_customers_129 rfl (lv_at hl 1 rfl) ?_
                      refine mw_getr C Z hP (0) 33 (12) (by decide) rfl rfl rfl (by decide) inX12 tw_4_197 dX12_customers_130 ?_
                      refine lv_iload C.1 C.2.1 dX12_customers_133 (lv_at hl 0 rfl) ?_
                      refine lv_iconst (v := 1) C.1 C.2.1 dX12_customers_135 (by decide) ?_
                      refine lv_iadd C.1 C.2.1 dX12_customers_136 ?_
                      refine mw_top (y := nI (40 * sn + a + 3 * k + 1)) (nI_1 _) ?_
                      refine mw_iald C Z hP (12) (40 * sn + a + 3 * k + 1) (by decide) rfl (Nat.lt_of_lt_of_le (by decide : 160 < 961) (Nat.le_of_ble_eq_true rfl)) rfl (by omega) dX12_customers_137 ?_
                      refine mw_top (y := clF σ.2.1 sn (a1.toInt.toNat + 3 * k + 1)) (by rw [hkeep.1]; unfold clF; rw [hidx]; exact congrArg _ (by omega)) ?_
                      refine lv_aload_n C.1 C.2.1 dX12_customers_138 rfl (lv_at hl 1 rfl) ?_
                      refine mw_getr C Z hP (0) 33 (12) (by decide) rfl rfl rfl (by decide) inX12 tw_4_197 dX12_customers_139 ?_
                      refine lv_iload C.1 C.2.1 dX12_customers_142 (lv_at hl 0 rfl) ?_
                      refine lv_iconst (v := 2) C.1 C.2.1 dX12_customers_144 (by decide) ?_
                      refine lv_iadd C.1 C.2.1 dX12_customers_145 ?_
                      refine mw_top (y := nI (40 * sn + a + 3 * k + 2)) (nI_add _ 2) ?_
                      refine mw_iald C Z hP (12) (40 * sn + a + 3 * k + 2) (by decide) rfl (Nat.lt_of_lt_of_le (by decide : 160 < 961) (Nat.le_of_ble_eq_true rfl)) rfl (by omega) dX12_customers_146 ?_
                      refine mw_top (y := clF σ.2.1 sn (a1.toInt.toNat + 3 * k + 2)) (by rw [hkeep.1]; unfold clF; rw [hidx]; exact congrArg _ (by omega)) ?_
                      refine mw_cVi (As := [.int (clF σ.2.1 sn (a1.toInt.toNat + 3 * k)), .int (clF σ.2.1 sn (a1.toInt.toNat + 3 * k + 1)), .int (clF σ.2.1 sn (a1.toInt.toNat + 3 * k + 2))]) (rest := [.int (nI xs.length)]) C Z hP hS (0) (cM_customer l E ςa (n + xs.length) hnk hx8 (clF σ.2.1 sn (a1.toInt.toNat + 3 * k)) (clF σ.2.1 sn (a1.toInt.toNat + 3 * k + 1)) (clF σ.2.1 sn (a1.toInt.toNat + 3 * k + 2))) vb_X12_customer tw_6_190 ⟨rfl, rfl⟩ ⟨Nat.le_of_ble_eq_true rfl, Nat.le_of_ble_eq_true rfl⟩ (by decide) rfl rfl rfl rfl hl.1 rfl (Nat.le_of_ble_eq_true rfl) dX12_customers_147 ⟨Nat.zero_le _, Nat.zero_le _⟩ (fun r18 u19 H locs q20 hP hS => ?_)
                      by_cases hok : cusOK (clF σ.2.1 sn (a1.toInt.toNat + 3 * k)) (clF σ.2.1 sn (a1.toInt.toNat + 3 * k + 1)) (clF σ.2.1 sn (a1.toInt.toNat + 3 * k + 2)) ∧ n + xs.length < 8
                      · obtain ⟨z21, z22⟩ := q20.2.2 hok
                        subst z21
                        refine lv_if_lt (tgt := 157) C.1 C.2.1 dX12_customers_150 (by decide) (fun c24 => ?_) (fun c24 => ?_)
                        · exact absurd c24 (nI_pos (by omega))
                        · refine lv_iconst (v := 1) C.1 C.2.1 dX12_customers_153 (by decide) ?_
                          refine lv_goto (tgt := 158) C.1 C.2.1 dX12_customers_154 (by decide) ?_
                          refine lv_iadd C.1 C.2.1 dX12_customers_158 ?_
                          refine mw_top (y := nI (xs ++ [(clF σ.2.1 sn (a1.toInt.toNat + 3 * k), clF σ.2.1 sn (a1.toInt.toNat + 3 * k + 1), clF σ.2.1 sn (a1.toInt.toNat + 3 * k + 2))]).length) (by rw [List.length_append]; exact nI_1 _) ?_
                          refine lv_istore (lv' := [(5, .int (nI (xs ++ [(clF σ.2.1 sn (a1.toInt.toNat + 3 * k), clF σ.2.1 sn (a1.toInt.toNat + 3 * k + 1), clF σ.2.1 sn (a1.toInt.toNat + 3 * k + 2))]).length)), (7, .int (nI (40 * sn + a + 3 * k))), (0, .ref (mw_a E 0)), (1, .int (nI sn)), (2, .int so), (3, .int a1), (4, .int (nI mm)), (6, .int (nI k))]) C.1 C.2.1 dX12_customers_159 hl (by decide) rfl (fun ls hl => ?_)
                          refine lv_iinc (v := nI (k + 1)) (lv' := [(6, .int (nI (k + 1))), (5, .int (nI (xs ++ [(clF σ.2.1 sn (a1.toInt.toNat + 3 * k), clF σ.2.1 sn (a1.toInt.toNat + 3 * k + 1), clF σ.2.1 sn (a1.toInt.toNat + 3 * k + 2))]).length)), (7, .int (nI (40 * sn + a + 3 * k))), (0, .ref (mw_a E 0)), (1, .int (nI sn)), (2, .int so), (3, .int a1), (4, .int (nI mm))]) C.1 C.2.1 dX12_customers_161 hl (k := 7) rfl (nI_1 _) (by decide) rfl (fun ls hl => ?_)
                          refine lv_goto (tgt := 75) C.1 C.2.1 dX12_customers_164 (by decide) ?_
                          exact iha (k + 1) (xs ++ [((clF σ.2.1 sn) (a1.toInt.toNat + 3 * k), (clF σ.2.1 sn) (a1.toInt.toNat + 3 * k + 1), (clF σ.2.1 sn) (a1.toInt.toNat + 3 * k + 2))]) u19 _ _ (by omega) (by omega) (by rw [List.length_append]; show n + (xs.length + 1) ≤ 8; have := hok.2; omega) (by rw [eL, show mm - k = (mm - (k + 1)) + 1 by omega, cuL_s hrng]; rw [if_pos hok]; show (xs ++ _ :: _, _) = ((xs ++ [_]) ++ _, _); rw [List.append_assoc, List.length_append]; rfl) (by rw [z22, fra, cusMs_app]; rfl) hP hS ls (lv_sub hl [3, 4, 5, 6, 7, 1, 0] rfl)
                      · have z21 : (r18 = -2 ∨ r18 = -4) ∧ u19 = ςa := by
                          by_cases h1 : cusOK (clF σ.2.1 sn (a1.toInt.toNat + 3 * k)) (clF σ.2.1 sn (a1.toInt.toNat + 3 * k + 1)) (clF σ.2.1 sn (a1.toInt.toNat + 3 * k + 2))
                          · exact ⟨Or.inr (q20.2.1 ⟨h1, by have : ¬ n + xs.length < 8 := fun y => hok ⟨h1, y⟩; omega⟩).1, (q20.2.1 ⟨h1, by have : ¬ n + xs.length < 8 := fun y => hok ⟨h1, y⟩; omega⟩).2⟩
                          · exact ⟨Or.inl (q20.1 h1).1, (q20.1 h1).2⟩
                        refine lv_if_lt (tgt := 157) C.1 C.2.1 dX12_customers_150 (by decide) (fun c25 => ?_) (fun c25 => ?_)
                        · refine lv_iconst (v := 0) C.1 C.2.1 dX12_customers_157 (by decide) ?_
                          refine lv_iadd C.1 C.2.1 dX12_customers_158 ?_
                          refine mw_top (y := nI xs.length) (Int32.add_zero _) ?_
                          refine lv_istore (lv' := [(5, .int (nI xs.length)), (7, .int (nI (40 * sn + a + 3 * k))), (0, .ref (mw_a E 0)), (1, .int (nI sn)), (2, .int so), (3, .int a1), (4, .int (nI mm)), (6, .int (nI k))]) C.1 C.2.1 dX12_customers_159 hl (by decide) rfl (fun ls hl => ?_)
                          refine lv_iinc (v := nI (k + 1)) (lv' := [(6, .int (nI (k + 1))), (5, .int (nI xs.length)), (7, .int (nI (40 * sn + a + 3 * k))), (0, .ref (mw_a E 0)), (1, .int (nI sn)), (2, .int so), (3, .int a1), (4, .int (nI mm))]) C.1 C.2.1 dX12_customers_161 hl (k := 7) rfl (nI_1 _) (by decide) rfl (fun ls hl => ?_)
                          refine lv_goto (tgt := 75) C.1 C.2.1 dX12_customers_164 (by decide) ?_
                          exact iha (k + 1) xs u19 _ _ (by omega) (by omega) (hx8) (by rw [eL, show mm - k = (mm - (k + 1)) + 1 by omega, cuL_s hrng]; rw [if_neg hok]) (z21.2.trans fra) hP hS ls (lv_sub hl [3, 4, 5, 6, 7, 1, 0] rfl)
                        · rcases z21.1 with h | h <;> (rw [h] at c25; exact absurd (by decide) c25)
                    · refine lv_bipush (v := -12) C.1 C.2.1 dX12_customers_103 (by decide) ?_
                      have e : custF σ.2.1 n (nI sn) so a1 (nI mm) = (cuR (cuL (clF σ.2.1 sn) mz a1.toInt mm 0 n), (cuL (clF σ.2.1 sn) mz a1.toInt mm 0 n).1) := by unfold custF; rw [if_neg hgood, esn, emm, if_neg hso, if_neg hth, hm, nI_clamp (n := mz) (by omega)]
                      have e2 : cuL (clF σ.2.1 sn) mz a1.toInt mm 0 n = (xs, false) := by rw [eL, show mm - k = (mm - (k + 1)) + 1 by omega, cuL_x (fun y => by have y1 := (not_congr (ni_le _ _)).mp c17; rw [sub_sz3 hmz (by omega)] at y1; have := y.2; omega), List.append_nil]
                      exact mw_iret C hr hlk Z hP hS dX12_customers_105 (⟨by rw [e, e2]; rfl, by rw [e, e2]; exact fra⟩)
            exact lpa (mm + 1) 0 ([]) σ _ _ (by omega) (by omega) (by show n + 0 ≤ 8; omega) (by rw [Nat.sub_zero]; rfl) rfl hP hS ls (lv_sub hl [2, 3, 4, 5, 6, 1, 0] rfl)
          · refine lv_bipush (v := -11) C.1 C.2.1 dX12_customers_66 (by decide) ?_
            have e : custF σ.2.1 n (nI sn) so a1 (nI mm) = (-11, []) := by unfold custF; rw [if_neg hgood, esn, if_neg (fun y => y.1 c14), if_pos c14]
            exact mw_iret C hr hlk Z hP hS dX12_customers_68 (⟨by rw [e], by rw [e]; rfl⟩)
        · have h90 := c13
          refine lv_aload_n C.1 C.2.1 dX12_customers_44 rfl (lv_at hl 0 rfl) ?_
          refine mw_getr C Z hP (0) 31 (10) (by decide) rfl rfl rfl (by decide) inX12 tw_4_195 dX12_customers_45 ?_
          refine lv_iload_n C.1 C.2.1 dX12_customers_48 rfl (lv_at hl 1 rfl) ?_
          refine mw_iald C Z hP (10) (sn) (by decide) rfl (Nat.lt_of_lt_of_le (by decide : 4 < 961) (Nat.le_of_ble_eq_true rfl)) rfl (by omega) dX12_customers_49 ?_
          refine lv_iload_n C.1 C.2.1 dX12_customers_50 rfl (lv_at hl 2 rfl) ?_
          refine lv_icmp_eq (tgt := 57) C.1 C.2.1 dX12_customers_51 (by decide) (fun c26 => ?_) (fun c26 => ?_)
          · have hso : ¬ (¬ σ.2.1 9 sn = 0 ∧ ¬ σ.2.1 10 sn = so) := fun y => y.2 c26
            refine lv_aload_n C.1 C.2.1 dX12_customers_57 rfl (lv_at hl 0 rfl) ?_
            refine mw_getr C Z hP (0) 30 (9) (by decide) rfl rfl rfl (by decide) inX12 tw_4_194 dX12_customers_58 ?_
            refine lv_iload_n C.1 C.2.1 dX12_customers_61 rfl (lv_at hl 1 rfl) ?_
            refine mw_zald C Z hP (9) (sn) (by decide) rfl (Nat.lt_of_lt_of_le (by decide : 4 < 961) (Nat.le_of_ble_eq_true rfl)) rfl (by omega) dX12_customers_62 ?_
            refine lv_if_ne (tgt := 69) C.1 C.2.1 dX12_customers_63 (by decide) (fun c27 => ?_) (fun c27 => ?_)
            · have hth := c27
              obtain ⟨mz, hmz, hm⟩ := ((hsh sn (by omega)).resolve_left hth).2
              refine lv_iconst (v := 0) C.1 C.2.1 dX12_customers_69 (by decide) ?_
              refine lv_istore (lv' := [(5, .int 0), (0, .ref (mw_a E 0)), (1, .int (nI sn)), (2, .int so), (3, .int a1), (4, .int (nI mm))]) C.1 C.2.1 dX12_customers_70 hl (by decide) rfl (fun ls hl => ?_)
              refine lv_iconst (v := 0) C.1 C.2.1 dX12_customers_72 (by decide) ?_
              refine lv_istore (lv' := [(6, .int 0), (5, .int 0), (0, .ref (mw_a E 0)), (1, .int (nI sn)), (2, .int so), (3, .int a1), (4, .int (nI mm))]) C.1 C.2.1 dX12_customers_73 hl (by decide) rfl (fun ls hl => ?_)
              have lpa : ∀ (N : Nat) (k : Nat) (xs : List triT) (ςa : mw_M) (H : Heap) (locs : List Loc), mm + 1 ≤ k + N → (k ≤ mm) → (n + xs.length ≤ 8) → (cuL (clF σ.2.1 sn) mz a1.toInt mm 0 n = (xs ++ (cuL (clF σ.2.1 sn) mz a1.toInt (mm - k) k (n + xs.length)).1, (cuL (clF σ.2.1 sn) mz a1.toInt (mm - k) k (n + xs.length)).2)) → ςa = cusMs σ n xs → va_P (mw_D E) vwCl (mw_ws shM 13 E ςa) H → va_S (mw_A 13 E) s_.heap H locs → ∀ (ls : Array Slot), lv_has ls 8 [(0, .ref (mw_a E 0)), (1, .int (nI sn)), (2, .int so), (3, .int a1), (4, .int (nI mm)), (5, .int (nI xs.length)), (6, .int (nI k))] → mWi p_ l e_ (rmF 2 48) s_ m_ [.ref (mw_a E 0), .int (nI sn), .int so, .int a1, .int (nI mm)] below meth c_ E (fun r u => r = (custF σ.2.1 n (nI sn) so a1 (nI mm)).1 ∧ u = cusMs σ n (custF σ.2.1 n (nI sn) so a1 (nI mm)).2) H locs (F0 m_ 75 ls []) := by
                intro N
                induction N with
                | zero => intros; exfalso; omega
                | succ N iha =>
                  intro k xs ςa H locs hNa hk hx8 eL fra hP hS ls hl
                  have hkeep := cusMs_keep σ n hn xs
                  rw [← fra] at hkeep
                  have hnk := hkeep.2.2
                  refine lv_iload C.1 C.2.1 dX12_customers_75 (lv_at hl 6 rfl) ?_
                  refine lv_iload C.1 C.2.1 dX12_customers_77 (lv_at hl 4 rfl) ?_
                  refine lv_icmp_ge (tgt := 167) C.1 C.2.1 dX12_customers_79 (by decide) (fun c28 => ?_) (fun c28 => ?_)
                  · have c28 := (nI_leI (by omega) (by omega)).mp c28
                    refine lv_iload C.1 C.2.1 dX12_customers_167 (lv_at hl 5 rfl) ?_
                    have e : custF σ.2.1 n (nI sn) so a1 (nI mm) = (cuR (cuL (clF σ.2.1 sn) mz a1.toInt mm 0 n), (cuL (clF σ.2.1 sn) mz a1.toInt mm 0 n).1) := by unfold custF; rw [if_neg hgood, esn, emm, if_neg hso, if_neg hth, hm, nI_clamp (n := mz) (by omega)]
                    have e2 : cuL (clF σ.2.1 sn) mz a1.toInt mm 0 n = (xs, true) := by rw [eL, show mm - k = 0 by omega]; show (xs ++ [], true) = _; rw [List.append_nil]
                    exact mw_iret C hr hlk Z hP hS dX12_customers_169 (⟨by rw [e, e2]; rfl, by rw [e, e2]; exact fra⟩)
                  · have c28 : _ := (not_congr (nI_leI (by omega) (by omega))).mp c28
                    refine lv_iload_n C.1 C.2.1 dX12_customers_82 rfl (lv_at hl 3 rfl) ?_
                    refine lv_if_lt (tgt := 103) C.1 C.2.1 dX12_customers_83 (by decide) (fun c29 => ?_) (fun c29 => ?_)
                    · refine lv_bipush (v := -12) C.1 C.2.1 dX12_customers_103 (by decide) ?_
                      have e : custF σ.2.1 n (nI sn) so a1 (nI mm) = (cuR (cuL (clF σ.2.1 sn) mz a1.toInt mm 0 n), (cuL (clF σ.2.1 sn) mz a1.toInt mm 0 n).1) := by unfold custF; rw [if_neg hgood, esn, emm, if_neg hso, if_neg hth, hm, nI_clamp (n := mz) (by omega)]
                      have e2 : cuL (clF σ.2.1 sn) mz a1.toInt mm 0 n = (xs, false) := by rw [eL, show mm - k = (mm - (k + 1)) + 1 by omega, cuL_x (fun y => by have y1 := (ni_lt _ _).mp c29; have e0 : (0 : Int32).toInt = 0 := rfl; have := y.1; omega), List.append_nil]
                      exact mw_iret C hr hlk Z hP hS dX12_customers_105 (⟨by rw [e, e2]; rfl, by rw [e, e2]; exact fra⟩)
                    · have ha0 : 0 ≤ a1.toInt := by have y := (not_congr (ni_lt _ _)).mp c29; have e0 : (0 : Int32).toInt = 0 := rfl; omega
                      refine lv_iload_n C.1 C.2.1 dX12_customers_86 rfl (lv_at hl 3 rfl) ?_
                      refine lv_aload_n C.1 C.2.1 dX12_customers_87 rfl (lv_at hl 0 rfl) ?_
                      refine mw_getr C Z hP (0) 32 (11) (by decide) rfl rfl rfl (by decide) inX12 tw_4_196 dX12_customers_88 ?_
                      refine lv_iload_n C.1 C.2.1 dX12_customers_91 rfl (lv_at hl 1 rfl) ?_
                      refine mw_iald C Z hP (11) (sn) (by decide) rfl (Nat.lt_of_lt_of_le (by decide : 4 < 961) (Nat.le_of_ble_eq_true rfl)) rfl (by omega) dX12_customers_92 ?_
                      refine mw_top (y := nI mz) (by rw [hkeep.2.1]; exact hm) ?_
                      refine lv_iconst (v := 3) C.1 C.2.1 dX12_customers_93 (by decide) ?_
                      refine lv_iload C.1 C.2.1 dX12_customers_94 (lv_at hl 6 rfl) ?_
                      refine lv_imul C.1 C.2.1 dX12_customers_96 ?_
                      refine mw_top (y := nI (3 * k)) (pk_mul 3 k) ?_
                      refine lv_isub C.1 C.2.1 dX12_customers_97 ?_
                      refine lv_iconst (v := 3) C.1 C.2.1 dX12_customers_98 (by decide) ?_
                      refine lv_isub C.1 C.2.1 dX12_customers_99 ?_
                      refine lv_icmp_le (tgt := 106) C.1 C.2.1 dX12_customers_100 (by decide) (fun c30 => ?_) (fun c30 => ?_)
                      · have hrng : 0 ≤ a1.toInt ∧ a1.toInt + 3 * k + 3 ≤ mz := ⟨ha0, by have y1 := (ni_le _ _).mp c30; rw [sub_sz3 hmz (by omega)] at y1; omega⟩
                        obtain ⟨a, ha, ea⟩ := nI_ofI (k := 40) ha0 (by omega)
                        have hidx : a1.toInt.toNat = a := by rw [ea, nI_toInt (by omega)]; rfl
                        refine lv_bipush (v := 40) C.1 C.2.1 dX12_customers_106 (by decide) ?_
                        refine lv_iload_n C.1 C.2.1 dX12_customers_108 rfl (lv_at hl 1 rfl) ?_
                        refine lv_imul C.1 C.2.1 dX12_customers_109 ?_
                        refine mw_top (y := nI (40 * sn)) (pk_mul 40 sn) ?_
                        refine lv_iload_n C.1 C.2.1 dX12_customers_110 rfl (lv_at hl 3 rfl) ?_
                        refine lv_iadd C.1 C.2.1 dX12_customers_111 ?_
                        refine mw_top (y := nI (40 * sn + a)) (by rw [ea]; exact nI_add _ _) ?_
                        refine lv_iconst (v := 3) C.1 C.2.1 dX12_customers_112 (by decide) ?_
                        refine lv_iload C.1 C.2.1 dX12_customers_113 (lv_at hl 6 rfl) ?_
                        refine lv_imul C.1 C.2.1 dX12_customers_115 ?_
                        refine mw_top (y := nI (3 * k)) (pk_mul 3 k) ?_
                        refine lv_iadd C.1 C.2.1 dX12_customers_116 ?_
                        refine mw_top (y := nI (40 * sn + a + 3 * k)) (nI_add _ _) ?_
                        refine lv_istore (lv' := [(7, .int (nI (40 * sn + a + 3 * k))), (0, .ref (mw_a E 0)), (1, .int (nI sn)), (2, .int so), (3, .int a1), (4, .int (nI mm)), (5, .int (nI xs.length)), (6, .int (nI k))]) C.1 C.2.1 dX12_customers_117 hl (by decide) rfl (fun ls hl => ?_)
                        refine lv_iload C.1 C.2.1 dX12_customers_119 (lv_at hl 6 rfl) ?_
                        refine lv_aload_n C.1 C.2.1 dX12_customers_121 rfl (lv_at hl 1 rfl) ?_
                        refine lv_aload_n C.1 C.2.1 dX12_customers_122 rfl (lv_at hl 1 rfl) ?_
                        refine mw_getr C Z hP (0) 33 (12) (by decide) rfl rfl rfl (by decide) inX12 tw_4_197 dX12_customers_123 ?_
                        refine lv_iload C.1 C.2.1 dX12_customers_126 (lv_at hl 0 rfl) ?_
                        refine mw_iald C Z hP (12) (40 * sn + a + 3 * k) (by decide) rfl (Nat.lt_of_lt_of_le (by decide : 160 < 961) (Nat.le_of_ble_eq_true rfl)) rfl (by omega) dX12_customers_128 ?_
                        refine mw_top (y := clF σ.2.1 sn (a1.toInt.toNat + 3 * k)) (by rw [hkeep.1]; unfold clF; rw [hidx]; exact congrArg _ (by omega)) ?_
                        refine lv_aload_n C.1 C.2.1 dX12_customers_129 rfl (lv_at hl 1 rfl) ?_
                        refine mw_getr C Z hP (0) 33 (12) (by decide) rfl rfl rfl (by decide) inX12 tw_4_197 dX12_customers_130 ?_
                        refine lv_iload C.1 C.2.1 dX12_customers_133 (lv_at hl 0 rfl) ?_
                        refine lv_iconst (v := 1) C.1 C.2.1 dX12_customers_135 (by decide) ?_
                        refine lv_iadd C.1 C.2.1 dX12_customers_136 ?_
                        refine mw_top (y := nI (40 * sn + a + 3 * k + 1)) (nI_1 _) ?_
                        refine mw_iald C Z hP (12) (40 * sn + a + 3 * k + 1) (by decide) rfl (Nat.lt_of_lt_of_le (by decide : 160 < 961) (Nat.le_of_ble_eq_true rfl)) rfl (by omega) dX12_customers_137 ?_
                        refine mw_top (y := clF σ.2.1 sn (a1.toInt.toNat + 3 * k + 1)) (by rw [hkeep.1]; unfold clF; rw [hidx]; exact congrArg _ (by omega)) ?_
                        refine lv_aload_n C.1 C.2.1 dX12_customers_138 rfl (lv_at hl 1 rfl) ?_
                        refine mw_getr C Z hP (0) 33 (12) (by decide) rfl rfl rfl (by decide) inX12 tw_4_197 dX12_customers_139 ?_
                        refine lv_iload C.1 C.2.1 dX12_customers_142 (lv_at hl 0 rfl) ?_
                        refine lv_iconst (v := 2) C.1 C.2.1 dX12_customers_144 (by decide) ?_
                        refine lv_iadd C.1 C.2.1 dX12_customers_145 ?_
                        refine mw_top (y := nI (40 * sn + a + 3 * k + 2)) (nI_add _ 2) ?_
                        refine mw_iald C Z hP (12) (40 * sn + a + 3 * k + 2) (by decide) rfl (Nat.lt_of_lt_of_le (by decide : 160 < 961) (Nat.le_of_ble_eq_true rfl)) rfl (by omega) dX12_customers_146 ?_
                        refine mw_top (y := clF σ.2.1 sn (a1.toInt.toNat + 3 * k + 2)) (by rw [hkeep.1]; unfold clF; rw [hidx]; exact congrArg _ (by omega)) ?_
                        refine mw_cVi (As := [.int (clF σ.2.1 sn (a1.toInt.toNat + 3 * k)), .int (clF σ.2.1 sn (a1.toInt.toNat + 3 * k + 1)), .int (clF σ.2.1 sn (a1.toInt.toNat + 3 * k + 2))]) (rest := [.int (nI xs.length)]) C Z hP hS (0) (cM_customer l E ςa (n + xs.length) hnk hx8 (clF σ.2.1 sn (a1.toInt.toNat + 3 * k)) (clF σ.2.1 sn (a1.toInt.toNat + 3 * k + 1)) (clF σ.2.1 sn (a1.toInt.toNat + 3 * k + 2))) vb_X12_customer tw_6_190 ⟨rfl, rfl⟩ ⟨Nat.le_of_ble_eq_true rfl, Nat.le_of_ble_eq_true rfl⟩ (by decide) rfl rfl rfl rfl hl.1 rfl (Nat.le_of_ble_eq_true rfl) dX12_customers_147 ⟨Nat.zero_le _, Nat.zero_le _⟩ (fun r31 u32 H locs q33 hP hS => ?_)
                        by_cases hok : cusOK (clF σ.2.1 sn (a1.toInt.toNat + 3 * k)) (clF σ.2.1 sn (a1.toInt.toNat + 3 * k + 1)) (clF σ.2.1 sn (a1.toInt.toNat + 3 * k + 2)) ∧ n + xs.length < 8
                        · obtain ⟨z34, z35⟩ := q33.2.2 hok
                          subst z34
                          refine lv_if_lt (tgt := 157) C.1 C.2.1 dX12_customers_150 (by decide) (fun c37 => ?_) (fun c37 => ?_)
                          · exact absurd c37 (nI_pos (by omega))
                          · refine lv_iconst (v := 1) C.1 C.2.1 dX12_customers_153 (by decide) ?_
                            refine lv_goto (tgt := 158) C.1 C.2.1 dX12_customers_154 (by decide) ?_
                            refine lv_iadd C.1 C.2.1 dX12_customers_158 ?_
                            refine mw_top (y := nI (xs ++ [(clF σ.2.1 sn (a1.toInt.toNat + 3 * k), clF σ.2.1 sn (a1.toInt.toNat + 3 * k + 1), clF σ.2.1 sn (a1.toInt.toNat + 3 * k + 2))]).length) (by rw [List.length_append]; exact nI_1 _) ?_
                            refine lv_istore (lv' := [(5, .int (nI (xs ++ [(clF σ.2.1 sn (a1.toInt.toNat + 3 * k), clF σ.2.1 sn (a1.toInt.toNat + 3 * k + 1), clF σ.2.1 sn (a1.toInt.toNat + 3 * k + 2))]).length)), (7, .int (nI (40 * sn + a + 3 * k))), (0, .ref (mw_a E 0)), (1, .int (nI sn)), (2, .int so), (3, .int a1), (4, .int (nI mm)), (6, .int (nI k))]) C.1 C.2.1 dX12_customers_159 hl (by decide) rfl (fun ls hl => ?_)
                            refine lv_iinc (v := nI (k + 1)) (lv' := [(6, .int (nI (k + 1))), (5, .int (nI (xs ++ [(clF σ.2.1 sn (a1.toInt.toNat + 3 * k), clF σ.2.1 sn (a1.toInt.toNat + 3 * k + 1), clF σ.2.1 sn (a1.toInt.toNat + 3 * k + 2))]).length)), (7, .int (nI (40 * sn + a + 3 * k))), (0, .ref (mw_a E 0)), (1, .int (nI sn)), (2, .int so), (3, .int a1), (4, .int (nI mm))]) C.1 C.2.1 dX12_customers_161 hl (k := 7) rfl (nI_1 _) (by decide) rfl (fun ls hl => ?_)
                            refine lv_goto (tgt := 75) C.1 C.2.1 dX12_customers_164 (by decide) ?_
                            exact iha (k + 1) (xs ++ [((clF σ.2.1 sn) (a1.toInt.toNat + 3 * k), (clF σ.2.1 sn) (a1.toInt.toNat + 3 * k + 1), (clF σ.2.1 sn) (a1.toInt.toNat + 3 * k + 2))]) u32 _ _ (by omega) (by omega) (by rw [List.length_append]; show n + (xs.length + 1) ≤ 8; have := hok.2; omega) (by rw [eL, show mm - k = (mm - (k + 1)) + 1 by omega, cuL_s hrng]; rw [if_pos hok]; show (xs ++ _ :: _, _) = ((xs ++ [_]) ++ _, _); rw [List.append_assoc, List.length_append]; rfl) (by rw [z35, fra, cusMs_app]; rfl) hP hS ls (lv_sub hl [3, 4, 5, 6, 7, 1, 0] rfl)
                        · have z34 : (r31 = -2 ∨ r31 = -4) ∧ u32 = ςa := by
                            by_cases h1 : cusOK (clF σ.2.1 sn (a1.toInt.toNat + 3 * k)) (clF σ.2.1 sn (a1.toInt.toNat + 3 * k + 1)) (clF σ.2.1 sn (a1.toInt.toNat + 3 * k + 2))
                            · exact ⟨Or.inr (q33.2.1 ⟨h1, by have : ¬ n + xs.length < 8 := fun y => hok ⟨h1, y⟩; omega⟩).1, (q33.2.1 ⟨h1, by have : ¬ n + xs.length < 8 := fun y => hok ⟨h1, y⟩; omega⟩).2⟩
                            · exact ⟨Or.inl (q33.1 h1).1, (q33.1 h1).2⟩
                          refine lv_if_lt (tgt := 157) C.1 C.2.1 dX12_customers_150 (by decide) (fun c38 => ?_) (fun c38 => ?_)
                          · refine lv_iconst (v := 0) C.1 C.2.1 dX12_customers_157 (by decide) ?_
                            refine lv_iadd C.1 C.2.1 dX12_customers_158 ?_
                            refine mw_top (y := nI xs.length) (Int32.add_zero _) ?_
                            refine lv_istore (lv' := [(5, .int (nI xs.length)), (7, .int (nI (40 * sn + a + 3 * k))), (0, .ref (mw_a E 0)), (1, .int (nI sn)), (2, .int so), (3, .int a1), (4, .int (nI mm)), (6, .int (nI k))]) C.1 C.2.1 dX12_customers_159 hl (by decide) rfl (fun ls hl => ?_)
                            refine lv_iinc (v := nI (k + 1)) (lv' := [(6, .int (nI (k + 1))), (5, .int (nI xs.length)), (7, .int (nI (40 * sn + a + 3 * k))), (0, .ref (mw_a E 0)), (1, .int (nI sn)), (2, .int so), (3, .int a1), (4, .int (nI mm))]) C.1 C.2.1 dX12_customers_161 hl (k := 7) rfl (nI_1 _) (by decide) rfl (fun ls hl => ?_)
                            refine lv_goto (tgt := 75) C.1 C.2.1 dX12_customers_164 (by decide) ?_
                            exact iha (k + 1) xs u32 _ _ (by omega) (by omega) (hx8) (by rw [eL, show mm - k = (mm - (k + 1)) + 1 by omega, cuL_s hrng]; rw [if_neg hok]) (z34.2.trans fra) hP hS ls (lv_sub hl [3, 4, 5, 6, 7, 1, 0] rfl)
                          · rcases z34.1 with h | h <;> (rw [h] at c38; exact absurd (by decide) c38)
                      · refine lv_bipush (v := -12) C.1 C.2.1 dX12_customers_103 (by decide) ?_
                        have e : custF σ.2.1 n (nI sn) so a1 (nI mm) = (cuR (cuL (clF σ.2.1 sn) mz a1.toInt mm 0 n), (cuL (clF σ.2.1 sn) mz a1.toInt mm 0 n).1) := by unfold custF; rw [if_neg hgood, esn, emm, if_neg hso, if_neg hth, hm, nI_clamp (n := mz) (by omega)]
                        have e2 : cuL (clF σ.2.1 sn) mz a1.toInt mm 0 n = (xs, false) := by rw [eL, show mm - k = (mm - (k + 1)) + 1 by omega, cuL_x (fun y => by have y1 := (not_congr (ni_le _ _)).mp c30; rw [sub_sz3 hmz (by omega)] at y1; have := y.2; omega), List.append_nil]
                        exact mw_iret C hr hlk Z hP hS dX12_customers_105 (⟨by rw [e, e2]; rfl, by rw [e, e2]; exact fra⟩)
              exact lpa (mm + 1) 0 ([]) σ _ _ (by omega) (by omega) (by show n + 0 ≤ 8; omega) (by rw [Nat.sub_zero]; rfl) rfl hP hS ls (lv_sub hl [2, 3, 4, 5, 6, 1, 0] rfl)
            · refine lv_bipush (v := -11) C.1 C.2.1 dX12_customers_66 (by decide) ?_
              have e : custF σ.2.1 n (nI sn) so a1 (nI mm) = (-11, []) := by unfold custF; rw [if_neg hgood, esn, if_neg (fun y => y.1 c27), if_pos c27]
              exact mw_iret C hr hlk Z hP hS dX12_customers_68 (⟨by rw [e], by rw [e]; rfl⟩)
          · refine lv_bipush (v := -13) C.1 C.2.1 dX12_customers_54 (by decide) ?_
            have e : custF σ.2.1 n (nI sn) so a1 (nI mm) = (-13, []) := by unfold custF; rw [if_neg hgood, esn, if_pos ⟨c13, c26⟩]
            exact mw_iret C hr hlk Z hP hS dX12_customers_56 (⟨by rw [e], by rw [e]; rfl⟩)
      · have c12 := bI_0.mp c12
        refine lv_bipush (v := -2) C.1 C.2.1 dX12_customers_32 (by decide) ?_
        exact mw_iret C hr hlk Z hP hS dX12_customers_34 (⟨by unfold custF; rw [if_pos (Or.inr (Or.inr c12))], by unfold custF; rw [if_pos (Or.inr (Or.inr c12))]; rfl⟩)
