/-! THE REFERENCE: STAND, SETTING, SEND AWAY, LOST -/
def standV (q h : Nat) : Int32 := ((1 <<< (nI q &&& 31)) - 1) <<< (nI h &&& 31)
def standP (z : zP) (st : Nat → Int32) (cu : Nat → Nat → Int32) (n q : Nat) : Int32 × Int32 := bsF nI (fun h => allGain z (upd st 3 (standV q h)) cu n) (11 - q)
def standF (z : zP) (st : Nat → Int32) (cu : Nat → Nat → Int32) (n : Nat) (q w : Int32) : Int32 := if ¬ (0 ≤ q.toInt ∧ q.toInt ≤ 10) ∨ ¬ (0 ≤ w.toInt ∧ w.toInt ≤ 1) then -100000000 else if w = 0 then (standP z st cu n q.toNatClampNeg).1 else (standP z st cu n q.toNatClampNeg).2

set_option maxHeartbeats 4000000 in
set_option maxRecDepth 100000 in
theorem cM_stand (l : Launch) (E : mw_E) (σ : mw_M) (z : zP) (n : Nat) (hn : σ.1 0 10 = nI n) (h8 : n ≤ 8) (hru : mRu σ z) (qq w : Int32) : mw_Ci shM 13 gM l yX12_stand cX12_stand 8 (some .int) (rmF 47 1041) E [.ref (mw_a E 0), .int qq, .int w] σ (fun r u => r = standF z (mSt σ) (mCu σ) n qq w ∧ mFs σ u) := by
  refine mw_of (by decide) gM_ok (Nat.le_of_ble_eq_true rfl) ?_
  intro p_ e_ s_ m_ below meth c_ C hr hlk Z hP ls hl
  have C : CallFix p_ m_ c_ cX12_stand 8 s_ _ lw_good RX12 := C
  have hl : lv_has ls 8 [(0, .ref (mw_a E 0)), (1, .int qq), (2, .int w)] := hl
  have hS : va_S (mw_A 13 E) s_.heap s_.heap [] := va_S.rf
  refine lv_iload_n C.1 C.2.1 dX12_stand_0 rfl (lv_at hl 1 rfl) ?_
  refine lv_i2l C.1 C.2.1 dX12_stand_1 rfl ?_
  refine lv_lconst (v := 0) C.1 C.2.1 dX12_stand_2 (by decide) ?_
  refine lv_ldc2 (own := RX12) C.1 C.2.1 C.2.2.2.1 (C.2.2.2.2 _ tw_5_76) dX12_stand_3 ?_
  refine mw_cSi (As := [.long (qq.toInt64), .long (0), .long (10)]) (rest := []) C Z hP hS (cM_in l E σ (qq.toInt64) 0 10 (0 ≤ qq.toInt ∧ qq.toInt ≤ 10) (by first | (simp only [nl_i]; exact Iff.rfl) | (simp only [nl_i]; decide) | simp [nl_i])) sb_X12_in tw_5_33 ⟨rfl, rfl⟩ ⟨Nat.le_of_ble_eq_true rfl, Nat.le_of_ble_eq_true rfl⟩ rfl hl.1 rfl (Nat.le_of_ble_eq_true rfl) dX12_stand_6 ⟨Nat.zero_le _, Nat.zero_le _⟩ (fun r1 u2 H locs q3 hP hS => ?_)
  obtain ⟨rfl, q3u⟩ := q3
  rw [q3u] at hP; clear q3u
  refine lv_if_eq (tgt := 22) C.1 C.2.1 dX12_stand_9 (by decide) (fun c4 => ?_) (fun c4 => ?_)
  · have c4 := bI_0.mp c4
    refine lv_ldc (own := RX12) C.1 C.2.1 C.2.2.2.1 (C.2.2.2.2 _ tw_5_51) dX12_stand_22 ?_
    exact mw_iret C hr hlk Z hP hS dX12_stand_24 (⟨by unfold standF; rw [if_pos (Or.inl c4)], (mFs.rf σ)⟩)
  · have c4 := bI_n.mp c4
    have hrg := c4
    refine lv_iload_n C.1 C.2.1 dX12_stand_12 rfl (lv_at hl 2 rfl) ?_
    refine lv_i2l C.1 C.2.1 dX12_stand_13 rfl ?_
    refine lv_lconst (v := 0) C.1 C.2.1 dX12_stand_14 (by decide) ?_
    refine lv_lconst (v := 1) C.1 C.2.1 dX12_stand_15 (by decide) ?_
    refine mw_cSi (As := [.long (w.toInt64), .long (0), .long (1)]) (rest := []) C Z hP hS (cM_in l E σ (w.toInt64) 0 1 (0 ≤ w.toInt ∧ w.toInt ≤ 1) (by first | (simp only [nl_i]; exact Iff.rfl) | (simp only [nl_i]; decide) | simp [nl_i])) sb_X12_in tw_5_33 ⟨rfl, rfl⟩ ⟨Nat.le_of_ble_eq_true rfl, Nat.le_of_ble_eq_true rfl⟩ rfl hl.1 rfl (Nat.le_of_ble_eq_true rfl) dX12_stand_16 ⟨Nat.zero_le _, Nat.zero_le _⟩ (fun r5 u6 H locs q7 hP hS => ?_)
    obtain ⟨rfl, q7u⟩ := q7
    rw [q7u] at hP; clear q7u
    refine lv_if_ne (tgt := 25) C.1 C.2.1 dX12_stand_19 (by decide) (fun c8 => ?_) (fun c8 => ?_)
    · have c8 := bI_n.mp c8
      have hrw := c8
      obtain ⟨q, hq, eq⟩ := nI_ofI (k := 10) hrg.1 hrg.2
      subst eq
      refine lv_aload_n C.1 C.2.1 dX12_stand_25 rfl (lv_at hl 0 rfl) ?_
      refine mw_getr C Z hP (0) 7 (4) (by decide) rfl rfl rfl (by decide) inX12 tw_4_171 dX12_stand_26 ?_
      refine lv_iconst (v := 3) C.1 C.2.1 dX12_stand_29 (by decide) ?_
      refine mw_iald C Z hP (4) (3) (by decide) rfl (Nat.lt_of_lt_of_le (by decide : 5 < 961) (Nat.le_of_ble_eq_true rfl)) rfl (by decide) dX12_stand_30 ?_
      refine mw_top (y := mSt σ 3) rfl ?_
      refine lv_istore_n (lv' := [(3, .int (mSt σ 3)), (0, .ref (mw_a E 0)), (1, .int (nI q)), (2, .int w)]) C.1 C.2.1 dX12_stand_31 rfl hl (by decide) rfl (fun ls hl => ?_)
      refine lv_iconst (v := -1) C.1 C.2.1 dX12_stand_32 (by decide) ?_
      refine lv_istore (lv' := [(4, .int (-1)), (3, .int (mSt σ 3)), (0, .ref (mw_a E 0)), (1, .int (nI q)), (2, .int w)]) C.1 C.2.1 dX12_stand_33 hl (by decide) rfl (fun ls hl => ?_)
      refine lv_iconst (v := 0) C.1 C.2.1 dX12_stand_35 (by decide) ?_
      refine lv_istore (lv' := [(5, .int 0), (4, .int (-1)), (3, .int (mSt σ 3)), (0, .ref (mw_a E 0)), (1, .int (nI q)), (2, .int w)]) C.1 C.2.1 dX12_stand_36 hl (by decide) rfl (fun ls hl => ?_)
      refine lv_iconst (v := 0) C.1 C.2.1 dX12_stand_38 (by decide) ?_
      refine lv_istore (lv' := [(6, .int 0), (5, .int 0), (4, .int (-1)), (3, .int (mSt σ 3)), (0, .ref (mw_a E 0)), (1, .int (nI q)), (2, .int w)]) C.1 C.2.1 dX12_stand_39 hl (by decide) rfl (fun ls hl => ?_)
      have lpa : ∀ (N : Nat) (j : Nat) (x : Int32) (y : Int32) (s' : Nat → Int32) (ςa : mw_M) (H : Heap) (locs : List Loc), 12 - q ≤ j + N → (j ≤ 11 - q) → ((x, y) = bsF nI (fun h => allGain z (upd (mSt σ) 3 (standV q h)) (mCu σ) n) j) → (∀ v, upd s' 3 v = upd (mSt σ) 3 v) → mAs σ s' ςa → va_P (mw_D E) vwCl (mw_ws shM 13 E ςa) H → va_S (mw_A 13 E) s_.heap H locs → ∀ (ls : Array Slot), lv_has ls 8 [(0, .ref (mw_a E 0)), (1, .int (nI q)), (2, .int w), (3, .int (mSt σ 3)), (4, .int x), (5, .int y), (6, .int (nI j))] → mWi p_ l e_ (rmF 47 1041) s_ m_ [.ref (mw_a E 0), .int (nI q), .int w] below meth c_ E (fun r u => r = standF z (mSt σ) (mCu σ) n (nI q) w ∧ mFs σ u) H locs (F0 m_ 41 ls []) := by
        intro N
        induction N with
        | zero => intros; exfalso; omega
        | succ N iha =>
          intro j x y s' ςa H locs hNa hj exy hs fra hP hS ls hl
          refine lv_iload C.1 C.2.1 dX12_stand_41 (lv_at hl 6 rfl) ?_
          refine lv_bipush (v := 10) C.1 C.2.1 dX12_stand_43 (by decide) ?_
          refine lv_iload_n C.1 C.2.1 dX12_stand_45 rfl (lv_at hl 1 rfl) ?_
          refine lv_isub C.1 C.2.1 dX12_stand_46 ?_
          refine mw_top (y := nI (10 - q)) (pk_sub (a := 10) hq) ?_
          refine lv_icmp_gt (tgt := 97) C.1 C.2.1 dX12_stand_47 (by decide) (fun c9 => ?_) (fun c9 => ?_)
          · have c9 := (nI_ltI (by omega) (by omega)).mp c9
            refine lv_aload_n C.1 C.2.1 dX12_stand_97 rfl (lv_at hl 0 rfl) ?_
            refine mw_getr C Z hP (0) 7 (4) (by decide) rfl rfl rfl (by decide) inX12 tw_4_171 dX12_stand_98 ?_
            refine lv_iconst (v := 3) C.1 C.2.1 dX12_stand_101 (by decide) ?_
            refine lv_iload_n C.1 C.2.1 dX12_stand_102 rfl (lv_at hl 3 rfl) ?_
            refine mw_iast C Z hP hS (4) (3) (by decide) rfl (Nat.lt_of_lt_of_le (by decide : 5 < 961) (Nat.le_of_ble_eq_true rfl)) rfl (by decide) dX12_stand_103 (fun H locs hP hS => ?_)
            refine lv_iload_n C.1 C.2.1 dX12_stand_104 rfl (lv_at hl 2 rfl) ?_
            refine lv_if_ne (tgt := 113) C.1 C.2.1 dX12_stand_105 (by decide) (fun c10 => ?_) (fun c10 => ?_)
            · refine lv_iload C.1 C.2.1 dX12_stand_113 (lv_at hl 5 rfl) ?_
              have ej : j = 11 - q := by omega
              rw [ej] at exy
              exact mw_iret C hr hlk Z hP hS dX12_stand_115 (⟨by unfold standF; rw [if_neg (fun y => y.elim (fun y => y hrg) (fun y => y hrw)), nI_clamp (by omega), if_neg c10]; unfold standP; rw [← exy], ((fra.sa 3 (mSt σ 3))).fs (by rw [hs]; exact upd_self _ _)⟩)
            · refine lv_iload C.1 C.2.1 dX12_stand_108 (lv_at hl 4 rfl) ?_
              refine lv_goto (tgt := 115) C.1 C.2.1 dX12_stand_110 (by decide) ?_
              have ej : j = 11 - q := by omega
              rw [ej] at exy
              exact mw_iret C hr hlk Z hP hS dX12_stand_115 (⟨by unfold standF; rw [if_neg (fun y => y.elim (fun y => y hrg) (fun y => y hrw)), nI_clamp (by omega), if_pos c10]; unfold standP; rw [← exy], ((fra.sa 3 (mSt σ 3))).fs (by rw [hs]; exact upd_self _ _)⟩)
          · have c9 : _ := (not_congr (nI_ltI (by omega) (by omega))).mp c9
            refine lv_aload_n C.1 C.2.1 dX12_stand_50 rfl (lv_at hl 0 rfl) ?_
            refine mw_getr C Z hP (0) 7 (4) (by decide) rfl rfl rfl (by decide) inX12 tw_4_171 dX12_stand_51 ?_
            refine lv_iconst (v := 3) C.1 C.2.1 dX12_stand_54 (by decide) ?_
            refine lv_iconst (v := 1) C.1 C.2.1 dX12_stand_55 (by decide) ?_
            refine lv_iload_n C.1 C.2.1 dX12_stand_56 rfl (lv_at hl 1 rfl) ?_
            refine lv_ishl C.1 C.2.1 dX12_stand_57 ?_
            refine lv_iconst (v := 1) C.1 C.2.1 dX12_stand_58 (by decide) ?_
            refine lv_isub C.1 C.2.1 dX12_stand_59 ?_
            refine lv_iload C.1 C.2.1 dX12_stand_60 (lv_at hl 6 rfl) ?_
            refine lv_ishl C.1 C.2.1 dX12_stand_62 ?_
            refine mw_top (y := standV q j) rfl ?_
            refine mw_iast C Z hP hS (4) (3) (by decide) rfl (Nat.lt_of_lt_of_le (by decide : 5 < 961) (Nat.le_of_ble_eq_true rfl)) rfl (by decide) dX12_stand_63 (fun H locs hP hS => ?_)
            refine lv_aload_n C.1 C.2.1 dX12_stand_64 rfl (lv_at hl 0 rfl) ?_
            refine mw_cVi (As := []) (rest := []) C Z hP hS (0) (cM_gainAll l E (mw_sa ςa 4 3 (standV q j)) z n ((fra.sa 3 (standV q j)).many hn) h8 ((fra.sa 3 (standV q j)).ru hru)) vb_X12_gainAll tw_6_62 ⟨rfl, rfl⟩ ⟨Nat.le_of_ble_eq_true rfl, Nat.le_of_ble_eq_true rfl⟩ (by decide) rfl rfl rfl rfl hl.1 rfl (Nat.le_of_ble_eq_true rfl) dX12_stand_65 ⟨Nat.zero_le _, Nat.zero_le _⟩ (fun r11 u12 H locs q13 hP hS => ?_)
            obtain ⟨e15, f14⟩ := q13
            rw [show (fun p => gainP z (mSt (mw_sa ςa 4 3 (standV q j))) (mCu (mw_sa ςa 4 3 (standV q j)) p)) = fun p => gainP z (upd (mSt σ) 3 (standV q j)) (mCu σ p) from funext fun p => by rw [(fra.sa 3 (standV q j)).st, (fra.sa 3 (standV q j)).cu, hs]] at e15
            subst e15
            refine lv_istore (lv' := [(7, .int (sumP (fun p => gainP z (upd (mSt σ) 3 (standV q j)) (mCu σ p)) n)), (0, .ref (mw_a E 0)), (1, .int (nI q)), (2, .int w), (3, .int (mSt σ 3)), (4, .int x), (5, .int y), (6, .int (nI j))]) C.1 C.2.1 dX12_stand_68 hl (by decide) rfl (fun ls hl => ?_)
            refine lv_iload C.1 C.2.1 dX12_stand_70 (lv_at hl 5 rfl) ?_
            refine lv_iconst (v := -1) C.1 C.2.1 dX12_stand_72 (by decide) ?_
            refine lv_icmp_eq (tgt := 83) C.1 C.2.1 dX12_stand_73 (by decide) (fun c16 => ?_) (fun c16 => ?_)
            · refine lv_iload C.1 C.2.1 dX12_stand_83 (lv_at hl 7 rfl) ?_
              refine lv_istore (lv' := [(4, .int (nI j)), (7, .int (sumP (fun p => gainP z (upd (mSt σ) 3 (standV q j)) (mCu σ p)) n)), (0, .ref (mw_a E 0)), (1, .int (nI q)), (2, .int w), (3, .int (mSt σ 3)), (5, .int y), (6, .int (nI j))]) C.1 C.2.1 dX12_stand_85 hl (by decide) rfl (fun ls hl => ?_)
              refine lv_iload C.1 C.2.1 dX12_stand_87 (lv_at hl 1 rfl) ?_
              refine lv_istore (lv' := [(5, .int (sumP (fun p => gainP z (upd (mSt σ) 3 (standV q j)) (mCu σ p)) n)), (4, .int (nI j)), (7, .int (sumP (fun p => gainP z (upd (mSt σ) 3 (standV q j)) (mCu σ p)) n)), (0, .ref (mw_a E 0)), (1, .int (nI q)), (2, .int w), (3, .int (mSt σ 3)), (6, .int (nI j))]) C.1 C.2.1 dX12_stand_89 hl (by decide) rfl (fun ls hl => ?_)
              refine lv_iinc (v := nI (j + 1)) (lv' := [(6, .int (nI (j + 1))), (5, .int (sumP (fun p => gainP z (upd (mSt σ) 3 (standV q j)) (mCu σ p)) n)), (4, .int (nI j)), (7, .int (sumP (fun p => gainP z (upd (mSt σ) 3 (standV q j)) (mCu σ p)) n)), (0, .ref (mw_a E 0)), (1, .int (nI q)), (2, .int w), (3, .int (mSt σ 3))]) C.1 C.2.1 dX12_stand_91 hl (k := 7) rfl (nI_1 _) (by decide) rfl (fun ls hl => ?_)
              refine lv_goto (tgt := 41) C.1 C.2.1 dX12_stand_94 (by decide) ?_
              exact iha (j + 1) (nI j) (sumP (fun p => gainP z (upd (mSt σ) 3 (standV q j)) (mCu σ p)) n) (upd (s') 3 (standV q j)) u12 _ _ (by omega) (by omega) (by show _ = stB (bsF nI (fun h => allGain z (upd (mSt σ) 3 (standV q h)) (mCu σ) n) j) _ _; rw [← exy]; unfold stB; exact (if_pos (Or.inl c16)).symm) (fun v => by rw [upd_upd]; exact hs v) ((fra.sa 3 (standV q j)).tr f14) hP hS ls (lv_sub hl [4, 5, 6, 7, 2, 1, 0] rfl)
            · refine lv_iload C.1 C.2.1 dX12_stand_76 (lv_at hl 0 rfl) ?_
              refine lv_iload C.1 C.2.1 dX12_stand_78 (lv_at hl 6 rfl) ?_
              refine lv_icmp_le (tgt := 91) C.1 C.2.1 dX12_stand_80 (by decide) (fun c17 => ?_) (fun c17 => ?_)
              · refine lv_iinc (v := nI (j + 1)) (lv' := [(6, .int (nI (j + 1))), (7, .int (sumP (fun p => gainP z (upd (mSt σ) 3 (standV q j)) (mCu σ p)) n)), (0, .ref (mw_a E 0)), (1, .int (nI q)), (2, .int w), (3, .int (mSt σ 3)), (4, .int x), (5, .int y)]) C.1 C.2.1 dX12_stand_91 hl (k := 7) rfl (nI_1 _) (by decide) rfl (fun ls hl => ?_)
                refine lv_goto (tgt := 41) C.1 C.2.1 dX12_stand_94 (by decide) ?_
                exact iha (j + 1) x y (upd (s') 3 (standV q j)) u12 _ _ (by omega) (by omega) (by show _ = stB (bsF nI (fun h => allGain z (upd (mSt σ) 3 (standV q h)) (mCu σ) n) j) _ _; rw [← exy]; unfold stB; exact (if_neg (fun q => q.elim c16 (Int32.not_lt.mpr c17))).symm) (fun v => by rw [upd_upd]; exact hs v) ((fra.sa 3 (standV q j)).tr f14) hP hS ls (lv_sub hl [2, 3, 4, 5, 6, 7, 0] rfl)
              · refine lv_iload C.1 C.2.1 dX12_stand_83 (lv_at hl 7 rfl) ?_
                refine lv_istore (lv' := [(4, .int (nI j)), (7, .int (sumP (fun p => gainP z (upd (mSt σ) 3 (standV q j)) (mCu σ p)) n)), (0, .ref (mw_a E 0)), (1, .int (nI q)), (2, .int w), (3, .int (mSt σ 3)), (5, .int y), (6, .int (nI j))]) C.1 C.2.1 dX12_stand_85 hl (by decide) rfl (fun ls hl => ?_)
                refine lv_iload C.1 C.2.1 dX12_stand_87 (lv_at hl 1 rfl) ?_
                refine lv_istore (lv' := [(5, .int (sumP (fun p => gainP z (upd (mSt σ) 3 (standV q j)) (mCu σ p)) n)), (4, .int (nI j)), (7, .int (sumP (fun p => gainP z (upd (mSt σ) 3 (standV q j)) (mCu σ p)) n)), (0, .ref (mw_a E 0)), (1, .int (nI q)), (2, .int w), (3, .int (mSt σ 3)), (6, .int (nI j))]) C.1 C.2.1 dX12_stand_89 hl (by decide) rfl (fun ls hl => ?_)
                refine lv_iinc (v := nI (j + 1)) (lv' := [(6, .int (nI (j + 1))), (5, .int (sumP (fun p => gainP z (upd (mSt σ) 3 (standV q j)) (mCu σ p)) n)), (4, .int (nI j)), (7, .int (sumP (fun p => gainP z (upd (mSt σ) 3 (standV q j)) (mCu σ p)) n)), (0, .ref (mw_a E 0)), (1, .int (nI q)), (2, .int w), (3, .int (mSt σ 3))]) C.1 C.2.1 dX12_stand_91 hl (k := 7) rfl (nI_1 _) (by decide) rfl (fun ls hl => ?_)
                refine lv_goto (tgt := 41) C.1 C.2.1 dX12_stand_94 (by decide) ?_
                exact iha (j + 1) (nI j) (sumP (fun p => gainP z (upd (mSt σ) 3 (standV q j)) (mCu σ p)) n) (upd (s') 3 (standV q j)) u12 _ _ (by omega) (by omega) (by show _ = stB (bsF nI (fun h => allGain z (upd (mSt σ) 3 (standV q h)) (mCu σ) n) j) _ _; rw [← exy]; unfold stB; exact (if_pos (Or.inr (Int32.not_le.mp c17))).symm) (fun v => by rw [upd_upd]; exact hs v) ((fra.sa 3 (standV q j)).tr f14) hP hS ls (lv_sub hl [4, 5, 6, 7, 2, 1, 0] rfl)
      exact lpa (12 - q) 0 (-1) 0 (mSt σ) σ _ _ (by omega) (by omega) (rfl) (fun v => rfl) (mFs.rf σ).as hP hS ls (lv_sub hl [4, 5, 6, 3, 2, 1, 0] rfl)
    · have c8 := bI_0.mp c8
      refine lv_ldc (own := RX12) C.1 C.2.1 C.2.2.2.1 (C.2.2.2.2 _ tw_5_51) dX12_stand_22 ?_
      exact mw_iret C hr hlk Z hP hS dX12_stand_24 (⟨by unfold standF; rw [if_pos (Or.inr c8)], (mFs.rf σ)⟩)

def setC (k : Nat) : Int32 := nI (1 + k / 12)
def setS (k : Nat) : Int32 := nI (1 + k / 2 % 6)
def setG (k : Nat) : Int32 := nI (k % 2)
def setB (st : Nat → Int32) (k : Nat) : Nat → Int32 := upd (upd (upd st 0 (setC k)) 1 (setS k)) 2 (setG k)
def setP (z : zP) (st : Nat → Int32) (cu : Nat → Nat → Int32) (n : Nat) : Nat → Int32 × Int32 := bsF (fun k => 100 * setC k + 10 * setS k + setG k) (fun k => allGain z (setB st k) cu n)
def setF (z : zP) (st : Nat → Int32) (cu : Nat → Nat → Int32) (n : Nat) (w : Int32) : Int32 := if ¬ (0 ≤ w.toInt ∧ w.toInt ≤ 1) then -100000000 else if w = 0 then (setP z st cu n 480).1 else (setP z st cu n 480).2
theorem setB_eq {s s0 : Nat → Int32} (h : ∀ j, 2 < j → s j = s0 j) (a b c : Int32) : upd (upd (upd s 0 a) 1 b) 2 c = upd (upd (upd s0 0 a) 1 b) 2 c := by
  funext j
  unfold upd
  split
  · rfl
  · split
    · rfl
    · split
      · rfl
      · exact h j (by omega)

set_option maxHeartbeats 4000000 in
set_option maxRecDepth 100000 in
theorem cM_setting (l : Launch) (E : mw_E) (σ : mw_M) (z : zP) (n : Nat) (hn : σ.1 0 10 = nI n) (h8 : n ≤ 8) (hru : mRu σ z) (w : Int32) : mw_Ci shM 13 gM l yX12_setting cX12_setting 9 (some .int) (rmF 47 1041) E [.ref (mw_a E 0), .int w] σ (fun r u => r = setF z (mSt σ) (mCu σ) n w ∧ mFs σ u) := by
  refine mw_of (by decide) gM_ok (Nat.le_of_ble_eq_true rfl) ?_
  intro p_ e_ s_ m_ below meth c_ C hr hlk Z hP ls hl
  have C : CallFix p_ m_ c_ cX12_setting 9 s_ _ lw_good RX12 := C
  have hl : lv_has ls 9 [(0, .ref (mw_a E 0)), (1, .int w)] := hl
  have hS : va_S (mw_A 13 E) s_.heap s_.heap [] := va_S.rf
  refine lv_iload_n C.1 C.2.1 dX12_setting_0 rfl (lv_at hl 1 rfl) ?_
  refine lv_i2l C.1 C.2.1 dX12_setting_1 rfl ?_
  refine lv_lconst (v := 0) C.1 C.2.1 dX12_setting_2 (by decide) ?_
  refine lv_lconst (v := 1) C.1 C.2.1 dX12_setting_3 (by decide) ?_
  refine mw_cSi (As := [.long (w.toInt64), .long (0), .long (1)]) (rest := []) C Z hP hS (cM_in l E σ (w.toInt64) 0 1 (0 ≤ w.toInt ∧ w.toInt ≤ 1) (by first | (simp only [nl_i]; exact Iff.rfl) | (simp only [nl_i]; decide) | simp [nl_i])) sb_X12_in tw_5_33 ⟨rfl, rfl⟩ ⟨Nat.le_of_ble_eq_true rfl, Nat.le_of_ble_eq_true rfl⟩ rfl hl.1 rfl (Nat.le_of_ble_eq_true rfl) dX12_setting_4 ⟨Nat.zero_le _, Nat.zero_le _⟩ (fun r1 u2 H locs q3 hP hS => ?_)
  obtain ⟨rfl, q3u⟩ := q3
  rw [q3u] at hP; clear q3u
  refine lv_if_ne (tgt := 13) C.1 C.2.1 dX12_setting_7 (by decide) (fun c4 => ?_) (fun c4 => ?_)
  · have c4 := bI_n.mp c4
    have hrg := c4
    refine lv_aload_n C.1 C.2.1 dX12_setting_13 rfl (lv_at hl 0 rfl) ?_
    refine mw_getr C Z hP (0) 7 (4) (by decide) rfl rfl rfl (by decide) inX12 tw_4_171 dX12_setting_14 ?_
    refine lv_iconst (v := 0) C.1 C.2.1 dX12_setting_17 (by decide) ?_
    refine mw_iald C Z hP (4) (0) (by decide) rfl (Nat.lt_of_lt_of_le (by decide : 5 < 961) (Nat.le_of_ble_eq_true rfl)) rfl (by decide) dX12_setting_18 ?_
    refine mw_top (y := mSt σ 0) (rfl) ?_
    refine lv_istore_n (lv' := [(2, .int (mSt σ 0)), (0, .ref (mw_a E 0)), (1, .int w)]) C.1 C.2.1 dX12_setting_19 rfl hl (by decide) rfl (fun ls hl => ?_)
    refine lv_aload_n C.1 C.2.1 dX12_setting_20 rfl (lv_at hl 1 rfl) ?_
    refine mw_getr C Z hP (0) 7 (4) (by decide) rfl rfl rfl (by decide) inX12 tw_4_171 dX12_setting_21 ?_
    refine lv_iconst (v := 1) C.1 C.2.1 dX12_setting_24 (by decide) ?_
    refine mw_iald C Z hP (4) (1) (by decide) rfl (Nat.lt_of_lt_of_le (by decide : 5 < 961) (Nat.le_of_ble_eq_true rfl)) rfl (by decide) dX12_setting_25 ?_
    refine mw_top (y := mSt σ 1) (rfl) ?_
    refine lv_istore_n (lv' := [(3, .int (mSt σ 1)), (2, .int (mSt σ 0)), (0, .ref (mw_a E 0)), (1, .int w)]) C.1 C.2.1 dX12_setting_26 rfl hl (by decide) rfl (fun ls hl => ?_)
    refine lv_aload_n C.1 C.2.1 dX12_setting_27 rfl (lv_at hl 2 rfl) ?_
    refine mw_getr C Z hP (0) 7 (4) (by decide) rfl rfl rfl (by decide) inX12 tw_4_171 dX12_setting_28 ?_
    refine lv_iconst (v := 2) C.1 C.2.1 dX12_setting_31 (by decide) ?_
    refine mw_iald C Z hP (4) (2) (by decide) rfl (Nat.lt_of_lt_of_le (by decide : 5 < 961) (Nat.le_of_ble_eq_true rfl)) rfl (by decide) dX12_setting_32 ?_
    refine mw_top (y := mSt σ 2) (rfl) ?_
    refine lv_istore (lv' := [(4, .int (mSt σ 2)), (3, .int (mSt σ 1)), (2, .int (mSt σ 0)), (0, .ref (mw_a E 0)), (1, .int w)]) C.1 C.2.1 dX12_setting_33 hl (by decide) rfl (fun ls hl => ?_)
    refine lv_iconst (v := -1) C.1 C.2.1 dX12_setting_35 (by decide) ?_
    refine lv_istore (lv' := [(5, .int (-1)), (4, .int (mSt σ 2)), (3, .int (mSt σ 1)), (2, .int (mSt σ 0)), (0, .ref (mw_a E 0)), (1, .int w)]) C.1 C.2.1 dX12_setting_36 hl (by decide) rfl (fun ls hl => ?_)
    refine lv_iconst (v := 0) C.1 C.2.1 dX12_setting_38 (by decide) ?_
    refine lv_istore (lv' := [(6, .int 0), (5, .int (-1)), (4, .int (mSt σ 2)), (3, .int (mSt σ 1)), (2, .int (mSt σ 0)), (0, .ref (mw_a E 0)), (1, .int w)]) C.1 C.2.1 dX12_setting_39 hl (by decide) rfl (fun ls hl => ?_)
    refine lv_iconst (v := 0) C.1 C.2.1 dX12_setting_41 (by decide) ?_
    refine lv_istore (lv' := [(7, .int 0), (6, .int 0), (5, .int (-1)), (4, .int (mSt σ 2)), (3, .int (mSt σ 1)), (2, .int (mSt σ 0)), (0, .ref (mw_a E 0)), (1, .int w)]) C.1 C.2.1 dX12_setting_42 hl (by decide) rfl (fun ls hl => ?_)
    have lpa : ∀ (N : Nat) (j : Nat) (x : Int32) (y : Int32) (s' : Nat → Int32) (ςa : mw_M) (H : Heap) (locs : List Loc), 481 ≤ j + N → (j ≤ 480) → ((x, y) = setP z (mSt σ) (mCu σ) n j) → (∀ i, 2 < i → s' i = mSt σ i) → mAs σ s' ςa → va_P (mw_D E) vwCl (mw_ws shM 13 E ςa) H → va_S (mw_A 13 E) s_.heap H locs → ∀ (ls : Array Slot), lv_has ls 9 [(0, .ref (mw_a E 0)), (1, .int w), (2, .int (mSt σ 0)), (3, .int (mSt σ 1)), (4, .int (mSt σ 2)), (5, .int x), (6, .int y), (7, .int (nI j))] → mWi p_ l e_ (rmF 47 1041) s_ m_ [.ref (mw_a E 0), .int w] below meth c_ E (fun r u => r = setF z (mSt σ) (mCu σ) n w ∧ mFs σ u) H locs (F0 m_ 44 ls []) := by
      intro N
      induction N with
      | zero => intros; exfalso; omega
      | succ N iha =>
        intro j x y s' ςa H locs hNa hj exy hs fra hP hS ls hl
        refine lv_iload C.1 C.2.1 dX12_setting_44 (lv_at hl 7 rfl) ?_
        refine lv_sipush (v := 480) C.1 C.2.1 dX12_setting_46 (by decide) ?_
        refine lv_icmp_ge (tgt := 147) C.1 C.2.1 dX12_setting_49 (by decide) (fun c5 => ?_) (fun c5 => ?_)
        · have c5 : 480 ≤ j := (nI_leI (a := 480) (by decide) (by omega)).mp c5
          refine lv_aload_n C.1 C.2.1 dX12_setting_147 rfl (lv_at hl 0 rfl) ?_
          refine mw_getr C Z hP (0) 7 (4) (by decide) rfl rfl rfl (by decide) inX12 tw_4_171 dX12_setting_148 ?_
          refine lv_iconst (v := 0) C.1 C.2.1 dX12_setting_151 (by decide) ?_
          refine lv_iload_n C.1 C.2.1 dX12_setting_152 rfl (lv_at hl 2 rfl) ?_
          refine mw_iast C Z hP hS (4) (0) (by decide) rfl (Nat.lt_of_lt_of_le (by decide : 5 < 961) (Nat.le_of_ble_eq_true rfl)) rfl (by decide) dX12_setting_153 (fun H locs hP hS => ?_)
          refine lv_aload_n C.1 C.2.1 dX12_setting_154 rfl (lv_at hl 0 rfl) ?_
          refine mw_getr C Z hP (0) 7 (4) (by decide) rfl rfl rfl (by decide) inX12 tw_4_171 dX12_setting_155 ?_
          refine lv_iconst (v := 1) C.1 C.2.1 dX12_setting_158 (by decide) ?_
          refine lv_iload_n C.1 C.2.1 dX12_setting_159 rfl (lv_at hl 3 rfl) ?_
          refine mw_iast C Z hP hS (4) (1) (by decide) rfl (Nat.lt_of_lt_of_le (by decide : 5 < 961) (Nat.le_of_ble_eq_true rfl)) rfl (by decide) dX12_setting_160 (fun H locs hP hS => ?_)
          refine lv_aload_n C.1 C.2.1 dX12_setting_161 rfl (lv_at hl 0 rfl) ?_
          refine mw_getr C Z hP (0) 7 (4) (by decide) rfl rfl rfl (by decide) inX12 tw_4_171 dX12_setting_162 ?_
          refine lv_iconst (v := 2) C.1 C.2.1 dX12_setting_165 (by decide) ?_
          refine lv_iload C.1 C.2.1 dX12_setting_166 (lv_at hl 4 rfl) ?_
          refine mw_iast C Z hP hS (4) (2) (by decide) rfl (Nat.lt_of_lt_of_le (by decide : 5 < 961) (Nat.le_of_ble_eq_true rfl)) rfl (by decide) dX12_setting_168 (fun H locs hP hS => ?_)
          refine lv_iload_n C.1 C.2.1 dX12_setting_169 rfl (lv_at hl 1 rfl) ?_
          refine lv_if_ne (tgt := 178) C.1 C.2.1 dX12_setting_170 (by decide) (fun c6 => ?_) (fun c6 => ?_)
          · refine lv_iload C.1 C.2.1 dX12_setting_178 (lv_at hl 6 rfl) ?_
            have ej : j = 480 := by omega
            rw [ej] at exy
            exact mw_iret C hr hlk Z hP hS dX12_setting_180 (⟨by unfold setF; rw [if_neg (Decidable.not_not.mpr hrg), if_neg c6, ← exy], ((((fra.sa 0 (mSt σ 0)).sa 1 (mSt σ 1)).sa 2 (mSt σ 2))).fs (by rw [setB_eq hs, upd_self]; exact (congrArg (fun f => upd f 2 (mSt σ 2)) (upd_self (mSt σ) 1)).trans (upd_self _ _))⟩)
          · refine lv_iload C.1 C.2.1 dX12_setting_173 (lv_at hl 5 rfl) ?_
            refine lv_goto (tgt := 180) C.1 C.2.1 dX12_setting_175 (by decide) ?_
            have ej : j = 480 := by omega
            rw [ej] at exy
            exact mw_iret C hr hlk Z hP hS dX12_setting_180 (⟨by unfold setF; rw [if_neg (Decidable.not_not.mpr hrg), if_pos c6, ← exy], ((((fra.sa 0 (mSt σ 0)).sa 1 (mSt σ 1)).sa 2 (mSt σ 2))).fs (by rw [setB_eq hs, upd_self]; exact (congrArg (fun f => upd f 2 (mSt σ 2)) (upd_self (mSt σ) 1)).trans (upd_self _ _))⟩)
        · have c5 : ¬ 480 ≤ j := (not_congr (nI_leI (a := 480) (by decide) (by omega))).mp c5
          refine lv_aload_n C.1 C.2.1 dX12_setting_52 rfl (lv_at hl 0 rfl) ?_
          refine mw_getr C Z hP (0) 7 (4) (by decide) rfl rfl rfl (by decide) inX12 tw_4_171 dX12_setting_53 ?_
          refine lv_iconst (v := 0) C.1 C.2.1 dX12_setting_56 (by decide) ?_
          refine lv_iconst (v := 1) C.1 C.2.1 dX12_setting_57 (by decide) ?_
          refine lv_iload C.1 C.2.1 dX12_setting_58 (lv_at hl 7 rfl) ?_
          refine lv_bipush (v := 12) C.1 C.2.1 dX12_setting_60 (by decide) ?_
          refine lv_idiv C.1 C.2.1 dX12_setting_62 (by decide) ?_
          refine mw_top (y := nI (j / 12)) (pk_div (d := 12) (by omega) (by decide) (by decide)) ?_
          refine lv_iadd C.1 C.2.1 dX12_setting_63 ?_
          refine mw_top (y := setC j) (nI_add 1 _) ?_
          refine mw_iast C Z hP hS (4) (0) (by decide) rfl (Nat.lt_of_lt_of_le (by decide : 5 < 961) (Nat.le_of_ble_eq_true rfl)) rfl (by decide) dX12_setting_64 (fun H locs hP hS => ?_)
          refine lv_aload_n C.1 C.2.1 dX12_setting_65 rfl (lv_at hl 0 rfl) ?_
          refine mw_getr C Z hP (0) 7 (4) (by decide) rfl rfl rfl (by decide) inX12 tw_4_171 dX12_setting_66 ?_
          refine lv_iconst (v := 1) C.1 C.2.1 dX12_setting_69 (by decide) ?_
          refine lv_iconst (v := 1) C.1 C.2.1 dX12_setting_70 (by decide) ?_
          refine lv_iload C.1 C.2.1 dX12_setting_71 (lv_at hl 7 rfl) ?_
          refine lv_iconst (v := 2) C.1 C.2.1 dX12_setting_73 (by decide) ?_
          refine lv_idiv C.1 C.2.1 dX12_setting_74 (by decide) ?_
          refine mw_top (y := nI (j / 2)) (pk_div (d := 2) (by omega) (by decide) (by decide)) ?_
          refine lv_bipush (v := 6) C.1 C.2.1 dX12_setting_75 (by decide) ?_
          refine lv_irem C.1 C.2.1 dX12_setting_77 (by decide) ?_
          refine mw_top (y := nI (j / 2 % 6)) (pk_rem (d := 6) (by omega) (by decide) (by decide)) ?_
          refine lv_iadd C.1 C.2.1 dX12_setting_78 ?_
          refine mw_top (y := setS j) (nI_add 1 _) ?_
          refine mw_iast C Z hP hS (4) (1) (by decide) rfl (Nat.lt_of_lt_of_le (by decide : 5 < 961) (Nat.le_of_ble_eq_true rfl)) rfl (by decide) dX12_setting_79 (fun H locs hP hS => ?_)
          refine lv_aload_n C.1 C.2.1 dX12_setting_80 rfl (lv_at hl 0 rfl) ?_
          refine mw_getr C Z hP (0) 7 (4) (by decide) rfl rfl rfl (by decide) inX12 tw_4_171 dX12_setting_81 ?_
          refine lv_iconst (v := 2) C.1 C.2.1 dX12_setting_84 (by decide) ?_
          refine lv_iload C.1 C.2.1 dX12_setting_85 (lv_at hl 7 rfl) ?_
          refine lv_iconst (v := 2) C.1 C.2.1 dX12_setting_87 (by decide) ?_
          refine lv_irem C.1 C.2.1 dX12_setting_88 (by decide) ?_
          refine mw_top (y := setG j) (pk_rem (d := 2) (by omega) (by decide) (by decide)) ?_
          refine mw_iast C Z hP hS (4) (2) (by decide) rfl (Nat.lt_of_lt_of_le (by decide : 5 < 961) (Nat.le_of_ble_eq_true rfl)) rfl (by decide) dX12_setting_89 (fun H locs hP hS => ?_)
          refine lv_aload_n C.1 C.2.1 dX12_setting_90 rfl (lv_at hl 0 rfl) ?_
          refine mw_cVi (As := []) (rest := []) C Z hP hS (0) (cM_gainAll l E (mw_sa (mw_sa (mw_sa ςa 4 0 (setC j)) 4 1 (setS j)) 4 2 (setG j)) z n ((((fra.sa 0 (setC j)).sa 1 (setS j)).sa 2 (setG j)).many hn) h8 ((((fra.sa 0 (setC j)).sa 1 (setS j)).sa 2 (setG j)).ru hru)) vb_X12_gainAll tw_6_62 ⟨rfl, rfl⟩ ⟨Nat.le_of_ble_eq_true rfl, Nat.le_of_ble_eq_true rfl⟩ (by decide) rfl rfl rfl rfl hl.1 rfl (Nat.le_of_ble_eq_true rfl) dX12_setting_91 ⟨Nat.zero_le _, Nat.zero_le _⟩ (fun r7 u8 H locs q9 hP hS => ?_)
          obtain ⟨e11, f10⟩ := q9
          rw [show (fun p => gainP z (mSt (mw_sa (mw_sa (mw_sa ςa 4 0 (setC j)) 4 1 (setS j)) 4 2 (setG j))) (mCu (mw_sa (mw_sa (mw_sa ςa 4 0 (setC j)) 4 1 (setS j)) 4 2 (setG j)) p)) = fun p => gainP z (setB (mSt σ) j) (mCu σ p) from funext fun p => by rw [(((fra.sa 0 (setC j)).sa 1 (setS j)).sa 2 (setG j)).st, (((fra.sa 0 (setC j)).sa 1 (setS j)).sa 2 (setG j)).cu, (show _ = setB (mSt σ) j from setB_eq hs _ _ _)]] at e11
          subst e11
          refine lv_istore (lv' := [(8, .int (sumP (fun p => gainP z (setB (mSt σ) j) (mCu σ p)) n)), (0, .ref (mw_a E 0)), (1, .int w), (2, .int (mSt σ 0)), (3, .int (mSt σ 1)), (4, .int (mSt σ 2)), (5, .int x), (6, .int y), (7, .int (nI j))]) C.1 C.2.1 dX12_setting_94 hl (by decide) rfl (fun ls hl => ?_)
          refine lv_iload C.1 C.2.1 dX12_setting_96 (lv_at hl 6 rfl) ?_
          refine lv_iconst (v := -1) C.1 C.2.1 dX12_setting_98 (by decide) ?_
          refine lv_icmp_eq (tgt := 109) C.1 C.2.1 dX12_setting_99 (by decide) (fun c12 => ?_) (fun c12 => ?_)
          · refine lv_bipush (v := 100) C.1 C.2.1 dX12_setting_109 (by decide) ?_
            refine lv_aload_n C.1 C.2.1 dX12_setting_111 rfl (lv_at hl 1 rfl) ?_
            refine mw_getr C Z hP (0) 7 (4) (by decide) rfl rfl rfl (by decide) inX12 tw_4_171 dX12_setting_112 ?_
            refine lv_iconst (v := 0) C.1 C.2.1 dX12_setting_115 (by decide) ?_
            refine mw_iald C Z hP (4) (0) (by decide) rfl (Nat.lt_of_lt_of_le (by decide : 5 < 961) (Nat.le_of_ble_eq_true rfl)) rfl (by decide) dX12_setting_116 ?_
            refine mw_top (y := setC j) (by have z1 := congrFun (((((fra.sa 0 (setC j)).sa 1 (setS j)).sa 2 (setG j)).tr f10)).st 0; exact z1) ?_
            refine lv_imul C.1 C.2.1 dX12_setting_117 ?_
            refine lv_bipush (v := 10) C.1 C.2.1 dX12_setting_118 (by decide) ?_
            refine lv_aload_n C.1 C.2.1 dX12_setting_120 rfl (lv_at hl 1 rfl) ?_
            refine mw_getr C Z hP (0) 7 (4) (by decide) rfl rfl rfl (by decide) inX12 tw_4_171 dX12_setting_121 ?_
            refine lv_iconst (v := 1) C.1 C.2.1 dX12_setting_124 (by decide) ?_
            refine mw_iald C Z hP (4) (1) (by decide) rfl (Nat.lt_of_lt_of_le (by decide : 5 < 961) (Nat.le_of_ble_eq_true rfl)) rfl (by decide) dX12_setting_125 ?_
            refine mw_top (y := setS j) (by have z1 := congrFun (((((fra.sa 0 (setC j)).sa 1 (setS j)).sa 2 (setG j)).tr f10)).st 1; exact z1) ?_
            refine lv_imul C.1 C.2.1 dX12_setting_126 ?_
            refine lv_iadd C.1 C.2.1 dX12_setting_127 ?_
            refine lv_aload_n C.1 C.2.1 dX12_setting_128 rfl (lv_at hl 1 rfl) ?_
            refine mw_getr C Z hP (0) 7 (4) (by decide) rfl rfl rfl (by decide) inX12 tw_4_171 dX12_setting_129 ?_
            refine lv_iconst (v := 2) C.1 C.2.1 dX12_setting_132 (by decide) ?_
            refine mw_iald C Z hP (4) (2) (by decide) rfl (Nat.lt_of_lt_of_le (by decide : 5 < 961) (Nat.le_of_ble_eq_true rfl)) rfl (by decide) dX12_setting_133 ?_
            refine mw_top (y := setG j) (by have z1 := congrFun (((((fra.sa 0 (setC j)).sa 1 (setS j)).sa 2 (setG j)).tr f10)).st 2; exact z1) ?_
            refine lv_iadd C.1 C.2.1 dX12_setting_134 ?_
            refine lv_istore (lv' := [(5, .int (((100 * (setC j)) + (10 * (setS j))) + (setG j))), (8, .int (sumP (fun p => gainP z (setB (mSt σ) j) (mCu σ p)) n)), (0, .ref (mw_a E 0)), (1, .int w), (2, .int (mSt σ 0)), (3, .int (mSt σ 1)), (4, .int (mSt σ 2)), (6, .int y), (7, .int (nI j))]) C.1 C.2.1 dX12_setting_135 hl (by decide) rfl (fun ls hl => ?_)
            refine lv_iload C.1 C.2.1 dX12_setting_137 (lv_at hl 1 rfl) ?_
            refine lv_istore (lv' := [(6, .int (sumP (fun p => gainP z (setB (mSt σ) j) (mCu σ p)) n)), (5, .int (((100 * (setC j)) + (10 * (setS j))) + (setG j))), (8, .int (sumP (fun p => gainP z (setB (mSt σ) j) (mCu σ p)) n)), (0, .ref (mw_a E 0)), (1, .int w), (2, .int (mSt σ 0)), (3, .int (mSt σ 1)), (4, .int (mSt σ 2)), (7, .int (nI j))]) C.1 C.2.1 dX12_setting_139 hl (by decide) rfl (fun ls hl => ?_)
            refine lv_iinc (v := nI (j + 1)) (lv' := [(7, .int (nI (j + 1))), (6, .int (sumP (fun p => gainP z (setB (mSt σ) j) (mCu σ p)) n)), (5, .int (((100 * (setC j)) + (10 * (setS j))) + (setG j))), (8, .int (sumP (fun p => gainP z (setB (mSt σ) j) (mCu σ p)) n)), (0, .ref (mw_a E 0)), (1, .int w), (2, .int (mSt σ 0)), (3, .int (mSt σ 1)), (4, .int (mSt σ 2))]) C.1 C.2.1 dX12_setting_141 hl (k := 8) rfl (nI_1 _) (by decide) rfl (fun ls hl => ?_)
            refine lv_goto (tgt := 44) C.1 C.2.1 dX12_setting_144 (by decide) ?_
            exact iha (j + 1) (((100 * (setC j)) + (10 * (setS j))) + (setG j)) (sumP (fun p => gainP z (setB (mSt σ) j) (mCu σ p)) n) (upd (upd (upd (s') 0 (setC j)) 1 (setS j)) 2 (setG j)) u8 _ _ (by omega) (by omega) (by show _ = stB (setP z (mSt σ) (mCu σ) n j) _ _; rw [← exy]; unfold stB; exact (if_pos (Or.inl c12)).symm) (fun i hi => by show (if i = 2 then _ else if i = 1 then _ else if i = 0 then _ else s' i) = _; rw [if_neg (by omega), if_neg (by omega), if_neg (by omega)]; exact hs i hi) ((((fra.sa 0 (setC j)).sa 1 (setS j)).sa 2 (setG j)).tr f10) hP hS ls (lv_sub hl [4, 5, 6, 7, 8, 2, 1, 0] rfl)
          · refine lv_iload C.1 C.2.1 dX12_setting_102 (lv_at hl 0 rfl) ?_
            refine lv_iload C.1 C.2.1 dX12_setting_104 (lv_at hl 7 rfl) ?_
            refine lv_icmp_le (tgt := 141) C.1 C.2.1 dX12_setting_106 (by decide) (fun c13 => ?_) (fun c13 => ?_)
            · refine lv_iinc (v := nI (j + 1)) (lv' := [(7, .int (nI (j + 1))), (8, .int (sumP (fun p => gainP z (setB (mSt σ) j) (mCu σ p)) n)), (0, .ref (mw_a E 0)), (1, .int w), (2, .int (mSt σ 0)), (3, .int (mSt σ 1)), (4, .int (mSt σ 2)), (5, .int x), (6, .int y)]) C.1 C.2.1 dX12_setting_141 hl (k := 8) rfl (nI_1 _) (by decide) rfl (fun ls hl => ?_)
              refine lv_goto (tgt := 44) C.1 C.2.1 dX12_setting_144 (by decide) ?_
              exact iha (j + 1) x y (upd (upd (upd (s') 0 (setC j)) 1 (setS j)) 2 (setG j)) u8 _ _ (by omega) (by omega) (by show _ = stB (setP z (mSt σ) (mCu σ) n j) _ _; rw [← exy]; unfold stB; exact (if_neg (fun q => q.elim c12 (Int32.not_lt.mpr c13))).symm) (fun i hi => by show (if i = 2 then _ else if i = 1 then _ else if i = 0 then _ else s' i) = _; rw [if_neg (by omega), if_neg (by omega), if_neg (by omega)]; exact hs i hi) ((((fra.sa 0 (setC j)).sa 1 (setS j)).sa 2 (setG j)).tr f10) hP hS ls (lv_sub hl [2, 3, 4, 5, 6, 7, 8, 0] rfl)
            · refine lv_bipush (v := 100) C.1 C.2.1 dX12_setting_109 (by decide) ?_
              refine lv_aload_n C.1 C.2.1 dX12_setting_111 rfl (lv_at hl 1 rfl) ?_
              refine mw_getr C Z hP (0) 7 (4) (by decide) rfl rfl rfl (by decide) inX12 tw_4_171 dX12_setting_112 ?_
              refine lv_iconst (v := 0) C.1 C.2.1 dX12_setting_115 (by decide) ?_
              refine mw_iald C Z hP (4) (0) (by decide) rfl (Nat.lt_of_lt_of_le (by decide : 5 < 961) (Nat.le_of_ble_eq_true rfl)) rfl (by decide) dX12_setting_116 ?_
              refine mw_top (y := setC j) (by have z1 := congrFun (((((fra.sa 0 (setC j)).sa 1 (setS j)).sa 2 (setG j)).tr f10)).st 0; exact z1) ?_
              refine lv_imul C.1 C.2.1 dX12_setting_117 ?_
              refine lv_bipush (v := 10) C.1 C.2.1 dX12_setting_118 (by decide) ?_
              refine lv_aload_n C.1 C.2.1 dX12_setting_120 rfl (lv_at hl 1 rfl) ?_
              refine mw_getr C Z hP (0) 7 (4) (by decide) rfl rfl rfl (by decide) inX12 tw_4_171 dX12_setting_121 ?_
              refine lv_iconst (v := 1) C.1 C.2.1 dX12_setting_124 (by decide) ?_
              refine mw_iald C Z hP (4) (1) (by decide) rfl (Nat.lt_of_lt_of_le (by decide : 5 < 961) (Nat.le_of_ble_eq_true rfl)) rfl (by decide) dX12_setting_125 ?_
              refine mw_top (y := setS j) (by have z1 := congrFun (((((fra.sa 0 (setC j)).sa 1 (setS j)).sa 2 (setG j)).tr f10)).st 1; exact z1) ?_
              refine lv_imul C.1 C.2.1 dX12_setting_126 ?_
              refine lv_iadd C.1 C.2.1 dX12_setting_127 ?_
              refine lv_aload_n C.1 C.2.1 dX12_setting_128 rfl (lv_at hl 1 rfl) ?_
              refine mw_getr C Z hP (0) 7 (4) (by decide) rfl rfl rfl (by decide) inX12 tw_4_171 dX12_setting_129 ?_
              refine lv_iconst (v := 2) C.1 C.2.1 dX12_setting_132 (by decide) ?_
              refine mw_iald C Z hP (4) (2) (by decide) rfl (Nat.lt_of_lt_of_le (by decide : 5 < 961) (Nat.le_of_ble_eq_true rfl)) rfl (by decide) dX12_setting_133 ?_
              refine mw_top (y := setG j) (by have z1 := congrFun (((((fra.sa 0 (setC j)).sa 1 (setS j)).sa 2 (setG j)).tr f10)).st 2; exact z1) ?_
              refine lv_iadd C.1 C.2.1 dX12_setting_134 ?_
              refine lv_istore (lv' := [(5, .int (((100 * (setC j)) + (10 * (setS j))) + (setG j))), (8, .int (sumP (fun p => gainP z (setB (mSt σ) j) (mCu σ p)) n)), (0, .ref (mw_a E 0)), (1, .int w), (2, .int (mSt σ 0)), (3, .int (mSt σ 1)), (4, .int (mSt σ 2)), (6, .int y), (7, .int (nI j))]) C.1 C.2.1 dX12_setting_135 hl (by decide) rfl (fun ls hl => ?_)
              refine lv_iload C.1 C.2.1 dX12_setting_137 (lv_at hl 1 rfl) ?_
              refine lv_istore (lv' := [(6, .int (sumP (fun p => gainP z (setB (mSt σ) j) (mCu σ p)) n)), (5, .int (((100 * (setC j)) + (10 * (setS j))) + (setG j))), (8, .int (sumP (fun p => gainP z (setB (mSt σ) j) (mCu σ p)) n)), (0, .ref (mw_a E 0)), (1, .int w), (2, .int (mSt σ 0)), (3, .int (mSt σ 1)), (4, .int (mSt σ 2)), (7, .int (nI j))]) C.1 C.2.1 dX12_setting_139 hl (by decide) rfl (fun ls hl => ?_)
              refine lv_iinc (v := nI (j + 1)) (lv' := [(7, .int (nI (j + 1))), (6, .int (sumP (fun p => gainP z (setB (mSt σ) j) (mCu σ p)) n)), (5, .int (((100 * (setC j)) + (10 * (setS j))) + (setG j))), (8, .int (sumP (fun p => gainP z (setB (mSt σ) j) (mCu σ p)) n)), (0, .ref (mw_a E 0)), (1, .int w), (2, .int (mSt σ 0)), (3, .int (mSt σ 1)), (4, .int (mSt σ 2))]) C.1 C.2.1 dX12_setting_141 hl (k := 8) rfl (nI_1 _) (by decide) rfl (fun ls hl => ?_)
              refine lv_goto (tgt := 44) C.1 C.2.1 dX12_setting_144 (by decide) ?_
              exact iha (j + 1) (((100 * (setC j)) + (10 * (setS j))) + (setG j)) (sumP (fun p => gainP z (setB (mSt σ) j) (mCu σ p)) n) (upd (upd (upd (s') 0 (setC j)) 1 (setS j)) 2 (setG j)) u8 _ _ (by omega) (by omega) (by show _ = stB (setP z (mSt σ) (mCu σ) n j) _ _; rw [← exy]; unfold stB; exact (if_pos (Or.inr (Int32.not_le.mp c13))).symm) (fun i hi => by show (if i = 2 then _ else if i = 1 then _ else if i = 0 then _ else s' i) = _; rw [if_neg (by omega), if_neg (by omega), if_neg (by omega)]; exact hs i hi) ((((fra.sa 0 (setC j)).sa 1 (setS j)).sa 2 (setG j)).tr f10) hP hS ls (lv_sub hl [4, 5, 6, 7, 8, 2, 1, 0] rfl)
    exact lpa (481) 0 (-1) 0 (mSt σ) σ _ _ (by omega) (by omega) (rfl) (fun i _ => rfl) (mFs.rf σ).as hP hS ls (lv_sub hl [6, 7, 5, 4, 3, 2, 1, 0] rfl)
  · have c4 := bI_0.mp c4
    refine lv_ldc (own := RX12) C.1 C.2.1 C.2.2.2.1 (C.2.2.2.2 _ tw_5_51) dX12_setting_10 ?_
    exact mw_iret C hr hlk Z hP hS dX12_setting_12 (⟨by unfold setF; rw [if_pos c4], (mFs.rf σ)⟩)

def sendP (z : zP) (st : Nat → Int32) (cu : Nat → Nat → Int32) (n : Nat) : Int32 × Int32 := csF (-1, allGain z st cu n) nI (fun p => allGain z st cu n - gainP z st (cu p)) n
def sendF (z : zP) (st : Nat → Int32) (cu : Nat → Nat → Int32) (n : Nat) (w : Int32) : Int32 := if ¬ (0 ≤ w.toInt ∧ w.toInt ≤ 1) then -100000000 else if w = 0 then (sendP z st cu n).1 else (sendP z st cu n).2
def loF (g : Nat → Int32) : Nat → Int32 → Int32
  | 0, f => f
  | c + 1, f => if 0 ≤ g (c + 1) then f else loF g c (nI (c + 1))
def lostF (z : zP) (st : Nat → Int32) (cu : Nat → Nat → Int32) (n : Nat) (v : Int32) : Int32 := if ¬ (0 ≤ v.toInt ∧ v.toInt < n) then -2 else loF (fun c => gainP z (upd st 0 (nI c)) (cu v.toNatClampNeg)) 40 (-1)

set_option maxHeartbeats 4000000 in
set_option maxRecDepth 100000 in
theorem cM_sendAway (l : Launch) (E : mw_E) (σ : mw_M) (z : zP) (n : Nat) (hn : σ.1 0 10 = nI n) (h8 : n ≤ 8) (hru : mRu σ z) (w : Int32) : mw_Ci shM 13 gM l yX12_sendAway cX12_sendAway 7 (some .int) (rmF 47 1041) E [.ref (mw_a E 0), .int w] σ (fun r u => r = sendF z (mSt σ) (mCu σ) n w ∧ mFs σ u) := by
  refine mw_of (by decide) gM_ok (Nat.le_of_ble_eq_true rfl) ?_
  intro p_ e_ s_ m_ below meth c_ C hr hlk Z hP ls hl
  have C : CallFix p_ m_ c_ cX12_sendAway 7 s_ _ lw_good RX12 := C
  have hl : lv_has ls 7 [(0, .ref (mw_a E 0)), (1, .int w)] := hl
  have hS : va_S (mw_A 13 E) s_.heap s_.heap [] := va_S.rf
  refine lv_iload_n C.1 C.2.1 dX12_sendAway_0 rfl (lv_at hl 1 rfl) ?_
  refine lv_i2l C.1 C.2.1 dX12_sendAway_1 rfl ?_
  refine lv_lconst (v := 0) C.1 C.2.1 dX12_sendAway_2 (by decide) ?_
  refine lv_lconst (v := 1) C.1 C.2.1 dX12_sendAway_3 (by decide) ?_
  refine mw_cSi (As := [.long (w.toInt64), .long (0), .long (1)]) (rest := []) C Z hP hS (cM_in l E σ (w.toInt64) 0 1 (0 ≤ w.toInt ∧ w.toInt ≤ 1) (by first | (simp only [nl_i]; exact Iff.rfl) | (simp only [nl_i]; decide) | simp [nl_i])) sb_X12_in tw_5_33 ⟨rfl, rfl⟩ ⟨Nat.le_of_ble_eq_true rfl, Nat.le_of_ble_eq_true rfl⟩ rfl hl.1 rfl (Nat.le_of_ble_eq_true rfl) dX12_sendAway_4 ⟨Nat.zero_le _, Nat.zero_le _⟩ (fun r1 u2 H locs q3 hP hS => ?_)
  obtain ⟨rfl, q3u⟩ := q3
  rw [q3u] at hP; clear q3u
  refine lv_if_ne (tgt := 13) C.1 C.2.1 dX12_sendAway_7 (by decide) (fun c4 => ?_) (fun c4 => ?_)
  · have c4 := bI_n.mp c4
    have hrg := c4
    refine lv_aload_n C.1 C.2.1 dX12_sendAway_13 rfl (lv_at hl 0 rfl) ?_
    refine mw_cVi (As := []) (rest := []) C Z hP hS (0) (cM_gainAll l E σ z n ((mFs.rf σ).many hn) h8 ((mFs.rf σ).ru hru)) vb_X12_gainAll tw_6_62 ⟨rfl, rfl⟩ ⟨Nat.le_of_ble_eq_true rfl, Nat.le_of_ble_eq_true rfl⟩ (by decide) rfl rfl rfl rfl hl.1 rfl (Nat.le_of_ble_eq_true rfl) dX12_sendAway_14 ⟨Nat.zero_le _, Nat.zero_le _⟩ (fun r5 u6 H locs q7 hP hS => ?_)
    obtain ⟨e9, f8⟩ := q7
    rw [show (fun p => gainP z (mSt (σ)) (mCu (σ) p)) = fun p => gainP z (mSt σ) (mCu σ p) from funext fun p => by rw [(mFs.rf σ).st, (mFs.rf σ).cu]] at e9
    subst e9
    refine mw_top (y := allGain z (mSt σ) (mCu σ) n) (rfl) ?_
    refine lv_istore_n (lv' := [(2, .int (allGain z (mSt σ) (mCu σ) n)), (0, .ref (mw_a E 0)), (1, .int w)]) C.1 C.2.1 dX12_sendAway_17 rfl hl (by decide) rfl (fun ls hl => ?_)
    refine lv_iconst (v := -1) C.1 C.2.1 dX12_sendAway_18 (by decide) ?_
    refine lv_istore_n (lv' := [(3, .int (-1)), (2, .int (allGain z (mSt σ) (mCu σ) n)), (0, .ref (mw_a E 0)), (1, .int w)]) C.1 C.2.1 dX12_sendAway_19 rfl hl (by decide) rfl (fun ls hl => ?_)
    refine lv_iload_n C.1 C.2.1 dX12_sendAway_20 rfl (lv_at hl 1 rfl) ?_
    refine lv_istore (lv' := [(4, .int (allGain z (mSt σ) (mCu σ) n)), (3, .int (-1)), (2, .int (allGain z (mSt σ) (mCu σ) n)), (0, .ref (mw_a E 0)), (1, .int w)]) C.1 C.2.1 dX12_sendAway_21 hl (by decide) rfl (fun ls hl => ?_)
    refine lv_iconst (v := 0) C.1 C.2.1 dX12_sendAway_23 (by decide) ?_
    refine lv_istore (lv' := [(5, .int 0), (4, .int (allGain z (mSt σ) (mCu σ) n)), (3, .int (-1)), (2, .int (allGain z (mSt σ) (mCu σ) n)), (0, .ref (mw_a E 0)), (1, .int w)]) C.1 C.2.1 dX12_sendAway_24 hl (by decide) rfl (fun ls hl => ?_)
    have lpa : ∀ (N : Nat) (j : Nat) (x : Int32) (y : Int32) (ςa : mw_M) (H : Heap) (locs : List Loc), n + 1 ≤ j + N → (j ≤ n) → ((x, y) = csF (-1, allGain z (mSt σ) (mCu σ) n) nI (fun p => allGain z (mSt σ) (mCu σ) n - gainP z (mSt σ) (mCu σ p)) j) → mFs σ ςa → va_P (mw_D E) vwCl (mw_ws shM 13 E ςa) H → va_S (mw_A 13 E) s_.heap H locs → ∀ (ls : Array Slot), lv_has ls 7 [(0, .ref (mw_a E 0)), (1, .int w), (2, .int (allGain z (mSt σ) (mCu σ) n)), (3, .int x), (4, .int y), (5, .int (nI j))] → mWi p_ l e_ (rmF 47 1041) s_ m_ [.ref (mw_a E 0), .int w] below meth c_ E (fun r u => r = sendF z (mSt σ) (mCu σ) n w ∧ mFs σ u) H locs (F0 m_ 26 ls []) := by
      intro N
      induction N with
      | zero => intros; exfalso; omega
      | succ N iha =>
        intro j x y ςa H locs hNa hj exy fra hP hS ls hl
        refine lv_iload C.1 C.2.1 dX12_sendAway_26 (lv_at hl 5 rfl) ?_
        refine lv_aload_n C.1 C.2.1 dX12_sendAway_28 rfl (lv_at hl 0 rfl) ?_
        refine mw_geti C Z hP (0) 10 (by decide) rfl rfl rfl (by decide) inX12 tw_4_174 dX12_sendAway_29 ?_
        refine mw_top (y := nI n) ((fra).many hn) ?_
        refine lv_icmp_ge (tgt := 65) C.1 C.2.1 dX12_sendAway_32 (by decide) (fun c10 => ?_) (fun c10 => ?_)
        · have c10 := (nI_leI (by omega) (by omega)).mp c10
          refine lv_iload_n C.1 C.2.1 dX12_sendAway_65 rfl (lv_at hl 1 rfl) ?_
          refine lv_if_ne (tgt := 73) C.1 C.2.1 dX12_sendAway_66 (by decide) (fun c11 => ?_) (fun c11 => ?_)
          · refine lv_iload C.1 C.2.1 dX12_sendAway_73 (lv_at hl 4 rfl) ?_
            have ej : j = n := by omega
            rw [ej] at exy
            exact mw_iret C hr hlk Z hP hS dX12_sendAway_75 (⟨by unfold sendF; rw [if_neg (Decidable.not_not.mpr hrg), if_neg c11]; unfold sendP; rw [← exy], fra⟩)
          · refine lv_iload_n C.1 C.2.1 dX12_sendAway_69 rfl (lv_at hl 3 rfl) ?_
            refine lv_goto (tgt := 75) C.1 C.2.1 dX12_sendAway_70 (by decide) ?_
            have ej : j = n := by omega
            rw [ej] at exy
            exact mw_iret C hr hlk Z hP hS dX12_sendAway_75 (⟨by unfold sendF; rw [if_neg (Decidable.not_not.mpr hrg), if_pos c11]; unfold sendP; rw [← exy], fra⟩)
        · have c10 : _ := (not_congr (nI_leI (by omega) (by omega))).mp c10
          refine lv_iload_n C.1 C.2.1 dX12_sendAway_35 rfl (lv_at hl 2 rfl) ?_
          refine lv_aload_n C.1 C.2.1 dX12_sendAway_36 rfl (lv_at hl 0 rfl) ?_
          refine lv_iload C.1 C.2.1 dX12_sendAway_37 (lv_at hl 5 rfl) ?_
          refine mw_cVi (As := [.int (nI j)]) (rest := [.int (allGain z (mSt σ) (mCu σ) n)]) C Z hP hS (0) (cM_gainOf l E ςa z j (by omega) (fra.ru hru)) vb_X12_gainOf tw_6_30 ⟨rfl, rfl⟩ ⟨Nat.le_of_ble_eq_true rfl, Nat.le_of_ble_eq_true rfl⟩ (by decide) rfl rfl rfl rfl hl.1 rfl (Nat.le_of_ble_eq_true rfl) dX12_sendAway_39 ⟨Nat.zero_le _, Nat.zero_le _⟩ (fun r12 u13 H locs q14 hP hS => ?_)
          obtain ⟨e16, f15⟩ := q14
          rw [fra.st, fra.cu] at e16
          subst e16
          refine lv_isub C.1 C.2.1 dX12_sendAway_42 ?_
          refine lv_istore (lv' := [(6, .int ((allGain z (mSt σ) (mCu σ) n) - (gainP z (mSt σ) (mCu σ j)))), (0, .ref (mw_a E 0)), (1, .int w), (2, .int (allGain z (mSt σ) (mCu σ) n)), (3, .int x), (4, .int y), (5, .int (nI j))]) C.1 C.2.1 dX12_sendAway_43 hl (by decide) rfl (fun ls hl => ?_)
          refine lv_iload C.1 C.2.1 dX12_sendAway_45 (lv_at hl 0 rfl) ?_
          refine lv_iload C.1 C.2.1 dX12_sendAway_47 (lv_at hl 5 rfl) ?_
          refine lv_icmp_le (tgt := 59) C.1 C.2.1 dX12_sendAway_49 (by decide) (fun c17 => ?_) (fun c17 => ?_)
          · refine lv_iinc (v := nI (j + 1)) (lv' := [(5, .int (nI (j + 1))), (6, .int ((allGain z (mSt σ) (mCu σ) n) - (gainP z (mSt σ) (mCu σ j)))), (0, .ref (mw_a E 0)), (1, .int w), (2, .int (allGain z (mSt σ) (mCu σ) n)), (3, .int x), (4, .int y)]) C.1 C.2.1 dX12_sendAway_59 hl (k := 6) rfl (nI_1 _) (by decide) rfl (fun ls hl => ?_)
            refine lv_goto (tgt := 26) C.1 C.2.1 dX12_sendAway_62 (by decide) ?_
            exact iha (j + 1) x y u13 _ _ (by omega) (by omega) (by show _ = stC (csF (-1, allGain z (mSt σ) (mCu σ) n) nI (fun p => allGain z (mSt σ) (mCu σ) n - gainP z (mSt σ) (mCu σ p)) j) _ _; rw [← exy]; unfold stC; exact (if_neg (Int32.not_lt.mpr c17)).symm) (fra.tr f15) hP hS ls (lv_sub hl [2, 3, 4, 5, 6, 0] rfl)
          · refine lv_iload C.1 C.2.1 dX12_sendAway_52 (lv_at hl 6 rfl) ?_
            refine lv_istore_n (lv' := [(3, .int (nI j)), (6, .int ((allGain z (mSt σ) (mCu σ) n) - (gainP z (mSt σ) (mCu σ j)))), (0, .ref (mw_a E 0)), (1, .int w), (2, .int (allGain z (mSt σ) (mCu σ) n)), (4, .int y), (5, .int (nI j))]) C.1 C.2.1 dX12_sendAway_54 rfl hl (by decide) rfl (fun ls hl => ?_)
            refine lv_iload C.1 C.2.1 dX12_sendAway_55 (lv_at hl 1 rfl) ?_
            refine lv_istore (lv' := [(4, .int ((allGain z (mSt σ) (mCu σ) n) - (gainP z (mSt σ) (mCu σ j)))), (3, .int (nI j)), (6, .int ((allGain z (mSt σ) (mCu σ) n) - (gainP z (mSt σ) (mCu σ j)))), (0, .ref (mw_a E 0)), (1, .int w), (2, .int (allGain z (mSt σ) (mCu σ) n)), (5, .int (nI j))]) C.1 C.2.1 dX12_sendAway_57 hl (by decide) rfl (fun ls hl => ?_)
            refine lv_iinc (v := nI (j + 1)) (lv' := [(5, .int (nI (j + 1))), (4, .int ((allGain z (mSt σ) (mCu σ) n) - (gainP z (mSt σ) (mCu σ j)))), (3, .int (nI j)), (6, .int ((allGain z (mSt σ) (mCu σ) n) - (gainP z (mSt σ) (mCu σ j)))), (0, .ref (mw_a E 0)), (1, .int w), (2, .int (allGain z (mSt σ) (mCu σ) n))]) C.1 C.2.1 dX12_sendAway_59 hl (k := 6) rfl (nI_1 _) (by decide) rfl (fun ls hl => ?_)
            refine lv_goto (tgt := 26) C.1 C.2.1 dX12_sendAway_62 (by decide) ?_
            exact iha (j + 1) (nI j) ((allGain z (mSt σ) (mCu σ) n) - (gainP z (mSt σ) (mCu σ j))) u13 _ _ (by omega) (by omega) (by show _ = stC (csF (-1, allGain z (mSt σ) (mCu σ) n) nI (fun p => allGain z (mSt σ) (mCu σ) n - gainP z (mSt σ) (mCu σ p)) j) _ _; rw [← exy]; unfold stC; exact (if_pos (Int32.not_le.mp c17)).symm) (fra.tr f15) hP hS ls (lv_sub hl [4, 5, 6, 2, 1, 0] rfl)
    exact lpa (n + 1) 0 (-1) (allGain z (mSt σ) (mCu σ) n) u6 _ _ (by omega) (by omega) (rfl) ((mFs.rf σ).tr f8) hP hS ls (lv_sub hl [4, 5, 3, 2, 1, 0] rfl)
  · have c4 := bI_0.mp c4
    refine lv_ldc (own := RX12) C.1 C.2.1 C.2.2.2.1 (C.2.2.2.2 _ tw_5_51) dX12_sendAway_10 ?_
    exact mw_iret C hr hlk Z hP hS dX12_sendAway_12 (⟨by unfold sendF; rw [if_pos c4], (mFs.rf σ)⟩)

set_option maxHeartbeats 4000000 in
set_option maxRecDepth 100000 in
theorem cM_lost (l : Launch) (E : mw_E) (σ : mw_M) (z : zP) (n : Nat) (hn : σ.1 0 10 = nI n) (h8 : n ≤ 8) (hru : mRu σ z) (vv : Int32) : mw_Ci shM 13 gM l yX12_lost cX12_lost 5 (some .int) (rmF 46 1019) E [.ref (mw_a E 0), .int vv] σ (fun r u => r = lostF z (mSt σ) (mCu σ) n vv ∧ mFs σ u) := by
  refine mw_of (by decide) gM_ok (Nat.le_of_ble_eq_true rfl) ?_
  intro p_ e_ s_ m_ below meth c_ C hr hlk Z hP ls hl
  have C : CallFix p_ m_ c_ cX12_lost 5 s_ _ lw_good RX12 := C
  have hl : lv_has ls 5 [(0, .ref (mw_a E 0)), (1, .int vv)] := hl
  have hS : va_S (mw_A 13 E) s_.heap s_.heap [] := va_S.rf
  refine lv_aload_n C.1 C.2.1 dX12_lost_0 rfl (lv_at hl 0 rfl) ?_
  refine lv_iload_n C.1 C.2.1 dX12_lost_1 rfl (lv_at hl 1 rfl) ?_
  refine mw_cVi (As := [.int vv]) (rest := []) C Z hP hS (0) (cM_isOne l E σ vv n hn h8) vb_X12_isOne tw_5_36 ⟨rfl, rfl⟩ ⟨Nat.le_of_ble_eq_true rfl, Nat.le_of_ble_eq_true rfl⟩ (by decide) rfl rfl rfl rfl hl.1 rfl (Nat.le_of_ble_eq_true rfl) dX12_lost_2 ⟨Nat.zero_le _, Nat.zero_le _⟩ (fun r1 u2 H locs q3 hP hS => ?_)
  obtain ⟨rfl, q3u⟩ := q3
  rw [q3u] at hP; clear q3u
  refine lv_if_ne (tgt := 11) C.1 C.2.1 dX12_lost_5 (by decide) (fun c4 => ?_) (fun c4 => ?_)
  · have c4 := bI_n.mp c4
    have hrg := c4
    obtain ⟨q, hq, eq⟩ := nI_ofI (k := 7) hrg.1 (by omega)
    subst eq
    refine lv_aload_n C.1 C.2.1 dX12_lost_11 rfl (lv_at hl 0 rfl) ?_
    refine mw_getr C Z hP (0) 7 (4) (by decide) rfl rfl rfl (by decide) inX12 tw_4_171 dX12_lost_12 ?_
    refine lv_iconst (v := 0) C.1 C.2.1 dX12_lost_15 (by decide) ?_
    refine mw_iald C Z hP (4) (0) (by decide) rfl (Nat.lt_of_lt_of_le (by decide : 5 < 961) (Nat.le_of_ble_eq_true rfl)) rfl (by decide) dX12_lost_16 ?_
    refine mw_top (y := mSt σ 0) (rfl) ?_
    refine lv_istore_n (lv' := [(2, .int (mSt σ 0)), (0, .ref (mw_a E 0)), (1, .int (nI q))]) C.1 C.2.1 dX12_lost_17 rfl hl (by decide) rfl (fun ls hl => ?_)
    refine lv_iconst (v := -1) C.1 C.2.1 dX12_lost_18 (by decide) ?_
    refine lv_istore_n (lv' := [(3, .int (-1)), (2, .int (mSt σ 0)), (0, .ref (mw_a E 0)), (1, .int (nI q))]) C.1 C.2.1 dX12_lost_19 rfl hl (by decide) rfl (fun ls hl => ?_)
    refine lv_bipush (v := 40) C.1 C.2.1 dX12_lost_20 (by decide) ?_
    refine lv_istore (lv' := [(4, .int 40), (3, .int (-1)), (2, .int (mSt σ 0)), (0, .ref (mw_a E 0)), (1, .int (nI q))]) C.1 C.2.1 dX12_lost_22 hl (by decide) rfl (fun ls hl => ?_)
    have lpa : ∀ (N : Nat) (j : Nat) (x : Int32) (s' : Nat → Int32) (ςa : mw_M) (H : Heap) (locs : List Loc), j + 1 ≤ N → (j ≤ 40) → (loF (fun c => gainP z (upd (mSt σ) 0 (nI c)) (mCu σ q)) 40 (-1) = loF (fun c => gainP z (upd (mSt σ) 0 (nI c)) (mCu σ q)) j x) → (∀ v, upd s' 0 v = upd (mSt σ) 0 v) → mAs σ s' ςa → va_P (mw_D E) vwCl (mw_ws shM 13 E ςa) H → va_S (mw_A 13 E) s_.heap H locs → ∀ (ls : Array Slot), lv_has ls 5 [(0, .ref (mw_a E 0)), (1, .int (nI q)), (2, .int (mSt σ 0)), (3, .int x), (4, .int (nI j))] → mWi p_ l e_ (rmF 46 1019) s_ m_ [.ref (mw_a E 0), .int (nI q)] below meth c_ E (fun r u => r = lostF z (mSt σ) (mCu σ) n (nI q) ∧ mFs σ u) H locs (F0 m_ 24 ls []) := by
      intro N
      induction N with
      | zero => intros; exfalso; omega
      | succ N iha =>
        intro j x s' ςa H locs hNa hj ex hs fra hP hS ls hl
        refine lv_iload C.1 C.2.1 dX12_lost_24 (lv_at hl 4 rfl) ?_
        refine lv_if_le (tgt := 57) C.1 C.2.1 dX12_lost_26 (by decide) (fun c5 => ?_) (fun c5 => ?_)
        · have c5 : j ≤ 0 := (nI_leI (b := 0) (by omega) (by decide)).mp c5
          refine lv_aload_n C.1 C.2.1 dX12_lost_57 rfl (lv_at hl 0 rfl) ?_
          refine mw_getr C Z hP (0) 7 (4) (by decide) rfl rfl rfl (by decide) inX12 tw_4_171 dX12_lost_58 ?_
          refine lv_iconst (v := 0) C.1 C.2.1 dX12_lost_61 (by decide) ?_
          refine lv_iload_n C.1 C.2.1 dX12_lost_62 rfl (lv_at hl 2 rfl) ?_
          refine mw_iast C Z hP hS (4) (0) (by decide) rfl (Nat.lt_of_lt_of_le (by decide : 5 < 961) (Nat.le_of_ble_eq_true rfl)) rfl (by decide) dX12_lost_63 (fun H locs hP hS => ?_)
          refine lv_iload_n C.1 C.2.1 dX12_lost_64 rfl (lv_at hl 3 rfl) ?_
          exact mw_iret C hr hlk Z hP hS dX12_lost_65 (⟨by unfold lostF; rw [if_neg (Decidable.not_not.mpr hrg), nI_clamp (by omega), ex, show j = 0 by omega]; rfl, ((fra.sa 0 (mSt σ 0))).fs (by first | (rw [upd_upd, hs]; exact upd_self _ _) | (rw [hs]; exact upd_self _ _))⟩)
        · have c5 : ¬ j ≤ 0 := (not_congr (nI_leI (b := 0) (by omega) (by decide))).mp c5
          obtain ⟨j0, rfl⟩ : ∃ j0, j = j0 + 1 := ⟨j - 1, by omega⟩
          refine lv_aload_n C.1 C.2.1 dX12_lost_29 rfl (lv_at hl 0 rfl) ?_
          refine mw_getr C Z hP (0) 7 (4) (by decide) rfl rfl rfl (by decide) inX12 tw_4_171 dX12_lost_30 ?_
          refine lv_iconst (v := 0) C.1 C.2.1 dX12_lost_33 (by decide) ?_
          refine lv_iload C.1 C.2.1 dX12_lost_34 (lv_at hl 4 rfl) ?_
          refine mw_iast C Z hP hS (4) (0) (by decide) rfl (Nat.lt_of_lt_of_le (by decide : 5 < 961) (Nat.le_of_ble_eq_true rfl)) rfl (by decide) dX12_lost_36 (fun H locs hP hS => ?_)
          refine lv_aload_n C.1 C.2.1 dX12_lost_37 rfl (lv_at hl 0 rfl) ?_
          refine lv_iload_n C.1 C.2.1 dX12_lost_38 rfl (lv_at hl 1 rfl) ?_
          refine mw_cVi (As := [.int (nI q)]) (rest := []) C Z hP hS (0) (cM_gainOf l E (mw_sa ςa 4 0 (nI (j0 + 1))) z q (by omega) ((fra.sa 0 (nI (j0 + 1))).ru hru)) vb_X12_gainOf tw_6_30 ⟨rfl, rfl⟩ ⟨Nat.le_of_ble_eq_true rfl, Nat.le_of_ble_eq_true rfl⟩ (by decide) rfl rfl rfl rfl hl.1 rfl (Nat.le_of_ble_eq_true rfl) dX12_lost_39 ⟨Nat.zero_le _, Nat.zero_le _⟩ (fun r6 u7 H locs q8 hP hS => ?_)
          obtain ⟨e10, f9⟩ := q8
          rw [(fra.sa 0 (nI (j0 + 1))).st, (fra.sa 0 (nI (j0 + 1))).cu, hs] at e10
          subst e10
          refine lv_if_lt (tgt := 48) C.1 C.2.1 dX12_lost_42 (by decide) (fun c11 => ?_) (fun c11 => ?_)
          · refine lv_iload C.1 C.2.1 dX12_lost_48 (lv_at hl 4 rfl) ?_
            refine lv_istore_n (lv' := [(3, .int (nI (j0 + 1))), (0, .ref (mw_a E 0)), (1, .int (nI q)), (2, .int (mSt σ 0)), (4, .int (nI (j0 + 1)))]) C.1 C.2.1 dX12_lost_50 rfl hl (by decide) rfl (fun ls hl => ?_)
            refine lv_iinc (v := nI j0) (lv' := [(4, .int (nI j0)), (3, .int (nI (j0 + 1))), (0, .ref (mw_a E 0)), (1, .int (nI q)), (2, .int (mSt σ 0))]) C.1 C.2.1 dX12_lost_51 hl (k := 4) rfl (pk_m1 _) (by decide) rfl (fun ls hl => ?_)
            refine lv_goto (tgt := 24) C.1 C.2.1 dX12_lost_54 (by decide) ?_
            exact iha j0 (nI (j0 + 1)) (upd (s') 0 (nI (j0 + 1))) u7 _ _ (by omega) (by omega) (by rw [ex]; show (if 0 ≤ _ then _ else _) = _; rw [if_neg (Int32.not_le.mpr c11)]) (fun v => by rw [upd_upd]; exact hs v) ((fra.sa 0 (nI (j0 + 1))).tr f9) hP hS ls (lv_sub hl [2, 3, 4, 1, 0] rfl)
          · refine lv_goto (tgt := 57) C.1 C.2.1 dX12_lost_45 (by decide) ?_
            refine lv_aload_n C.1 C.2.1 dX12_lost_57 rfl (lv_at hl 0 rfl) ?_
            refine mw_getr C Z hP (0) 7 (4) (by decide) rfl rfl rfl (by decide) inX12 tw_4_171 dX12_lost_58 ?_
            refine lv_iconst (v := 0) C.1 C.2.1 dX12_lost_61 (by decide) ?_
            refine lv_iload_n C.1 C.2.1 dX12_lost_62 rfl (lv_at hl 2 rfl) ?_
            refine mw_iast C Z hP hS (4) (0) (by decide) rfl (Nat.lt_of_lt_of_le (by decide : 5 < 961) (Nat.le_of_ble_eq_true rfl)) rfl (by decide) dX12_lost_63 (fun H locs hP hS => ?_)
            refine lv_iload_n C.1 C.2.1 dX12_lost_64 rfl (lv_at hl 3 rfl) ?_
            exact mw_iret C hr hlk Z hP hS dX12_lost_65 (⟨by unfold lostF; rw [if_neg (Decidable.not_not.mpr hrg), nI_clamp (by omega), ex]; show _ = (if 0 ≤ _ then _ else _); rw [if_pos (Int32.not_lt.mp c11)], ((((fra.sa 0 (nI (j0 + 1))).tr f9).sa 0 (mSt σ 0))).fs (by first | (rw [upd_upd, hs]; exact upd_self _ _) | (rw [hs]; exact upd_self _ _))⟩)
    exact lpa (41) 40 (-1) (mSt σ) σ _ _ (by omega) (by omega) (rfl) (fun v => rfl) (mFs.rf σ).as hP hS ls (lv_sub hl [3, 4, 2, 1, 0] rfl)
  · have c4 := bI_0.mp c4
    refine lv_bipush (v := -2) C.1 C.2.1 dX12_lost_8 (by decide) ?_
    exact mw_iret C hr hlk Z hP hS dX12_lost_10 (⟨by unfold lostF; rw [if_pos c4], (mFs.rf σ)⟩)
