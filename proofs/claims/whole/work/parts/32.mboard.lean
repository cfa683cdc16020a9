/-! THE REFERENCE: BOARD, HOUR, FRACTIONS -/
theorem sumP_0 {f : Nat → Int32} {n : Nat} (h : f n = 0) : sumP f n = sumP f (n + 1) := by show _ = sumP f n + f n; rw [h, Int32.add_zero]
theorem orP_0 {f : Nat → Int32} {n : Nat} (h : f n = 0) : orP f n = orP f (n + 1) := by show _ = orP f n ||| f n; rw [h, Int32.or_zero]
def bd1 (z : zP) (st : Nat → Int32) (cu : Nat → Nat → Int32) (p : Nat) : Int32 := if thereP st (cu p) then eatsP z st (cu p) else 0
def bd2 (z : zP) (st : Nat → Int32) (cu : Nat → Nat → Int32) (p : Nat) : Int32 := costP z st (cu p)
def bd3 (z : zP) (st : Nat → Int32) (cu : Nat → Nat → Int32) (p : Nat) : Int32 := if thereP st (cu p) then bI (0 < eatsP z st (cu p) ∧ triesP z st (cu p) = 0) <<< (nI p &&& 31) else 0
def bd5 (st : Nat → Int32) (cu : Nat → Nat → Int32) (p : Nat) : Int32 := if thereP st (cu p) then 1 <<< (nI p &&& 31) else 0
def allGain (z : zP) (st : Nat → Int32) (cu : Nat → Nat → Int32) (n : Nat) : Int32 := sumP (fun p => gainP z st (cu p)) n
def crowdF (z : zP) (st : Nat → Int32) (cu : Nat → Nat → Int32) (n : Nat) : Int32 := (csF (-1, 0) nI (fun h => eatenF z st cu n (nI h)) 10).1
def boardF (z : zP) (st : Nat → Int32) (cu : Nat → Nat → Int32) (n : Nat) (w : Int32) : Int32 := if ¬ (0 ≤ w.toInt ∧ w.toInt ≤ 5) then -100000000 else if w = 0 then allGain z st cu n else if w = 4 then crowdF z st cu n else if w = 1 then sumP (bd1 z st cu) n else if w = 2 then sumP (bd2 z st cu) n else if w = 3 then orP (bd3 z st cu) n else orP (bd5 st cu) n
def hour1 (st : Nat → Int32) (cu : Nat → Nat → Int32) (h : Int32) (p : Nat) : Int32 := bI (thereP st (cu p) ∧ cu p 2 = h) <<< (nI p &&& 31)
def hourF (z : zP) (st : Nat → Int32) (cu : Nat → Nat → Int32) (n : Nat) (h w : Int32) : Int32 := if ¬ (0 ≤ h.toInt ∧ h.toInt ≤ 9) ∨ ¬ (0 ≤ w.toInt ∧ w.toInt ≤ 1) then -2 else if w = 0 then eatenF z st cu n h else orP (hour1 st cu h) n

set_option maxHeartbeats 4000000 in
set_option maxRecDepth 100000 in
theorem cM_board (l : Launch) (E : mw_E) (σ : mw_M) (z : zP) (n : Nat) (hn : σ.1 0 10 = nI n) (h8 : n ≤ 8) (hru : mRu σ z) (w : Int32) : mw_Ci shM 13 gM l yX12_board cX12_board 7 (some .int) (rmF 47 1041) E [.ref (mw_a E 0), .int w] σ (fun r u => r = boardF z (mSt σ) (mCu σ) n w ∧ mFs σ u) := by
  refine mw_of (by decide) gM_ok (Nat.le_of_ble_eq_true rfl) ?_
  intro p_ e_ s_ m_ below meth c_ C hr hlk Z hP ls hl
  have C : CallFix p_ m_ c_ cX12_board 7 s_ _ lw_good RX12 := C
  have hl : lv_has ls 7 [(0, .ref (mw_a E 0)), (1, .int w)] := hl
  have hS : va_S (mw_A 13 E) s_.heap s_.heap [] := va_S.rf
  refine lv_iload_n C.1 C.2.1 dX12_board_0 rfl (lv_at hl 1 rfl) ?_
  refine lv_i2l C.1 C.2.1 dX12_board_1 rfl ?_
  refine lv_lconst (v := 0) C.1 C.2.1 dX12_board_2 (by decide) ?_
  refine lv_ldc2 (own := RX12) C.1 C.2.1 C.2.2.2.1 (C.2.2.2.2 _ tw_6_42) dX12_board_3 ?_
  refine mw_cSi (As := [.long (w.toInt64), .long (0), .long (5)]) (rest := []) C Z hP hS (cM_in l E σ (w.toInt64) 0 5 (0 ≤ w.toInt ∧ w.toInt ≤ 5) (by first | (simp only [nl_i]; exact Iff.rfl) | (simp only [nl_i]; decide) | simp [nl_i])) sb_X12_in tw_5_33 ⟨rfl, rfl⟩ ⟨Nat.le_of_ble_eq_true rfl, Nat.le_of_ble_eq_true rfl⟩ rfl hl.1 rfl (Nat.le_of_ble_eq_true rfl) dX12_board_6 ⟨Nat.zero_le _, Nat.zero_le _⟩ (fun r1 u2 H locs q3 hP hS => ?_)
  obtain ⟨rfl, q3u⟩ := q3
  rw [q3u] at hP; clear q3u
  refine lv_if_ne (tgt := 15) C.1 C.2.1 dX12_board_9 (by decide) (fun c4 => ?_) (fun c4 => ?_)
  · have c4 := bI_n.mp c4
    have hrg := c4
    refine lv_iload_n C.1 C.2.1 dX12_board_15 rfl (lv_at hl 1 rfl) ?_
    refine lv_if_eq (tgt := 24) C.1 C.2.1 dX12_board_16 (by decide) (fun c5 => ?_) (fun c5 => ?_)
    · refine lv_iload_n C.1 C.2.1 dX12_board_24 rfl (lv_at hl 1 rfl) ?_
      refine lv_if_ne (tgt := 35) C.1 C.2.1 dX12_board_25 (by decide) (fun c6 => ?_) (fun c6 => ?_)
      · refine lv_aload_n C.1 C.2.1 dX12_board_35 rfl (lv_at hl 0 rfl) ?_
        refine mw_cVi (As := []) (rest := []) C Z hP hS (0) (cM_crowd l E σ z n ((mFs.rf σ).many hn) h8 ((mFs.rf σ).ru hru)) vb_X12_crowd tw_6_66 ⟨rfl, rfl⟩ ⟨Nat.le_of_ble_eq_true rfl, Nat.le_of_ble_eq_true rfl⟩ (by decide) rfl rfl rfl rfl hl.1 rfl (Nat.le_of_ble_eq_true rfl) dX12_board_36 ⟨Nat.zero_le _, Nat.zero_le _⟩ (fun r7 u8 H locs q9 hP hS => ?_)
        obtain ⟨e11, f10⟩ := q9
        rw [(mFs.rf σ).st, show mCu (σ) = mCu σ from funext fun p => (mFs.rf σ).cu p] at e11
        subst e11
        exact mw_iret C hr hlk Z hP hS dX12_board_39 (⟨by unfold boardF; rw [if_neg (Decidable.not_not.mpr hrg)]; first | (simp [allGain, crowdF, c5, c6]; done) | (exfalso; simp_all; done), ((mFs.rf σ).tr f10)⟩)
      · refine lv_aload_n C.1 C.2.1 dX12_board_28 rfl (lv_at hl 0 rfl) ?_
        refine mw_cVi (As := []) (rest := []) C Z hP hS (0) (cM_gainAll l E σ z n ((mFs.rf σ).many hn) h8 ((mFs.rf σ).ru hru)) vb_X12_gainAll tw_6_62 ⟨rfl, rfl⟩ ⟨Nat.le_of_ble_eq_true rfl, Nat.le_of_ble_eq_true rfl⟩ (by decide) rfl rfl rfl rfl hl.1 rfl (Nat.le_of_ble_eq_true rfl) dX12_board_29 ⟨Nat.zero_le _, Nat.zero_le _⟩ (fun r12 u13 H locs q14 hP hS => ?_)
        obtain ⟨e16, f15⟩ := q14
        rw [show (fun p => gainP z (mSt (σ)) (mCu (σ) p)) = fun p => gainP z (mSt σ) (mCu σ p) from funext fun p => by rw [(mFs.rf σ).st, (mFs.rf σ).cu]] at e16
        subst e16
        refine lv_goto (tgt := 39) C.1 C.2.1 dX12_board_32 (by decide) ?_
        exact mw_iret C hr hlk Z hP hS dX12_board_39 (⟨by unfold boardF; rw [if_neg (Decidable.not_not.mpr hrg)]; first | (simp [allGain, crowdF, c5, c6]; done) | (exfalso; simp_all; done), ((mFs.rf σ).tr f15)⟩)
    · have hw0 := c5
      refine lv_iload_n C.1 C.2.1 dX12_board_19 rfl (lv_at hl 1 rfl) ?_
      refine lv_iconst (v := 4) C.1 C.2.1 dX12_board_20 (by decide) ?_
      refine lv_icmp_ne (tgt := 40) C.1 C.2.1 dX12_board_21 (by decide) (fun c17 => ?_) (fun c17 => ?_)
      · have hw4 := c17
        refine lv_iconst (v := 0) C.1 C.2.1 dX12_board_40 (by decide) ?_
        refine lv_istore_n (lv' := [(2, .int 0), (0, .ref (mw_a E 0)), (1, .int w)]) C.1 C.2.1 dX12_board_41 rfl hl (by decide) rfl (fun ls hl => ?_)
        refine lv_iconst (v := 0) C.1 C.2.1 dX12_board_42 (by decide) ?_
        refine lv_istore_n (lv' := [(3, .int 0), (2, .int 0), (0, .ref (mw_a E 0)), (1, .int w)]) C.1 C.2.1 dX12_board_43 rfl hl (by decide) rfl (fun ls hl => ?_)
        refine lv_iconst (v := 0) C.1 C.2.1 dX12_board_44 (by decide) ?_
        refine lv_istore (lv' := [(4, .int 0), (3, .int 0), (2, .int 0), (0, .ref (mw_a E 0)), (1, .int w)]) C.1 C.2.1 dX12_board_45 hl (by decide) rfl (fun ls hl => ?_)
        refine lv_iconst (v := 0) C.1 C.2.1 dX12_board_47 (by decide) ?_
        refine lv_istore (lv' := [(5, .int 0), (4, .int 0), (3, .int 0), (2, .int 0), (0, .ref (mw_a E 0)), (1, .int w)]) C.1 C.2.1 dX12_board_48 hl (by decide) rfl (fun ls hl => ?_)
        refine lv_iconst (v := 0) C.1 C.2.1 dX12_board_50 (by decide) ?_
        refine lv_istore (lv' := [(6, .int 0), (5, .int 0), (4, .int 0), (3, .int 0), (2, .int 0), (0, .ref (mw_a E 0)), (1, .int w)]) C.1 C.2.1 dX12_board_51 hl (by decide) rfl (fun ls hl => ?_)
        have lpa : ∀ (N : Nat) (j : Nat) (x1 : Int32) (x2 : Int32) (x3 : Int32) (x4 : Int32) (ςa : mw_M) (H : Heap) (locs : List Loc), n + 1 ≤ j + N → (j ≤ n) → (x1 = sumP (bd1 z (mSt σ) (mCu σ)) j) → (x2 = sumP (bd2 z (mSt σ) (mCu σ)) j) → (x3 = orP (bd3 z (mSt σ) (mCu σ)) j) → (x4 = orP (bd5 (mSt σ) (mCu σ)) j) → mFs σ ςa → va_P (mw_D E) vwCl (mw_ws shM 13 E ςa) H → va_S (mw_A 13 E) s_.heap H locs → ∀ (ls : Array Slot), lv_has ls 7 [(0, .ref (mw_a E 0)), (1, .int w), (2, .int x1), (3, .int x2), (4, .int x3), (5, .int x4), (6, .int (nI j))] → mWi p_ l e_ (rmF 47 1041) s_ m_ [.ref (mw_a E 0), .int w] below meth c_ E (fun r u => r = boardF z (mSt σ) (mCu σ) n w ∧ mFs σ u) H locs (F0 m_ 53 ls []) := by
          intro N
          induction N with
          | zero => intros; exfalso; omega
          | succ N iha =>
            intro j x1 x2 x3 x4 ςa H locs hNa hj e1 e2 e3 e4 fra hP hS ls hl
            refine lv_iload C.1 C.2.1 dX12_board_53 (lv_at hl 6 rfl) ?_
            refine lv_aload_n C.1 C.2.1 dX12_board_55 rfl (lv_at hl 0 rfl) ?_
            refine mw_geti C Z hP (0) 10 (by decide) rfl rfl rfl (by decide) inX12 tw_4_174 dX12_board_56 ?_
            refine mw_top (y := nI n) ((fra).many hn) ?_
            refine lv_icmp_ge (tgt := 135) C.1 C.2.1 dX12_board_59 (by decide) (fun c18 => ?_) (fun c18 => ?_)
            · have c18 := (nI_leI (by omega) (by omega)).mp c18
              refine lv_iload_n C.1 C.2.1 dX12_board_135 rfl (lv_at hl 1 rfl) ?_
              refine lv_iconst (v := 1) C.1 C.2.1 dX12_board_136 (by decide) ?_
              refine lv_icmp_ne (tgt := 144) C.1 C.2.1 dX12_board_137 (by decide) (fun c19 => ?_) (fun c19 => ?_)
              · refine lv_iload_n C.1 C.2.1 dX12_board_144 rfl (lv_at hl 1 rfl) ?_
                refine lv_iconst (v := 2) C.1 C.2.1 dX12_board_145 (by decide) ?_
                refine lv_icmp_ne (tgt := 153) C.1 C.2.1 dX12_board_146 (by decide) (fun c20 => ?_) (fun c20 => ?_)
                · refine lv_iload_n C.1 C.2.1 dX12_board_153 rfl (lv_at hl 1 rfl) ?_
                  refine lv_iconst (v := 3) C.1 C.2.1 dX12_board_154 (by decide) ?_
                  refine lv_icmp_ne (tgt := 163) C.1 C.2.1 dX12_board_155 (by decide) (fun c21 => ?_) (fun c21 => ?_)
                  · refine lv_iload C.1 C.2.1 dX12_board_163 (lv_at hl 5 rfl) ?_
                    have ej : j = n := by omega
                    exact mw_iret C hr hlk Z hP hS dX12_board_165 (⟨by unfold boardF; rw [if_neg (Decidable.not_not.mpr hrg)]; rw [ej] at e1 e2 e3 e4; rw [if_neg hw0, if_neg hw4]; simp [c19, c20, c21, e1, e2, e3, e4], fra⟩)
                  · refine lv_iload C.1 C.2.1 dX12_board_158 (lv_at hl 4 rfl) ?_
                    refine lv_goto (tgt := 165) C.1 C.2.1 dX12_board_160 (by decide) ?_
                    have ej : j = n := by omega
                    exact mw_iret C hr hlk Z hP hS dX12_board_165 (⟨by unfold boardF; rw [if_neg (Decidable.not_not.mpr hrg)]; rw [ej] at e1 e2 e3 e4; rw [if_neg hw0, if_neg hw4]; simp [c19, c20, c21, e1, e2, e3, e4], fra⟩)
                · refine lv_iload_n C.1 C.2.1 dX12_board_149 rfl (lv_at hl 3 rfl) ?_
                  refine lv_goto (tgt := 165) C.1 C.2.1 dX12_board_150 (by decide) ?_
                  have ej : j = n := by omega
                  exact mw_iret C hr hlk Z hP hS dX12_board_165 (⟨by unfold boardF; rw [if_neg (Decidable.not_not.mpr hrg)]; rw [ej] at e1 e2 e3 e4; rw [if_neg hw0, if_neg hw4]; simp [c19, c20, e1, e2, e3, e4], fra⟩)
              · refine lv_iload_n C.1 C.2.1 dX12_board_140 rfl (lv_at hl 2 rfl) ?_
                refine lv_goto (tgt := 165) C.1 C.2.1 dX12_board_141 (by decide) ?_
                have ej : j = n := by omega
                exact mw_iret C hr hlk Z hP hS dX12_board_165 (⟨by unfold boardF; rw [if_neg (Decidable.not_not.mpr hrg)]; rw [ej] at e1 e2 e3 e4; rw [if_neg hw0, if_neg hw4]; simp [c19, e1, e2, e3, e4], fra⟩)
            · have c18 : _ := (not_congr (nI_leI (by omega) (by omega))).mp c18
              refine lv_aload_n C.1 C.2.1 dX12_board_62 rfl (lv_at hl 0 rfl) ?_
              refine lv_iload C.1 C.2.1 dX12_board_63 (lv_at hl 6 rfl) ?_
              refine mw_cVi (As := [.int (nI j)]) (rest := []) C Z hP hS (0) (cM_isThereNow l E ςa j (by omega)) vb_X12_isThereNow tw_6_22 ⟨rfl, rfl⟩ ⟨Nat.le_of_ble_eq_true rfl, Nat.le_of_ble_eq_true rfl⟩ (by decide) rfl rfl rfl rfl hl.1 rfl (Nat.le_of_ble_eq_true rfl) dX12_board_65 ⟨Nat.zero_le _, Nat.zero_le _⟩ (fun r22 u23 H locs q24 hP hS => ?_)
              obtain ⟨e26, f25⟩ := q24
              rw [fra.st, fra.cu] at e26
              subst e26
              refine lv_if_eq (tgt := 129) C.1 C.2.1 dX12_board_68 (by decide) (fun c27 => ?_) (fun c27 => ?_)
              · have c27 := bI_0.mp c27
                refine lv_iinc (v := nI (j + 1)) (lv' := [(6, .int (nI (j + 1))), (0, .ref (mw_a E 0)), (1, .int w), (2, .int x1), (3, .int x2), (4, .int x3), (5, .int x4)]) C.1 C.2.1 dX12_board_129 hl (k := 6) rfl (nI_1 _) (by decide) rfl (fun ls hl => ?_)
                refine lv_goto (tgt := 53) C.1 C.2.1 dX12_board_132 (by decide) ?_
                exact iha (j + 1) x1 x2 x3 x4 u23 _ _ (by omega) (by omega) (by rw [e1]; exact sumP_0 (if_neg c27)) (by rw [e2]; exact sumP_0 (by unfold bd2 costP; exact if_neg c27)) (by rw [e3]; exact orP_0 (if_neg c27)) (by rw [e4]; exact orP_0 (if_neg c27)) (fra.tr f25) hP hS ls (lv_sub hl [1, 2, 3, 4, 5, 6, 0] rfl)
              · have c27 := bI_n.mp c27
                refine lv_iload_n C.1 C.2.1 dX12_board_71 rfl (lv_at hl 2 rfl) ?_
                refine lv_aload_n C.1 C.2.1 dX12_board_72 rfl (lv_at hl 0 rfl) ?_
                refine lv_iload C.1 C.2.1 dX12_board_73 (lv_at hl 6 rfl) ?_
                refine mw_cVi (As := [.int (nI j)]) (rest := [.int x1]) C Z hP hS (0) (cM_eatsOf l E u23 z j (by omega) ((fra.tr f25).ru hru)) vb_X12_eatsOf tw_5_52 ⟨rfl, rfl⟩ ⟨Nat.le_of_ble_eq_true rfl, Nat.le_of_ble_eq_true rfl⟩ (by decide) rfl rfl rfl rfl hl.1 rfl (Nat.le_of_ble_eq_true rfl) dX12_board_75 ⟨Nat.zero_le _, Nat.zero_le _⟩ (fun r28 u29 H locs q30 hP hS => ?_)
                obtain ⟨e32, f31⟩ := q30
                rw [(fra.tr f25).st, (fra.tr f25).cu] at e32
                subst e32
                refine lv_iadd C.1 C.2.1 dX12_board_78 ?_
                refine lv_istore_n (lv' := [(2, .int (x1 + (eatsP z (mSt σ) (mCu σ j)))), (0, .ref (mw_a E 0)), (1, .int w), (3, .int x2), (4, .int x3), (5, .int x4), (6, .int (nI j))]) C.1 C.2.1 dX12_board_79 rfl hl (by decide) rfl (fun ls hl => ?_)
                refine lv_iload_n C.1 C.2.1 dX12_board_80 rfl (lv_at hl 3 rfl) ?_
                refine lv_aload_n C.1 C.2.1 dX12_board_81 rfl (lv_at hl 1 rfl) ?_
                refine lv_iload C.1 C.2.1 dX12_board_82 (lv_at hl 6 rfl) ?_
                refine mw_cVi (As := [.int (nI j)]) (rest := [.int x2]) C Z hP hS (0) (cM_costOf l E u29 z j (by omega) (((fra.tr f25).tr f31).ru hru)) vb_X12_costOf tw_6_26 ⟨rfl, rfl⟩ ⟨Nat.le_of_ble_eq_true rfl, Nat.le_of_ble_eq_true rfl⟩ (by decide) rfl rfl rfl rfl hl.1 rfl (Nat.le_of_ble_eq_true rfl) dX12_board_84 ⟨Nat.zero_le _, Nat.zero_le _⟩ (fun r33 u34 H locs q35 hP hS => ?_)
                obtain ⟨e37, f36⟩ := q35
                rw [((fra.tr f25).tr f31).st, ((fra.tr f25).tr f31).cu] at e37
                subst e37
                refine lv_iadd C.1 C.2.1 dX12_board_87 ?_
                refine lv_istore_n (lv' := [(3, .int (x2 + (costP z (mSt σ) (mCu σ j)))), (2, .int (x1 + (eatsP z (mSt σ) (mCu σ j)))), (0, .ref (mw_a E 0)), (1, .int w), (4, .int x3), (5, .int x4), (6, .int (nI j))]) C.1 C.2.1 dX12_board_88 rfl hl (by decide) rfl (fun ls hl => ?_)
                refine lv_iload C.1 C.2.1 dX12_board_89 (lv_at hl 4 rfl) ?_
                refine lv_aload_n C.1 C.2.1 dX12_board_91 rfl (lv_at hl 2 rfl) ?_
                refine lv_iload C.1 C.2.1 dX12_board_92 (lv_at hl 6 rfl) ?_
                refine mw_cVi (As := [.int (nI j)]) (rest := [.int x3]) C Z hP hS (0) (cM_eatsOf l E u34 z j (by omega) ((((fra.tr f25).tr f31).tr f36).ru hru)) vb_X12_eatsOf tw_5_52 ⟨rfl, rfl⟩ ⟨Nat.le_of_ble_eq_true rfl, Nat.le_of_ble_eq_true rfl⟩ (by decide) rfl rfl rfl rfl hl.1 rfl (Nat.le_of_ble_eq_true rfl) dX12_board_94 ⟨Nat.zero_le _, Nat.zero_le _⟩ (fun r38 u39 H locs q40 hP hS => ?_)
                obtain ⟨e42, f41⟩ := q40
                rw [(((fra.tr f25).tr f31).tr f36).st, (((fra.tr f25).tr f31).tr f36).cu] at e42
                subst e42
                refine lv_if_le (tgt := 113) C.1 C.2.1 dX12_board_97 (by decide) (fun c43 => ?_) (fun c43 => ?_)
                · refine lv_iconst (v := 0) C.1 C.2.1 dX12_board_113 (by decide) ?_
                  refine lv_iload C.1 C.2.1 dX12_board_114 (lv_at hl 6 rfl) ?_
                  refine lv_ishl C.1 C.2.1 dX12_board_116 ?_
                  refine lv_ior C.1 C.2.1 dX12_board_117 ?_
                  refine lv_istore (lv' := [(4, .int (x3 ||| (0 <<< ((nI j) &&& 31)))), (3, .int (x2 + (costP z (mSt σ) (mCu σ j)))), (2, .int (x1 + (eatsP z (mSt σ) (mCu σ j)))), (0, .ref (mw_a E 0)), (1, .int w), (5, .int x4), (6, .int (nI j))]) C.1 C.2.1 dX12_board_118 hl (by decide) rfl (fun ls hl => ?_)
                  refine lv_iload C.1 C.2.1 dX12_board_120 (lv_at hl 5 rfl) ?_
                  refine lv_iconst (v := 1) C.1 C.2.1 dX12_board_122 (by decide) ?_
                  refine lv_iload C.1 C.2.1 dX12_board_123 (lv_at hl 6 rfl) ?_
                  refine lv_ishl C.1 C.2.1 dX12_board_125 ?_
                  refine lv_ior C.1 C.2.1 dX12_board_126 ?_
                  refine lv_istore (lv' := [(5, .int (x4 ||| (1 <<< ((nI j) &&& 31)))), (4, .int (x3 ||| (0 <<< ((nI j) &&& 31)))), (3, .int (x2 + (costP z (mSt σ) (mCu σ j)))), (2, .int (x1 + (eatsP z (mSt σ) (mCu σ j)))), (0, .ref (mw_a E 0)), (1, .int w), (6, .int (nI j))]) C.1 C.2.1 dX12_board_127 hl (by decide) rfl (fun ls hl => ?_)
                  refine lv_iinc (v := nI (j + 1)) (lv' := [(6, .int (nI (j + 1))), (5, .int (x4 ||| (1 <<< ((nI j) &&& 31)))), (4, .int (x3 ||| (0 <<< ((nI j) &&& 31)))), (3, .int (x2 + (costP z (mSt σ) (mCu σ j)))), (2, .int (x1 + (eatsP z (mSt σ) (mCu σ j)))), (0, .ref (mw_a E 0)), (1, .int w)]) C.1 C.2.1 dX12_board_129 hl (k := 6) rfl (nI_1 _) (by decide) rfl (fun ls hl => ?_)
                  refine lv_goto (tgt := 53) C.1 C.2.1 dX12_board_132 (by decide) ?_
                  exact iha (j + 1) (x1 + (eatsP z (mSt σ) (mCu σ j))) (x2 + (costP z (mSt σ) (mCu σ j))) (x3 ||| (0 <<< ((nI j) &&& 31))) (x4 ||| (1 <<< ((nI j) &&& 31))) u39 _ _ (by omega) (by omega) (by rw [e1]; exact sumP_s (if_pos c27)) (by rw [e2]; exact sumP_s rfl) (by rw [e3]; exact orP_s (by unfold bd3; rw [if_pos c27, bI_f (fun y => absurd y.1 (Int32.not_lt.mpr c43))])) (by rw [e4]; exact orP_s (if_pos c27)) ((((fra.tr f25).tr f31).tr f36).tr f41) hP hS ls (lv_sub hl [5, 6, 4, 3, 2, 1, 0] rfl)
                · refine lv_aload_n C.1 C.2.1 dX12_board_100 rfl (lv_at hl 2 rfl) ?_
                  refine lv_iload C.1 C.2.1 dX12_board_101 (lv_at hl 6 rfl) ?_
                  refine mw_cVi (As := [.int (nI j)]) (rest := [.int x3]) C Z hP hS (0) (cM_triesOf l E u39 z j (by omega) (((((fra.tr f25).tr f31).tr f36).tr f41).ru hru)) vb_X12_triesOf tw_6_14 ⟨rfl, rfl⟩ ⟨Nat.le_of_ble_eq_true rfl, Nat.le_of_ble_eq_true rfl⟩ (by decide) rfl rfl rfl rfl hl.1 rfl (Nat.le_of_ble_eq_true rfl) dX12_board_103 ⟨Nat.zero_le _, Nat.zero_le _⟩ (fun r44 u45 H locs q46 hP hS => ?_)
                  obtain ⟨e48, f47⟩ := q46
                  rw [((((fra.tr f25).tr f31).tr f36).tr f41).st, ((((fra.tr f25).tr f31).tr f36).tr f41).cu] at e48
                  subst e48
                  refine lv_if_ne (tgt := 113) C.1 C.2.1 dX12_board_106 (by decide) (fun c49 => ?_) (fun c49 => ?_)
                  · refine lv_iconst (v := 0) C.1 C.2.1 dX12_board_113 (by decide) ?_
                    refine lv_iload C.1 C.2.1 dX12_board_114 (lv_at hl 6 rfl) ?_
                    refine lv_ishl C.1 C.2.1 dX12_board_116 ?_
                    refine lv_ior C.1 C.2.1 dX12_board_117 ?_
                    refine lv_istore (lv' := [(4, .int (x3 ||| (0 <<< ((nI j) &&& 31)))), (3, .int (x2 + (costP z (mSt σ) (mCu σ j)))), (2, .int (x1 + (eatsP z (mSt σ) (mCu σ j)))), (0, .ref (mw_a E 0)), (1, .int w), (5, .int x4), (6, .int (nI j))]) C.1 C.2.1 dX12_board_118 hl (by decide) rfl (fun ls hl => ?_)
                    refine lv_iload C.1 C.2.1 dX12_board_120 (lv_at hl 5 rfl) ?_
                    refine lv_iconst (v := 1) C.1 C.2.1 dX12_board_122 (by decide) ?_
                    refine lv_iload C.1 C.2.1 dX12_board_123 (lv_at hl 6 rfl) ?_
                    refine lv_ishl C.1 C.2.1 dX12_board_125 ?_
                    refine lv_ior C.1 C.2.1 dX12_board_126 ?_
                    refine lv_istore (lv' := [(5, .int (x4 ||| (1 <<< ((nI j) &&& 31)))), (4, .int (x3 ||| (0 <<< ((nI j) &&& 31)))), (3, .int (x2 + (costP z (mSt σ) (mCu σ j)))), (2, .int (x1 + (eatsP z (mSt σ) (mCu σ j)))), (0, .ref (mw_a E 0)), (1, .int w), (6, .int (nI j))]) C.1 C.2.1 dX12_board_127 hl (by decide) rfl (fun ls hl => ?_)
                    refine lv_iinc (v := nI (j + 1)) (lv' := [(6, .int (nI (j + 1))), (5, .int (x4 ||| (1 <<< ((nI j) &&& 31)))), (4, .int (x3 ||| (0 <<< ((nI j) &&& 31)))), (3, .int (x2 + (costP z (mSt σ) (mCu σ j)))), (2, .int (x1 + (eatsP z (mSt σ) (mCu σ j)))), (0, .ref (mw_a E 0)), (1, .int w)]) C.1 C.2.1 dX12_board_129 hl (k := 6) rfl (nI_1 _) (by decide) rfl (fun ls hl => ?_)
                    refine lv_goto (tgt := 53) C.1 C.2.1 dX12_board_132 (by decide) ?_
                    exact iha (j + 1) (x1 + (eatsP z (mSt σ) (mCu σ j))) (x2 + (costP z (mSt σ) (mCu σ j))) (x3 ||| (0 <<< ((nI j) &&& 31))) (x4 ||| (1 <<< ((nI j) &&& 31))) u45 _ _ (by omega) (by omega) (by rw [e1]; exact sumP_s (if_pos c27)) (by rw [e2]; exact sumP_s rfl) (by rw [e3]; exact orP_s (by unfold bd3; rw [if_pos c27, bI_f (fun y => c49 y.2)])) (by rw [e4]; exact orP_s (if_pos c27)) (((((fra.tr f25).tr f31).tr f36).tr f41).tr f47) hP hS ls (lv_sub hl [5, 6, 4, 3, 2, 1, 0] rfl)
                  · refine lv_iconst (v := 1) C.1 C.2.1 dX12_board_109 (by decide) ?_
                    refine lv_goto (tgt := 114) C.1 C.2.1 dX12_board_110 (by decide) ?_
                    refine lv_iload C.1 C.2.1 dX12_board_114 (lv_at hl 6 rfl) ?_
                    refine lv_ishl C.1 C.2.1 dX12_board_116 ?_
                    refine lv_ior C.1 C.2.1 dX12_board_117 ?_
                    refine lv_istore (lv' := [(4, .int (x3 ||| (1 <<< ((nI j) &&& 31)))), (3, .int (x2 + (costP z (mSt σ) (mCu σ j)))), (2, .int (x1 + (eatsP z (mSt σ) (mCu σ j)))), (0, .ref (mw_a E 0)), (1, .int w), (5, .int x4), (6, .int (nI j))]) C.1 C.2.1 dX12_board_118 hl (by decide) rfl (fun ls hl => ?_)
                    refine lv_iload C.1 C.2.1 dX12_board_120 (lv_at hl 5 rfl) ?_
                    refine lv_iconst (v := 1) C.1 C.2.1 dX12_board_122 (by decide) ?_
                    refine lv_iload C.1 C.2.1 dX12_board_123 (lv_at hl 6 rfl) ?_
                    refine lv_ishl C.1 C.2.1 dX12_board_125 ?_
                    refine lv_ior C.1 C.2.1 dX12_board_126 ?_
                    refine lv_istore (lv' := [(5, .int (x4 ||| (1 <<< ((nI j) &&& 31)))), (4, .int (x3 ||| (1 <<< ((nI j) &&& 31)))), (3, .int (x2 + (costP z (mSt σ) (mCu σ j)))), (2, .int (x1 + (eatsP z (mSt σ) (mCu σ j)))), (0, .ref (mw_a E 0)), (1, .int w), (6, .int (nI j))]) C.1 C.2.1 dX12_board_127 hl (by decide) rfl (fun ls hl => ?_)
                    refine lv_iinc (v := nI (j + 1)) (lv' := [(6, .int (nI (j + 1))), (5, .int (x4 ||| (1 <<< ((nI j) &&& 31)))), (4, .int (x3 ||| (1 <<< ((nI j) &&& 31)))), (3, .int (x2 + (costP z (mSt σ) (mCu σ j)))), (2, .int (x1 + (eatsP z (mSt σ) (mCu σ j)))), (0, .ref (mw_a E 0)), (1, .int w)]) C.1 C.2.1 dX12_board_129 hl (k := 6) rfl (nI_1 _) (by decide) rfl (fun ls hl => ?_)
                    refine lv_goto (tgt := 53) C.1 C.2.1 dX12_board_132 (by decide) ?_
                    exact iha (j + 1) (x1 + (eatsP z (mSt σ) (mCu σ j))) (x2 + (costP z (mSt σ) (mCu σ j))) (x3 ||| (1 <<< ((nI j) &&& 31))) (x4 ||| (1 <<< ((nI j) &&& 31))) u45 _ _ (by omega) (by omega) (by rw [e1]; exact sumP_s (if_pos c27)) (by rw [e2]; exact sumP_s rfl) (by rw [e3]; exact orP_s (by unfold bd3; rw [if_pos c27, bI_t ⟨Int32.not_le.mp c43, c49⟩])) (by rw [e4]; exact orP_s (if_pos c27)) (((((fra.tr f25).tr f31).tr f36).tr f41).tr f47) hP hS ls (lv_sub hl [5, 6, 4, 3, 2, 1, 0] rfl)
        exact lpa (n + 1) 0 0 0 0 0 σ _ _ (by omega) (by omega) (rfl) (rfl) (rfl) (rfl) (mFs.rf σ) hP hS ls (lv_sub hl [5, 6, 4, 3, 2, 1, 0] rfl)
      · refine lv_iload_n C.1 C.2.1 dX12_board_24 rfl (lv_at hl 1 rfl) ?_
        refine lv_if_ne (tgt := 35) C.1 C.2.1 dX12_board_25 (by decide) (fun c50 => ?_) (fun c50 => ?_)
        · refine lv_aload_n C.1 C.2.1 dX12_board_35 rfl (lv_at hl 0 rfl) ?_
          refine mw_cVi (As := []) (rest := []) C Z hP hS (0) (cM_crowd l E σ z n ((mFs.rf σ).many hn) h8 ((mFs.rf σ).ru hru)) vb_X12_crowd tw_6_66 ⟨rfl, rfl⟩ ⟨Nat.le_of_ble_eq_true rfl, Nat.le_of_ble_eq_true rfl⟩ (by decide) rfl rfl rfl rfl hl.1 rfl (Nat.le_of_ble_eq_true rfl) dX12_board_36 ⟨Nat.zero_le _, Nat.zero_le _⟩ (fun r51 u52 H locs q53 hP hS => ?_)
          obtain ⟨e55, f54⟩ := q53
          rw [(mFs.rf σ).st, show mCu (σ) = mCu σ from funext fun p => (mFs.rf σ).cu p] at e55
          subst e55
          exact mw_iret C hr hlk Z hP hS dX12_board_39 (⟨by unfold boardF; rw [if_neg (Decidable.not_not.mpr hrg)]; first | (simp [allGain, crowdF, c5, c17, c50]; done) | (exfalso; simp_all; done), ((mFs.rf σ).tr f54)⟩)
        · refine lv_aload_n C.1 C.2.1 dX12_board_28 rfl (lv_at hl 0 rfl) ?_
          refine mw_cVi (As := []) (rest := []) C Z hP hS (0) (cM_gainAll l E σ z n ((mFs.rf σ).many hn) h8 ((mFs.rf σ).ru hru)) vb_X12_gainAll tw_6_62 ⟨rfl, rfl⟩ ⟨Nat.le_of_ble_eq_true rfl, Nat.le_of_ble_eq_true rfl⟩ (by decide) rfl rfl rfl rfl hl.1 rfl (Nat.le_of_ble_eq_true rfl) dX12_board_29 ⟨Nat.zero_le _, Nat.zero_le _⟩ (fun r56 u57 H locs q58 hP hS => ?_)
          obtain ⟨e60, f59⟩ := q58
          rw [show (fun p => gainP z (mSt (σ)) (mCu (σ) p)) = fun p => gainP z (mSt σ) (mCu σ p) from funext fun p => by rw [(mFs.rf σ).st, (mFs.rf σ).cu]] at e60
          subst e60
          refine lv_goto (tgt := 39) C.1 C.2.1 dX12_board_32 (by decide) ?_
          exact mw_iret C hr hlk Z hP hS dX12_board_39 (⟨by unfold boardF; rw [if_neg (Decidable.not_not.mpr hrg)]; first | (simp [allGain, crowdF, c5, c17, c50]; done) | (exfalso; simp_all; done), ((mFs.rf σ).tr f59)⟩)
  · have c4 := bI_0.mp c4
    refine lv_ldc (own := RX12) C.1 C.2.1 C.2.2.2.1 (C.2.2.2.2 _ tw_5_51) dX12_board_12 ?_
    exact mw_iret C hr hlk Z hP hS dX12_board_14 (⟨by unfold boardF; rw [if_pos c4], (mFs.rf σ)⟩)

set_option maxHeartbeats 4000000 in
set_option maxRecDepth 100000 in
theorem cM_hour (l : Launch) (E : mw_E) (σ : mw_M) (z : zP) (n : Nat) (hn : σ.1 0 10 = nI n) (h8 : n ≤ 8) (hru : mRu σ z) (hr1 w : Int32) : mw_Ci shM 13 gM l yX12_hour cX12_hour 5 (some .int) (rmF 45 999) E [.ref (mw_a E 0), .int hr1, .int w] σ (fun r u => r = hourF z (mSt σ) (mCu σ) n hr1 w ∧ mFs σ u) := by
  refine mw_of (by decide) gM_ok (Nat.le_of_ble_eq_true rfl) ?_
  intro p_ e_ s_ m_ below meth c_ C hr hlk Z hP ls hl
  have C : CallFix p_ m_ c_ cX12_hour 5 s_ _ lw_good RX12 := C
  have hl : lv_has ls 5 [(0, .ref (mw_a E 0)), (1, .int hr1), (2, .int w)] := hl
  have hS : va_S (mw_A 13 E) s_.heap s_.heap [] := va_S.rf
  refine lv_iload_n C.1 C.2.1 dX12_hour_0 rfl (lv_at hl 1 rfl) ?_
  refine lv_i2l C.1 C.2.1 dX12_hour_1 rfl ?_
  refine lv_lconst (v := 0) C.1 C.2.1 dX12_hour_2 (by decide) ?_
  refine lv_ldc2 (own := RX12) C.1 C.2.1 C.2.2.2.1 (C.2.2.2.2 _ tw_6_43) dX12_hour_3 ?_
  refine mw_cSi (As := [.long (hr1.toInt64), .long (0), .long (9)]) (rest := []) C Z hP hS (cM_in l E σ (hr1.toInt64) 0 9 (0 ≤ hr1.toInt ∧ hr1.toInt ≤ 9) (by first | (simp only [nl_i]; exact Iff.rfl) | (simp only [nl_i]; decide) | simp [nl_i])) sb_X12_in tw_5_33 ⟨rfl, rfl⟩ ⟨Nat.le_of_ble_eq_true rfl, Nat.le_of_ble_eq_true rfl⟩ rfl hl.1 rfl (Nat.le_of_ble_eq_true rfl) dX12_hour_6 ⟨Nat.zero_le _, Nat.zero_le _⟩ (fun r1 u2 H locs q3 hP hS => ?_)
  obtain ⟨rfl, q3u⟩ := q3
  rw [q3u] at hP; clear q3u
  refine lv_if_eq (tgt := 22) C.1 C.2.1 dX12_hour_9 (by decide) (fun c4 => ?_) (fun c4 => ?_)
  · have c4 := bI_0.mp c4
    refine lv_bipush (v := -2) C.1 C.2.1 dX12_hour_22 (by decide) ?_
    exact mw_iret C hr hlk Z hP hS dX12_hour_24 (⟨by unfold hourF; rw [if_pos (Or.inl c4)], (mFs.rf σ)⟩)
  · have c4 := bI_n.mp c4
    have hrg := c4
    refine lv_iload_n C.1 C.2.1 dX12_hour_12 rfl (lv_at hl 2 rfl) ?_
    refine lv_i2l C.1 C.2.1 dX12_hour_13 rfl ?_
    refine lv_lconst (v := 0) C.1 C.2.1 dX12_hour_14 (by decide) ?_
    refine lv_lconst (v := 1) C.1 C.2.1 dX12_hour_15 (by decide) ?_
    refine mw_cSi (As := [.long (w.toInt64), .long (0), .long (1)]) (rest := []) C Z hP hS (cM_in l E σ (w.toInt64) 0 1 (0 ≤ w.toInt ∧ w.toInt ≤ 1) (by first | (simp only [nl_i]; exact Iff.rfl) | (simp only [nl_i]; decide) | simp [nl_i])) sb_X12_in tw_5_33 ⟨rfl, rfl⟩ ⟨Nat.le_of_ble_eq_true rfl, Nat.le_of_ble_eq_true rfl⟩ rfl hl.1 rfl (Nat.le_of_ble_eq_true rfl) dX12_hour_16 ⟨Nat.zero_le _, Nat.zero_le _⟩ (fun r5 u6 H locs q7 hP hS => ?_)
    obtain ⟨rfl, q7u⟩ := q7
    rw [q7u] at hP; clear q7u
    refine lv_if_ne (tgt := 25) C.1 C.2.1 dX12_hour_19 (by decide) (fun c8 => ?_) (fun c8 => ?_)
    · have c8 := bI_n.mp c8
      have hrw := c8
      refine lv_iload_n C.1 C.2.1 dX12_hour_25 rfl (lv_at hl 2 rfl) ?_
      refine lv_if_ne (tgt := 35) C.1 C.2.1 dX12_hour_26 (by decide) (fun c9 => ?_) (fun c9 => ?_)
      · have hw0 := c9
        refine lv_iconst (v := 0) C.1 C.2.1 dX12_hour_35 (by decide) ?_
        refine lv_istore_n (lv' := [(3, .int 0), (0, .ref (mw_a E 0)), (1, .int hr1), (2, .int w)]) C.1 C.2.1 dX12_hour_36 rfl hl (by decide) rfl (fun ls hl => ?_)
        refine lv_iconst (v := 0) C.1 C.2.1 dX12_hour_37 (by decide) ?_
        refine lv_istore (lv' := [(4, .int 0), (3, .int 0), (0, .ref (mw_a E 0)), (1, .int hr1), (2, .int w)]) C.1 C.2.1 dX12_hour_38 hl (by decide) rfl (fun ls hl => ?_)
        have lpa : ∀ (N : Nat) (j : Nat) (x1 : Int32) (ςa : mw_M) (H : Heap) (locs : List Loc), n + 1 ≤ j + N → (j ≤ n) → (x1 = orP (hour1 (mSt σ) (mCu σ) hr1) j) → mFs σ ςa → va_P (mw_D E) vwCl (mw_ws shM 13 E ςa) H → va_S (mw_A 13 E) s_.heap H locs → ∀ (ls : Array Slot), lv_has ls 5 [(0, .ref (mw_a E 0)), (1, .int hr1), (2, .int w), (3, .int x1), (4, .int (nI j))] → mWi p_ l e_ (rmF 45 999) s_ m_ [.ref (mw_a E 0), .int hr1, .int w] below meth c_ E (fun r u => r = hourF z (mSt σ) (mCu σ) n hr1 w ∧ mFs σ u) H locs (F0 m_ 40 ls []) := by
          intro N
          induction N with
          | zero => intros; exfalso; omega
          | succ N iha =>
            intro j x1 ςa H locs hNa hj e1 fra hP hS ls hl
            refine lv_iload C.1 C.2.1 dX12_hour_40 (lv_at hl 4 rfl) ?_
            refine lv_aload_n C.1 C.2.1 dX12_hour_42 rfl (lv_at hl 0 rfl) ?_
            refine mw_geti C Z hP (0) 10 (by decide) rfl rfl rfl (by decide) inX12 tw_4_174 dX12_hour_43 ?_
            refine mw_top (y := nI n) ((fra).many hn) ?_
            refine lv_icmp_ge (tgt := 90) C.1 C.2.1 dX12_hour_46 (by decide) (fun c10 => ?_) (fun c10 => ?_)
            · have c10 := (nI_leI (by omega) (by omega)).mp c10
              refine lv_iload_n C.1 C.2.1 dX12_hour_90 rfl (lv_at hl 3 rfl) ?_
              have ej : j = n := by omega
              exact mw_iret C hr hlk Z hP hS dX12_hour_91 (⟨by unfold hourF; rw [if_neg (fun y => y.elim (fun y => y hrg) (fun y => y hrw)), if_neg hw0, e1, ej], fra⟩)
            · have c10 : _ := (not_congr (nI_leI (by omega) (by omega))).mp c10
              refine lv_iload_n C.1 C.2.1 dX12_hour_49 rfl (lv_at hl 3 rfl) ?_
              refine lv_aload_n C.1 C.2.1 dX12_hour_50 rfl (lv_at hl 0 rfl) ?_
              refine lv_iload C.1 C.2.1 dX12_hour_51 (lv_at hl 4 rfl) ?_
              refine mw_cVi (As := [.int (nI j)]) (rest := [.int x1]) C Z hP hS (0) (cM_isThereNow l E ςa j (by omega)) vb_X12_isThereNow tw_6_22 ⟨rfl, rfl⟩ ⟨Nat.le_of_ble_eq_true rfl, Nat.le_of_ble_eq_true rfl⟩ (by decide) rfl rfl rfl rfl hl.1 rfl (Nat.le_of_ble_eq_true rfl) dX12_hour_53 ⟨Nat.zero_le _, Nat.zero_le _⟩ (fun r11 u12 H locs q13 hP hS => ?_)
              obtain ⟨e15, f14⟩ := q13
              rw [fra.st, fra.cu] at e15
              subst e15
              refine lv_if_eq (tgt := 78) C.1 C.2.1 dX12_hour_56 (by decide) (fun c16 => ?_) (fun c16 => ?_)
              · have c16 := bI_0.mp c16
                refine lv_iconst (v := 0) C.1 C.2.1 dX12_hour_78 (by decide) ?_
                refine lv_iload C.1 C.2.1 dX12_hour_79 (lv_at hl 4 rfl) ?_
                refine lv_ishl C.1 C.2.1 dX12_hour_81 ?_
                refine lv_ior C.1 C.2.1 dX12_hour_82 ?_
                refine lv_istore_n (lv' := [(3, .int (x1 ||| (0 <<< ((nI j) &&& 31)))), (0, .ref (mw_a E 0)), (1, .int hr1), (2, .int w), (4, .int (nI j))]) C.1 C.2.1 dX12_hour_83 rfl hl (by decide) rfl (fun ls hl => ?_)
                refine lv_iinc (v := nI (j + 1)) (lv' := [(4, .int (nI (j + 1))), (3, .int (x1 ||| (0 <<< ((nI j) &&& 31)))), (0, .ref (mw_a E 0)), (1, .int hr1), (2, .int w)]) C.1 C.2.1 dX12_hour_84 hl (k := 4) rfl (nI_1 _) (by decide) rfl (fun ls hl => ?_)
                refine lv_goto (tgt := 40) C.1 C.2.1 dX12_hour_87 (by decide) ?_
                exact iha (j + 1) (x1 ||| (0 <<< ((nI j) &&& 31))) u12 _ _ (by omega) (by omega) (by rw [e1]; exact orP_s (by unfold hour1; rw [bI_f (fun y => c16 y.1)])) (fra.tr f14) hP hS ls (lv_sub hl [2, 3, 4, 1, 0] rfl)
              · have c16 := bI_n.mp c16
                refine lv_aload_n C.1 C.2.1 dX12_hour_59 rfl (lv_at hl 0 rfl) ?_
                refine mw_getr C Z hP (0) 9 (6) (by decide) rfl rfl rfl (by decide) inX12 tw_4_173 dX12_hour_60 ?_
                refine lv_iconst (v := 4) C.1 C.2.1 dX12_hour_63 (by decide) ?_
                refine lv_iload C.1 C.2.1 dX12_hour_64 (lv_at hl 4 rfl) ?_
                refine lv_imul C.1 C.2.1 dX12_hour_66 ?_
                refine mw_top (y := nI (4 * j)) (pk_mul 4 j) ?_
                refine lv_iconst (v := 1) C.1 C.2.1 dX12_hour_67 (by decide) ?_
                refine lv_iadd C.1 C.2.1 dX12_hour_68 ?_
                refine mw_top (y := nI (4 * j + 1)) (nI_1 _) ?_
                refine mw_iald C Z hP (6) (4 * j + 1) (by decide) rfl (Nat.lt_of_lt_of_le (by decide : 32 < 961) (Nat.le_of_ble_eq_true rfl)) rfl (by omega) dX12_hour_69 ?_
                refine mw_top (y := σ.2.1 6 (4 * j + 1)) (by first | (rw [(fra.tr f14).1]; done) | (rw [(fra.tr f14).1]; rfl)) ?_
                refine lv_iload_n C.1 C.2.1 dX12_hour_70 rfl (lv_at hl 1 rfl) ?_
                refine lv_icmp_ne (tgt := 78) C.1 C.2.1 dX12_hour_71 (by decide) (fun c17 => ?_) (fun c17 => ?_)
                · refine lv_iconst (v := 0) C.1 C.2.1 dX12_hour_78 (by decide) ?_
                  refine lv_iload C.1 C.2.1 dX12_hour_79 (lv_at hl 4 rfl) ?_
                  refine lv_ishl C.1 C.2.1 dX12_hour_81 ?_
                  refine lv_ior C.1 C.2.1 dX12_hour_82 ?_
                  refine lv_istore_n (lv' := [(3, .int (x1 ||| (0 <<< ((nI j) &&& 31)))), (0, .ref (mw_a E 0)), (1, .int hr1), (2, .int w), (4, .int (nI j))]) C.1 C.2.1 dX12_hour_83 rfl hl (by decide) rfl (fun ls hl => ?_)
                  refine lv_iinc (v := nI (j + 1)) (lv' := [(4, .int (nI (j + 1))), (3, .int (x1 ||| (0 <<< ((nI j) &&& 31)))), (0, .ref (mw_a E 0)), (1, .int hr1), (2, .int w)]) C.1 C.2.1 dX12_hour_84 hl (k := 4) rfl (nI_1 _) (by decide) rfl (fun ls hl => ?_)
                  refine lv_goto (tgt := 40) C.1 C.2.1 dX12_hour_87 (by decide) ?_
                  exact iha (j + 1) (x1 ||| (0 <<< ((nI j) &&& 31))) u12 _ _ (by omega) (by omega) (by rw [e1]; exact orP_s (by unfold hour1; rw [bI_f (fun y => c17 y.2)])) (fra.tr f14) hP hS ls (lv_sub hl [2, 3, 4, 1, 0] rfl)
                · refine lv_iconst (v := 1) C.1 C.2.1 dX12_hour_74 (by decide) ?_
                  refine lv_goto (tgt := 79) C.1 C.2.1 dX12_hour_75 (by decide) ?_
                  refine lv_iload C.1 C.2.1 dX12_hour_79 (lv_at hl 4 rfl) ?_
                  refine lv_ishl C.1 C.2.1 dX12_hour_81 ?_
                  refine lv_ior C.1 C.2.1 dX12_hour_82 ?_
                  refine lv_istore_n (lv' := [(3, .int (x1 ||| (1 <<< ((nI j) &&& 31)))), (0, .ref (mw_a E 0)), (1, .int hr1), (2, .int w), (4, .int (nI j))]) C.1 C.2.1 dX12_hour_83 rfl hl (by decide) rfl (fun ls hl => ?_)
                  refine lv_iinc (v := nI (j + 1)) (lv' := [(4, .int (nI (j + 1))), (3, .int (x1 ||| (1 <<< ((nI j) &&& 31)))), (0, .ref (mw_a E 0)), (1, .int hr1), (2, .int w)]) C.1 C.2.1 dX12_hour_84 hl (k := 4) rfl (nI_1 _) (by decide) rfl (fun ls hl => ?_)
                  refine lv_goto (tgt := 40) C.1 C.2.1 dX12_hour_87 (by decide) ?_
                  exact iha (j + 1) (x1 ||| (1 <<< ((nI j) &&& 31))) u12 _ _ (by omega) (by omega) (by rw [e1]; exact orP_s (by unfold hour1; rw [bI_t ⟨c16, c17⟩])) (fra.tr f14) hP hS ls (lv_sub hl [2, 3, 4, 1, 0] rfl)
        exact lpa (n + 1) 0 0 σ _ _ (by omega) (by omega) (rfl) (mFs.rf σ) hP hS ls (lv_sub hl [2, 3, 4, 1, 0] rfl)
      · refine lv_aload_n C.1 C.2.1 dX12_hour_29 rfl (lv_at hl 0 rfl) ?_
        refine lv_iload_n C.1 C.2.1 dX12_hour_30 rfl (lv_at hl 1 rfl) ?_
        refine mw_cVi (As := [.int hr1]) (rest := []) C Z hP hS (0) (cM_eatenIn2 l E σ z n ((mFs.rf σ).many hn) h8 ((mFs.rf σ).ru hru) hr1) vb_X12_eatenIn tw_6_70 ⟨rfl, rfl⟩ ⟨Nat.le_of_ble_eq_true rfl, Nat.le_of_ble_eq_true rfl⟩ (by decide) rfl rfl rfl rfl hl.1 rfl (Nat.le_of_ble_eq_true rfl) dX12_hour_31 ⟨Nat.zero_le _, Nat.zero_le _⟩ (fun r18 u19 H locs q20 hP hS => ?_)
        obtain ⟨e22, f21⟩ := q20
        rw [(mFs.rf σ).st, show mCu (σ) = mCu σ from funext fun p => (mFs.rf σ).cu p] at e22
        subst e22
        exact mw_iret C hr hlk Z hP hS dX12_hour_34 (⟨by unfold hourF; rw [if_neg (fun y => y.elim (fun y => y hrg) (fun y => y hrw)), if_pos c9], ((mFs.rf σ).tr f21)⟩)
    · have c8 := bI_0.mp c8
      refine lv_bipush (v := -2) C.1 C.2.1 dX12_hour_22 (by decide) ?_
      exact mw_iret C hr hlk Z hP hS dX12_hour_24 (⟨by unfold hourF; rw [if_pos (Or.inr c8)], (mFs.rf σ)⟩)

set_option maxHeartbeats 4000000 in
set_option maxRecDepth 100000 in
theorem cM_common (l : Launch) (E : mw_E) (σ : mw_M) (a b : Nat) (ha : a < 2 ^ 63) (hb : b < 2 ^ 63) : mw_Cl shM 13 gM l yX12_common cX12_common 10 (some .long) (rmF 0 0) E [.long (lN a), .long (lN b)] σ (fun r u => r = lN (Nat.gcd a b) ∧ mFs σ u) := by
  refine mw_of (by decide) gM_ok (Nat.le_of_ble_eq_true rfl) ?_
  intro p_ e_ s_ m_ below meth c_ C hr hlk Z hP ls hl
  have C : CallFix p_ m_ c_ cX12_common 10 s_ _ lw_good RX12 := C
  have hl : lv_has ls 10 [(0, .long (lN a)), (2, .long (lN b))] := hl
  have hS : va_S (mw_A 13 E) s_.heap s_.heap [] := va_S.rf
  refine lv_lload_n C.1 C.2.1 dX12_common_0 rfl (lv_at hl 0 rfl) ?_
  refine lv_lstore (lv' := [(4, .long (lN a)), (0, .long (lN a)), (2, .long (lN b))]) C.1 C.2.1 dX12_common_1 hl (by decide) rfl (fun ls hl => ?_)
  refine lv_lload_n C.1 C.2.1 dX12_common_3 rfl (lv_at hl 2 rfl) ?_
  refine lv_lstore (lv' := [(6, .long (lN b)), (4, .long (lN a)), (0, .long (lN a)), (2, .long (lN b))]) C.1 C.2.1 dX12_common_4 hl (by decide) rfl (fun ls hl => ?_)
  have lpa : ∀ (N : Nat) (x : Nat) (y : Nat) (ςa : mw_M) (H : Heap) (locs : List Loc), y + 1 ≤ N → (x < 2 ^ 63) → (y < 2 ^ 63) → (Nat.gcd x y = Nat.gcd a b) → mFs σ ςa → va_P (mw_D E) vwCl (mw_ws shM 13 E ςa) H → va_S (mw_A 13 E) s_.heap H locs → ∀ (ls : Array Slot), lv_has ls 10 [(0, .long (lN a)), (2, .long (lN b)), (4, .long (lN x)), (6, .long (lN y))] → mWl p_ l e_ (rmF 0 0) s_ m_ [.long (lN a), .long (lN b)] below meth c_ E (fun r u => r = lN (Nat.gcd a b) ∧ mFs σ u) H locs (F0 m_ 6 ls []) := by
    intro N
    induction N with
    | zero => intros; exfalso; omega
    | succ N iha =>
      intro x y ςa H locs hNa hx hy hg fra hP hS ls hl
      refine lv_lload C.1 C.2.1 dX12_common_6 (lv_at hl 3 rfl) ?_
      refine lv_lconst (v := 0) C.1 C.2.1 dX12_common_8 (by decide) ?_
      refine W.lcmp C.1 C.2.1 dX12_common_9 ?_
      refine lv_if_eq (tgt := 31) C.1 C.2.1 dX12_common_10 (by decide) (fun c1 => ?_) (fun c1 => ?_)
      · have c1 := (lg_cmp_eq _ _).mp c1
        refine lv_lload C.1 C.2.1 dX12_common_31 (lv_at hl 2 rfl) ?_
        have hy0 : y = 0 := by have z := (pk_lEQ (b := 0) hy (by decide)).mp c1; exact z
        exact mw_lret C hr hlk Z hP hS dX12_common_33 (⟨by rw [← hg, hy0, Nat.gcd_zero_right], fra⟩)
      · have c1 := (not_congr (lg_cmp_eq _ _)).mp c1
        have hy0 : 0 < y := Nat.pos_of_ne_zero (fun z => c1 ((pk_lEQ (b := 0) hy (by decide)).mpr z))
        refine lv_lload C.1 C.2.1 dX12_common_13 (lv_at hl 2 rfl) ?_
        refine lv_lload C.1 C.2.1 dX12_common_15 (lv_at hl 3 rfl) ?_
        refine lv_lrem C.1 C.2.1 dX12_common_17 (fun z => Nat.lt_irrefl 0 (by have := (pk_lEQ (b := 0) hy (by decide)).mp z; omega)) ?_
        refine mw_topl (y := lN (x % y)) (pk_lRem hx hy0 hy) ?_
        refine lv_lstore (lv' := [(8, .long (lN (x % y))), (0, .long (lN a)), (2, .long (lN b)), (4, .long (lN x)), (6, .long (lN y))]) C.1 C.2.1 dX12_common_18 hl (by decide) rfl (fun ls hl => ?_)
        refine lv_lload C.1 C.2.1 dX12_common_20 (lv_at hl 4 rfl) ?_
        refine lv_lstore (lv' := [(4, .long (lN y)), (8, .long (lN (x % y))), (0, .long (lN a)), (2, .long (lN b)), (6, .long (lN y))]) C.1 C.2.1 dX12_common_22 hl (by decide) rfl (fun ls hl => ?_)
        refine lv_lload C.1 C.2.1 dX12_common_24 (lv_at hl 1 rfl) ?_
        refine lv_lstore (lv' := [(6, .long (lN (x % y))), (4, .long (lN y)), (8, .long (lN (x % y))), (0, .long (lN a)), (2, .long (lN b))]) C.1 C.2.1 dX12_common_26 hl (by decide) rfl (fun ls hl => ?_)
        refine lv_goto (tgt := 6) C.1 C.2.1 dX12_common_28 (by decide) ?_
        exact iha y (x % y) ςa _ _ (by have := Nat.mod_lt x hy0; omega) (hy) (by have := Nat.mod_lt x hy0; omega) (by rw [← hg, Nat.gcd_comm x y, Nat.gcd_rec y x, Nat.gcd_comm]) fra hP hS ls (lv_sub hl [3, 4, 1, 0] rfl)
  exact lpa (b + 1) a b σ _ _ (Nat.le_refl _) (ha) (hb) (rfl) (mFs.rf σ) hP hS ls (lv_sub hl [2, 3, 1, 0] rfl)

set_option maxHeartbeats 4000000 in
set_option maxRecDepth 100000 in
theorem cM_buys (l : Launch) (E : mw_E) (σ : mw_M) (z : zP) (p : Nat) (hp : p < 8) (hru : mRu σ z) : mw_Ci shM 13 gM l yX12_buys cX12_buys 2 (some .boolean) (rmF 44 975) E [.ref (mw_a E 0), .int (nI p)] σ (fun r u => r = bI (thereP (mSt σ) (mCu σ p) ∧ 0 < triesP z (mSt σ) (mCu σ p)) ∧ mFs σ u) := by
  refine mw_of (by decide) gM_ok (Nat.le_of_ble_eq_true rfl) ?_
  intro p_ e_ s_ m_ below meth c_ C hr hlk Z hP ls hl
  have C : CallFix p_ m_ c_ cX12_buys 2 s_ _ lw_good RX12 := C
  have hl : lv_has ls 2 [(0, .ref (mw_a E 0)), (1, .int (nI p))] := hl
  have hS : va_S (mw_A 13 E) s_.heap s_.heap [] := va_S.rf
  refine lv_aload_n C.1 C.2.1 dX12_buys_0 rfl (lv_at hl 0 rfl) ?_
  refine lv_iload_n C.1 C.2.1 dX12_buys_1 rfl (lv_at hl 1 rfl) ?_
  refine mw_cVi (As := [.int (nI p)]) (rest := []) C Z hP hS (0) (cM_isThereNow l E σ p (by omega)) vb_X12_isThereNow tw_6_22 ⟨rfl, rfl⟩ ⟨Nat.le_of_ble_eq_true rfl, Nat.le_of_ble_eq_true rfl⟩ (by decide) rfl rfl rfl rfl hl.1 rfl (Nat.le_of_ble_eq_true rfl) dX12_buys_2 ⟨Nat.zero_le _, Nat.zero_le _⟩ (fun r1 u2 H locs q3 hP hS => ?_)
  obtain ⟨e5, f4⟩ := q3
  rw [(mFs.rf σ).st, (mFs.rf σ).cu] at e5
  subst e5
  refine lv_if_eq (tgt := 20) C.1 C.2.1 dX12_buys_5 (by decide) (fun c6 => ?_) (fun c6 => ?_)
  · have c6 := bI_0.mp c6
    refine lv_iconst (v := 0) C.1 C.2.1 dX12_buys_20 (by decide) ?_
    exact mw_zret C hr hlk Z hP hS rfl dX12_buys_21 (⟨(bI_f (fun y => c6 y.1)).symm, ((mFs.rf σ).tr f4)⟩)
  · have c6 := bI_n.mp c6
    refine lv_aload_n C.1 C.2.1 dX12_buys_8 rfl (lv_at hl 0 rfl) ?_
    refine lv_iload_n C.1 C.2.1 dX12_buys_9 rfl (lv_at hl 1 rfl) ?_
    refine mw_cVi (As := [.int (nI p)]) (rest := []) C Z hP hS (0) (cM_triesOf l E u2 z p (by omega) (((mFs.rf σ).tr f4).ru hru)) vb_X12_triesOf tw_6_14 ⟨rfl, rfl⟩ ⟨Nat.le_of_ble_eq_true rfl, Nat.le_of_ble_eq_true rfl⟩ (by decide) rfl rfl rfl rfl hl.1 rfl (Nat.le_of_ble_eq_true rfl) dX12_buys_10 ⟨Nat.zero_le _, Nat.zero_le _⟩ (fun r7 u8 H locs q9 hP hS => ?_)
    obtain ⟨e11, f10⟩ := q9
    rw [((mFs.rf σ).tr f4).st, ((mFs.rf σ).tr f4).cu] at e11
    subst e11
    refine lv_if_le (tgt := 20) C.1 C.2.1 dX12_buys_13 (by decide) (fun c12 => ?_) (fun c12 => ?_)
    · refine lv_iconst (v := 0) C.1 C.2.1 dX12_buys_20 (by decide) ?_
      exact mw_zret C hr hlk Z hP hS rfl dX12_buys_21 (⟨(bI_f (fun y => absurd y.2 (Int32.not_lt.mpr c12))).symm, (((mFs.rf σ).tr f4).tr f10)⟩)
    · refine lv_iconst (v := 1) C.1 C.2.1 dX12_buys_16 (by decide) ?_
      refine lv_goto (tgt := 21) C.1 C.2.1 dX12_buys_17 (by decide) ?_
      exact mw_zret C hr hlk Z hP hS rfl dX12_buys_21 (⟨(bI_t ⟨c6, Int32.not_le.mp c12⟩).symm, (((mFs.rf σ).tr f4).tr f10)⟩)

abbrev buysP (z : zP) (st cu : Nat → Int32) : Prop := thereP st cu ∧ 0 < triesP z st cu
theorem cM_buys2 (l : Launch) (E : mw_E) (σ : mw_M) (z : zP) (p : Nat) (hp : p < 8) (hru : mRu σ z) : mw_Ci shM 13 gM l yX12_buys cX12_buys 2 (some .boolean) (rmF 44 975) E [.ref (mw_a E 0), .int (nI p)] σ (fun r u => r = bI (buysP z (mSt σ) (mCu σ p)) ∧ mFs σ u) := cM_buys l E σ z p hp hru
theorem wI_rng {v : Int32} {b : Nat} (hb : b < 2 ^ 31) : ∃ k : Nat, k ≤ b ∧ wI v 0 (nI b) = nI k := by
  unfold wI
  split
  · exact ⟨0, Nat.zero_le b, rfl⟩
  · next h =>
    split
    · exact ⟨b, Nat.le_refl b, rfl⟩
    · next h2 =>
      rw [ni_lt] at h h2
      rw [nI_toInt hb] at h2
      exact nI_ofI (by show (0 : Int) ≤ _; have : (0 : Int32).toInt = 0 := rfl; omega) (by omega)
theorem tries_rng (z : zP) (st cu : Nat → Int32) : ∃ k : Nat, k ≤ 99 ∧ triesP z st cu = nI k := by
  unfold triesP
  split
  · exact ⟨0, by decide, rfl⟩
  · split
    · exact ⟨0, by decide, rfl⟩
    · split
      · exact ⟨1, by decide, rfl⟩
      · exact wI_rng (b := 99) (by decide)
theorem spends_rng (z : zP) (st cu : Nat → Int32) : ∃ k : Nat, k ≤ 999 ∧ spendsP z st cu = nI k := by
  unfold spendsP
  split
  · exact ⟨0, by decide, rfl⟩
  · split
    · exact ⟨3, by decide, rfl⟩
    · exact wI_rng (b := 999) (by decide)
theorem eats_rng (z : zP) (st cu : Nat → Int32) : ∃ k : Nat, k ≤ 99 ∧ eatsP z st cu = nI k := by
  unfold eatsP
  split
  · exact ⟨1, by decide, rfl⟩
  · exact wI_rng (b := 99) (by decide)
def tnP (z : zP) (st cu : Nat → Int32) : Nat := (triesP z st cu).toNatClampNeg
def snP (z : zP) (st cu : Nat → Int32) : Nat := (spendsP z st cu).toNatClampNeg
theorem tnP_eq (z : zP) (st cu : Nat → Int32) : triesP z st cu = nI (tnP z st cu) ∧ tnP z st cu ≤ 99 := by
  obtain ⟨k, h1, h2⟩ := tries_rng z st cu
  unfold tnP
  rw [h2, nI_clamp (by omega)]
  exact ⟨rfl, h1⟩
theorem snP_eq (z : zP) (st cu : Nat → Int32) : spendsP z st cu = nI (snP z st cu) ∧ snP z st cu ≤ 999 := by
  obtain ⟨k, h1, h2⟩ := spends_rng z st cu
  unfold snP
  rw [h2, nI_clamp (by omega)]
  exact ⟨rfl, h1⟩
theorem buysP_pos {z : zP} {st cu : Nat → Int32} (h : buysP z st cu) : 0 < tnP z st cu := by
  have h2 := h.2
  obtain ⟨e, hb⟩ := tnP_eq z st cu
  rw [e] at h2
  exact (nI_ltI (a := 0) (by decide) (by omega)).mp h2
/-- a customer's part in the fraction: 1 for one who doesn't buy -/
def tbP (z : zP) (st : Nat → Int32) (cu : Nat → Nat → Int32) (p : Nat) : Nat := if buysP z st (cu p) then tnP z st (cu p) else 1
def sbP (z : zP) (st : Nat → Int32) (cu : Nat → Nat → Int32) (p : Nat) : Nat := if buysP z st (cu p) then snP z st (cu p) else 0
/-- the common line -/
def lcF (t : Nat → Nat) : Nat → Nat
  | 0 => 1
  | n + 1 => lcF t n * (t n / Nat.gcd (lcF t n) (t n))
def abF (s t : Nat → Nat) (L : Nat) : Nat → Nat
  | 0 => 0
  | n + 1 => abF s t L n + s n * (L / t n)
theorem lcF_lcm (t : Nat → Nat) (n : Nat) (h : 0 < t n) : lcF t (n + 1) = Nat.lcm (lcF t n) (t n) := by
  show lcF t n * (t n / _) = lcF t n * t n / _
  exact (Nat.mul_div_assoc _ (Nat.gcd_dvd_right _ _)).symm
theorem lcF_pos {t : Nat → Nat} : ∀ n, (∀ p, p < n → 0 < t p) → 0 < lcF t n
  | 0, _ => Nat.one_pos
  | n + 1, h => by
    rw [lcF_lcm t n (h n (by omega))]
    exact Nat.lcm_pos (lcF_pos n (fun p hp => h p (by omega))) (h n (by omega))
theorem lcF_dvd {t : Nat → Nat} : ∀ n, (∀ p, p < n → 0 < t p) → ∀ p, p < n → t p ∣ lcF t n
  | 0, _, p, hp => absurd hp (by omega)
  | n + 1, h, p, hp => by
    rw [lcF_lcm t n (h n (by omega))]
    rcases Nat.lt_succ_iff_lt_or_eq.mp hp with q | q
    · exact Nat.dvd_trans (lcF_dvd n (fun p hp => h p (by omega)) p q) (Nat.dvd_lcm_left _ _)
    · rw [q]; exact Nat.dvd_lcm_right _ _
theorem lcF_le {t : Nat → Nat} : ∀ n, (∀ p, p < n → 0 < t p ∧ t p ≤ 99) → lcF t n ≤ 99 ^ n
  | 0, _ => Nat.le_refl _
  | n + 1, h => by
    rw [lcF_lcm t n (h n (by omega)).1, Nat.pow_succ]
    exact Nat.le_trans (Nat.le_of_dvd (Nat.mul_pos (lcF_pos n (fun p hp => (h p (by omega)).1)) (h n (by omega)).1) (Nat.lcm_dvd (Nat.dvd_mul_right _ _) (Nat.dvd_mul_left _ _))) (Nat.mul_le_mul (lcF_le n (fun p hp => h p (by omega))) (h n (by omega)).2)
theorem lcF_part {t : Nat → Nat} : ∀ n, (∀ p, p < n + 1 → 0 < t p ∧ t p ≤ 99) → ∀ p, p < n + 1 → ∃ M, 0 < M ∧ M ≤ 99 ^ n ∧ lcF t (n + 1) ∣ t p * M
  | 0, h, p, hp => by
    have : p = 0 := by omega
    subst this
    refine ⟨1, by decide, Nat.le_refl _, ?_⟩
    rw [lcF_lcm t 0 (h 0 (by omega)).1, Nat.mul_one]
    exact Nat.lcm_dvd (Nat.one_dvd _) (Nat.dvd_refl _)
  | n + 1, h, p, hp => by
    rw [lcF_lcm t (n + 1) (h (n + 1) (by omega)).1]
    rcases Nat.lt_succ_iff_lt_or_eq.mp hp with q | q
    · obtain ⟨M, h1, h2, h3⟩ := lcF_part n (fun p hp => h p (by omega)) p q
      refine ⟨M * t (n + 1), Nat.mul_pos h1 (h (n + 1) (by omega)).1, ?_, ?_⟩
      · rw [Nat.pow_succ]; exact Nat.mul_le_mul h2 (h (n + 1) (by omega)).2
      · rw [← Nat.mul_assoc]
        exact Nat.lcm_dvd (Nat.dvd_trans h3 (Nat.dvd_mul_right _ _)) (Nat.dvd_mul_left _ _)
    · subst q
      refine ⟨lcF t (n + 1), lcF_pos _ (fun p hp => (h p (by omega)).1), lcF_le _ (fun p hp => h p (by omega)), ?_⟩
      exact Nat.lcm_dvd (Nat.dvd_mul_left _ _) (Nat.dvd_mul_right _ _)
theorem lcF_quot {t : Nat → Nat} {n p : Nat} (h : ∀ p, p < n → 0 < t p ∧ t p ≤ 99) (hp : p < n) (hn : n ≤ 8) : lcF t n / t p ≤ 99 ^ 7 := by
  obtain ⟨m, rfl⟩ : ∃ m, n = m + 1 := ⟨n - 1, by omega⟩
  obtain ⟨M, h1, h2, h3⟩ := lcF_part m h p hp
  have h4 : lcF t (m + 1) = t p * (lcF t (m + 1) / t p) := (Nat.mul_div_cancel' (lcF_dvd _ (fun p hp => (h p hp).1) p hp)).symm
  rw [h4] at h3
  have h5 := Nat.dvd_of_mul_dvd_mul_left (h p hp).1 h3
  exact Nat.le_trans (Nat.le_of_dvd h1 h5) (Nat.le_trans h2 (Nat.pow_le_pow_right (by decide) (by omega)))
theorem abF_le {s t : Nat → Nat} {L : Nat} : ∀ n, (∀ p, p < n → s p ≤ 999 ∧ L / t p ≤ 99 ^ 7) → abF s t L n ≤ n * (999 * 99 ^ 7)
  | 0, _ => Nat.zero_le _
  | n + 1, h => by
    show abF s t L n + s n * (L / t n) ≤ _
    rw [Nat.succ_mul]
    exact Nat.add_le_add (abF_le n (fun p hp => h p (by omega))) (Nat.mul_le_mul (h n (by omega)).1 (h n (by omega)).2)
theorem tbP_rng (z : zP) (st : Nat → Int32) (cu : Nat → Nat → Int32) (p : Nat) : 0 < tbP z st cu p ∧ tbP z st cu p ≤ 99 := by
  unfold tbP
  split
  · next h => exact ⟨buysP_pos h, (tnP_eq z st (cu p)).2⟩
  · exact ⟨by decide, by decide⟩
theorem sbP_rng (z : zP) (st : Nat → Int32) (cu : Nat → Nat → Int32) (p : Nat) : sbP z st cu p ≤ 999 := by
  unfold sbP
  split
  · exact (snP_eq z st (cu p)).2
  · exact Nat.zero_le _
def fairL (z : zP) (st : Nat → Int32) (cu : Nat → Nat → Int32) (n : Nat) : Nat := lcF (tbP z st cu) n
def fairA (z : zP) (st : Nat → Int32) (cu : Nat → Nat → Int32) (n : Nat) : Nat := abF (sbP z st cu) (tbP z st cu) (fairL z st cu n) n
def fairF (z : zP) (st : Nat → Int32) (cu : Nat → Nat → Int32) (n : Nat) (w : Int32) : Int64 := if ¬ (0 ≤ w.toInt ∧ w.toInt ≤ 1) then -4611686018427387904 else if w = 0 then lN (fairA z st cu n / Nat.gcd (fairA z st cu n) (fairL z st cu n)) else lN (fairL z st cu n / Nat.gcd (fairA z st cu n) (fairL z st cu n))
