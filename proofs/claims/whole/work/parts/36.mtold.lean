/-! THE REFERENCE: TOLD, SET, LAYS, FIRST OTHER -/
theorem nI_nm1 {k : Nat} (h : k < 2 ^ 31) : ¬ nI k = -1 := fun e => by
  rw [ni_eq, nI_toInt h] at e
  have : (-1 : Int32).toInt = -1 := rfl
  omega
def foF (e c : Nat → Int32) : Nat → Nat → Int32
  | 0, _ => -1
  | m + 1, k => if e k = c k then foF e c m (k + 1) else nI k
def tdF (z : zP) (st cu : Nat → Int32) (k : Nat) : Int32 := if k < 5 then st k else if k < 8 then cu (k - 4) else if k = 8 then cu 0 else if k = 9 then cu 4 else if k = 10 then eatsP z st cu else if k = 11 then triesP z st cu else if k = 12 then spendsP z st cu else if k = 13 then bI (thereP st cu) else if k = 14 then costP z st cu else gainP z st cu
def toldF (z : zP) (st : Nat → Int32) (cu : Nat → Nat → Int32) (n : Nat) (o w : Int32) : Int32 := if ¬ (0 ≤ w.toInt ∧ w.toInt ≤ 15) ∨ (4 < w.toInt ∧ ¬ (0 ≤ o.toInt ∧ o.toInt < n)) then -100000000 else tdF z st (cu o.toNatClampNeg) w.toNatClampNeg

set_option maxHeartbeats 4000000 in
set_option maxRecDepth 100000 in
theorem cM_firstOther (l : Launch) (E : mw_E) (σ : mw_M) (z : zP) (p : Nat) (hp : p < 8) (hru : mRu σ z) (sn mm : Nat) (hsn : sn < 4) (hm : σ.2.1 11 sn = nI mm) (hm4 : mm ≤ 40) : mw_Ci shM 13 gM l yX12_firstOther cX12_firstOther 6 (some .int) (rmF 44 976) E [.ref (mw_a E 0), .int (nI sn), .int (nI p)] σ (fun r u => r = foF (fun k => eatsP z (upd (mSt σ) 0 (nI (k + 1))) (mCu σ p)) (fun k => σ.2.1 12 (40 * sn + k)) mm 0 ∧ mFs σ u) := by
  refine mw_of (by decide) gM_ok (Nat.le_of_ble_eq_true rfl) ?_
  intro p_ e_ s_ m_ below meth c_ C hr hlk Z hP ls hl
  have C : CallFix p_ m_ c_ cX12_firstOther 6 s_ _ lw_good RX12 := C
  have hl : lv_has ls 6 [(0, .ref (mw_a E 0)), (1, .int (nI sn)), (2, .int (nI p))] := hl
  have hS : va_S (mw_A 13 E) s_.heap s_.heap [] := va_S.rf
  refine lv_aload_n C.1 C.2.1 dX12_firstOther_0 rfl (lv_at hl 0 rfl) ?_
  refine mw_getr C Z hP (0) 7 (4) (by decide) rfl rfl rfl (by decide) inX12 tw_4_171 dX12_firstOther_1 ?_
  refine lv_iconst (v := 0) C.1 C.2.1 dX12_firstOther_4 (by decide) ?_
  refine mw_iald C Z hP (4) (0) (by decide) rfl (Nat.lt_of_lt_of_le (by decide : 5 < 961) (Nat.le_of_ble_eq_true rfl)) rfl (by decide) dX12_firstOther_5 ?_
  refine mw_top (y := mSt σ 0) (rfl) ?_
  refine lv_istore_n (lv' := [(3, .int (mSt σ 0)), (0, .ref (mw_a E 0)), (1, .int (nI sn)), (2, .int (nI p))]) C.1 C.2.1 dX12_firstOther_6 rfl hl (by decide) rfl (fun ls hl => ?_)
  refine lv_iconst (v := -1) C.1 C.2.1 dX12_firstOther_7 (by decide) ?_
  refine lv_istore (lv' := [(4, .int (-1)), (3, .int (mSt σ 0)), (0, .ref (mw_a E 0)), (1, .int (nI sn)), (2, .int (nI p))]) C.1 C.2.1 dX12_firstOther_8 hl (by decide) rfl (fun ls hl => ?_)
  refine lv_iconst (v := 0) C.1 C.2.1 dX12_firstOther_10 (by decide) ?_
  refine lv_istore (lv' := [(5, .int 0), (4, .int (-1)), (3, .int (mSt σ 0)), (0, .ref (mw_a E 0)), (1, .int (nI sn)), (2, .int (nI p))]) C.1 C.2.1 dX12_firstOther_11 hl (by decide) rfl (fun ls hl => ?_)
  have lpa : ∀ (N : Nat) (k : Nat) (x : Int32) (s' : Nat → Int32) (ςa : mw_M) (H : Heap) (locs : List Loc), mm + 1 ≤ k + N → (k ≤ mm) → (foF (fun k => eatsP z (upd (mSt σ) 0 (nI (k + 1))) (mCu σ p)) (fun k => σ.2.1 12 (40 * sn + k)) mm 0 = if x = -1 then foF (fun k => eatsP z (upd (mSt σ) 0 (nI (k + 1))) (mCu σ p)) (fun k => σ.2.1 12 (40 * sn + k)) (mm - k) k else x) → (∀ v, upd s' 0 v = upd (mSt σ) 0 v) → mAs σ s' ςa → va_P (mw_D E) vwCl (mw_ws shM 13 E ςa) H → va_S (mw_A 13 E) s_.heap H locs → ∀ (ls : Array Slot), lv_has ls 6 [(0, .ref (mw_a E 0)), (1, .int (nI sn)), (2, .int (nI p)), (3, .int (mSt σ 0)), (4, .int x), (5, .int (nI k))] → mWi p_ l e_ (rmF 44 976) s_ m_ [.ref (mw_a E 0), .int (nI sn), .int (nI p)] below meth c_ E (fun r u => r = foF (fun k => eatsP z (upd (mSt σ) 0 (nI (k + 1))) (mCu σ p)) (fun k => σ.2.1 12 (40 * sn + k)) mm 0 ∧ mFs σ u) H locs (F0 m_ 13 ls []) := by
    intro N
    induction N with
    | zero => intros; exfalso; omega
    | succ N iha =>
      intro k x s' ςa H locs hNa hk ex hs fra hP hS ls hl
      refine lv_iload C.1 C.2.1 dX12_firstOther_13 (lv_at hl 5 rfl) ?_
      refine lv_aload_n C.1 C.2.1 dX12_firstOther_15 rfl (lv_at hl 0 rfl) ?_
      refine mw_getr C Z hP (0) 32 (11) (by decide) rfl rfl rfl (by decide) inX12 tw_4_196 dX12_firstOther_16 ?_
      refine lv_iload_n C.1 C.2.1 dX12_firstOther_19 rfl (lv_at hl 1 rfl) ?_
      refine mw_iald C Z hP (11) (sn) (by decide) rfl (Nat.lt_of_lt_of_le (by decide : 4 < 961) (Nat.le_of_ble_eq_true rfl)) rfl (by omega) dX12_firstOther_20 ?_
      refine mw_top (y := σ.2.1 11 sn) (by first | (rw [fra.1]; done) | (rw [fra.1]; rfl)) ?_
      refine mw_top (y := nI mm) (hm) ?_
      refine lv_icmp_ge (tgt := 74) C.1 C.2.1 dX12_firstOther_21 (by decide) (fun c1 => ?_) (fun c1 => ?_)
      · have c1 := (nI_leI (by omega) (by omega)).mp c1
        refine lv_aload_n C.1 C.2.1 dX12_firstOther_74 rfl (lv_at hl 0 rfl) ?_
        refine mw_getr C Z hP (0) 7 (4) (by decide) rfl rfl rfl (by decide) inX12 tw_4_171 dX12_firstOther_75 ?_
        refine lv_iconst (v := 0) C.1 C.2.1 dX12_firstOther_78 (by decide) ?_
        refine lv_iload_n C.1 C.2.1 dX12_firstOther_79 rfl (lv_at hl 3 rfl) ?_
        refine mw_iast C Z hP hS (4) (0) (by decide) rfl (Nat.lt_of_lt_of_le (by decide : 5 < 961) (Nat.le_of_ble_eq_true rfl)) rfl (by decide) dX12_firstOther_80 (fun H locs hP hS => ?_)
        refine lv_iload C.1 C.2.1 dX12_firstOther_81 (lv_at hl 4 rfl) ?_
        exact mw_iret C hr hlk Z hP hS dX12_firstOther_83 (⟨by rw [ex]; split <;> first | (next h => rw [show mm - k = 0 by omega]; exact h) | rfl, ((fra.sa 0 (mSt σ 0))).fs (by rw [hs]; exact upd_self _ _)⟩)
      · have c1 : _ := (not_congr (nI_leI (by omega) (by omega))).mp c1
        refine lv_iload C.1 C.2.1 dX12_firstOther_24 (lv_at hl 4 rfl) ?_
        refine lv_iconst (v := -1) C.1 C.2.1 dX12_firstOther_26 (by decide) ?_
        refine lv_icmp_ne (tgt := 74) C.1 C.2.1 dX12_firstOther_27 (by decide) (fun c2 => ?_) (fun c2 => ?_)
        · refine lv_aload_n C.1 C.2.1 dX12_firstOther_74 rfl (lv_at hl 0 rfl) ?_
          refine mw_getr C Z hP (0) 7 (4) (by decide) rfl rfl rfl (by decide) inX12 tw_4_171 dX12_firstOther_75 ?_
          refine lv_iconst (v := 0) C.1 C.2.1 dX12_firstOther_78 (by decide) ?_
          refine lv_iload_n C.1 C.2.1 dX12_firstOther_79 rfl (lv_at hl 3 rfl) ?_
          refine mw_iast C Z hP hS (4) (0) (by decide) rfl (Nat.lt_of_lt_of_le (by decide : 5 < 961) (Nat.le_of_ble_eq_true rfl)) rfl (by decide) dX12_firstOther_80 (fun H locs hP hS => ?_)
          refine lv_iload C.1 C.2.1 dX12_firstOther_81 (lv_at hl 4 rfl) ?_
          exact mw_iret C hr hlk Z hP hS dX12_firstOther_83 (⟨by rw [ex, if_neg c2], ((fra.sa 0 (mSt σ 0))).fs (by rw [hs]; exact upd_self _ _)⟩)
        · refine lv_aload_n C.1 C.2.1 dX12_firstOther_30 rfl (lv_at hl 0 rfl) ?_
          refine mw_getr C Z hP (0) 7 (4) (by decide) rfl rfl rfl (by decide) inX12 tw_4_171 dX12_firstOther_31 ?_
          refine lv_iconst (v := 0) C.1 C.2.1 dX12_firstOther_34 (by decide) ?_
          refine lv_iload C.1 C.2.1 dX12_firstOther_35 (lv_at hl 5 rfl) ?_
          refine lv_iconst (v := 1) C.1 C.2.1 dX12_firstOther_37 (by decide) ?_
          refine lv_iadd C.1 C.2.1 dX12_firstOther_38 ?_
          refine mw_top (y := nI (k + 1)) (nI_1 _) ?_
          refine mw_iast C Z hP hS (4) (0) (by decide) rfl (Nat.lt_of_lt_of_le (by decide : 5 < 961) (Nat.le_of_ble_eq_true rfl)) rfl (by decide) dX12_firstOther_39 (fun H locs hP hS => ?_)
          refine lv_aload_n C.1 C.2.1 dX12_firstOther_40 rfl (lv_at hl 0 rfl) ?_
          refine lv_iload_n C.1 C.2.1 dX12_firstOther_41 rfl (lv_at hl 2 rfl) ?_
          refine mw_cVi (As := [.int (nI p)]) (rest := []) C Z hP hS (0) (cM_eatsOf l E (mw_sa ςa 4 0 (nI (k + 1))) z p (by omega) ((fra.sa 0 (nI (k + 1))).ru hru)) vb_X12_eatsOf tw_5_52 ⟨rfl, rfl⟩ ⟨Nat.le_of_ble_eq_true rfl, Nat.le_of_ble_eq_true rfl⟩ (by decide) rfl rfl rfl rfl hl.1 rfl (Nat.le_of_ble_eq_true rfl) dX12_firstOther_42 ⟨Nat.zero_le _, Nat.zero_le _⟩ (fun r3 u4 H locs q5 hP hS => ?_)
          obtain ⟨e7, f6⟩ := q5
          rw [(fra.sa 0 (nI (k + 1))).st, (fra.sa 0 (nI (k + 1))).cu, hs] at e7
          subst e7
          refine lv_aload_n C.1 C.2.1 dX12_firstOther_45 rfl (lv_at hl 0 rfl) ?_
          refine mw_getr C Z hP (0) 33 (12) (by decide) rfl rfl rfl (by decide) inX12 tw_4_197 dX12_firstOther_46 ?_
          refine lv_bipush (v := 40) C.1 C.2.1 dX12_firstOther_49 (by decide) ?_
          refine lv_iload_n C.1 C.2.1 dX12_firstOther_51 rfl (lv_at hl 1 rfl) ?_
          refine lv_imul C.1 C.2.1 dX12_firstOther_52 ?_
          refine mw_top (y := nI (40 * sn)) (pk_mul 40 sn) ?_
          refine lv_iload C.1 C.2.1 dX12_firstOther_53 (lv_at hl 5 rfl) ?_
          refine lv_iadd C.1 C.2.1 dX12_firstOther_55 ?_
          refine mw_top (y := nI (40 * sn + k)) (nI_add _ _) ?_
          refine mw_iald C Z hP (12) (40 * sn + k) (by decide) rfl (Nat.lt_of_lt_of_le (by decide : 160 < 961) (Nat.le_of_ble_eq_true rfl)) rfl (by omega) dX12_firstOther_56 ?_
          refine mw_top (y := σ.2.1 12 (40 * sn + k)) (by first | (rw [((fra.sa 0 (nI (k + 1))).tr f6).1]; done) | (rw [((fra.sa 0 (nI (k + 1))).tr f6).1]; rfl)) ?_
          refine lv_icmp_ne (tgt := 64) C.1 C.2.1 dX12_firstOther_57 (by decide) (fun c8 => ?_) (fun c8 => ?_)
          · refine lv_iload C.1 C.2.1 dX12_firstOther_64 (lv_at hl 5 rfl) ?_
            refine lv_istore (lv' := [(4, .int (nI k)), (0, .ref (mw_a E 0)), (1, .int (nI sn)), (2, .int (nI p)), (3, .int (mSt σ 0)), (5, .int (nI k))]) C.1 C.2.1 dX12_firstOther_66 hl (by decide) rfl (fun ls hl => ?_)
            refine lv_iinc (v := nI (k + 1)) (lv' := [(5, .int (nI (k + 1))), (4, .int (nI k)), (0, .ref (mw_a E 0)), (1, .int (nI sn)), (2, .int (nI p)), (3, .int (mSt σ 0))]) C.1 C.2.1 dX12_firstOther_68 hl (k := 5) rfl (nI_1 _) (by decide) rfl (fun ls hl => ?_)
            refine lv_goto (tgt := 13) C.1 C.2.1 dX12_firstOther_71 (by decide) ?_
            exact iha (k + 1) (nI k) (upd (s') 0 (nI (k + 1))) u4 _ _ (by omega) (by omega) (by rw [ex, if_pos c2, show mm - k = (mm - (k + 1)) + 1 by omega]; show (if _ = _ then _ else _) = _; rw [if_neg c8, if_neg (nI_nm1 (by omega))]) (fun v => by rw [upd_upd]; exact hs v) ((fra.sa 0 (nI (k + 1))).tr f6) hP hS ls (lv_sub hl [2, 3, 4, 5, 1, 0] rfl)
          · refine lv_iconst (v := -1) C.1 C.2.1 dX12_firstOther_60 (by decide) ?_
            refine lv_goto (tgt := 66) C.1 C.2.1 dX12_firstOther_61 (by decide) ?_
            refine lv_istore (lv' := [(4, .int (-1)), (0, .ref (mw_a E 0)), (1, .int (nI sn)), (2, .int (nI p)), (3, .int (mSt σ 0)), (5, .int (nI k))]) C.1 C.2.1 dX12_firstOther_66 hl (by decide) rfl (fun ls hl => ?_)
            refine lv_iinc (v := nI (k + 1)) (lv' := [(5, .int (nI (k + 1))), (4, .int (-1)), (0, .ref (mw_a E 0)), (1, .int (nI sn)), (2, .int (nI p)), (3, .int (mSt σ 0))]) C.1 C.2.1 dX12_firstOther_68 hl (k := 5) rfl (nI_1 _) (by decide) rfl (fun ls hl => ?_)
            refine lv_goto (tgt := 13) C.1 C.2.1 dX12_firstOther_71 (by decide) ?_
            exact iha (k + 1) (-1) (upd (s') 0 (nI (k + 1))) u4 _ _ (by omega) (by omega) (by rw [ex, if_pos c2, show mm - k = (mm - (k + 1)) + 1 by omega]; show (if _ = _ then _ else _) = _; rw [if_pos c8, if_pos rfl]) (fun v => by rw [upd_upd]; exact hs v) ((fra.sa 0 (nI (k + 1))).tr f6) hP hS ls (lv_sub hl [2, 3, 4, 5, 1, 0] rfl)
  exact lpa (mm + 1) 0 (-1) (mSt σ) σ _ _ (by omega) (by omega) (by rw [if_pos rfl]; rfl) (fun v => rfl) (mFs.rf σ).as hP hS ls (lv_sub hl [3, 4, 5, 2, 1, 0] rfl)

set_option maxHeartbeats 4000000 in
set_option maxRecDepth 100000 in
theorem cM_told (l : Launch) (E : mw_E) (σ : mw_M) (z : zP) (n : Nat) (hn : σ.1 0 10 = nI n) (h8 : n ≤ 8) (hru : mRu σ z) (oo ww : Int32) : mw_Ci shM 13 gM l yX12_told cX12_told 3 (some .int) (rmF 46 1019) E [.ref (mw_a E 0), .int oo, .int ww] σ (fun r u => r = toldF z (mSt σ) (mCu σ) n oo ww ∧ mFs σ u) := by
  refine mw_of (by decide) gM_ok (Nat.le_of_ble_eq_true rfl) ?_
  intro p_ e_ s_ m_ below meth c_ C hr hlk Z hP ls hl
  have C : CallFix p_ m_ c_ cX12_told 3 s_ _ lw_good RX12 := C
  have hl : lv_has ls 3 [(0, .ref (mw_a E 0)), (1, .int oo), (2, .int ww)] := hl
  have hS : va_S (mw_A 13 E) s_.heap s_.heap [] := va_S.rf
  refine lv_iload_n C.1 C.2.1 dX12_told_0 rfl (lv_at hl 2 rfl) ?_
  refine lv_i2l C.1 C.2.1 dX12_told_1 rfl ?_
  refine lv_lconst (v := 0) C.1 C.2.1 dX12_told_2 (by decide) ?_
  refine lv_ldc2 (own := RX12) C.1 C.2.1 C.2.2.2.1 (C.2.2.2.2 _ tw_5_50) dX12_told_3 ?_
  refine mw_cSi (As := [.long (ww.toInt64), .long (0), .long (15)]) (rest := []) C Z hP hS (cM_in l E σ (ww.toInt64) 0 15 (0 ≤ ww.toInt ∧ ww.toInt ≤ 15) (by first | (simp only [nl_i]; exact Iff.rfl) | (simp only [nl_i]; decide) | simp [nl_i])) sb_X12_in tw_5_33 ⟨rfl, rfl⟩ ⟨Nat.le_of_ble_eq_true rfl, Nat.le_of_ble_eq_true rfl⟩ rfl hl.1 rfl (Nat.le_of_ble_eq_true rfl) dX12_told_6 ⟨Nat.zero_le _, Nat.zero_le _⟩ (fun r1 u2 H locs q3 hP hS => ?_)
  obtain ⟨rfl, q3u⟩ := q3
  rw [q3u] at hP; clear q3u
  refine lv_if_eq (tgt := 25) C.1 C.2.1 dX12_told_9 (by decide) (fun c4 => ?_) (fun c4 => ?_)
  · have c4 := bI_0.mp c4
    refine lv_ldc (own := RX12) C.1 C.2.1 C.2.2.2.1 (C.2.2.2.2 _ tw_5_51) dX12_told_25 ?_
    exact mw_iret C hr hlk Z hP hS dX12_told_27 (⟨by unfold toldF; rw [if_pos (Or.inl c4)], (mFs.rf σ)⟩)
  · have c4 := bI_n.mp c4
    have hrg := c4
    obtain ⟨w, hw, ew0⟩ := nI_ofI (k := 15) hrg.1 hrg.2
    subst ew0
    refine lv_iload_n C.1 C.2.1 dX12_told_12 rfl (lv_at hl 2 rfl) ?_
    refine lv_iconst (v := 4) C.1 C.2.1 dX12_told_13 (by decide) ?_
    refine lv_icmp_le (tgt := 28) C.1 C.2.1 dX12_told_14 (by decide) (fun c5 => ?_) (fun c5 => ?_)
    · have c5 : w ≤ 4 := (nI_leI (b := 4) (by omega) (by decide)).mp c5
      have hno : ¬ (4 < (nI w).toInt ∧ ¬ (0 ≤ oo.toInt ∧ oo.toInt < n)) := fun y => by have := y.1; rw [nI_toInt (by omega)] at this; omega
      refine lv_iload_n C.1 C.2.1 dX12_told_28 rfl (lv_at hl 2 rfl) ?_
      refine lv_iconst (v := 5) C.1 C.2.1 dX12_told_29 (by decide) ?_
      refine lv_icmp_ge (tgt := 40) C.1 C.2.1 dX12_told_30 (by decide) (fun c6 => ?_) (fun c6 => ?_)
      · have c6 : 5 ≤ w := (nI_leI (a := 5) (by decide) (by omega)).mp c6
        exfalso; omega
      · have c6 : ¬ 5 ≤ w := (not_congr (nI_leI (a := 5) (by decide) (by omega))).mp c6
        refine lv_aload_n C.1 C.2.1 dX12_told_33 rfl (lv_at hl 0 rfl) ?_
        refine mw_getr C Z hP (0) 7 (4) (by decide) rfl rfl rfl (by decide) inX12 tw_4_171 dX12_told_34 ?_
        refine lv_iload_n C.1 C.2.1 dX12_told_37 rfl (lv_at hl 2 rfl) ?_
        refine mw_iald C Z hP (4) (w) (by decide) rfl (Nat.lt_of_lt_of_le (by decide : 5 < 961) (Nat.le_of_ble_eq_true rfl)) rfl (by omega) dX12_told_38 ?_
        have ew : (nI w).toNatClampNeg = w := nI_clamp (by omega)
        have e1 : toldF z (mSt σ) (mCu σ) n oo (nI w) = tdF z (mSt σ) (mCu σ oo.toNatClampNeg) w := by unfold toldF; rw [if_neg (fun y => y.elim (fun y => y hrg) hno), ew]
        exact mw_iret C hr hlk Z hP hS dX12_told_39 (⟨by rw [e1]; unfold tdF; rw [if_pos (by omega)]; rfl, (mFs.rf σ)⟩)
    · have c5 : ¬ w ≤ 4 := (not_congr (nI_leI (b := 4) (by omega) (by decide))).mp c5
      refine lv_aload_n C.1 C.2.1 dX12_told_17 rfl (lv_at hl 0 rfl) ?_
      refine lv_iload_n C.1 C.2.1 dX12_told_18 rfl (lv_at hl 1 rfl) ?_
      refine mw_cVi (As := [.int oo]) (rest := []) C Z hP hS (0) (cM_isOne l E σ oo n hn h8) vb_X12_isOne tw_5_36 ⟨rfl, rfl⟩ ⟨Nat.le_of_ble_eq_true rfl, Nat.le_of_ble_eq_true rfl⟩ (by decide) rfl rfl rfl rfl hl.1 rfl (Nat.le_of_ble_eq_true rfl) dX12_told_19 ⟨Nat.zero_le _, Nat.zero_le _⟩ (fun r7 u8 H locs q9 hP hS => ?_)
      obtain ⟨rfl, q9u⟩ := q9
      rw [q9u] at hP; clear q9u
      refine lv_if_ne (tgt := 28) C.1 C.2.1 dX12_told_22 (by decide) (fun c10 => ?_) (fun c10 => ?_)
      · have c10 := bI_n.mp c10
        have hno : ¬ (4 < (nI w).toInt ∧ ¬ (0 ≤ oo.toInt ∧ oo.toInt < n)) := fun y => y.2 c10
        have hro := c10
        obtain ⟨q, hq, eq⟩ := nI_ofI (k := 7) hro.1 (by omega)
        subst eq
        refine lv_iload_n C.1 C.2.1 dX12_told_28 rfl (lv_at hl 2 rfl) ?_
        refine lv_iconst (v := 5) C.1 C.2.1 dX12_told_29 (by decide) ?_
        refine lv_icmp_ge (tgt := 40) C.1 C.2.1 dX12_told_30 (by decide) (fun c11 => ?_) (fun c11 => ?_)
        · have c11 : 5 ≤ w := (nI_leI (a := 5) (by decide) (by omega)).mp c11
          refine lv_iload_n C.1 C.2.1 dX12_told_40 rfl (lv_at hl 2 rfl) ?_
          refine lv_bipush (v := 10) C.1 C.2.1 dX12_told_41 (by decide) ?_
          refine lv_icmp_ge (tgt := 93) C.1 C.2.1 dX12_told_43 (by decide) (fun c12 => ?_) (fun c12 => ?_)
          · have c12 : 10 ≤ w := (nI_leI (a := 10) (by decide) (by omega)).mp c12
            refine lv_iload_n C.1 C.2.1 dX12_told_93 rfl (lv_at hl 2 rfl) ?_
            refine lv_bipush (v := 13) C.1 C.2.1 dX12_told_94 (by decide) ?_
            refine lv_icmp_ge (tgt := 133) C.1 C.2.1 dX12_told_96 (by decide) (fun c13 => ?_) (fun c13 => ?_)
            · have c13 : 13 ≤ w := (nI_leI (a := 13) (by decide) (by omega)).mp c13
              refine lv_iload_n C.1 C.2.1 dX12_told_133 rfl (lv_at hl 2 rfl) ?_
              refine lv_bipush (v := 13) C.1 C.2.1 dX12_told_134 (by decide) ?_
              refine lv_icmp_ne (tgt := 155) C.1 C.2.1 dX12_told_136 (by decide) (fun c14 => ?_) (fun c14 => ?_)
              · have c14 : ¬ w = 13 := (not_congr (nI_eq (b := 13) (by omega) (by decide))).mp c14
                refine lv_iload_n C.1 C.2.1 dX12_told_155 rfl (lv_at hl 2 rfl) ?_
                refine lv_bipush (v := 14) C.1 C.2.1 dX12_told_156 (by decide) ?_
                refine lv_icmp_ne (tgt := 169) C.1 C.2.1 dX12_told_158 (by decide) (fun c15 => ?_) (fun c15 => ?_)
                · have c15 : ¬ w = 14 := (not_congr (nI_eq (b := 14) (by omega) (by decide))).mp c15
                  refine lv_aload_n C.1 C.2.1 dX12_told_169 rfl (lv_at hl 0 rfl) ?_
                  refine lv_iload_n C.1 C.2.1 dX12_told_170 rfl (lv_at hl 1 rfl) ?_
                  refine mw_cVi (As := [.int (nI q)]) (rest := []) C Z hP hS (0) (cM_gainOf l E σ z q (by omega) ((mFs.rf σ).ru hru)) vb_X12_gainOf tw_6_30 ⟨rfl, rfl⟩ ⟨Nat.le_of_ble_eq_true rfl, Nat.le_of_ble_eq_true rfl⟩ (by decide) rfl rfl rfl rfl hl.1 rfl (Nat.le_of_ble_eq_true rfl) dX12_told_171 ⟨Nat.zero_le _, Nat.zero_le _⟩ (fun r16 u17 H locs q18 hP hS => ?_)
                  obtain ⟨e20, f19⟩ := q18
                  rw [(mFs.rf σ).st, (mFs.rf σ).cu] at e20
                  subst e20
                  have ew : (nI w).toNatClampNeg = w := nI_clamp (by omega)
                  have e1 : toldF z (mSt σ) (mCu σ) n (nI q) (nI w) = tdF z (mSt σ) (mCu σ q) w := by unfold toldF; rw [if_neg (fun y => y.elim (fun y => y hrg) hno), ew, nI_clamp (n := q) (by omega)]
                  exact mw_iret C hr hlk Z hP hS dX12_told_174 (⟨by rw [e1]; unfold tdF; rw [if_neg (by omega)]; rw [if_neg (by omega)]; rw [if_neg (by omega)]; rw [if_neg (by omega)]; rw [if_neg (by omega)]; rw [if_neg (by omega)]; rw [if_neg (by omega)]; rw [if_neg (by omega)]; rw [if_neg (by omega)], ((mFs.rf σ).tr f19)⟩)
                · have c15 : w = 14 := (nI_eq (b := 14) (by omega) (by decide)).mp c15
                  refine lv_aload_n C.1 C.2.1 dX12_told_161 rfl (lv_at hl 0 rfl) ?_
                  refine lv_iload_n C.1 C.2.1 dX12_told_162 rfl (lv_at hl 1 rfl) ?_
                  refine mw_cVi (As := [.int (nI q)]) (rest := []) C Z hP hS (0) (cM_costOf l E σ z q (by omega) ((mFs.rf σ).ru hru)) vb_X12_costOf tw_6_26 ⟨rfl, rfl⟩ ⟨Nat.le_of_ble_eq_true rfl, Nat.le_of_ble_eq_true rfl⟩ (by decide) rfl rfl rfl rfl hl.1 rfl (Nat.le_of_ble_eq_true rfl) dX12_told_163 ⟨Nat.zero_le _, Nat.zero_le _⟩ (fun r21 u22 H locs q23 hP hS => ?_)
                  obtain ⟨e25, f24⟩ := q23
                  rw [(mFs.rf σ).st, (mFs.rf σ).cu] at e25
                  subst e25
                  refine lv_goto (tgt := 174) C.1 C.2.1 dX12_told_166 (by decide) ?_
                  have ew : (nI w).toNatClampNeg = w := nI_clamp (by omega)
                  have e1 : toldF z (mSt σ) (mCu σ) n (nI q) (nI w) = tdF z (mSt σ) (mCu σ q) w := by unfold toldF; rw [if_neg (fun y => y.elim (fun y => y hrg) hno), ew, nI_clamp (n := q) (by omega)]
                  exact mw_iret C hr hlk Z hP hS dX12_told_174 (⟨by rw [e1]; unfold tdF; rw [if_neg (by omega)]; rw [if_neg (by omega)]; rw [if_neg (by omega)]; rw [if_neg (by omega)]; rw [if_neg (by omega)]; rw [if_neg (by omega)]; rw [if_neg (by omega)]; rw [if_neg (by omega)]; rw [if_pos (by omega)], ((mFs.rf σ).tr f24)⟩)
              · have c14 : w = 13 := (nI_eq (b := 13) (by omega) (by decide)).mp c14
                refine lv_aload_n C.1 C.2.1 dX12_told_139 rfl (lv_at hl 0 rfl) ?_
                refine lv_iload_n C.1 C.2.1 dX12_told_140 rfl (lv_at hl 1 rfl) ?_
                refine mw_cVi (As := [.int (nI q)]) (rest := []) C Z hP hS (0) (cM_isThereNow l E σ q (by omega)) vb_X12_isThereNow tw_6_22 ⟨rfl, rfl⟩ ⟨Nat.le_of_ble_eq_true rfl, Nat.le_of_ble_eq_true rfl⟩ (by decide) rfl rfl rfl rfl hl.1 rfl (Nat.le_of_ble_eq_true rfl) dX12_told_141 ⟨Nat.zero_le _, Nat.zero_le _⟩ (fun r26 u27 H locs q28 hP hS => ?_)
                obtain ⟨e30, f29⟩ := q28
                rw [(mFs.rf σ).st, (mFs.rf σ).cu] at e30
                subst e30
                refine lv_if_eq (tgt := 151) C.1 C.2.1 dX12_told_144 (by decide) (fun c31 => ?_) (fun c31 => ?_)
                · have c31 := bI_0.mp c31
                  refine lv_iconst (v := 0) C.1 C.2.1 dX12_told_151 (by decide) ?_
                  refine lv_goto (tgt := 174) C.1 C.2.1 dX12_told_152 (by decide) ?_
                  have ew : (nI w).toNatClampNeg = w := nI_clamp (by omega)
                  have e1 : toldF z (mSt σ) (mCu σ) n (nI q) (nI w) = tdF z (mSt σ) (mCu σ q) w := by unfold toldF; rw [if_neg (fun y => y.elim (fun y => y hrg) hno), ew, nI_clamp (n := q) (by omega)]
                  exact mw_iret C hr hlk Z hP hS dX12_told_174 (⟨by rw [e1]; unfold tdF; rw [if_neg (by omega)]; rw [if_neg (by omega)]; rw [if_neg (by omega)]; rw [if_neg (by omega)]; rw [if_neg (by omega)]; rw [if_neg (by omega)]; rw [if_neg (by omega)]; rw [if_pos (by omega)]; rw [bI_f c31], ((mFs.rf σ).tr f29)⟩)
                · have c31 := bI_n.mp c31
                  refine lv_iconst (v := 1) C.1 C.2.1 dX12_told_147 (by decide) ?_
                  refine lv_goto (tgt := 174) C.1 C.2.1 dX12_told_148 (by decide) ?_
                  have ew : (nI w).toNatClampNeg = w := nI_clamp (by omega)
                  have e1 : toldF z (mSt σ) (mCu σ) n (nI q) (nI w) = tdF z (mSt σ) (mCu σ q) w := by unfold toldF; rw [if_neg (fun y => y.elim (fun y => y hrg) hno), ew, nI_clamp (n := q) (by omega)]
                  exact mw_iret C hr hlk Z hP hS dX12_told_174 (⟨by rw [e1]; unfold tdF; rw [if_neg (by omega)]; rw [if_neg (by omega)]; rw [if_neg (by omega)]; rw [if_neg (by omega)]; rw [if_neg (by omega)]; rw [if_neg (by omega)]; rw [if_neg (by omega)]; rw [if_pos (by omega)]; rw [bI_t c31], ((mFs.rf σ).tr f29)⟩)
            · have c13 : ¬ 13 ≤ w := (not_congr (nI_leI (a := 13) (by decide) (by omega))).mp c13
              refine lv_iload_n C.1 C.2.1 dX12_told_99 rfl (lv_at hl 2 rfl) ?_
              refine lv_bipush (v := 10) C.1 C.2.1 dX12_told_100 (by decide) ?_
              refine lv_icmp_ne (tgt := 113) C.1 C.2.1 dX12_told_102 (by decide) (fun c32 => ?_) (fun c32 => ?_)
              · have c32 : ¬ w = 10 := (not_congr (nI_eq (b := 10) (by omega) (by decide))).mp c32
                refine lv_iload_n C.1 C.2.1 dX12_told_113 rfl (lv_at hl 2 rfl) ?_
                refine lv_bipush (v := 11) C.1 C.2.1 dX12_told_114 (by decide) ?_
                refine lv_icmp_ne (tgt := 127) C.1 C.2.1 dX12_told_116 (by decide) (fun c33 => ?_) (fun c33 => ?_)
                · have c33 : ¬ w = 11 := (not_congr (nI_eq (b := 11) (by omega) (by decide))).mp c33
                  refine lv_aload_n C.1 C.2.1 dX12_told_127 rfl (lv_at hl 0 rfl) ?_
                  refine lv_iload_n C.1 C.2.1 dX12_told_128 rfl (lv_at hl 1 rfl) ?_
                  refine mw_cVi (As := [.int (nI q)]) (rest := []) C Z hP hS (0) (cM_spendsOf l E σ z q (by omega) ((mFs.rf σ).ru hru)) vb_X12_spendsOf tw_6_18 ⟨rfl, rfl⟩ ⟨Nat.le_of_ble_eq_true rfl, Nat.le_of_ble_eq_true rfl⟩ (by decide) rfl rfl rfl rfl hl.1 rfl (Nat.le_of_ble_eq_true rfl) dX12_told_129 ⟨Nat.zero_le _, Nat.zero_le _⟩ (fun r34 u35 H locs q36 hP hS => ?_)
                  obtain ⟨e38, f37⟩ := q36
                  rw [(mFs.rf σ).st, (mFs.rf σ).cu] at e38
                  subst e38
                  have ew : (nI w).toNatClampNeg = w := nI_clamp (by omega)
                  have e1 : toldF z (mSt σ) (mCu σ) n (nI q) (nI w) = tdF z (mSt σ) (mCu σ q) w := by unfold toldF; rw [if_neg (fun y => y.elim (fun y => y hrg) hno), ew, nI_clamp (n := q) (by omega)]
                  exact mw_iret C hr hlk Z hP hS dX12_told_132 (⟨by rw [e1]; unfold tdF; rw [if_neg (by omega)]; rw [if_neg (by omega)]; rw [if_neg (by omega)]; rw [if_neg (by omega)]; rw [if_neg (by omega)]; rw [if_neg (by omega)]; rw [if_pos (by omega)], ((mFs.rf σ).tr f37)⟩)
                · have c33 : w = 11 := (nI_eq (b := 11) (by omega) (by decide)).mp c33
                  refine lv_aload_n C.1 C.2.1 dX12_told_119 rfl (lv_at hl 0 rfl) ?_
                  refine lv_iload_n C.1 C.2.1 dX12_told_120 rfl (lv_at hl 1 rfl) ?_
                  refine mw_cVi (As := [.int (nI q)]) (rest := []) C Z hP hS (0) (cM_triesOf l E σ z q (by omega) ((mFs.rf σ).ru hru)) vb_X12_triesOf tw_6_14 ⟨rfl, rfl⟩ ⟨Nat.le_of_ble_eq_true rfl, Nat.le_of_ble_eq_true rfl⟩ (by decide) rfl rfl rfl rfl hl.1 rfl (Nat.le_of_ble_eq_true rfl) dX12_told_121 ⟨Nat.zero_le _, Nat.zero_le _⟩ (fun r39 u40 H locs q41 hP hS => ?_)
                  obtain ⟨e43, f42⟩ := q41
                  rw [(mFs.rf σ).st, (mFs.rf σ).cu] at e43
                  subst e43
                  refine lv_goto (tgt := 132) C.1 C.2.1 dX12_told_124 (by decide) ?_
                  have ew : (nI w).toNatClampNeg = w := nI_clamp (by omega)
                  have e1 : toldF z (mSt σ) (mCu σ) n (nI q) (nI w) = tdF z (mSt σ) (mCu σ q) w := by unfold toldF; rw [if_neg (fun y => y.elim (fun y => y hrg) hno), ew, nI_clamp (n := q) (by omega)]
                  exact mw_iret C hr hlk Z hP hS dX12_told_132 (⟨by rw [e1]; unfold tdF; rw [if_neg (by omega)]; rw [if_neg (by omega)]; rw [if_neg (by omega)]; rw [if_neg (by omega)]; rw [if_neg (by omega)]; rw [if_pos (by omega)], ((mFs.rf σ).tr f42)⟩)
              · have c32 : w = 10 := (nI_eq (b := 10) (by omega) (by decide)).mp c32
                refine lv_aload_n C.1 C.2.1 dX12_told_105 rfl (lv_at hl 0 rfl) ?_
                refine lv_iload_n C.1 C.2.1 dX12_told_106 rfl (lv_at hl 1 rfl) ?_
                refine mw_cVi (As := [.int (nI q)]) (rest := []) C Z hP hS (0) (cM_eatsOf l E σ z q (by omega) ((mFs.rf σ).ru hru)) vb_X12_eatsOf tw_5_52 ⟨rfl, rfl⟩ ⟨Nat.le_of_ble_eq_true rfl, Nat.le_of_ble_eq_true rfl⟩ (by decide) rfl rfl rfl rfl hl.1 rfl (Nat.le_of_ble_eq_true rfl) dX12_told_107 ⟨Nat.zero_le _, Nat.zero_le _⟩ (fun r44 u45 H locs q46 hP hS => ?_)
                obtain ⟨e48, f47⟩ := q46
                rw [(mFs.rf σ).st, (mFs.rf σ).cu] at e48
                subst e48
                refine lv_goto (tgt := 132) C.1 C.2.1 dX12_told_110 (by decide) ?_
                have ew : (nI w).toNatClampNeg = w := nI_clamp (by omega)
                have e1 : toldF z (mSt σ) (mCu σ) n (nI q) (nI w) = tdF z (mSt σ) (mCu σ q) w := by unfold toldF; rw [if_neg (fun y => y.elim (fun y => y hrg) hno), ew, nI_clamp (n := q) (by omega)]
                exact mw_iret C hr hlk Z hP hS dX12_told_132 (⟨by rw [e1]; unfold tdF; rw [if_neg (by omega)]; rw [if_neg (by omega)]; rw [if_neg (by omega)]; rw [if_neg (by omega)]; rw [if_pos (by omega)], ((mFs.rf σ).tr f47)⟩)
          · have c12 : ¬ 10 ≤ w := (not_congr (nI_leI (a := 10) (by decide) (by omega))).mp c12
            refine lv_iload_n C.1 C.2.1 dX12_told_46 rfl (lv_at hl 2 rfl) ?_
            refine lv_bipush (v := 8) C.1 C.2.1 dX12_told_47 (by decide) ?_
            refine lv_icmp_ge (tgt := 67) C.1 C.2.1 dX12_told_49 (by decide) (fun c49 => ?_) (fun c49 => ?_)
            · have c49 : 8 ≤ w := (nI_leI (a := 8) (by decide) (by omega)).mp c49
              refine lv_iload_n C.1 C.2.1 dX12_told_67 rfl (lv_at hl 2 rfl) ?_
              refine lv_bipush (v := 8) C.1 C.2.1 dX12_told_68 (by decide) ?_
              refine lv_icmp_ne (tgt := 82) C.1 C.2.1 dX12_told_70 (by decide) (fun c50 => ?_) (fun c50 => ?_)
              · have c50 : ¬ w = 8 := (not_congr (nI_eq (b := 8) (by omega) (by decide))).mp c50
                refine lv_aload_n C.1 C.2.1 dX12_told_82 rfl (lv_at hl 0 rfl) ?_
                refine mw_getr C Z hP (0) 9 (6) (by decide) rfl rfl rfl (by decide) inX12 tw_4_173 dX12_told_83 ?_
                refine lv_iconst (v := 4) C.1 C.2.1 dX12_told_86 (by decide) ?_
                refine lv_iload_n C.1 C.2.1 dX12_told_87 rfl (lv_at hl 1 rfl) ?_
                refine lv_imul C.1 C.2.1 dX12_told_88 ?_
                refine mw_top (y := nI (4 * q)) (pk_mul 4 q) ?_
                refine lv_iconst (v := 3) C.1 C.2.1 dX12_told_89 (by decide) ?_
                refine lv_iadd C.1 C.2.1 dX12_told_90 ?_
                refine mw_top (y := nI (4 * q + 3)) (nI_add _ 3) ?_
                refine mw_iald C Z hP (6) (4 * q + 3) (by decide) rfl (Nat.lt_of_lt_of_le (by decide : 32 < 961) (Nat.le_of_ble_eq_true rfl)) rfl (by omega) dX12_told_91 ?_
                have ew : (nI w).toNatClampNeg = w := nI_clamp (by omega)
                have e1 : toldF z (mSt σ) (mCu σ) n (nI q) (nI w) = tdF z (mSt σ) (mCu σ q) w := by unfold toldF; rw [if_neg (fun y => y.elim (fun y => y hrg) hno), ew, nI_clamp (n := q) (by omega)]
                exact mw_iret C hr hlk Z hP hS dX12_told_92 (⟨by rw [e1]; unfold tdF; rw [if_neg (by omega)]; rw [if_neg (by omega)]; rw [if_neg (by omega)]; rw [if_pos (by omega)]; rfl, (mFs.rf σ)⟩)
              · have c50 : w = 8 := (nI_eq (b := 8) (by omega) (by decide)).mp c50
                refine lv_aload_n C.1 C.2.1 dX12_told_73 rfl (lv_at hl 0 rfl) ?_
                refine mw_getr C Z hP (0) 8 (5) (by decide) rfl rfl rfl (by decide) inX12 tw_4_172 dX12_told_74 ?_
                refine lv_iload_n C.1 C.2.1 dX12_told_77 rfl (lv_at hl 1 rfl) ?_
                refine mw_iald C Z hP (5) (q) (by decide) rfl (Nat.lt_of_lt_of_le (by decide : 8 < 961) (Nat.le_of_ble_eq_true rfl)) rfl (by omega) dX12_told_78 ?_
                refine lv_goto (tgt := 92) C.1 C.2.1 dX12_told_79 (by decide) ?_
                have ew : (nI w).toNatClampNeg = w := nI_clamp (by omega)
                have e1 : toldF z (mSt σ) (mCu σ) n (nI q) (nI w) = tdF z (mSt σ) (mCu σ q) w := by unfold toldF; rw [if_neg (fun y => y.elim (fun y => y hrg) hno), ew, nI_clamp (n := q) (by omega)]
                exact mw_iret C hr hlk Z hP hS dX12_told_92 (⟨by rw [e1]; unfold tdF; rw [if_neg (by omega)]; rw [if_neg (by omega)]; rw [if_pos (by omega)]; rfl, (mFs.rf σ)⟩)
            · have c49 : ¬ 8 ≤ w := (not_congr (nI_leI (a := 8) (by decide) (by omega))).mp c49
              refine lv_aload_n C.1 C.2.1 dX12_told_52 rfl (lv_at hl 0 rfl) ?_
              refine mw_getr C Z hP (0) 9 (6) (by decide) rfl rfl rfl (by decide) inX12 tw_4_173 dX12_told_53 ?_
              refine lv_iconst (v := 4) C.1 C.2.1 dX12_told_56 (by decide) ?_
              refine lv_iload_n C.1 C.2.1 dX12_told_57 rfl (lv_at hl 1 rfl) ?_
              refine lv_imul C.1 C.2.1 dX12_told_58 ?_
              refine mw_top (y := nI (4 * q)) (pk_mul 4 q) ?_
              refine lv_iload_n C.1 C.2.1 dX12_told_59 rfl (lv_at hl 2 rfl) ?_
              refine lv_iadd C.1 C.2.1 dX12_told_60 ?_
              refine mw_top (y := nI (4 * q + w)) (nI_add _ _) ?_
              refine lv_iconst (v := 5) C.1 C.2.1 dX12_told_61 (by decide) ?_
              refine lv_isub C.1 C.2.1 dX12_told_62 ?_
              refine mw_top (y := nI (4 * q + (w - 5))) (by rw [show (4 * q + (w - 5)) = 4 * q + w - 5 by omega]; exact pk_sub (b := 5) (by omega)) ?_
              refine mw_iald C Z hP (6) (4 * q + (w - 5)) (by decide) rfl (Nat.lt_of_lt_of_le (by decide : 32 < 961) (Nat.le_of_ble_eq_true rfl)) rfl (by omega) dX12_told_63 ?_
              refine lv_goto (tgt := 92) C.1 C.2.1 dX12_told_64 (by decide) ?_
              have ew : (nI w).toNatClampNeg = w := nI_clamp (by omega)
              have e1 : toldF z (mSt σ) (mCu σ) n (nI q) (nI w) = tdF z (mSt σ) (mCu σ q) w := by unfold toldF; rw [if_neg (fun y => y.elim (fun y => y hrg) hno), ew, nI_clamp (n := q) (by omega)]
              exact mw_iret C hr hlk Z hP hS dX12_told_92 (⟨by rw [e1]; unfold tdF; rw [if_neg (by omega)]; rw [if_pos (by omega)]; show _ = (if w - 4 = 0 then _ else _); rw [if_neg (by omega), show w - 4 - 1 = w - 5 by omega], (mFs.rf σ)⟩)
        · have c11 : ¬ 5 ≤ w := (not_congr (nI_leI (a := 5) (by decide) (by omega))).mp c11
          exfalso; omega
      · have c10 := bI_0.mp c10
        refine lv_ldc (own := RX12) C.1 C.2.1 C.2.2.2.1 (C.2.2.2.2 _ tw_5_51) dX12_told_25 ?_
        exact mw_iret C hr hlk Z hP hS dX12_told_27 (⟨by unfold toldF; rw [if_pos (Or.inr ⟨by rw [nI_toInt (by omega)]; omega, c10⟩)], (mFs.rf σ)⟩)

set_option maxHeartbeats 4000000 in
set_option maxRecDepth 100000 in
theorem cM_lays0 (l : Launch) (E : mw_E) (σ : mw_M) (oo v : Int32) : mw_Cv shM 13 gM l yX12_lays cX12_lays 4 none (rmF 0 0) E [.ref (mw_a E 0), .int 0, .int oo, .int v] σ (fun u => u = mw_sa σ 4 0 v) := by
  refine mw_of (by decide) gM_ok (Nat.le_of_ble_eq_true rfl) ?_
  intro p_ e_ s_ m_ below meth c_ C hr hlk Z hP ls hl
  have C : CallFix p_ m_ c_ cX12_lays 4 s_ _ lw_good RX12 := C
  have hl : lv_has ls 4 [(0, .ref (mw_a E 0)), (1, .int 0), (2, .int oo), (3, .int v)] := hl
  have hS : va_S (mw_A 13 E) s_.heap s_.heap [] := va_S.rf
  refine lv_iload_n C.1 C.2.1 dX12_lays_0 rfl (lv_at hl 1 rfl) ?_
  refine lv_iconst (v := 5) C.1 C.2.1 dX12_lays_1 (by decide) ?_
  refine lv_icmp_ge (tgt := 15) C.1 C.2.1 dX12_lays_2 (by decide) (fun c1 => ?_) (fun c1 => ?_)
  · exact absurd c1 (by decide)
  · refine lv_aload_n C.1 C.2.1 dX12_lays_5 rfl (lv_at hl 0 rfl) ?_
    refine mw_getr C Z hP (0) 7 (4) (by decide) rfl rfl rfl (by decide) inX12 tw_4_171 dX12_lays_6 ?_
    refine lv_iload_n C.1 C.2.1 dX12_lays_9 rfl (lv_at hl 1 rfl) ?_
    refine lv_iload_n C.1 C.2.1 dX12_lays_10 rfl (lv_at hl 3 rfl) ?_
    refine mw_iast C Z hP hS (4) (0) (by decide) rfl (Nat.lt_of_lt_of_le (by decide : 5 < 961) (Nat.le_of_ble_eq_true rfl)) rfl (by decide) dX12_lays_11 (fun H locs hP hS => ?_)
    refine lv_goto (tgt := 58) C.1 C.2.1 dX12_lays_12 (by decide) ?_
    exact mw_vret C hr hlk Z hP hS dX12_lays_58 (rfl)

set_option maxHeartbeats 4000000 in
set_option maxRecDepth 100000 in
theorem cM_lays1 (l : Launch) (E : mw_E) (σ : mw_M) (oo v : Int32) : mw_Cv shM 13 gM l yX12_lays cX12_lays 4 none (rmF 0 0) E [.ref (mw_a E 0), .int 1, .int oo, .int v] σ (fun u => u = mw_sa σ 4 1 v) := by
  refine mw_of (by decide) gM_ok (Nat.le_of_ble_eq_true rfl) ?_
  intro p_ e_ s_ m_ below meth c_ C hr hlk Z hP ls hl
  have C : CallFix p_ m_ c_ cX12_lays 4 s_ _ lw_good RX12 := C
  have hl : lv_has ls 4 [(0, .ref (mw_a E 0)), (1, .int 1), (2, .int oo), (3, .int v)] := hl
  have hS : va_S (mw_A 13 E) s_.heap s_.heap [] := va_S.rf
  refine lv_iload_n C.1 C.2.1 dX12_lays_0 rfl (lv_at hl 1 rfl) ?_
  refine lv_iconst (v := 5) C.1 C.2.1 dX12_lays_1 (by decide) ?_
  refine lv_icmp_ge (tgt := 15) C.1 C.2.1 dX12_lays_2 (by decide) (fun c1 => ?_) (fun c1 => ?_)
  · exact absurd c1 (by decide)
  · refine lv_aload_n C.1 C.2.1 dX12_lays_5 rfl (lv_at hl 0 rfl) ?_
    refine mw_getr C Z hP (0) 7 (4) (by decide) rfl rfl rfl (by decide) inX12 tw_4_171 dX12_lays_6 ?_
    refine lv_iload_n C.1 C.2.1 dX12_lays_9 rfl (lv_at hl 1 rfl) ?_
    refine lv_iload_n C.1 C.2.1 dX12_lays_10 rfl (lv_at hl 3 rfl) ?_
    refine mw_iast C Z hP hS (4) (1) (by decide) rfl (Nat.lt_of_lt_of_le (by decide : 5 < 961) (Nat.le_of_ble_eq_true rfl)) rfl (by decide) dX12_lays_11 (fun H locs hP hS => ?_)
    refine lv_goto (tgt := 58) C.1 C.2.1 dX12_lays_12 (by decide) ?_
    exact mw_vret C hr hlk Z hP hS dX12_lays_58 (rfl)

set_option maxHeartbeats 4000000 in
set_option maxRecDepth 100000 in
theorem cM_lays2 (l : Launch) (E : mw_E) (σ : mw_M) (oo v : Int32) : mw_Cv shM 13 gM l yX12_lays cX12_lays 4 none (rmF 0 0) E [.ref (mw_a E 0), .int 2, .int oo, .int v] σ (fun u => u = mw_sa σ 4 2 v) := by
  refine mw_of (by decide) gM_ok (Nat.le_of_ble_eq_true rfl) ?_
  intro p_ e_ s_ m_ below meth c_ C hr hlk Z hP ls hl
  have C : CallFix p_ m_ c_ cX12_lays 4 s_ _ lw_good RX12 := C
  have hl : lv_has ls 4 [(0, .ref (mw_a E 0)), (1, .int 2), (2, .int oo), (3, .int v)] := hl
  have hS : va_S (mw_A 13 E) s_.heap s_.heap [] := va_S.rf
  refine lv_iload_n C.1 C.2.1 dX12_lays_0 rfl (lv_at hl 1 rfl) ?_
  refine lv_iconst (v := 5) C.1 C.2.1 dX12_lays_1 (by decide) ?_
  refine lv_icmp_ge (tgt := 15) C.1 C.2.1 dX12_lays_2 (by decide) (fun c1 => ?_) (fun c1 => ?_)
  · exact absurd c1 (by decide)
  · refine lv_aload_n C.1 C.2.1 dX12_lays_5 rfl (lv_at hl 0 rfl) ?_
    refine mw_getr C Z hP (0) 7 (4) (by decide) rfl rfl rfl (by decide) inX12 tw_4_171 dX12_lays_6 ?_
    refine lv_iload_n C.1 C.2.1 dX12_lays_9 rfl (lv_at hl 1 rfl) ?_
    refine lv_iload_n C.1 C.2.1 dX12_lays_10 rfl (lv_at hl 3 rfl) ?_
    refine mw_iast C Z hP hS (4) (2) (by decide) rfl (Nat.lt_of_lt_of_le (by decide : 5 < 961) (Nat.le_of_ble_eq_true rfl)) rfl (by decide) dX12_lays_11 (fun H locs hP hS => ?_)
    refine lv_goto (tgt := 58) C.1 C.2.1 dX12_lays_12 (by decide) ?_
    exact mw_vret C hr hlk Z hP hS dX12_lays_58 (rfl)

set_option maxHeartbeats 4000000 in
set_option maxRecDepth 100000 in
theorem cM_lays3 (l : Launch) (E : mw_E) (σ : mw_M) (oo v : Int32) : mw_Cv shM 13 gM l yX12_lays cX12_lays 4 none (rmF 0 0) E [.ref (mw_a E 0), .int 3, .int oo, .int v] σ (fun u => u = mw_sa σ 4 3 v) := by
  refine mw_of (by decide) gM_ok (Nat.le_of_ble_eq_true rfl) ?_
  intro p_ e_ s_ m_ below meth c_ C hr hlk Z hP ls hl
  have C : CallFix p_ m_ c_ cX12_lays 4 s_ _ lw_good RX12 := C
  have hl : lv_has ls 4 [(0, .ref (mw_a E 0)), (1, .int 3), (2, .int oo), (3, .int v)] := hl
  have hS : va_S (mw_A 13 E) s_.heap s_.heap [] := va_S.rf
  refine lv_iload_n C.1 C.2.1 dX12_lays_0 rfl (lv_at hl 1 rfl) ?_
  refine lv_iconst (v := 5) C.1 C.2.1 dX12_lays_1 (by decide) ?_
  refine lv_icmp_ge (tgt := 15) C.1 C.2.1 dX12_lays_2 (by decide) (fun c1 => ?_) (fun c1 => ?_)
  · exact absurd c1 (by decide)
  · refine lv_aload_n C.1 C.2.1 dX12_lays_5 rfl (lv_at hl 0 rfl) ?_
    refine mw_getr C Z hP (0) 7 (4) (by decide) rfl rfl rfl (by decide) inX12 tw_4_171 dX12_lays_6 ?_
    refine lv_iload_n C.1 C.2.1 dX12_lays_9 rfl (lv_at hl 1 rfl) ?_
    refine lv_iload_n C.1 C.2.1 dX12_lays_10 rfl (lv_at hl 3 rfl) ?_
    refine mw_iast C Z hP hS (4) (3) (by decide) rfl (Nat.lt_of_lt_of_le (by decide : 5 < 961) (Nat.le_of_ble_eq_true rfl)) rfl (by decide) dX12_lays_11 (fun H locs hP hS => ?_)
    refine lv_goto (tgt := 58) C.1 C.2.1 dX12_lays_12 (by decide) ?_
    exact mw_vret C hr hlk Z hP hS dX12_lays_58 (rfl)

set_option maxHeartbeats 4000000 in
set_option maxRecDepth 100000 in
theorem cM_lays4 (l : Launch) (E : mw_E) (σ : mw_M) (oo v : Int32) : mw_Cv shM 13 gM l yX12_lays cX12_lays 4 none (rmF 0 0) E [.ref (mw_a E 0), .int 4, .int oo, .int v] σ (fun u => u = mw_sa σ 4 4 v) := by
  refine mw_of (by decide) gM_ok (Nat.le_of_ble_eq_true rfl) ?_
  intro p_ e_ s_ m_ below meth c_ C hr hlk Z hP ls hl
  have C : CallFix p_ m_ c_ cX12_lays 4 s_ _ lw_good RX12 := C
  have hl : lv_has ls 4 [(0, .ref (mw_a E 0)), (1, .int 4), (2, .int oo), (3, .int v)] := hl
  have hS : va_S (mw_A 13 E) s_.heap s_.heap [] := va_S.rf
  refine lv_iload_n C.1 C.2.1 dX12_lays_0 rfl (lv_at hl 1 rfl) ?_
  refine lv_iconst (v := 5) C.1 C.2.1 dX12_lays_1 (by decide) ?_
  refine lv_icmp_ge (tgt := 15) C.1 C.2.1 dX12_lays_2 (by decide) (fun c1 => ?_) (fun c1 => ?_)
  · exact absurd c1 (by decide)
  · refine lv_aload_n C.1 C.2.1 dX12_lays_5 rfl (lv_at hl 0 rfl) ?_
    refine mw_getr C Z hP (0) 7 (4) (by decide) rfl rfl rfl (by decide) inX12 tw_4_171 dX12_lays_6 ?_
    refine lv_iload_n C.1 C.2.1 dX12_lays_9 rfl (lv_at hl 1 rfl) ?_
    refine lv_iload_n C.1 C.2.1 dX12_lays_10 rfl (lv_at hl 3 rfl) ?_
    refine mw_iast C Z hP hS (4) (4) (by decide) rfl (Nat.lt_of_lt_of_le (by decide : 5 < 961) (Nat.le_of_ble_eq_true rfl)) rfl (by decide) dX12_lays_11 (fun H locs hP hS => ?_)
    refine lv_goto (tgt := 58) C.1 C.2.1 dX12_lays_12 (by decide) ?_
    exact mw_vret C hr hlk Z hP hS dX12_lays_58 (rfl)

set_option maxHeartbeats 4000000 in
set_option maxRecDepth 100000 in
theorem cM_lays5 (l : Launch) (E : mw_E) (σ : mw_M) (p : Nat) (hp : p < 8) (v : Int32) : mw_Cv shM 13 gM l yX12_lays cX12_lays 4 none (rmF 0 0) E [.ref (mw_a E 0), .int 5, .int (nI p), .int v] σ (fun u => u = mw_sa σ 6 (4 * p + 0) v) := by
  refine mw_of (by decide) gM_ok (Nat.le_of_ble_eq_true rfl) ?_
  intro p_ e_ s_ m_ below meth c_ C hr hlk Z hP ls hl
  have C : CallFix p_ m_ c_ cX12_lays 4 s_ _ lw_good RX12 := C
  have hl : lv_has ls 4 [(0, .ref (mw_a E 0)), (1, .int 5), (2, .int (nI p)), (3, .int v)] := hl
  have hS : va_S (mw_A 13 E) s_.heap s_.heap [] := va_S.rf
  refine lv_iload_n C.1 C.2.1 dX12_lays_0 rfl (lv_at hl 1 rfl) ?_
  refine lv_iconst (v := 5) C.1 C.2.1 dX12_lays_1 (by decide) ?_
  refine lv_icmp_ge (tgt := 15) C.1 C.2.1 dX12_lays_2 (by decide) (fun c1 => ?_) (fun c1 => ?_)
  · refine lv_iload_n C.1 C.2.1 dX12_lays_15 rfl (lv_at hl 1 rfl) ?_
    refine lv_bipush (v := 8) C.1 C.2.1 dX12_lays_16 (by decide) ?_
    refine lv_icmp_ge (tgt := 37) C.1 C.2.1 dX12_lays_18 (by decide) (fun c2 => ?_) (fun c2 => ?_)
    · exact absurd c2 (by decide)
    · refine lv_aload_n C.1 C.2.1 dX12_lays_21 rfl (lv_at hl 0 rfl) ?_
      refine mw_getr C Z hP (0) 9 (6) (by decide) rfl rfl rfl (by decide) inX12 tw_4_173 dX12_lays_22 ?_
      refine lv_iconst (v := 4) C.1 C.2.1 dX12_lays_25 (by decide) ?_
      refine lv_iload_n C.1 C.2.1 dX12_lays_26 rfl (lv_at hl 2 rfl) ?_
      refine lv_imul C.1 C.2.1 dX12_lays_27 ?_
      refine mw_top (y := nI (4 * p)) (pk_mul 4 p) ?_
      refine lv_iload_n C.1 C.2.1 dX12_lays_28 rfl (lv_at hl 1 rfl) ?_
      refine lv_iadd C.1 C.2.1 dX12_lays_29 ?_
      refine mw_top (y := nI (4 * p + 5)) (nI_add _ 5) ?_
      refine lv_iconst (v := 5) C.1 C.2.1 dX12_lays_30 (by decide) ?_
      refine lv_isub C.1 C.2.1 dX12_lays_31 ?_
      refine mw_top (y := nI (4 * p + 0)) (pk_sub (a := 4 * p + 5) (b := 5) (by omega)) ?_
      refine lv_iload_n C.1 C.2.1 dX12_lays_32 rfl (lv_at hl 3 rfl) ?_
      refine mw_iast C Z hP hS (6) (4 * p + 0) (by decide) rfl (Nat.lt_of_lt_of_le (by decide : 32 < 961) (Nat.le_of_ble_eq_true rfl)) rfl (by omega) dX12_lays_33 (fun H locs hP hS => ?_)
      refine lv_goto (tgt := 58) C.1 C.2.1 dX12_lays_34 (by decide) ?_
      exact mw_vret C hr hlk Z hP hS dX12_lays_58 (rfl)
  · exact absurd c1 (by decide)

set_option maxHeartbeats 4000000 in
set_option maxRecDepth 100000 in
theorem cM_lays6 (l : Launch) (E : mw_E) (σ : mw_M) (p : Nat) (hp : p < 8) (v : Int32) : mw_Cv shM 13 gM l yX12_lays cX12_lays 4 none (rmF 0 0) E [.ref (mw_a E 0), .int 6, .int (nI p), .int v] σ (fun u => u = mw_sa σ 6 (4 * p + 1) v) := by
  refine mw_of (by decide) gM_ok (Nat.le_of_ble_eq_true rfl) ?_
  intro p_ e_ s_ m_ below meth c_ C hr hlk Z hP ls hl
  have C : CallFix p_ m_ c_ cX12_lays 4 s_ _ lw_good RX12 := C
  have hl : lv_has ls 4 [(0, .ref (mw_a E 0)), (1, .int 6), (2, .int (nI p)), (3, .int v)] := hl
  have hS : va_S (mw_A 13 E) s_.heap s_.heap [] := va_S.rf
  refine lv_iload_n C.1 C.2.1 dX12_lays_0 rfl (lv_at hl 1 rfl) ?_
  refine lv_iconst (v := 5) C.1 C.2.1 dX12_lays_1 (by decide) ?_
  refine lv_icmp_ge (tgt := 15) C.1 C.2.1 dX12_lays_2 (by decide) (fun c1 => ?_) (fun c1 => ?_)
  · refine lv_iload_n C.1 C.2.1 dX12_lays_15 rfl (lv_at hl 1 rfl) ?_
    refine lv_bipush (v := 8) C.1 C.2.1 dX12_lays_16 (by decide) ?_
    refine lv_icmp_ge (tgt := 37) C.1 C.2.1 dX12_lays_18 (by decide) (fun c2 => ?_) (fun c2 => ?_)
    · exact absurd c2 (by decide)
    · refine lv_aload_n C.1 C.2.1 dX12_lays_21 rfl (lv_at hl 0 rfl) ?_
      refine mw_getr C Z hP (0) 9 (6) (by decide) rfl rfl rfl (by decide) inX12 tw_4_173 dX12_lays_22 ?_
      refine lv_iconst (v := 4) C.1 C.2.1 dX12_lays_25 (by decide) ?_
      refine lv_iload_n C.1 C.2.1 dX12_lays_26 rfl (lv_at hl 2 rfl) ?_
      refine lv_imul C.1 C.2.1 dX12_lays_27 ?_
      refine mw_top (y := nI (4 * p)) (pk_mul 4 p) ?_
      refine lv_iload_n C.1 C.2.1 dX12_lays_28 rfl (lv_at hl 1 rfl) ?_
      refine lv_iadd C.1 C.2.1 dX12_lays_29 ?_
      refine mw_top (y := nI (4 * p + 6)) (nI_add _ 6) ?_
      refine lv_iconst (v := 5) C.1 C.2.1 dX12_lays_30 (by decide) ?_
      refine lv_isub C.1 C.2.1 dX12_lays_31 ?_
      refine mw_top (y := nI (4 * p + 1)) (pk_sub (a := 4 * p + 6) (b := 5) (by omega)) ?_
      refine lv_iload_n C.1 C.2.1 dX12_lays_32 rfl (lv_at hl 3 rfl) ?_
      refine mw_iast C Z hP hS (6) (4 * p + 1) (by decide) rfl (Nat.lt_of_lt_of_le (by decide : 32 < 961) (Nat.le_of_ble_eq_true rfl)) rfl (by omega) dX12_lays_33 (fun H locs hP hS => ?_)
      refine lv_goto (tgt := 58) C.1 C.2.1 dX12_lays_34 (by decide) ?_
      exact mw_vret C hr hlk Z hP hS dX12_lays_58 (rfl)
  · exact absurd c1 (by decide)

set_option maxHeartbeats 4000000 in
set_option maxRecDepth 100000 in
theorem cM_lays7 (l : Launch) (E : mw_E) (σ : mw_M) (p : Nat) (hp : p < 8) (v : Int32) : mw_Cv shM 13 gM l yX12_lays cX12_lays 4 none (rmF 0 0) E [.ref (mw_a E 0), .int 7, .int (nI p), .int v] σ (fun u => u = mw_sa σ 6 (4 * p + 2) v) := by
  refine mw_of (by decide) gM_ok (Nat.le_of_ble_eq_true rfl) ?_
  intro p_ e_ s_ m_ below meth c_ C hr hlk Z hP ls hl
  have C : CallFix p_ m_ c_ cX12_lays 4 s_ _ lw_good RX12 := C
  have hl : lv_has ls 4 [(0, .ref (mw_a E 0)), (1, .int 7), (2, .int (nI p)), (3, .int v)] := hl
  have hS : va_S (mw_A 13 E) s_.heap s_.heap [] := va_S.rf
  refine lv_iload_n C.1 C.2.1 dX12_lays_0 rfl (lv_at hl 1 rfl) ?_
  refine lv_iconst (v := 5) C.1 C.2.1 dX12_lays_1 (by decide) ?_
  refine lv_icmp_ge (tgt := 15) C.1 C.2.1 dX12_lays_2 (by decide) (fun c1 => ?_) (fun c1 => ?_)
  · refine lv_iload_n C.1 C.2.1 dX12_lays_15 rfl (lv_at hl 1 rfl) ?_
    refine lv_bipush (v := 8) C.1 C.2.1 dX12_lays_16 (by decide) ?_
    refine lv_icmp_ge (tgt := 37) C.1 C.2.1 dX12_lays_18 (by decide) (fun c2 => ?_) (fun c2 => ?_)
    · exact absurd c2 (by decide)
    · refine lv_aload_n C.1 C.2.1 dX12_lays_21 rfl (lv_at hl 0 rfl) ?_
      refine mw_getr C Z hP (0) 9 (6) (by decide) rfl rfl rfl (by decide) inX12 tw_4_173 dX12_lays_22 ?_
      refine lv_iconst (v := 4) C.1 C.2.1 dX12_lays_25 (by decide) ?_
      refine lv_iload_n C.1 C.2.1 dX12_lays_26 rfl (lv_at hl 2 rfl) ?_
      refine lv_imul C.1 C.2.1 dX12_lays_27 ?_
      refine mw_top (y := nI (4 * p)) (pk_mul 4 p) ?_
      refine lv_iload_n C.1 C.2.1 dX12_lays_28 rfl (lv_at hl 1 rfl) ?_
      refine lv_iadd C.1 C.2.1 dX12_lays_29 ?_
      refine mw_top (y := nI (4 * p + 7)) (nI_add _ 7) ?_
      refine lv_iconst (v := 5) C.1 C.2.1 dX12_lays_30 (by decide) ?_
      refine lv_isub C.1 C.2.1 dX12_lays_31 ?_
      refine mw_top (y := nI (4 * p + 2)) (pk_sub (a := 4 * p + 7) (b := 5) (by omega)) ?_
      refine lv_iload_n C.1 C.2.1 dX12_lays_32 rfl (lv_at hl 3 rfl) ?_
      refine mw_iast C Z hP hS (6) (4 * p + 2) (by decide) rfl (Nat.lt_of_lt_of_le (by decide : 32 < 961) (Nat.le_of_ble_eq_true rfl)) rfl (by omega) dX12_lays_33 (fun H locs hP hS => ?_)
      refine lv_goto (tgt := 58) C.1 C.2.1 dX12_lays_34 (by decide) ?_
      exact mw_vret C hr hlk Z hP hS dX12_lays_58 (rfl)
  · exact absurd c1 (by decide)

set_option maxHeartbeats 4000000 in
set_option maxRecDepth 100000 in
theorem cM_lays8 (l : Launch) (E : mw_E) (σ : mw_M) (p : Nat) (hp : p < 8) (v : Int32) : mw_Cv shM 13 gM l yX12_lays cX12_lays 4 none (rmF 0 0) E [.ref (mw_a E 0), .int 8, .int (nI p), .int v] σ (fun u => u = mw_sa σ 5 p v) := by
  refine mw_of (by decide) gM_ok (Nat.le_of_ble_eq_true rfl) ?_
  intro p_ e_ s_ m_ below meth c_ C hr hlk Z hP ls hl
  have C : CallFix p_ m_ c_ cX12_lays 4 s_ _ lw_good RX12 := C
  have hl : lv_has ls 4 [(0, .ref (mw_a E 0)), (1, .int 8), (2, .int (nI p)), (3, .int v)] := hl
  have hS : va_S (mw_A 13 E) s_.heap s_.heap [] := va_S.rf
  refine lv_iload_n C.1 C.2.1 dX12_lays_0 rfl (lv_at hl 1 rfl) ?_
  refine lv_iconst (v := 5) C.1 C.2.1 dX12_lays_1 (by decide) ?_
  refine lv_icmp_ge (tgt := 15) C.1 C.2.1 dX12_lays_2 (by decide) (fun c1 => ?_) (fun c1 => ?_)
  · refine lv_iload_n C.1 C.2.1 dX12_lays_15 rfl (lv_at hl 1 rfl) ?_
    refine lv_bipush (v := 8) C.1 C.2.1 dX12_lays_16 (by decide) ?_
    refine lv_icmp_ge (tgt := 37) C.1 C.2.1 dX12_lays_18 (by decide) (fun c2 => ?_) (fun c2 => ?_)
    · refine lv_iload_n C.1 C.2.1 dX12_lays_37 rfl (lv_at hl 1 rfl) ?_
      refine lv_bipush (v := 8) C.1 C.2.1 dX12_lays_38 (by decide) ?_
      refine lv_icmp_ne (tgt := 53) C.1 C.2.1 dX12_lays_40 (by decide) (fun c3 => ?_) (fun c3 => ?_)
      · exact absurd c3 (by decide)
      · refine lv_aload_n C.1 C.2.1 dX12_lays_43 rfl (lv_at hl 0 rfl) ?_
        refine mw_getr C Z hP (0) 8 (5) (by decide) rfl rfl rfl (by decide) inX12 tw_4_172 dX12_lays_44 ?_
        refine lv_iload_n C.1 C.2.1 dX12_lays_47 rfl (lv_at hl 2 rfl) ?_
        refine lv_iload_n C.1 C.2.1 dX12_lays_48 rfl (lv_at hl 3 rfl) ?_
        refine mw_iast C Z hP hS (5) (p) (by decide) rfl (Nat.lt_of_lt_of_le (by decide : 8 < 961) (Nat.le_of_ble_eq_true rfl)) rfl (by omega) dX12_lays_49 (fun H locs hP hS => ?_)
        refine lv_goto (tgt := 58) C.1 C.2.1 dX12_lays_50 (by decide) ?_
        exact mw_vret C hr hlk Z hP hS dX12_lays_58 (rfl)
    · exact absurd c2 (by decide)
  · exact absurd c1 (by decide)

set_option maxHeartbeats 4000000 in
set_option maxRecDepth 100000 in
theorem cM_lays9 (l : Launch) (E : mw_E) (σ : mw_M) (p : Nat) (hp : p < 8) (v : Int32) : mw_Cv shM 13 gM l yX12_lays cX12_lays 4 none (rmF 0 0) E [.ref (mw_a E 0), .int 9, .int (nI p), .int v] σ (fun u => u = mw_si σ 0 4 v) := by
  refine mw_of (by decide) gM_ok (Nat.le_of_ble_eq_true rfl) ?_
  intro p_ e_ s_ m_ below meth c_ C hr hlk Z hP ls hl
  have C : CallFix p_ m_ c_ cX12_lays 4 s_ _ lw_good RX12 := C
  have hl : lv_has ls 4 [(0, .ref (mw_a E 0)), (1, .int 9), (2, .int (nI p)), (3, .int v)] := hl
  have hS : va_S (mw_A 13 E) s_.heap s_.heap [] := va_S.rf
  refine lv_iload_n C.1 C.2.1 dX12_lays_0 rfl (lv_at hl 1 rfl) ?_
  refine lv_iconst (v := 5) C.1 C.2.1 dX12_lays_1 (by decide) ?_
  refine lv_icmp_ge (tgt := 15) C.1 C.2.1 dX12_lays_2 (by decide) (fun c1 => ?_) (fun c1 => ?_)
  · refine lv_iload_n C.1 C.2.1 dX12_lays_15 rfl (lv_at hl 1 rfl) ?_
    refine lv_bipush (v := 8) C.1 C.2.1 dX12_lays_16 (by decide) ?_
    refine lv_icmp_ge (tgt := 37) C.1 C.2.1 dX12_lays_18 (by decide) (fun c2 => ?_) (fun c2 => ?_)
    · refine lv_iload_n C.1 C.2.1 dX12_lays_37 rfl (lv_at hl 1 rfl) ?_
      refine lv_bipush (v := 8) C.1 C.2.1 dX12_lays_38 (by decide) ?_
      refine lv_icmp_ne (tgt := 53) C.1 C.2.1 dX12_lays_40 (by decide) (fun c3 => ?_) (fun c3 => ?_)
      · refine lv_aload_n C.1 C.2.1 dX12_lays_53 rfl (lv_at hl 0 rfl) ?_
        refine lv_iload_n C.1 C.2.1 dX12_lays_54 rfl (lv_at hl 3 rfl) ?_
        refine mw_puti C Z hP hS (0) 4 (by decide) rfl rfl rfl (by decide) inX12 tyX12 tyX12_ok nmX12 rfl tw_4_168 rfl rfl dX12_lays_55 (fun H locs hP hS => ?_)
        exact mw_vret C hr hlk Z hP hS dX12_lays_58 (rfl)
      · exact absurd c3 (by decide)
    · exact absurd c2 (by decide)
  · exact absurd c1 (by decide)
