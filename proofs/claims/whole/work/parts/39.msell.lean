/-! THE REFERENCE: CELL, SELLING, CHANCE, COUNT -/
def narF (so v : Int32) : Int32 := if so = 0 then v.toInt8.toInt32 else if so = 1 then v.toInt16.toInt32 else v
def cellF (X : Nat → Nat → Int32) (s i v : Int32) : Int32 × (Nat → Nat → Int32) := if ¬ (0 ≤ s.toInt ∧ s.toInt ≤ 3) then (-2, X) else if X 9 s.toNatClampNeg = 0 then (-11, X) else if ¬ (0 ≤ i.toInt ∧ i.toInt < (X 11 s.toNatClampNeg).toInt) then (-12, X) else (1, va_up X 12 (upd (X 12) (40 * s.toNatClampNeg + i.toNatClampNeg) (narF (X 10 s.toNatClampNeg) v)))
/-- every sheet is missing, or has a size -/
def mShs (X : Nat → Nat → Int32) : Prop := ∀ s, s < 4 → X 9 s = 0 ∨ (X 9 s = 1 ∧ ∃ m : Nat, m ≤ 40 ∧ X 11 s = nI m)

set_option maxHeartbeats 4000000 in
set_option maxRecDepth 100000 in
theorem cM_cell (l : Launch) (E : mw_E) (σ : mw_M) (hsh : mShs σ.2.1) (ss ii vv : Int32) : mw_Ci shM 13 gM l yX12_cell cX12_cell 4 (some .int) (rmF 2 45) E [.ref (mw_a E 0), .int ss, .int ii, .int vv] σ (fun r u => r = (cellF σ.2.1 ss ii vv).1 ∧ mAr σ (cellF σ.2.1 ss ii vv).2 u) := by
  refine mw_of (by decide) gM_ok (Nat.le_of_ble_eq_true rfl) ?_
  intro p_ e_ s_ m_ below meth c_ C hr hlk Z hP ls hl
  have C : CallFix p_ m_ c_ cX12_cell 4 s_ _ lw_good RX12 := C
  have hl : lv_has ls 4 [(0, .ref (mw_a E 0)), (1, .int ss), (2, .int ii), (3, .int vv)] := hl
  have hS : va_S (mw_A 13 E) s_.heap s_.heap [] := va_S.rf
  refine lv_iload_n C.1 C.2.1 dX12_cell_0 rfl (lv_at hl 1 rfl) ?_
  refine mw_cSi (As := [.int ss]) (rest := []) C Z hP hS (cM_isSheet l E σ ss) sb_X12_isSheet tw_6_130 ⟨rfl, rfl⟩ ⟨Nat.le_of_ble_eq_true rfl, Nat.le_of_ble_eq_true rfl⟩ rfl hl.1 rfl (Nat.le_of_ble_eq_true rfl) dX12_cell_1 ⟨Nat.zero_le _, Nat.zero_le _⟩ (fun r1 u2 H locs q3 hP hS => ?_)
  obtain ⟨rfl, q3u⟩ := q3
  rw [q3u] at hP; clear q3u
  refine lv_if_ne (tgt := 10) C.1 C.2.1 dX12_cell_4 (by decide) (fun c4 => ?_) (fun c4 => ?_)
  · have c4 := bI_n.mp c4
    have hrs := c4
    obtain ⟨sn, hsn, esn⟩ := nI_ofI (k := 3) hrs.1 hrs.2
    subst esn
    refine lv_aload_n C.1 C.2.1 dX12_cell_10 rfl (lv_at hl 0 rfl) ?_
    refine mw_getr C Z hP (0) 30 (9) (by decide) rfl rfl rfl (by decide) inX12 tw_4_194 dX12_cell_11 ?_
    refine lv_iload_n C.1 C.2.1 dX12_cell_14 rfl (lv_at hl 1 rfl) ?_
    refine mw_zald C Z hP (9) (sn) (by decide) rfl (Nat.lt_of_lt_of_le (by decide : 4 < 961) (Nat.le_of_ble_eq_true rfl)) rfl (by omega) dX12_cell_15 ?_
    refine lv_if_ne (tgt := 22) C.1 C.2.1 dX12_cell_16 (by decide) (fun c5 => ?_) (fun c5 => ?_)
    · obtain ⟨mm, hmm, hm⟩ := ((hsh sn (by omega)).resolve_left c5).2
      have hm1 : (nI mm - 1).toInt = (mm : Int) - 1 := pk_sub_toInt (b := 1) (by omega) (by decide)
      refine lv_iload_n C.1 C.2.1 dX12_cell_22 rfl (lv_at hl 2 rfl) ?_
      refine lv_i2l C.1 C.2.1 dX12_cell_23 rfl ?_
      refine lv_lconst (v := 0) C.1 C.2.1 dX12_cell_24 (by decide) ?_
      refine lv_aload_n C.1 C.2.1 dX12_cell_25 rfl (lv_at hl 0 rfl) ?_
      refine mw_getr C Z hP (0) 32 (11) (by decide) rfl rfl rfl (by decide) inX12 tw_4_196 dX12_cell_26 ?_
      refine lv_iload_n C.1 C.2.1 dX12_cell_29 rfl (lv_at hl 1 rfl) ?_
      refine mw_iald C Z hP (11) (sn) (by decide) rfl (Nat.lt_of_lt_of_le (by decide : 4 < 961) (Nat.le_of_ble_eq_true rfl)) rfl (by omega) dX12_cell_30 ?_
      refine mw_top (y := nI mm) (hm) ?_
      refine lv_iconst (v := 1) C.1 C.2.1 dX12_cell_31 (by decide) ?_
      refine lv_isub C.1 C.2.1 dX12_cell_32 ?_
      refine lv_i2l C.1 C.2.1 dX12_cell_33 rfl ?_
      refine mw_cSi (As := [.long (ii.toInt64), .long (0), .long (((nI mm) - 1).toInt64)]) (rest := []) C Z hP hS (cM_in l E σ (ii.toInt64) 0 (((nI mm) - 1).toInt64) (0 ≤ ii.toInt ∧ ii.toInt ≤ ((nI mm) - 1).toInt) (by first | (simp only [nl_i]; exact Iff.rfl) | (simp only [nl_i]; decide) | simp [nl_i])) sb_X12_in tw_5_33 ⟨rfl, rfl⟩ ⟨Nat.le_of_ble_eq_true rfl, Nat.le_of_ble_eq_true rfl⟩ rfl hl.1 rfl (Nat.le_of_ble_eq_true rfl) dX12_cell_34 ⟨Nat.zero_le _, Nat.zero_le _⟩ (fun r6 u7 H locs q8 hP hS => ?_)
      obtain ⟨rfl, q8u⟩ := q8
      rw [q8u] at hP; clear q8u
      refine lv_if_ne (tgt := 43) C.1 C.2.1 dX12_cell_37 (by decide) (fun c9 => ?_) (fun c9 => ?_)
      · have c9 := bI_n.mp c9
        have hri := c9
        rw [hm1] at hri
        obtain ⟨i, hi, ei⟩ := nI_ofI (k := 39) hri.1 (by omega)
        subst ei
        rw [nI_toInt (by omega)] at hri
        refine lv_aload_n C.1 C.2.1 dX12_cell_43 rfl (lv_at hl 0 rfl) ?_
        refine mw_getr C Z hP (0) 33 (12) (by decide) rfl rfl rfl (by decide) inX12 tw_4_197 dX12_cell_44 ?_
        refine lv_bipush (v := 40) C.1 C.2.1 dX12_cell_47 (by decide) ?_
        refine lv_iload_n C.1 C.2.1 dX12_cell_49 rfl (lv_at hl 1 rfl) ?_
        refine lv_imul C.1 C.2.1 dX12_cell_50 ?_
        refine mw_top (y := nI (40 * sn)) (pk_mul 40 sn) ?_
        refine lv_iload_n C.1 C.2.1 dX12_cell_51 rfl (lv_at hl 2 rfl) ?_
        refine lv_iadd C.1 C.2.1 dX12_cell_52 ?_
        refine mw_top (y := nI (40 * sn + i)) (nI_add _ _) ?_
        refine lv_aload_n C.1 C.2.1 dX12_cell_53 rfl (lv_at hl 0 rfl) ?_
        refine mw_getr C Z hP (0) 31 (10) (by decide) rfl rfl rfl (by decide) inX12 tw_4_195 dX12_cell_54 ?_
        refine lv_iload_n C.1 C.2.1 dX12_cell_57 rfl (lv_at hl 1 rfl) ?_
        refine mw_iald C Z hP (10) (sn) (by decide) rfl (Nat.lt_of_lt_of_le (by decide : 4 < 961) (Nat.le_of_ble_eq_true rfl)) rfl (by omega) dX12_cell_58 ?_
        refine lv_if_ne (tgt := 67) C.1 C.2.1 dX12_cell_59 (by decide) (fun c10 => ?_) (fun c10 => ?_)
        · refine lv_aload_n C.1 C.2.1 dX12_cell_67 rfl (lv_at hl 0 rfl) ?_
          refine mw_getr C Z hP (0) 31 (10) (by decide) rfl rfl rfl (by decide) inX12 tw_4_195 dX12_cell_68 ?_
          refine lv_iload_n C.1 C.2.1 dX12_cell_71 rfl (lv_at hl 1 rfl) ?_
          refine mw_iald C Z hP (10) (sn) (by decide) rfl (Nat.lt_of_lt_of_le (by decide : 4 < 961) (Nat.le_of_ble_eq_true rfl)) rfl (by omega) dX12_cell_72 ?_
          refine lv_iconst (v := 1) C.1 C.2.1 dX12_cell_73 (by decide) ?_
          refine lv_icmp_ne (tgt := 82) C.1 C.2.1 dX12_cell_74 (by decide) (fun c11 => ?_) (fun c11 => ?_)
          · refine lv_iload_n C.1 C.2.1 dX12_cell_82 rfl (lv_at hl 3 rfl) ?_
            refine mw_iast C Z hP hS (12) (40 * sn + i) (by decide) rfl (Nat.lt_of_lt_of_le (by decide : 160 < 961) (Nat.le_of_ble_eq_true rfl)) rfl (by omega) dX12_cell_83 (fun H locs hP hS => ?_)
            refine lv_iconst (v := 1) C.1 C.2.1 dX12_cell_84 (by decide) ?_
            have e : cellF σ.2.1 (nI sn) (nI i) vv = (1, va_up σ.2.1 12 (upd (σ.2.1 12) (40 * sn + i) vv)) := by unfold cellF; rw [if_neg (Decidable.not_not.mpr hrs), nI_clamp (n := sn) (by omega), nI_clamp (n := i) (by omega), if_neg c5, if_neg (Decidable.not_not.mpr ⟨by rw [nI_toInt (by omega)]; omega, by rw [hm, nI_toInt (by omega), nI_toInt (by omega)]; omega⟩), show narF (σ.2.1 10 sn) vv = vv from by unfold narF; rw [if_neg c10, if_neg c11]]
            exact mw_iret C hr hlk Z hP hS dX12_cell_85 (⟨by rw [e], by rw [e]; exact mAr.sa (mFs.ar (mFs.rf σ)) 12 _ _⟩)
          · refine lv_iload_n C.1 C.2.1 dX12_cell_77 rfl (lv_at hl 3 rfl) ?_
            refine lv_i2s C.1 C.2.1 dX12_cell_78 rfl ?_
            refine lv_goto (tgt := 83) C.1 C.2.1 dX12_cell_79 (by decide) ?_
            refine mw_iast C Z hP hS (12) (40 * sn + i) (by decide) rfl (Nat.lt_of_lt_of_le (by decide : 160 < 961) (Nat.le_of_ble_eq_true rfl)) rfl (by omega) dX12_cell_83 (fun H locs hP hS => ?_)
            refine lv_iconst (v := 1) C.1 C.2.1 dX12_cell_84 (by decide) ?_
            have e : cellF σ.2.1 (nI sn) (nI i) vv = (1, va_up σ.2.1 12 (upd (σ.2.1 12) (40 * sn + i) (vv.toInt16.toInt32))) := by unfold cellF; rw [if_neg (Decidable.not_not.mpr hrs), nI_clamp (n := sn) (by omega), nI_clamp (n := i) (by omega), if_neg c5, if_neg (Decidable.not_not.mpr ⟨by rw [nI_toInt (by omega)]; omega, by rw [hm, nI_toInt (by omega), nI_toInt (by omega)]; omega⟩), show narF (σ.2.1 10 sn) vv = vv.toInt16.toInt32 from by unfold narF; rw [if_neg c10, if_pos c11]]
            exact mw_iret C hr hlk Z hP hS dX12_cell_85 (⟨by rw [e], by rw [e]; exact mAr.sa (mFs.ar (mFs.rf σ)) 12 _ _⟩)
        · refine lv_iload_n C.1 C.2.1 dX12_cell_62 rfl (lv_at hl 3 rfl) ?_
          refine lv_i2b C.1 C.2.1 dX12_cell_63 rfl ?_
          refine lv_goto (tgt := 83) C.1 C.2.1 dX12_cell_64 (by decide) ?_
          refine mw_iast C Z hP hS (12) (40 * sn + i) (by decide) rfl (Nat.lt_of_lt_of_le (by decide : 160 < 961) (Nat.le_of_ble_eq_true rfl)) rfl (by omega) dX12_cell_83 (fun H locs hP hS => ?_)
          refine lv_iconst (v := 1) C.1 C.2.1 dX12_cell_84 (by decide) ?_
          have e : cellF σ.2.1 (nI sn) (nI i) vv = (1, va_up σ.2.1 12 (upd (σ.2.1 12) (40 * sn + i) (vv.toInt8.toInt32))) := by unfold cellF; rw [if_neg (Decidable.not_not.mpr hrs), nI_clamp (n := sn) (by omega), nI_clamp (n := i) (by omega), if_neg c5, if_neg (Decidable.not_not.mpr ⟨by rw [nI_toInt (by omega)]; omega, by rw [hm, nI_toInt (by omega), nI_toInt (by omega)]; omega⟩), show narF (σ.2.1 10 sn) vv = vv.toInt8.toInt32 from by unfold narF; rw [if_pos c10]]
          exact mw_iret C hr hlk Z hP hS dX12_cell_85 (⟨by rw [e], by rw [e]; exact mAr.sa (mFs.ar (mFs.rf σ)) 12 _ _⟩)
      · have c9 := bI_0.mp c9
        refine lv_bipush (v := -12) C.1 C.2.1 dX12_cell_40 (by decide) ?_
        have e : cellF σ.2.1 (nI sn) ii vv = (-12, σ.2.1) := by unfold cellF; rw [if_neg (Decidable.not_not.mpr hrs), nI_clamp (n := sn) (by omega), if_neg c5, if_pos (fun y => c9 ⟨y.1, by rw [hm1]; have := y.2; rw [hm, nI_toInt (by omega)] at this; omega⟩)]
        exact mw_iret C hr hlk Z hP hS dX12_cell_42 (⟨by rw [e], by rw [e]; exact (mFs.ar (mFs.rf σ))⟩)
    · refine lv_bipush (v := -11) C.1 C.2.1 dX12_cell_19 (by decide) ?_
      have e : cellF σ.2.1 (nI sn) ii vv = (-11, σ.2.1) := by unfold cellF; rw [if_neg (Decidable.not_not.mpr hrs), nI_clamp (n := sn) (by omega), if_pos c5]
      exact mw_iret C hr hlk Z hP hS dX12_cell_21 (⟨by rw [e], by rw [e]; exact (mFs.ar (mFs.rf σ))⟩)
  · have c4 := bI_0.mp c4
    refine lv_bipush (v := -2) C.1 C.2.1 dX12_cell_7 (by decide) ?_
    exact mw_iret C hr hlk Z hP hS dX12_cell_9 (⟨by unfold cellF; rw [if_pos c4], by unfold cellF; rw [if_pos c4]; exact (mFs.ar (mFs.rf σ))⟩)

def sdZ (st : Nat → Int32) (cu : Nat → Nat → Int32) (seed : Int32) : Nat → Int32
  | 0 => seed
  | p + 1 => if thereP st (cu p) then sdZ st cu seed p * 1103515245 + 12345 else sdZ st cu seed p
def us9 (x : Int32) : Int32 := (x.toUInt32 >>> ((9 : Int32).toUInt32 &&& Int32.toUInt32 31)).toInt32
abbrev sdB (z : zP) (st : Nat → Int32) (cu : Nat → Nat → Int32) (seed : Int32) (p : Nat) : Prop := thereP st (cu p) ∧ 0 < triesP z st (cu p) ∧ us9 (sdZ st cu seed (p + 1)) - us9 (sdZ st cu seed (p + 1)) / triesP z st (cu p) * triesP z st (cu p) = 0
def sdS (z : zP) (st : Nat → Int32) (cu : Nat → Nat → Int32) (seed : Int32) (n : Nat) : Int32 := sumP (fun p => if sdB z st cu seed p then spendsP z st (cu p) else 0) n
def sdR (z : zP) (st : Nat → Int32) (cu : Nat → Nat → Int32) (seed b : Int32) (rows : Nat → Int32) : Nat → (Nat → Int32)
  | 0 => rows
  | p + 1 => if sdB z st cu seed p then upd (sdR z st cu seed b rows p) (4 * p + 3) (wI (rows (4 * p + 3) + b) 0 999) else sdR z st cu seed b rows p
theorem sdR_at (z : zP) (st : Nat → Int32) (cu : Nat → Nat → Int32) (seed b : Int32) (rows : Nat → Int32) : ∀ (j i : Nat), (i % 4 ≠ 3 ∨ 4 * j ≤ i) → sdR z st cu seed b rows j i = rows i
  | 0, _, _ => rfl
  | j + 1, i, h => by
    show (if sdB z st cu seed j then upd (sdR z st cu seed b rows j) (4 * j + 3) _ else sdR z st cu seed b rows j) i = _
    split
    · show (if i = 4 * j + 3 then _ else sdR z st cu seed b rows j i) = _
      rw [if_neg (by omega)]
      exact sdR_at z st cu seed b rows j i (by omega)
    · exact sdR_at z st cu seed b rows j i (by omega)
theorem sd_cu (σ u : mw_M) (rows : Nat → Int32) (h : mAr σ (va_up σ.2.1 6 rows) u) (hr : ∀ i, i % 4 ≠ 3 → rows i = σ.2.1 6 i) (p : Nat) : ∀ f, f < 4 → mCu u p f = mCu σ p f := by
  intro f hf
  unfold mCu
  rw [h.1]
  by_cases h0 : f = 0
  · rw [if_pos h0, if_pos h0]
    rfl
  · rw [if_neg h0, if_neg h0, va_up_self]
    exact hr _ (by omega)
theorem sd_st (σ u : mw_M) (rows : Nat → Int32) (h : mAr σ (va_up σ.2.1 6 rows) u) : ∀ j, j < 5 → mSt u j = mSt σ j := by
  intro j _
  unfold mSt
  rw [h.1]
  rfl

theorem sdX0 (σ : mw_M) : va_up σ.2.1 6 (σ.2.1 6) = σ.2.1 := by
  funext a
  by_cases ha : a = 6
  · subst ha; rw [va_up_self]
  · rw [va_up_ne _ _ ha]

set_option maxHeartbeats 4000000 in
set_option maxRecDepth 100000 in
theorem cM_soldBy (l : Launch) (E : mw_E) (σ : mw_M) (z : zP) (n : Nat) (hn : σ.1 0 10 = nI n) (h8 : n ≤ 8) (hru : mRu σ z) (seed bb : Int32) (hbb : bb = 0 ∨ bb = 1) : mw_Ci shM 13 gM l yX12_soldBy cX12_soldBy 7 (some .int) (rmF 44 975) E [.ref (mw_a E 0), .int seed, .int bb] σ (fun r u => r = sdS z (mSt σ) (mCu σ) seed n ∧ mAr σ (va_up σ.2.1 6 (sdR z (mSt σ) (mCu σ) seed bb (σ.2.1 6) n)) u) := by
  refine mw_of (by decide) gM_ok (Nat.le_of_ble_eq_true rfl) ?_
  intro p_ e_ s_ m_ below meth c_ C hr hlk Z hP ls hl
  have C : CallFix p_ m_ c_ cX12_soldBy 7 s_ _ lw_good RX12 := C
  have hl : lv_has ls 7 [(0, .ref (mw_a E 0)), (1, .int seed), (2, .int bb)] := hl
  have hS : va_S (mw_A 13 E) s_.heap s_.heap [] := va_S.rf
  refine lv_iload_n C.1 C.2.1 dX12_soldBy_0 rfl (lv_at hl 1 rfl) ?_
  refine lv_istore_n (lv' := [(3, .int seed), (0, .ref (mw_a E 0)), (1, .int seed), (2, .int bb)]) C.1 C.2.1 dX12_soldBy_1 rfl hl (by decide) rfl (fun ls hl => ?_)
  refine lv_iconst (v := 0) C.1 C.2.1 dX12_soldBy_2 (by decide) ?_
  refine lv_istore (lv' := [(4, .int 0), (3, .int seed), (0, .ref (mw_a E 0)), (1, .int seed), (2, .int bb)]) C.1 C.2.1 dX12_soldBy_3 hl (by decide) rfl (fun ls hl => ?_)
  refine lv_iconst (v := 0) C.1 C.2.1 dX12_soldBy_5 (by decide) ?_
  refine lv_istore (lv' := [(5, .int 0), (4, .int 0), (3, .int seed), (0, .ref (mw_a E 0)), (1, .int seed), (2, .int bb)]) C.1 C.2.1 dX12_soldBy_6 hl (by decide) rfl (fun ls hl => ?_)
  have lpa : ∀ (N : Nat) (j : Nat) (zz : Int32) (ss : Int32) (ςa : mw_M) (H : Heap) (locs : List Loc), n + 1 ≤ j + N → (j ≤ n) → (zz = sdZ (mSt σ) (mCu σ) seed j) → (ss = sdS z (mSt σ) (mCu σ) seed j) → mAr σ (va_up σ.2.1 6 (sdR z (mSt σ) (mCu σ) seed bb (σ.2.1 6) j)) ςa → va_P (mw_D E) vwCl (mw_ws shM 13 E ςa) H → va_S (mw_A 13 E) s_.heap H locs → ∀ (ls : Array Slot), lv_has ls 7 [(0, .ref (mw_a E 0)), (1, .int seed), (2, .int bb), (3, .int zz), (4, .int ss), (5, .int (nI j))] → mWi p_ l e_ (rmF 44 975) s_ m_ [.ref (mw_a E 0), .int seed, .int bb] below meth c_ E (fun r u => r = sdS z (mSt σ) (mCu σ) seed n ∧ mAr σ (va_up σ.2.1 6 (sdR z (mSt σ) (mCu σ) seed bb (σ.2.1 6) n)) u) H locs (F0 m_ 8 ls []) := by
    intro N
    induction N with
    | zero => intros; exfalso; omega
    | succ N iha =>
      intro j zz ss ςa H locs hNa hj ez es fra hP hS ls hl
      have hrow : ∀ i, i % 4 ≠ 3 → sdR z (mSt σ) (mCu σ) seed bb (σ.2.1 6) j i = σ.2.1 6 i := fun i hi => sdR_at _ _ _ _ _ _ j i (Or.inl hi)
      refine lv_iload C.1 C.2.1 dX12_soldBy_8 (lv_at hl 5 rfl) ?_
      refine lv_aload_n C.1 C.2.1 dX12_soldBy_10 rfl (lv_at hl 0 rfl) ?_
      refine mw_geti C Z hP (0) 10 (by decide) rfl rfl rfl (by decide) inX12 tw_4_174 dX12_soldBy_11 ?_
      refine mw_top (y := nI n) (fra.many hn) ?_
      refine lv_icmp_ge (tgt := 115) C.1 C.2.1 dX12_soldBy_14 (by decide) (fun c1 => ?_) (fun c1 => ?_)
      · have c1 := (nI_leI (by omega) (by omega)).mp c1
        refine lv_iload C.1 C.2.1 dX12_soldBy_115 (lv_at hl 4 rfl) ?_
        have ej : j = n := by omega
        exact mw_iret C hr hlk Z hP hS dX12_soldBy_117 (⟨by rw [es, ej], by rw [← ej]; exact fra⟩)
      · have c1 : _ := (not_congr (nI_leI (by omega) (by omega))).mp c1
        refine lv_aload_n C.1 C.2.1 dX12_soldBy_17 rfl (lv_at hl 0 rfl) ?_
        refine lv_iload C.1 C.2.1 dX12_soldBy_18 (lv_at hl 5 rfl) ?_
        refine mw_cVi (As := [.int (nI j)]) (rest := []) C Z hP hS (0) (cM_isThereNow l E ςa j (by omega)) vb_X12_isThereNow tw_6_22 ⟨rfl, rfl⟩ ⟨Nat.le_of_ble_eq_true rfl, Nat.le_of_ble_eq_true rfl⟩ (by decide) rfl rfl rfl rfl hl.1 rfl (Nat.le_of_ble_eq_true rfl) dX12_soldBy_20 ⟨Nat.zero_le _, Nat.zero_le _⟩ (fun r2 u3 H locs q4 hP hS => ?_)
        obtain ⟨e6, f5⟩ := q4
        rw [bI_congr (cg_thereI (sd_st σ _ _ fra) (sd_cu σ _ _ fra hrow j))] at e6
        subst e6
        refine lv_if_eq (tgt := 109) C.1 C.2.1 dX12_soldBy_23 (by decide) (fun c7 => ?_) (fun c7 => ?_)
        · have c7 := bI_0.mp c7
          refine lv_iinc (v := nI (j + 1)) (lv' := [(5, .int (nI (j + 1))), (0, .ref (mw_a E 0)), (1, .int seed), (2, .int bb), (3, .int zz), (4, .int ss)]) C.1 C.2.1 dX12_soldBy_109 hl (k := 5) rfl (nI_1 _) (by decide) rfl (fun ls hl => ?_)
          refine lv_goto (tgt := 8) C.1 C.2.1 dX12_soldBy_112 (by decide) ?_
          exact iha (j + 1) zz ss u3 _ _ (by omega) (by omega) (by rw [ez]; show _ = (if _ then _ else _); rw [if_neg c7]) (by rw [es]; exact sumP_0 (if_neg (fun y => c7 y.1))) (by show mAr σ (va_up σ.2.1 6 (if _ then _ else _)) _; rw [if_neg (fun y => c7 y.1)]; exact (fra.tr f5)) hP hS ls (lv_sub hl [1, 2, 3, 4, 5, 0] rfl)
        · have c7 := bI_n.mp c7
          have ezj : sdZ (mSt σ) (mCu σ) seed (j + 1) = zz * 1103515245 + 12345 := by show (if _ then _ else _) = _; rw [if_pos c7, ez]
          rw [eq_comm] at ezj
          refine lv_iload_n C.1 C.2.1 dX12_soldBy_26 rfl (lv_at hl 3 rfl) ?_
          refine lv_ldcw (own := RX12) C.1 C.2.1 C.2.2.2.1 (C.2.2.2.2 _ tw_6_157) dX12_soldBy_27 ?_
          refine lv_imul C.1 C.2.1 dX12_soldBy_30 ?_
          refine lv_sipush (v := 12345) C.1 C.2.1 dX12_soldBy_31 (by decide) ?_
          refine lv_iadd C.1 C.2.1 dX12_soldBy_34 ?_
          refine lv_istore_n (lv' := [(3, .int ((zz * 1103515245) + 12345)), (0, .ref (mw_a E 0)), (1, .int seed), (2, .int bb), (4, .int ss), (5, .int (nI j))]) C.1 C.2.1 dX12_soldBy_35 rfl hl (by decide) rfl (fun ls hl => ?_)
          refine lv_aload_n C.1 C.2.1 dX12_soldBy_36 rfl (lv_at hl 1 rfl) ?_
          refine lv_iload C.1 C.2.1 dX12_soldBy_37 (lv_at hl 5 rfl) ?_
          refine mw_cVi (As := [.int (nI j)]) (rest := []) C Z hP hS (0) (cM_triesOf l E u3 z j (by omega) (((fra.tr f5)).ru rfl rfl hru)) vb_X12_triesOf tw_6_14 ⟨rfl, rfl⟩ ⟨Nat.le_of_ble_eq_true rfl, Nat.le_of_ble_eq_true rfl⟩ (by decide) rfl rfl rfl rfl hl.1 rfl (Nat.le_of_ble_eq_true rfl) dX12_soldBy_39 ⟨Nat.zero_le _, Nat.zero_le _⟩ (fun r8 u9 H locs q10 hP hS => ?_)
          obtain ⟨e12, f11⟩ := q10
          rw [cg_tries (sd_st σ _ _ (fra.tr f5)) (sd_cu σ _ _ (fra.tr f5) hrow j)] at e12
          subst e12
          refine lv_istore (lv' := [(6, .int (triesP z (mSt σ) (mCu σ j))), (3, .int ((zz * 1103515245) + 12345)), (0, .ref (mw_a E 0)), (1, .int seed), (2, .int bb), (4, .int ss), (5, .int (nI j))]) C.1 C.2.1 dX12_soldBy_42 hl (by decide) rfl (fun ls hl => ?_)
          refine lv_iload C.1 C.2.1 dX12_soldBy_44 (lv_at hl 0 rfl) ?_
          refine lv_if_le (tgt := 109) C.1 C.2.1 dX12_soldBy_46 (by decide) (fun c13 => ?_) (fun c13 => ?_)
          · refine lv_iinc (v := nI (j + 1)) (lv' := [(5, .int (nI (j + 1))), (6, .int (triesP z (mSt σ) (mCu σ j))), (3, .int ((zz * 1103515245) + 12345)), (0, .ref (mw_a E 0)), (1, .int seed), (2, .int bb), (4, .int ss)]) C.1 C.2.1 dX12_soldBy_109 hl (k := 6) rfl (nI_1 _) (by decide) rfl (fun ls hl => ?_)
            refine lv_goto (tgt := 8) C.1 C.2.1 dX12_soldBy_112 (by decide) ?_
            exact iha (j + 1) ((zz * 1103515245) + 12345) ss u9 _ _ (by omega) (by omega) (by rw [ez]; show _ = (if _ then _ else _); rw [if_pos c7]) (by rw [es]; exact sumP_0 (if_neg (fun y => absurd y.2.1 (Int32.not_lt.mpr c13)))) (by show mAr σ (va_up σ.2.1 6 (if _ then _ else _)) _; rw [if_neg (fun y => absurd y.2.1 (Int32.not_lt.mpr c13))]; exact ((fra.tr f5).tr f11)) hP hS ls (lv_sub hl [3, 4, 5, 2, 6, 0] rfl)
          · refine lv_iload_n C.1 C.2.1 dX12_soldBy_49 rfl (lv_at hl 1 rfl) ?_
            refine lv_bipush (v := 9) C.1 C.2.1 dX12_soldBy_50 (by decide) ?_
            refine lv_iushr C.1 C.2.1 dX12_soldBy_52 rfl ?_
            refine lv_iload C.1 C.2.1 dX12_soldBy_53 (lv_at hl 0 rfl) ?_
            refine lv_irem C.1 C.2.1 dX12_soldBy_55 (fun y => by have y2 := Int32.not_le.mp c13; rw [y] at y2; exact absurd y2 (by decide)) ?_
            refine lv_if_ne (tgt := 109) C.1 C.2.1 dX12_soldBy_56 (by decide) (fun c14 => ?_) (fun c14 => ?_)
            · refine lv_iinc (v := nI (j + 1)) (lv' := [(5, .int (nI (j + 1))), (6, .int (triesP z (mSt σ) (mCu σ j))), (3, .int ((zz * 1103515245) + 12345)), (0, .ref (mw_a E 0)), (1, .int seed), (2, .int bb), (4, .int ss)]) C.1 C.2.1 dX12_soldBy_109 hl (k := 6) rfl (nI_1 _) (by decide) rfl (fun ls hl => ?_)
              refine lv_goto (tgt := 8) C.1 C.2.1 dX12_soldBy_112 (by decide) ?_
              exact iha (j + 1) ((zz * 1103515245) + 12345) ss u9 _ _ (by omega) (by omega) (by rw [ez]; show _ = (if _ then _ else _); rw [if_pos c7]) (by rw [es]; exact sumP_0 (if_neg (fun y => c14 (by rw [ezj]; exact y.2.2)))) (by show mAr σ (va_up σ.2.1 6 (if _ then _ else _)) _; rw [if_neg (fun y => c14 (by rw [ezj]; exact y.2.2))]; exact ((fra.tr f5).tr f11)) hP hS ls (lv_sub hl [3, 4, 5, 2, 6, 0] rfl)
            · refine lv_iload C.1 C.2.1 dX12_soldBy_59 (lv_at hl 5 rfl) ?_
              refine lv_aload_n C.1 C.2.1 dX12_soldBy_61 rfl (lv_at hl 2 rfl) ?_
              refine lv_iload C.1 C.2.1 dX12_soldBy_62 (lv_at hl 6 rfl) ?_
              refine mw_cVi (As := [.int (nI j)]) (rest := [.int ss]) C Z hP hS (0) (cM_spendsOf l E u9 z j (by omega) ((((fra.tr f5).tr f11)).ru rfl rfl hru)) vb_X12_spendsOf tw_6_18 ⟨rfl, rfl⟩ ⟨Nat.le_of_ble_eq_true rfl, Nat.le_of_ble_eq_true rfl⟩ (by decide) rfl rfl rfl rfl hl.1 rfl (Nat.le_of_ble_eq_true rfl) dX12_soldBy_64 ⟨Nat.zero_le _, Nat.zero_le _⟩ (fun r15 u16 H locs q17 hP hS => ?_)
              obtain ⟨e19, f18⟩ := q17
              rw [cg_spends (sd_st σ _ _ ((fra.tr f5).tr f11)) (sd_cu σ _ _ ((fra.tr f5).tr f11) hrow j)] at e19
              subst e19
              refine lv_iadd C.1 C.2.1 dX12_soldBy_67 ?_
              refine lv_istore (lv' := [(4, .int (ss + (spendsP z (mSt σ) (mCu σ j)))), (6, .int (triesP z (mSt σ) (mCu σ j))), (3, .int ((zz * 1103515245) + 12345)), (0, .ref (mw_a E 0)), (1, .int seed), (2, .int bb), (5, .int (nI j))]) C.1 C.2.1 dX12_soldBy_68 hl (by decide) rfl (fun ls hl => ?_)
              refine lv_aload_n C.1 C.2.1 dX12_soldBy_70 rfl (lv_at hl 3 rfl) ?_
              refine mw_getr C Z hP (0) 9 (6) (by decide) rfl rfl rfl (by decide) inX12 tw_4_173 dX12_soldBy_71 ?_
              refine lv_iconst (v := 4) C.1 C.2.1 dX12_soldBy_74 (by decide) ?_
              refine lv_iload C.1 C.2.1 dX12_soldBy_75 (lv_at hl 6 rfl) ?_
              refine lv_imul C.1 C.2.1 dX12_soldBy_77 ?_
              refine mw_top (y := nI (4 * j)) (pk_mul 4 j) ?_
              refine lv_iconst (v := 3) C.1 C.2.1 dX12_soldBy_78 (by decide) ?_
              refine lv_iadd C.1 C.2.1 dX12_soldBy_79 ?_
              refine mw_top (y := nI (4 * j + 3)) (nI_add _ 3) ?_
              refine lv_aload_n C.1 C.2.1 dX12_soldBy_80 rfl (lv_at hl 3 rfl) ?_
              refine mw_getr C Z hP (0) 9 (6) (by decide) rfl rfl rfl (by decide) inX12 tw_4_173 dX12_soldBy_81 ?_
              refine lv_iconst (v := 4) C.1 C.2.1 dX12_soldBy_84 (by decide) ?_
              refine lv_iload C.1 C.2.1 dX12_soldBy_85 (lv_at hl 6 rfl) ?_
              refine lv_imul C.1 C.2.1 dX12_soldBy_87 ?_
              refine mw_top (y := nI (4 * j)) (pk_mul 4 j) ?_
              refine lv_iconst (v := 3) C.1 C.2.1 dX12_soldBy_88 (by decide) ?_
              refine lv_iadd C.1 C.2.1 dX12_soldBy_89 ?_
              refine mw_top (y := nI (4 * j + 3)) (nI_add _ 3) ?_
              refine mw_iald C Z hP (6) (4 * j + 3) (by decide) rfl (Nat.lt_of_lt_of_le (by decide : 32 < 961) (Nat.le_of_ble_eq_true rfl)) rfl (by omega) dX12_soldBy_90 ?_
              refine mw_top (y := σ.2.1 6 (4 * j + 3)) (by rw [(((fra.tr f5).tr f11).tr f18).1, va_up_self]; exact sdR_at _ _ _ _ _ _ j _ (Or.inr (by omega))) ?_
              refine lv_iload_n C.1 C.2.1 dX12_soldBy_91 rfl (lv_at hl 5 rfl) ?_
              refine lv_if_eq (tgt := 99) C.1 C.2.1 dX12_soldBy_92 (by decide) (fun c20 => ?_) (fun c20 => ?_)
              · have hb2 := c20
                refine lv_iconst (v := 0) C.1 C.2.1 dX12_soldBy_99 (by decide) ?_
                refine mw_top (y := bb) (by rw [hb2]) ?_
                refine lv_iadd C.1 C.2.1 dX12_soldBy_100 ?_
                refine lv_iconst (v := 0) C.1 C.2.1 dX12_soldBy_101 (by decide) ?_
                refine lv_sipush (v := 999) C.1 C.2.1 dX12_soldBy_102 (by decide) ?_
                refine mw_cSi (As := [.int ((σ.2.1 6 (4 * j + 3)) + bb), .int 0, .int 999]) (rest := [.int (nI (4 * j + 3)), .ref (mw_a E 6)]) C Z hP hS (cM_within l E u16 ((σ.2.1 6 (4 * j + 3)) + bb) 0 999) sb_X12_within tw_6_11 ⟨rfl, rfl⟩ ⟨Nat.le_of_ble_eq_true rfl, Nat.le_of_ble_eq_true rfl⟩ rfl hl.1 rfl (Nat.le_of_ble_eq_true rfl) dX12_soldBy_105 ⟨Nat.zero_le _, Nat.zero_le _⟩ (fun r21 u22 H locs q23 hP hS => ?_)
                obtain ⟨rfl, q23u⟩ := q23
                rw [q23u] at hP; clear q23u
                refine mw_iast C Z hP hS (6) (4 * j + 3) (by decide) rfl (Nat.lt_of_lt_of_le (by decide : 32 < 961) (Nat.le_of_ble_eq_true rfl)) rfl (by omega) dX12_soldBy_108 (fun H locs hP hS => ?_)
                refine lv_iinc (v := nI (j + 1)) (lv' := [(5, .int (nI (j + 1))), (4, .int (ss + (spendsP z (mSt σ) (mCu σ j)))), (6, .int (triesP z (mSt σ) (mCu σ j))), (3, .int ((zz * 1103515245) + 12345)), (0, .ref (mw_a E 0)), (1, .int seed), (2, .int bb)]) C.1 C.2.1 dX12_soldBy_109 hl (k := 6) rfl (nI_1 _) (by decide) rfl (fun ls hl => ?_)
                refine lv_goto (tgt := 8) C.1 C.2.1 dX12_soldBy_112 (by decide) ?_
                exact iha (j + 1) ((zz * 1103515245) + 12345) (ss + (spendsP z (mSt σ) (mCu σ j))) (mw_sa u16 6 (4 * j + 3) (wI ((σ.2.1 6 (4 * j + 3)) + bb) 0 999)) _ _ (by omega) (by omega) (by rw [ez]; show _ = (if _ then _ else _); rw [if_pos c7]) (by rw [es]; exact sumP_s (if_pos ⟨c7, Int32.not_le.mp c13, by rw [← ezj]; exact c14⟩)) (by have y := ((((fra.tr f5).tr f11).tr f18).sa 6 (4 * j + 3) (wI ((σ.2.1 6 (4 * j + 3)) + bb) 0 999)); rw [va_up_self, bx_uu] at y; show mAr σ (va_up σ.2.1 6 (if _ then _ else _)) _; rw [if_pos ⟨c7, Int32.not_le.mp c13, by rw [← ezj]; exact c14⟩]; exact y) hP hS ls (lv_sub hl [4, 5, 6, 3, 1, 0] rfl)
              · have hb2 : bb = 1 := hbb.resolve_left c20
                refine lv_iconst (v := 1) C.1 C.2.1 dX12_soldBy_95 (by decide) ?_
                refine lv_goto (tgt := 100) C.1 C.2.1 dX12_soldBy_96 (by decide) ?_
                refine mw_top (y := bb) (by rw [hb2]) ?_
                refine lv_iadd C.1 C.2.1 dX12_soldBy_100 ?_
                refine lv_iconst (v := 0) C.1 C.2.1 dX12_soldBy_101 (by decide) ?_
                refine lv_sipush (v := 999) C.1 C.2.1 dX12_soldBy_102 (by decide) ?_
                refine mw_cSi (As := [.int ((σ.2.1 6 (4 * j + 3)) + bb), .int 0, .int 999]) (rest := [.int (nI (4 * j + 3)), .ref (mw_a E 6)]) C Z hP hS (cM_within l E u16 ((σ.2.1 6 (4 * j + 3)) + bb) 0 999) sb_X12_within tw_6_11 ⟨rfl, rfl⟩ ⟨Nat.le_of_ble_eq_true rfl, Nat.le_of_ble_eq_true rfl⟩ rfl hl.1 rfl (Nat.le_of_ble_eq_true rfl) dX12_soldBy_105 ⟨Nat.zero_le _, Nat.zero_le _⟩ (fun r24 u25 H locs q26 hP hS => ?_)
                obtain ⟨rfl, q26u⟩ := q26
                rw [q26u] at hP; clear q26u
                refine mw_iast C Z hP hS (6) (4 * j + 3) (by decide) rfl (Nat.lt_of_lt_of_le (by decide : 32 < 961) (Nat.le_of_ble_eq_true rfl)) rfl (by omega) dX12_soldBy_108 (fun H locs hP hS => ?_)
                refine lv_iinc (v := nI (j + 1)) (lv' := [(5, .int (nI (j + 1))), (4, .int (ss + (spendsP z (mSt σ) (mCu σ j)))), (6, .int (triesP z (mSt σ) (mCu σ j))), (3, .int ((zz * 1103515245) + 12345)), (0, .ref (mw_a E 0)), (1, .int seed), (2, .int bb)]) C.1 C.2.1 dX12_soldBy_109 hl (k := 6) rfl (nI_1 _) (by decide) rfl (fun ls hl => ?_)
                refine lv_goto (tgt := 8) C.1 C.2.1 dX12_soldBy_112 (by decide) ?_
                exact iha (j + 1) ((zz * 1103515245) + 12345) (ss + (spendsP z (mSt σ) (mCu σ j))) (mw_sa u16 6 (4 * j + 3) (wI ((σ.2.1 6 (4 * j + 3)) + bb) 0 999)) _ _ (by omega) (by omega) (by rw [ez]; show _ = (if _ then _ else _); rw [if_pos c7]) (by rw [es]; exact sumP_s (if_pos ⟨c7, Int32.not_le.mp c13, by rw [← ezj]; exact c14⟩)) (by have y := ((((fra.tr f5).tr f11).tr f18).sa 6 (4 * j + 3) (wI ((σ.2.1 6 (4 * j + 3)) + bb) 0 999)); rw [va_up_self, bx_uu] at y; show mAr σ (va_up σ.2.1 6 (if _ then _ else _)) _; rw [if_pos ⟨c7, Int32.not_le.mp c13, by rw [← ezj]; exact c14⟩]; exact y) hP hS ls (lv_sub hl [4, 5, 6, 3, 1, 0] rfl)
  exact lpa (n + 1) 0 seed 0 σ _ _ (by omega) (by omega) (rfl) (rfl) ⟨(sdX0 σ).symm, fun _ _ => rfl⟩ hP hS ls (lv_sub hl [3, 4, 5, 2, 1, 0] rfl)
