/-! THE REFERENCE: SET, CUSTOMER, FEED, FORCE, TAKEN, SHEETS -/
abbrev setOK (n : Nat) (w o v : Int32) : Prop := (0 ≤ w.toInt ∧ w.toInt ≤ 7) ∧ (4 < w.toInt → 0 ≤ o.toInt ∧ o.toInt < n) ∧ ((leastF w).toInt ≤ v.toInt ∧ v.toInt ≤ (mostF w).toInt)
def setM (σ : mw_M) (k p : Nat) (v : Int32) : mw_M := if k < 5 then mw_sa σ 4 k v else mw_sa σ 6 (4 * p + (k - 5)) v

set_option maxHeartbeats 4000000 in
set_option maxRecDepth 100000 in
theorem cM_laysA (l : Launch) (E : mw_E) (σ : mw_M) (k : Nat) (hk : k < 5) (oo v : Int32) : mw_Cv shM 13 gM l yX12_lays cX12_lays 4 none (rmF 0 0) E [.ref (mw_a E 0), .int (nI k), .int oo, .int v] σ (fun u => u = mw_sa σ 4 k v) := by
  refine mw_of (by decide) gM_ok (Nat.le_of_ble_eq_true rfl) ?_
  intro p_ e_ s_ m_ below meth c_ C hr hlk Z hP ls hl
  have C : CallFix p_ m_ c_ cX12_lays 4 s_ _ lw_good RX12 := C
  have hl : lv_has ls 4 [(0, .ref (mw_a E 0)), (1, .int (nI k)), (2, .int oo), (3, .int v)] := hl
  have hS : va_S (mw_A 13 E) s_.heap s_.heap [] := va_S.rf
  refine lv_iload_n C.1 C.2.1 dX12_lays_0 rfl (lv_at hl 1 rfl) ?_
  refine lv_iconst (v := 5) C.1 C.2.1 dX12_lays_1 (by decide) ?_
  refine lv_icmp_ge (tgt := 15) C.1 C.2.1 dX12_lays_2 (by decide) (fun c1 => ?_) (fun c1 => ?_)
  · have c1 := (nI_leI (a := 5) (by decide) (by omega)).mp c1
    exfalso; omega
  · have c1 : _ := (not_congr (nI_leI (a := 5) (by decide) (by omega))).mp c1
    refine lv_aload_n C.1 C.2.1 dX12_lays_5 rfl (lv_at hl 0 rfl) ?_
    refine mw_getr C Z hP (0) 7 (4) (by decide) rfl rfl rfl (by decide) inX12 tw_4_171 dX12_lays_6 ?_
    refine lv_iload_n C.1 C.2.1 dX12_lays_9 rfl (lv_at hl 1 rfl) ?_
    refine lv_iload_n C.1 C.2.1 dX12_lays_10 rfl (lv_at hl 3 rfl) ?_
    refine mw_iast C Z hP hS (4) (k) (by decide) rfl (Nat.lt_of_lt_of_le (by decide : 5 < 961) (Nat.le_of_ble_eq_true rfl)) rfl (by omega) dX12_lays_11 (fun H locs hP hS => ?_)
    refine lv_goto (tgt := 58) C.1 C.2.1 dX12_lays_12 (by decide) ?_
    exact mw_vret C hr hlk Z hP hS dX12_lays_58 (rfl)

set_option maxHeartbeats 4000000 in
set_option maxRecDepth 100000 in
theorem cM_laysB (l : Launch) (E : mw_E) (σ : mw_M) (k : Nat) (hk : 5 ≤ k ∧ k < 8) (p : Nat) (hp : p < 8) (v : Int32) : mw_Cv shM 13 gM l yX12_lays cX12_lays 4 none (rmF 0 0) E [.ref (mw_a E 0), .int (nI k), .int (nI p), .int v] σ (fun u => u = mw_sa σ 6 (4 * p + (k - 5)) v) := by
  refine mw_of (by decide) gM_ok (Nat.le_of_ble_eq_true rfl) ?_
  intro p_ e_ s_ m_ below meth c_ C hr hlk Z hP ls hl
  have C : CallFix p_ m_ c_ cX12_lays 4 s_ _ lw_good RX12 := C
  have hl : lv_has ls 4 [(0, .ref (mw_a E 0)), (1, .int (nI k)), (2, .int (nI p)), (3, .int v)] := hl
  have hS : va_S (mw_A 13 E) s_.heap s_.heap [] := va_S.rf
  refine lv_iload_n C.1 C.2.1 dX12_lays_0 rfl (lv_at hl 1 rfl) ?_
  refine lv_iconst (v := 5) C.1 C.2.1 dX12_lays_1 (by decide) ?_
  refine lv_icmp_ge (tgt := 15) C.1 C.2.1 dX12_lays_2 (by decide) (fun c1 => ?_) (fun c1 => ?_)
  · have c1 := (nI_leI (a := 5) (by decide) (by omega)).mp c1
    refine lv_iload_n C.1 C.2.1 dX12_lays_15 rfl (lv_at hl 1 rfl) ?_
    refine lv_bipush (v := 8) C.1 C.2.1 dX12_lays_16 (by decide) ?_
    refine lv_icmp_ge (tgt := 37) C.1 C.2.1 dX12_lays_18 (by decide) (fun c2 => ?_) (fun c2 => ?_)
    · have c2 := (nI_leI (a := 8) (by decide) (by omega)).mp c2
      exfalso; omega
    · have c2 : _ := (not_congr (nI_leI (a := 8) (by decide) (by omega))).mp c2
      refine lv_aload_n C.1 C.2.1 dX12_lays_21 rfl (lv_at hl 0 rfl) ?_
      refine mw_getr C Z hP (0) 9 (6) (by decide) rfl rfl rfl (by decide) inX12 tw_4_173 dX12_lays_22 ?_
      refine lv_iconst (v := 4) C.1 C.2.1 dX12_lays_25 (by decide) ?_
      refine lv_iload_n C.1 C.2.1 dX12_lays_26 rfl (lv_at hl 2 rfl) ?_
      refine lv_imul C.1 C.2.1 dX12_lays_27 ?_
      refine mw_top (y := nI (4 * p)) (pk_mul 4 p) ?_
      refine lv_iload_n C.1 C.2.1 dX12_lays_28 rfl (lv_at hl 1 rfl) ?_
      refine lv_iadd C.1 C.2.1 dX12_lays_29 ?_
      refine mw_top (y := nI (4 * p + k)) (nI_add _ _) ?_
      refine lv_iconst (v := 5) C.1 C.2.1 dX12_lays_30 (by decide) ?_
      refine lv_isub C.1 C.2.1 dX12_lays_31 ?_
      refine mw_top (y := nI (4 * p + (k - 5))) (by rw [show 4 * p + (k - 5) = 4 * p + k - 5 by omega]; exact pk_sub (b := 5) (by omega)) ?_
      refine lv_iload_n C.1 C.2.1 dX12_lays_32 rfl (lv_at hl 3 rfl) ?_
      refine mw_iast C Z hP hS (6) (4 * p + (k - 5)) (by decide) rfl (Nat.lt_of_lt_of_le (by decide : 32 < 961) (Nat.le_of_ble_eq_true rfl)) rfl (by omega) dX12_lays_33 (fun H locs hP hS => ?_)
      refine lv_goto (tgt := 58) C.1 C.2.1 dX12_lays_34 (by decide) ?_
      exact mw_vret C hr hlk Z hP hS dX12_lays_58 (rfl)
  · have c1 : _ := (not_congr (nI_leI (a := 5) (by decide) (by omega))).mp c1
    exfalso; omega

theorem mFs.sa {σ u : mw_M} (h : mFs σ u) (a j : Nat) (v : Int32) : mFs (mw_sa σ a j v) (mw_sa u a j v) := by
  refine ⟨?_, h.2⟩
  show va_up u.2.1 a (upd (u.2.1 a) j v) = va_up σ.2.1 a (upd (σ.2.1 a) j v)
  rw [h.1]
theorem mFs.sf {σ u : mw_M} (h : mFs σ u) (f : Nat) (v : Int32) : mFs (mw_si σ 0 f v) (mw_si u 0 f v) := by
  refine ⟨h.1, fun g hg => ?_⟩
  show va_up u.1 0 (va_up (u.1 0) f v) 0 g = va_up σ.1 0 (va_up (σ.1 0) f v) 0 g
  rw [va_up_self, va_up_self]
  by_cases e : g = f
  · rw [e, va_up_self, va_up_self]
  · rw [va_up_ne _ _ e, va_up_ne _ _ e]
    exact h.2 g hg

set_option maxHeartbeats 4000000 in
set_option maxRecDepth 100000 in
theorem cM_set (l : Launch) (E : mw_E) (σ : mw_M) (z : zP) (n : Nat) (hn : σ.1 0 10 = nI n) (h8 : n ≤ 8) (hru : mRu σ z) (ww oo vv : Int32) : mw_Ci shM 13 gM l yX12_set cX12_set 5 (some .int) (rmF 47 1041) E [.ref (mw_a E 0), .int ww, .int oo, .int vv] σ (fun r u => (¬ setOK n ww oo vv → r = -2 ∧ mFs σ u) ∧ (setOK n ww oo vv → r = toldF z (mSt σ) (mCu σ) n oo ww ∧ mFs (setM σ ww.toNatClampNeg oo.toNatClampNeg vv) u)) := by
  refine mw_of (by decide) gM_ok (Nat.le_of_ble_eq_true rfl) ?_
  intro p_ e_ s_ m_ below meth c_ C hr hlk Z hP ls hl
  have C : CallFix p_ m_ c_ cX12_set 5 s_ _ lw_good RX12 := C
  have hl : lv_has ls 5 [(0, .ref (mw_a E 0)), (1, .int ww), (2, .int oo), (3, .int vv)] := hl
  have hS : va_S (mw_A 13 E) s_.heap s_.heap [] := va_S.rf
  refine lv_iload_n C.1 C.2.1 dX12_set_0 rfl (lv_at hl 1 rfl) ?_
  refine lv_i2l C.1 C.2.1 dX12_set_1 rfl ?_
  refine lv_lconst (v := 0) C.1 C.2.1 dX12_set_2 (by decide) ?_
  refine lv_ldc2 (own := RX12) C.1 C.2.1 C.2.2.2.1 (C.2.2.2.2 _ tw_5_32) dX12_set_3 ?_
  refine mw_cSi (As := [.long (ww.toInt64), .long (0), .long (7)]) (rest := []) C Z hP hS (cM_in l E σ (ww.toInt64) 0 7 (0 ≤ ww.toInt ∧ ww.toInt ≤ 7) (by first | (simp only [nl_i]; exact Iff.rfl) | (simp only [nl_i]; decide) | simp [nl_i])) sb_X12_in tw_5_33 ⟨rfl, rfl⟩ ⟨Nat.le_of_ble_eq_true rfl, Nat.le_of_ble_eq_true rfl⟩ rfl hl.1 rfl (Nat.le_of_ble_eq_true rfl) dX12_set_6 ⟨Nat.zero_le _, Nat.zero_le _⟩ (fun r1 u2 H locs q3 hP hS => ?_)
  obtain ⟨rfl, q3u⟩ := q3
  rw [q3u] at hP; clear q3u
  refine lv_if_eq (tgt := 43) C.1 C.2.1 dX12_set_9 (by decide) (fun c4 => ?_) (fun c4 => ?_)
  · have c4 := bI_0.mp c4
    refine lv_bipush (v := -2) C.1 C.2.1 dX12_set_43 (by decide) ?_
    exact mw_iret C hr hlk Z hP hS dX12_set_45 (⟨fun _ => ⟨rfl, (mFs.rf σ)⟩, fun y => absurd y (fun y => c4 y.1)⟩)
  · have c4 := bI_n.mp c4
    have hrg := c4
    obtain ⟨k, hk, ek⟩ := nI_ofI (k := 7) hrg.1 hrg.2
    subst ek
    have ek : (nI k).toNatClampNeg = k := nI_clamp (by omega)
    refine lv_iload_n C.1 C.2.1 dX12_set_12 rfl (lv_at hl 1 rfl) ?_
    refine lv_iconst (v := 4) C.1 C.2.1 dX12_set_13 (by decide) ?_
    refine lv_icmp_le (tgt := 25) C.1 C.2.1 dX12_set_14 (by decide) (fun c5 => ?_) (fun c5 => ?_)
    · have c5 := (nI_leI (b := 4) (by omega) (by decide)).mp c5
      have hno : 4 < (nI k).toInt → 0 ≤ oo.toInt ∧ oo.toInt < n := fun y => by rw [nI_toInt (by omega)] at y; omega
      refine lv_iload_n C.1 C.2.1 dX12_set_25 rfl (lv_at hl 3 rfl) ?_
      refine lv_i2l C.1 C.2.1 dX12_set_26 rfl ?_
      refine lv_iload_n C.1 C.2.1 dX12_set_27 rfl (lv_at hl 1 rfl) ?_
      refine mw_cSi (As := [.int (nI k)]) (rest := [.long (vv.toInt64)]) C Z hP hS (cM_leastOf l E σ (nI k)) sb_X12_leastOf tw_5_40 ⟨rfl, rfl⟩ ⟨Nat.le_of_ble_eq_true rfl, Nat.le_of_ble_eq_true rfl⟩ rfl hl.1 rfl (Nat.le_of_ble_eq_true rfl) dX12_set_28 ⟨Nat.zero_le _, Nat.zero_le _⟩ (fun r6 u7 H locs q8 hP hS => ?_)
      obtain ⟨rfl, q8u⟩ := q8
      rw [q8u] at hP; clear q8u
      refine lv_i2l C.1 C.2.1 dX12_set_31 rfl ?_
      refine lv_iload_n C.1 C.2.1 dX12_set_32 rfl (lv_at hl 1 rfl) ?_
      refine mw_cSi (As := [.int (nI k)]) (rest := [.long ((leastF (nI k)).toInt64), .long (vv.toInt64)]) C Z hP hS (cM_mostOf l E σ (nI k)) sb_X12_mostOf tw_5_43 ⟨rfl, rfl⟩ ⟨Nat.le_of_ble_eq_true rfl, Nat.le_of_ble_eq_true rfl⟩ rfl hl.1 rfl (Nat.le_of_ble_eq_true rfl) dX12_set_33 ⟨Nat.zero_le _, Nat.zero_le _⟩ (fun r9 u10 H locs q11 hP hS => ?_)
      obtain ⟨rfl, q11u⟩ := q11
      rw [q11u] at hP; clear q11u
      refine lv_i2l C.1 C.2.1 dX12_set_36 rfl ?_
      refine mw_cSi (As := [.long (vv.toInt64), .long ((leastF (nI k)).toInt64), .long ((mostF (nI k)).toInt64)]) (rest := []) C Z hP hS (cM_in l E σ (vv.toInt64) ((leastF (nI k)).toInt64) ((mostF (nI k)).toInt64) ((leastF (nI k)).toInt ≤ vv.toInt ∧ vv.toInt ≤ (mostF (nI k)).toInt) (by first | (simp only [nl_i]; exact Iff.rfl) | (simp only [nl_i]; decide) | simp [nl_i])) sb_X12_in tw_5_33 ⟨rfl, rfl⟩ ⟨Nat.le_of_ble_eq_true rfl, Nat.le_of_ble_eq_true rfl⟩ rfl hl.1 rfl (Nat.le_of_ble_eq_true rfl) dX12_set_37 ⟨Nat.zero_le _, Nat.zero_le _⟩ (fun r12 u13 H locs q14 hP hS => ?_)
      obtain ⟨rfl, q14u⟩ := q14
      rw [q14u] at hP; clear q14u
      refine lv_if_ne (tgt := 46) C.1 C.2.1 dX12_set_40 (by decide) (fun c15 => ?_) (fun c15 => ?_)
      · have c15 := bI_n.mp c15
        have hrv := c15
        refine lv_aload_n C.1 C.2.1 dX12_set_46 rfl (lv_at hl 0 rfl) ?_
        refine lv_iload_n C.1 C.2.1 dX12_set_47 rfl (lv_at hl 2 rfl) ?_
        refine lv_iload_n C.1 C.2.1 dX12_set_48 rfl (lv_at hl 1 rfl) ?_
        refine mw_cVi (As := [.int oo, .int (nI k)]) (rest := []) C Z hP hS (0) (cM_told l E σ z n ((mFs.rf σ).many hn) h8 ((mFs.rf σ).ru hru) oo (nI k)) vb_X12_told tw_5_46 ⟨rfl, rfl⟩ ⟨Nat.le_of_ble_eq_true rfl, Nat.le_of_ble_eq_true rfl⟩ (by decide) rfl rfl rfl rfl hl.1 rfl (Nat.le_of_ble_eq_true rfl) dX12_set_49 ⟨Nat.zero_le _, Nat.zero_le _⟩ (fun r16 u17 H locs q18 hP hS => ?_)
        obtain ⟨e20, f19⟩ := q18
        rw [(mFs.rf σ).st, show mCu (σ) = mCu σ from funext fun p => (mFs.rf σ).cu p] at e20
        subst e20
        refine lv_istore (lv' := [(4, .int (toldF z (mSt σ) (mCu σ) n oo (nI k))), (0, .ref (mw_a E 0)), (1, .int (nI k)), (2, .int oo), (3, .int vv)]) C.1 C.2.1 dX12_set_52 hl (by decide) rfl (fun ls hl => ?_)
        refine lv_aload_n C.1 C.2.1 dX12_set_54 rfl (lv_at hl 1 rfl) ?_
        refine lv_iload_n C.1 C.2.1 dX12_set_55 rfl (lv_at hl 2 rfl) ?_
        refine lv_iload_n C.1 C.2.1 dX12_set_56 rfl (lv_at hl 3 rfl) ?_
        refine lv_iload_n C.1 C.2.1 dX12_set_57 rfl (lv_at hl 4 rfl) ?_
        refine mw_cVv (As := [.int (nI k), .int oo, .int vv]) (rest := []) C Z hP hS (0) (cM_laysA l E u17 k (by omega) oo vv) vb_X12_lays tw_6_34 ⟨rfl, rfl⟩ ⟨Nat.le_of_ble_eq_true rfl, Nat.le_of_ble_eq_true rfl⟩ (by decide) rfl rfl rfl rfl hl.1 rfl (Nat.le_of_ble_eq_true rfl) dX12_set_58 ⟨Nat.zero_le _, Nat.zero_le _⟩ (fun u22 H locs q23 hP hS => ?_)
        rw [q23] at hP; clear q23
        refine lv_iload C.1 C.2.1 dX12_set_61 (lv_at hl 0 rfl) ?_
        exact mw_iret C hr hlk Z hP hS dX12_set_63 (⟨fun y => absurd ⟨hrg, hno, hrv⟩ y, fun _ => ⟨rfl, by rw [ek]; unfold setM; rw [if_pos (by omega)]; exact mFs.sa ((mFs.rf σ).tr f19) 4 _ _⟩⟩)
      · have c15 := bI_0.mp c15
        refine lv_bipush (v := -2) C.1 C.2.1 dX12_set_43 (by decide) ?_
        exact mw_iret C hr hlk Z hP hS dX12_set_45 (⟨fun _ => ⟨rfl, (mFs.rf σ)⟩, fun y => absurd y (fun y => c15 y.2.2)⟩)
    · have c5 : _ := (not_congr (nI_leI (b := 4) (by omega) (by decide))).mp c5
      refine lv_aload_n C.1 C.2.1 dX12_set_17 rfl (lv_at hl 0 rfl) ?_
      refine lv_iload_n C.1 C.2.1 dX12_set_18 rfl (lv_at hl 2 rfl) ?_
      refine mw_cVi (As := [.int oo]) (rest := []) C Z hP hS (0) (cM_isOne l E σ oo n hn h8) vb_X12_isOne tw_5_36 ⟨rfl, rfl⟩ ⟨Nat.le_of_ble_eq_true rfl, Nat.le_of_ble_eq_true rfl⟩ (by decide) rfl rfl rfl rfl hl.1 rfl (Nat.le_of_ble_eq_true rfl) dX12_set_19 ⟨Nat.zero_le _, Nat.zero_le _⟩ (fun r24 u25 H locs q26 hP hS => ?_)
      obtain ⟨rfl, q26u⟩ := q26
      rw [q26u] at hP; clear q26u
      refine lv_if_eq (tgt := 43) C.1 C.2.1 dX12_set_22 (by decide) (fun c27 => ?_) (fun c27 => ?_)
      · have c27 := bI_0.mp c27
        refine lv_bipush (v := -2) C.1 C.2.1 dX12_set_43 (by decide) ?_
        exact mw_iret C hr hlk Z hP hS dX12_set_45 (⟨fun _ => ⟨rfl, (mFs.rf σ)⟩, fun y => absurd y (fun y => c27 (y.2.1 (by rw [nI_toInt (by omega)]; omega)))⟩)
      · have c27 := bI_n.mp c27
        have hno : 4 < (nI k).toInt → 0 ≤ oo.toInt ∧ oo.toInt < n := fun _ => c27
        have hro := c27
        obtain ⟨q, hq, eq⟩ := nI_ofI (k := 7) hro.1 (by omega)
        subst eq
        have eq : (nI q).toNatClampNeg = q := nI_clamp (by omega)
        refine lv_iload_n C.1 C.2.1 dX12_set_25 rfl (lv_at hl 3 rfl) ?_
        refine lv_i2l C.1 C.2.1 dX12_set_26 rfl ?_
        refine lv_iload_n C.1 C.2.1 dX12_set_27 rfl (lv_at hl 1 rfl) ?_
        refine mw_cSi (As := [.int (nI k)]) (rest := [.long (vv.toInt64)]) C Z hP hS (cM_leastOf l E σ (nI k)) sb_X12_leastOf tw_5_40 ⟨rfl, rfl⟩ ⟨Nat.le_of_ble_eq_true rfl, Nat.le_of_ble_eq_true rfl⟩ rfl hl.1 rfl (Nat.le_of_ble_eq_true rfl) dX12_set_28 ⟨Nat.zero_le _, Nat.zero_le _⟩ (fun r28 u29 H locs q30 hP hS => ?_)
        obtain ⟨rfl, q30u⟩ := q30
        rw [q30u] at hP; clear q30u
        refine lv_i2l C.1 C.2.1 dX12_set_31 rfl ?_
        refine lv_iload_n C.1 C.2.1 dX12_set_32 rfl (lv_at hl 1 rfl) ?_
        refine mw_cSi (As := [.int (nI k)]) (rest := [.long ((leastF (nI k)).toInt64), .long (vv.toInt64)]) C Z hP hS (cM_mostOf l E σ (nI k)) sb_X12_mostOf tw_5_43 ⟨rfl, rfl⟩ ⟨Nat.le_of_ble_eq_true rfl, Nat.le_of_ble_eq_true rfl⟩ rfl hl.1 rfl (Nat.le_of_ble_eq_true rfl) dX12_set_33 ⟨Nat.zero_le _, Nat.zero_le _⟩ (fun r31 u32 H locs q33 hP hS => ?_)
        obtain ⟨rfl, q33u⟩ := q33
        rw [q33u] at hP; clear q33u
        refine lv_i2l C.1 C.2.1 dX12_set_36 rfl ?_
        refine mw_cSi (As := [.long (vv.toInt64), .long ((leastF (nI k)).toInt64), .long ((mostF (nI k)).toInt64)]) (rest := []) C Z hP hS (cM_in l E σ (vv.toInt64) ((leastF (nI k)).toInt64) ((mostF (nI k)).toInt64) ((leastF (nI k)).toInt ≤ vv.toInt ∧ vv.toInt ≤ (mostF (nI k)).toInt) (by first | (simp only [nl_i]; exact Iff.rfl) | (simp only [nl_i]; decide) | simp [nl_i])) sb_X12_in tw_5_33 ⟨rfl, rfl⟩ ⟨Nat.le_of_ble_eq_true rfl, Nat.le_of_ble_eq_true rfl⟩ rfl hl.1 rfl (Nat.le_of_ble_eq_true rfl) dX12_set_37 ⟨Nat.zero_le _, Nat.zero_le _⟩ (fun r34 u35 H locs q36 hP hS => ?_)
        obtain ⟨rfl, q36u⟩ := q36
        rw [q36u] at hP; clear q36u
        refine lv_if_ne (tgt := 46) C.1 C.2.1 dX12_set_40 (by decide) (fun c37 => ?_) (fun c37 => ?_)
        · have c37 := bI_n.mp c37
          have hrv := c37
          refine lv_aload_n C.1 C.2.1 dX12_set_46 rfl (lv_at hl 0 rfl) ?_
          refine lv_iload_n C.1 C.2.1 dX12_set_47 rfl (lv_at hl 2 rfl) ?_
          refine lv_iload_n C.1 C.2.1 dX12_set_48 rfl (lv_at hl 1 rfl) ?_
          refine mw_cVi (As := [.int (nI q), .int (nI k)]) (rest := []) C Z hP hS (0) (cM_told l E σ z n ((mFs.rf σ).many hn) h8 ((mFs.rf σ).ru hru) (nI q) (nI k)) vb_X12_told tw_5_46 ⟨rfl, rfl⟩ ⟨Nat.le_of_ble_eq_true rfl, Nat.le_of_ble_eq_true rfl⟩ (by decide) rfl rfl rfl rfl hl.1 rfl (Nat.le_of_ble_eq_true rfl) dX12_set_49 ⟨Nat.zero_le _, Nat.zero_le _⟩ (fun r38 u39 H locs q40 hP hS => ?_)
          obtain ⟨e42, f41⟩ := q40
          rw [(mFs.rf σ).st, show mCu (σ) = mCu σ from funext fun p => (mFs.rf σ).cu p] at e42
          subst e42
          refine lv_istore (lv' := [(4, .int (toldF z (mSt σ) (mCu σ) n (nI q) (nI k))), (0, .ref (mw_a E 0)), (1, .int (nI k)), (2, .int (nI q)), (3, .int vv)]) C.1 C.2.1 dX12_set_52 hl (by decide) rfl (fun ls hl => ?_)
          refine lv_aload_n C.1 C.2.1 dX12_set_54 rfl (lv_at hl 1 rfl) ?_
          refine lv_iload_n C.1 C.2.1 dX12_set_55 rfl (lv_at hl 2 rfl) ?_
          refine lv_iload_n C.1 C.2.1 dX12_set_56 rfl (lv_at hl 3 rfl) ?_
          refine lv_iload_n C.1 C.2.1 dX12_set_57 rfl (lv_at hl 4 rfl) ?_
          refine mw_cVv (As := [.int (nI k), .int (nI q), .int vv]) (rest := []) C Z hP hS (0) (cM_laysB l E u39 k (by omega) q (by omega) vv) vb_X12_lays tw_6_34 ⟨rfl, rfl⟩ ⟨Nat.le_of_ble_eq_true rfl, Nat.le_of_ble_eq_true rfl⟩ (by decide) rfl rfl rfl rfl hl.1 rfl (Nat.le_of_ble_eq_true rfl) dX12_set_58 ⟨Nat.zero_le _, Nat.zero_le _⟩ (fun u44 H locs q45 hP hS => ?_)
          rw [q45] at hP; clear q45
          refine lv_iload C.1 C.2.1 dX12_set_61 (lv_at hl 0 rfl) ?_
          exact mw_iret C hr hlk Z hP hS dX12_set_63 (⟨fun y => absurd ⟨hrg, hno, hrv⟩ y, fun _ => ⟨rfl, by rw [ek, eq]; unfold setM; rw [if_neg (by omega)]; exact mFs.sa ((mFs.rf σ).tr f41) 6 _ _⟩⟩)
        · have c37 := bI_0.mp c37
          refine lv_bipush (v := -2) C.1 C.2.1 dX12_set_43 (by decide) ?_
          exact mw_iret C hr hlk Z hP hS dX12_set_45 (⟨fun _ => ⟨rfl, (mFs.rf σ)⟩, fun y => absurd y (fun y => c37 y.2.2)⟩)

abbrev cusOK (k m h : Int32) : Prop := (0 ≤ k.toInt ∧ k.toInt ≤ 5) ∧ (0 ≤ m.toInt ∧ m.toInt ≤ 9) ∧ (0 ≤ h.toInt ∧ h.toInt ≤ 9)
def cusM (σ : mw_M) (n : Nat) (k m h : Int32) : mw_M := mw_si (mw_sa (mw_sa (mw_sa (mw_sa (mw_sa σ 5 n k) 6 (4 * n) m) 6 (4 * n + 1) h) 6 (4 * n + 2) 20) 6 (4 * n + 3) 0) 0 10 (nI (n + 1))

set_option maxHeartbeats 4000000 in
set_option maxRecDepth 100000 in
theorem cM_customer (l : Launch) (E : mw_E) (σ : mw_M) (n : Nat) (hn : σ.1 0 10 = nI n) (h8 : n ≤ 8) (kk mm hh : Int32) : mw_Ci shM 13 gM l yX12_customer cX12_customer 4 (some .int) (rmF 1 25) E [.ref (mw_a E 0), .int kk, .int mm, .int hh] σ (fun r u => (¬ cusOK kk mm hh → r = -2 ∧ u = σ) ∧ (cusOK kk mm hh ∧ n = 8 → r = -4 ∧ u = σ) ∧ (cusOK kk mm hh ∧ n < 8 → r = nI n ∧ u = cusM σ n kk mm hh)) := by
  refine mw_of (by decide) gM_ok (Nat.le_of_ble_eq_true rfl) ?_
  intro p_ e_ s_ m_ below meth c_ C hr hlk Z hP ls hl
  have C : CallFix p_ m_ c_ cX12_customer 4 s_ _ lw_good RX12 := C
  have hl : lv_has ls 4 [(0, .ref (mw_a E 0)), (1, .int kk), (2, .int mm), (3, .int hh)] := hl
  have hS : va_S (mw_A 13 E) s_.heap s_.heap [] := va_S.rf
  refine lv_iload_n C.1 C.2.1 dX12_customer_0 rfl (lv_at hl 1 rfl) ?_
  refine lv_i2l C.1 C.2.1 dX12_customer_1 rfl ?_
  refine lv_lconst (v := 0) C.1 C.2.1 dX12_customer_2 (by decide) ?_
  refine lv_ldc2 (own := RX12) C.1 C.2.1 C.2.2.2.1 (C.2.2.2.2 _ tw_6_42) dX12_customer_3 ?_
  refine mw_cSi (As := [.long (kk.toInt64), .long (0), .long (5)]) (rest := []) C Z hP hS (cM_in l E σ (kk.toInt64) 0 5 (0 ≤ kk.toInt ∧ kk.toInt ≤ 5) (by first | (simp only [nl_i]; exact Iff.rfl) | (simp only [nl_i]; decide) | simp [nl_i])) sb_X12_in tw_5_33 ⟨rfl, rfl⟩ ⟨Nat.le_of_ble_eq_true rfl, Nat.le_of_ble_eq_true rfl⟩ rfl hl.1 rfl (Nat.le_of_ble_eq_true rfl) dX12_customer_6 ⟨Nat.zero_le _, Nat.zero_le _⟩ (fun r1 u2 H locs q3 hP hS => ?_)
  obtain ⟨rfl, q3u⟩ := q3
  rw [q3u] at hP; clear q3u
  refine lv_if_eq (tgt := 36) C.1 C.2.1 dX12_customer_9 (by decide) (fun c4 => ?_) (fun c4 => ?_)
  · have c4 := bI_0.mp c4
    refine lv_bipush (v := -2) C.1 C.2.1 dX12_customer_36 (by decide) ?_
    exact mw_iret C hr hlk Z hP hS dX12_customer_38 (⟨fun _ => ⟨rfl, rfl⟩, fun y => absurd y.1 (fun y => c4 y.1), fun y => absurd y.1 (fun y => c4 y.1)⟩)
  · have c4 := bI_n.mp c4
    refine lv_iload_n C.1 C.2.1 dX12_customer_12 rfl (lv_at hl 2 rfl) ?_
    refine lv_i2l C.1 C.2.1 dX12_customer_13 rfl ?_
    refine lv_lconst (v := 0) C.1 C.2.1 dX12_customer_14 (by decide) ?_
    refine lv_ldc2 (own := RX12) C.1 C.2.1 C.2.2.2.1 (C.2.2.2.2 _ tw_6_43) dX12_customer_15 ?_
    refine mw_cSi (As := [.long (mm.toInt64), .long (0), .long (9)]) (rest := []) C Z hP hS (cM_in l E σ (mm.toInt64) 0 9 (0 ≤ mm.toInt ∧ mm.toInt ≤ 9) (by first | (simp only [nl_i]; exact Iff.rfl) | (simp only [nl_i]; decide) | simp [nl_i])) sb_X12_in tw_5_33 ⟨rfl, rfl⟩ ⟨Nat.le_of_ble_eq_true rfl, Nat.le_of_ble_eq_true rfl⟩ rfl hl.1 rfl (Nat.le_of_ble_eq_true rfl) dX12_customer_18 ⟨Nat.zero_le _, Nat.zero_le _⟩ (fun r5 u6 H locs q7 hP hS => ?_)
    obtain ⟨rfl, q7u⟩ := q7
    rw [q7u] at hP; clear q7u
    refine lv_if_eq (tgt := 36) C.1 C.2.1 dX12_customer_21 (by decide) (fun c8 => ?_) (fun c8 => ?_)
    · have c8 := bI_0.mp c8
      refine lv_bipush (v := -2) C.1 C.2.1 dX12_customer_36 (by decide) ?_
      exact mw_iret C hr hlk Z hP hS dX12_customer_38 (⟨fun _ => ⟨rfl, rfl⟩, fun y => absurd y.1 (fun y => c8 y.2.1), fun y => absurd y.1 (fun y => c8 y.2.1)⟩)
    · have c8 := bI_n.mp c8
      refine lv_iload_n C.1 C.2.1 dX12_customer_24 rfl (lv_at hl 3 rfl) ?_
      refine lv_i2l C.1 C.2.1 dX12_customer_25 rfl ?_
      refine lv_lconst (v := 0) C.1 C.2.1 dX12_customer_26 (by decide) ?_
      refine lv_ldc2 (own := RX12) C.1 C.2.1 C.2.2.2.1 (C.2.2.2.2 _ tw_6_43) dX12_customer_27 ?_
      refine mw_cSi (As := [.long (hh.toInt64), .long (0), .long (9)]) (rest := []) C Z hP hS (cM_in l E σ (hh.toInt64) 0 9 (0 ≤ hh.toInt ∧ hh.toInt ≤ 9) (by first | (simp only [nl_i]; exact Iff.rfl) | (simp only [nl_i]; decide) | simp [nl_i])) sb_X12_in tw_5_33 ⟨rfl, rfl⟩ ⟨Nat.le_of_ble_eq_true rfl, Nat.le_of_ble_eq_true rfl⟩ rfl hl.1 rfl (Nat.le_of_ble_eq_true rfl) dX12_customer_30 ⟨Nat.zero_le _, Nat.zero_le _⟩ (fun r9 u10 H locs q11 hP hS => ?_)
      obtain ⟨rfl, q11u⟩ := q11
      rw [q11u] at hP; clear q11u
      refine lv_if_ne (tgt := 39) C.1 C.2.1 dX12_customer_33 (by decide) (fun c12 => ?_) (fun c12 => ?_)
      · have c12 := bI_n.mp c12
        refine lv_aload_n C.1 C.2.1 dX12_customer_39 rfl (lv_at hl 0 rfl) ?_
        refine mw_geti C Z hP (0) 10 (by decide) rfl rfl rfl (by decide) inX12 tw_4_174 dX12_customer_40 ?_
        refine mw_top (y := nI n) (hn) ?_
        refine lv_bipush (v := 8) C.1 C.2.1 dX12_customer_43 (by decide) ?_
        refine lv_icmp_ne (tgt := 51) C.1 C.2.1 dX12_customer_45 (by decide) (fun c13 => ?_) (fun c13 => ?_)
        · have c13 : ¬ n = 8 := (not_congr (nI_eq (b := 8) (by omega) (by decide))).mp c13
          refine lv_aload_n C.1 C.2.1 dX12_customer_51 rfl (lv_at hl 0 rfl) ?_
          refine mw_getr C Z hP (0) 8 (5) (by decide) rfl rfl rfl (by decide) inX12 tw_4_172 dX12_customer_52 ?_
          refine lv_aload_n C.1 C.2.1 dX12_customer_55 rfl (lv_at hl 0 rfl) ?_
          refine mw_geti C Z hP (0) 10 (by decide) rfl rfl rfl (by decide) inX12 tw_4_174 dX12_customer_56 ?_
          refine mw_top (y := nI n) (hn) ?_
          refine lv_iload_n C.1 C.2.1 dX12_customer_59 rfl (lv_at hl 1 rfl) ?_
          refine mw_iast C Z hP hS (5) (n) (by decide) rfl (Nat.lt_of_lt_of_le (by decide : 8 < 961) (Nat.le_of_ble_eq_true rfl)) rfl (by omega) dX12_customer_60 (fun H locs hP hS => ?_)
          refine lv_aload_n C.1 C.2.1 dX12_customer_61 rfl (lv_at hl 0 rfl) ?_
          refine mw_getr C Z hP (0) 9 (6) (by decide) rfl rfl rfl (by decide) inX12 tw_4_173 dX12_customer_62 ?_
          refine lv_iconst (v := 4) C.1 C.2.1 dX12_customer_65 (by decide) ?_
          refine lv_aload_n C.1 C.2.1 dX12_customer_66 rfl (lv_at hl 0 rfl) ?_
          refine mw_geti C Z hP (0) 10 (by decide) rfl rfl rfl (by decide) inX12 tw_4_174 dX12_customer_67 ?_
          refine mw_top (y := nI n) (hn) ?_
          refine lv_imul C.1 C.2.1 dX12_customer_70 ?_
          refine mw_top (y := nI (4 * n)) (pk_mul 4 n) ?_
          refine lv_iload_n C.1 C.2.1 dX12_customer_71 rfl (lv_at hl 2 rfl) ?_
          refine mw_iast C Z hP hS (6) (4 * n) (by decide) rfl (Nat.lt_of_lt_of_le (by decide : 32 < 961) (Nat.le_of_ble_eq_true rfl)) rfl (by omega) dX12_customer_72 (fun H locs hP hS => ?_)
          refine lv_aload_n C.1 C.2.1 dX12_customer_73 rfl (lv_at hl 0 rfl) ?_
          refine mw_getr C Z hP (0) 9 (6) (by decide) rfl rfl rfl (by decide) inX12 tw_4_173 dX12_customer_74 ?_
          refine lv_iconst (v := 4) C.1 C.2.1 dX12_customer_77 (by decide) ?_
          refine lv_aload_n C.1 C.2.1 dX12_customer_78 rfl (lv_at hl 0 rfl) ?_
          refine mw_geti C Z hP (0) 10 (by decide) rfl rfl rfl (by decide) inX12 tw_4_174 dX12_customer_79 ?_
          refine mw_top (y := nI n) (hn) ?_
          refine lv_imul C.1 C.2.1 dX12_customer_82 ?_
          refine mw_top (y := nI (4 * n)) (pk_mul 4 n) ?_
          refine lv_iconst (v := 1) C.1 C.2.1 dX12_customer_83 (by decide) ?_
          refine lv_iadd C.1 C.2.1 dX12_customer_84 ?_
          refine mw_top (y := nI (4 * n + 1)) (nI_1 _) ?_
          refine lv_iload_n C.1 C.2.1 dX12_customer_85 rfl (lv_at hl 3 rfl) ?_
          refine mw_iast C Z hP hS (6) (4 * n + 1) (by decide) rfl (Nat.lt_of_lt_of_le (by decide : 32 < 961) (Nat.le_of_ble_eq_true rfl)) rfl (by omega) dX12_customer_86 (fun H locs hP hS => ?_)
          refine lv_aload_n C.1 C.2.1 dX12_customer_87 rfl (lv_at hl 0 rfl) ?_
          refine mw_getr C Z hP (0) 9 (6) (by decide) rfl rfl rfl (by decide) inX12 tw_4_173 dX12_customer_88 ?_
          refine lv_iconst (v := 4) C.1 C.2.1 dX12_customer_91 (by decide) ?_
          refine lv_aload_n C.1 C.2.1 dX12_customer_92 rfl (lv_at hl 0 rfl) ?_
          refine mw_geti C Z hP (0) 10 (by decide) rfl rfl rfl (by decide) inX12 tw_4_174 dX12_customer_93 ?_
          refine mw_top (y := nI n) (hn) ?_
          refine lv_imul C.1 C.2.1 dX12_customer_96 ?_
          refine mw_top (y := nI (4 * n)) (pk_mul 4 n) ?_
          refine lv_iconst (v := 2) C.1 C.2.1 dX12_customer_97 (by decide) ?_
          refine lv_iadd C.1 C.2.1 dX12_customer_98 ?_
          refine mw_top (y := nI (4 * n + 2)) (nI_add _ 2) ?_
          refine lv_bipush (v := 20) C.1 C.2.1 dX12_customer_99 (by decide) ?_
          refine mw_iast C Z hP hS (6) (4 * n + 2) (by decide) rfl (Nat.lt_of_lt_of_le (by decide : 32 < 961) (Nat.le_of_ble_eq_true rfl)) rfl (by omega) dX12_customer_101 (fun H locs hP hS => ?_)
          refine lv_aload_n C.1 C.2.1 dX12_customer_102 rfl (lv_at hl 0 rfl) ?_
          refine mw_getr C Z hP (0) 9 (6) (by decide) rfl rfl rfl (by decide) inX12 tw_4_173 dX12_customer_103 ?_
          refine lv_iconst (v := 4) C.1 C.2.1 dX12_customer_106 (by decide) ?_
          refine lv_aload_n C.1 C.2.1 dX12_customer_107 rfl (lv_at hl 0 rfl) ?_
          refine mw_geti C Z hP (0) 10 (by decide) rfl rfl rfl (by decide) inX12 tw_4_174 dX12_customer_108 ?_
          refine mw_top (y := nI n) (hn) ?_
          refine lv_imul C.1 C.2.1 dX12_customer_111 ?_
          refine mw_top (y := nI (4 * n)) (pk_mul 4 n) ?_
          refine lv_iconst (v := 3) C.1 C.2.1 dX12_customer_112 (by decide) ?_
          refine lv_iadd C.1 C.2.1 dX12_customer_113 ?_
          refine mw_top (y := nI (4 * n + 3)) (nI_add _ 3) ?_
          refine lv_iconst (v := 0) C.1 C.2.1 dX12_customer_114 (by decide) ?_
          refine mw_iast C Z hP hS (6) (4 * n + 3) (by decide) rfl (Nat.lt_of_lt_of_le (by decide : 32 < 961) (Nat.le_of_ble_eq_true rfl)) rfl (by omega) dX12_customer_115 (fun H locs hP hS => ?_)
          refine lv_aload_n C.1 C.2.1 dX12_customer_116 rfl (lv_at hl 0 rfl) ?_
          refine lv_dup C.1 C.2.1 dX12_customer_117 rfl ?_
          refine mw_geti C Z hP (0) 10 (by decide) rfl rfl rfl (by decide) inX12 tw_4_174 dX12_customer_118 ?_
          refine mw_top (y := nI n) (hn) ?_
          refine lv_iconst (v := 1) C.1 C.2.1 dX12_customer_121 (by decide) ?_
          refine lv_iadd C.1 C.2.1 dX12_customer_122 ?_
          refine mw_top (y := nI (n + 1)) (nI_1 _) ?_
          refine mw_puti C Z hP hS (0) 10 (by decide) rfl rfl rfl (by decide) inX12 tyX12 tyX12_ok nmX12 rfl tw_4_174 rfl rfl dX12_customer_123 (fun H locs hP hS => ?_)
          refine lv_aload_n C.1 C.2.1 dX12_customer_126 rfl (lv_at hl 0 rfl) ?_
          refine mw_geti C Z hP (0) 10 (by decide) rfl rfl rfl (by decide) inX12 tw_4_174 dX12_customer_127 ?_
          refine mw_top (y := nI (n + 1)) (rfl) ?_
          refine lv_iconst (v := 1) C.1 C.2.1 dX12_customer_130 (by decide) ?_
          refine lv_isub C.1 C.2.1 dX12_customer_131 ?_
          refine mw_top (y := nI n) (pk_sub (a := n + 1) (b := 1) (by omega)) ?_
          exact mw_iret C hr hlk Z hP hS dX12_customer_132 (⟨fun y => absurd ⟨c4, c8, c12⟩ y, fun y => absurd y.2 (by omega), fun _ => ⟨rfl, rfl⟩⟩)
        · have c13 : n = 8 := (nI_eq (b := 8) (by omega) (by decide)).mp c13
          refine lv_bipush (v := -4) C.1 C.2.1 dX12_customer_48 (by decide) ?_
          exact mw_iret C hr hlk Z hP hS dX12_customer_50 (⟨fun y => absurd ⟨c4, c8, c12⟩ y, fun _ => ⟨rfl, rfl⟩, fun y => absurd y.2 (by omega)⟩)
      · have c12 := bI_0.mp c12
        refine lv_bipush (v := -2) C.1 C.2.1 dX12_customer_36 (by decide) ?_
        exact mw_iret C hr hlk Z hP hS dX12_customer_38 (⟨fun _ => ⟨rfl, rfl⟩, fun y => absurd y.1 (fun y => c12 y.2.2), fun y => absurd y.1 (fun y => c12 y.2.2)⟩)

abbrev feedOK (v : Int32) : Prop := 0 ≤ v.toInt ∧ v.toInt ≤ 255

set_option maxHeartbeats 4000000 in
set_option maxRecDepth 100000 in
theorem cM_feed (l : Launch) (E : mw_E) (σ : mw_M) (n : Nat) (hn : σ.1 0 6 = nI n) (h8 : n ≤ 160) (vv : Int32) : mw_Ci shM 13 gM l yX12_feed cX12_feed 2 (some .int) (rmF 1 25) E [.ref (mw_a E 0), .int vv] σ (fun r u => (¬ feedOK vv → r = -2 ∧ u = σ) ∧ (feedOK vv ∧ n = 160 → r = -4 ∧ u = σ) ∧ (feedOK vv ∧ n < 160 → r = nI (n + 1) ∧ u = mw_si (mw_sa σ 3 n vv) 0 6 (nI (n + 1)))) := by
  refine mw_of (by decide) gM_ok (Nat.le_of_ble_eq_true rfl) ?_
  intro p_ e_ s_ m_ below meth c_ C hr hlk Z hP ls hl
  have C : CallFix p_ m_ c_ cX12_feed 2 s_ _ lw_good RX12 := C
  have hl : lv_has ls 2 [(0, .ref (mw_a E 0)), (1, .int vv)] := hl
  have hS : va_S (mw_A 13 E) s_.heap s_.heap [] := va_S.rf
  refine lv_iload_n C.1 C.2.1 dX12_feed_0 rfl (lv_at hl 1 rfl) ?_
  refine lv_i2l C.1 C.2.1 dX12_feed_1 rfl ?_
  refine lv_lconst (v := 0) C.1 C.2.1 dX12_feed_2 (by decide) ?_
  refine lv_ldc2 (own := RX12) C.1 C.2.1 C.2.2.2.1 (C.2.2.2.2 _ tw_6_49) dX12_feed_3 ?_
  refine mw_cSi (As := [.long (vv.toInt64), .long (0), .long (255)]) (rest := []) C Z hP hS (cM_in l E σ (vv.toInt64) 0 255 (0 ≤ vv.toInt ∧ vv.toInt ≤ 255) (by first | (simp only [nl_i]; exact Iff.rfl) | (simp only [nl_i]; decide) | simp [nl_i])) sb_X12_in tw_5_33 ⟨rfl, rfl⟩ ⟨Nat.le_of_ble_eq_true rfl, Nat.le_of_ble_eq_true rfl⟩ rfl hl.1 rfl (Nat.le_of_ble_eq_true rfl) dX12_feed_6 ⟨Nat.zero_le _, Nat.zero_le _⟩ (fun r1 u2 H locs q3 hP hS => ?_)
  obtain ⟨rfl, q3u⟩ := q3
  rw [q3u] at hP; clear q3u
  refine lv_if_ne (tgt := 15) C.1 C.2.1 dX12_feed_9 (by decide) (fun c4 => ?_) (fun c4 => ?_)
  · have c4 := bI_n.mp c4
    refine lv_aload_n C.1 C.2.1 dX12_feed_15 rfl (lv_at hl 0 rfl) ?_
    refine mw_geti C Z hP (0) 6 (by decide) rfl rfl rfl (by decide) inX12 tw_4_170 dX12_feed_16 ?_
    refine mw_top (y := nI n) (hn) ?_
    refine lv_sipush (v := 160) C.1 C.2.1 dX12_feed_19 (by decide) ?_
    refine lv_icmp_ne (tgt := 28) C.1 C.2.1 dX12_feed_22 (by decide) (fun c5 => ?_) (fun c5 => ?_)
    · have c5 : ¬ n = 160 := (not_congr (nI_eq (b := 160) (by omega) (by decide))).mp c5
      refine lv_aload_n C.1 C.2.1 dX12_feed_28 rfl (lv_at hl 0 rfl) ?_
      refine mw_getr C Z hP (0) 5 (3) (by decide) rfl rfl rfl (by decide) inX12 tw_4_169 dX12_feed_29 ?_
      refine lv_aload_n C.1 C.2.1 dX12_feed_32 rfl (lv_at hl 0 rfl) ?_
      refine mw_geti C Z hP (0) 6 (by decide) rfl rfl rfl (by decide) inX12 tw_4_170 dX12_feed_33 ?_
      refine mw_top (y := nI n) (hn) ?_
      refine lv_iload_n C.1 C.2.1 dX12_feed_36 rfl (lv_at hl 1 rfl) ?_
      refine mw_iast C Z hP hS (3) (n) (by decide) rfl (Nat.lt_of_lt_of_le (by decide : 160 < 961) (Nat.le_of_ble_eq_true rfl)) rfl (by omega) dX12_feed_37 (fun H locs hP hS => ?_)
      refine lv_aload_n C.1 C.2.1 dX12_feed_38 rfl (lv_at hl 0 rfl) ?_
      refine lv_dup C.1 C.2.1 dX12_feed_39 rfl ?_
      refine mw_geti C Z hP (0) 6 (by decide) rfl rfl rfl (by decide) inX12 tw_4_170 dX12_feed_40 ?_
      refine mw_top (y := nI n) (hn) ?_
      refine lv_iconst (v := 1) C.1 C.2.1 dX12_feed_43 (by decide) ?_
      refine lv_iadd C.1 C.2.1 dX12_feed_44 ?_
      refine mw_top (y := nI (n + 1)) (nI_1 _) ?_
      refine mw_puti C Z hP hS (0) 6 (by decide) rfl rfl rfl (by decide) inX12 tyX12 tyX12_ok nmX12 rfl tw_4_170 rfl rfl dX12_feed_45 (fun H locs hP hS => ?_)
      refine lv_aload_n C.1 C.2.1 dX12_feed_48 rfl (lv_at hl 0 rfl) ?_
      refine mw_geti C Z hP (0) 6 (by decide) rfl rfl rfl (by decide) inX12 tw_4_170 dX12_feed_49 ?_
      refine mw_top (y := nI (n + 1)) (rfl) ?_
      exact mw_iret C hr hlk Z hP hS dX12_feed_52 (⟨fun y => absurd c4 y, fun y => absurd y.2 (by omega), fun _ => ⟨rfl, rfl⟩⟩)
    · have c5 : n = 160 := (nI_eq (b := 160) (by omega) (by decide)).mp c5
      refine lv_bipush (v := -4) C.1 C.2.1 dX12_feed_25 (by decide) ?_
      exact mw_iret C hr hlk Z hP hS dX12_feed_27 (⟨fun y => absurd c4 y, fun _ => ⟨rfl, rfl⟩, fun y => absurd y.2 (by omega)⟩)
  · have c4 := bI_0.mp c4
    refine lv_bipush (v := -2) C.1 C.2.1 dX12_feed_12 (by decide) ?_
    exact mw_iret C hr hlk Z hP hS dX12_feed_14 (⟨fun _ => ⟨rfl, rfl⟩, fun y => absurd y.1 c4, fun y => absurd y.1 c4⟩)

set_option maxHeartbeats 4000000 in
set_option maxRecDepth 100000 in
theorem cM_force (l : Launch) (E : mw_E) (σ : mw_M) (n : Nat) (hn : σ.1 0 3 = nI n) (h8 : n ≤ 6) (vv : Int32) : mw_Ci shM 13 gM l yX12_force cX12_force 3 (some .int) (rmF 1 25) E [.ref (mw_a E 0), .int vv] σ (fun r u => (¬ (0 ≤ vv.toInt ∧ vv.toInt < n) → r = -2 ∧ u = σ) ∧ ((0 ≤ vv.toInt ∧ vv.toInt < n) → r = σ.1 0 4 ∧ u = mw_si σ 0 4 vv)) := by
  refine mw_of (by decide) gM_ok (Nat.le_of_ble_eq_true rfl) ?_
  intro p_ e_ s_ m_ below meth c_ C hr hlk Z hP ls hl
  have C : CallFix p_ m_ c_ cX12_force 3 s_ _ lw_good RX12 := C
  have hl : lv_has ls 3 [(0, .ref (mw_a E 0)), (1, .int vv)] := hl
  have hS : va_S (mw_A 13 E) s_.heap s_.heap [] := va_S.rf
  have hm : (nI n - 1).toInt = (n : Int) - 1 := pk_sub_toInt (b := 1) (by omega) (by decide)
  refine lv_iload_n C.1 C.2.1 dX12_force_0 rfl (lv_at hl 1 rfl) ?_
  refine lv_i2l C.1 C.2.1 dX12_force_1 rfl ?_
  refine lv_lconst (v := 0) C.1 C.2.1 dX12_force_2 (by decide) ?_
  refine lv_aload_n C.1 C.2.1 dX12_force_3 rfl (lv_at hl 0 rfl) ?_
  refine mw_geti C Z hP (0) 3 (by decide) rfl rfl rfl (by decide) inX12 tw_4_167 dX12_force_4 ?_
  refine mw_top (y := nI n) (hn) ?_
  refine lv_iconst (v := 1) C.1 C.2.1 dX12_force_7 (by decide) ?_
  refine lv_isub C.1 C.2.1 dX12_force_8 ?_
  refine lv_i2l C.1 C.2.1 dX12_force_9 rfl ?_
  refine mw_cSi (As := [.long (vv.toInt64), .long (0), .long (((nI n) - 1).toInt64)]) (rest := []) C Z hP hS (cM_in l E σ (vv.toInt64) 0 (((nI n) - 1).toInt64) (0 ≤ vv.toInt ∧ vv.toInt ≤ ((nI n) - 1).toInt) (by first | (simp only [nl_i]; exact Iff.rfl) | (simp only [nl_i]; decide) | simp [nl_i])) sb_X12_in tw_5_33 ⟨rfl, rfl⟩ ⟨Nat.le_of_ble_eq_true rfl, Nat.le_of_ble_eq_true rfl⟩ rfl hl.1 rfl (Nat.le_of_ble_eq_true rfl) dX12_force_10 ⟨Nat.zero_le _, Nat.zero_le _⟩ (fun r1 u2 H locs q3 hP hS => ?_)
  obtain ⟨rfl, q3u⟩ := q3
  rw [q3u] at hP; clear q3u
  refine lv_if_ne (tgt := 19) C.1 C.2.1 dX12_force_13 (by decide) (fun c4 => ?_) (fun c4 => ?_)
  · have c4 := bI_n.mp c4
    refine lv_aload_n C.1 C.2.1 dX12_force_19 rfl (lv_at hl 0 rfl) ?_
    refine mw_geti C Z hP (0) 4 (by decide) rfl rfl rfl (by decide) inX12 tw_4_168 dX12_force_20 ?_
    refine lv_istore_n (lv' := [(2, .int (σ.1 0 4)), (0, .ref (mw_a E 0)), (1, .int vv)]) C.1 C.2.1 dX12_force_23 rfl hl (by decide) rfl (fun ls hl => ?_)
    refine lv_aload_n C.1 C.2.1 dX12_force_24 rfl (lv_at hl 1 rfl) ?_
    refine lv_iload_n C.1 C.2.1 dX12_force_25 rfl (lv_at hl 2 rfl) ?_
    refine mw_puti C Z hP hS (0) 4 (by decide) rfl rfl rfl (by decide) inX12 tyX12 tyX12_ok nmX12 rfl tw_4_168 rfl rfl dX12_force_26 (fun H locs hP hS => ?_)
    refine lv_iload_n C.1 C.2.1 dX12_force_29 rfl (lv_at hl 0 rfl) ?_
    exact mw_iret C hr hlk Z hP hS dX12_force_30 (⟨fun y => absurd ⟨c4.1, by have z := c4.2; rw [hm] at z; omega⟩ y, fun _ => ⟨rfl, rfl⟩⟩)
  · have c4 := bI_0.mp c4
    refine lv_bipush (v := -2) C.1 C.2.1 dX12_force_16 (by decide) ?_
    exact mw_iret C hr hlk Z hP hS dX12_force_18 (⟨fun _ => ⟨rfl, rfl⟩, fun y => absurd ⟨y.1, by rw [hm]; omega⟩ c4⟩)

def overF (k : Int32) : Int32 := if k = 0 then -1 else if k = 3 then 1 else if k = 4 then 2 else 0

set_option maxHeartbeats 4000000 in
set_option maxRecDepth 100000 in
theorem cM_over (l : Launch) (E : mw_E) (σ : mw_M) (v : Int32) : mw_Ci shM 13 gM l yX12_over cX12_over 1 (some .int) (rmF 0 0) E [.int v] σ (fun r u => r = overF v ∧ u = σ) := by
  refine mw_of (by decide) gM_ok (Nat.le_of_ble_eq_true rfl) ?_
  intro p_ e_ s_ m_ below meth c_ C hr hlk Z hP ls hl
  have C : CallFix p_ m_ c_ cX12_over 1 s_ _ lw_good RX12 := C
  have hl : lv_has ls 1 [(0, .int v)] := hl
  have hS : va_S (mw_A 13 E) s_.heap s_.heap [] := va_S.rf
  refine lv_iload_n C.1 C.2.1 dX12_over_0 rfl (lv_at hl 0 rfl) ?_
  refine lv_if_ne (tgt := 8) C.1 C.2.1 dX12_over_1 (by decide) (fun c1 => ?_) (fun c1 => ?_)
  · refine lv_iload_n C.1 C.2.1 dX12_over_8 rfl (lv_at hl 0 rfl) ?_
    refine lv_iconst (v := 3) C.1 C.2.1 dX12_over_9 (by decide) ?_
    refine lv_icmp_ne (tgt := 17) C.1 C.2.1 dX12_over_10 (by decide) (fun c2 => ?_) (fun c2 => ?_)
    · refine lv_iload_n C.1 C.2.1 dX12_over_17 rfl (lv_at hl 0 rfl) ?_
      refine lv_iconst (v := 4) C.1 C.2.1 dX12_over_18 (by decide) ?_
      refine lv_icmp_ne (tgt := 26) C.1 C.2.1 dX12_over_19 (by decide) (fun c3 => ?_) (fun c3 => ?_)
      · refine lv_iconst (v := 0) C.1 C.2.1 dX12_over_26 (by decide) ?_
        exact mw_iret C hr hlk Z hP hS dX12_over_27 (⟨by unfold overF; simp [c1, c2, c3], rfl⟩)
      · refine lv_iconst (v := 2) C.1 C.2.1 dX12_over_22 (by decide) ?_
        refine lv_goto (tgt := 27) C.1 C.2.1 dX12_over_23 (by decide) ?_
        exact mw_iret C hr hlk Z hP hS dX12_over_27 (⟨by unfold overF; simp [c1, c2, c3], rfl⟩)
    · refine lv_iconst (v := 1) C.1 C.2.1 dX12_over_13 (by decide) ?_
      refine lv_goto (tgt := 27) C.1 C.2.1 dX12_over_14 (by decide) ?_
      exact mw_iret C hr hlk Z hP hS dX12_over_27 (⟨by unfold overF; simp [c1, c2], rfl⟩)
  · refine lv_iconst (v := -1) C.1 C.2.1 dX12_over_4 (by decide) ?_
    refine lv_goto (tgt := 27) C.1 C.2.1 dX12_over_5 (by decide) ?_
    exact mw_iret C hr hlk Z hP hS dX12_over_27 (⟨by unfold overF; simp [c1], rfl⟩)

/-- the kinds from x on upwards, d of them: whether k is among them -/
def upF : Nat → Int32 → Int32 → Int32
  | 0, x, _ => x
  | d + 1, x, k => if x = -1 then x else if x = k then x else upF d (overF x) k
def takenF (cu : Nat → Nat → Int32) (n : Nat) (o k : Int32) : Int32 := if ¬ (0 ≤ k.toInt ∧ k.toInt ≤ 5) then -2 else if ¬ (0 ≤ o.toInt ∧ o.toInt < n) then -11 else if upF 4 (cu o.toNatClampNeg 0) k = k then cu o.toNatClampNeg 1 else -13
/-- how far it is to the top -/
def upD (x : Int32) : Nat := if x = -1 then 0 else if x = 0 then 1 else if x = 3 ∨ x = 4 then 3 else 2
theorem upD_ov {x : Int32} (h : x = 0 ∨ x = 1 ∨ x = 2 ∨ x = 3 ∨ x = 4 ∨ x = 5) : upD (overF x) + 1 = upD x ∧ (overF x = -1 ∨ overF x = 0 ∨ overF x = 1 ∨ overF x = 2 ∨ overF x = 3 ∨ overF x = 4 ∨ overF x = 5) := by
  rcases h with rfl | rfl | rfl | rfl | rfl | rfl <;> decide
theorem kind6 {x : Int32} (h0 : 0 ≤ x.toInt) (h1 : x.toInt ≤ 5) : x = 0 ∨ x = 1 ∨ x = 2 ∨ x = 3 ∨ x = 4 ∨ x = 5 := by
  obtain ⟨j, hj, rfl⟩ := nI_ofI (k := 5) h0 h1
  rcases (show j = 0 ∨ j = 1 ∨ j = 2 ∨ j = 3 ∨ j = 4 ∨ j = 5 by omega) with rfl | rfl | rfl | rfl | rfl | rfl <;> decide

set_option maxHeartbeats 4000000 in
set_option maxRecDepth 100000 in
theorem cM_taken (l : Launch) (E : mw_E) (σ : mw_M) (n : Nat) (hn : σ.1 0 10 = nI n) (h8 : n ≤ 8) (hks : ∀ p, p < n → 0 ≤ (mCu σ p 0).toInt ∧ (mCu σ p 0).toInt ≤ 5) (oo kk : Int32) : mw_Ci shM 13 gM l yX12_taken cX12_taken 4 (some .int) (rmF 2 46) E [.ref (mw_a E 0), .int oo, .int kk] σ (fun r u => r = takenF (mCu σ) n oo kk ∧ mFs σ u) := by
  refine mw_of (by decide) gM_ok (Nat.le_of_ble_eq_true rfl) ?_
  intro p_ e_ s_ m_ below meth c_ C hr hlk Z hP ls hl
  have C : CallFix p_ m_ c_ cX12_taken 4 s_ _ lw_good RX12 := C
  have hl : lv_has ls 4 [(0, .ref (mw_a E 0)), (1, .int oo), (2, .int kk)] := hl
  have hS : va_S (mw_A 13 E) s_.heap s_.heap [] := va_S.rf
  refine lv_iload_n C.1 C.2.1 dX12_taken_0 rfl (lv_at hl 2 rfl) ?_
  refine lv_i2l C.1 C.2.1 dX12_taken_1 rfl ?_
  refine lv_lconst (v := 0) C.1 C.2.1 dX12_taken_2 (by decide) ?_
  refine lv_ldc2 (own := RX12) C.1 C.2.1 C.2.2.2.1 (C.2.2.2.2 _ tw_6_42) dX12_taken_3 ?_
  refine mw_cSi (As := [.long (kk.toInt64), .long (0), .long (5)]) (rest := []) C Z hP hS (cM_in l E σ (kk.toInt64) 0 5 (0 ≤ kk.toInt ∧ kk.toInt ≤ 5) (by first | (simp only [nl_i]; exact Iff.rfl) | (simp only [nl_i]; decide) | simp [nl_i])) sb_X12_in tw_5_33 ⟨rfl, rfl⟩ ⟨Nat.le_of_ble_eq_true rfl, Nat.le_of_ble_eq_true rfl⟩ rfl hl.1 rfl (Nat.le_of_ble_eq_true rfl) dX12_taken_6 ⟨Nat.zero_le _, Nat.zero_le _⟩ (fun r1 u2 H locs q3 hP hS => ?_)
  obtain ⟨rfl, q3u⟩ := q3
  rw [q3u] at hP; clear q3u
  refine lv_if_ne (tgt := 15) C.1 C.2.1 dX12_taken_9 (by decide) (fun c4 => ?_) (fun c4 => ?_)
  · have c4 := bI_n.mp c4
    have hrk := c4
    refine lv_aload_n C.1 C.2.1 dX12_taken_15 rfl (lv_at hl 0 rfl) ?_
    refine lv_iload_n C.1 C.2.1 dX12_taken_16 rfl (lv_at hl 1 rfl) ?_
    refine mw_cVi (As := [.int oo]) (rest := []) C Z hP hS (0) (cM_isOne l E σ oo n hn h8) vb_X12_isOne tw_5_36 ⟨rfl, rfl⟩ ⟨Nat.le_of_ble_eq_true rfl, Nat.le_of_ble_eq_true rfl⟩ (by decide) rfl rfl rfl rfl hl.1 rfl (Nat.le_of_ble_eq_true rfl) dX12_taken_17 ⟨Nat.zero_le _, Nat.zero_le _⟩ (fun r5 u6 H locs q7 hP hS => ?_)
    obtain ⟨rfl, q7u⟩ := q7
    rw [q7u] at hP; clear q7u
    refine lv_if_ne (tgt := 26) C.1 C.2.1 dX12_taken_20 (by decide) (fun c8 => ?_) (fun c8 => ?_)
    · have c8 := bI_n.mp c8
      have hro := c8
      obtain ⟨q, hq, eq⟩ := nI_ofI (k := 7) hro.1 (by omega)
      subst eq
      have hki := kind6 (hks q (by have := hro.2; rw [nI_toInt (by omega)] at this; omega)).1 (hks q (by have := hro.2; rw [nI_toInt (by omega)] at this; omega)).2
      refine lv_aload_n C.1 C.2.1 dX12_taken_26 rfl (lv_at hl 0 rfl) ?_
      refine mw_getr C Z hP (0) 8 (5) (by decide) rfl rfl rfl (by decide) inX12 tw_4_172 dX12_taken_27 ?_
      refine lv_iload_n C.1 C.2.1 dX12_taken_30 rfl (lv_at hl 1 rfl) ?_
      refine mw_iald C Z hP (5) (q) (by decide) rfl (Nat.lt_of_lt_of_le (by decide : 8 < 961) (Nat.le_of_ble_eq_true rfl)) rfl (by omega) dX12_taken_31 ?_
      refine mw_top (y := mCu σ q 0) (rfl) ?_
      refine lv_istore_n (lv' := [(3, .int (mCu σ q 0)), (0, .ref (mw_a E 0)), (1, .int (nI q)), (2, .int kk)]) C.1 C.2.1 dX12_taken_32 rfl hl (by decide) rfl (fun ls hl => ?_)
      have lpa : ∀ (N : Nat) (x : Int32) (ςa : mw_M) (H : Heap) (locs : List Loc), upD x + 1 ≤ N → (x = -1 ∨ x = 0 ∨ x = 1 ∨ x = 2 ∨ x = 3 ∨ x = 4 ∨ x = 5) → (∃ d, upD x ≤ d ∧ upF 4 (mCu σ q 0) kk = upF d x kk) → mFs σ ςa → va_P (mw_D E) vwCl (mw_ws shM 13 E ςa) H → va_S (mw_A 13 E) s_.heap H locs → ∀ (ls : Array Slot), lv_has ls 4 [(0, .ref (mw_a E 0)), (1, .int (nI q)), (2, .int kk), (3, .int x)] → mWi p_ l e_ (rmF 2 46) s_ m_ [.ref (mw_a E 0), .int (nI q), .int kk] below meth c_ E (fun r u => r = takenF (mCu σ) n (nI q) kk ∧ mFs σ u) H locs (F0 m_ 33 ls []) := by
        intro N
        induction N with
        | zero => intros; exfalso; omega
        | succ N iha =>
          intro x ςa H locs hNa hx ex fra hP hS ls hl
          refine lv_iload_n C.1 C.2.1 dX12_taken_33 rfl (lv_at hl 3 rfl) ?_
          refine lv_iconst (v := -1) C.1 C.2.1 dX12_taken_34 (by decide) ?_
          refine lv_icmp_eq (tgt := 51) C.1 C.2.1 dX12_taken_35 (by decide) (fun c9 => ?_) (fun c9 => ?_)
          · refine lv_iload_n C.1 C.2.1 dX12_taken_51 rfl (lv_at hl 3 rfl) ?_
            refine lv_iload_n C.1 C.2.1 dX12_taken_52 rfl (lv_at hl 2 rfl) ?_
            refine lv_icmp_ne (tgt := 67) C.1 C.2.1 dX12_taken_53 (by decide) (fun c10 => ?_) (fun c10 => ?_)
            · refine lv_bipush (v := -13) C.1 C.2.1 dX12_taken_67 (by decide) ?_
              have eu : upF 4 (mCu σ q 0) kk = x := by obtain ⟨d, h1, h2⟩ := ex; rw [h2]; cases d with | zero => rfl | succ d => (show (if x = -1 then _ else if x = kk then _ else _) = _; rw [if_pos c9])
              exact mw_iret C hr hlk Z hP hS dX12_taken_69 (⟨by unfold takenF; rw [if_neg (Decidable.not_not.mpr hrk), if_neg (Decidable.not_not.mpr hro), nI_clamp (n := q) (by omega), eu, if_neg c10], fra⟩)
            · refine lv_aload_n C.1 C.2.1 dX12_taken_56 rfl (lv_at hl 0 rfl) ?_
              refine mw_getr C Z hP (0) 9 (6) (by decide) rfl rfl rfl (by decide) inX12 tw_4_173 dX12_taken_57 ?_
              refine lv_iconst (v := 4) C.1 C.2.1 dX12_taken_60 (by decide) ?_
              refine lv_iload_n C.1 C.2.1 dX12_taken_61 rfl (lv_at hl 1 rfl) ?_
              refine lv_imul C.1 C.2.1 dX12_taken_62 ?_
              refine mw_top (y := nI (4 * q)) (pk_mul 4 q) ?_
              refine mw_iald C Z hP (6) (4 * q) (by decide) rfl (Nat.lt_of_lt_of_le (by decide : 32 < 961) (Nat.le_of_ble_eq_true rfl)) rfl (by omega) dX12_taken_63 ?_
              refine mw_top (y := σ.2.1 6 (4 * q)) (by first | (rw [fra.1]; done) | (rw [fra.1]; rfl)) ?_
              refine lv_goto (tgt := 69) C.1 C.2.1 dX12_taken_64 (by decide) ?_
              have eu : upF 4 (mCu σ q 0) kk = x := by obtain ⟨d, h1, h2⟩ := ex; rw [h2]; cases d with | zero => rfl | succ d => (show (if x = -1 then _ else if x = kk then _ else _) = _; rw [if_pos c9])
              exact mw_iret C hr hlk Z hP hS dX12_taken_69 (⟨by unfold takenF; rw [if_neg (Decidable.not_not.mpr hrk), if_neg (Decidable.not_not.mpr hro), nI_clamp (n := q) (by omega), eu, if_pos c10]; rfl, fra⟩)
          · refine lv_iload_n C.1 C.2.1 dX12_taken_38 rfl (lv_at hl 3 rfl) ?_
            refine lv_iload_n C.1 C.2.1 dX12_taken_39 rfl (lv_at hl 2 rfl) ?_
            refine lv_icmp_eq (tgt := 51) C.1 C.2.1 dX12_taken_40 (by decide) (fun c11 => ?_) (fun c11 => ?_)
            · refine lv_iload_n C.1 C.2.1 dX12_taken_51 rfl (lv_at hl 3 rfl) ?_
              refine lv_iload_n C.1 C.2.1 dX12_taken_52 rfl (lv_at hl 2 rfl) ?_
              refine lv_icmp_ne (tgt := 67) C.1 C.2.1 dX12_taken_53 (by decide) (fun c12 => ?_) (fun c12 => ?_)
              · refine lv_bipush (v := -13) C.1 C.2.1 dX12_taken_67 (by decide) ?_
                have eu : upF 4 (mCu σ q 0) kk = x := by obtain ⟨d, h1, h2⟩ := ex; rw [h2]; cases d with | zero => rfl | succ d => (show (if x = -1 then _ else if x = kk then _ else _) = _; rw [if_neg c9, if_pos c11])
                exact mw_iret C hr hlk Z hP hS dX12_taken_69 (⟨by unfold takenF; rw [if_neg (Decidable.not_not.mpr hrk), if_neg (Decidable.not_not.mpr hro), nI_clamp (n := q) (by omega), eu, if_neg c12], fra⟩)
              · refine lv_aload_n C.1 C.2.1 dX12_taken_56 rfl (lv_at hl 0 rfl) ?_
                refine mw_getr C Z hP (0) 9 (6) (by decide) rfl rfl rfl (by decide) inX12 tw_4_173 dX12_taken_57 ?_
                refine lv_iconst (v := 4) C.1 C.2.1 dX12_taken_60 (by decide) ?_
                refine lv_iload_n C.1 C.2.1 dX12_taken_61 rfl (lv_at hl 1 rfl) ?_
                refine lv_imul C.1 C.2.1 dX12_taken_62 ?_
                refine mw_top (y := nI (4 * q)) (pk_mul 4 q) ?_
                refine mw_iald C Z hP (6) (4 * q) (by decide) rfl (Nat.lt_of_lt_of_le (by decide : 32 < 961) (Nat.le_of_ble_eq_true rfl)) rfl (by omega) dX12_taken_63 ?_
                refine mw_top (y := σ.2.1 6 (4 * q)) (by first | (rw [fra.1]; done) | (rw [fra.1]; rfl)) ?_
                refine lv_goto (tgt := 69) C.1 C.2.1 dX12_taken_64 (by decide) ?_
                have eu : upF 4 (mCu σ q 0) kk = x := by obtain ⟨d, h1, h2⟩ := ex; rw [h2]; cases d with | zero => rfl | succ d => (show (if x = -1 then _ else if x = kk then _ else _) = _; rw [if_neg c9, if_pos c11])
                exact mw_iret C hr hlk Z hP hS dX12_taken_69 (⟨by unfold takenF; rw [if_neg (Decidable.not_not.mpr hrk), if_neg (Decidable.not_not.mpr hro), nI_clamp (n := q) (by omega), eu, if_pos c12]; rfl, fra⟩)
            · refine lv_iload_n C.1 C.2.1 dX12_taken_43 rfl (lv_at hl 3 rfl) ?_
              refine mw_cSi (As := [.int x]) (rest := []) C Z hP hS (cM_over l E ςa x) sb_X12_over tw_6_195 ⟨rfl, rfl⟩ ⟨Nat.le_of_ble_eq_true rfl, Nat.le_of_ble_eq_true rfl⟩ rfl hl.1 rfl (Nat.le_of_ble_eq_true rfl) dX12_taken_44 ⟨Nat.zero_le _, Nat.zero_le _⟩ (fun r13 u14 H locs q15 hP hS => ?_)
              obtain ⟨rfl, q15u⟩ := q15
              rw [q15u] at hP; clear q15u
              refine lv_istore_n (lv' := [(3, .int (overF x)), (0, .ref (mw_a E 0)), (1, .int (nI q)), (2, .int kk)]) C.1 C.2.1 dX12_taken_47 rfl hl (by decide) rfl (fun ls hl => ?_)
              refine lv_goto (tgt := 33) C.1 C.2.1 dX12_taken_48 (by decide) ?_
              exact iha (overF x) ςa _ _ (by have := (upD_ov (hx.resolve_left c9)).1; omega) ((upD_ov (hx.resolve_left c9)).2) (by obtain ⟨d, h1, h2⟩ := ex; have h3 := (upD_ov (hx.resolve_left c9)).1; obtain ⟨d0, rfl⟩ : ∃ d0, d = d0 + 1 := ⟨d - 1, by omega⟩; exact ⟨d0, by omega, by rw [h2]; show (if x = -1 then _ else if x = kk then _ else _) = _; rw [if_neg c9, if_neg c11]⟩) fra hP hS ls (lv_sub hl [1, 2, 3, 0] rfl)
      exact lpa (5) (mCu σ q 0) σ _ _ (by rcases hki with h | h | h | h | h | h <;> rw [h] <;> decide) (Or.inr hki) (⟨4, by rcases hki with h | h | h | h | h | h <;> rw [h] <;> decide, rfl⟩) (mFs.rf σ) hP hS ls (lv_sub hl [1, 2, 3, 0] rfl)
    · have c8 := bI_0.mp c8
      refine lv_bipush (v := -11) C.1 C.2.1 dX12_taken_23 (by decide) ?_
      exact mw_iret C hr hlk Z hP hS dX12_taken_25 (⟨by unfold takenF; rw [if_neg (Decidable.not_not.mpr hrk), if_pos c8], (mFs.rf σ)⟩)
  · have c4 := bI_0.mp c4
    refine lv_bipush (v := -2) C.1 C.2.1 dX12_taken_12 (by decide) ?_
    exact mw_iret C hr hlk Z hP hS dX12_taken_14 (⟨by unfold takenF; rw [if_pos c4], (mFs.rf σ)⟩)
