/-! THE REFERENCE: WHAT IT COMES TO -/
def sumP (f : Nat → Int32) : Nat → Int32
  | 0 => 0
  | n + 1 => sumP f n + f n
theorem sumP_s {f : Nat → Int32} {n : Nat} {v : Int32} (h : f n = v) : sumP f n + v = sumP f (n + 1) := by rw [← h]; rfl
def orP (f : Nat → Int32) : Nat → Int32
  | 0 => 0
  | n + 1 => orP f n ||| f n
def stB (x : Int32 × Int32) (k v : Int32) : Int32 × Int32 := if x.1 = -1 ∨ x.2 < v then (k, v) else x
def bsF (k v : Nat → Int32) : Nat → Int32 × Int32
  | 0 => (-1, 0)
  | n + 1 => stB (bsF k v n) (k n) (v n)
def stC (x : Int32 × Int32) (k v : Int32) : Int32 × Int32 := if x.2 < v then (k, v) else x
def csF (x : Int32 × Int32) (k v : Nat → Int32) : Nat → Int32 × Int32
  | 0 => x
  | n + 1 => stC (csF x k v n) (k n) (v n)
theorem orP_s {f : Nat → Int32} {n : Nat} {v : Int32} (h : f n = v) : orP f n ||| v = orP f (n + 1) := by rw [← h]; rfl
theorem mFs.many {σ u : mw_M} {n : Nat} (h : mFs σ u) (hn : σ.1 0 10 = nI n) : u.1 0 10 = nI n := (h.2 10 (by omega)).trans hn

set_option maxHeartbeats 4000000 in
set_option maxRecDepth 100000 in
theorem cM_isThereNow (l : Launch) (E : mw_E) (σ : mw_M) (p : Nat) (hp : p < 8) : mw_Ci shM 13 gM l yX12_isThereNow cX12_isThereNow 2 (some .boolean) (rmF 0 0) E [.ref (mw_a E 0), .int (nI p)] σ (fun r u => r = bI (thereP (mSt σ) (mCu σ p)) ∧ mFs σ u) := by
  refine mw_of (by decide) gM_ok (Nat.le_of_ble_eq_true rfl) ?_
  intro p_ e_ s_ m_ below meth c_ C hr hlk Z hP ls hl
  have C : CallFix p_ m_ c_ cX12_isThereNow 2 s_ _ lw_good RX12 := C
  have hl : lv_has ls 2 [(0, .ref (mw_a E 0)), (1, .int (nI p))] := hl
  have hS : va_S (mw_A 13 E) s_.heap s_.heap [] := va_S.rf
  refine lv_aload_n C.1 C.2.1 dX12_isThereNow_0 rfl (lv_at hl 0 rfl) ?_
  refine mw_getr C Z hP (0) 7 (4) (by decide) rfl rfl rfl (by decide) inX12 tw_4_171 dX12_isThereNow_1 ?_
  refine lv_iconst (v := 3) C.1 C.2.1 dX12_isThereNow_4 (by decide) ?_
  refine mw_iald C Z hP (4) (3) (by decide) rfl (Nat.lt_of_lt_of_le (by decide : 5 < 961) (Nat.le_of_ble_eq_true rfl)) rfl (by decide) dX12_isThereNow_5 ?_
  refine lv_aload_n C.1 C.2.1 dX12_isThereNow_6 rfl (lv_at hl 0 rfl) ?_
  refine mw_getr C Z hP (0) 9 (6) (by decide) rfl rfl rfl (by decide) inX12 tw_4_173 dX12_isThereNow_7 ?_
  refine lv_iconst (v := 4) C.1 C.2.1 dX12_isThereNow_10 (by decide) ?_
  refine lv_iload_n C.1 C.2.1 dX12_isThereNow_11 rfl (lv_at hl 1 rfl) ?_
  refine lv_imul C.1 C.2.1 dX12_isThereNow_12 ?_
  refine mw_top (y := nI (4 * p)) (pk_mul 4 p) ?_
  refine lv_iconst (v := 1) C.1 C.2.1 dX12_isThereNow_13 (by decide) ?_
  refine lv_iadd C.1 C.2.1 dX12_isThereNow_14 ?_
  refine mw_top (y := nI (4 * p + 1)) (nI_1 _) ?_
  refine mw_iald C Z hP (6) (4 * p + 1) (by decide) rfl (Nat.lt_of_lt_of_le (by decide : 32 < 961) (Nat.le_of_ble_eq_true rfl)) rfl (by omega) dX12_isThereNow_15 ?_
  refine lv_ishr C.1 C.2.1 dX12_isThereNow_16 ?_
  refine lv_iconst (v := 1) C.1 C.2.1 dX12_isThereNow_17 (by decide) ?_
  refine lv_iand C.1 C.2.1 dX12_isThereNow_18 ?_
  refine lv_iconst (v := 1) C.1 C.2.1 dX12_isThereNow_19 (by decide) ?_
  refine lv_icmp_ne (tgt := 27) C.1 C.2.1 dX12_isThereNow_20 (by decide) (fun c1 => ?_) (fun c1 => ?_)
  · refine lv_iconst (v := 0) C.1 C.2.1 dX12_isThereNow_27 (by decide) ?_
    exact mw_zret C hr hlk Z hP hS rfl dX12_isThereNow_28 (⟨(bI_f c1).symm, (mFs.rf σ)⟩)
  · refine lv_iconst (v := 1) C.1 C.2.1 dX12_isThereNow_23 (by decide) ?_
    refine lv_goto (tgt := 28) C.1 C.2.1 dX12_isThereNow_24 (by decide) ?_
    exact mw_zret C hr hlk Z hP hS rfl dX12_isThereNow_28 (⟨(bI_t c1).symm, (mFs.rf σ)⟩)

set_option maxHeartbeats 4000000 in
set_option maxRecDepth 100000 in
theorem cM_costOf (l : Launch) (E : mw_E) (σ : mw_M) (z : zP) (p : Nat) (hp : p < 8) (hru : mRu σ z) : mw_Ci shM 13 gM l yX12_costOf cX12_costOf 2 (some .int) (rmF 44 976) E [.ref (mw_a E 0), .int (nI p)] σ (fun r u => r = costP z (mSt σ) (mCu σ p) ∧ mFs σ u) := by
  refine mw_of (by decide) gM_ok (Nat.le_of_ble_eq_true rfl) ?_
  intro p_ e_ s_ m_ below meth c_ C hr hlk Z hP ls hl
  have C : CallFix p_ m_ c_ cX12_costOf 2 s_ _ lw_good RX12 := C
  have hl : lv_has ls 2 [(0, .ref (mw_a E 0)), (1, .int (nI p))] := hl
  have hS : va_S (mw_A 13 E) s_.heap s_.heap [] := va_S.rf
  refine lv_aload_n C.1 C.2.1 dX12_costOf_0 rfl (lv_at hl 0 rfl) ?_
  refine lv_iload_n C.1 C.2.1 dX12_costOf_1 rfl (lv_at hl 1 rfl) ?_
  refine mw_cVi (As := [.int (nI p)]) (rest := []) C Z hP hS (0) (cM_isThereNow l E σ p (by omega)) vb_X12_isThereNow tw_6_22 ⟨rfl, rfl⟩ ⟨Nat.le_of_ble_eq_true rfl, Nat.le_of_ble_eq_true rfl⟩ (by decide) rfl rfl rfl rfl hl.1 rfl (Nat.le_of_ble_eq_true rfl) dX12_costOf_2 ⟨Nat.zero_le _, Nat.zero_le _⟩ (fun r1 u2 H locs q3 hP hS => ?_)
  obtain ⟨e5, f4⟩ := q3
  rw [(mFs.rf σ).st, (mFs.rf σ).cu] at e5
  subst e5
  refine lv_if_eq (tgt := 33) C.1 C.2.1 dX12_costOf_5 (by decide) (fun c6 => ?_) (fun c6 => ?_)
  · have c6 := bI_0.mp c6
    refine lv_iconst (v := 0) C.1 C.2.1 dX12_costOf_33 (by decide) ?_
    exact mw_iret C hr hlk Z hP hS dX12_costOf_34 (⟨by unfold costP; rw [if_neg c6], ((mFs.rf σ).tr f4)⟩)
  · have c6 := bI_n.mp c6
    refine lv_aload_n C.1 C.2.1 dX12_costOf_8 rfl (lv_at hl 0 rfl) ?_
    refine lv_iload_n C.1 C.2.1 dX12_costOf_9 rfl (lv_at hl 1 rfl) ?_
    refine mw_cVi (As := [.int (nI p)]) (rest := []) C Z hP hS (0) (cM_eatsOf l E u2 z p (by omega) (((mFs.rf σ).tr f4).ru hru)) vb_X12_eatsOf tw_5_52 ⟨rfl, rfl⟩ ⟨Nat.le_of_ble_eq_true rfl, Nat.le_of_ble_eq_true rfl⟩ (by decide) rfl rfl rfl rfl hl.1 rfl (Nat.le_of_ble_eq_true rfl) dX12_costOf_10 ⟨Nat.zero_le _, Nat.zero_le _⟩ (fun r7 u8 H locs q9 hP hS => ?_)
    obtain ⟨e11, f10⟩ := q9
    rw [((mFs.rf σ).tr f4).st, ((mFs.rf σ).tr f4).cu] at e11
    subst e11
    refine lv_aload_n C.1 C.2.1 dX12_costOf_13 rfl (lv_at hl 0 rfl) ?_
    refine mw_getr C Z hP (0) 7 (4) (by decide) rfl rfl rfl (by decide) inX12 tw_4_171 dX12_costOf_14 ?_
    refine lv_iconst (v := 0) C.1 C.2.1 dX12_costOf_17 (by decide) ?_
    refine mw_iald C Z hP (4) (0) (by decide) rfl (Nat.lt_of_lt_of_le (by decide : 5 < 961) (Nat.le_of_ble_eq_true rfl)) rfl (by decide) dX12_costOf_18 ?_
    refine mw_top (y := σ.2.1 4 0) (by first | (rw [(((mFs.rf σ).tr f4).tr f10).1]; done) | (rw [(((mFs.rf σ).tr f4).tr f10).1]; rfl)) ?_
    refine lv_imul C.1 C.2.1 dX12_costOf_19 ?_
    refine lv_aload_n C.1 C.2.1 dX12_costOf_20 rfl (lv_at hl 0 rfl) ?_
    refine mw_getr C Z hP (0) 7 (4) (by decide) rfl rfl rfl (by decide) inX12 tw_4_171 dX12_costOf_21 ?_
    refine lv_iconst (v := 4) C.1 C.2.1 dX12_costOf_24 (by decide) ?_
    refine mw_iald C Z hP (4) (4) (by decide) rfl (Nat.lt_of_lt_of_le (by decide : 5 < 961) (Nat.le_of_ble_eq_true rfl)) rfl (by decide) dX12_costOf_25 ?_
    refine mw_top (y := σ.2.1 4 4) (by first | (rw [(((mFs.rf σ).tr f4).tr f10).1]; done) | (rw [(((mFs.rf σ).tr f4).tr f10).1]; rfl)) ?_
    refine lv_imul C.1 C.2.1 dX12_costOf_26 ?_
    refine lv_bipush (v := 10) C.1 C.2.1 dX12_costOf_27 (by decide) ?_
    refine lv_idiv C.1 C.2.1 dX12_costOf_29 (by decide) ?_
    refine lv_goto (tgt := 34) C.1 C.2.1 dX12_costOf_30 (by decide) ?_
    exact mw_iret C hr hlk Z hP hS dX12_costOf_34 (⟨by unfold costP; rw [if_pos c6]; rfl, (((mFs.rf σ).tr f4).tr f10)⟩)

set_option maxHeartbeats 4000000 in
set_option maxRecDepth 100000 in
theorem cM_gainOf (l : Launch) (E : mw_E) (σ : mw_M) (z : zP) (p : Nat) (hp : p < 8) (hru : mRu σ z) : mw_Ci shM 13 gM l yX12_gainOf cX12_gainOf 3 (some .int) (rmF 45 997) E [.ref (mw_a E 0), .int (nI p)] σ (fun r u => r = gainP z (mSt σ) (mCu σ p) ∧ mFs σ u) := by
  refine mw_of (by decide) gM_ok (Nat.le_of_ble_eq_true rfl) ?_
  intro p_ e_ s_ m_ below meth c_ C hr hlk Z hP ls hl
  have C : CallFix p_ m_ c_ cX12_gainOf 3 s_ _ lw_good RX12 := C
  have hl : lv_has ls 3 [(0, .ref (mw_a E 0)), (1, .int (nI p))] := hl
  have hS : va_S (mw_A 13 E) s_.heap s_.heap [] := va_S.rf
  refine lv_aload_n C.1 C.2.1 dX12_gainOf_0 rfl (lv_at hl 0 rfl) ?_
  refine lv_iload_n C.1 C.2.1 dX12_gainOf_1 rfl (lv_at hl 1 rfl) ?_
  refine mw_cVi (As := [.int (nI p)]) (rest := []) C Z hP hS (0) (cM_isThereNow l E σ p (by omega)) vb_X12_isThereNow tw_6_22 ⟨rfl, rfl⟩ ⟨Nat.le_of_ble_eq_true rfl, Nat.le_of_ble_eq_true rfl⟩ (by decide) rfl rfl rfl rfl hl.1 rfl (Nat.le_of_ble_eq_true rfl) dX12_gainOf_2 ⟨Nat.zero_le _, Nat.zero_le _⟩ (fun r1 u2 H locs q3 hP hS => ?_)
  obtain ⟨e5, f4⟩ := q3
  rw [(mFs.rf σ).st, (mFs.rf σ).cu] at e5
  subst e5
  refine lv_if_ne (tgt := 10) C.1 C.2.1 dX12_gainOf_5 (by decide) (fun c6 => ?_) (fun c6 => ?_)
  · have c6 := bI_n.mp c6
    refine lv_aload_n C.1 C.2.1 dX12_gainOf_10 rfl (lv_at hl 0 rfl) ?_
    refine lv_iload_n C.1 C.2.1 dX12_gainOf_11 rfl (lv_at hl 1 rfl) ?_
    refine mw_cVi (As := [.int (nI p)]) (rest := []) C Z hP hS (0) (cM_triesOf l E u2 z p (by omega) (((mFs.rf σ).tr f4).ru hru)) vb_X12_triesOf tw_6_14 ⟨rfl, rfl⟩ ⟨Nat.le_of_ble_eq_true rfl, Nat.le_of_ble_eq_true rfl⟩ (by decide) rfl rfl rfl rfl hl.1 rfl (Nat.le_of_ble_eq_true rfl) dX12_gainOf_12 ⟨Nat.zero_le _, Nat.zero_le _⟩ (fun r7 u8 H locs q9 hP hS => ?_)
    obtain ⟨e11, f10⟩ := q9
    rw [((mFs.rf σ).tr f4).st, ((mFs.rf σ).tr f4).cu] at e11
    subst e11
    refine lv_istore_n (lv' := [(2, .int (triesP z (mSt σ) (mCu σ p))), (0, .ref (mw_a E 0)), (1, .int (nI p))]) C.1 C.2.1 dX12_gainOf_15 rfl hl (by decide) rfl (fun ls hl => ?_)
    refine lv_iload_n C.1 C.2.1 dX12_gainOf_16 rfl (lv_at hl 0 rfl) ?_
    refine lv_if_ne (tgt := 24) C.1 C.2.1 dX12_gainOf_17 (by decide) (fun c12 => ?_) (fun c12 => ?_)
    · refine lv_aload_n C.1 C.2.1 dX12_gainOf_24 rfl (lv_at hl 1 rfl) ?_
      refine lv_iload_n C.1 C.2.1 dX12_gainOf_25 rfl (lv_at hl 2 rfl) ?_
      refine mw_cVi (As := [.int (nI p)]) (rest := []) C Z hP hS (0) (cM_spendsOf l E u8 z p (by omega) ((((mFs.rf σ).tr f4).tr f10).ru hru)) vb_X12_spendsOf tw_6_18 ⟨rfl, rfl⟩ ⟨Nat.le_of_ble_eq_true rfl, Nat.le_of_ble_eq_true rfl⟩ (by decide) rfl rfl rfl rfl hl.1 rfl (Nat.le_of_ble_eq_true rfl) dX12_gainOf_26 ⟨Nat.zero_le _, Nat.zero_le _⟩ (fun r13 u14 H locs q15 hP hS => ?_)
      obtain ⟨e17, f16⟩ := q15
      rw [(((mFs.rf σ).tr f4).tr f10).st, (((mFs.rf σ).tr f4).tr f10).cu] at e17
      subst e17
      refine lv_sipush (v := 1000) C.1 C.2.1 dX12_gainOf_29 (by decide) ?_
      refine lv_imul C.1 C.2.1 dX12_gainOf_32 ?_
      refine lv_iload_n C.1 C.2.1 dX12_gainOf_33 rfl (lv_at hl 0 rfl) ?_
      refine lv_idiv C.1 C.2.1 dX12_gainOf_34 c12 ?_
      refine lv_sipush (v := 1000) C.1 C.2.1 dX12_gainOf_35 (by decide) ?_
      refine lv_aload_n C.1 C.2.1 dX12_gainOf_38 rfl (lv_at hl 1 rfl) ?_
      refine lv_iload_n C.1 C.2.1 dX12_gainOf_39 rfl (lv_at hl 2 rfl) ?_
      refine mw_cVi (As := [.int (nI p)]) (rest := [.int 1000, .int (((spendsP z (mSt σ) (mCu σ p)) * 1000) / (triesP z (mSt σ) (mCu σ p)))]) C Z hP hS (0) (cM_costOf l E u14 z p (by omega) (((((mFs.rf σ).tr f4).tr f10).tr f16).ru hru)) vb_X12_costOf tw_6_26 ⟨rfl, rfl⟩ ⟨Nat.le_of_ble_eq_true rfl, Nat.le_of_ble_eq_true rfl⟩ (by decide) rfl rfl rfl rfl hl.1 rfl (Nat.le_of_ble_eq_true rfl) dX12_gainOf_40 ⟨Nat.zero_le _, Nat.zero_le _⟩ (fun r18 u19 H locs q20 hP hS => ?_)
      obtain ⟨e22, f21⟩ := q20
      rw [((((mFs.rf σ).tr f4).tr f10).tr f16).st, ((((mFs.rf σ).tr f4).tr f10).tr f16).cu] at e22
      subst e22
      refine lv_imul C.1 C.2.1 dX12_gainOf_43 ?_
      refine lv_isub C.1 C.2.1 dX12_gainOf_44 ?_
      exact mw_iret C hr hlk Z hP hS dX12_gainOf_45 (⟨by unfold gainP; rw [if_pos c6, if_neg c12], (((((mFs.rf σ).tr f4).tr f10).tr f16).tr f21)⟩)
    · refine lv_iconst (v := 0) C.1 C.2.1 dX12_gainOf_20 (by decide) ?_
      refine lv_goto (tgt := 35) C.1 C.2.1 dX12_gainOf_21 (by decide) ?_
      refine lv_sipush (v := 1000) C.1 C.2.1 dX12_gainOf_35 (by decide) ?_
      refine lv_aload_n C.1 C.2.1 dX12_gainOf_38 rfl (lv_at hl 1 rfl) ?_
      refine lv_iload_n C.1 C.2.1 dX12_gainOf_39 rfl (lv_at hl 2 rfl) ?_
      refine mw_cVi (As := [.int (nI p)]) (rest := [.int 1000, .int 0]) C Z hP hS (0) (cM_costOf l E u8 z p (by omega) ((((mFs.rf σ).tr f4).tr f10).ru hru)) vb_X12_costOf tw_6_26 ⟨rfl, rfl⟩ ⟨Nat.le_of_ble_eq_true rfl, Nat.le_of_ble_eq_true rfl⟩ (by decide) rfl rfl rfl rfl hl.1 rfl (Nat.le_of_ble_eq_true rfl) dX12_gainOf_40 ⟨Nat.zero_le _, Nat.zero_le _⟩ (fun r23 u24 H locs q25 hP hS => ?_)
      obtain ⟨e27, f26⟩ := q25
      rw [(((mFs.rf σ).tr f4).tr f10).st, (((mFs.rf σ).tr f4).tr f10).cu] at e27
      subst e27
      refine lv_imul C.1 C.2.1 dX12_gainOf_43 ?_
      refine lv_isub C.1 C.2.1 dX12_gainOf_44 ?_
      exact mw_iret C hr hlk Z hP hS dX12_gainOf_45 (⟨by unfold gainP; rw [if_pos c6, if_pos c12], ((((mFs.rf σ).tr f4).tr f10).tr f26)⟩)
  · have c6 := bI_0.mp c6
    refine lv_iconst (v := 0) C.1 C.2.1 dX12_gainOf_8 (by decide) ?_
    exact mw_iret C hr hlk Z hP hS dX12_gainOf_9 (⟨by unfold gainP; rw [if_neg c6], ((mFs.rf σ).tr f4)⟩)

set_option maxHeartbeats 4000000 in
set_option maxRecDepth 100000 in
theorem cM_gainAll (l : Launch) (E : mw_E) (σ : mw_M) (z : zP) (n : Nat) (hn : σ.1 0 10 = nI n) (h8 : n ≤ 8) (hru : mRu σ z) : mw_Ci shM 13 gM l yX12_gainAll cX12_gainAll 3 (some .int) (rmF 46 1019) E [.ref (mw_a E 0)] σ (fun r u => r = sumP (fun p => gainP z (mSt σ) (mCu σ p)) n ∧ mFs σ u) := by
  refine mw_of (by decide) gM_ok (Nat.le_of_ble_eq_true rfl) ?_
  intro p_ e_ s_ m_ below meth c_ C hr hlk Z hP ls hl
  have C : CallFix p_ m_ c_ cX12_gainAll 3 s_ _ lw_good RX12 := C
  have hl : lv_has ls 3 [(0, .ref (mw_a E 0))] := hl
  have hS : va_S (mw_A 13 E) s_.heap s_.heap [] := va_S.rf
  refine lv_iconst (v := 0) C.1 C.2.1 dX12_gainAll_0 (by decide) ?_
  refine lv_istore_n (lv' := [(1, .int 0), (0, .ref (mw_a E 0))]) C.1 C.2.1 dX12_gainAll_1 rfl hl (by decide) rfl (fun ls hl => ?_)
  refine lv_iconst (v := 0) C.1 C.2.1 dX12_gainAll_2 (by decide) ?_
  refine lv_istore_n (lv' := [(2, .int 0), (1, .int 0), (0, .ref (mw_a E 0))]) C.1 C.2.1 dX12_gainAll_3 rfl hl (by decide) rfl (fun ls hl => ?_)
  have lpa : ∀ (N : Nat) (j : Nat) (x : Int32) (ςa : mw_M) (H : Heap) (locs : List Loc), n + 1 ≤ j + N → (j ≤ n) → (x = sumP (fun p => gainP z (mSt σ) (mCu σ p)) j) → mFs σ ςa → va_P (mw_D E) vwCl (mw_ws shM 13 E ςa) H → va_S (mw_A 13 E) s_.heap H locs → ∀ (ls : Array Slot), lv_has ls 3 [(0, .ref (mw_a E 0)), (1, .int x), (2, .int (nI j))] → mWi p_ l e_ (rmF 46 1019) s_ m_ [.ref (mw_a E 0)] below meth c_ E (fun r u => r = sumP (fun p => gainP z (mSt σ) (mCu σ p)) n ∧ mFs σ u) H locs (F0 m_ 4 ls []) := by
    intro N
    induction N with
    | zero => intros; exfalso; omega
    | succ N iha =>
      intro j x ςa H locs hNa hj ex fra hP hS ls hl
      refine lv_iload_n C.1 C.2.1 dX12_gainAll_4 rfl (lv_at hl 2 rfl) ?_
      refine lv_aload_n C.1 C.2.1 dX12_gainAll_5 rfl (lv_at hl 0 rfl) ?_
      refine mw_geti C Z hP (0) 10 (by decide) rfl rfl rfl (by decide) inX12 tw_4_174 dX12_gainAll_6 ?_
      refine mw_top (y := nI n) ((fra).many hn) ?_
      refine lv_icmp_ge (tgt := 26) C.1 C.2.1 dX12_gainAll_9 (by decide) (fun c1 => ?_) (fun c1 => ?_)
      · have c1 := (nI_leI (by omega) (by omega)).mp c1
        refine lv_iload_n C.1 C.2.1 dX12_gainAll_26 rfl (lv_at hl 1 rfl) ?_
        exact mw_iret C hr hlk Z hP hS dX12_gainAll_27 (⟨by rw [ex, show j = n by omega], fra⟩)
      · have c1 : _ := (not_congr (nI_leI (by omega) (by omega))).mp c1
        refine lv_iload_n C.1 C.2.1 dX12_gainAll_12 rfl (lv_at hl 1 rfl) ?_
        refine lv_aload_n C.1 C.2.1 dX12_gainAll_13 rfl (lv_at hl 0 rfl) ?_
        refine lv_iload_n C.1 C.2.1 dX12_gainAll_14 rfl (lv_at hl 2 rfl) ?_
        refine mw_cVi (As := [.int (nI j)]) (rest := [.int x]) C Z hP hS (0) (cM_gainOf l E ςa z j (by omega) (fra.ru hru)) vb_X12_gainOf tw_6_30 ⟨rfl, rfl⟩ ⟨Nat.le_of_ble_eq_true rfl, Nat.le_of_ble_eq_true rfl⟩ (by decide) rfl rfl rfl rfl hl.1 rfl (Nat.le_of_ble_eq_true rfl) dX12_gainAll_15 ⟨Nat.zero_le _, Nat.zero_le _⟩ (fun r2 u3 H locs q4 hP hS => ?_)
        obtain ⟨e6, f5⟩ := q4
        rw [fra.st, fra.cu] at e6
        subst e6
        refine lv_iadd C.1 C.2.1 dX12_gainAll_18 ?_
        refine lv_istore_n (lv' := [(1, .int (x + (gainP z (mSt σ) (mCu σ j)))), (0, .ref (mw_a E 0)), (2, .int (nI j))]) C.1 C.2.1 dX12_gainAll_19 rfl hl (by decide) rfl (fun ls hl => ?_)
        refine lv_iinc (v := nI (j + 1)) (lv' := [(2, .int (nI (j + 1))), (1, .int (x + (gainP z (mSt σ) (mCu σ j)))), (0, .ref (mw_a E 0))]) C.1 C.2.1 dX12_gainAll_20 hl (k := 2) rfl (nI_1 _) (by decide) rfl (fun ls hl => ?_)
        refine lv_goto (tgt := 4) C.1 C.2.1 dX12_gainAll_23 (by decide) ?_
        exact iha (j + 1) (x + (gainP z (mSt σ) (mCu σ j))) u3 _ _ (by omega) (by omega) (by rw [ex]; rfl) (fra.tr f5) hP hS ls (lv_sub hl [2, 1, 0] rfl)
  exact lpa (n + 1) 0 0 σ _ _ (by omega) (by omega) (rfl) (mFs.rf σ) hP hS ls (lv_sub hl [2, 1, 0] rfl)

set_option maxHeartbeats 4000000 in
set_option maxRecDepth 100000 in
theorem cM_eatenIn (l : Launch) (E : mw_E) (σ : mw_M) (z : zP) (n : Nat) (hn : σ.1 0 10 = nI n) (h8 : n ≤ 8) (hru : mRu σ z) (hr1 : Int32) : mw_Ci shM 13 gM l yX12_eatenIn cX12_eatenIn 4 (some .int) (rmF 44 976) E [.ref (mw_a E 0), .int hr1] σ (fun r u => r = sumP (fun p => if thereP (mSt σ) (mCu σ p) ∧ mCu σ p 2 = hr1 then eatsP z (mSt σ) (mCu σ p) else 0) n ∧ mFs σ u) := by
  refine mw_of (by decide) gM_ok (Nat.le_of_ble_eq_true rfl) ?_
  intro p_ e_ s_ m_ below meth c_ C hr hlk Z hP ls hl
  have C : CallFix p_ m_ c_ cX12_eatenIn 4 s_ _ lw_good RX12 := C
  have hl : lv_has ls 4 [(0, .ref (mw_a E 0)), (1, .int hr1)] := hl
  have hS : va_S (mw_A 13 E) s_.heap s_.heap [] := va_S.rf
  refine lv_iconst (v := 0) C.1 C.2.1 dX12_eatenIn_0 (by decide) ?_
  refine lv_istore_n (lv' := [(2, .int 0), (0, .ref (mw_a E 0)), (1, .int hr1)]) C.1 C.2.1 dX12_eatenIn_1 rfl hl (by decide) rfl (fun ls hl => ?_)
  refine lv_iconst (v := 0) C.1 C.2.1 dX12_eatenIn_2 (by decide) ?_
  refine lv_istore_n (lv' := [(3, .int 0), (2, .int 0), (0, .ref (mw_a E 0)), (1, .int hr1)]) C.1 C.2.1 dX12_eatenIn_3 rfl hl (by decide) rfl (fun ls hl => ?_)
  have lpa : ∀ (N : Nat) (j : Nat) (x : Int32) (ςa : mw_M) (H : Heap) (locs : List Loc), n + 1 ≤ j + N → (j ≤ n) → (x = sumP (fun p => if thereP (mSt σ) (mCu σ p) ∧ mCu σ p 2 = hr1 then eatsP z (mSt σ) (mCu σ p) else 0) j) → mFs σ ςa → va_P (mw_D E) vwCl (mw_ws shM 13 E ςa) H → va_S (mw_A 13 E) s_.heap H locs → ∀ (ls : Array Slot), lv_has ls 4 [(0, .ref (mw_a E 0)), (1, .int hr1), (2, .int x), (3, .int (nI j))] → mWi p_ l e_ (rmF 44 976) s_ m_ [.ref (mw_a E 0), .int hr1] below meth c_ E (fun r u => r = sumP (fun p => if thereP (mSt σ) (mCu σ p) ∧ mCu σ p 2 = hr1 then eatsP z (mSt σ) (mCu σ p) else 0) n ∧ mFs σ u) H locs (F0 m_ 4 ls []) := by
    intro N
    induction N with
    | zero => intros; exfalso; omega
    | succ N iha =>
      intro j x ςa H locs hNa hj ex fra hP hS ls hl
      refine lv_iload_n C.1 C.2.1 dX12_eatenIn_4 rfl (lv_at hl 3 rfl) ?_
      refine lv_aload_n C.1 C.2.1 dX12_eatenIn_5 rfl (lv_at hl 0 rfl) ?_
      refine mw_geti C Z hP (0) 10 (by decide) rfl rfl rfl (by decide) inX12 tw_4_174 dX12_eatenIn_6 ?_
      refine mw_top (y := nI n) ((fra).many hn) ?_
      refine lv_icmp_ge (tgt := 52) C.1 C.2.1 dX12_eatenIn_9 (by decide) (fun c1 => ?_) (fun c1 => ?_)
      · have c1 := (nI_leI (by omega) (by omega)).mp c1
        refine lv_iload_n C.1 C.2.1 dX12_eatenIn_52 rfl (lv_at hl 2 rfl) ?_
        exact mw_iret C hr hlk Z hP hS dX12_eatenIn_53 (⟨by rw [ex, show j = n by omega], fra⟩)
      · have c1 : _ := (not_congr (nI_leI (by omega) (by omega))).mp c1
        refine lv_iload_n C.1 C.2.1 dX12_eatenIn_12 rfl (lv_at hl 2 rfl) ?_
        refine lv_aload_n C.1 C.2.1 dX12_eatenIn_13 rfl (lv_at hl 0 rfl) ?_
        refine lv_iload_n C.1 C.2.1 dX12_eatenIn_14 rfl (lv_at hl 3 rfl) ?_
        refine mw_cVi (As := [.int (nI j)]) (rest := [.int x]) C Z hP hS (0) (cM_isThereNow l E ςa j (by omega)) vb_X12_isThereNow tw_6_22 ⟨rfl, rfl⟩ ⟨Nat.le_of_ble_eq_true rfl, Nat.le_of_ble_eq_true rfl⟩ (by decide) rfl rfl rfl rfl hl.1 rfl (Nat.le_of_ble_eq_true rfl) dX12_eatenIn_15 ⟨Nat.zero_le _, Nat.zero_le _⟩ (fun r2 u3 H locs q4 hP hS => ?_)
        obtain ⟨e6, f5⟩ := q4
        rw [fra.st, fra.cu] at e6
        subst e6
        refine lv_if_eq (tgt := 43) C.1 C.2.1 dX12_eatenIn_18 (by decide) (fun c7 => ?_) (fun c7 => ?_)
        · have c7 := bI_0.mp c7
          refine lv_iconst (v := 0) C.1 C.2.1 dX12_eatenIn_43 (by decide) ?_
          refine lv_iadd C.1 C.2.1 dX12_eatenIn_44 ?_
          refine lv_istore_n (lv' := [(2, .int (x + 0)), (0, .ref (mw_a E 0)), (1, .int hr1), (3, .int (nI j))]) C.1 C.2.1 dX12_eatenIn_45 rfl hl (by decide) rfl (fun ls hl => ?_)
          refine lv_iinc (v := nI (j + 1)) (lv' := [(3, .int (nI (j + 1))), (2, .int (x + 0)), (0, .ref (mw_a E 0)), (1, .int hr1)]) C.1 C.2.1 dX12_eatenIn_46 hl (k := 3) rfl (nI_1 _) (by decide) rfl (fun ls hl => ?_)
          refine lv_goto (tgt := 4) C.1 C.2.1 dX12_eatenIn_49 (by decide) ?_
          exact iha (j + 1) (x + 0) u3 _ _ (by omega) (by omega) (by rw [ex]; exact sumP_s (if_neg (fun y => c7 y.1))) (fra.tr f5) hP hS ls (lv_sub hl [2, 3, 1, 0] rfl)
        · have c7 := bI_n.mp c7
          refine lv_aload_n C.1 C.2.1 dX12_eatenIn_21 rfl (lv_at hl 0 rfl) ?_
          refine mw_getr C Z hP (0) 9 (6) (by decide) rfl rfl rfl (by decide) inX12 tw_4_173 dX12_eatenIn_22 ?_
          refine lv_iconst (v := 4) C.1 C.2.1 dX12_eatenIn_25 (by decide) ?_
          refine lv_iload_n C.1 C.2.1 dX12_eatenIn_26 rfl (lv_at hl 3 rfl) ?_
          refine lv_imul C.1 C.2.1 dX12_eatenIn_27 ?_
          refine mw_top (y := nI (4 * j)) (pk_mul 4 j) ?_
          refine lv_iconst (v := 1) C.1 C.2.1 dX12_eatenIn_28 (by decide) ?_
          refine lv_iadd C.1 C.2.1 dX12_eatenIn_29 ?_
          refine mw_top (y := nI (4 * j + 1)) (nI_1 _) ?_
          refine mw_iald C Z hP (6) (4 * j + 1) (by decide) rfl (Nat.lt_of_lt_of_le (by decide : 32 < 961) (Nat.le_of_ble_eq_true rfl)) rfl (by omega) dX12_eatenIn_30 ?_
          refine mw_top (y := σ.2.1 6 (4 * j + 1)) (by first | (rw [(fra.tr f5).1]; done) | (rw [(fra.tr f5).1]; rfl)) ?_
          refine lv_iload_n C.1 C.2.1 dX12_eatenIn_31 rfl (lv_at hl 1 rfl) ?_
          refine lv_icmp_ne (tgt := 43) C.1 C.2.1 dX12_eatenIn_32 (by decide) (fun c8 => ?_) (fun c8 => ?_)
          · refine lv_iconst (v := 0) C.1 C.2.1 dX12_eatenIn_43 (by decide) ?_
            refine lv_iadd C.1 C.2.1 dX12_eatenIn_44 ?_
            refine lv_istore_n (lv' := [(2, .int (x + 0)), (0, .ref (mw_a E 0)), (1, .int hr1), (3, .int (nI j))]) C.1 C.2.1 dX12_eatenIn_45 rfl hl (by decide) rfl (fun ls hl => ?_)
            refine lv_iinc (v := nI (j + 1)) (lv' := [(3, .int (nI (j + 1))), (2, .int (x + 0)), (0, .ref (mw_a E 0)), (1, .int hr1)]) C.1 C.2.1 dX12_eatenIn_46 hl (k := 3) rfl (nI_1 _) (by decide) rfl (fun ls hl => ?_)
            refine lv_goto (tgt := 4) C.1 C.2.1 dX12_eatenIn_49 (by decide) ?_
            exact iha (j + 1) (x + 0) u3 _ _ (by omega) (by omega) (by rw [ex]; exact sumP_s (if_neg (fun y => c8 y.2))) (fra.tr f5) hP hS ls (lv_sub hl [2, 3, 1, 0] rfl)
          · refine lv_aload_n C.1 C.2.1 dX12_eatenIn_35 rfl (lv_at hl 0 rfl) ?_
            refine lv_iload_n C.1 C.2.1 dX12_eatenIn_36 rfl (lv_at hl 3 rfl) ?_
            refine mw_cVi (As := [.int (nI j)]) (rest := [.int x]) C Z hP hS (0) (cM_eatsOf l E u3 z j (by omega) ((fra.tr f5).ru hru)) vb_X12_eatsOf tw_5_52 ⟨rfl, rfl⟩ ⟨Nat.le_of_ble_eq_true rfl, Nat.le_of_ble_eq_true rfl⟩ (by decide) rfl rfl rfl rfl hl.1 rfl (Nat.le_of_ble_eq_true rfl) dX12_eatenIn_37 ⟨Nat.zero_le _, Nat.zero_le _⟩ (fun r9 u10 H locs q11 hP hS => ?_)
            obtain ⟨e13, f12⟩ := q11
            rw [(fra.tr f5).st, (fra.tr f5).cu] at e13
            subst e13
            refine lv_goto (tgt := 44) C.1 C.2.1 dX12_eatenIn_40 (by decide) ?_
            refine lv_iadd C.1 C.2.1 dX12_eatenIn_44 ?_
            refine lv_istore_n (lv' := [(2, .int (x + (eatsP z (mSt σ) (mCu σ j)))), (0, .ref (mw_a E 0)), (1, .int hr1), (3, .int (nI j))]) C.1 C.2.1 dX12_eatenIn_45 rfl hl (by decide) rfl (fun ls hl => ?_)
            refine lv_iinc (v := nI (j + 1)) (lv' := [(3, .int (nI (j + 1))), (2, .int (x + (eatsP z (mSt σ) (mCu σ j)))), (0, .ref (mw_a E 0)), (1, .int hr1)]) C.1 C.2.1 dX12_eatenIn_46 hl (k := 3) rfl (nI_1 _) (by decide) rfl (fun ls hl => ?_)
            refine lv_goto (tgt := 4) C.1 C.2.1 dX12_eatenIn_49 (by decide) ?_
            exact iha (j + 1) (x + (eatsP z (mSt σ) (mCu σ j))) u10 _ _ (by omega) (by omega) (by rw [ex]; exact sumP_s (if_pos ⟨c7, c8⟩)) ((fra.tr f5).tr f12) hP hS ls (lv_sub hl [2, 3, 1, 0] rfl)
  exact lpa (n + 1) 0 0 σ _ _ (by omega) (by omega) (rfl) (mFs.rf σ) hP hS ls (lv_sub hl [2, 3, 1, 0] rfl)

def eatenF (z : zP) (st : Nat → Int32) (cu : Nat → Nat → Int32) (n : Nat) (h : Int32) : Int32 := sumP (fun p => if thereP st (cu p) ∧ cu p 2 = h then eatsP z st (cu p) else 0) n
theorem cM_eatenIn2 (l : Launch) (E : mw_E) (σ : mw_M) (z : zP) (n : Nat) (hn : σ.1 0 10 = nI n) (h8 : n ≤ 8) (hru : mRu σ z) (hr1 : Int32) : mw_Ci shM 13 gM l yX12_eatenIn cX12_eatenIn 4 (some .int) (rmF 44 976) E [.ref (mw_a E 0), .int hr1] σ (fun r u => r = eatenF z (mSt σ) (mCu σ) n hr1 ∧ mFs σ u) := cM_eatenIn l E σ z n hn h8 hru hr1

set_option maxHeartbeats 4000000 in
set_option maxRecDepth 100000 in
theorem cM_crowd (l : Launch) (E : mw_E) (σ : mw_M) (z : zP) (n : Nat) (hn : σ.1 0 10 = nI n) (h8 : n ≤ 8) (hru : mRu σ z) : mw_Ci shM 13 gM l yX12_crowd cX12_crowd 5 (some .int) (rmF 45 999) E [.ref (mw_a E 0)] σ (fun r u => r = (csF (-1, 0) nI (fun h => eatenF z (mSt σ) (mCu σ) n (nI h)) 10).1 ∧ mFs σ u) := by
  refine mw_of (by decide) gM_ok (Nat.le_of_ble_eq_true rfl) ?_
  intro p_ e_ s_ m_ below meth c_ C hr hlk Z hP ls hl
  have C : CallFix p_ m_ c_ cX12_crowd 5 s_ _ lw_good RX12 := C
  have hl : lv_has ls 5 [(0, .ref (mw_a E 0))] := hl
  have hS : va_S (mw_A 13 E) s_.heap s_.heap [] := va_S.rf
  refine lv_iconst (v := -1) C.1 C.2.1 dX12_crowd_0 (by decide) ?_
  refine lv_istore_n (lv' := [(1, .int (-1)), (0, .ref (mw_a E 0))]) C.1 C.2.1 dX12_crowd_1 rfl hl (by decide) rfl (fun ls hl => ?_)
  refine lv_iconst (v := 0) C.1 C.2.1 dX12_crowd_2 (by decide) ?_
  refine lv_istore_n (lv' := [(2, .int 0), (1, .int (-1)), (0, .ref (mw_a E 0))]) C.1 C.2.1 dX12_crowd_3 rfl hl (by decide) rfl (fun ls hl => ?_)
  refine lv_iconst (v := 0) C.1 C.2.1 dX12_crowd_4 (by decide) ?_
  refine lv_istore_n (lv' := [(3, .int 0), (2, .int 0), (1, .int (-1)), (0, .ref (mw_a E 0))]) C.1 C.2.1 dX12_crowd_5 rfl hl (by decide) rfl (fun ls hl => ?_)
  have lpa : ∀ (N : Nat) (j : Nat) (x : Int32) (y : Int32) (ςa : mw_M) (H : Heap) (locs : List Loc), 10 + 1 ≤ j + N → (j ≤ 10) → ((x, y) = csF (-1, 0) nI (fun h => eatenF z (mSt σ) (mCu σ) n (nI h)) j) → mFs σ ςa → va_P (mw_D E) vwCl (mw_ws shM 13 E ςa) H → va_S (mw_A 13 E) s_.heap H locs → ∀ (ls : Array Slot), lv_has ls 5 [(0, .ref (mw_a E 0)), (1, .int x), (2, .int y), (3, .int (nI j))] → mWi p_ l e_ (rmF 45 999) s_ m_ [.ref (mw_a E 0)] below meth c_ E (fun r u => r = (csF (-1, 0) nI (fun h => eatenF z (mSt σ) (mCu σ) n (nI h)) 10).1 ∧ mFs σ u) H locs (F0 m_ 6 ls []) := by
    intro N
    induction N with
    | zero => intros; exfalso; omega
    | succ N iha =>
      intro j x y ςa H locs hNa hj exy fra hP hS ls hl
      refine lv_iload_n C.1 C.2.1 dX12_crowd_6 rfl (lv_at hl 3 rfl) ?_
      refine lv_bipush (v := 10) C.1 C.2.1 dX12_crowd_7 (by decide) ?_
      refine lv_icmp_ge (tgt := 36) C.1 C.2.1 dX12_crowd_9 (by decide) (fun c1 => ?_) (fun c1 => ?_)
      · have c1 : 10 ≤ j := (nI_leI (a := 10) (by decide) (by omega)).mp c1
        refine lv_iload_n C.1 C.2.1 dX12_crowd_36 rfl (lv_at hl 1 rfl) ?_
        exact mw_iret C hr hlk Z hP hS dX12_crowd_37 (⟨by rw [show csF (-1, 0) nI (fun h => eatenF z (mSt σ) (mCu σ) n (nI h)) 10 = (x, y) by rw [exy, show j = 10 by omega]], fra⟩)
      · have c1 : ¬ 10 ≤ j := (not_congr (nI_leI (a := 10) (by decide) (by omega))).mp c1
        refine lv_aload_n C.1 C.2.1 dX12_crowd_12 rfl (lv_at hl 0 rfl) ?_
        refine lv_iload_n C.1 C.2.1 dX12_crowd_13 rfl (lv_at hl 3 rfl) ?_
        refine mw_cVi (As := [.int (nI j)]) (rest := []) C Z hP hS (0) (cM_eatenIn2 l E ςa z n (fra.many hn) h8 (fra.ru hru) (nI j)) vb_X12_eatenIn tw_6_70 ⟨rfl, rfl⟩ ⟨Nat.le_of_ble_eq_true rfl, Nat.le_of_ble_eq_true rfl⟩ (by decide) rfl rfl rfl rfl hl.1 rfl (Nat.le_of_ble_eq_true rfl) dX12_crowd_14 ⟨Nat.zero_le _, Nat.zero_le _⟩ (fun r2 u3 H locs q4 hP hS => ?_)
        obtain ⟨e6, f5⟩ := q4
        rw [fra.st, show mCu (ςa) = mCu σ from funext fun p => fra.cu p] at e6
        subst e6
        refine lv_istore (lv' := [(4, .int (eatenF z (mSt σ) (mCu σ) n (nI j))), (0, .ref (mw_a E 0)), (1, .int x), (2, .int y), (3, .int (nI j))]) C.1 C.2.1 dX12_crowd_17 hl (by decide) rfl (fun ls hl => ?_)
        refine lv_iload C.1 C.2.1 dX12_crowd_19 (lv_at hl 0 rfl) ?_
        refine lv_iload_n C.1 C.2.1 dX12_crowd_21 rfl (lv_at hl 3 rfl) ?_
        refine lv_icmp_le (tgt := 30) C.1 C.2.1 dX12_crowd_22 (by decide) (fun c7 => ?_) (fun c7 => ?_)
        · refine lv_iinc (v := nI (j + 1)) (lv' := [(3, .int (nI (j + 1))), (4, .int (eatenF z (mSt σ) (mCu σ) n (nI j))), (0, .ref (mw_a E 0)), (1, .int x), (2, .int y)]) C.1 C.2.1 dX12_crowd_30 hl (k := 4) rfl (nI_1 _) (by decide) rfl (fun ls hl => ?_)
          refine lv_goto (tgt := 6) C.1 C.2.1 dX12_crowd_33 (by decide) ?_
          exact iha (j + 1) x y u3 _ _ (by omega) (by omega) (by show _ = stC _ _ _; rw [← exy]; unfold stC; rw [if_neg (Int32.not_lt.mpr c7)]) (fra.tr f5) hP hS ls (lv_sub hl [2, 3, 4, 0] rfl)
        · refine lv_iload_n C.1 C.2.1 dX12_crowd_25 rfl (lv_at hl 4 rfl) ?_
          refine lv_istore_n (lv' := [(1, .int (nI j)), (4, .int (eatenF z (mSt σ) (mCu σ) n (nI j))), (0, .ref (mw_a E 0)), (2, .int y), (3, .int (nI j))]) C.1 C.2.1 dX12_crowd_26 rfl hl (by decide) rfl (fun ls hl => ?_)
          refine lv_iload C.1 C.2.1 dX12_crowd_27 (lv_at hl 1 rfl) ?_
          refine lv_istore_n (lv' := [(2, .int (eatenF z (mSt σ) (mCu σ) n (nI j))), (1, .int (nI j)), (4, .int (eatenF z (mSt σ) (mCu σ) n (nI j))), (0, .ref (mw_a E 0)), (3, .int (nI j))]) C.1 C.2.1 dX12_crowd_29 rfl hl (by decide) rfl (fun ls hl => ?_)
          refine lv_iinc (v := nI (j + 1)) (lv' := [(3, .int (nI (j + 1))), (2, .int (eatenF z (mSt σ) (mCu σ) n (nI j))), (1, .int (nI j)), (4, .int (eatenF z (mSt σ) (mCu σ) n (nI j))), (0, .ref (mw_a E 0))]) C.1 C.2.1 dX12_crowd_30 hl (k := 4) rfl (nI_1 _) (by decide) rfl (fun ls hl => ?_)
          refine lv_goto (tgt := 6) C.1 C.2.1 dX12_crowd_33 (by decide) ?_
          exact iha (j + 1) (nI j) (eatenF z (mSt σ) (mCu σ) n (nI j)) u3 _ _ (by omega) (by omega) (by show _ = stC _ _ _; rw [← exy]; unfold stC; rw [if_pos (Int32.not_le.mp c7)]) (fra.tr f5) hP hS ls (lv_sub hl [4, 2, 1, 0] rfl)
  exact lpa (11) 0 (-1) 0 σ _ _ (by omega) (by omega) (rfl) (mFs.rf σ) hP hS ls (lv_sub hl [3, 2, 1, 0] rfl)
