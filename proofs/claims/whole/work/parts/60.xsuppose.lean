/-! THE CLASS: EATING THAT WAS TOLD -/
def xCb (σ u : mw_M) : Prop := (∀ k f, ¬ (k = 1 ∧ f = 0) → u.1 k f = σ.1 k f) ∧ ∀ k, k < 57 ∨ 63 ≤ k → u.2.1 k = σ.2.1 k
theorem xCb.rf (σ : mw_M) : xCb σ σ := ⟨fun _ _ _ => rfl, fun _ _ => rfl⟩
theorem xCb.fs {σ u v : mw_M} (h : xCb σ u) (f : xFs u v) : xCb σ v := ⟨fun k g hk => by rw [f.1]; exact h.1 k g hk, fun k hk => (f.2.2 k hk).trans (h.2 k hk)⟩
theorem xCb.si {σ u : mw_M} (h : xCb σ u) (v : Int32) : xCb σ (mw_si u 1 0 v) := ⟨fun k g hk => by
  by_cases e : k = 1
  · rw [mw_nf (fun y => hk ⟨e, y⟩)]; exact h.1 k g hk
  · rw [mw_np e]; exact h.1 k g hk, h.2⟩
theorem xCb.ru {σ u : mw_M} {z : zP} (h : xCb σ u) (hr : xRu σ 1 z) : xRu u 1 z := by
  obtain ⟨t, tc, h1, h2, h3, h4, h5⟩ := hr
  refine ⟨t, tc, (h.1 1 5 (by decide)).trans h1, (h.1 37 1 (by decide)).trans h2, h3, h4, ?_⟩
  have ht := h5.1
  unfold xTx xSeg at *
  rw [h.2 (51 + t) (by omega), h.2 (45 + t) (by omega)]
  exact h5
theorem foF_cg {e e2 c c2 : Nat → Int32} : ∀ (m k : Nat), (∀ i, k ≤ i → i < k + m → e i = e2 i ∧ c i = c2 i) → foF e c m k = foF e2 c2 m k
  | 0, _, _ => rfl
  | m + 1, k, h => by
    show (if e k = c k then foF e c m (k + 1) else nI k) = (if e2 k = c2 k then foF e2 c2 m (k + 1) else nI k)
    rw [(h k (Nat.le_refl k) (by omega)).1, (h k (Nat.le_refl k) (by omega)).2, foF_cg m (k + 1) (fun i h1 h2 => h i (by omega) (by omega))]
theorem cb_st {σ u : mw_M} (h : xCb σ u) (v : Int32) : ∀ j, j < 5 → (mw_si u 1 0 v).1 1 j = upd (σ.1 1) 0 v j := by
  intro j hj
  by_cases e : j = 0
  · subst e; rw [upd_at]; exact mw_sf
  · rw [pk_un e]; exact (mw_nf e).trans (h.1 1 j (fun y => e y.2))

set_option maxHeartbeats 4000000 in
set_option maxRecDepth 100000 in
theorem cX_first (l : Launch) (E : mw_E) (σ : mw_M) (z : zP) (hru : xRu σ 1 z) (s : Nat) (hs : s < 4) (m : Nat) (hm : σ.1 (67 + s) 1 = nI m) (hm4 : m ≤ 40) (q : Nat) (hq : q < 8) : mw_Ci shX 75 gX l yX11_firstOtherwise cX11_firstOtherwise 4 (some .int) (rmF 5 155) E [.ref (mw_a E 30), .ref (mw_a E (67 + s)), .ref (mw_a E (14 + q))] σ (fun r u => r = foF (fun k => eatsP z (upd (σ.1 1) 0 (nI (k + 1))) (σ.1 (14 + q))) (σ.2.1 (71 + s)) m 0 ∧ xCb σ u) := by
  refine mw_of (by decide) gX_ok (Nat.le_of_ble_eq_true rfl) ?_
  intro p_ e_ s_ m_ below meth c_ C hr hlk Z hP ls hl
  have C : CallFix p_ m_ c_ cX11_firstOtherwise 4 s_ _ lw_good RX11 := C
  have hl : lv_has ls 4 [(0, .ref (mw_a E 30)), (1, .ref (mw_a E (67 + s))), (2, .ref (mw_a E (14 + q)))] := hl
  have hS : va_S (mw_A 75 E) s_.heap s_.heap [] := va_S.rf
  refine lv_iconst (v := 0) C.1 C.2.1 dX11_firstOtherwise_0 (by decide) ?_
  refine lv_istore_n (lv' := [(3, .int 0), (0, .ref (mw_a E 30)), (1, .ref (mw_a E (67 + s))), (2, .ref (mw_a E (14 + q)))]) C.1 C.2.1 dX11_firstOtherwise_1 rfl hl (by decide) rfl (fun ls hl => ?_)
  have lpa : ∀ (N : Nat) (j : Nat) (ςa : mw_M) (H : Heap) (locs : List Loc), m + 1 ≤ j + N → (j ≤ m) → (foF (fun k => eatsP z (upd (σ.1 1) 0 (nI (k + 1))) (σ.1 (14 + q))) (σ.2.1 (71 + s)) m 0 = foF (fun k => eatsP z (upd (σ.1 1) 0 (nI (k + 1))) (σ.1 (14 + q))) (σ.2.1 (71 + s)) (m - j) j) → xCb σ ςa → va_P (mw_D E) vwCl (mw_ws shX 75 E ςa) H → va_S (mw_A 75 E) s_.heap H locs → ∀ (ls : Array Slot), lv_has ls 4 [(0, .ref (mw_a E 30)), (1, .ref (mw_a E (67 + s))), (2, .ref (mw_a E (14 + q))), (3, .int (nI j))] → xWi p_ l e_ (rmF 5 155) s_ m_ [.ref (mw_a E 30), .ref (mw_a E (67 + s)), .ref (mw_a E (14 + q))] below meth c_ E (fun r u => r = foF (fun k => eatsP z (upd (σ.1 1) 0 (nI (k + 1))) (σ.1 (14 + q))) (σ.2.1 (71 + s)) m 0 ∧ xCb σ u) H locs (F0 m_ 2 ls []) := by
    intro N
    induction N with
    | zero => intros; exfalso; omega
    | succ N iha =>
      intro j ςa H locs hNa hj ex fra hP hS ls hl
      refine lv_iload_n C.1 C.2.1 dX11_firstOtherwise_2 rfl (lv_at hl 3 rfl) ?_
      refine lv_aload_n C.1 C.2.1 dX11_firstOtherwise_3 rfl (lv_at hl 1 rfl) ?_
      refine mw_geti C Z hP (67 + s) 1 (by omega) (sx_sh (by omega)) rfl rfl (by decide) inX5 tw_2_11 dX11_firstOtherwise_4 ?_
      refine mw_top (y := nI m) ((fra.1 _ _ (by omega)).trans hm) ?_
      refine lv_icmp_ge (tgt := 55) C.1 C.2.1 dX11_firstOtherwise_7 (by decide) (fun c1 => ?_) (fun c1 => ?_)
      · have c1 := (nI_leI (by omega) (by omega)).mp c1
        refine lv_iconst (v := -1) C.1 C.2.1 dX11_firstOtherwise_55 (by decide) ?_
        exact mw_iret C hr hlk Z hP hS dX11_firstOtherwise_56 (⟨by rw [ex, show m - j = 0 by omega]; rfl, fra⟩)
      · have c1 : _ := (not_congr (nI_leI (by omega) (by omega))).mp c1
        refine lv_iload_n C.1 C.2.1 dX11_firstOtherwise_10 rfl (lv_at hl 3 rfl) ?_
        refine lv_bipush (v := 40) C.1 C.2.1 dX11_firstOtherwise_11 (by decide) ?_
        refine lv_icmp_ge (tgt := 55) C.1 C.2.1 dX11_firstOtherwise_13 (by decide) (fun c2 => ?_) (fun c2 => ?_)
        · exact absurd ((nI_leI (a := 40) (by decide) (by omega)).mp c2) (by omega)
        · refine lv_aload_n C.1 C.2.1 dX11_firstOtherwise_16 rfl (lv_at hl 0 rfl) ?_
          refine mw_getr C Z hP (30) 1 (1) (by decide) sx_30 rfl rfl (by decide) inX11 tw_3_0 dX11_firstOtherwise_17 ?_
          refine lv_iload_n C.1 C.2.1 dX11_firstOtherwise_20 rfl (lv_at hl 3 rfl) ?_
          refine lv_iconst (v := 1) C.1 C.2.1 dX11_firstOtherwise_21 (by decide) ?_
          refine lv_iadd C.1 C.2.1 dX11_firstOtherwise_22 ?_
          refine mw_top (y := nI (j + 1)) (nI_1 _) ?_
          refine mw_puti C Z hP hS (1) 0 (by decide) sx_1 rfl rfl (by decide) inX6 tyX6 tyX6_ok nmX6 rfl tw_1_76 rfl rfl dX11_firstOtherwise_23 (fun H locs hP hS => ?_)
          refine lv_aload_n C.1 C.2.1 dX11_firstOtherwise_26 rfl (lv_at hl 0 rfl) ?_
          refine mw_getr C Z hP (30) 7 (63) (by decide) sx_30 rfl rfl (by decide) inX11 tw_3_6 dX11_firstOtherwise_27 ?_
          refine lv_aload_n C.1 C.2.1 dX11_firstOtherwise_30 rfl (lv_at hl 0 rfl) ?_
          refine mw_getr C Z hP (30) 1 (1) (by decide) sx_30 rfl rfl (by decide) inX11 tw_3_0 dX11_firstOtherwise_31 ?_
          refine lv_aload_n C.1 C.2.1 dX11_firstOtherwise_34 rfl (lv_at hl 2 rfl) ?_
          refine mw_cVi (As := [.ref (mw_a E 1), .ref (mw_a E (14 + q))]) (rest := []) C Z hP hS (63) (cX_eatsOf l E (mw_si ςa 1 0 (nI (j + 1))) 1 (by decide) (14 + q) (by omega) z ((fra.si _).ru hru)) vb_X4_eatsOf tw_3_81 ⟨rfl, rfl⟩ ⟨Nat.le_of_ble_eq_true rfl, Nat.le_of_ble_eq_true rfl⟩ (by decide) sx_63 rfl rfl rfl hl.1 rfl (Nat.le_of_ble_eq_true rfl) dX11_firstOtherwise_35 ⟨Nat.zero_le _, Nat.zero_le _⟩ (fun r3 u4 H locs q5 hP hS => ?_)
          obtain ⟨e7, f6⟩ := q5
          rw [cg_eats (st2 := upd (σ.1 1) 0 (nI (j + 1))) (cu2 := σ.1 (14 + q)) (cb_st fra _) (fun f hf => (fra.si _).1 _ _ (by omega))] at e7
          subst e7
          refine lv_aload_n C.1 C.2.1 dX11_firstOtherwise_38 rfl (lv_at hl 1 rfl) ?_
          refine mw_getr C Z hP (67 + s) 2 (71 + s) (by omega) (sx_sh (by omega)) rfl rfl (by decide) inX5 tw_2_13 dX11_firstOtherwise_39 ?_
          refine lv_iload_n C.1 C.2.1 dX11_firstOtherwise_42 rfl (lv_at hl 3 rfl) ?_
          refine mw_iald C Z hP (71 + s) (j) (by omega) (sx_ce (by omega)) (Nat.lt_of_lt_of_le (by decide : 40 < 961) (Nat.le_of_ble_eq_true rfl)) rfl (by omega) dX11_firstOtherwise_43 ?_
          refine mw_top (y := σ.2.1 (71 + s) j) ((congrFun (((fra.si _).fs f6).2 _ (by omega)) _)) ?_
          refine lv_icmp_eq (tgt := 49) C.1 C.2.1 dX11_firstOtherwise_44 (by decide) (fun c8 => ?_) (fun c8 => ?_)
          · refine lv_iinc (v := nI (j + 1)) (lv' := [(3, .int (nI (j + 1))), (0, .ref (mw_a E 30)), (1, .ref (mw_a E (67 + s))), (2, .ref (mw_a E (14 + q)))]) C.1 C.2.1 dX11_firstOtherwise_49 hl (k := 3) rfl (nI_1 _) (by decide) rfl (fun ls hl => ?_)
            refine lv_goto (tgt := 2) C.1 C.2.1 dX11_firstOtherwise_52 (by decide) ?_
            exact iha (j + 1) u4 _ _ (by omega) (by omega) (by rw [ex, show m - j = (m - (j + 1)) + 1 by omega]; show (if _ then _ else _) = _; rw [if_pos c8]) ((fra.si _).fs f6) hP hS ls (lv_sub hl [1, 2, 3, 0] rfl)
          · refine lv_iload_n C.1 C.2.1 dX11_firstOtherwise_47 rfl (lv_at hl 3 rfl) ?_
            exact mw_iret C hr hlk Z hP hS dX11_firstOtherwise_48 (⟨by rw [ex, show m - j = (m - (j + 1)) + 1 by omega]; show _ = (if _ then _ else _); rw [if_neg c8], ((fra.si _).fs f6)⟩)
  exact lpa (m + 1) 0 σ _ _ (by omega) (by omega) (rfl) (xCb.rf σ) hP hS ls (lv_sub hl [1, 2, 3, 0] rfl)

set_option maxHeartbeats 4000000 in
set_option maxRecDepth 100000 in
theorem cX_suppose1 (l : Launch) (E : mw_E) (σ : mw_M) (q : Nat) (hq : q < 8) (v : Int32) : mw_Cv shX 75 gX l yX11_suppose cX11_suppose 4 none (rmF 1 64) E [.ref (mw_a E 30), .ref (mw_a E (14 + q)), .int 1, .int v] σ (fun u => u = mw_si σ (14 + q) 0 v) := by
  refine mw_of (by decide) gX_ok (Nat.le_of_ble_eq_true rfl) ?_
  intro p_ e_ s_ m_ below meth c_ C hr hlk Z hP ls hl
  have C : CallFix p_ m_ c_ cX11_suppose 4 s_ _ lw_good RX11 := C
  have hl : lv_has ls 4 [(0, .ref (mw_a E 30)), (1, .ref (mw_a E (14 + q))), (2, .int 1), (3, .int v)] := hl
  have hS : va_S (mw_A 75 E) s_.heap s_.heap [] := va_S.rf
  refine lv_iload_n C.1 C.2.1 dX11_suppose_0 rfl (lv_at hl 2 rfl) ?_
  refine lv_tableIn (off := 43) (tgt := 44) C.1 C.2.1 dX11_suppose_1 (by decide) (by decide) (by decide) (by decide) ?_
  refine lv_aload_n C.1 C.2.1 dX11_suppose_44 rfl (lv_at hl 1 rfl) ?_
  refine lv_iload_n C.1 C.2.1 dX11_suppose_45 rfl (lv_at hl 3 rfl) ?_
  refine mw_puti C Z hP hS (14 + q) 0 (by omega) (sx_cu (by omega) (by omega)) rfl rfl (by decide) inX1 tyX1 tyX1_ok nmX1 rfl tw_1_45 rfl rfl dX11_suppose_46 (fun H locs hP hS => ?_)
  refine lv_goto (tgt := 98) C.1 C.2.1 dX11_suppose_49 (by decide) ?_
  exact mw_vret C hr hlk Z hP hS dX11_suppose_98 (rfl)

set_option maxHeartbeats 4000000 in
set_option maxRecDepth 100000 in
theorem cX_suppose2 (l : Launch) (E : mw_E) (σ : mw_M) (q : Nat) (hq : q < 8) (v : Int32) : mw_Cv shX 75 gX l yX11_suppose cX11_suppose 4 none (rmF 1 64) E [.ref (mw_a E 30), .ref (mw_a E (14 + q)), .int 2, .int v] σ (fun u => u = mw_si σ (14 + q) 1 v) := by
  refine mw_of (by decide) gX_ok (Nat.le_of_ble_eq_true rfl) ?_
  intro p_ e_ s_ m_ below meth c_ C hr hlk Z hP ls hl
  have C : CallFix p_ m_ c_ cX11_suppose 4 s_ _ lw_good RX11 := C
  have hl : lv_has ls 4 [(0, .ref (mw_a E 30)), (1, .ref (mw_a E (14 + q))), (2, .int 2), (3, .int v)] := hl
  have hS : va_S (mw_A 75 E) s_.heap s_.heap [] := va_S.rf
  refine lv_iload_n C.1 C.2.1 dX11_suppose_0 rfl (lv_at hl 2 rfl) ?_
  refine lv_tableIn (off := 51) (tgt := 52) C.1 C.2.1 dX11_suppose_1 (by decide) (by decide) (by decide) (by decide) ?_
  refine lv_aload_n C.1 C.2.1 dX11_suppose_52 rfl (lv_at hl 1 rfl) ?_
  refine lv_iload_n C.1 C.2.1 dX11_suppose_53 rfl (lv_at hl 3 rfl) ?_
  refine mw_puti C Z hP hS (14 + q) 1 (by omega) (sx_cu (by omega) (by omega)) rfl rfl (by decide) inX1 tyX1 tyX1_ok nmX1 rfl tw_1_49 rfl rfl dX11_suppose_54 (fun H locs hP hS => ?_)
  refine lv_goto (tgt := 98) C.1 C.2.1 dX11_suppose_57 (by decide) ?_
  exact mw_vret C hr hlk Z hP hS dX11_suppose_98 (rfl)

set_option maxHeartbeats 4000000 in
set_option maxRecDepth 100000 in
theorem cX_suppose3 (l : Launch) (E : mw_E) (σ : mw_M) (q : Nat) (hq : q < 8) (v : Int32) : mw_Cv shX 75 gX l yX11_suppose cX11_suppose 4 none (rmF 1 64) E [.ref (mw_a E 30), .ref (mw_a E (14 + q)), .int 3, .int v] σ (fun u => u = mw_si σ (14 + q) 3 v) := by
  refine mw_of (by decide) gX_ok (Nat.le_of_ble_eq_true rfl) ?_
  intro p_ e_ s_ m_ below meth c_ C hr hlk Z hP ls hl
  have C : CallFix p_ m_ c_ cX11_suppose 4 s_ _ lw_good RX11 := C
  have hl : lv_has ls 4 [(0, .ref (mw_a E 30)), (1, .ref (mw_a E (14 + q))), (2, .int 3), (3, .int v)] := hl
  have hS : va_S (mw_A 75 E) s_.heap s_.heap [] := va_S.rf
  refine lv_iload_n C.1 C.2.1 dX11_suppose_0 rfl (lv_at hl 2 rfl) ?_
  refine lv_tableIn (off := 59) (tgt := 60) C.1 C.2.1 dX11_suppose_1 (by decide) (by decide) (by decide) (by decide) ?_
  refine lv_aload_n C.1 C.2.1 dX11_suppose_60 rfl (lv_at hl 1 rfl) ?_
  refine lv_iload_n C.1 C.2.1 dX11_suppose_61 rfl (lv_at hl 3 rfl) ?_
  refine mw_puti C Z hP hS (14 + q) 3 (by omega) (sx_cu (by omega) (by omega)) rfl rfl (by decide) inX1 tyX1 tyX1_ok nmX1 rfl tw_1_58 rfl rfl dX11_suppose_62 (fun H locs hP hS => ?_)
  refine lv_goto (tgt := 98) C.1 C.2.1 dX11_suppose_65 (by decide) ?_
  exact mw_vret C hr hlk Z hP hS dX11_suppose_98 (rfl)

set_option maxHeartbeats 4000000 in
set_option maxRecDepth 100000 in
theorem cX_suppose4 (l : Launch) (E : mw_E) (σ : mw_M) (q : Nat) (hq : q < 8) (v : Int32) : mw_Cv shX 75 gX l yX11_suppose cX11_suppose 4 none (rmF 1 64) E [.ref (mw_a E 30), .ref (mw_a E (14 + q)), .int 4, .int v] σ (fun u => u = mw_si σ (14 + q) 3 v) := by
  refine mw_of (by decide) gX_ok (Nat.le_of_ble_eq_true rfl) ?_
  intro p_ e_ s_ m_ below meth c_ C hr hlk Z hP ls hl
  have C : CallFix p_ m_ c_ cX11_suppose 4 s_ _ lw_good RX11 := C
  have hl : lv_has ls 4 [(0, .ref (mw_a E 30)), (1, .ref (mw_a E (14 + q))), (2, .int 4), (3, .int v)] := hl
  have hS : va_S (mw_A 75 E) s_.heap s_.heap [] := va_S.rf
  refine lv_iload_n C.1 C.2.1 dX11_suppose_0 rfl (lv_at hl 2 rfl) ?_
  refine lv_tableIn (off := 59) (tgt := 60) C.1 C.2.1 dX11_suppose_1 (by decide) (by decide) (by decide) (by decide) ?_
  refine lv_aload_n C.1 C.2.1 dX11_suppose_60 rfl (lv_at hl 1 rfl) ?_
  refine lv_iload_n C.1 C.2.1 dX11_suppose_61 rfl (lv_at hl 3 rfl) ?_
  refine mw_puti C Z hP hS (14 + q) 3 (by omega) (sx_cu (by omega) (by omega)) rfl rfl (by decide) inX1 tyX1 tyX1_ok nmX1 rfl tw_1_58 rfl rfl dX11_suppose_62 (fun H locs hP hS => ?_)
  refine lv_goto (tgt := 98) C.1 C.2.1 dX11_suppose_65 (by decide) ?_
  exact mw_vret C hr hlk Z hP hS dX11_suppose_98 (rfl)

set_option maxHeartbeats 4000000 in
set_option maxRecDepth 100000 in
theorem cX_suppose5 (l : Launch) (E : mw_E) (σ : mw_M) (q : Nat) (hq : q < 8) (v : Int32) : mw_Cv shX 75 gX l yX11_suppose cX11_suppose 4 none (rmF 1 64) E [.ref (mw_a E 30), .ref (mw_a E (14 + q)), .int 5, .int v] σ (fun u => u = mw_si σ (14 + q) 2 v) := by
  refine mw_of (by decide) gX_ok (Nat.le_of_ble_eq_true rfl) ?_
  intro p_ e_ s_ m_ below meth c_ C hr hlk Z hP ls hl
  have C : CallFix p_ m_ c_ cX11_suppose 4 s_ _ lw_good RX11 := C
  have hl : lv_has ls 4 [(0, .ref (mw_a E 30)), (1, .ref (mw_a E (14 + q))), (2, .int 5), (3, .int v)] := hl
  have hS : va_S (mw_A 75 E) s_.heap s_.heap [] := va_S.rf
  refine lv_iload_n C.1 C.2.1 dX11_suppose_0 rfl (lv_at hl 2 rfl) ?_
  refine lv_tableIn (off := 67) (tgt := 68) C.1 C.2.1 dX11_suppose_1 (by decide) (by decide) (by decide) (by decide) ?_
  refine lv_aload_n C.1 C.2.1 dX11_suppose_68 rfl (lv_at hl 1 rfl) ?_
  refine lv_iload_n C.1 C.2.1 dX11_suppose_69 rfl (lv_at hl 3 rfl) ?_
  refine mw_puti C Z hP hS (14 + q) 2 (by omega) (sx_cu (by omega) (by omega)) rfl rfl (by decide) inX1 tyX1 tyX1_ok nmX1 rfl tw_1_54 rfl rfl dX11_suppose_70 (fun H locs hP hS => ?_)
  refine lv_goto (tgt := 98) C.1 C.2.1 dX11_suppose_73 (by decide) ?_
  exact mw_vret C hr hlk Z hP hS dX11_suppose_98 (rfl)

set_option maxHeartbeats 4000000 in
set_option maxRecDepth 100000 in
theorem cX_suppose6 (l : Launch) (E : mw_E) (σ : mw_M) (q : Nat) (hq : q < 8) (v : Int32) : mw_Cv shX 75 gX l yX11_suppose cX11_suppose 4 none (rmF 1 64) E [.ref (mw_a E 30), .ref (mw_a E (14 + q)), .int 6, .int v] σ (fun u => u = mw_si σ 1 1 v) := by
  refine mw_of (by decide) gX_ok (Nat.le_of_ble_eq_true rfl) ?_
  intro p_ e_ s_ m_ below meth c_ C hr hlk Z hP ls hl
  have C : CallFix p_ m_ c_ cX11_suppose 4 s_ _ lw_good RX11 := C
  have hl : lv_has ls 4 [(0, .ref (mw_a E 30)), (1, .ref (mw_a E (14 + q))), (2, .int 6), (3, .int v)] := hl
  have hS : va_S (mw_A 75 E) s_.heap s_.heap [] := va_S.rf
  refine lv_iload_n C.1 C.2.1 dX11_suppose_0 rfl (lv_at hl 2 rfl) ?_
  refine lv_tableIn (off := 75) (tgt := 76) C.1 C.2.1 dX11_suppose_1 (by decide) (by decide) (by decide) (by decide) ?_
  refine lv_aload_n C.1 C.2.1 dX11_suppose_76 rfl (lv_at hl 0 rfl) ?_
  refine mw_getr C Z hP (30) 1 (1) (by decide) sx_30 rfl rfl (by decide) inX11 tw_3_0 dX11_suppose_77 ?_
  refine lv_iload_n C.1 C.2.1 dX11_suppose_80 rfl (lv_at hl 3 rfl) ?_
  refine mw_puti C Z hP hS (1) 1 (by decide) sx_1 rfl rfl (by decide) inX6 tyX6 tyX6_ok nmX6 rfl tw_1_80 rfl rfl dX11_suppose_81 (fun H locs hP hS => ?_)
  refine lv_goto (tgt := 98) C.1 C.2.1 dX11_suppose_84 (by decide) ?_
  exact mw_vret C hr hlk Z hP hS dX11_suppose_98 (rfl)

set_option maxHeartbeats 4000000 in
set_option maxRecDepth 100000 in
theorem cX_suppose7 (l : Launch) (E : mw_E) (σ : mw_M) (q : Nat) (hq : q < 8) (v : Int32) : mw_Cv shX 75 gX l yX11_suppose cX11_suppose 4 none (rmF 1 64) E [.ref (mw_a E 30), .ref (mw_a E (14 + q)), .int 7, .int v] σ (fun u => u = mw_si σ 1 5 v) := by
  refine mw_of (by decide) gX_ok (Nat.le_of_ble_eq_true rfl) ?_
  intro p_ e_ s_ m_ below meth c_ C hr hlk Z hP ls hl
  have C : CallFix p_ m_ c_ cX11_suppose 4 s_ _ lw_good RX11 := C
  have hl : lv_has ls 4 [(0, .ref (mw_a E 30)), (1, .ref (mw_a E (14 + q))), (2, .int 7), (3, .int v)] := hl
  have hS : va_S (mw_A 75 E) s_.heap s_.heap [] := va_S.rf
  refine lv_iload_n C.1 C.2.1 dX11_suppose_0 rfl (lv_at hl 2 rfl) ?_
  refine lv_tableIn (off := 86) (tgt := 87) C.1 C.2.1 dX11_suppose_1 (by decide) (by decide) (by decide) (by decide) ?_
  refine lv_aload_n C.1 C.2.1 dX11_suppose_87 rfl (lv_at hl 0 rfl) ?_
  refine mw_getr C Z hP (30) 1 (1) (by decide) sx_30 rfl rfl (by decide) inX11 tw_3_0 dX11_suppose_88 ?_
  refine lv_iload_n C.1 C.2.1 dX11_suppose_91 rfl (lv_at hl 3 rfl) ?_
  refine mw_puti C Z hP hS (1) 5 (by decide) sx_1 rfl rfl (by decide) inX6 tyX6 tyX6_ok nmX6 rfl tw_1_91 rfl rfl dX11_suppose_92 (fun H locs hP hS => ?_)
  refine lv_goto (tgt := 98) C.1 C.2.1 dX11_suppose_95 (by decide) ?_
  exact mw_vret C hr hlk Z hP hS dX11_suppose_98 (rfl)

theorem orS_snoc (f : Nat → Int32) : ∀ m a, orS f (m + 1) a = orS f m a ||| f (a + m)
  | 0, a => by show (0 : Int32) ||| f a = (0 : Int32) ||| f (a + 0); rfl
  | m + 1, a => by
    show orS f (m + 1) (a + 1) ||| f a = (orS f m (a + 1) ||| f a) ||| f (a + (m + 1))
    rw [orS_snoc f m (a + 1), show a + 1 + m = a + (m + 1) by omega, Int32.or_assoc, Int32.or_assoc, Int32.or_comm (f (a + (m + 1)))]
theorem cnS_snoc (b : Nat → Bool) : ∀ m a, cnS b (m + 1) a = cnS b m a + (if b (a + m) = true then 1 else 0)
  | 0, a => rfl
  | m + 1, a => by
    show cnS b (m + 1) (a + 1) + _ = (cnS b m (a + 1) + _) + _
    rw [cnS_snoc b m (a + 1), show a + 1 + m = a + (m + 1) by omega]
    omega
theorem leS_snoc (b : Nat → Bool) : ∀ m a, leS b (m + 1) a = if cnS b m a = 0 then (if b (a + m) = true then nI (a + m) else -1) else leS b m a
  | 0, a => rfl
  | m + 1, a => by
    show (if b a = true then nI a else leS b (m + 1) (a + 1)) = if cnS b m (a + 1) + (if b a = true then 1 else 0) = 0 then _ else (if b a = true then nI a else leS b m (a + 1))
    by_cases h : b a = true
    · rw [if_pos h, if_pos h, if_neg (by omega), if_pos h]
    · rw [if_neg h, if_neg h, if_neg h, leS_snoc b m (a + 1), show a + 1 + m = a + (m + 1) by omega]; rfl
theorem leS_0 (b : Nat → Bool) : ∀ m a, cnS b m a = 0 → leS b m a = -1
  | 0, a, _ => rfl
  | m + 1, a, h => by
    have h : cnS b m (a + 1) + (if b a = true then 1 else 0) = 0 := h
    show (if b a = true then nI a else leS b m (a + 1)) = -1
    by_cases hb : b a = true
    · rw [if_pos hb] at h; omega
    · rw [if_neg hb]; exact leS_0 b m (a + 1) (by omega)
theorem orS_cg {f g : Nat → Int32} : ∀ m a, (∀ i, a ≤ i → i < a + m → f i = g i) → orS f m a = orS g m a
  | 0, _, _ => rfl
  | m + 1, a, h => by
    show orS f m (a + 1) ||| f a = orS g m (a + 1) ||| g a
    rw [orS_cg m (a + 1) (fun i h1 h2 => h i (by omega) (by omega)), h a (Nat.le_refl a) (by omega)]
def bitG (b : Nat → Bool) (v : Nat) : Int32 := if b v = true then 1 <<< (nI v &&& 31) else 0
theorem orS_bit (b : Nat → Bool) {m a : Nat} (h : a + m ≤ 10) : orS (bitG b) m a = orS (bitF b) m a := orS_cg m a (fun i h1 h2 => by unfold bitG bitF; by_cases hb : b i = true; (rw [if_pos hb, if_pos hb, if_pos (by omega)]); (rw [if_neg hb, if_neg hb]))
/-- the thought stall while a customer is supposed to be otherwise -/
def xSu (σ : mw_M) (D F : Nat → Prop) (q : Nat) (u : mw_M) : Prop := xQs σ u ∧ (∀ j, j < 6 → ¬ D j → u.1 1 j = σ.1 0 j) ∧ ∀ f, f < 5 → ¬ F f → u.1 (14 + q) f = σ.1 (6 + q) f
theorem xBec.su {σ u : mw_M} {n q : Nat} (D F : Nat → Prop) (hq : q < n) (h : xBec σ 1 0 n u) : xSu σ D F q u := by
  obtain ⟨h1, h2, h3, h4⟩ := h
  exact ⟨⟨fun k hk => h3 k hk.1 (fun y => hk.2.1 y), fun k _ => by rw [h4]⟩, fun j hj _ => h1 j (by omega), fun f hf _ => h2 q f hq hf⟩
theorem xSu.cb {σ u v : mw_M} {D F : Nat → Prop} {q : Nat} (h : xSu σ D F q u) (hd : D 0) (f : xCb u v) : xSu σ D F q v := by
  obtain ⟨h1, h2, h3⟩ := h
  refine ⟨⟨fun k hk => ?_, fun k hk => (f.2 k hk).trans (h1.2 k hk)⟩, fun j hj hd2 => ?_, fun g hg hf => (f.1 _ g (by omega)).trans (h3 g hg hf)⟩
  · rw [← h1.1 k hk]; funext g; exact f.1 k g (fun y => hk.1 y.1)
  · exact (f.1 1 j (fun y => hd2 (by rw [y.2]; exact hd))).trans (h2 j hj hd2)
theorem xSu.sc {σ u : mw_M} {D F : Nat → Prop} {q : Nat} (h : xSu σ D F q u) (hq : q < 8) {f : Nat} (hf : F f) (v : Int32) : xSu σ D F q (mw_si u (14 + q) f v) := by
  obtain ⟨h1, h2, h3⟩ := h
  exact ⟨⟨fun k hk => (mw_npF (by omega)).trans (h1.1 k hk), h1.2⟩, fun j hj hd => (mw_np (by omega)).trans (h2 j hj hd), fun g hg hf2 => (mw_nf (fun e : g = f => hf2 (by rw [e]; exact hf))).trans (h3 g hg hf2)⟩
theorem xSu.ss {σ u : mw_M} {D F : Nat → Prop} {q : Nat} (h : xSu σ D F q u) (hq : q < 8) {f : Nat} (hf : D f) (v : Int32) : xSu σ D F q (mw_si u 1 f v) := by
  obtain ⟨h1, h2, h3⟩ := h
  exact ⟨⟨fun k hk => (mw_npF hk.1).trans (h1.1 k hk), h1.2⟩, fun j hj hd => (mw_nf (fun e : j = f => hd (by rw [e]; exact hf))).trans (h2 j hj hd), fun g hg hf2 => (mw_np (by omega)).trans (h3 g hg hf2)⟩
theorem xSu.ru {σ u : mw_M} {D F : Nat → Prop} {q : Nat} {z : zP} (h : xSu σ D F q u) (hd : ¬ D 5) (hr : xRu σ 0 z) : xRu u 1 z := by
  obtain ⟨t, tc, h1, h2, h3, h4, h5⟩ := hr
  exact ⟨t, tc, (h.2.1 5 (by decide) hd).trans h1, by rw [h.1.1 37 (by decide)]; exact h2, h3, h4, h.1.tx h5⟩
/-- what is found when it is supposed: the cells cl, m of them -/
theorem su_ok {z : zP} {st cu st2 cu2 cl cl2 : Nat → Int32} {m : Nat} (hs : ∀ j, j < 5 → j ≠ 0 → st j = st2 j) (hc : ∀ f, f < 4 → cu f = cu2 f) (hl : ∀ i, i < m → cl i = cl2 i) : foF (fun k => eatsP z (upd st 0 (nI (k + 1))) cu) cl m 0 = foF (fun k => eatsP z (upd st2 0 (nI (k + 1))) cu2) cl2 m 0 := by
  refine foF_cg m 0 (fun i _ hi => ⟨cg_eats (fun j hj => ?_) hc, hl i (by omega)⟩)
  by_cases e : j = 0
  · subst e; rw [upd_at, upd_at]
  · rw [pk_un e, pk_un e]; exact hs j hj e
theorem okF_t {z : zP} {st cu cl : Nat → Int32} {m : Nat} : okF z st cu cl m = true ↔ foF (fun k => eatsP z (upd st 0 (nI (k + 1))) cu) cl m 0 = -1 := by
  unfold okF
  exact decide_eq_true_iff
