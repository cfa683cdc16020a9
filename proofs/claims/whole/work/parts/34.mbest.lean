/-! THE REFERENCE: WHAT WOULD BE BEST (the board is changed, and laid back) -/
/-- the board's row is s; nothing else but scratch has changed -/
def mAs (σ : mw_M) (s : Nat → Int32) (u : mw_M) : Prop := u.2.1 = va_up σ.2.1 4 s ∧ ∀ f, f < 11 ∨ 25 < f → u.1 0 f = σ.1 0 f
theorem mFs.as {σ u : mw_M} (h : mFs σ u) : mAs σ (mSt σ) u := by
  refine ⟨?_, h.2⟩
  rw [h.1]
  funext a
  by_cases ha : a = 4
  · subst ha; rw [va_up_self]; rfl
  · rw [va_up_ne _ _ ha]
theorem mAs.tr {σ u v : mw_M} {s : Nat → Int32} (h : mAs σ s u) (f : mFs u v) : mAs σ s v := ⟨f.1.trans h.1, fun k hk => (f.2 k hk).trans (h.2 k hk)⟩
theorem mAs.sa {σ u : mw_M} {s : Nat → Int32} (h : mAs σ s u) (k : Nat) (v : Int32) : mAs σ (upd s k v) (mw_sa u 4 k v) := by
  refine ⟨?_, h.2⟩
  show va_up u.2.1 4 (upd (u.2.1 4) k v) = _
  rw [h.1, va_up_self, bx_uu]
theorem mAs.st {σ u : mw_M} {s : Nat → Int32} (h : mAs σ s u) : mSt u = s := by
  show u.2.1 4 = s
  rw [h.1, va_up_self]
theorem mAs.cu {σ u : mw_M} {s : Nat → Int32} (h : mAs σ s u) (p : Nat) : mCu u p = mCu σ p := by
  unfold mCu
  rw [h.1]
  rfl
theorem mAs.many {σ u : mw_M} {s : Nat → Int32} {n : Nat} (h : mAs σ s u) (hn : σ.1 0 10 = nI n) : u.1 0 10 = nI n := (h.2 10 (by omega)).trans hn
theorem mAs.ru {σ u : mw_M} {s : Nat → Int32} {z : zP} (h : mAs σ s u) (hr : mRu σ z) : mRu u z := by
  obtain ⟨t, n, bs, h1, h2, h3⟩ := hr
  refine ⟨t, n, bs, (h.2 4 (by omega)).trans h1, ?_, h3⟩
  unfold mTt
  rw [h.1]
  exact h2
theorem mAs.fs {σ u : mw_M} {s : Nat → Int32} (h : mAs σ s u) (e : s = mSt σ) : mFs σ u := by
  refine ⟨?_, h.2⟩
  rw [h.1, e]
  funext a
  by_cases ha : a = 4
  · subst ha; rw [va_up_self]; rfl
  · rw [va_up_ne _ _ ha]
theorem upd_upd (f : Nat → Int32) (k : Nat) (a b : Int32) : upd (upd f k a) k b = upd f k b := by
  funext j
  unfold upd
  split <;> rfl
theorem upd_self (f : Nat → Int32) (k : Nat) : upd f k (f k) = f := by
  funext j
  unfold upd
  split
  · next h => rw [h]
  · rfl
def bestP (z : zP) (st : Nat → Int32) (cu : Nat → Nat → Int32) (n k lo cnt : Nat) : Int32 × Int32 := bsF (fun i => nI (lo + i)) (fun i => allGain z (upd st k (nI (lo + i))) cu n) cnt
def bestF (z : zP) (st : Nat → Int32) (cu : Nat → Nat → Int32) (n k lo cnt : Nat) (w : Int32) : Int32 := if ¬ (0 ≤ w.toInt ∧ w.toInt ≤ 1) then -100000000 else if w = 0 then (bestP z st cu n k lo cnt).1 else (bestP z st cu n k lo cnt).2

set_option maxHeartbeats 4000000 in
set_option maxRecDepth 100000 in
theorem cM_bestOf0 (l : Launch) (E : mw_E) (σ : mw_M) (z : zP) (n : Nat) (hn : σ.1 0 10 = nI n) (h8 : n ≤ 8) (hru : mRu σ z) (w : Int32) : mw_Ci shM 13 gM l yX12_bestOf cX12_bestOf 8 (some .int) (rmF 47 1041) E [.ref (mw_a E 0), .int w, .int 0] σ (fun r u => r = (if w = 0 then (bestP z (mSt σ) (mCu σ) n 0 1 40).1 else (bestP z (mSt σ) (mCu σ) n 0 1 40).2) ∧ mFs σ u) := by
  refine mw_of (by decide) gM_ok (Nat.le_of_ble_eq_true rfl) ?_
  intro p_ e_ s_ m_ below meth c_ C hr hlk Z hP ls hl
  have C : CallFix p_ m_ c_ cX12_bestOf 8 s_ _ lw_good RX12 := C
  have hl : lv_has ls 8 [(0, .ref (mw_a E 0)), (1, .int w), (2, .int 0)] := hl
  have hS : va_S (mw_A 13 E) s_.heap s_.heap [] := va_S.rf
  refine lv_aload_n C.1 C.2.1 dX12_bestOf_0 rfl (lv_at hl 0 rfl) ?_
  refine mw_getr C Z hP (0) 7 (4) (by decide) rfl rfl rfl (by decide) inX12 tw_4_171 dX12_bestOf_1 ?_
  refine lv_iload_n C.1 C.2.1 dX12_bestOf_4 rfl (lv_at hl 2 rfl) ?_
  refine mw_iald C Z hP (4) (0) (by decide) rfl (Nat.lt_of_lt_of_le (by decide : 5 < 961) (Nat.le_of_ble_eq_true rfl)) rfl (by decide) dX12_bestOf_5 ?_
  refine mw_top (y := mSt σ 0) rfl ?_
  refine lv_istore_n (lv' := [(3, .int (mSt σ 0)), (0, .ref (mw_a E 0)), (1, .int w), (2, .int 0)]) C.1 C.2.1 dX12_bestOf_6 rfl hl (by decide) rfl (fun ls hl => ?_)
  refine lv_iconst (v := -1) C.1 C.2.1 dX12_bestOf_7 (by decide) ?_
  refine lv_istore (lv' := [(4, .int (-1)), (3, .int (mSt σ 0)), (0, .ref (mw_a E 0)), (1, .int w), (2, .int 0)]) C.1 C.2.1 dX12_bestOf_8 hl (by decide) rfl (fun ls hl => ?_)
  refine lv_iconst (v := 0) C.1 C.2.1 dX12_bestOf_10 (by decide) ?_
  refine lv_istore (lv' := [(5, .int 0), (4, .int (-1)), (3, .int (mSt σ 0)), (0, .ref (mw_a E 0)), (1, .int w), (2, .int 0)]) C.1 C.2.1 dX12_bestOf_11 hl (by decide) rfl (fun ls hl => ?_)
  refine lv_iload_n C.1 C.2.1 dX12_bestOf_13 rfl (lv_at hl 5 rfl) ?_
  refine mw_cSi (As := [.int 0]) (rest := []) C Z hP hS (cM_leastOf l E σ 0) sb_X12_leastOf tw_5_40 ⟨rfl, rfl⟩ ⟨Nat.le_of_ble_eq_true rfl, Nat.le_of_ble_eq_true rfl⟩ rfl hl.1 rfl (Nat.le_of_ble_eq_true rfl) dX12_bestOf_14 ⟨Nat.zero_le _, Nat.zero_le _⟩ (fun r1 u2 H locs q3 hP hS => ?_)
  obtain ⟨rfl, q3u⟩ := q3
  rw [q3u] at hP; clear q3u
  refine mw_top (y := nI (1 + 0)) (by decide) ?_
  refine lv_istore (lv' := [(6, .int (nI (1 + 0))), (5, .int 0), (4, .int (-1)), (3, .int (mSt σ 0)), (0, .ref (mw_a E 0)), (1, .int w), (2, .int 0)]) C.1 C.2.1 dX12_bestOf_17 hl (by decide) rfl (fun ls hl => ?_)
  have lpa : ∀ (N : Nat) (j : Nat) (x : Int32) (y : Int32) (s' : Nat → Int32) (ςa : mw_M) (H : Heap) (locs : List Loc), 41 ≤ j + N → (j ≤ 40) → ((x, y) = bestP z (mSt σ) (mCu σ) n 0 1 j) → (∀ v, upd s' 0 v = upd (mSt σ) 0 v) → mAs σ s' ςa → va_P (mw_D E) vwCl (mw_ws shM 13 E ςa) H → va_S (mw_A 13 E) s_.heap H locs → ∀ (ls : Array Slot), lv_has ls 8 [(0, .ref (mw_a E 0)), (1, .int w), (2, .int 0), (3, .int (mSt σ 0)), (4, .int x), (5, .int y), (6, .int (nI (1 + j)))] → mWi p_ l e_ (rmF 47 1041) s_ m_ [.ref (mw_a E 0), .int w, .int 0] below meth c_ E (fun r u => r = (if w = 0 then (bestP z (mSt σ) (mCu σ) n 0 1 40).1 else (bestP z (mSt σ) (mCu σ) n 0 1 40).2) ∧ mFs σ u) H locs (F0 m_ 19 ls []) := by
    intro N
    induction N with
    | zero => intros; exfalso; omega
    | succ N iha =>
      intro j x y s' ςa H locs hNa hj exy hs fra hP hS ls hl
      refine lv_iload C.1 C.2.1 dX12_bestOf_19 (lv_at hl 6 rfl) ?_
      refine lv_iload_n C.1 C.2.1 dX12_bestOf_21 rfl (lv_at hl 2 rfl) ?_
      refine mw_cSi (As := [.int 0]) (rest := [.int (nI (1 + j))]) C Z hP hS (cM_mostOf l E ςa 0) sb_X12_mostOf tw_5_43 ⟨rfl, rfl⟩ ⟨Nat.le_of_ble_eq_true rfl, Nat.le_of_ble_eq_true rfl⟩ rfl hl.1 rfl (Nat.le_of_ble_eq_true rfl) dX12_bestOf_22 ⟨Nat.zero_le _, Nat.zero_le _⟩ (fun r4 u5 H locs q6 hP hS => ?_)
      obtain ⟨rfl, q6u⟩ := q6
      rw [q6u] at hP; clear q6u
      refine mw_top (y := nI 40) (by decide) ?_
      refine lv_icmp_gt (tgt := 69) C.1 C.2.1 dX12_bestOf_25 (by decide) (fun c7 => ?_) (fun c7 => ?_)
      · have c7 := (nI_ltI (by omega) (by omega)).mp c7
        refine lv_aload_n C.1 C.2.1 dX12_bestOf_69 rfl (lv_at hl 0 rfl) ?_
        refine mw_getr C Z hP (0) 7 (4) (by decide) rfl rfl rfl (by decide) inX12 tw_4_171 dX12_bestOf_70 ?_
        refine lv_iload_n C.1 C.2.1 dX12_bestOf_73 rfl (lv_at hl 2 rfl) ?_
        refine lv_iload_n C.1 C.2.1 dX12_bestOf_74 rfl (lv_at hl 3 rfl) ?_
        refine mw_iast C Z hP hS (4) (0) (by decide) rfl (Nat.lt_of_lt_of_le (by decide : 5 < 961) (Nat.le_of_ble_eq_true rfl)) rfl (by decide) dX12_bestOf_75 (fun H locs hP hS => ?_)
        refine lv_iload_n C.1 C.2.1 dX12_bestOf_76 rfl (lv_at hl 1 rfl) ?_
        refine lv_if_ne (tgt := 85) C.1 C.2.1 dX12_bestOf_77 (by decide) (fun c8 => ?_) (fun c8 => ?_)
        · refine lv_iload C.1 C.2.1 dX12_bestOf_85 (lv_at hl 5 rfl) ?_
          have ej : j = 40 := by omega
          rw [ej] at exy
          exact mw_iret C hr hlk Z hP hS dX12_bestOf_87 (⟨by show _ = if w = 0 then (bestP z (mSt σ) (mCu σ) n 0 1 40).1 else (bestP z (mSt σ) (mCu σ) n 0 1 40).2; rw [← exy, if_neg c8], ((fra.sa 0 (mSt σ 0))).fs (by rw [hs]; exact upd_self _ _)⟩)
        · refine lv_iload C.1 C.2.1 dX12_bestOf_80 (lv_at hl 4 rfl) ?_
          refine lv_goto (tgt := 87) C.1 C.2.1 dX12_bestOf_82 (by decide) ?_
          have ej : j = 40 := by omega
          rw [ej] at exy
          exact mw_iret C hr hlk Z hP hS dX12_bestOf_87 (⟨by show _ = if w = 0 then (bestP z (mSt σ) (mCu σ) n 0 1 40).1 else (bestP z (mSt σ) (mCu σ) n 0 1 40).2; rw [← exy, if_pos c8], ((fra.sa 0 (mSt σ 0))).fs (by rw [hs]; exact upd_self _ _)⟩)
      · have c7 : _ := (not_congr (nI_ltI (by omega) (by omega))).mp c7
        refine lv_aload_n C.1 C.2.1 dX12_bestOf_28 rfl (lv_at hl 0 rfl) ?_
        refine mw_getr C Z hP (0) 7 (4) (by decide) rfl rfl rfl (by decide) inX12 tw_4_171 dX12_bestOf_29 ?_
        refine lv_iload_n C.1 C.2.1 dX12_bestOf_32 rfl (lv_at hl 2 rfl) ?_
        refine lv_iload C.1 C.2.1 dX12_bestOf_33 (lv_at hl 6 rfl) ?_
        refine mw_iast C Z hP hS (4) (0) (by decide) rfl (Nat.lt_of_lt_of_le (by decide : 5 < 961) (Nat.le_of_ble_eq_true rfl)) rfl (by decide) dX12_bestOf_35 (fun H locs hP hS => ?_)
        refine lv_aload_n C.1 C.2.1 dX12_bestOf_36 rfl (lv_at hl 0 rfl) ?_
        refine mw_cVi (As := []) (rest := []) C Z hP hS (0) (cM_gainAll l E (mw_sa ςa 4 0 (nI (1 + j))) z n ((fra.sa 0 (nI (1 + j))).many hn) h8 ((fra.sa 0 (nI (1 + j))).ru hru)) vb_X12_gainAll tw_6_62 ⟨rfl, rfl⟩ ⟨Nat.le_of_ble_eq_true rfl, Nat.le_of_ble_eq_true rfl⟩ (by decide) rfl rfl rfl rfl hl.1 rfl (Nat.le_of_ble_eq_true rfl) dX12_bestOf_37 ⟨Nat.zero_le _, Nat.zero_le _⟩ (fun r9 u10 H locs q11 hP hS => ?_)
        obtain ⟨e13, f12⟩ := q11
        rw [show (fun p => gainP z (mSt (mw_sa ςa 4 0 (nI (1 + j)))) (mCu (mw_sa ςa 4 0 (nI (1 + j))) p)) = fun p => gainP z (upd (mSt σ) 0 (nI (1 + j))) (mCu σ p) from funext fun p => by rw [(fra.sa 0 (nI (1 + j))).st, (fra.sa 0 (nI (1 + j))).cu, hs]] at e13
        subst e13
        refine lv_istore (lv' := [(7, .int (sumP (fun p => gainP z (upd (mSt σ) 0 (nI (1 + j))) (mCu σ p)) n)), (0, .ref (mw_a E 0)), (1, .int w), (2, .int 0), (3, .int (mSt σ 0)), (4, .int x), (5, .int y), (6, .int (nI (1 + j)))]) C.1 C.2.1 dX12_bestOf_40 hl (by decide) rfl (fun ls hl => ?_)
        refine lv_iload C.1 C.2.1 dX12_bestOf_42 (lv_at hl 5 rfl) ?_
        refine lv_iconst (v := -1) C.1 C.2.1 dX12_bestOf_44 (by decide) ?_
        refine lv_icmp_eq (tgt := 55) C.1 C.2.1 dX12_bestOf_45 (by decide) (fun c14 => ?_) (fun c14 => ?_)
        · refine lv_iload C.1 C.2.1 dX12_bestOf_55 (lv_at hl 7 rfl) ?_
          refine lv_istore (lv' := [(4, .int (nI (1 + j))), (7, .int (sumP (fun p => gainP z (upd (mSt σ) 0 (nI (1 + j))) (mCu σ p)) n)), (0, .ref (mw_a E 0)), (1, .int w), (2, .int 0), (3, .int (mSt σ 0)), (5, .int y), (6, .int (nI (1 + j)))]) C.1 C.2.1 dX12_bestOf_57 hl (by decide) rfl (fun ls hl => ?_)
          refine lv_iload C.1 C.2.1 dX12_bestOf_59 (lv_at hl 1 rfl) ?_
          refine lv_istore (lv' := [(5, .int (sumP (fun p => gainP z (upd (mSt σ) 0 (nI (1 + j))) (mCu σ p)) n)), (4, .int (nI (1 + j))), (7, .int (sumP (fun p => gainP z (upd (mSt σ) 0 (nI (1 + j))) (mCu σ p)) n)), (0, .ref (mw_a E 0)), (1, .int w), (2, .int 0), (3, .int (mSt σ 0)), (6, .int (nI (1 + j)))]) C.1 C.2.1 dX12_bestOf_61 hl (by decide) rfl (fun ls hl => ?_)
          refine lv_iinc (v := nI (1 + j + 1)) (lv' := [(6, .int (nI (1 + j + 1))), (5, .int (sumP (fun p => gainP z (upd (mSt σ) 0 (nI (1 + j))) (mCu σ p)) n)), (4, .int (nI (1 + j))), (7, .int (sumP (fun p => gainP z (upd (mSt σ) 0 (nI (1 + j))) (mCu σ p)) n)), (0, .ref (mw_a E 0)), (1, .int w), (2, .int 0), (3, .int (mSt σ 0))]) C.1 C.2.1 dX12_bestOf_63 hl (k := 7) rfl (nI_1 _) (by decide) rfl (fun ls hl => ?_)
          refine lv_goto (tgt := 19) C.1 C.2.1 dX12_bestOf_66 (by decide) ?_
          exact iha (j + 1) (nI (1 + j)) (sumP (fun p => gainP z (upd (mSt σ) 0 (nI (1 + j))) (mCu σ p)) n) (upd (s') 0 (nI (1 + j))) u10 _ _ (by omega) (by omega) (by show _ = stB (bestP z (mSt σ) (mCu σ) n 0 1 j) _ _; rw [← exy]; unfold stB; exact (if_pos (Or.inl c14)).symm) (fun v => by rw [upd_upd]; exact hs v) ((fra.sa 0 (nI (1 + j))).tr f12) hP hS ls (lv_sub hl [4, 5, 6, 7, 2, 1, 0] rfl)
        · refine lv_iload C.1 C.2.1 dX12_bestOf_48 (lv_at hl 0 rfl) ?_
          refine lv_iload C.1 C.2.1 dX12_bestOf_50 (lv_at hl 6 rfl) ?_
          refine lv_icmp_le (tgt := 63) C.1 C.2.1 dX12_bestOf_52 (by decide) (fun c15 => ?_) (fun c15 => ?_)
          · refine lv_iinc (v := nI (1 + j + 1)) (lv' := [(6, .int (nI (1 + j + 1))), (7, .int (sumP (fun p => gainP z (upd (mSt σ) 0 (nI (1 + j))) (mCu σ p)) n)), (0, .ref (mw_a E 0)), (1, .int w), (2, .int 0), (3, .int (mSt σ 0)), (4, .int x), (5, .int y)]) C.1 C.2.1 dX12_bestOf_63 hl (k := 7) rfl (nI_1 _) (by decide) rfl (fun ls hl => ?_)
            refine lv_goto (tgt := 19) C.1 C.2.1 dX12_bestOf_66 (by decide) ?_
            exact iha (j + 1) x y (upd (s') 0 (nI (1 + j))) u10 _ _ (by omega) (by omega) (by show _ = stB (bestP z (mSt σ) (mCu σ) n 0 1 j) _ _; rw [← exy]; unfold stB; exact (if_neg (fun q => q.elim c14 (Int32.not_lt.mpr c15))).symm) (fun v => by rw [upd_upd]; exact hs v) ((fra.sa 0 (nI (1 + j))).tr f12) hP hS ls (lv_sub hl [2, 3, 4, 5, 6, 7, 0] rfl)
          · refine lv_iload C.1 C.2.1 dX12_bestOf_55 (lv_at hl 7 rfl) ?_
            refine lv_istore (lv' := [(4, .int (nI (1 + j))), (7, .int (sumP (fun p => gainP z (upd (mSt σ) 0 (nI (1 + j))) (mCu σ p)) n)), (0, .ref (mw_a E 0)), (1, .int w), (2, .int 0), (3, .int (mSt σ 0)), (5, .int y), (6, .int (nI (1 + j)))]) C.1 C.2.1 dX12_bestOf_57 hl (by decide) rfl (fun ls hl => ?_)
            refine lv_iload C.1 C.2.1 dX12_bestOf_59 (lv_at hl 1 rfl) ?_
            refine lv_istore (lv' := [(5, .int (sumP (fun p => gainP z (upd (mSt σ) 0 (nI (1 + j))) (mCu σ p)) n)), (4, .int (nI (1 + j))), (7, .int (sumP (fun p => gainP z (upd (mSt σ) 0 (nI (1 + j))) (mCu σ p)) n)), (0, .ref (mw_a E 0)), (1, .int w), (2, .int 0), (3, .int (mSt σ 0)), (6, .int (nI (1 + j)))]) C.1 C.2.1 dX12_bestOf_61 hl (by decide) rfl (fun ls hl => ?_)
            refine lv_iinc (v := nI (1 + j + 1)) (lv' := [(6, .int (nI (1 + j + 1))), (5, .int (sumP (fun p => gainP z (upd (mSt σ) 0 (nI (1 + j))) (mCu σ p)) n)), (4, .int (nI (1 + j))), (7, .int (sumP (fun p => gainP z (upd (mSt σ) 0 (nI (1 + j))) (mCu σ p)) n)), (0, .ref (mw_a E 0)), (1, .int w), (2, .int 0), (3, .int (mSt σ 0))]) C.1 C.2.1 dX12_bestOf_63 hl (k := 7) rfl (nI_1 _) (by decide) rfl (fun ls hl => ?_)
            refine lv_goto (tgt := 19) C.1 C.2.1 dX12_bestOf_66 (by decide) ?_
            exact iha (j + 1) (nI (1 + j)) (sumP (fun p => gainP z (upd (mSt σ) 0 (nI (1 + j))) (mCu σ p)) n) (upd (s') 0 (nI (1 + j))) u10 _ _ (by omega) (by omega) (by show _ = stB (bestP z (mSt σ) (mCu σ) n 0 1 j) _ _; rw [← exy]; unfold stB; exact (if_pos (Or.inr (Int32.not_le.mp c15))).symm) (fun v => by rw [upd_upd]; exact hs v) ((fra.sa 0 (nI (1 + j))).tr f12) hP hS ls (lv_sub hl [4, 5, 6, 7, 2, 1, 0] rfl)
  exact lpa (41) 0 (-1) 0 (mSt σ) σ _ _ (by omega) (by omega) (rfl) (fun v => rfl) (mFs.rf σ).as hP hS ls (lv_sub hl [4, 5, 6, 3, 2, 1, 0] rfl)

set_option maxHeartbeats 4000000 in
set_option maxRecDepth 100000 in
theorem cM_bestOf1 (l : Launch) (E : mw_E) (σ : mw_M) (z : zP) (n : Nat) (hn : σ.1 0 10 = nI n) (h8 : n ≤ 8) (hru : mRu σ z) (w : Int32) : mw_Ci shM 13 gM l yX12_bestOf cX12_bestOf 8 (some .int) (rmF 47 1041) E [.ref (mw_a E 0), .int w, .int 1] σ (fun r u => r = (if w = 0 then (bestP z (mSt σ) (mCu σ) n 1 1 6).1 else (bestP z (mSt σ) (mCu σ) n 1 1 6).2) ∧ mFs σ u) := by
  refine mw_of (by decide) gM_ok (Nat.le_of_ble_eq_true rfl) ?_
  intro p_ e_ s_ m_ below meth c_ C hr hlk Z hP ls hl
  have C : CallFix p_ m_ c_ cX12_bestOf 8 s_ _ lw_good RX12 := C
  have hl : lv_has ls 8 [(0, .ref (mw_a E 0)), (1, .int w), (2, .int 1)] := hl
  have hS : va_S (mw_A 13 E) s_.heap s_.heap [] := va_S.rf
  refine lv_aload_n C.1 C.2.1 dX12_bestOf_0 rfl (lv_at hl 0 rfl) ?_
  refine mw_getr C Z hP (0) 7 (4) (by decide) rfl rfl rfl (by decide) inX12 tw_4_171 dX12_bestOf_1 ?_
  refine lv_iload_n C.1 C.2.1 dX12_bestOf_4 rfl (lv_at hl 2 rfl) ?_
  refine mw_iald C Z hP (4) (1) (by decide) rfl (Nat.lt_of_lt_of_le (by decide : 5 < 961) (Nat.le_of_ble_eq_true rfl)) rfl (by decide) dX12_bestOf_5 ?_
  refine mw_top (y := mSt σ 1) rfl ?_
  refine lv_istore_n (lv' := [(3, .int (mSt σ 1)), (0, .ref (mw_a E 0)), (1, .int w), (2, .int 1)]) C.1 C.2.1 dX12_bestOf_6 rfl hl (by decide) rfl (fun ls hl => ?_)
  refine lv_iconst (v := -1) C.1 C.2.1 dX12_bestOf_7 (by decide) ?_
  refine lv_istore (lv' := [(4, .int (-1)), (3, .int (mSt σ 1)), (0, .ref (mw_a E 0)), (1, .int w), (2, .int 1)]) C.1 C.2.1 dX12_bestOf_8 hl (by decide) rfl (fun ls hl => ?_)
  refine lv_iconst (v := 0) C.1 C.2.1 dX12_bestOf_10 (by decide) ?_
  refine lv_istore (lv' := [(5, .int 0), (4, .int (-1)), (3, .int (mSt σ 1)), (0, .ref (mw_a E 0)), (1, .int w), (2, .int 1)]) C.1 C.2.1 dX12_bestOf_11 hl (by decide) rfl (fun ls hl => ?_)
  refine lv_iload_n C.1 C.2.1 dX12_bestOf_13 rfl (lv_at hl 5 rfl) ?_
  refine mw_cSi (As := [.int 1]) (rest := []) C Z hP hS (cM_leastOf l E σ 1) sb_X12_leastOf tw_5_40 ⟨rfl, rfl⟩ ⟨Nat.le_of_ble_eq_true rfl, Nat.le_of_ble_eq_true rfl⟩ rfl hl.1 rfl (Nat.le_of_ble_eq_true rfl) dX12_bestOf_14 ⟨Nat.zero_le _, Nat.zero_le _⟩ (fun r1 u2 H locs q3 hP hS => ?_)
  obtain ⟨rfl, q3u⟩ := q3
  rw [q3u] at hP; clear q3u
  refine mw_top (y := nI (1 + 0)) (by decide) ?_
  refine lv_istore (lv' := [(6, .int (nI (1 + 0))), (5, .int 0), (4, .int (-1)), (3, .int (mSt σ 1)), (0, .ref (mw_a E 0)), (1, .int w), (2, .int 1)]) C.1 C.2.1 dX12_bestOf_17 hl (by decide) rfl (fun ls hl => ?_)
  have lpa : ∀ (N : Nat) (j : Nat) (x : Int32) (y : Int32) (s' : Nat → Int32) (ςa : mw_M) (H : Heap) (locs : List Loc), 7 ≤ j + N → (j ≤ 6) → ((x, y) = bestP z (mSt σ) (mCu σ) n 1 1 j) → (∀ v, upd s' 1 v = upd (mSt σ) 1 v) → mAs σ s' ςa → va_P (mw_D E) vwCl (mw_ws shM 13 E ςa) H → va_S (mw_A 13 E) s_.heap H locs → ∀ (ls : Array Slot), lv_has ls 8 [(0, .ref (mw_a E 0)), (1, .int w), (2, .int 1), (3, .int (mSt σ 1)), (4, .int x), (5, .int y), (6, .int (nI (1 + j)))] → mWi p_ l e_ (rmF 47 1041) s_ m_ [.ref (mw_a E 0), .int w, .int 1] below meth c_ E (fun r u => r = (if w = 0 then (bestP z (mSt σ) (mCu σ) n 1 1 6).1 else (bestP z (mSt σ) (mCu σ) n 1 1 6).2) ∧ mFs σ u) H locs (F0 m_ 19 ls []) := by
    intro N
    induction N with
    | zero => intros; exfalso; omega
    | succ N iha =>
      intro j x y s' ςa H locs hNa hj exy hs fra hP hS ls hl
      refine lv_iload C.1 C.2.1 dX12_bestOf_19 (lv_at hl 6 rfl) ?_
      refine lv_iload_n C.1 C.2.1 dX12_bestOf_21 rfl (lv_at hl 2 rfl) ?_
      refine mw_cSi (As := [.int 1]) (rest := [.int (nI (1 + j))]) C Z hP hS (cM_mostOf l E ςa 1) sb_X12_mostOf tw_5_43 ⟨rfl, rfl⟩ ⟨Nat.le_of_ble_eq_true rfl, Nat.le_of_ble_eq_true rfl⟩ rfl hl.1 rfl (Nat.le_of_ble_eq_true rfl) dX12_bestOf_22 ⟨Nat.zero_le _, Nat.zero_le _⟩ (fun r4 u5 H locs q6 hP hS => ?_)
      obtain ⟨rfl, q6u⟩ := q6
      rw [q6u] at hP; clear q6u
      refine mw_top (y := nI 6) (by decide) ?_
      refine lv_icmp_gt (tgt := 69) C.1 C.2.1 dX12_bestOf_25 (by decide) (fun c7 => ?_) (fun c7 => ?_)
      · have c7 := (nI_ltI (by omega) (by omega)).mp c7
        refine lv_aload_n C.1 C.2.1 dX12_bestOf_69 rfl (lv_at hl 0 rfl) ?_
        refine mw_getr C Z hP (0) 7 (4) (by decide) rfl rfl rfl (by decide) inX12 tw_4_171 dX12_bestOf_70 ?_
        refine lv_iload_n C.1 C.2.1 dX12_bestOf_73 rfl (lv_at hl 2 rfl) ?_
        refine lv_iload_n C.1 C.2.1 dX12_bestOf_74 rfl (lv_at hl 3 rfl) ?_
        refine mw_iast C Z hP hS (4) (1) (by decide) rfl (Nat.lt_of_lt_of_le (by decide : 5 < 961) (Nat.le_of_ble_eq_true rfl)) rfl (by decide) dX12_bestOf_75 (fun H locs hP hS => ?_)
        refine lv_iload_n C.1 C.2.1 dX12_bestOf_76 rfl (lv_at hl 1 rfl) ?_
        refine lv_if_ne (tgt := 85) C.1 C.2.1 dX12_bestOf_77 (by decide) (fun c8 => ?_) (fun c8 => ?_)
        · refine lv_iload C.1 C.2.1 dX12_bestOf_85 (lv_at hl 5 rfl) ?_
          have ej : j = 6 := by omega
          rw [ej] at exy
          exact mw_iret C hr hlk Z hP hS dX12_bestOf_87 (⟨by show _ = if w = 0 then (bestP z (mSt σ) (mCu σ) n 1 1 6).1 else (bestP z (mSt σ) (mCu σ) n 1 1 6).2; rw [← exy, if_neg c8], ((fra.sa 1 (mSt σ 1))).fs (by rw [hs]; exact upd_self _ _)⟩)
        · refine lv_iload C.1 C.2.1 dX12_bestOf_80 (lv_at hl 4 rfl) ?_
          refine lv_goto (tgt := 87) C.1 C.2.1 dX12_bestOf_82 (by decide) ?_
          have ej : j = 6 := by omega
          rw [ej] at exy
          exact mw_iret C hr hlk Z hP hS dX12_bestOf_87 (⟨by show _ = if w = 0 then (bestP z (mSt σ) (mCu σ) n 1 1 6).1 else (bestP z (mSt σ) (mCu σ) n 1 1 6).2; rw [← exy, if_pos c8], ((fra.sa 1 (mSt σ 1))).fs (by rw [hs]; exact upd_self _ _)⟩)
      · have c7 : _ := (not_congr (nI_ltI (by omega) (by omega))).mp c7
        refine lv_aload_n C.1 C.2.1 dX12_bestOf_28 rfl (lv_at hl 0 rfl) ?_
        refine mw_getr C Z hP (0) 7 (4) (by decide) rfl rfl rfl (by decide) inX12 tw_4_171 dX12_bestOf_29 ?_
        refine lv_iload_n C.1 C.2.1 dX12_bestOf_32 rfl (lv_at hl 2 rfl) ?_
        refine lv_iload C.1 C.2.1 dX12_bestOf_33 (lv_at hl 6 rfl) ?_
        refine mw_iast C Z hP hS (4) (1) (by decide) rfl (Nat.lt_of_lt_of_le (by decide : 5 < 961) (Nat.le_of_ble_eq_true rfl)) rfl (by decide) dX12_bestOf_35 (fun H locs hP hS => ?_)
        refine lv_aload_n C.1 C.2.1 dX12_bestOf_36 rfl (lv_at hl 0 rfl) ?_
        refine mw_cVi (As := []) (rest := []) C Z hP hS (0) (cM_gainAll l E (mw_sa ςa 4 1 (nI (1 + j))) z n ((fra.sa 1 (nI (1 + j))).many hn) h8 ((fra.sa 1 (nI (1 + j))).ru hru)) vb_X12_gainAll tw_6_62 ⟨rfl, rfl⟩ ⟨Nat.le_of_ble_eq_true rfl, Nat.le_of_ble_eq_true rfl⟩ (by decide) rfl rfl rfl rfl hl.1 rfl (Nat.le_of_ble_eq_true rfl) dX12_bestOf_37 ⟨Nat.zero_le _, Nat.zero_le _⟩ (fun r9 u10 H locs q11 hP hS => ?_)
        obtain ⟨e13, f12⟩ := q11
        rw [show (fun p => gainP z (mSt (mw_sa ςa 4 1 (nI (1 + j)))) (mCu (mw_sa ςa 4 1 (nI (1 + j))) p)) = fun p => gainP z (upd (mSt σ) 1 (nI (1 + j))) (mCu σ p) from funext fun p => by rw [(fra.sa 1 (nI (1 + j))).st, (fra.sa 1 (nI (1 + j))).cu, hs]] at e13
        subst e13
        refine lv_istore (lv' := [(7, .int (sumP (fun p => gainP z (upd (mSt σ) 1 (nI (1 + j))) (mCu σ p)) n)), (0, .ref (mw_a E 0)), (1, .int w), (2, .int 1), (3, .int (mSt σ 1)), (4, .int x), (5, .int y), (6, .int (nI (1 + j)))]) C.1 C.2.1 dX12_bestOf_40 hl (by decide) rfl (fun ls hl => ?_)
        refine lv_iload C.1 C.2.1 dX12_bestOf_42 (lv_at hl 5 rfl) ?_
        refine lv_iconst (v := -1) C.1 C.2.1 dX12_bestOf_44 (by decide) ?_
        refine lv_icmp_eq (tgt := 55) C.1 C.2.1 dX12_bestOf_45 (by decide) (fun c14 => ?_) (fun c14 => ?_)
        · refine lv_iload C.1 C.2.1 dX12_bestOf_55 (lv_at hl 7 rfl) ?_
          refine lv_istore (lv' := [(4, .int (nI (1 + j))), (7, .int (sumP (fun p => gainP z (upd (mSt σ) 1 (nI (1 + j))) (mCu σ p)) n)), (0, .ref (mw_a E 0)), (1, .int w), (2, .int 1), (3, .int (mSt σ 1)), (5, .int y), (6, .int (nI (1 + j)))]) C.1 C.2.1 dX12_bestOf_57 hl (by decide) rfl (fun ls hl => ?_)
          refine lv_iload C.1 C.2.1 dX12_bestOf_59 (lv_at hl 1 rfl) ?_
          refine lv_istore (lv' := [(5, .int (sumP (fun p => gainP z (upd (mSt σ) 1 (nI (1 + j))) (mCu σ p)) n)), (4, .int (nI (1 + j))), (7, .int (sumP (fun p => gainP z (upd (mSt σ) 1 (nI (1 + j))) (mCu σ p)) n)), (0, .ref (mw_a E 0)), (1, .int w), (2, .int 1), (3, .int (mSt σ 1)), (6, .int (nI (1 + j)))]) C.1 C.2.1 dX12_bestOf_61 hl (by decide) rfl (fun ls hl => ?_)
          refine lv_iinc (v := nI (1 + j + 1)) (lv' := [(6, .int (nI (1 + j + 1))), (5, .int (sumP (fun p => gainP z (upd (mSt σ) 1 (nI (1 + j))) (mCu σ p)) n)), (4, .int (nI (1 + j))), (7, .int (sumP (fun p => gainP z (upd (mSt σ) 1 (nI (1 + j))) (mCu σ p)) n)), (0, .ref (mw_a E 0)), (1, .int w), (2, .int 1), (3, .int (mSt σ 1))]) C.1 C.2.1 dX12_bestOf_63 hl (k := 7) rfl (nI_1 _) (by decide) rfl (fun ls hl => ?_)
          refine lv_goto (tgt := 19) C.1 C.2.1 dX12_bestOf_66 (by decide) ?_
          exact iha (j + 1) (nI (1 + j)) (sumP (fun p => gainP z (upd (mSt σ) 1 (nI (1 + j))) (mCu σ p)) n) (upd (s') 1 (nI (1 + j))) u10 _ _ (by omega) (by omega) (by show _ = stB (bestP z (mSt σ) (mCu σ) n 1 1 j) _ _; rw [← exy]; unfold stB; exact (if_pos (Or.inl c14)).symm) (fun v => by rw [upd_upd]; exact hs v) ((fra.sa 1 (nI (1 + j))).tr f12) hP hS ls (lv_sub hl [4, 5, 6, 7, 2, 1, 0] rfl)
        · refine lv_iload C.1 C.2.1 dX12_bestOf_48 (lv_at hl 0 rfl) ?_
          refine lv_iload C.1 C.2.1 dX12_bestOf_50 (lv_at hl 6 rfl) ?_
          refine lv_icmp_le (tgt := 63) C.1 C.2.1 dX12_bestOf_52 (by decide) (fun c15 => ?_) (fun c15 => ?_)
          · refine lv_iinc (v := nI (1 + j + 1)) (lv' := [(6, .int (nI (1 + j + 1))), (7, .int (sumP (fun p => gainP z (upd (mSt σ) 1 (nI (1 + j))) (mCu σ p)) n)), (0, .ref (mw_a E 0)), (1, .int w), (2, .int 1), (3, .int (mSt σ 1)), (4, .int x), (5, .int y)]) C.1 C.2.1 dX12_bestOf_63 hl (k := 7) rfl (nI_1 _) (by decide) rfl (fun ls hl => ?_)
            refine lv_goto (tgt := 19) C.1 C.2.1 dX12_bestOf_66 (by decide) ?_
            exact iha (j + 1) x y (upd (s') 1 (nI (1 + j))) u10 _ _ (by omega) (by omega) (by show _ = stB (bestP z (mSt σ) (mCu σ) n 1 1 j) _ _; rw [← exy]; unfold stB; exact (if_neg (fun q => q.elim c14 (Int32.not_lt.mpr c15))).symm) (fun v => by rw [upd_upd]; exact hs v) ((fra.sa 1 (nI (1 + j))).tr f12) hP hS ls (lv_sub hl [2, 3, 4, 5, 6, 7, 0] rfl)
          · refine lv_iload C.1 C.2.1 dX12_bestOf_55 (lv_at hl 7 rfl) ?_
            refine lv_istore (lv' := [(4, .int (nI (1 + j))), (7, .int (sumP (fun p => gainP z (upd (mSt σ) 1 (nI (1 + j))) (mCu σ p)) n)), (0, .ref (mw_a E 0)), (1, .int w), (2, .int 1), (3, .int (mSt σ 1)), (5, .int y), (6, .int (nI (1 + j)))]) C.1 C.2.1 dX12_bestOf_57 hl (by decide) rfl (fun ls hl => ?_)
            refine lv_iload C.1 C.2.1 dX12_bestOf_59 (lv_at hl 1 rfl) ?_
            refine lv_istore (lv' := [(5, .int (sumP (fun p => gainP z (upd (mSt σ) 1 (nI (1 + j))) (mCu σ p)) n)), (4, .int (nI (1 + j))), (7, .int (sumP (fun p => gainP z (upd (mSt σ) 1 (nI (1 + j))) (mCu σ p)) n)), (0, .ref (mw_a E 0)), (1, .int w), (2, .int 1), (3, .int (mSt σ 1)), (6, .int (nI (1 + j)))]) C.1 C.2.1 dX12_bestOf_61 hl (by decide) rfl (fun ls hl => ?_)
            refine lv_iinc (v := nI (1 + j + 1)) (lv' := [(6, .int (nI (1 + j + 1))), (5, .int (sumP (fun p => gainP z (upd (mSt σ) 1 (nI (1 + j))) (mCu σ p)) n)), (4, .int (nI (1 + j))), (7, .int (sumP (fun p => gainP z (upd (mSt σ) 1 (nI (1 + j))) (mCu σ p)) n)), (0, .ref (mw_a E 0)), (1, .int w), (2, .int 1), (3, .int (mSt σ 1))]) C.1 C.2.1 dX12_bestOf_63 hl (k := 7) rfl (nI_1 _) (by decide) rfl (fun ls hl => ?_)
            refine lv_goto (tgt := 19) C.1 C.2.1 dX12_bestOf_66 (by decide) ?_
            exact iha (j + 1) (nI (1 + j)) (sumP (fun p => gainP z (upd (mSt σ) 1 (nI (1 + j))) (mCu σ p)) n) (upd (s') 1 (nI (1 + j))) u10 _ _ (by omega) (by omega) (by show _ = stB (bestP z (mSt σ) (mCu σ) n 1 1 j) _ _; rw [← exy]; unfold stB; exact (if_pos (Or.inr (Int32.not_le.mp c15))).symm) (fun v => by rw [upd_upd]; exact hs v) ((fra.sa 1 (nI (1 + j))).tr f12) hP hS ls (lv_sub hl [4, 5, 6, 7, 2, 1, 0] rfl)
  exact lpa (7) 0 (-1) 0 (mSt σ) σ _ _ (by omega) (by omega) (rfl) (fun v => rfl) (mFs.rf σ).as hP hS ls (lv_sub hl [4, 5, 6, 3, 2, 1, 0] rfl)

set_option maxHeartbeats 4000000 in
set_option maxRecDepth 100000 in
theorem cM_bestOf2 (l : Launch) (E : mw_E) (σ : mw_M) (z : zP) (n : Nat) (hn : σ.1 0 10 = nI n) (h8 : n ≤ 8) (hru : mRu σ z) (w : Int32) : mw_Ci shM 13 gM l yX12_bestOf cX12_bestOf 8 (some .int) (rmF 47 1041) E [.ref (mw_a E 0), .int w, .int 2] σ (fun r u => r = (if w = 0 then (bestP z (mSt σ) (mCu σ) n 2 0 2).1 else (bestP z (mSt σ) (mCu σ) n 2 0 2).2) ∧ mFs σ u) := by
  refine mw_of (by decide) gM_ok (Nat.le_of_ble_eq_true rfl) ?_
  intro p_ e_ s_ m_ below meth c_ C hr hlk Z hP ls hl
  have C : CallFix p_ m_ c_ cX12_bestOf 8 s_ _ lw_good RX12 := C
  have hl : lv_has ls 8 [(0, .ref (mw_a E 0)), (1, .int w), (2, .int 2)] := hl
  have hS : va_S (mw_A 13 E) s_.heap s_.heap [] := va_S.rf
  refine lv_aload_n C.1 C.2.1 dX12_bestOf_0 rfl (lv_at hl 0 rfl) ?_
  refine mw_getr C Z hP (0) 7 (4) (by decide) rfl rfl rfl (by decide) inX12 tw_4_171 dX12_bestOf_1 ?_
  refine lv_iload_n C.1 C.2.1 dX12_bestOf_4 rfl (lv_at hl 2 rfl) ?_
  refine mw_iald C Z hP (4) (2) (by decide) rfl (Nat.lt_of_lt_of_le (by decide : 5 < 961) (Nat.le_of_ble_eq_true rfl)) rfl (by decide) dX12_bestOf_5 ?_
  refine mw_top (y := mSt σ 2) rfl ?_
  refine lv_istore_n (lv' := [(3, .int (mSt σ 2)), (0, .ref (mw_a E 0)), (1, .int w), (2, .int 2)]) C.1 C.2.1 dX12_bestOf_6 rfl hl (by decide) rfl (fun ls hl => ?_)
  refine lv_iconst (v := -1) C.1 C.2.1 dX12_bestOf_7 (by decide) ?_
  refine lv_istore (lv' := [(4, .int (-1)), (3, .int (mSt σ 2)), (0, .ref (mw_a E 0)), (1, .int w), (2, .int 2)]) C.1 C.2.1 dX12_bestOf_8 hl (by decide) rfl (fun ls hl => ?_)
  refine lv_iconst (v := 0) C.1 C.2.1 dX12_bestOf_10 (by decide) ?_
  refine lv_istore (lv' := [(5, .int 0), (4, .int (-1)), (3, .int (mSt σ 2)), (0, .ref (mw_a E 0)), (1, .int w), (2, .int 2)]) C.1 C.2.1 dX12_bestOf_11 hl (by decide) rfl (fun ls hl => ?_)
  refine lv_iload_n C.1 C.2.1 dX12_bestOf_13 rfl (lv_at hl 5 rfl) ?_
  refine mw_cSi (As := [.int 2]) (rest := []) C Z hP hS (cM_leastOf l E σ 2) sb_X12_leastOf tw_5_40 ⟨rfl, rfl⟩ ⟨Nat.le_of_ble_eq_true rfl, Nat.le_of_ble_eq_true rfl⟩ rfl hl.1 rfl (Nat.le_of_ble_eq_true rfl) dX12_bestOf_14 ⟨Nat.zero_le _, Nat.zero_le _⟩ (fun r1 u2 H locs q3 hP hS => ?_)
  obtain ⟨rfl, q3u⟩ := q3
  rw [q3u] at hP; clear q3u
  refine mw_top (y := nI (0 + 0)) (by decide) ?_
  refine lv_istore (lv' := [(6, .int (nI (0 + 0))), (5, .int 0), (4, .int (-1)), (3, .int (mSt σ 2)), (0, .ref (mw_a E 0)), (1, .int w), (2, .int 2)]) C.1 C.2.1 dX12_bestOf_17 hl (by decide) rfl (fun ls hl => ?_)
  have lpa : ∀ (N : Nat) (j : Nat) (x : Int32) (y : Int32) (s' : Nat → Int32) (ςa : mw_M) (H : Heap) (locs : List Loc), 3 ≤ j + N → (j ≤ 2) → ((x, y) = bestP z (mSt σ) (mCu σ) n 2 0 j) → (∀ v, upd s' 2 v = upd (mSt σ) 2 v) → mAs σ s' ςa → va_P (mw_D E) vwCl (mw_ws shM 13 E ςa) H → va_S (mw_A 13 E) s_.heap H locs → ∀ (ls : Array Slot), lv_has ls 8 [(0, .ref (mw_a E 0)), (1, .int w), (2, .int 2), (3, .int (mSt σ 2)), (4, .int x), (5, .int y), (6, .int (nI (0 + j)))] → mWi p_ l e_ (rmF 47 1041) s_ m_ [.ref (mw_a E 0), .int w, .int 2] below meth c_ E (fun r u => r = (if w = 0 then (bestP z (mSt σ) (mCu σ) n 2 0 2).1 else (bestP z (mSt σ) (mCu σ) n 2 0 2).2) ∧ mFs σ u) H locs (F0 m_ 19 ls []) := by
    intro N
    induction N with
    | zero => intros; exfalso; omega
    | succ N iha =>
      intro j x y s' ςa H locs hNa hj exy hs fra hP hS ls hl
      refine lv_iload C.1 C.2.1 dX12_bestOf_19 (lv_at hl 6 rfl) ?_
      refine lv_iload_n C.1 C.2.1 dX12_bestOf_21 rfl (lv_at hl 2 rfl) ?_
      refine mw_cSi (As := [.int 2]) (rest := [.int (nI (0 + j))]) C Z hP hS (cM_mostOf l E ςa 2) sb_X12_mostOf tw_5_43 ⟨rfl, rfl⟩ ⟨Nat.le_of_ble_eq_true rfl, Nat.le_of_ble_eq_true rfl⟩ rfl hl.1 rfl (Nat.le_of_ble_eq_true rfl) dX12_bestOf_22 ⟨Nat.zero_le _, Nat.zero_le _⟩ (fun r4 u5 H locs q6 hP hS => ?_)
      obtain ⟨rfl, q6u⟩ := q6
      rw [q6u] at hP; clear q6u
      refine mw_top (y := nI 1) (by decide) ?_
      refine lv_icmp_gt (tgt := 69) C.1 C.2.1 dX12_bestOf_25 (by decide) (fun c7 => ?_) (fun c7 => ?_)
      · have c7 := (nI_ltI (by omega) (by omega)).mp c7
        refine lv_aload_n C.1 C.2.1 dX12_bestOf_69 rfl (lv_at hl 0 rfl) ?_
        refine mw_getr C Z hP (0) 7 (4) (by decide) rfl rfl rfl (by decide) inX12 tw_4_171 dX12_bestOf_70 ?_
        refine lv_iload_n C.1 C.2.1 dX12_bestOf_73 rfl (lv_at hl 2 rfl) ?_
        refine lv_iload_n C.1 C.2.1 dX12_bestOf_74 rfl (lv_at hl 3 rfl) ?_
        refine mw_iast C Z hP hS (4) (2) (by decide) rfl (Nat.lt_of_lt_of_le (by decide : 5 < 961) (Nat.le_of_ble_eq_true rfl)) rfl (by decide) dX12_bestOf_75 (fun H locs hP hS => ?_)
        refine lv_iload_n C.1 C.2.1 dX12_bestOf_76 rfl (lv_at hl 1 rfl) ?_
        refine lv_if_ne (tgt := 85) C.1 C.2.1 dX12_bestOf_77 (by decide) (fun c8 => ?_) (fun c8 => ?_)
        · refine lv_iload C.1 C.2.1 dX12_bestOf_85 (lv_at hl 5 rfl) ?_
          have ej : j = 2 := by omega
          rw [ej] at exy
          exact mw_iret C hr hlk Z hP hS dX12_bestOf_87 (⟨by show _ = if w = 0 then (bestP z (mSt σ) (mCu σ) n 2 0 2).1 else (bestP z (mSt σ) (mCu σ) n 2 0 2).2; rw [← exy, if_neg c8], ((fra.sa 2 (mSt σ 2))).fs (by rw [hs]; exact upd_self _ _)⟩)
        · refine lv_iload C.1 C.2.1 dX12_bestOf_80 (lv_at hl 4 rfl) ?_
          refine lv_goto (tgt := 87) C.1 C.2.1 dX12_bestOf_82 (by decide) ?_
          have ej : j = 2 := by omega
          rw [ej] at exy
          exact mw_iret C hr hlk Z hP hS dX12_bestOf_87 (⟨by show _ = if w = 0 then (bestP z (mSt σ) (mCu σ) n 2 0 2).1 else (bestP z (mSt σ) (mCu σ) n 2 0 2).2; rw [← exy, if_pos c8], ((fra.sa 2 (mSt σ 2))).fs (by rw [hs]; exact upd_self _ _)⟩)
      · have c7 : _ := (not_congr (nI_ltI (by omega) (by omega))).mp c7
        refine lv_aload_n C.1 C.2.1 dX12_bestOf_28 rfl (lv_at hl 0 rfl) ?_
        refine mw_getr C Z hP (0) 7 (4) (by decide) rfl rfl rfl (by decide) inX12 tw_4_171 dX12_bestOf_29 ?_
        refine lv_iload_n C.1 C.2.1 dX12_bestOf_32 rfl (lv_at hl 2 rfl) ?_
        refine lv_iload C.1 C.2.1 dX12_bestOf_33 (lv_at hl 6 rfl) ?_
        refine mw_iast C Z hP hS (4) (2) (by decide) rfl (Nat.lt_of_lt_of_le (by decide : 5 < 961) (Nat.le_of_ble_eq_true rfl)) rfl (by decide) dX12_bestOf_35 (fun H locs hP hS => ?_)
        refine lv_aload_n C.1 C.2.1 dX12_bestOf_36 rfl (lv_at hl 0 rfl) ?_
        refine mw_cVi (As := []) (rest := []) C Z hP hS (0) (cM_gainAll l E (mw_sa ςa 4 2 (nI (0 + j))) z n ((fra.sa 2 (nI (0 + j))).many hn) h8 ((fra.sa 2 (nI (0 + j))).ru hru)) vb_X12_gainAll tw_6_62 ⟨rfl, rfl⟩ ⟨Nat.le_of_ble_eq_true rfl, Nat.le_of_ble_eq_true rfl⟩ (by decide) rfl rfl rfl rfl hl.1 rfl (Nat.le_of_ble_eq_true rfl) dX12_bestOf_37 ⟨Nat.zero_le _, Nat.zero_le _⟩ (fun r9 u10 H locs q11 hP hS => ?_)
        obtain ⟨e13, f12⟩ := q11
        rw [show (fun p => gainP z (mSt (mw_sa ςa 4 2 (nI (0 + j)))) (mCu (mw_sa ςa 4 2 (nI (0 + j))) p)) = fun p => gainP z (upd (mSt σ) 2 (nI (0 + j))) (mCu σ p) from funext fun p => by rw [(fra.sa 2 (nI (0 + j))).st, (fra.sa 2 (nI (0 + j))).cu, hs]] at e13
        subst e13
        refine lv_istore (lv' := [(7, .int (sumP (fun p => gainP z (upd (mSt σ) 2 (nI (0 + j))) (mCu σ p)) n)), (0, .ref (mw_a E 0)), (1, .int w), (2, .int 2), (3, .int (mSt σ 2)), (4, .int x), (5, .int y), (6, .int (nI (0 + j)))]) C.1 C.2.1 dX12_bestOf_40 hl (by decide) rfl (fun ls hl => ?_)
        refine lv_iload C.1 C.2.1 dX12_bestOf_42 (lv_at hl 5 rfl) ?_
        refine lv_iconst (v := -1) C.1 C.2.1 dX12_bestOf_44 (by decide) ?_
        refine lv_icmp_eq (tgt := 55) C.1 C.2.1 dX12_bestOf_45 (by decide) (fun c14 => ?_) (fun c14 => ?_)
        · refine lv_iload C.1 C.2.1 dX12_bestOf_55 (lv_at hl 7 rfl) ?_
          refine lv_istore (lv' := [(4, .int (nI (0 + j))), (7, .int (sumP (fun p => gainP z (upd (mSt σ) 2 (nI (0 + j))) (mCu σ p)) n)), (0, .ref (mw_a E 0)), (1, .int w), (2, .int 2), (3, .int (mSt σ 2)), (5, .int y), (6, .int (nI (0 + j)))]) C.1 C.2.1 dX12_bestOf_57 hl (by decide) rfl (fun ls hl => ?_)
          refine lv_iload C.1 C.2.1 dX12_bestOf_59 (lv_at hl 1 rfl) ?_
          refine lv_istore (lv' := [(5, .int (sumP (fun p => gainP z (upd (mSt σ) 2 (nI (0 + j))) (mCu σ p)) n)), (4, .int (nI (0 + j))), (7, .int (sumP (fun p => gainP z (upd (mSt σ) 2 (nI (0 + j))) (mCu σ p)) n)), (0, .ref (mw_a E 0)), (1, .int w), (2, .int 2), (3, .int (mSt σ 2)), (6, .int (nI (0 + j)))]) C.1 C.2.1 dX12_bestOf_61 hl (by decide) rfl (fun ls hl => ?_)
          refine lv_iinc (v := nI (0 + j + 1)) (lv' := [(6, .int (nI (0 + j + 1))), (5, .int (sumP (fun p => gainP z (upd (mSt σ) 2 (nI (0 + j))) (mCu σ p)) n)), (4, .int (nI (0 + j))), (7, .int (sumP (fun p => gainP z (upd (mSt σ) 2 (nI (0 + j))) (mCu σ p)) n)), (0, .ref (mw_a E 0)), (1, .int w), (2, .int 2), (3, .int (mSt σ 2))]) C.1 C.2.1 dX12_bestOf_63 hl (k := 7) rfl (nI_1 _) (by decide) rfl (fun ls hl => ?_)
          refine lv_goto (tgt := 19) C.1 C.2.1 dX12_bestOf_66 (by decide) ?_
          exact iha (j + 1) (nI (0 + j)) (sumP (fun p => gainP z (upd (mSt σ) 2 (nI (0 + j))) (mCu σ p)) n) (upd (s') 2 (nI (0 + j))) u10 _ _ (by omega) (by omega) (by show _ = stB (bestP z (mSt σ) (mCu σ) n 2 0 j) _ _; rw [← exy]; unfold stB; exact (if_pos (Or.inl c14)).symm) (fun v => by rw [upd_upd]; exact hs v) ((fra.sa 2 (nI (0 + j))).tr f12) hP hS ls (lv_sub hl [4, 5, 6, 7, 2, 1, 0] rfl)
        · refine lv_iload C.1 C.2.1 dX12_bestOf_48 (lv_at hl 0 rfl) ?_
          refine lv_iload C.1 C.2.1 dX12_bestOf_50 (lv_at hl 6 rfl) ?_
          refine lv_icmp_le (tgt := 63) C.1 C.2.1 dX12_bestOf_52 (by decide) (fun c15 => ?_) (fun c15 => ?_)
          · refine lv_iinc (v := nI (0 + j + 1)) (lv' := [(6, .int (nI (0 + j + 1))), (7, .int (sumP (fun p => gainP z (upd (mSt σ) 2 (nI (0 + j))) (mCu σ p)) n)), (0, .ref (mw_a E 0)), (1, .int w), (2, .int 2), (3, .int (mSt σ 2)), (4, .int x), (5, .int y)]) C.1 C.2.1 dX12_bestOf_63 hl (k := 7) rfl (nI_1 _) (by decide) rfl (fun ls hl => ?_)
            refine lv_goto (tgt := 19) C.1 C.2.1 dX12_bestOf_66 (by decide) ?_
            exact iha (j + 1) x y (upd (s') 2 (nI (0 + j))) u10 _ _ (by omega) (by omega) (by show _ = stB (bestP z (mSt σ) (mCu σ) n 2 0 j) _ _; rw [← exy]; unfold stB; exact (if_neg (fun q => q.elim c14 (Int32.not_lt.mpr c15))).symm) (fun v => by rw [upd_upd]; exact hs v) ((fra.sa 2 (nI (0 + j))).tr f12) hP hS ls (lv_sub hl [2, 3, 4, 5, 6, 7, 0] rfl)
          · refine lv_iload C.1 C.2.1 dX12_bestOf_55 (lv_at hl 7 rfl) ?_
            refine lv_istore (lv' := [(4, .int (nI (0 + j))), (7, .int (sumP (fun p => gainP z (upd (mSt σ) 2 (nI (0 + j))) (mCu σ p)) n)), (0, .ref (mw_a E 0)), (1, .int w), (2, .int 2), (3, .int (mSt σ 2)), (5, .int y), (6, .int (nI (0 + j)))]) C.1 C.2.1 dX12_bestOf_57 hl (by decide) rfl (fun ls hl => ?_)
            refine lv_iload C.1 C.2.1 dX12_bestOf_59 (lv_at hl 1 rfl) ?_
            refine lv_istore (lv' := [(5, .int (sumP (fun p => gainP z (upd (mSt σ) 2 (nI (0 + j))) (mCu σ p)) n)), (4, .int (nI (0 + j))), (7, .int (sumP (fun p => gainP z (upd (mSt σ) 2 (nI (0 + j))) (mCu σ p)) n)), (0, .ref (mw_a E 0)), (1, .int w), (2, .int 2), (3, .int (mSt σ 2)), (6, .int (nI (0 + j)))]) C.1 C.2.1 dX12_bestOf_61 hl (by decide) rfl (fun ls hl => ?_)
            refine lv_iinc (v := nI (0 + j + 1)) (lv' := [(6, .int (nI (0 + j + 1))), (5, .int (sumP (fun p => gainP z (upd (mSt σ) 2 (nI (0 + j))) (mCu σ p)) n)), (4, .int (nI (0 + j))), (7, .int (sumP (fun p => gainP z (upd (mSt σ) 2 (nI (0 + j))) (mCu σ p)) n)), (0, .ref (mw_a E 0)), (1, .int w), (2, .int 2), (3, .int (mSt σ 2))]) C.1 C.2.1 dX12_bestOf_63 hl (k := 7) rfl (nI_1 _) (by decide) rfl (fun ls hl => ?_)
            refine lv_goto (tgt := 19) C.1 C.2.1 dX12_bestOf_66 (by decide) ?_
            exact iha (j + 1) (nI (0 + j)) (sumP (fun p => gainP z (upd (mSt σ) 2 (nI (0 + j))) (mCu σ p)) n) (upd (s') 2 (nI (0 + j))) u10 _ _ (by omega) (by omega) (by show _ = stB (bestP z (mSt σ) (mCu σ) n 2 0 j) _ _; rw [← exy]; unfold stB; exact (if_pos (Or.inr (Int32.not_le.mp c15))).symm) (fun v => by rw [upd_upd]; exact hs v) ((fra.sa 2 (nI (0 + j))).tr f12) hP hS ls (lv_sub hl [4, 5, 6, 7, 2, 1, 0] rfl)
  exact lpa (3) 0 (-1) 0 (mSt σ) σ _ _ (by omega) (by omega) (rfl) (fun v => rfl) (mFs.rf σ).as hP hS ls (lv_sub hl [4, 5, 6, 3, 2, 1, 0] rfl)

set_option maxHeartbeats 4000000 in
set_option maxRecDepth 100000 in
theorem cM_cubes (l : Launch) (E : mw_E) (σ : mw_M) (z : zP) (n : Nat) (hn : σ.1 0 10 = nI n) (h8 : n ≤ 8) (hru : mRu σ z) (w : Int32) : mw_Ci shM 13 gM l yX12_cubes cX12_cubes 2 (some .int) (rmF 48 1068) E [.ref (mw_a E 0), .int w] σ (fun r u => r = bestF z (mSt σ) (mCu σ) n 0 1 40 w ∧ mFs σ u) := by
  refine mw_of (by decide) gM_ok (Nat.le_of_ble_eq_true rfl) ?_
  intro p_ e_ s_ m_ below meth c_ C hr hlk Z hP ls hl
  have C : CallFix p_ m_ c_ cX12_cubes 2 s_ _ lw_good RX12 := C
  have hl : lv_has ls 2 [(0, .ref (mw_a E 0)), (1, .int w)] := hl
  have hS : va_S (mw_A 13 E) s_.heap s_.heap [] := va_S.rf
  refine lv_iload_n C.1 C.2.1 dX12_cubes_0 rfl (lv_at hl 1 rfl) ?_
  refine lv_i2l C.1 C.2.1 dX12_cubes_1 rfl ?_
  refine lv_lconst (v := 0) C.1 C.2.1 dX12_cubes_2 (by decide) ?_
  refine lv_lconst (v := 1) C.1 C.2.1 dX12_cubes_3 (by decide) ?_
  refine mw_cSi (As := [.long (w.toInt64), .long (0), .long (1)]) (rest := []) C Z hP hS (cM_in l E σ (w.toInt64) 0 1 (0 ≤ w.toInt ∧ w.toInt ≤ 1) (by first | (simp only [nl_i]; exact Iff.rfl) | (simp only [nl_i]; decide) | simp [nl_i])) sb_X12_in tw_5_33 ⟨rfl, rfl⟩ ⟨Nat.le_of_ble_eq_true rfl, Nat.le_of_ble_eq_true rfl⟩ rfl hl.1 rfl (Nat.le_of_ble_eq_true rfl) dX12_cubes_4 ⟨Nat.zero_le _, Nat.zero_le _⟩ (fun r1 u2 H locs q3 hP hS => ?_)
  obtain ⟨rfl, q3u⟩ := q3
  rw [q3u] at hP; clear q3u
  refine lv_if_eq (tgt := 19) C.1 C.2.1 dX12_cubes_7 (by decide) (fun c4 => ?_) (fun c4 => ?_)
  · have c4 := bI_0.mp c4
    refine lv_ldc (own := RX12) C.1 C.2.1 C.2.2.2.1 (C.2.2.2.2 _ tw_5_51) dX12_cubes_19 ?_
    exact mw_iret C hr hlk Z hP hS dX12_cubes_21 (⟨by unfold bestF; rw [if_pos c4], (mFs.rf σ)⟩)
  · have c4 := bI_n.mp c4
    refine lv_aload_n C.1 C.2.1 dX12_cubes_10 rfl (lv_at hl 0 rfl) ?_
    refine lv_iload_n C.1 C.2.1 dX12_cubes_11 rfl (lv_at hl 1 rfl) ?_
    refine lv_iconst (v := 0) C.1 C.2.1 dX12_cubes_12 (by decide) ?_
    refine mw_cVi (As := [.int w, .int 0]) (rest := []) C Z hP hS (0) (cM_bestOf0 l E σ z n ((mFs.rf σ).many hn) h8 ((mFs.rf σ).ru hru) w) vb_X12_bestOf tw_6_98 ⟨rfl, rfl⟩ ⟨Nat.le_of_ble_eq_true rfl, Nat.le_of_ble_eq_true rfl⟩ (by decide) rfl rfl rfl rfl hl.1 rfl (Nat.le_of_ble_eq_true rfl) dX12_cubes_13 ⟨Nat.zero_le _, Nat.zero_le _⟩ (fun r5 u6 H locs q7 hP hS => ?_)
    obtain ⟨rfl, f8⟩ := q7
    refine lv_goto (tgt := 21) C.1 C.2.1 dX12_cubes_16 (by decide) ?_
    exact mw_iret C hr hlk Z hP hS dX12_cubes_21 (⟨by unfold bestF; rw [if_neg (Decidable.not_not.mpr c4)], ((mFs.rf σ).tr f8)⟩)

set_option maxHeartbeats 4000000 in
set_option maxRecDepth 100000 in
theorem cM_shelf (l : Launch) (E : mw_E) (σ : mw_M) (z : zP) (n : Nat) (hn : σ.1 0 10 = nI n) (h8 : n ≤ 8) (hru : mRu σ z) (w : Int32) : mw_Ci shM 13 gM l yX12_shelf cX12_shelf 2 (some .int) (rmF 48 1068) E [.ref (mw_a E 0), .int w] σ (fun r u => r = bestF z (mSt σ) (mCu σ) n 1 1 6 w ∧ mFs σ u) := by
  refine mw_of (by decide) gM_ok (Nat.le_of_ble_eq_true rfl) ?_
  intro p_ e_ s_ m_ below meth c_ C hr hlk Z hP ls hl
  have C : CallFix p_ m_ c_ cX12_shelf 2 s_ _ lw_good RX12 := C
  have hl : lv_has ls 2 [(0, .ref (mw_a E 0)), (1, .int w)] := hl
  have hS : va_S (mw_A 13 E) s_.heap s_.heap [] := va_S.rf
  refine lv_iload_n C.1 C.2.1 dX12_shelf_0 rfl (lv_at hl 1 rfl) ?_
  refine lv_i2l C.1 C.2.1 dX12_shelf_1 rfl ?_
  refine lv_lconst (v := 0) C.1 C.2.1 dX12_shelf_2 (by decide) ?_
  refine lv_lconst (v := 1) C.1 C.2.1 dX12_shelf_3 (by decide) ?_
  refine mw_cSi (As := [.long (w.toInt64), .long (0), .long (1)]) (rest := []) C Z hP hS (cM_in l E σ (w.toInt64) 0 1 (0 ≤ w.toInt ∧ w.toInt ≤ 1) (by first | (simp only [nl_i]; exact Iff.rfl) | (simp only [nl_i]; decide) | simp [nl_i])) sb_X12_in tw_5_33 ⟨rfl, rfl⟩ ⟨Nat.le_of_ble_eq_true rfl, Nat.le_of_ble_eq_true rfl⟩ rfl hl.1 rfl (Nat.le_of_ble_eq_true rfl) dX12_shelf_4 ⟨Nat.zero_le _, Nat.zero_le _⟩ (fun r1 u2 H locs q3 hP hS => ?_)
  obtain ⟨rfl, q3u⟩ := q3
  rw [q3u] at hP; clear q3u
  refine lv_if_eq (tgt := 19) C.1 C.2.1 dX12_shelf_7 (by decide) (fun c4 => ?_) (fun c4 => ?_)
  · have c4 := bI_0.mp c4
    refine lv_ldc (own := RX12) C.1 C.2.1 C.2.2.2.1 (C.2.2.2.2 _ tw_5_51) dX12_shelf_19 ?_
    exact mw_iret C hr hlk Z hP hS dX12_shelf_21 (⟨by unfold bestF; rw [if_pos c4], (mFs.rf σ)⟩)
  · have c4 := bI_n.mp c4
    refine lv_aload_n C.1 C.2.1 dX12_shelf_10 rfl (lv_at hl 0 rfl) ?_
    refine lv_iload_n C.1 C.2.1 dX12_shelf_11 rfl (lv_at hl 1 rfl) ?_
    refine lv_iconst (v := 1) C.1 C.2.1 dX12_shelf_12 (by decide) ?_
    refine mw_cVi (As := [.int w, .int 1]) (rest := []) C Z hP hS (0) (cM_bestOf1 l E σ z n ((mFs.rf σ).many hn) h8 ((mFs.rf σ).ru hru) w) vb_X12_bestOf tw_6_98 ⟨rfl, rfl⟩ ⟨Nat.le_of_ble_eq_true rfl, Nat.le_of_ble_eq_true rfl⟩ (by decide) rfl rfl rfl rfl hl.1 rfl (Nat.le_of_ble_eq_true rfl) dX12_shelf_13 ⟨Nat.zero_le _, Nat.zero_le _⟩ (fun r5 u6 H locs q7 hP hS => ?_)
    obtain ⟨rfl, f8⟩ := q7
    refine lv_goto (tgt := 21) C.1 C.2.1 dX12_shelf_16 (by decide) ?_
    exact mw_iret C hr hlk Z hP hS dX12_shelf_21 (⟨by unfold bestF; rw [if_neg (Decidable.not_not.mpr c4)], ((mFs.rf σ).tr f8)⟩)

set_option maxHeartbeats 4000000 in
set_option maxRecDepth 100000 in
theorem cM_apron (l : Launch) (E : mw_E) (σ : mw_M) (z : zP) (n : Nat) (hn : σ.1 0 10 = nI n) (h8 : n ≤ 8) (hru : mRu σ z) (w : Int32) : mw_Ci shM 13 gM l yX12_apron cX12_apron 2 (some .int) (rmF 48 1068) E [.ref (mw_a E 0), .int w] σ (fun r u => r = bestF z (mSt σ) (mCu σ) n 2 0 2 w ∧ mFs σ u) := by
  refine mw_of (by decide) gM_ok (Nat.le_of_ble_eq_true rfl) ?_
  intro p_ e_ s_ m_ below meth c_ C hr hlk Z hP ls hl
  have C : CallFix p_ m_ c_ cX12_apron 2 s_ _ lw_good RX12 := C
  have hl : lv_has ls 2 [(0, .ref (mw_a E 0)), (1, .int w)] := hl
  have hS : va_S (mw_A 13 E) s_.heap s_.heap [] := va_S.rf
  refine lv_iload_n C.1 C.2.1 dX12_apron_0 rfl (lv_at hl 1 rfl) ?_
  refine lv_i2l C.1 C.2.1 dX12_apron_1 rfl ?_
  refine lv_lconst (v := 0) C.1 C.2.1 dX12_apron_2 (by decide) ?_
  refine lv_lconst (v := 1) C.1 C.2.1 dX12_apron_3 (by decide) ?_
  refine mw_cSi (As := [.long (w.toInt64), .long (0), .long (1)]) (rest := []) C Z hP hS (cM_in l E σ (w.toInt64) 0 1 (0 ≤ w.toInt ∧ w.toInt ≤ 1) (by first | (simp only [nl_i]; exact Iff.rfl) | (simp only [nl_i]; decide) | simp [nl_i])) sb_X12_in tw_5_33 ⟨rfl, rfl⟩ ⟨Nat.le_of_ble_eq_true rfl, Nat.le_of_ble_eq_true rfl⟩ rfl hl.1 rfl (Nat.le_of_ble_eq_true rfl) dX12_apron_4 ⟨Nat.zero_le _, Nat.zero_le _⟩ (fun r1 u2 H locs q3 hP hS => ?_)
  obtain ⟨rfl, q3u⟩ := q3
  rw [q3u] at hP; clear q3u
  refine lv_if_eq (tgt := 19) C.1 C.2.1 dX12_apron_7 (by decide) (fun c4 => ?_) (fun c4 => ?_)
  · have c4 := bI_0.mp c4
    refine lv_ldc (own := RX12) C.1 C.2.1 C.2.2.2.1 (C.2.2.2.2 _ tw_5_51) dX12_apron_19 ?_
    exact mw_iret C hr hlk Z hP hS dX12_apron_21 (⟨by unfold bestF; rw [if_pos c4], (mFs.rf σ)⟩)
  · have c4 := bI_n.mp c4
    refine lv_aload_n C.1 C.2.1 dX12_apron_10 rfl (lv_at hl 0 rfl) ?_
    refine lv_iload_n C.1 C.2.1 dX12_apron_11 rfl (lv_at hl 1 rfl) ?_
    refine lv_iconst (v := 2) C.1 C.2.1 dX12_apron_12 (by decide) ?_
    refine mw_cVi (As := [.int w, .int 2]) (rest := []) C Z hP hS (0) (cM_bestOf2 l E σ z n ((mFs.rf σ).many hn) h8 ((mFs.rf σ).ru hru) w) vb_X12_bestOf tw_6_98 ⟨rfl, rfl⟩ ⟨Nat.le_of_ble_eq_true rfl, Nat.le_of_ble_eq_true rfl⟩ (by decide) rfl rfl rfl rfl hl.1 rfl (Nat.le_of_ble_eq_true rfl) dX12_apron_13 ⟨Nat.zero_le _, Nat.zero_le _⟩ (fun r5 u6 H locs q7 hP hS => ?_)
    obtain ⟨rfl, f8⟩ := q7
    refine lv_goto (tgt := 21) C.1 C.2.1 dX12_apron_16 (by decide) ?_
    exact mw_iret C hr hlk Z hP hS dX12_apron_21 (⟨by unfold bestF; rw [if_neg (Decidable.not_not.mpr c4)], ((mFs.rf σ).tr f8)⟩)
