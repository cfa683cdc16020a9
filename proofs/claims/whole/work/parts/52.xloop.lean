/-! THE CLASS: STALLS, BEST, FRACTIONS, SHEETS, TAPE -/
abbrev cuX (σ : mw_M) (s : Nat) : Nat → Nat → Int32 := fun i => σ.1 (6 + 8 * s + i)
def amongF (st : Nat → Int32) (cu : Nat → Nat → Int32) (h : Int32) (p : Nat) : Int32 := if thereP st (cu p) ∧ (h >>> (cu p 2 &&& 31)) &&& 1 = 1 then 1 <<< (nI p &&& 31) else 0

set_option maxHeartbeats 4000000 in
set_option maxRecDepth 100000 in
theorem cX_among (l : Launch) (E : mw_E) (σ : mw_M) (s : Nat) (hs : s < 3) (n : Nat) (hn : σ.1 s 6 = nI n) (h8 : n ≤ 8) (h : Int32) : mw_Ci shX 75 gX l yX6_thereAmong cX6_thereAmong 4 (some .int) (rmF 2 85) E [.ref (mw_a E (s)), .int h] σ (fun r u => r = orP (amongF (σ.1 s) (cuX σ s) h) n ∧ u = σ) := by
  refine mw_of (by decide) gX_ok (Nat.le_of_ble_eq_true rfl) ?_
  intro p_ e_ s_ m_ below meth c_ C hr hlk Z hP ls hl
  have C : CallFix p_ m_ c_ cX6_thereAmong 4 s_ _ lw_good RX6 := C
  have hl : lv_has ls 4 [(0, .ref (mw_a E (s))), (1, .int h)] := hl
  have hS : va_S (mw_A 75 E) s_.heap s_.heap [] := va_S.rf
  refine lv_iconst (v := 0) C.1 C.2.1 dX6_thereAmong_0 (by decide) ?_
  refine lv_istore_n (lv' := [(2, .int 0), (0, .ref (mw_a E (s))), (1, .int h)]) C.1 C.2.1 dX6_thereAmong_1 rfl hl (by decide) rfl (fun ls hl => ?_)
  refine lv_iconst (v := 0) C.1 C.2.1 dX6_thereAmong_2 (by decide) ?_
  refine lv_istore_n (lv' := [(3, .int 0), (2, .int 0), (0, .ref (mw_a E (s))), (1, .int h)]) C.1 C.2.1 dX6_thereAmong_3 rfl hl (by decide) rfl (fun ls hl => ?_)
  have lpa : ∀ (N : Nat) (j : Nat) (x : Int32) (H : Heap) (locs : List Loc), n + 1 ≤ j + N → (j ≤ n) → (x = orP (amongF (σ.1 s) (cuX σ s) h) j) → va_P (mw_D E) vwCl (mw_ws shX 75 E σ) H → va_S (mw_A 75 E) s_.heap H locs → ∀ (ls : Array Slot), lv_has ls 4 [(0, .ref (mw_a E (s))), (1, .int h), (2, .int x), (3, .int (nI j))] → xWi p_ l e_ (rmF 2 85) s_ m_ [.ref (mw_a E (s)), .int h] below meth c_ E (fun r u => r = orP (amongF (σ.1 s) (cuX σ s) h) n ∧ u = σ) H locs (F0 m_ 4 ls []) := by
    intro N
    induction N with
    | zero => intros; exfalso; omega
    | succ N iha =>
      intro j x H locs hNa hj ex hP hS ls hl
      refine lv_iload_n C.1 C.2.1 dX6_thereAmong_4 rfl (lv_at hl 3 rfl) ?_
      refine lv_aload_n C.1 C.2.1 dX6_thereAmong_5 rfl (lv_at hl 0 rfl) ?_
      refine mw_geti C Z hP (s) 6 (by omega) (sx_st (by omega)) rfl rfl (by decide) inX6 tw_1_92 dX6_thereAmong_6 ?_
      refine mw_top (y := nI n) (hn) ?_
      refine lv_icmp_ge (tgt := 60) C.1 C.2.1 dX6_thereAmong_9 (by decide) (fun c1 => ?_) (fun c1 => ?_)
      · have c1 := (nI_leI (by omega) (by omega)).mp c1
        refine lv_iload_n C.1 C.2.1 dX6_thereAmong_60 rfl (lv_at hl 2 rfl) ?_
        exact mw_iret C hr hlk Z hP hS dX6_thereAmong_61 (⟨by rw [ex, show j = n by omega], rfl⟩)
      · have c1 : _ := (not_congr (nI_leI (by omega) (by omega))).mp c1
        refine lv_iload_n C.1 C.2.1 dX6_thereAmong_12 rfl (lv_at hl 3 rfl) ?_
        refine lv_bipush (v := 8) C.1 C.2.1 dX6_thereAmong_13 (by decide) ?_
        refine lv_icmp_ge (tgt := 60) C.1 C.2.1 dX6_thereAmong_15 (by decide) (fun c2 => ?_) (fun c2 => ?_)
        · exact absurd ((nI_leI (a := 8) (by decide) (by omega)).mp c2) (by omega)
        · refine lv_aload_n C.1 C.2.1 dX6_thereAmong_18 rfl (lv_at hl 0 rfl) ?_
          refine lv_aload_n C.1 C.2.1 dX6_thereAmong_19 rfl (lv_at hl 0 rfl) ?_
          refine mw_getr C Z hP (s) 7 (3 + s) (by omega) (sx_st (by omega)) rfl rfl (by decide) inX6 tw_1_95 dX6_thereAmong_20 ?_
          refine lv_iload_n C.1 C.2.1 dX6_thereAmong_23 rfl (lv_at hl 3 rfl) ?_
          refine mw_aald C Z hP (3 + s) (j) (by omega) (sx_ca (by omega)) (by decide) rfl (Nat.lt_of_lt_of_le (by decide : 8 < 961) (Nat.le_of_ble_eq_true rfl)) rfl (by omega) dX6_thereAmong_24 ?_
          refine mw_cVi (As := [.ref (mw_a E (6 + 8 * s + j))]) (rest := []) C Z hP hS (s) (cX_isThere l E σ (s) (by omega) (6 + 8 * s + j) (by omega)) vb_X6_isThere tw_3_197 ⟨rfl, rfl⟩ ⟨Nat.le_of_ble_eq_true rfl, Nat.le_of_ble_eq_true rfl⟩ (by omega) (sx_st (by omega)) rfl rfl rfl hl.1 rfl (Nat.le_of_ble_eq_true rfl) dX6_thereAmong_25 ⟨Nat.zero_le _, Nat.zero_le _⟩ (fun r3 u4 H locs q5 hP hS => ?_)
          obtain ⟨rfl, q5u⟩ := q5
          rw [q5u] at hP; clear q5u
          refine lv_if_eq (tgt := 54) C.1 C.2.1 dX6_thereAmong_28 (by decide) (fun c6 => ?_) (fun c6 => ?_)
          · have c6 := bI_0.mp c6
            refine lv_iinc (v := nI (j + 1)) (lv' := [(3, .int (nI (j + 1))), (0, .ref (mw_a E (s))), (1, .int h), (2, .int x)]) C.1 C.2.1 dX6_thereAmong_54 hl (k := 3) rfl (nI_1 _) (by decide) rfl (fun ls hl => ?_)
            refine lv_goto (tgt := 4) C.1 C.2.1 dX6_thereAmong_57 (by decide) ?_
            exact iha (j + 1) x _ _ (by omega) (by omega) (by rw [ex]; exact orP_0 (if_neg (fun y => c6 y.1))) hP hS ls (lv_sub hl [1, 2, 3, 0] rfl)
          · have c6 := bI_n.mp c6
            refine lv_iload_n C.1 C.2.1 dX6_thereAmong_31 rfl (lv_at hl 1 rfl) ?_
            refine lv_aload_n C.1 C.2.1 dX6_thereAmong_32 rfl (lv_at hl 0 rfl) ?_
            refine mw_getr C Z hP (s) 7 (3 + s) (by omega) (sx_st (by omega)) rfl rfl (by decide) inX6 tw_1_95 dX6_thereAmong_33 ?_
            refine lv_iload_n C.1 C.2.1 dX6_thereAmong_36 rfl (lv_at hl 3 rfl) ?_
            refine mw_aald C Z hP (3 + s) (j) (by omega) (sx_ca (by omega)) (by decide) rfl (Nat.lt_of_lt_of_le (by decide : 8 < 961) (Nat.le_of_ble_eq_true rfl)) rfl (by omega) dX6_thereAmong_37 ?_
            refine mw_geti C Z hP (6 + 8 * s + j) 2 (by omega) (sx_cu (by omega) (by omega)) rfl rfl (by decide) inX1 tw_1_51 dX6_thereAmong_38 ?_
            refine lv_ishr C.1 C.2.1 dX6_thereAmong_41 ?_
            refine lv_iconst (v := 1) C.1 C.2.1 dX6_thereAmong_42 (by decide) ?_
            refine lv_iand C.1 C.2.1 dX6_thereAmong_43 ?_
            refine lv_iconst (v := 1) C.1 C.2.1 dX6_thereAmong_44 (by decide) ?_
            refine lv_icmp_ne (tgt := 54) C.1 C.2.1 dX6_thereAmong_45 (by decide) (fun c7 => ?_) (fun c7 => ?_)
            · refine lv_iinc (v := nI (j + 1)) (lv' := [(3, .int (nI (j + 1))), (0, .ref (mw_a E (s))), (1, .int h), (2, .int x)]) C.1 C.2.1 dX6_thereAmong_54 hl (k := 3) rfl (nI_1 _) (by decide) rfl (fun ls hl => ?_)
              refine lv_goto (tgt := 4) C.1 C.2.1 dX6_thereAmong_57 (by decide) ?_
              exact iha (j + 1) x _ _ (by omega) (by omega) (by rw [ex]; exact orP_0 (if_neg (fun y => c7 y.2))) hP hS ls (lv_sub hl [1, 2, 3, 0] rfl)
            · refine lv_iload_n C.1 C.2.1 dX6_thereAmong_48 rfl (lv_at hl 2 rfl) ?_
              refine lv_iconst (v := 1) C.1 C.2.1 dX6_thereAmong_49 (by decide) ?_
              refine lv_iload_n C.1 C.2.1 dX6_thereAmong_50 rfl (lv_at hl 3 rfl) ?_
              refine lv_ishl C.1 C.2.1 dX6_thereAmong_51 ?_
              refine lv_ior C.1 C.2.1 dX6_thereAmong_52 ?_
              refine lv_istore_n (lv' := [(2, .int (x ||| (1 <<< ((nI j) &&& 31)))), (0, .ref (mw_a E (s))), (1, .int h), (3, .int (nI j))]) C.1 C.2.1 dX6_thereAmong_53 rfl hl (by decide) rfl (fun ls hl => ?_)
              refine lv_iinc (v := nI (j + 1)) (lv' := [(3, .int (nI (j + 1))), (2, .int (x ||| (1 <<< ((nI j) &&& 31)))), (0, .ref (mw_a E (s))), (1, .int h)]) C.1 C.2.1 dX6_thereAmong_54 hl (k := 3) rfl (nI_1 _) (by decide) rfl (fun ls hl => ?_)
              refine lv_goto (tgt := 4) C.1 C.2.1 dX6_thereAmong_57 (by decide) ?_
              exact iha (j + 1) (x ||| (1 <<< ((nI j) &&& 31))) _ _ (by omega) (by omega) (by rw [ex]; exact orP_s (if_pos ⟨c6, c7⟩)) hP hS ls (lv_sub hl [2, 3, 1, 0] rfl)
  exact lpa (n + 1) 0 0 _ _ (by omega) (by omega) (rfl) hP hS ls (lv_sub hl [2, 3, 1, 0] rfl)

set_option maxHeartbeats 4000000 in
set_option maxRecDepth 100000 in
theorem cX_bought (l : Launch) (E : mw_E) (σ : mw_M) (s : Nat) (hs : s < 3) (n : Nat) (hn : σ.1 s 6 = nI n) (h8 : n ≤ 8) : mw_Ci shX 75 gX l yX6_boughtByAll cX6_boughtByAll 3 (some .int) (rmF 1 64) E [.ref (mw_a E (s))] σ (fun r u => r = sumP (fun p => cuX σ s p 4) n ∧ u = σ) := by
  refine mw_of (by decide) gX_ok (Nat.le_of_ble_eq_true rfl) ?_
  intro p_ e_ s_ m_ below meth c_ C hr hlk Z hP ls hl
  have C : CallFix p_ m_ c_ cX6_boughtByAll 3 s_ _ lw_good RX6 := C
  have hl : lv_has ls 3 [(0, .ref (mw_a E (s)))] := hl
  have hS : va_S (mw_A 75 E) s_.heap s_.heap [] := va_S.rf
  refine lv_iconst (v := 0) C.1 C.2.1 dX6_boughtByAll_0 (by decide) ?_
  refine lv_istore_n (lv' := [(1, .int 0), (0, .ref (mw_a E (s)))]) C.1 C.2.1 dX6_boughtByAll_1 rfl hl (by decide) rfl (fun ls hl => ?_)
  refine lv_iconst (v := 0) C.1 C.2.1 dX6_boughtByAll_2 (by decide) ?_
  refine lv_istore_n (lv' := [(2, .int 0), (1, .int 0), (0, .ref (mw_a E (s)))]) C.1 C.2.1 dX6_boughtByAll_3 rfl hl (by decide) rfl (fun ls hl => ?_)
  have lpa : ∀ (N : Nat) (j : Nat) (x : Int32) (H : Heap) (locs : List Loc), n + 1 ≤ j + N → (j ≤ n) → (x = sumP (fun p => cuX σ s p 4) j) → va_P (mw_D E) vwCl (mw_ws shX 75 E σ) H → va_S (mw_A 75 E) s_.heap H locs → ∀ (ls : Array Slot), lv_has ls 3 [(0, .ref (mw_a E (s))), (1, .int x), (2, .int (nI j))] → xWi p_ l e_ (rmF 1 64) s_ m_ [.ref (mw_a E (s))] below meth c_ E (fun r u => r = sumP (fun p => cuX σ s p 4) n ∧ u = σ) H locs (F0 m_ 4 ls []) := by
    intro N
    induction N with
    | zero => intros; exfalso; omega
    | succ N iha =>
      intro j x H locs hNa hj ex hP hS ls hl
      refine lv_iload_n C.1 C.2.1 dX6_boughtByAll_4 rfl (lv_at hl 2 rfl) ?_
      refine lv_aload_n C.1 C.2.1 dX6_boughtByAll_5 rfl (lv_at hl 0 rfl) ?_
      refine mw_geti C Z hP (s) 6 (by omega) (sx_st (by omega)) rfl rfl (by decide) inX6 tw_1_92 dX6_boughtByAll_6 ?_
      refine mw_top (y := nI n) (hn) ?_
      refine lv_icmp_ge (tgt := 36) C.1 C.2.1 dX6_boughtByAll_9 (by decide) (fun c1 => ?_) (fun c1 => ?_)
      · have c1 := (nI_leI (by omega) (by omega)).mp c1
        refine lv_iload_n C.1 C.2.1 dX6_boughtByAll_36 rfl (lv_at hl 1 rfl) ?_
        exact mw_iret C hr hlk Z hP hS dX6_boughtByAll_37 (⟨by rw [ex, show j = n by omega], rfl⟩)
      · have c1 : _ := (not_congr (nI_leI (by omega) (by omega))).mp c1
        refine lv_iload_n C.1 C.2.1 dX6_boughtByAll_12 rfl (lv_at hl 2 rfl) ?_
        refine lv_bipush (v := 8) C.1 C.2.1 dX6_boughtByAll_13 (by decide) ?_
        refine lv_icmp_ge (tgt := 36) C.1 C.2.1 dX6_boughtByAll_15 (by decide) (fun c2 => ?_) (fun c2 => ?_)
        · exact absurd ((nI_leI (a := 8) (by decide) (by omega)).mp c2) (by omega)
        · refine lv_iload_n C.1 C.2.1 dX6_boughtByAll_18 rfl (lv_at hl 1 rfl) ?_
          refine lv_aload_n C.1 C.2.1 dX6_boughtByAll_19 rfl (lv_at hl 0 rfl) ?_
          refine mw_getr C Z hP (s) 7 (3 + s) (by omega) (sx_st (by omega)) rfl rfl (by decide) inX6 tw_1_95 dX6_boughtByAll_20 ?_
          refine lv_iload_n C.1 C.2.1 dX6_boughtByAll_23 rfl (lv_at hl 2 rfl) ?_
          refine mw_aald C Z hP (3 + s) (j) (by omega) (sx_ca (by omega)) (by decide) rfl (Nat.lt_of_lt_of_le (by decide : 8 < 961) (Nat.le_of_ble_eq_true rfl)) rfl (by omega) dX6_boughtByAll_24 ?_
          refine mw_geti C Z hP (6 + 8 * s + j) 4 (by omega) (sx_cu (by omega) (by omega)) rfl rfl (by decide) inX1 tw_1_60 dX6_boughtByAll_25 ?_
          refine lv_iadd C.1 C.2.1 dX6_boughtByAll_28 ?_
          refine lv_istore_n (lv' := [(1, .int (x + (σ.1 (6 + 8 * s + j) 4))), (0, .ref (mw_a E (s))), (2, .int (nI j))]) C.1 C.2.1 dX6_boughtByAll_29 rfl hl (by decide) rfl (fun ls hl => ?_)
          refine lv_iinc (v := nI (j + 1)) (lv' := [(2, .int (nI (j + 1))), (1, .int (x + (σ.1 (6 + 8 * s + j) 4))), (0, .ref (mw_a E (s)))]) C.1 C.2.1 dX6_boughtByAll_30 hl (k := 2) rfl (nI_1 _) (by decide) rfl (fun ls hl => ?_)
          refine lv_goto (tgt := 4) C.1 C.2.1 dX6_boughtByAll_33 (by decide) ?_
          exact iha (j + 1) (x + (σ.1 (6 + 8 * s + j) 4)) _ _ (by omega) (by omega) (by rw [ex]; rfl) hP hS ls (lv_sub hl [2, 1, 0] rfl)
  exact lpa (n + 1) 0 0 _ _ (by omega) (by omega) (rfl) hP hS ls (lv_sub hl [2, 1, 0] rfl)

def xBec (σ : mw_M) (s o n : Nat) (u : mw_M) : Prop := (∀ f, f < 7 → u.1 s f = σ.1 o f) ∧ (∀ i f, i < n → f < 5 → u.1 (6 + 8 * s + i) f = σ.1 (6 + 8 * o + i) f) ∧ (∀ k, k ≠ s → ¬ (6 + 8 * s ≤ k ∧ k < 6 + 8 * s + 8) → u.1 k = σ.1 k) ∧ u.2 = σ.2
def bec0 (σ : mw_M) (s o : Nat) : mw_M := mw_si (mw_si (mw_si (mw_si (mw_si (mw_si (mw_si σ s 0 (σ.1 o 0)) s 1 (σ.1 o 1)) s 2 (σ.1 o 2)) s 3 (σ.1 o 3)) s 4 (σ.1 o 4)) s 5 (σ.1 o 5)) s 6 (σ.1 o 6)
theorem bec0_ok (σ : mw_M) {s : Nat} (o : Nat) (hs : s < 3) : xBec σ s o 0 (bec0 σ s o) := by
  refine ⟨fun f hf => ?_, fun i f hi _ => absurd hi (Nat.not_lt_zero i), fun k hk _ => ?_, rfl⟩
  · unfold bec0
    match f, hf with
    | 0, _ => exact (mw_nf (by decide)).trans ((mw_nf (by decide)).trans ((mw_nf (by decide)).trans ((mw_nf (by decide)).trans ((mw_nf (by decide)).trans ((mw_nf (by decide)).trans mw_sf)))))
    | 1, _ => exact (mw_nf (by decide)).trans ((mw_nf (by decide)).trans ((mw_nf (by decide)).trans ((mw_nf (by decide)).trans ((mw_nf (by decide)).trans mw_sf))))
    | 2, _ => exact (mw_nf (by decide)).trans ((mw_nf (by decide)).trans ((mw_nf (by decide)).trans ((mw_nf (by decide)).trans mw_sf)))
    | 3, _ => exact (mw_nf (by decide)).trans ((mw_nf (by decide)).trans ((mw_nf (by decide)).trans mw_sf))
    | 4, _ => exact (mw_nf (by decide)).trans ((mw_nf (by decide)).trans mw_sf)
    | 5, _ => exact (mw_nf (by decide)).trans mw_sf
    | 6, _ => exact mw_sf
  · unfold bec0
    rw [mw_npF hk, mw_npF hk, mw_npF hk, mw_npF hk, mw_npF hk, mw_npF hk, mw_npF hk]
theorem xBec.next {σ u : mw_M} {s o j : Nat} (hs : s < 3) (ho : o < 3) (hso : s ≠ o) (hj : j < 8) (h : xBec σ s o j u) : xBec σ s o (j + 1) (becM u (6 + 8 * s + j) (6 + 8 * o + j)) := by
  obtain ⟨h1, h2, h3, h4⟩ := h
  refine ⟨fun f hf => ?_, fun i f hi hf => ?_, fun k hk hk2 => ?_, h4⟩
  · rw [becM_ne u (by omega)]; exact h1 f hf
  · by_cases e : i = j
    · subst e
      rw [becM_at u _ _ f hf, h3 _ (by omega) (by omega)]
    · rw [becM_ne u (by omega)]; exact h2 i f (by omega) hf
  · rw [becM_ne u (by omega)]; exact h3 k hk hk2

set_option maxHeartbeats 4000000 in
set_option maxRecDepth 100000 in
theorem cX_becomeS (l : Launch) (E : mw_E) (σ : mw_M) (s o : Nat) (hs : s < 3) (ho : o < 3) (hso : s ≠ o) (n : Nat) (hn : σ.1 o 6 = nI n) (h8 : n ≤ 8) : mw_Cv shX 75 gX l yX6_become cX6_become 3 none (rmF 2 85) E [.ref (mw_a E (s)), .ref (mw_a E (o))] σ (fun u => xBec σ s o n u) := by
  refine mw_of (by decide) gX_ok (Nat.le_of_ble_eq_true rfl) ?_
  intro p_ e_ s_ m_ below meth c_ C hr hlk Z hP ls hl
  have C : CallFix p_ m_ c_ cX6_become 3 s_ _ lw_good RX6 := C
  have hl : lv_has ls 3 [(0, .ref (mw_a E (s))), (1, .ref (mw_a E (o)))] := hl
  have hS : va_S (mw_A 75 E) s_.heap s_.heap [] := va_S.rf
  refine lv_aload_n C.1 C.2.1 dX6_become_0 rfl (lv_at hl 0 rfl) ?_
  refine lv_aload_n C.1 C.2.1 dX6_become_1 rfl (lv_at hl 1 rfl) ?_
  refine mw_geti C Z hP (o) 0 (by omega) (sx_st (by omega)) rfl rfl (by decide) inX6 tw_1_73 dX6_become_2 ?_
  refine mw_puti C Z hP hS (s) 0 (by omega) (sx_st (by omega)) rfl rfl (by decide) inX6 tyX6 tyX6_ok nmX6 rfl tw_1_73 rfl rfl dX6_become_5 (fun H locs hP hS => ?_)
  refine lv_aload_n C.1 C.2.1 dX6_become_8 rfl (lv_at hl 0 rfl) ?_
  refine lv_aload_n C.1 C.2.1 dX6_become_9 rfl (lv_at hl 1 rfl) ?_
  refine mw_geti C Z hP (o) 1 (by omega) (sx_st (by omega)) rfl rfl (by decide) inX6 tw_1_77 dX6_become_10 ?_
  refine mw_top (y := σ.1 o 1) (mw_nf (by decide)) ?_
  refine mw_puti C Z hP hS (s) 1 (by omega) (sx_st (by omega)) rfl rfl (by decide) inX6 tyX6 tyX6_ok nmX6 rfl tw_1_77 rfl rfl dX6_become_13 (fun H locs hP hS => ?_)
  refine lv_aload_n C.1 C.2.1 dX6_become_16 rfl (lv_at hl 0 rfl) ?_
  refine lv_aload_n C.1 C.2.1 dX6_become_17 rfl (lv_at hl 1 rfl) ?_
  refine mw_geti C Z hP (o) 2 (by omega) (sx_st (by omega)) rfl rfl (by decide) inX6 tw_1_81 dX6_become_18 ?_
  refine mw_top (y := σ.1 o 2) ((mw_nf (by decide)).trans (mw_nf (by decide))) ?_
  refine mw_puti C Z hP hS (s) 2 (by omega) (sx_st (by omega)) rfl rfl (by decide) inX6 tyX6 tyX6_ok nmX6 rfl tw_1_81 rfl rfl dX6_become_21 (fun H locs hP hS => ?_)
  refine lv_aload_n C.1 C.2.1 dX6_become_24 rfl (lv_at hl 0 rfl) ?_
  refine lv_aload_n C.1 C.2.1 dX6_become_25 rfl (lv_at hl 1 rfl) ?_
  refine mw_geti C Z hP (o) 3 (by omega) (sx_st (by omega)) rfl rfl (by decide) inX6 tw_1_85 dX6_become_26 ?_
  refine mw_top (y := σ.1 o 3) ((mw_nf (by decide)).trans ((mw_nf (by decide)).trans (mw_nf (by decide)))) ?_
  refine mw_puti C Z hP hS (s) 3 (by omega) (sx_st (by omega)) rfl rfl (by decide) inX6 tyX6 tyX6_ok nmX6 rfl tw_1_85 rfl rfl dX6_become_29 (fun H locs hP hS => ?_)
  refine lv_aload_n C.1 C.2.1 dX6_become_32 rfl (lv_at hl 0 rfl) ?_
  refine lv_aload_n C.1 C.2.1 dX6_become_33 rfl (lv_at hl 1 rfl) ?_
  refine mw_geti C Z hP (o) 4 (by omega) (sx_st (by omega)) rfl rfl (by decide) inX6 tw_1_87 dX6_become_34 ?_
  refine mw_top (y := σ.1 o 4) ((mw_nf (by decide)).trans ((mw_nf (by decide)).trans ((mw_nf (by decide)).trans (mw_nf (by decide))))) ?_
  refine mw_puti C Z hP hS (s) 4 (by omega) (sx_st (by omega)) rfl rfl (by decide) inX6 tyX6 tyX6_ok nmX6 rfl tw_1_87 rfl rfl dX6_become_37 (fun H locs hP hS => ?_)
  refine lv_aload_n C.1 C.2.1 dX6_become_40 rfl (lv_at hl 0 rfl) ?_
  refine lv_aload_n C.1 C.2.1 dX6_become_41 rfl (lv_at hl 1 rfl) ?_
  refine mw_geti C Z hP (o) 5 (by omega) (sx_st (by omega)) rfl rfl (by decide) inX6 tw_1_89 dX6_become_42 ?_
  refine mw_top (y := σ.1 o 5) ((mw_nf (by decide)).trans ((mw_nf (by decide)).trans ((mw_nf (by decide)).trans ((mw_nf (by decide)).trans (mw_nf (by decide)))))) ?_
  refine mw_puti C Z hP hS (s) 5 (by omega) (sx_st (by omega)) rfl rfl (by decide) inX6 tyX6 tyX6_ok nmX6 rfl tw_1_89 rfl rfl dX6_become_45 (fun H locs hP hS => ?_)
  refine lv_aload_n C.1 C.2.1 dX6_become_48 rfl (lv_at hl 0 rfl) ?_
  refine lv_aload_n C.1 C.2.1 dX6_become_49 rfl (lv_at hl 1 rfl) ?_
  refine mw_geti C Z hP (o) 6 (by omega) (sx_st (by omega)) rfl rfl (by decide) inX6 tw_1_92 dX6_become_50 ?_
  refine mw_top (y := σ.1 o 6) ((mw_nf (by decide)).trans ((mw_nf (by decide)).trans ((mw_nf (by decide)).trans ((mw_nf (by decide)).trans ((mw_nf (by decide)).trans (mw_nf (by decide))))))) ?_
  refine mw_puti C Z hP hS (s) 6 (by omega) (sx_st (by omega)) rfl rfl (by decide) inX6 tyX6 tyX6_ok nmX6 rfl tw_1_92 rfl rfl dX6_become_53 (fun H locs hP hS => ?_)
  refine lv_iconst (v := 0) C.1 C.2.1 dX6_become_56 (by decide) ?_
  refine lv_istore_n (lv' := [(2, .int 0), (0, .ref (mw_a E (s))), (1, .ref (mw_a E (o)))]) C.1 C.2.1 dX6_become_57 rfl hl (by decide) rfl (fun ls hl => ?_)
  have lpa : ∀ (N : Nat) (j : Nat) (ςa : mw_M) (H : Heap) (locs : List Loc), n + 1 ≤ j + N → (j ≤ n) → xBec σ s o j ςa → va_P (mw_D E) vwCl (mw_ws shX 75 E ςa) H → va_S (mw_A 75 E) s_.heap H locs → ∀ (ls : Array Slot), lv_has ls 3 [(0, .ref (mw_a E (s))), (1, .ref (mw_a E (o))), (2, .int (nI j))] → xWv p_ l e_ (rmF 2 85) s_ m_ [.ref (mw_a E (s)), .ref (mw_a E (o))] below meth c_ E (fun u => xBec σ s o n u) H locs (F0 m_ 58 ls []) := by
    intro N
    induction N with
    | zero => intros; exfalso; omega
    | succ N iha =>
      intro j ςa H locs hNa hj fra hP hS ls hl
      refine lv_iload_n C.1 C.2.1 dX6_become_58 rfl (lv_at hl 2 rfl) ?_
      refine lv_aload_n C.1 C.2.1 dX6_become_59 rfl (lv_at hl 0 rfl) ?_
      refine mw_geti C Z hP (s) 6 (by omega) (sx_st (by omega)) rfl rfl (by decide) inX6 tw_1_92 dX6_become_60 ?_
      refine mw_top (y := nI n) ((fra.1 6 (by decide)).trans hn) ?_
      refine lv_icmp_ge (tgt := 93) C.1 C.2.1 dX6_become_63 (by decide) (fun c1 => ?_) (fun c1 => ?_)
      · have c1 := (nI_leI (by omega) (by omega)).mp c1
        have ej : j = n := by omega
        exact mw_vret C hr hlk Z hP hS dX6_become_93 (ej ▸ fra)
      · have c1 : _ := (not_congr (nI_leI (by omega) (by omega))).mp c1
        refine lv_iload_n C.1 C.2.1 dX6_become_66 rfl (lv_at hl 2 rfl) ?_
        refine lv_bipush (v := 8) C.1 C.2.1 dX6_become_67 (by decide) ?_
        refine lv_icmp_ge (tgt := 93) C.1 C.2.1 dX6_become_69 (by decide) (fun c2 => ?_) (fun c2 => ?_)
        · exact absurd ((nI_leI (a := 8) (by decide) (by omega)).mp c2) (by omega)
        · refine lv_aload_n C.1 C.2.1 dX6_become_72 rfl (lv_at hl 0 rfl) ?_
          refine mw_getr C Z hP (s) 7 (3 + s) (by omega) (sx_st (by omega)) rfl rfl (by decide) inX6 tw_1_95 dX6_become_73 ?_
          refine lv_iload_n C.1 C.2.1 dX6_become_76 rfl (lv_at hl 2 rfl) ?_
          refine mw_aald C Z hP (3 + s) (j) (by omega) (sx_ca (by omega)) (by decide) rfl (Nat.lt_of_lt_of_le (by decide : 8 < 961) (Nat.le_of_ble_eq_true rfl)) rfl (by omega) dX6_become_77 ?_
          refine lv_aload_n C.1 C.2.1 dX6_become_78 rfl (lv_at hl 1 rfl) ?_
          refine mw_getr C Z hP (o) 7 (3 + o) (by omega) (sx_st (by omega)) rfl rfl (by decide) inX6 tw_1_95 dX6_become_79 ?_
          refine lv_iload_n C.1 C.2.1 dX6_become_82 rfl (lv_at hl 2 rfl) ?_
          refine mw_aald C Z hP (3 + o) (j) (by omega) (sx_ca (by omega)) (by decide) rfl (Nat.lt_of_lt_of_le (by decide : 8 < 961) (Nat.le_of_ble_eq_true rfl)) rfl (by omega) dX6_become_83 ?_
          refine mw_cVv (As := [.ref (mw_a E (6 + 8 * o + j))]) (rest := []) C Z hP hS (6 + 8 * s + j) (cX_becomeC l E ςa (6 + 8 * s + j) (6 + 8 * o + j) (by omega) (by omega)) vb_X1_become tw_4_10 ⟨rfl, rfl⟩ ⟨Nat.le_of_ble_eq_true rfl, Nat.le_of_ble_eq_true rfl⟩ (by omega) (sx_cu (by omega) (by omega)) rfl rfl rfl hl.1 rfl (Nat.le_of_ble_eq_true rfl) dX6_become_84 ⟨Nat.zero_le _, Nat.zero_le _⟩ (fun u4 H locs q5 hP hS => ?_)
          subst q5
          refine lv_iinc (v := nI (j + 1)) (lv' := [(2, .int (nI (j + 1))), (0, .ref (mw_a E (s))), (1, .ref (mw_a E (o)))]) C.1 C.2.1 dX6_become_87 hl (k := 2) rfl (nI_1 _) (by decide) rfl (fun ls hl => ?_)
          refine lv_goto (tgt := 58) C.1 C.2.1 dX6_become_90 (by decide) ?_
          exact iha (j + 1) (becM ςa (6 + 8 * s + j) (6 + 8 * o + j)) _ _ (by omega) (by omega) (fra.next hs ho hso (by omega)) hP hS ls (lv_sub hl [1, 2, 0] rfl)
  exact lpa (n + 1) 0 (mw_si (mw_si (mw_si (mw_si (mw_si (mw_si (mw_si σ s 0 (σ.1 o 0)) s 1 (σ.1 o 1)) s 2 (σ.1 o 2)) s 3 (σ.1 o 3)) s 4 (σ.1 o 4)) s 5 (σ.1 o 5)) s 6 (σ.1 o 6)) _ _ (by omega) (by omega) (bec0_ok σ o hs) hP hS ls (lv_sub hl [1, 2, 0] rfl)

def bgM (σ : mw_M) : mw_M := mw_si (mw_si (mw_si σ 64 2 0) 64 0 (-1)) 64 1 0
def bwM (σ : mw_M) (f m : Int32) : mw_M := mw_si (mw_si (mw_si σ 64 2 1) 64 0 f) 64 1 m
def ofM (σ : mw_M) (f m : Int32) : mw_M := if σ.1 64 2 = 0 ∨ σ.1 64 1 < m then bwM σ f m else σ
theorem bw_at (σ : mw_M) (f m : Int32) : (bwM σ f m).1 64 0 = f ∧ (bwM σ f m).1 64 1 = m ∧ (bwM σ f m).1 64 2 = 1 ∧ (∀ k, k ≠ 64 → (bwM σ f m).1 k = σ.1 k) ∧ (bwM σ f m).2 = σ.2 := ⟨rfl, rfl, rfl, fun k hk => by unfold bwM; rw [mw_npF hk, mw_npF hk, mw_npF hk], rfl⟩
theorem bg_at (σ : mw_M) : (bgM σ).1 64 0 = -1 ∧ (bgM σ).1 64 1 = 0 ∧ (bgM σ).1 64 2 = 0 ∧ (∀ k, k ≠ 64 → (bgM σ).1 k = σ.1 k) ∧ (bgM σ).2 = σ.2 := ⟨rfl, rfl, rfl, fun k hk => by unfold bgM; rw [mw_npF hk, mw_npF hk, mw_npF hk], rfl⟩
theorem of_ne (σ : mw_M) (f m : Int32) : (∀ k, k ≠ 64 → (ofM σ f m).1 k = σ.1 k) ∧ (ofM σ f m).2 = σ.2 := by
  unfold ofM
  split
  · exact ⟨(bw_at σ f m).2.2.2.1, (bw_at σ f m).2.2.2.2⟩
  · exact ⟨fun _ _ => rfl, rfl⟩

set_option maxHeartbeats 4000000 in
set_option maxRecDepth 100000 in
theorem cX_begin (l : Launch) (E : mw_E) (σ : mw_M) : mw_Cv shX 75 gX l yX0_begin cX0_begin 1 none (rmF 1 64) E [.ref (mw_a E 64)] σ (fun u => u = bgM σ) := by
  refine mw_of (by decide) gX_ok (Nat.le_of_ble_eq_true rfl) ?_
  intro p_ e_ s_ m_ below meth c_ C hr hlk Z hP ls hl
  have C : CallFix p_ m_ c_ cX0_begin 1 s_ _ lw_good RX0 := C
  have hl : lv_has ls 1 [(0, .ref (mw_a E 64))] := hl
  have hS : va_S (mw_A 75 E) s_.heap s_.heap [] := va_S.rf
  refine lv_aload_n C.1 C.2.1 dX0_begin_0 rfl (lv_at hl 0 rfl) ?_
  refine lv_iconst (v := 0) C.1 C.2.1 dX0_begin_1 (by decide) ?_
  refine mw_puti C Z hP hS (64) 2 (by decide) sx_64 rfl rfl (by decide) inX0 tyX0 tyX0_ok nmX0 rfl tw_1_218 rfl rfl dX0_begin_2 (fun H locs hP hS => ?_)
  refine lv_aload_n C.1 C.2.1 dX0_begin_5 rfl (lv_at hl 0 rfl) ?_
  refine lv_iconst (v := -1) C.1 C.2.1 dX0_begin_6 (by decide) ?_
  refine mw_puti C Z hP hS (64) 0 (by decide) sx_64 rfl rfl (by decide) inX0 tyX0 tyX0_ok nmX0 rfl tw_1_215 rfl rfl dX0_begin_7 (fun H locs hP hS => ?_)
  refine lv_aload_n C.1 C.2.1 dX0_begin_10 rfl (lv_at hl 0 rfl) ?_
  refine lv_iconst (v := 0) C.1 C.2.1 dX0_begin_11 (by decide) ?_
  refine mw_puti C Z hP hS (64) 1 (by decide) sx_64 rfl rfl (by decide) inX0 tyX0 tyX0_ok nmX0 rfl tw_1_217 rfl rfl dX0_begin_12 (fun H locs hP hS => ?_)
  exact mw_vret C hr hlk Z hP hS dX0_begin_15 (rfl)

set_option maxHeartbeats 4000000 in
set_option maxRecDepth 100000 in
theorem cX_beginWith (l : Launch) (E : mw_E) (σ : mw_M) (f m : Int32) : mw_Cv shX 75 gX l yX0_beginWith cX0_beginWith 3 none (rmF 1 64) E [.ref (mw_a E 64), .int f, .int m] σ (fun u => u = bwM σ f m) := by
  refine mw_of (by decide) gX_ok (Nat.le_of_ble_eq_true rfl) ?_
  intro p_ e_ s_ m_ below meth c_ C hr hlk Z hP ls hl
  have C : CallFix p_ m_ c_ cX0_beginWith 3 s_ _ lw_good RX0 := C
  have hl : lv_has ls 3 [(0, .ref (mw_a E 64)), (1, .int f), (2, .int m)] := hl
  have hS : va_S (mw_A 75 E) s_.heap s_.heap [] := va_S.rf
  refine lv_aload_n C.1 C.2.1 dX0_beginWith_0 rfl (lv_at hl 0 rfl) ?_
  refine lv_iconst (v := 1) C.1 C.2.1 dX0_beginWith_1 (by decide) ?_
  refine mw_puti C Z hP hS (64) 2 (by decide) sx_64 rfl rfl (by decide) inX0 tyX0 tyX0_ok nmX0 rfl tw_1_218 rfl rfl dX0_beginWith_2 (fun H locs hP hS => ?_)
  refine lv_aload_n C.1 C.2.1 dX0_beginWith_5 rfl (lv_at hl 0 rfl) ?_
  refine lv_iload_n C.1 C.2.1 dX0_beginWith_6 rfl (lv_at hl 1 rfl) ?_
  refine mw_puti C Z hP hS (64) 0 (by decide) sx_64 rfl rfl (by decide) inX0 tyX0 tyX0_ok nmX0 rfl tw_1_215 rfl rfl dX0_beginWith_7 (fun H locs hP hS => ?_)
  refine lv_aload_n C.1 C.2.1 dX0_beginWith_10 rfl (lv_at hl 0 rfl) ?_
  refine lv_iload_n C.1 C.2.1 dX0_beginWith_11 rfl (lv_at hl 2 rfl) ?_
  refine mw_puti C Z hP hS (64) 1 (by decide) sx_64 rfl rfl (by decide) inX0 tyX0 tyX0_ok nmX0 rfl tw_1_217 rfl rfl dX0_beginWith_12 (fun H locs hP hS => ?_)
  exact mw_vret C hr hlk Z hP hS dX0_beginWith_15 (rfl)

set_option maxHeartbeats 4000000 in
set_option maxRecDepth 100000 in
theorem cX_offer (l : Launch) (E : mw_E) (σ : mw_M) (f m : Int32) : mw_Cv shX 75 gX l yX0_offer cX0_offer 3 none (rmF 2 86) E [.ref (mw_a E 64), .int f, .int m] σ (fun u => u = ofM σ f m) := by
  refine mw_of (by decide) gX_ok (Nat.le_of_ble_eq_true rfl) ?_
  intro p_ e_ s_ m_ below meth c_ C hr hlk Z hP ls hl
  have C : CallFix p_ m_ c_ cX0_offer 3 s_ _ lw_good RX0 := C
  have hl : lv_has ls 3 [(0, .ref (mw_a E 64)), (1, .int f), (2, .int m)] := hl
  have hS : va_S (mw_A 75 E) s_.heap s_.heap [] := va_S.rf
  refine lv_aload_n C.1 C.2.1 dX0_offer_0 rfl (lv_at hl 0 rfl) ?_
  refine mw_geti C Z hP (64) 2 (by decide) sx_64 rfl rfl (by decide) inX0 tw_1_218 dX0_offer_1 ?_
  refine lv_if_eq (tgt := 15) C.1 C.2.1 dX0_offer_4 (by decide) (fun c1 => ?_) (fun c1 => ?_)
  · refine lv_aload_n C.1 C.2.1 dX0_offer_15 rfl (lv_at hl 0 rfl) ?_
    refine lv_iload_n C.1 C.2.1 dX0_offer_16 rfl (lv_at hl 1 rfl) ?_
    refine lv_iload_n C.1 C.2.1 dX0_offer_17 rfl (lv_at hl 2 rfl) ?_
    refine mw_cVv (As := [.int f, .int m]) (rest := []) C Z hP hS (64) (cX_beginWith l E σ f m) vb_X0_beginWith tw_3_192 ⟨rfl, rfl⟩ ⟨Nat.le_of_ble_eq_true rfl, Nat.le_of_ble_eq_true rfl⟩ (by decide) sx_64 rfl rfl rfl hl.1 rfl (Nat.le_of_ble_eq_true rfl) dX0_offer_18 ⟨Nat.zero_le _, Nat.zero_le _⟩ (fun u3 H locs q4 hP hS => ?_)
    subst q4
    exact mw_vret C hr hlk Z hP hS dX0_offer_21 (by unfold ofM; rw [if_pos (Or.inl c1)])
  · refine lv_iload_n C.1 C.2.1 dX0_offer_7 rfl (lv_at hl 2 rfl) ?_
    refine lv_aload_n C.1 C.2.1 dX0_offer_8 rfl (lv_at hl 0 rfl) ?_
    refine mw_geti C Z hP (64) 1 (by decide) sx_64 rfl rfl (by decide) inX0 tw_1_217 dX0_offer_9 ?_
    refine lv_icmp_le (tgt := 21) C.1 C.2.1 dX0_offer_12 (by decide) (fun c5 => ?_) (fun c5 => ?_)
    · exact mw_vret C hr hlk Z hP hS dX0_offer_21 (by unfold ofM; rw [if_neg (fun y => y.elim c1 (fun y => Int32.not_lt.mpr c5 y))])
    · refine lv_aload_n C.1 C.2.1 dX0_offer_15 rfl (lv_at hl 0 rfl) ?_
      refine lv_iload_n C.1 C.2.1 dX0_offer_16 rfl (lv_at hl 1 rfl) ?_
      refine lv_iload_n C.1 C.2.1 dX0_offer_17 rfl (lv_at hl 2 rfl) ?_
      refine mw_cVv (As := [.int f, .int m]) (rest := []) C Z hP hS (64) (cX_beginWith l E σ f m) vb_X0_beginWith tw_3_192 ⟨rfl, rfl⟩ ⟨Nat.le_of_ble_eq_true rfl, Nat.le_of_ble_eq_true rfl⟩ (by decide) sx_64 rfl rfl rfl hl.1 rfl (Nat.le_of_ble_eq_true rfl) dX0_offer_18 ⟨Nat.zero_le _, Nat.zero_le _⟩ (fun u7 H locs q8 hP hS => ?_)
      subst q8
      exact mw_vret C hr hlk Z hP hS dX0_offer_21 (by unfold ofM; rw [if_pos (Or.inr (Int32.not_le.mp c5))])

set_option maxHeartbeats 4000000 in
set_option maxRecDepth 100000 in
theorem cX_answer (l : Launch) (E : mw_E) (σ : mw_M) (w : Int32) : mw_Ci shX 75 gX l yX0_answer cX0_answer 2 (some .int) (rmF 1 64) E [.ref (mw_a E 64), .int w] σ (fun r u => r = (if w = 0 then σ.1 64 0 else σ.1 64 1) ∧ u = σ) := by
  refine mw_of (by decide) gX_ok (Nat.le_of_ble_eq_true rfl) ?_
  intro p_ e_ s_ m_ below meth c_ C hr hlk Z hP ls hl
  have C : CallFix p_ m_ c_ cX0_answer 2 s_ _ lw_good RX0 := C
  have hl : lv_has ls 2 [(0, .ref (mw_a E 64)), (1, .int w)] := hl
  have hS : va_S (mw_A 75 E) s_.heap s_.heap [] := va_S.rf
  refine lv_iload_n C.1 C.2.1 dX0_answer_0 rfl (lv_at hl 1 rfl) ?_
  refine lv_if_ne (tgt := 11) C.1 C.2.1 dX0_answer_1 (by decide) (fun c1 => ?_) (fun c1 => ?_)
  · refine lv_aload_n C.1 C.2.1 dX0_answer_11 rfl (lv_at hl 0 rfl) ?_
    refine mw_geti C Z hP (64) 1 (by decide) sx_64 rfl rfl (by decide) inX0 tw_1_217 dX0_answer_12 ?_
    exact mw_iret C hr hlk Z hP hS dX0_answer_15 (⟨by rw [if_neg c1], rfl⟩)
  · refine lv_aload_n C.1 C.2.1 dX0_answer_4 rfl (lv_at hl 0 rfl) ?_
    refine mw_geti C Z hP (64) 0 (by decide) sx_64 rfl rfl (by decide) inX0 tw_1_215 dX0_answer_5 ?_
    refine lv_goto (tgt := 15) C.1 C.2.1 dX0_answer_8 (by decide) ?_
    exact mw_iret C hr hlk Z hP hS dX0_answer_15 (⟨by rw [if_pos c1], rfl⟩)

theorem two_mod {y r : Nat} (h : 0 < r) (hr : r < y) : 2 * (y % r) < y := by
  have h1 := Nat.mod_lt y h
  have h2 := Nat.div_add_mod y r
  have h3 : 1 ≤ y / r := Nat.div_pos (by omega) h
  have h4 : r * 1 ≤ r * (y / r) := Nat.mul_le_mul_left r h3
  omega
theorem gcd_turn {y t : Nat} (h0 : 0 < y) (h : y * 2 ^ (t / 2) < 2 ^ 63) : t < 126 := by
  have h1 : 2 ^ (t / 2) < 2 ^ 63 := Nat.lt_of_le_of_lt (Nat.le_mul_of_pos_left _ h0) h
  have h2 := (Nat.pow_lt_pow_iff_right (by decide : 1 < 2)).mp h1
  omega
theorem gcd_next {x y t : Nat} (h0 : 0 < y) (h : y * 2 ^ (t / 2) < 2 ^ 63) : 0 < x % y → (y % (x % y)) * 2 ^ ((t + 1 + 1) / 2) < 2 ^ 63 := by
  intro h1
  have h2 := two_mod h1 (Nat.mod_lt x h0)
  rw [show (t + 1 + 1) / 2 = t / 2 + 1 by omega, Nat.pow_succ, show y % (x % y) * (2 ^ (t / 2) * 2) = 2 * (y % (x % y)) * 2 ^ (t / 2) by rw [Nat.mul_comm (2 ^ (t / 2)) 2, ← Nat.mul_assoc, Nat.mul_comm (y % (x % y)) 2]]
  exact Nat.lt_of_le_of_lt (Nat.mul_le_mul_right _ (Nat.le_of_lt h2)) h

set_option maxHeartbeats 4000000 in
set_option maxRecDepth 100000 in
theorem cX_common (l : Launch) (E : mw_E) (σ : mw_M) (a b : Nat) (ha : a < 2 ^ 63) (hb : b < 2 ^ 63) : mw_Cl shX 75 gX l yX2_commonOf cX2_commonOf 11 (some .long) (rmF 1 64) E [.long (lN a), .long (lN b)] σ (fun r u => r = lN (Nat.gcd a b) ∧ u = σ) := by
  refine mw_of (by decide) gX_ok (Nat.le_of_ble_eq_true rfl) ?_
  intro p_ e_ s_ m_ below meth c_ C hr hlk Z hP ls hl
  have C : CallFix p_ m_ c_ cX2_commonOf 11 s_ _ lw_good RX2 := C
  have hl : lv_has ls 11 [(0, .long (lN a)), (2, .long (lN b))] := hl
  have hS : va_S (mw_A 75 E) s_.heap s_.heap [] := va_S.rf
  refine lv_lload_n C.1 C.2.1 dX2_commonOf_0 rfl (lv_at hl 0 rfl) ?_
  refine lv_lstore (lv' := [(4, .long (lN a)), (0, .long (lN a)), (2, .long (lN b))]) C.1 C.2.1 dX2_commonOf_1 hl (by decide) rfl (fun ls hl => ?_)
  refine lv_lload_n C.1 C.2.1 dX2_commonOf_3 rfl (lv_at hl 2 rfl) ?_
  refine lv_lstore (lv' := [(6, .long (lN b)), (4, .long (lN a)), (0, .long (lN a)), (2, .long (lN b))]) C.1 C.2.1 dX2_commonOf_4 hl (by decide) rfl (fun ls hl => ?_)
  refine lv_iconst (v := 0) C.1 C.2.1 dX2_commonOf_6 (by decide) ?_
  refine lv_istore (lv' := [(8, .int 0), (6, .long (lN b)), (4, .long (lN a)), (0, .long (lN a)), (2, .long (lN b))]) C.1 C.2.1 dX2_commonOf_7 hl (by decide) rfl (fun ls hl => ?_)
  have lpa : ∀ (N : Nat) (x : Nat) (y : Nat) (t : Nat) (H : Heap) (locs : List Loc), 201 ≤ t + N → (x < 2 ^ 63) → (y < 2 ^ 63) → (Nat.gcd x y = Nat.gcd a b) → (y * 2 ^ (t / 2) < 2 ^ 63) → (0 < y → (x % y) * 2 ^ ((t + 1) / 2) < 2 ^ 63) → (t ≤ 126) → va_P (mw_D E) vwCl (mw_ws shX 75 E σ) H → va_S (mw_A 75 E) s_.heap H locs → ∀ (ls : Array Slot), lv_has ls 11 [(0, .long (lN a)), (2, .long (lN b)), (4, .long (lN x)), (6, .long (lN y)), (8, .int (nI t))] → xWl p_ l e_ (rmF 1 64) s_ m_ [.long (lN a), .long (lN b)] below meth c_ E (fun r u => r = lN (Nat.gcd a b) ∧ u = σ) H locs (F0 m_ 9 ls []) := by
    intro N
    induction N with
    | zero => intros; exfalso; omega
    | succ N iha =>
      intro x y t H locs hNa hx hy hg h1 h2 ht hP hS ls hl
      refine lv_iload C.1 C.2.1 dX2_commonOf_9 (lv_at hl 4 rfl) ?_
      refine lv_sipush (v := 200) C.1 C.2.1 dX2_commonOf_11 (by decide) ?_
      refine lv_icmp_ge (tgt := 45) C.1 C.2.1 dX2_commonOf_14 (by decide) (fun c1 => ?_) (fun c1 => ?_)
      · refine lv_lload C.1 C.2.1 dX2_commonOf_45 (lv_at hl 2 rfl) ?_
        exfalso; have := (nI_leI (a := 200) (by decide) (by omega)).mp c1; omega
      · refine lv_lload C.1 C.2.1 dX2_commonOf_17 (lv_at hl 3 rfl) ?_
        refine lv_lconst (v := 0) C.1 C.2.1 dX2_commonOf_19 (by decide) ?_
        refine W.lcmp C.1 C.2.1 dX2_commonOf_20 ?_
        refine lv_if_eq (tgt := 45) C.1 C.2.1 dX2_commonOf_21 (by decide) (fun c2 => ?_) (fun c2 => ?_)
        · have c2 := (lg_cmp_eq _ _).mp c2
          refine lv_lload C.1 C.2.1 dX2_commonOf_45 (lv_at hl 2 rfl) ?_
          have hy0 : y = 0 := by have z := (pk_lEQ (b := 0) hy (by decide)).mp c2; exact z
          exact mw_lret C hr hlk Z hP hS dX2_commonOf_47 (⟨by rw [← hg, hy0, Nat.gcd_zero_right], rfl⟩)
        · have c2 := (not_congr (lg_cmp_eq _ _)).mp c2
          have hy0 : 0 < y := Nat.pos_of_ne_zero (fun z => c2 ((pk_lEQ (b := 0) hy (by decide)).mpr z))
          refine lv_lload C.1 C.2.1 dX2_commonOf_24 (lv_at hl 2 rfl) ?_
          refine lv_lload C.1 C.2.1 dX2_commonOf_26 (lv_at hl 3 rfl) ?_
          refine lv_lrem C.1 C.2.1 dX2_commonOf_28 (fun z => Nat.lt_irrefl 0 (by have := (pk_lEQ (b := 0) hy (by decide)).mp z; omega)) ?_
          refine mw_topl (y := lN (x % y)) (pk_lRem hx hy0 hy) ?_
          refine lv_lstore (lv' := [(9, .long (lN (x % y))), (0, .long (lN a)), (2, .long (lN b)), (4, .long (lN x)), (6, .long (lN y)), (8, .int (nI t))]) C.1 C.2.1 dX2_commonOf_29 hl (by decide) rfl (fun ls hl => ?_)
          refine lv_lload C.1 C.2.1 dX2_commonOf_31 (lv_at hl 4 rfl) ?_
          refine lv_lstore (lv' := [(4, .long (lN y)), (9, .long (lN (x % y))), (0, .long (lN a)), (2, .long (lN b)), (6, .long (lN y)), (8, .int (nI t))]) C.1 C.2.1 dX2_commonOf_33 hl (by decide) rfl (fun ls hl => ?_)
          refine lv_lload C.1 C.2.1 dX2_commonOf_35 (lv_at hl 1 rfl) ?_
          refine lv_lstore (lv' := [(6, .long (lN (x % y))), (4, .long (lN y)), (9, .long (lN (x % y))), (0, .long (lN a)), (2, .long (lN b)), (8, .int (nI t))]) C.1 C.2.1 dX2_commonOf_37 hl (by decide) rfl (fun ls hl => ?_)
          refine lv_iinc (v := nI (t + 1)) (lv' := [(8, .int (nI (t + 1))), (6, .long (lN (x % y))), (4, .long (lN y)), (9, .long (lN (x % y))), (0, .long (lN a)), (2, .long (lN b))]) C.1 C.2.1 dX2_commonOf_39 hl (k := 5) rfl (nI_1 _) (by decide) rfl (fun ls hl => ?_)
          refine lv_goto (tgt := 9) C.1 C.2.1 dX2_commonOf_42 (by decide) ?_
          exact iha y (x % y) (t + 1) _ _ (by omega) (hy) (by have := Nat.mod_lt x hy0; omega) (by rw [← hg, Nat.gcd_comm x y, Nat.gcd_rec y x, Nat.gcd_comm]) (h2 hy0) (gcd_next hy0 h1) (by have := gcd_turn hy0 h1; omega) hP hS ls (lv_sub hl [4, 5, 2, 1, 0] rfl)
  exact lpa (201) a b 0 _ _ (by omega) (ha) (hb) (rfl) (by rw [show 2 ^ (0 / 2) = 1 from rfl, Nat.mul_one]; exact hb) (fun h0 => by rw [show 2 ^ ((0 + 1) / 2) = 1 from rfl, Nat.mul_one]; have := Nat.mod_lt a h0; omega) (by omega) hP hS ls (lv_sub hl [3, 4, 2, 1, 0] rfl)

def fraM (σ : mw_M) (a b : Nat) : mw_M := mw_sl (mw_sl σ 65 0 (lN (a / Nat.gcd a b))) 65 1 (lN (b / Nat.gcd a b))
theorem gcd_lt {a b : Nat} (ha : a < 2 ^ 63) (hb : b < 2 ^ 63) : Nat.gcd a b < 2 ^ 63 := by
  rcases Nat.eq_zero_or_pos a with h | h
  · rw [h, Nat.gcd_zero_left]; exact hb
  · have := Nat.gcd_le_left b h; omega
theorem fra_0 {a b : Nat} (h : ¬ 0 < Nat.gcd a b) : a / Nat.gcd a b = a ∧ b / Nat.gcd a b = b := by
  have h0 : Nat.gcd a b = 0 := by omega
  have := Nat.eq_zero_of_gcd_eq_zero_left h0
  have := Nat.eq_zero_of_gcd_eq_zero_right h0
  subst_vars
  exact ⟨rfl, rfl⟩

set_option maxHeartbeats 4000000 in
set_option maxRecDepth 100000 in
theorem cX_layF (l : Launch) (E : mw_E) (σ : mw_M) (a b : Nat) (ha : a < 2 ^ 63) (hb : b < 2 ^ 63) : mw_Cv shX 75 gX l yX2_lay cX2_lay 7 none (rmF 2 94) E [.ref (mw_a E 65), .long (lN a), .long (lN b)] σ (fun u => u = fraM σ a b) := by
  refine mw_of (by decide) gX_ok (Nat.le_of_ble_eq_true rfl) ?_
  intro p_ e_ s_ m_ below meth c_ C hr hlk Z hP ls hl
  have C : CallFix p_ m_ c_ cX2_lay 7 s_ _ lw_good RX2 := C
  have hl : lv_has ls 7 [(0, .ref (mw_a E 65)), (1, .long (lN a)), (3, .long (lN b))] := hl
  have hS : va_S (mw_A 75 E) s_.heap s_.heap [] := va_S.rf
  refine lv_lload_n C.1 C.2.1 dX2_lay_0 rfl (lv_at hl 1 rfl) ?_
  refine lv_lload_n C.1 C.2.1 dX2_lay_1 rfl (lv_at hl 2 rfl) ?_
  refine mw_cSl (As := [.long (lN a), .long (lN b)]) (rest := []) C Z hP hS (cX_common l E σ a b ha hb) sb_X2_commonOf tw_3_210 ⟨rfl, rfl⟩ ⟨Nat.le_of_ble_eq_true rfl, Nat.le_of_ble_eq_true rfl⟩ rfl hl.1 rfl (Nat.le_of_ble_eq_true rfl) dX2_lay_2 ⟨Nat.zero_le _, Nat.zero_le _⟩ (fun r1 u2 H locs q3 hP hS => ?_)
  obtain ⟨rfl, q3u⟩ := q3
  rw [q3u] at hP; clear q3u
  refine lv_lstore (lv' := [(5, .long (lN (Nat.gcd a b))), (0, .ref (mw_a E 65)), (1, .long (lN a)), (3, .long (lN b))]) C.1 C.2.1 dX2_lay_5 hl (by decide) rfl (fun ls hl => ?_)
  refine lv_aload_n C.1 C.2.1 dX2_lay_7 rfl (lv_at hl 1 rfl) ?_
  refine lv_lload C.1 C.2.1 dX2_lay_8 (lv_at hl 0 rfl) ?_
  refine lv_lconst (v := 0) C.1 C.2.1 dX2_lay_10 (by decide) ?_
  refine W.lcmp C.1 C.2.1 dX2_lay_11 ?_
  refine lv_if_le (tgt := 22) C.1 C.2.1 dX2_lay_12 (by decide) (fun c4 => ?_) (fun c4 => ?_)
  · have c4 := (lg_cmp_le _ _).mp c4
    have g0 : ¬ 0 < Nat.gcd a b := by have y := (pk_lLE (b := 0) (gcd_lt ha hb) (by decide)).mp c4; omega
    refine lv_lload_n C.1 C.2.1 dX2_lay_22 rfl (lv_at hl 2 rfl) ?_
    refine mw_topl (y := lN (a / Nat.gcd a b)) (by rw [(fra_0 g0).1]) ?_
    refine mw_putl C Z hP hS (65) 0 (by decide) sx_65 rfl rfl (by decide) inX2 tyX2 tyX2_ok nmX2 rfl tw_1_232 rfl rfl dX2_lay_23 (fun H locs hP hS => ?_)
    refine lv_aload_n C.1 C.2.1 dX2_lay_26 rfl (lv_at hl 1 rfl) ?_
    refine lv_lload C.1 C.2.1 dX2_lay_27 (lv_at hl 0 rfl) ?_
    refine lv_lconst (v := 0) C.1 C.2.1 dX2_lay_29 (by decide) ?_
    refine W.lcmp C.1 C.2.1 dX2_lay_30 ?_
    refine lv_if_le (tgt := 41) C.1 C.2.1 dX2_lay_31 (by decide) (fun c5 => ?_) (fun c5 => ?_)
    · have c5 := (lg_cmp_le _ _).mp c5
      refine lv_lload_n C.1 C.2.1 dX2_lay_41 rfl (lv_at hl 3 rfl) ?_
      refine mw_topl (y := lN (b / Nat.gcd a b)) (by rw [(fra_0 g0).2]) ?_
      refine mw_putl C Z hP hS (65) 1 (by decide) sx_65 rfl rfl (by decide) inX2 tyX2 tyX2_ok nmX2 rfl tw_1_234 rfl rfl dX2_lay_42 (fun H locs hP hS => ?_)
      exact mw_vret C hr hlk Z hP hS dX2_lay_45 (rfl)
    · have c5 := (not_congr (lg_cmp_le _ _)).mp c5
      exact absurd (by have y := (not_congr (pk_lLE (b := 0) (gcd_lt ha hb) (by decide))).mp c5; omega) g0
  · have c4 := (not_congr (lg_cmp_le _ _)).mp c4
    have g0 : 0 < Nat.gcd a b := by have y := (not_congr (pk_lLE (b := 0) (gcd_lt ha hb) (by decide))).mp c4; omega
    refine lv_lload_n C.1 C.2.1 dX2_lay_15 rfl (lv_at hl 2 rfl) ?_
    refine lv_lload C.1 C.2.1 dX2_lay_16 (lv_at hl 0 rfl) ?_
    refine lv_ldiv C.1 C.2.1 dX2_lay_18 (fun z => by have := (pk_lEQ (b := 0) (gcd_lt ha hb) (by decide)).mp z; omega) ?_
    refine lv_goto (tgt := 23) C.1 C.2.1 dX2_lay_19 (by decide) ?_
    refine mw_topl (y := lN (a / Nat.gcd a b)) (pk_lDiv ha g0 (gcd_lt ha hb)) ?_
    refine mw_putl C Z hP hS (65) 0 (by decide) sx_65 rfl rfl (by decide) inX2 tyX2 tyX2_ok nmX2 rfl tw_1_232 rfl rfl dX2_lay_23 (fun H locs hP hS => ?_)
    refine lv_aload_n C.1 C.2.1 dX2_lay_26 rfl (lv_at hl 1 rfl) ?_
    refine lv_lload C.1 C.2.1 dX2_lay_27 (lv_at hl 0 rfl) ?_
    refine lv_lconst (v := 0) C.1 C.2.1 dX2_lay_29 (by decide) ?_
    refine W.lcmp C.1 C.2.1 dX2_lay_30 ?_
    refine lv_if_le (tgt := 41) C.1 C.2.1 dX2_lay_31 (by decide) (fun c6 => ?_) (fun c6 => ?_)
    · have c6 := (lg_cmp_le _ _).mp c6
      exact absurd g0 (by have y := (pk_lLE (b := 0) (gcd_lt ha hb) (by decide)).mp c6; omega)
    · have c6 := (not_congr (lg_cmp_le _ _)).mp c6
      refine lv_lload_n C.1 C.2.1 dX2_lay_34 rfl (lv_at hl 3 rfl) ?_
      refine lv_lload C.1 C.2.1 dX2_lay_35 (lv_at hl 0 rfl) ?_
      refine lv_ldiv C.1 C.2.1 dX2_lay_37 (fun z => by have := (pk_lEQ (b := 0) (gcd_lt ha hb) (by decide)).mp z; omega) ?_
      refine lv_goto (tgt := 42) C.1 C.2.1 dX2_lay_38 (by decide) ?_
      refine mw_topl (y := lN (b / Nat.gcd a b)) (pk_lDiv hb g0 (gcd_lt ha hb)) ?_
      refine mw_putl C Z hP hS (65) 1 (by decide) sx_65 rfl rfl (by decide) inX2 tyX2 tyX2_ok nmX2 rfl tw_1_234 rfl rfl dX2_lay_42 (fun H locs hP hS => ?_)
      exact mw_vret C hr hlk Z hP hS dX2_lay_45 (rfl)

set_option maxHeartbeats 4000000 in
set_option maxRecDepth 100000 in
theorem cX_plusF (l : Launch) (E : mw_E) (σ : mw_M) (a b c d : Nat) (h0 : σ.2.2 65 0 = lN a) (h1 : σ.2.2 65 1 = lN b) (ha : a * d + c * b < 2 ^ 63) (hb : b * d < 2 ^ 63) : mw_Cv shX 75 gX l yX2_plus cX2_plus 5 none (rmF 3 120) E [.ref (mw_a E 65), .long (lN c), .long (lN d)] σ (fun u => u = fraM σ (a * d + c * b) (b * d)) := by
  refine mw_of (by decide) gX_ok (Nat.le_of_ble_eq_true rfl) ?_
  intro p_ e_ s_ m_ below meth c_ C hr hlk Z hP ls hl
  have C : CallFix p_ m_ c_ cX2_plus 5 s_ _ lw_good RX2 := C
  have hl : lv_has ls 5 [(0, .ref (mw_a E 65)), (1, .long (lN c)), (3, .long (lN d))] := hl
  have hS : va_S (mw_A 75 E) s_.heap s_.heap [] := va_S.rf
  refine lv_aload_n C.1 C.2.1 dX2_plus_0 rfl (lv_at hl 0 rfl) ?_
  refine lv_aload_n C.1 C.2.1 dX2_plus_1 rfl (lv_at hl 0 rfl) ?_
  refine mw_getl C Z hP (65) 0 (by decide) sx_65 rfl rfl (by decide) inX2 tw_1_232 dX2_plus_2 ?_
  refine mw_topl (y := lN a) (h0) ?_
  refine lv_lload_n C.1 C.2.1 dX2_plus_5 rfl (lv_at hl 2 rfl) ?_
  refine lv_lmul C.1 C.2.1 dX2_plus_6 ?_
  refine mw_topl (y := lN (a * d)) (lN_mul _ _) ?_
  refine lv_lload_n C.1 C.2.1 dX2_plus_7 rfl (lv_at hl 1 rfl) ?_
  refine lv_aload_n C.1 C.2.1 dX2_plus_8 rfl (lv_at hl 0 rfl) ?_
  refine mw_getl C Z hP (65) 1 (by decide) sx_65 rfl rfl (by decide) inX2 tw_1_234 dX2_plus_9 ?_
  refine mw_topl (y := lN b) (h1) ?_
  refine lv_lmul C.1 C.2.1 dX2_plus_12 ?_
  refine mw_topl (y := lN (c * b)) (lN_mul _ _) ?_
  refine lv_ladd C.1 C.2.1 dX2_plus_13 ?_
  refine mw_topl (y := lN (a * d + c * b)) (lN_add _ _) ?_
  refine lv_aload_n C.1 C.2.1 dX2_plus_14 rfl (lv_at hl 0 rfl) ?_
  refine mw_getl C Z hP (65) 1 (by decide) sx_65 rfl rfl (by decide) inX2 tw_1_234 dX2_plus_15 ?_
  refine mw_topl (y := lN b) (h1) ?_
  refine lv_lload_n C.1 C.2.1 dX2_plus_18 rfl (lv_at hl 2 rfl) ?_
  refine lv_lmul C.1 C.2.1 dX2_plus_19 ?_
  refine mw_topl (y := lN (b * d)) (lN_mul _ _) ?_
  refine mw_cVv (As := [.long (lN (a * d + c * b)), .long (lN (b * d))]) (rest := []) C Z hP hS (65) (cX_layF l E σ (a * d + c * b) (b * d) ha hb) vb_X2_lay tw_3_221 ⟨rfl, rfl⟩ ⟨Nat.le_of_ble_eq_true rfl, Nat.le_of_ble_eq_true rfl⟩ (by decide) sx_65 rfl rfl rfl hl.1 rfl (Nat.le_of_ble_eq_true rfl) dX2_plus_20 ⟨Nat.zero_le _, Nat.zero_le _⟩ (fun u2 H locs q3 hP hS => ?_)
  subst q3
  exact mw_vret C hr hlk Z hP hS dX2_plus_23 (rfl)

set_option maxHeartbeats 4000000 in
set_option maxRecDepth 100000 in
theorem cX_timesF (l : Launch) (E : mw_E) (σ : mw_M) (a b c d : Nat) (h0 : σ.2.2 65 0 = lN a) (h1 : σ.2.2 65 1 = lN b) (ha : a * c < 2 ^ 63) (hb : b * d < 2 ^ 63) : mw_Cv shX 75 gX l yX2_times cX2_times 5 none (rmF 3 120) E [.ref (mw_a E 65), .long (lN c), .long (lN d)] σ (fun u => u = fraM σ (a * c) (b * d)) := by
  refine mw_of (by decide) gX_ok (Nat.le_of_ble_eq_true rfl) ?_
  intro p_ e_ s_ m_ below meth c_ C hr hlk Z hP ls hl
  have C : CallFix p_ m_ c_ cX2_times 5 s_ _ lw_good RX2 := C
  have hl : lv_has ls 5 [(0, .ref (mw_a E 65)), (1, .long (lN c)), (3, .long (lN d))] := hl
  have hS : va_S (mw_A 75 E) s_.heap s_.heap [] := va_S.rf
  refine lv_aload_n C.1 C.2.1 dX2_times_0 rfl (lv_at hl 0 rfl) ?_
  refine lv_aload_n C.1 C.2.1 dX2_times_1 rfl (lv_at hl 0 rfl) ?_
  refine mw_getl C Z hP (65) 0 (by decide) sx_65 rfl rfl (by decide) inX2 tw_1_232 dX2_times_2 ?_
  refine mw_topl (y := lN a) (h0) ?_
  refine lv_lload_n C.1 C.2.1 dX2_times_5 rfl (lv_at hl 1 rfl) ?_
  refine lv_lmul C.1 C.2.1 dX2_times_6 ?_
  refine mw_topl (y := lN (a * c)) (lN_mul _ _) ?_
  refine lv_aload_n C.1 C.2.1 dX2_times_7 rfl (lv_at hl 0 rfl) ?_
  refine mw_getl C Z hP (65) 1 (by decide) sx_65 rfl rfl (by decide) inX2 tw_1_234 dX2_times_8 ?_
  refine mw_topl (y := lN b) (h1) ?_
  refine lv_lload_n C.1 C.2.1 dX2_times_11 rfl (lv_at hl 2 rfl) ?_
  refine lv_lmul C.1 C.2.1 dX2_times_12 ?_
  refine mw_topl (y := lN (b * d)) (lN_mul _ _) ?_
  refine mw_cVv (As := [.long (lN (a * c)), .long (lN (b * d))]) (rest := []) C Z hP hS (65) (cX_layF l E σ (a * c) (b * d) ha hb) vb_X2_lay tw_3_221 ⟨rfl, rfl⟩ ⟨Nat.le_of_ble_eq_true rfl, Nat.le_of_ble_eq_true rfl⟩ (by decide) sx_65 rfl rfl rfl hl.1 rfl (Nat.le_of_ble_eq_true rfl) dX2_times_13 ⟨Nat.zero_le _, Nat.zero_le _⟩ (fun u2 H locs q3 hP hS => ?_)
  subst q3
  exact mw_vret C hr hlk Z hP hS dX2_times_16 (rfl)

set_option maxHeartbeats 4000000 in
set_option maxRecDepth 100000 in
theorem cX_part (l : Launch) (E : mw_E) (σ : mw_M) (w : Int32) : mw_Cl shX 75 gX l yX2_part cX2_part 2 (some .long) (rmF 1 64) E [.ref (mw_a E 65), .int w] σ (fun r u => r = (if w = 0 then σ.2.2 65 0 else σ.2.2 65 1) ∧ u = σ) := by
  refine mw_of (by decide) gX_ok (Nat.le_of_ble_eq_true rfl) ?_
  intro p_ e_ s_ m_ below meth c_ C hr hlk Z hP ls hl
  have C : CallFix p_ m_ c_ cX2_part 2 s_ _ lw_good RX2 := C
  have hl : lv_has ls 2 [(0, .ref (mw_a E 65)), (1, .int w)] := hl
  have hS : va_S (mw_A 75 E) s_.heap s_.heap [] := va_S.rf
  refine lv_iload_n C.1 C.2.1 dX2_part_0 rfl (lv_at hl 1 rfl) ?_
  refine lv_if_ne (tgt := 11) C.1 C.2.1 dX2_part_1 (by decide) (fun c1 => ?_) (fun c1 => ?_)
  · refine lv_aload_n C.1 C.2.1 dX2_part_11 rfl (lv_at hl 0 rfl) ?_
    refine mw_getl C Z hP (65) 1 (by decide) sx_65 rfl rfl (by decide) inX2 tw_1_234 dX2_part_12 ?_
    exact mw_lret C hr hlk Z hP hS dX2_part_15 (⟨by rw [if_neg c1], rfl⟩)
  · refine lv_aload_n C.1 C.2.1 dX2_part_4 rfl (lv_at hl 0 rfl) ?_
    refine mw_getl C Z hP (65) 0 (by decide) sx_65 rfl rfl (by decide) inX2 tw_1_232 dX2_part_5 ?_
    refine lv_goto (tgt := 15) C.1 C.2.1 dX2_part_8 (by decide) ?_
    exact mw_lret C hr hlk Z hP hS dX2_part_15 (⟨by rw [if_pos c1], rfl⟩)
