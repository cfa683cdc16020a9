/-! THE CLASS: BUYING THAT IS DRAWN -/
def xDr (σ : mw_M) (s : Nat) (z : zP) (seed : Int32) (j : Nat) (u : mw_M) : Prop := (∀ k, ¬ (6 + 8 * s ≤ k ∧ k < 6 + 8 * s + j) → u.1 k = σ.1 k) ∧ (∀ p, p < j → ∀ f, u.1 (6 + 8 * s + p) f = if f = 4 ∧ sdB z (σ.1 s) (cuX σ s) seed p then mnF (σ.1 (6 + 8 * s + p) 4 + 1) 999 else σ.1 (6 + 8 * s + p) f) ∧ u.2.2 = σ.2.2 ∧ ∀ k, k < 57 ∨ 63 ≤ k → u.2.1 k = σ.2.1 k
theorem xDr.z0 (σ : mw_M) (s : Nat) (z : zP) (seed : Int32) : xDr σ s z seed 0 σ := ⟨fun _ _ => rfl, fun p hp => absurd hp (Nat.not_lt_zero p), rfl, fun _ _ => rfl⟩
theorem xDr.no {σ ς u : mw_M} {s j : Nat} {z : zP} {seed : Int32} (h : xDr σ s z seed j ς) (f : xFs ς u) (hb : ¬ sdB z (σ.1 s) (cuX σ s) seed j) : xDr σ s z seed (j + 1) u := by
  obtain ⟨h1, h2, h3, h4⟩ := h
  refine ⟨fun k hk => ?_, fun p hp q => ?_, f.2.1.trans h3, fun k hk => (f.2.2 k hk).trans (h4 k hk)⟩
  · rw [f.1]; exact h1 k (by omega)
  · rw [f.1]
    by_cases e : p = j
    · subst e
      rw [h1 _ (by omega), if_neg (fun y => hb y.2)]
    · exact h2 p (by omega) q
theorem xDr.yes {σ ς u : mw_M} {s j : Nat} {z : zP} {seed : Int32} (h : xDr σ s z seed j ς) (f : xFs ς u) (hb : sdB z (σ.1 s) (cuX σ s) seed j) : xDr σ s z seed (j + 1) (mw_si u (6 + 8 * s + j) 4 (mnF (σ.1 (6 + 8 * s + j) 4 + 1) 999)) := by
  obtain ⟨h1, h2, h3, h4⟩ := h
  refine ⟨fun k hk => ?_, fun p hp q => ?_, f.2.1.trans h3, fun k hk => (f.2.2 k hk).trans (h4 k hk)⟩
  · rw [mw_npF (by omega), f.1]; exact h1 k (by omega)
  · by_cases e : p = j
    · subst e
      by_cases e4 : q = 4
      · subst e4
        rw [mw_sf, if_pos ⟨rfl, hb⟩]
      · rw [mw_nf e4, f.1, h1 _ (by omega), if_neg (fun y => e4 y.1)]
    · rw [mw_np (by omega), f.1]
      exact h2 p (by omega) q
theorem xDr.ru {σ ς : mw_M} {s j : Nat} {z : zP} {seed : Int32} (h : xDr σ s z seed j ς) (hj : j ≤ 8) (hs : s < 3) (hr : xRu σ s z) : xRu ς s z := by
  obtain ⟨t, tc, h1, h2, h3, h4, h5⟩ := hr
  have ht := h5.1
  refine ⟨t, tc, by rw [h.1 s (by omega)]; exact h1, by rw [h.1 37 (by omega)]; exact h2, h3, h4, ?_⟩
  unfold xTx xSeg at *
  rw [h.2.2.2 (51 + t) (by omega), h.2.2.2 (45 + t) (by omega)]
  exact h5

set_option maxHeartbeats 4000000 in
set_option maxRecDepth 100000 in
theorem cX_drawn0 (l : Launch) (E : mw_E) (σ : mw_M) (s : Nat) (hs : s < 3) (n : Nat) (hn : σ.1 s 6 = nI n) (h8 : n ≤ 8) (z : zP) (hru : xRu σ s z) (seed : Int32) : mw_Ci shX 75 gX l yX4_drawn cX4_drawn 9 (some .int) (rmF 5 155) E [.ref (mw_a E 63), .ref (mw_a E (s)), .int seed, .int 0] σ (fun r u => r = sdS z (σ.1 s) (cuX σ s) seed n ∧ xFs σ u) := by
  refine mw_of (by decide) gX_ok (Nat.le_of_ble_eq_true rfl) ?_
  intro p_ e_ s_ m_ below meth c_ C hr hlk Z hP ls hl
  have C : CallFix p_ m_ c_ cX4_drawn 9 s_ _ lw_good RX4 := C
  have hl : lv_has ls 9 [(0, .ref (mw_a E 63)), (1, .ref (mw_a E (s))), (2, .int seed), (3, .int 0)] := hl
  have hS : va_S (mw_A 75 E) s_.heap s_.heap [] := va_S.rf
  refine lv_iload_n C.1 C.2.1 dX4_drawn_0 rfl (lv_at hl 2 rfl) ?_
  refine lv_istore (lv' := [(4, .int seed), (0, .ref (mw_a E 63)), (1, .ref (mw_a E (s))), (2, .int seed), (3, .int 0)]) C.1 C.2.1 dX4_drawn_1 hl (by decide) rfl (fun ls hl => ?_)
  refine lv_iconst (v := 0) C.1 C.2.1 dX4_drawn_3 (by decide) ?_
  refine lv_istore (lv' := [(5, .int 0), (4, .int seed), (0, .ref (mw_a E 63)), (1, .ref (mw_a E (s))), (2, .int seed), (3, .int 0)]) C.1 C.2.1 dX4_drawn_4 hl (by decide) rfl (fun ls hl => ?_)
  refine lv_iconst (v := 0) C.1 C.2.1 dX4_drawn_6 (by decide) ?_
  refine lv_istore (lv' := [(6, .int 0), (5, .int 0), (4, .int seed), (0, .ref (mw_a E 63)), (1, .ref (mw_a E (s))), (2, .int seed), (3, .int 0)]) C.1 C.2.1 dX4_drawn_7 hl (by decide) rfl (fun ls hl => ?_)
  have lpa : ∀ (N : Nat) (j : Nat) (x : Int32) (y : Int32) (ςa : mw_M) (H : Heap) (locs : List Loc), n + 1 ≤ j + N → (j ≤ n) → (x = sdZ (σ.1 s) (cuX σ s) seed j) → (y = sdS z (σ.1 s) (cuX σ s) seed j) → xFs σ ςa → va_P (mw_D E) vwCl (mw_ws shX 75 E ςa) H → va_S (mw_A 75 E) s_.heap H locs → ∀ (ls : Array Slot), lv_has ls 9 [(0, .ref (mw_a E 63)), (1, .ref (mw_a E (s))), (2, .int seed), (3, .int 0), (4, .int x), (5, .int y), (6, .int (nI j))] → xWi p_ l e_ (rmF 5 155) s_ m_ [.ref (mw_a E 63), .ref (mw_a E (s)), .int seed, .int 0] below meth c_ E (fun r u => r = sdS z (σ.1 s) (cuX σ s) seed n ∧ xFs σ u) H locs (F0 m_ 9 ls []) := by
    intro N
    induction N with
    | zero => intros; exfalso; omega
    | succ N iha =>
      intro j x y ςa H locs hNa hj ez es fra hP hS ls hl
      refine lv_iload C.1 C.2.1 dX4_drawn_9 (lv_at hl 6 rfl) ?_
      refine lv_aload_n C.1 C.2.1 dX4_drawn_11 rfl (lv_at hl 1 rfl) ?_
      refine mw_geti C Z hP (s) 6 (by omega) (sx_st (by omega)) rfl rfl (by decide) inX6 tw_1_94 dX4_drawn_12 ?_
      refine mw_top (y := nI n) ((congrFun (congrFun fra.1 _) _).trans hn) ?_
      refine lv_icmp_ge (tgt := 119) C.1 C.2.1 dX4_drawn_15 (by decide) (fun c1 => ?_) (fun c1 => ?_)
      · have c1 := (nI_leI (by omega) (by omega)).mp c1
        refine lv_iload C.1 C.2.1 dX4_drawn_119 (lv_at hl 5 rfl) ?_
        exact mw_iret C hr hlk Z hP hS dX4_drawn_121 (⟨by rw [es, show j = n by omega], fra⟩)
      · have c1 : _ := (not_congr (nI_leI (by omega) (by omega))).mp c1
        refine lv_iload C.1 C.2.1 dX4_drawn_18 (lv_at hl 6 rfl) ?_
        refine lv_bipush (v := 8) C.1 C.2.1 dX4_drawn_20 (by decide) ?_
        refine lv_icmp_ge (tgt := 119) C.1 C.2.1 dX4_drawn_22 (by decide) (fun c2 => ?_) (fun c2 => ?_)
        · exact absurd ((nI_leI (a := 8) (by decide) (by omega)).mp c2) (by omega)
        · refine lv_aload_n C.1 C.2.1 dX4_drawn_25 rfl (lv_at hl 1 rfl) ?_
          refine mw_getr C Z hP (s) 7 (3 + s) (by omega) (sx_st (by omega)) rfl rfl (by decide) inX6 tw_1_97 dX4_drawn_26 ?_
          refine lv_iload C.1 C.2.1 dX4_drawn_29 (lv_at hl 6 rfl) ?_
          refine mw_aald C Z hP (3 + s) (j) (by omega) (sx_ca (by omega)) (by decide) rfl (Nat.lt_of_lt_of_le (by decide : 8 < 961) (Nat.le_of_ble_eq_true rfl)) rfl (by omega) dX4_drawn_31 ?_
          refine lv_astore (lv' := [(7, .ref (mw_a E (6 + 8 * s + j))), (0, .ref (mw_a E 63)), (1, .ref (mw_a E (s))), (2, .int seed), (3, .int 0), (4, .int x), (5, .int y), (6, .int (nI j))]) C.1 C.2.1 dX4_drawn_32 hl (by decide) rfl (fun ls hl => ?_)
          refine lv_aload_n C.1 C.2.1 dX4_drawn_34 rfl (lv_at hl 2 rfl) ?_
          refine lv_aload C.1 C.2.1 dX4_drawn_35 (lv_at hl 0 rfl) ?_
          refine mw_cVi (As := [.ref (mw_a E (6 + 8 * s + j))]) (rest := []) C Z hP hS (s) (cX_isThere l E ςa (s) (by omega) (6 + 8 * s + j) (by omega)) vb_X6_isThere tw_3_133 ⟨rfl, rfl⟩ ⟨Nat.le_of_ble_eq_true rfl, Nat.le_of_ble_eq_true rfl⟩ (by omega) (sx_st (by omega)) rfl rfl rfl hl.1 rfl (Nat.le_of_ble_eq_true rfl) dX4_drawn_37 ⟨Nat.zero_le _, Nat.zero_le _⟩ (fun r3 u4 H locs q5 hP hS => ?_)
          rw [fra.1] at q5
          obtain ⟨rfl, q5u⟩ := q5
          rw [q5u] at hP; clear q5u
          refine lv_if_eq (tgt := 113) C.1 C.2.1 dX4_drawn_40 (by decide) (fun c6 => ?_) (fun c6 => ?_)
          · have c6 := bI_0.mp c6
            refine lv_iinc (v := nI (j + 1)) (lv' := [(6, .int (nI (j + 1))), (7, .ref (mw_a E (6 + 8 * s + j))), (0, .ref (mw_a E 63)), (1, .ref (mw_a E (s))), (2, .int seed), (3, .int 0), (4, .int x), (5, .int y)]) C.1 C.2.1 dX4_drawn_113 hl (k := 7) rfl (nI_1 _) (by decide) rfl (fun ls hl => ?_)
            refine lv_goto (tgt := 9) C.1 C.2.1 dX4_drawn_116 (by decide) ?_
            exact iha (j + 1) x y ςa _ _ (by omega) (by omega) (by rw [ez]; show _ = (if _ then _ else _); rw [if_neg c6]) (by rw [es]; exact sumP_0 (if_neg (fun y => c6 y.1))) fra hP hS ls (lv_sub hl [2, 3, 4, 5, 6, 7, 0] rfl)
          · have c6 := bI_n.mp c6
            have ezj : x * 1103515245 + 12345 = sdZ (σ.1 s) (cuX σ s) seed (j + 1) := by rw [ez]; show _ = (if _ then _ else _); rw [if_pos c6]
            refine lv_iload C.1 C.2.1 dX4_drawn_43 (lv_at hl 5 rfl) ?_
            refine lv_ldc (own := RX4) C.1 C.2.1 C.2.2.2.1 (C.2.2.2.2 _ tw_4_98) dX4_drawn_45 ?_
            refine lv_imul C.1 C.2.1 dX4_drawn_47 ?_
            refine lv_sipush (v := 12345) C.1 C.2.1 dX4_drawn_48 (by decide) ?_
            refine lv_iadd C.1 C.2.1 dX4_drawn_51 ?_
            refine lv_istore (lv' := [(4, .int ((x * 1103515245) + 12345)), (7, .ref (mw_a E (6 + 8 * s + j))), (0, .ref (mw_a E 63)), (1, .ref (mw_a E (s))), (2, .int seed), (3, .int 0), (5, .int y), (6, .int (nI j))]) C.1 C.2.1 dX4_drawn_52 hl (by decide) rfl (fun ls hl => ?_)
            refine lv_aload_n C.1 C.2.1 dX4_drawn_54 rfl (lv_at hl 2 rfl) ?_
            refine lv_aload_n C.1 C.2.1 dX4_drawn_55 rfl (lv_at hl 3 rfl) ?_
            refine lv_aload C.1 C.2.1 dX4_drawn_56 (lv_at hl 1 rfl) ?_
            refine mw_cVi (As := [.ref (mw_a E (s)), .ref (mw_a E (6 + 8 * s + j))]) (rest := []) C Z hP hS (63) (cX_triesOf l E ςa (s) (by omega) (6 + 8 * s + j) (by omega) z (fra.ru hru)) vb_X4_triesOf tw_3_142 ⟨rfl, rfl⟩ ⟨Nat.le_of_ble_eq_true rfl, Nat.le_of_ble_eq_true rfl⟩ (by decide) sx_63 rfl rfl rfl hl.1 rfl (Nat.le_of_ble_eq_true rfl) dX4_drawn_58 ⟨Nat.zero_le _, Nat.zero_le _⟩ (fun r7 u8 H locs q9 hP hS => ?_)
            obtain ⟨e11, f10⟩ := q9
            rw [fra.1] at e11
            subst e11
            refine lv_istore (lv' := [(8, .int (triesP z (σ.1 s) (σ.1 (6 + 8 * s + j)))), (4, .int ((x * 1103515245) + 12345)), (7, .ref (mw_a E (6 + 8 * s + j))), (0, .ref (mw_a E 63)), (1, .ref (mw_a E (s))), (2, .int seed), (3, .int 0), (5, .int y), (6, .int (nI j))]) C.1 C.2.1 dX4_drawn_61 hl (by decide) rfl (fun ls hl => ?_)
            refine lv_iload C.1 C.2.1 dX4_drawn_63 (lv_at hl 0 rfl) ?_
            refine lv_if_le (tgt := 113) C.1 C.2.1 dX4_drawn_65 (by decide) (fun c12 => ?_) (fun c12 => ?_)
            · refine lv_iinc (v := nI (j + 1)) (lv' := [(6, .int (nI (j + 1))), (8, .int (triesP z (σ.1 s) (σ.1 (6 + 8 * s + j)))), (4, .int ((x * 1103515245) + 12345)), (7, .ref (mw_a E (6 + 8 * s + j))), (0, .ref (mw_a E 63)), (1, .ref (mw_a E (s))), (2, .int seed), (3, .int 0), (5, .int y)]) C.1 C.2.1 dX4_drawn_113 hl (k := 8) rfl (nI_1 _) (by decide) rfl (fun ls hl => ?_)
              refine lv_goto (tgt := 9) C.1 C.2.1 dX4_drawn_116 (by decide) ?_
              exact iha (j + 1) ((x * 1103515245) + 12345) y u8 _ _ (by omega) (by omega) (ezj) (by rw [es]; exact sumP_0 (if_neg (fun y => absurd y.2.1 (Int32.not_lt.mpr c12)))) (fra.tr f10) hP hS ls (lv_sub hl [4, 5, 6, 7, 2, 8, 0] rfl)
            · refine lv_iload C.1 C.2.1 dX4_drawn_68 (lv_at hl 1 rfl) ?_
              refine lv_bipush (v := 9) C.1 C.2.1 dX4_drawn_70 (by decide) ?_
              refine lv_iushr C.1 C.2.1 dX4_drawn_72 rfl ?_
              refine lv_iload C.1 C.2.1 dX4_drawn_73 (lv_at hl 0 rfl) ?_
              refine lv_irem C.1 C.2.1 dX4_drawn_75 (fun y => by have y2 := Int32.not_le.mp c12; rw [y] at y2; exact absurd y2 (by decide)) ?_
              refine lv_if_ne (tgt := 113) C.1 C.2.1 dX4_drawn_76 (by decide) (fun c13 => ?_) (fun c13 => ?_)
              · refine lv_iinc (v := nI (j + 1)) (lv' := [(6, .int (nI (j + 1))), (8, .int (triesP z (σ.1 s) (σ.1 (6 + 8 * s + j)))), (4, .int ((x * 1103515245) + 12345)), (7, .ref (mw_a E (6 + 8 * s + j))), (0, .ref (mw_a E 63)), (1, .ref (mw_a E (s))), (2, .int seed), (3, .int 0), (5, .int y)]) C.1 C.2.1 dX4_drawn_113 hl (k := 8) rfl (nI_1 _) (by decide) rfl (fun ls hl => ?_)
                refine lv_goto (tgt := 9) C.1 C.2.1 dX4_drawn_116 (by decide) ?_
                exact iha (j + 1) ((x * 1103515245) + 12345) y u8 _ _ (by omega) (by omega) (ezj) (by rw [es]; exact sumP_0 (if_neg (fun y => c13 (by rw [ezj]; exact y.2.2)))) (fra.tr f10) hP hS ls (lv_sub hl [4, 5, 6, 7, 2, 8, 0] rfl)
              · refine lv_iload C.1 C.2.1 dX4_drawn_79 (lv_at hl 7 rfl) ?_
                refine lv_aload_n C.1 C.2.1 dX4_drawn_81 rfl (lv_at hl 3 rfl) ?_
                refine lv_aload_n C.1 C.2.1 dX4_drawn_82 rfl (lv_at hl 4 rfl) ?_
                refine lv_aload C.1 C.2.1 dX4_drawn_83 (lv_at hl 2 rfl) ?_
                refine mw_cVi (As := [.ref (mw_a E (s)), .ref (mw_a E (6 + 8 * s + j))]) (rest := [.int y]) C Z hP hS (63) (cX_spendsOf l E u8 (s) (by omega) (6 + 8 * s + j) (by omega) z ((fra.tr f10).ru hru)) vb_X4_spendsOf tw_3_143 ⟨rfl, rfl⟩ ⟨Nat.le_of_ble_eq_true rfl, Nat.le_of_ble_eq_true rfl⟩ (by decide) sx_63 rfl rfl rfl hl.1 rfl (Nat.le_of_ble_eq_true rfl) dX4_drawn_85 ⟨Nat.zero_le _, Nat.zero_le _⟩ (fun r14 u15 H locs q16 hP hS => ?_)
                obtain ⟨e18, f17⟩ := q16
                rw [(fra.tr f10).1] at e18
                subst e18
                refine lv_iadd C.1 C.2.1 dX4_drawn_88 ?_
                refine lv_istore (lv' := [(5, .int (y + (spendsP z (σ.1 s) (σ.1 (6 + 8 * s + j))))), (8, .int (triesP z (σ.1 s) (σ.1 (6 + 8 * s + j)))), (4, .int ((x * 1103515245) + 12345)), (7, .ref (mw_a E (6 + 8 * s + j))), (0, .ref (mw_a E 63)), (1, .ref (mw_a E (s))), (2, .int seed), (3, .int 0), (6, .int (nI j))]) C.1 C.2.1 dX4_drawn_89 hl (by decide) rfl (fun ls hl => ?_)
                refine lv_iload_n C.1 C.2.1 dX4_drawn_91 rfl (lv_at hl 7 rfl) ?_
                refine lv_if_eq (tgt := 113) C.1 C.2.1 dX4_drawn_92 (by decide) (fun c19 => ?_) (fun c19 => ?_)
                · refine lv_iinc (v := nI (j + 1)) (lv' := [(6, .int (nI (j + 1))), (5, .int (y + (spendsP z (σ.1 s) (σ.1 (6 + 8 * s + j))))), (8, .int (triesP z (σ.1 s) (σ.1 (6 + 8 * s + j)))), (4, .int ((x * 1103515245) + 12345)), (7, .ref (mw_a E (6 + 8 * s + j))), (0, .ref (mw_a E 63)), (1, .ref (mw_a E (s))), (2, .int seed), (3, .int 0)]) C.1 C.2.1 dX4_drawn_113 hl (k := 8) rfl (nI_1 _) (by decide) rfl (fun ls hl => ?_)
                  refine lv_goto (tgt := 9) C.1 C.2.1 dX4_drawn_116 (by decide) ?_
                  exact iha (j + 1) ((x * 1103515245) + 12345) (y + (spendsP z (σ.1 s) (σ.1 (6 + 8 * s + j)))) u15 _ _ (by omega) (by omega) (ezj) (by rw [es]; exact sumP_s (if_pos ⟨c6, Int32.not_le.mp c12, by rw [← ezj]; exact c13⟩)) ((fra.tr f10).tr f17) hP hS ls (lv_sub hl [5, 6, 7, 8, 3, 1, 0] rfl)
                · exact absurd c19 (by decide)
  exact lpa (n + 1) 0 seed 0 σ _ _ (by omega) (by omega) (rfl) (rfl) (xFs.rf σ) hP hS ls (lv_sub hl [3, 4, 5, 6, 2, 1, 0] rfl)

set_option maxHeartbeats 4000000 in
set_option maxRecDepth 100000 in
theorem cX_drawn1 (l : Launch) (E : mw_E) (σ : mw_M) (s : Nat) (hs : s < 3) (n : Nat) (hn : σ.1 s 6 = nI n) (h8 : n ≤ 8) (z : zP) (hru : xRu σ s z) (seed : Int32) : mw_Ci shX 75 gX l yX4_drawn cX4_drawn 9 (some .int) (rmF 5 155) E [.ref (mw_a E 63), .ref (mw_a E (s)), .int seed, .int 1] σ (fun r u => r = sdS z (σ.1 s) (cuX σ s) seed n ∧ xDr σ s z seed n u) := by
  refine mw_of (by decide) gX_ok (Nat.le_of_ble_eq_true rfl) ?_
  intro p_ e_ s_ m_ below meth c_ C hr hlk Z hP ls hl
  have C : CallFix p_ m_ c_ cX4_drawn 9 s_ _ lw_good RX4 := C
  have hl : lv_has ls 9 [(0, .ref (mw_a E 63)), (1, .ref (mw_a E (s))), (2, .int seed), (3, .int 1)] := hl
  have hS : va_S (mw_A 75 E) s_.heap s_.heap [] := va_S.rf
  refine lv_iload_n C.1 C.2.1 dX4_drawn_0 rfl (lv_at hl 2 rfl) ?_
  refine lv_istore (lv' := [(4, .int seed), (0, .ref (mw_a E 63)), (1, .ref (mw_a E (s))), (2, .int seed), (3, .int 1)]) C.1 C.2.1 dX4_drawn_1 hl (by decide) rfl (fun ls hl => ?_)
  refine lv_iconst (v := 0) C.1 C.2.1 dX4_drawn_3 (by decide) ?_
  refine lv_istore (lv' := [(5, .int 0), (4, .int seed), (0, .ref (mw_a E 63)), (1, .ref (mw_a E (s))), (2, .int seed), (3, .int 1)]) C.1 C.2.1 dX4_drawn_4 hl (by decide) rfl (fun ls hl => ?_)
  refine lv_iconst (v := 0) C.1 C.2.1 dX4_drawn_6 (by decide) ?_
  refine lv_istore (lv' := [(6, .int 0), (5, .int 0), (4, .int seed), (0, .ref (mw_a E 63)), (1, .ref (mw_a E (s))), (2, .int seed), (3, .int 1)]) C.1 C.2.1 dX4_drawn_7 hl (by decide) rfl (fun ls hl => ?_)
  have lpa : ∀ (N : Nat) (j : Nat) (x : Int32) (y : Int32) (ςa : mw_M) (H : Heap) (locs : List Loc), n + 1 ≤ j + N → (j ≤ n) → (x = sdZ (σ.1 s) (cuX σ s) seed j) → (y = sdS z (σ.1 s) (cuX σ s) seed j) → xDr σ s z seed j ςa → va_P (mw_D E) vwCl (mw_ws shX 75 E ςa) H → va_S (mw_A 75 E) s_.heap H locs → ∀ (ls : Array Slot), lv_has ls 9 [(0, .ref (mw_a E 63)), (1, .ref (mw_a E (s))), (2, .int seed), (3, .int 1), (4, .int x), (5, .int y), (6, .int (nI j))] → xWi p_ l e_ (rmF 5 155) s_ m_ [.ref (mw_a E 63), .ref (mw_a E (s)), .int seed, .int 1] below meth c_ E (fun r u => r = sdS z (σ.1 s) (cuX σ s) seed n ∧ xDr σ s z seed n u) H locs (F0 m_ 9 ls []) := by
    intro N
    induction N with
    | zero => intros; exfalso; omega
    | succ N iha =>
      intro j x y ςa H locs hNa hj ez es fra hP hS ls hl
      have e1 : ςa.1 s = σ.1 s := fra.1 s (by omega)
      have e2 : ςa.1 (6 + 8 * s + j) = σ.1 (6 + 8 * s + j) := fra.1 _ (by omega)
      refine lv_iload C.1 C.2.1 dX4_drawn_9 (lv_at hl 6 rfl) ?_
      refine lv_aload_n C.1 C.2.1 dX4_drawn_11 rfl (lv_at hl 1 rfl) ?_
      refine mw_geti C Z hP (s) 6 (by omega) (sx_st (by omega)) rfl rfl (by decide) inX6 tw_1_94 dX4_drawn_12 ?_
      refine mw_top (y := nI n) ((congrFun (fra.1 _ (by omega)) _).trans hn) ?_
      refine lv_icmp_ge (tgt := 119) C.1 C.2.1 dX4_drawn_15 (by decide) (fun c1 => ?_) (fun c1 => ?_)
      · have c1 := (nI_leI (by omega) (by omega)).mp c1
        refine lv_iload C.1 C.2.1 dX4_drawn_119 (lv_at hl 5 rfl) ?_
        have ej : j = n := by omega
        exact mw_iret C hr hlk Z hP hS dX4_drawn_121 (⟨by rw [es, ej], by rw [← ej]; exact fra⟩)
      · have c1 : _ := (not_congr (nI_leI (by omega) (by omega))).mp c1
        refine lv_iload C.1 C.2.1 dX4_drawn_18 (lv_at hl 6 rfl) ?_
        refine lv_bipush (v := 8) C.1 C.2.1 dX4_drawn_20 (by decide) ?_
        refine lv_icmp_ge (tgt := 119) C.1 C.2.1 dX4_drawn_22 (by decide) (fun c2 => ?_) (fun c2 => ?_)
        · exact absurd ((nI_leI (a := 8) (by decide) (by omega)).mp c2) (by omega)
        · refine lv_aload_n C.1 C.2.1 dX4_drawn_25 rfl (lv_at hl 1 rfl) ?_
          refine mw_getr C Z hP (s) 7 (3 + s) (by omega) (sx_st (by omega)) rfl rfl (by decide) inX6 tw_1_97 dX4_drawn_26 ?_
          refine lv_iload C.1 C.2.1 dX4_drawn_29 (lv_at hl 6 rfl) ?_
          refine mw_aald C Z hP (3 + s) (j) (by omega) (sx_ca (by omega)) (by decide) rfl (Nat.lt_of_lt_of_le (by decide : 8 < 961) (Nat.le_of_ble_eq_true rfl)) rfl (by omega) dX4_drawn_31 ?_
          refine lv_astore (lv' := [(7, .ref (mw_a E (6 + 8 * s + j))), (0, .ref (mw_a E 63)), (1, .ref (mw_a E (s))), (2, .int seed), (3, .int 1), (4, .int x), (5, .int y), (6, .int (nI j))]) C.1 C.2.1 dX4_drawn_32 hl (by decide) rfl (fun ls hl => ?_)
          refine lv_aload_n C.1 C.2.1 dX4_drawn_34 rfl (lv_at hl 2 rfl) ?_
          refine lv_aload C.1 C.2.1 dX4_drawn_35 (lv_at hl 0 rfl) ?_
          refine mw_cVi (As := [.ref (mw_a E (6 + 8 * s + j))]) (rest := []) C Z hP hS (s) (cX_isThere l E ςa (s) (by omega) (6 + 8 * s + j) (by omega)) vb_X6_isThere tw_3_133 ⟨rfl, rfl⟩ ⟨Nat.le_of_ble_eq_true rfl, Nat.le_of_ble_eq_true rfl⟩ (by omega) (sx_st (by omega)) rfl rfl rfl hl.1 rfl (Nat.le_of_ble_eq_true rfl) dX4_drawn_37 ⟨Nat.zero_le _, Nat.zero_le _⟩ (fun r3 u4 H locs q5 hP hS => ?_)
          rw [e1, e2] at q5
          obtain ⟨rfl, q5u⟩ := q5
          rw [q5u] at hP; clear q5u
          refine lv_if_eq (tgt := 113) C.1 C.2.1 dX4_drawn_40 (by decide) (fun c6 => ?_) (fun c6 => ?_)
          · have c6 := bI_0.mp c6
            refine lv_iinc (v := nI (j + 1)) (lv' := [(6, .int (nI (j + 1))), (7, .ref (mw_a E (6 + 8 * s + j))), (0, .ref (mw_a E 63)), (1, .ref (mw_a E (s))), (2, .int seed), (3, .int 1), (4, .int x), (5, .int y)]) C.1 C.2.1 dX4_drawn_113 hl (k := 7) rfl (nI_1 _) (by decide) rfl (fun ls hl => ?_)
            refine lv_goto (tgt := 9) C.1 C.2.1 dX4_drawn_116 (by decide) ?_
            exact iha (j + 1) x y ςa _ _ (by omega) (by omega) (by rw [ez]; show _ = (if _ then _ else _); rw [if_neg c6]) (by rw [es]; exact sumP_0 (if_neg (fun y => c6 y.1))) (fra.no (xFs.rf ςa) (fun y => c6 y.1)) hP hS ls (lv_sub hl [2, 3, 4, 5, 6, 7, 0] rfl)
          · have c6 := bI_n.mp c6
            have ezj : x * 1103515245 + 12345 = sdZ (σ.1 s) (cuX σ s) seed (j + 1) := by rw [ez]; show _ = (if _ then _ else _); rw [if_pos c6]
            refine lv_iload C.1 C.2.1 dX4_drawn_43 (lv_at hl 5 rfl) ?_
            refine lv_ldc (own := RX4) C.1 C.2.1 C.2.2.2.1 (C.2.2.2.2 _ tw_4_98) dX4_drawn_45 ?_
            refine lv_imul C.1 C.2.1 dX4_drawn_47 ?_
            refine lv_sipush (v := 12345) C.1 C.2.1 dX4_drawn_48 (by decide) ?_
            refine lv_iadd C.1 C.2.1 dX4_drawn_51 ?_
            refine lv_istore (lv' := [(4, .int ((x * 1103515245) + 12345)), (7, .ref (mw_a E (6 + 8 * s + j))), (0, .ref (mw_a E 63)), (1, .ref (mw_a E (s))), (2, .int seed), (3, .int 1), (5, .int y), (6, .int (nI j))]) C.1 C.2.1 dX4_drawn_52 hl (by decide) rfl (fun ls hl => ?_)
            refine lv_aload_n C.1 C.2.1 dX4_drawn_54 rfl (lv_at hl 2 rfl) ?_
            refine lv_aload_n C.1 C.2.1 dX4_drawn_55 rfl (lv_at hl 3 rfl) ?_
            refine lv_aload C.1 C.2.1 dX4_drawn_56 (lv_at hl 1 rfl) ?_
            refine mw_cVi (As := [.ref (mw_a E (s)), .ref (mw_a E (6 + 8 * s + j))]) (rest := []) C Z hP hS (63) (cX_triesOf l E ςa (s) (by omega) (6 + 8 * s + j) (by omega) z ((xFs.rf ςa).ru (fra.ru (by omega) hs hru))) vb_X4_triesOf tw_3_142 ⟨rfl, rfl⟩ ⟨Nat.le_of_ble_eq_true rfl, Nat.le_of_ble_eq_true rfl⟩ (by decide) sx_63 rfl rfl rfl hl.1 rfl (Nat.le_of_ble_eq_true rfl) dX4_drawn_58 ⟨Nat.zero_le _, Nat.zero_le _⟩ (fun r7 u8 H locs q9 hP hS => ?_)
            obtain ⟨e11, f10⟩ := q9
            rw [e1, e2] at e11
            subst e11
            refine lv_istore (lv' := [(8, .int (triesP z (σ.1 s) (σ.1 (6 + 8 * s + j)))), (4, .int ((x * 1103515245) + 12345)), (7, .ref (mw_a E (6 + 8 * s + j))), (0, .ref (mw_a E 63)), (1, .ref (mw_a E (s))), (2, .int seed), (3, .int 1), (5, .int y), (6, .int (nI j))]) C.1 C.2.1 dX4_drawn_61 hl (by decide) rfl (fun ls hl => ?_)
            refine lv_iload C.1 C.2.1 dX4_drawn_63 (lv_at hl 0 rfl) ?_
            refine lv_if_le (tgt := 113) C.1 C.2.1 dX4_drawn_65 (by decide) (fun c12 => ?_) (fun c12 => ?_)
            · refine lv_iinc (v := nI (j + 1)) (lv' := [(6, .int (nI (j + 1))), (8, .int (triesP z (σ.1 s) (σ.1 (6 + 8 * s + j)))), (4, .int ((x * 1103515245) + 12345)), (7, .ref (mw_a E (6 + 8 * s + j))), (0, .ref (mw_a E 63)), (1, .ref (mw_a E (s))), (2, .int seed), (3, .int 1), (5, .int y)]) C.1 C.2.1 dX4_drawn_113 hl (k := 8) rfl (nI_1 _) (by decide) rfl (fun ls hl => ?_)
              refine lv_goto (tgt := 9) C.1 C.2.1 dX4_drawn_116 (by decide) ?_
              exact iha (j + 1) ((x * 1103515245) + 12345) y u8 _ _ (by omega) (by omega) (ezj) (by rw [es]; exact sumP_0 (if_neg (fun y => absurd y.2.1 (Int32.not_lt.mpr c12)))) (fra.no ((xFs.rf ςa).tr f10) (fun y => absurd y.2.1 (Int32.not_lt.mpr c12))) hP hS ls (lv_sub hl [4, 5, 6, 7, 2, 8, 0] rfl)
            · refine lv_iload C.1 C.2.1 dX4_drawn_68 (lv_at hl 1 rfl) ?_
              refine lv_bipush (v := 9) C.1 C.2.1 dX4_drawn_70 (by decide) ?_
              refine lv_iushr C.1 C.2.1 dX4_drawn_72 rfl ?_
              refine lv_iload C.1 C.2.1 dX4_drawn_73 (lv_at hl 0 rfl) ?_
              refine lv_irem C.1 C.2.1 dX4_drawn_75 (fun y => by have y2 := Int32.not_le.mp c12; rw [y] at y2; exact absurd y2 (by decide)) ?_
              refine lv_if_ne (tgt := 113) C.1 C.2.1 dX4_drawn_76 (by decide) (fun c13 => ?_) (fun c13 => ?_)
              · refine lv_iinc (v := nI (j + 1)) (lv' := [(6, .int (nI (j + 1))), (8, .int (triesP z (σ.1 s) (σ.1 (6 + 8 * s + j)))), (4, .int ((x * 1103515245) + 12345)), (7, .ref (mw_a E (6 + 8 * s + j))), (0, .ref (mw_a E 63)), (1, .ref (mw_a E (s))), (2, .int seed), (3, .int 1), (5, .int y)]) C.1 C.2.1 dX4_drawn_113 hl (k := 8) rfl (nI_1 _) (by decide) rfl (fun ls hl => ?_)
                refine lv_goto (tgt := 9) C.1 C.2.1 dX4_drawn_116 (by decide) ?_
                exact iha (j + 1) ((x * 1103515245) + 12345) y u8 _ _ (by omega) (by omega) (ezj) (by rw [es]; exact sumP_0 (if_neg (fun y => c13 (by rw [ezj]; exact y.2.2)))) (fra.no ((xFs.rf ςa).tr f10) (fun y => c13 (by rw [ezj]; exact y.2.2))) hP hS ls (lv_sub hl [4, 5, 6, 7, 2, 8, 0] rfl)
              · refine lv_iload C.1 C.2.1 dX4_drawn_79 (lv_at hl 7 rfl) ?_
                refine lv_aload_n C.1 C.2.1 dX4_drawn_81 rfl (lv_at hl 3 rfl) ?_
                refine lv_aload_n C.1 C.2.1 dX4_drawn_82 rfl (lv_at hl 4 rfl) ?_
                refine lv_aload C.1 C.2.1 dX4_drawn_83 (lv_at hl 2 rfl) ?_
                refine mw_cVi (As := [.ref (mw_a E (s)), .ref (mw_a E (6 + 8 * s + j))]) (rest := [.int y]) C Z hP hS (63) (cX_spendsOf l E u8 (s) (by omega) (6 + 8 * s + j) (by omega) z (((xFs.rf ςa).tr f10).ru (fra.ru (by omega) hs hru))) vb_X4_spendsOf tw_3_143 ⟨rfl, rfl⟩ ⟨Nat.le_of_ble_eq_true rfl, Nat.le_of_ble_eq_true rfl⟩ (by decide) sx_63 rfl rfl rfl hl.1 rfl (Nat.le_of_ble_eq_true rfl) dX4_drawn_85 ⟨Nat.zero_le _, Nat.zero_le _⟩ (fun r14 u15 H locs q16 hP hS => ?_)
                obtain ⟨e18, f17⟩ := q16
                rw [((xFs.rf ςa).tr f10).1, e1, e2] at e18
                subst e18
                refine lv_iadd C.1 C.2.1 dX4_drawn_88 ?_
                refine lv_istore (lv' := [(5, .int (y + (spendsP z (σ.1 s) (σ.1 (6 + 8 * s + j))))), (8, .int (triesP z (σ.1 s) (σ.1 (6 + 8 * s + j)))), (4, .int ((x * 1103515245) + 12345)), (7, .ref (mw_a E (6 + 8 * s + j))), (0, .ref (mw_a E 63)), (1, .ref (mw_a E (s))), (2, .int seed), (3, .int 1), (6, .int (nI j))]) C.1 C.2.1 dX4_drawn_89 hl (by decide) rfl (fun ls hl => ?_)
                refine lv_iload_n C.1 C.2.1 dX4_drawn_91 rfl (lv_at hl 7 rfl) ?_
                refine lv_if_eq (tgt := 113) C.1 C.2.1 dX4_drawn_92 (by decide) (fun c19 => ?_) (fun c19 => ?_)
                · exact absurd c19 (by decide)
                · refine lv_aload C.1 C.2.1 dX4_drawn_95 (lv_at hl 3 rfl) ?_
                  refine lv_aload C.1 C.2.1 dX4_drawn_97 (lv_at hl 3 rfl) ?_
                  refine mw_geti C Z hP (6 + 8 * s + j) 4 (by omega) (sx_cu (by omega) (by omega)) rfl rfl (by decide) inX1 tw_1_61 dX4_drawn_99 ?_
                  refine mw_top (y := σ.1 (6 + 8 * s + j) 4) (((congrFun (congrFun (((xFs.rf ςa).tr f10).tr f17).1 _) _).trans (congrFun e2 _))) ?_
                  refine lv_iconst (v := 1) C.1 C.2.1 dX4_drawn_102 (by decide) ?_
                  refine lv_iadd C.1 C.2.1 dX4_drawn_103 ?_
                  refine lv_sipush (v := 999) C.1 C.2.1 dX4_drawn_104 (by decide) ?_
                  refine mw_cSi (As := [.int ((σ.1 (6 + 8 * s + j) 4) + 1), .int 999]) (rest := [.ref (mw_a E (6 + 8 * s + j))]) C Z hP hS (cX_min l E u15 ((σ.1 (6 + 8 * s + j) 4) + 1) 999) sb_J9_min_7cf53 tw_3_112 ⟨rfl, rfl⟩ ⟨Nat.le_of_ble_eq_true rfl, Nat.le_of_ble_eq_true rfl⟩ rfl hl.1 rfl (Nat.le_of_ble_eq_true rfl) dX4_drawn_107 ⟨Nat.zero_le _, Nat.zero_le _⟩ (fun r20 u21 H locs q22 hP hS => ?_)
                  obtain ⟨rfl, q22u⟩ := q22
                  rw [q22u] at hP; clear q22u
                  refine mw_puti C Z hP hS (6 + 8 * s + j) 4 (by omega) (sx_cu (by omega) (by omega)) rfl rfl (by decide) inX1 tyX1 tyX1_ok nmX1 rfl tw_1_61 rfl rfl dX4_drawn_110 (fun H locs hP hS => ?_)
                  refine lv_iinc (v := nI (j + 1)) (lv' := [(6, .int (nI (j + 1))), (5, .int (y + (spendsP z (σ.1 s) (σ.1 (6 + 8 * s + j))))), (8, .int (triesP z (σ.1 s) (σ.1 (6 + 8 * s + j)))), (4, .int ((x * 1103515245) + 12345)), (7, .ref (mw_a E (6 + 8 * s + j))), (0, .ref (mw_a E 63)), (1, .ref (mw_a E (s))), (2, .int seed), (3, .int 1)]) C.1 C.2.1 dX4_drawn_113 hl (k := 8) rfl (nI_1 _) (by decide) rfl (fun ls hl => ?_)
                  refine lv_goto (tgt := 9) C.1 C.2.1 dX4_drawn_116 (by decide) ?_
                  exact iha (j + 1) ((x * 1103515245) + 12345) (y + (spendsP z (σ.1 s) (σ.1 (6 + 8 * s + j)))) (mw_si u15 (6 + 8 * s + j) 4 (mnF ((σ.1 (6 + 8 * s + j) 4) + 1) 999)) _ _ (by omega) (by omega) (ezj) (by rw [es]; exact sumP_s (if_pos ⟨c6, Int32.not_le.mp c12, by rw [← ezj]; exact c13⟩)) (fra.yes (((xFs.rf ςa).tr f10).tr f17) ⟨c6, Int32.not_le.mp c12, by rw [← ezj]; exact c13⟩) hP hS ls (lv_sub hl [5, 6, 7, 8, 3, 1, 0] rfl)
  exact lpa (n + 1) 0 seed 0 σ _ _ (by omega) (by omega) (rfl) (rfl) (xDr.z0 σ s z seed) hP hS ls (lv_sub hl [3, 4, 5, 6, 2, 1, 0] rfl)
