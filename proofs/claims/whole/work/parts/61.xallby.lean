/-! THE CLASS: ALL BY WHICH IT IS SO -/
theorem su_c {σ u : mw_M} {q fld : Nat} {v : Int32} (h : ∀ f, f < 5 → ¬ (fun f => f = fld) f → u.1 (14 + q) f = σ.1 (6 + q) f) : ∀ f, f < 4 → (mw_si u (14 + q) fld v).1 (14 + q) f = upd (cuX σ 0 q) fld v f := by
  intro f hf
  by_cases e : f = fld
  · subst e; rw [upd_at]; exact mw_sf
  · rw [pk_un e]; exact (mw_nf e).trans (h f (by omega) e)
theorem su_s {σ u : mw_M} {v : Int32} (h : ∀ j, j < 6 → ¬ (fun j => j = 0 ∨ j = 1) j → u.1 1 j = σ.1 0 j) : ∀ j, j < 5 → j ≠ 0 → (mw_si u 1 1 v).1 1 j = upd (σ.1 0) 1 v j := by
  intro j hj h0
  by_cases e : j = 1
  · subst e; rw [upd_at]; exact mw_sf
  · rw [pk_un e]; exact (mw_nf e).trans (h j (by omega) (fun y => y.elim h0 e))

set_option maxHeartbeats 4000000 in
set_option maxRecDepth 100000 in
theorem cX_allBy1 (l : Launch) (E : mw_E) (σ ς : mw_M) (z : zP) (hru : xRu σ 0 z) (s : Nat) (hs : s < 4) (m : Nat) (hm : σ.1 (67 + s) 1 = nI m) (hm4 : m ≤ 40) (q : Nat) (hq : q < 8) (hsu : xSu σ (fun j => j = 0) (fun f => f = 0) q ς) : mw_Ci shX 75 gX l yX11_allBy cX11_allBy 9 (some .int) (rmF 6 178) E [.ref (mw_a E 30), .ref (mw_a E (67 + s)), .ref (mw_a E (14 + q)), .int 1] ς (fun r u => r = tellP3 (fun v => okF z (σ.1 0) (upd (cuX σ 0 q) 0 (nI v)) (σ.2.1 (71 + s)) m) 0 6 1 ∧ xQs σ u) := by
  refine mw_of (by decide) gX_ok (Nat.le_of_ble_eq_true rfl) ?_
  intro p_ e_ s_ m_ below meth c_ C hr hlk Z hP ls hl
  have C : CallFix p_ m_ c_ cX11_allBy 9 s_ _ lw_good RX11 := C
  have hl : lv_has ls 9 [(0, .ref (mw_a E 30)), (1, .ref (mw_a E (67 + s))), (2, .ref (mw_a E (14 + q))), (3, .int 1)] := hl
  have hS : va_S (mw_A 75 E) s_.heap s_.heap [] := va_S.rf
  refine lv_iconst (v := 0) C.1 C.2.1 dX11_allBy_0 (by decide) ?_
  refine lv_istore (lv' := [(4, .int 0), (0, .ref (mw_a E 30)), (1, .ref (mw_a E (67 + s))), (2, .ref (mw_a E (14 + q))), (3, .int 1)]) C.1 C.2.1 dX11_allBy_1 hl (by decide) rfl (fun ls hl => ?_)
  refine lv_iconst (v := 0) C.1 C.2.1 dX11_allBy_3 (by decide) ?_
  refine lv_istore (lv' := [(5, .int 0), (4, .int 0), (0, .ref (mw_a E 30)), (1, .ref (mw_a E (67 + s))), (2, .ref (mw_a E (14 + q))), (3, .int 1)]) C.1 C.2.1 dX11_allBy_4 hl (by decide) rfl (fun ls hl => ?_)
  refine lv_iconst (v := -1) C.1 C.2.1 dX11_allBy_6 (by decide) ?_
  refine lv_istore (lv' := [(6, .int (-1)), (5, .int 0), (4, .int 0), (0, .ref (mw_a E 30)), (1, .ref (mw_a E (67 + s))), (2, .ref (mw_a E (14 + q))), (3, .int 1)]) C.1 C.2.1 dX11_allBy_7 hl (by decide) rfl (fun ls hl => ?_)
  refine lv_iload_n C.1 C.2.1 dX11_allBy_9 rfl (lv_at hl 6 rfl) ?_
  refine lv_bipush (v := 7) C.1 C.2.1 dX11_allBy_10 (by decide) ?_
  refine lv_icmp_ne (tgt := 27) C.1 C.2.1 dX11_allBy_12 (by decide) (fun c1 => ?_) (fun c1 => ?_)
  · refine xw_gets C Z hS 4 (by decide) tw_4_65 dX11_allBy_27 ?_
    refine lv_iload_n C.1 C.2.1 dX11_allBy_30 rfl (lv_at hl 6 rfl) ?_
    refine xw_tld C Z hS 4 (1) (by decide) rfl (by show _ < 8; exact (by decide)) (by decide) dX11_allBy_31 ?_
    refine mw_top (y := 5) rfl ?_
    refine lv_istore (lv' := [(7, .int 5), (6, .int (-1)), (5, .int 0), (4, .int 0), (0, .ref (mw_a E 30)), (1, .ref (mw_a E (67 + s))), (2, .ref (mw_a E (14 + q))), (3, .int 1)]) C.1 C.2.1 dX11_allBy_32 hl (by decide) rfl (fun ls hl => ?_)
    refine xw_gets C Z hS 3 (by decide) tw_4_67 dX11_allBy_34 ?_
    refine lv_iload_n C.1 C.2.1 dX11_allBy_37 rfl (lv_at hl 7 rfl) ?_
    refine xw_tld C Z hS 3 (1) (by decide) rfl (by show _ < 8; exact (by decide)) (by decide) dX11_allBy_38 ?_
    refine mw_top (y := 0) rfl ?_
    refine lv_istore (lv' := [(8, .int 0), (7, .int 5), (6, .int (-1)), (5, .int 0), (4, .int 0), (0, .ref (mw_a E 30)), (1, .ref (mw_a E (67 + s))), (2, .ref (mw_a E (14 + q))), (3, .int 1)]) C.1 C.2.1 dX11_allBy_39 hl (by decide) rfl (fun ls hl => ?_)
    have lpa : ∀ (N : Nat) (j : Nat) (x : Int32) (k : Nat) (y : Int32) (ςa : mw_M) (H : Heap) (locs : List Loc), 6 + 1 ≤ j + N → (j ≤ 6) → (x = orS (bitG (fun v => okF z (σ.1 0) (upd (cuX σ 0 q) 0 (nI v)) (σ.2.1 (71 + s)) m)) j 0) → (k = cnS (fun v => okF z (σ.1 0) (upd (cuX σ 0 q) 0 (nI v)) (σ.2.1 (71 + s)) m) j 0) → (y = leS (fun v => okF z (σ.1 0) (upd (cuX σ 0 q) 0 (nI v)) (σ.2.1 (71 + s)) m) j 0) → xSu σ (fun j => j = 0) (fun f => f = 0) q ςa → va_P (mw_D E) vwCl (mw_ws shX 75 E ςa) H → va_S (mw_A 75 E) s_.heap H locs → ∀ (ls : Array Slot), lv_has ls 9 [(0, .ref (mw_a E 30)), (1, .ref (mw_a E (67 + s))), (2, .ref (mw_a E (14 + q))), (3, .int 1), (4, .int x), (5, .int (nI k)), (6, .int y), (7, .int 5), (8, .int (nI (0 + j)))] → xWi p_ l e_ (rmF 6 178) s_ m_ [.ref (mw_a E 30), .ref (mw_a E (67 + s)), .ref (mw_a E (14 + q)), .int 1] below meth c_ E (fun r u => r = tellP3 (fun v => okF z (σ.1 0) (upd (cuX σ 0 q) 0 (nI v)) (σ.2.1 (71 + s)) m) 0 6 1 ∧ xQs σ u) H locs (F0 m_ 41 ls []) := by
      intro N
      induction N with
      | zero => intros; exfalso; omega
      | succ N iha =>
        intro j x k y ςa H locs hNa hj ex ek ey fra hP hS ls hl
        have hk100 : k ≤ j := by rw [ek]; exact cnS_le _ j 0
        refine lv_iload C.1 C.2.1 dX11_allBy_41 (lv_at hl 8 rfl) ?_
        refine lv_iload C.1 C.2.1 dX11_allBy_43 (lv_at hl 7 rfl) ?_
        refine lv_icmp_gt (tgt := 98) C.1 C.2.1 dX11_allBy_45 (by decide) (fun c2 => ?_) (fun c2 => ?_)
        · have c2 := (nI_ltI (a := 5) (by decide) (by omega)).mp c2
          refine lv_iload_n C.1 C.2.1 dX11_allBy_98 rfl (lv_at hl 3 rfl) ?_
          refine lv_iconst (v := 3) C.1 C.2.1 dX11_allBy_99 (by decide) ?_
          refine lv_icmp_ne (tgt := 106) C.1 C.2.1 dX11_allBy_100 (by decide) (fun c3 => ?_) (fun c3 => ?_)
          · refine lv_iload_n C.1 C.2.1 dX11_allBy_106 rfl (lv_at hl 3 rfl) ?_
            refine lv_iconst (v := 4) C.1 C.2.1 dX11_allBy_107 (by decide) ?_
            refine lv_icmp_ne (tgt := 116) C.1 C.2.1 dX11_allBy_108 (by decide) (fun c4 => ?_) (fun c4 => ?_)
            · refine lv_iload C.1 C.2.1 dX11_allBy_116 (lv_at hl 4 rfl) ?_
              exact mw_iret C hr hlk Z hP hS dX11_allBy_118 (⟨by rw [ex, show j = 6 by omega, orS_bit _ (by omega)]; unfold tellP3; rw [if_neg (by decide), if_neg (by decide)], fra.1⟩)
            · exact absurd c4 (by decide)
          · exact absurd c3 (by decide)
        · have c2 := (not_congr (nI_ltI (a := 5) (by decide) (by omega))).mp c2
          refine lv_aload_n C.1 C.2.1 dX11_allBy_48 rfl (lv_at hl 0 rfl) ?_
          refine lv_aload_n C.1 C.2.1 dX11_allBy_49 rfl (lv_at hl 2 rfl) ?_
          refine lv_iload_n C.1 C.2.1 dX11_allBy_50 rfl (lv_at hl 3 rfl) ?_
          refine lv_iload C.1 C.2.1 dX11_allBy_51 (lv_at hl 8 rfl) ?_
          refine mw_cVv (As := [.ref (mw_a E (14 + q)), .int 1, .int (nI (0 + j))]) (rest := []) C Z hP hS (30) (cX_suppose1 l E ςa q hq (nI (0 + j))) vb_X11_suppose tw_4_69 ⟨rfl, rfl⟩ ⟨Nat.le_of_ble_eq_true rfl, Nat.le_of_ble_eq_true rfl⟩ (by decide) sx_30 rfl rfl rfl hl.1 rfl (Nat.le_of_ble_eq_true rfl) dX11_allBy_53 ⟨Nat.zero_le _, Nat.zero_le _⟩ (fun u6 H locs q7 hP hS => ?_)
          subst q7
          refine lv_aload_n C.1 C.2.1 dX11_allBy_56 rfl (lv_at hl 0 rfl) ?_
          refine lv_aload_n C.1 C.2.1 dX11_allBy_57 rfl (lv_at hl 1 rfl) ?_
          refine lv_aload_n C.1 C.2.1 dX11_allBy_58 rfl (lv_at hl 2 rfl) ?_
          refine mw_cVi (As := [.ref (mw_a E (67 + s)), .ref (mw_a E (14 + q))]) (rest := []) C Z hP hS (30) (cX_first l E (mw_si ςa (14 + q) 0 (nI (0 + j))) z ((fra.sc hq (by first | rfl | decide) _).ru (by decide) hru) s hs m ((congrFun ((fra.sc hq (by first | rfl | decide) _).1.1 (67 + s) (by refine ⟨?_, ?_, ?_⟩ <;> omega)) _).trans hm) hm4 q hq) vb_X11_firstOtherwise tw_4_57 ⟨rfl, rfl⟩ ⟨Nat.le_of_ble_eq_true rfl, Nat.le_of_ble_eq_true rfl⟩ (by decide) sx_30 rfl rfl rfl hl.1 rfl (Nat.le_of_ble_eq_true rfl) dX11_allBy_59 ⟨Nat.zero_le _, Nat.zero_le _⟩ (fun r8 u9 H locs q10 hP hS => ?_)
          obtain ⟨e12, f11⟩ := q10
          rw [su_ok (st2 := σ.1 0) (cu2 := upd (cuX σ 0 q) 0 (nI (0 + j))) (cl2 := σ.2.1 (71 + s)) (fun j hj h0 => (fra.sc hq (by first | rfl | decide) _).2.1 j (by omega) h0) (su_c fra.2.2) (fun i hi => congrFun ((fra.sc hq (by first | rfl | decide) _).1.2 (71 + s) (by omega)) i)] at e12
          subst e12
          refine lv_iconst (v := -1) C.1 C.2.1 dX11_allBy_62 (by decide) ?_
          refine lv_icmp_ne (tgt := 92) C.1 C.2.1 dX11_allBy_63 (by decide) (fun c13 => ?_) (fun c13 => ?_)
          · refine lv_iinc (v := nI (0 + j + 1)) (lv' := [(8, .int (nI (0 + j + 1))), (0, .ref (mw_a E 30)), (1, .ref (mw_a E (67 + s))), (2, .ref (mw_a E (14 + q))), (3, .int 1), (4, .int x), (5, .int (nI k)), (6, .int y), (7, .int 5)]) C.1 C.2.1 dX11_allBy_92 hl (k := 8) rfl (nI_1 _) (by decide) rfl (fun ls hl => ?_)
            refine lv_goto (tgt := 41) C.1 C.2.1 dX11_allBy_95 (by decide) ?_
            exact iha (j + 1) x k y u9 _ _ (by omega) (by omega) (by rw [ex, orS_snoc, show bitG (fun v => okF z (σ.1 0) (upd (cuX σ 0 q) 0 (nI v)) (σ.2.1 (71 + s)) m) (0 + j) = 0 from if_neg (fun y => c13 (okF_t.mp y)), Int32.or_zero]) (by rw [ek, cnS_snoc, if_neg (fun y => c13 (okF_t.mp y))]; rfl) (by rw [ey, leS_snoc, if_neg (fun y => c13 (okF_t.mp y))]; by_cases h0 : cnS (fun v => okF z (σ.1 0) (upd (cuX σ 0 q) 0 (nI v)) (σ.2.1 (71 + s)) m) j 0 = 0; (rw [if_pos h0, leS_0 _ _ _ h0]); (rw [if_neg h0])) ((fra.sc hq (by first | rfl | decide) _).cb (by decide) f11) hP hS ls (lv_sub hl [1, 2, 3, 4, 5, 6, 7, 8, 0] rfl)
          · refine lv_iload C.1 C.2.1 dX11_allBy_66 (lv_at hl 4 rfl) ?_
            refine lv_iconst (v := 1) C.1 C.2.1 dX11_allBy_68 (by decide) ?_
            refine lv_iload C.1 C.2.1 dX11_allBy_69 (lv_at hl 8 rfl) ?_
            refine lv_ishl C.1 C.2.1 dX11_allBy_71 ?_
            refine lv_ior C.1 C.2.1 dX11_allBy_72 ?_
            refine lv_istore (lv' := [(4, .int (x ||| (1 <<< ((nI (0 + j)) &&& 31)))), (0, .ref (mw_a E 30)), (1, .ref (mw_a E (67 + s))), (2, .ref (mw_a E (14 + q))), (3, .int 1), (5, .int (nI k)), (6, .int y), (7, .int 5), (8, .int (nI (0 + j)))]) C.1 C.2.1 dX11_allBy_73 hl (by decide) rfl (fun ls hl => ?_)
            refine lv_iload C.1 C.2.1 dX11_allBy_75 (lv_at hl 5 rfl) ?_
            refine lv_if_ne (tgt := 85) C.1 C.2.1 dX11_allBy_77 (by decide) (fun c14 => ?_) (fun c14 => ?_)
            · refine lv_iload C.1 C.2.1 dX11_allBy_85 (lv_at hl 6 rfl) ?_
              refine lv_istore (lv' := [(6, .int y), (4, .int (x ||| (1 <<< ((nI (0 + j)) &&& 31)))), (0, .ref (mw_a E 30)), (1, .ref (mw_a E (67 + s))), (2, .ref (mw_a E (14 + q))), (3, .int 1), (5, .int (nI k)), (7, .int 5), (8, .int (nI (0 + j)))]) C.1 C.2.1 dX11_allBy_87 hl (by decide) rfl (fun ls hl => ?_)
              refine lv_iinc (v := nI (k + 1)) (lv' := [(5, .int (nI (k + 1))), (6, .int y), (4, .int (x ||| (1 <<< ((nI (0 + j)) &&& 31)))), (0, .ref (mw_a E 30)), (1, .ref (mw_a E (67 + s))), (2, .ref (mw_a E (14 + q))), (3, .int 1), (7, .int 5), (8, .int (nI (0 + j)))]) C.1 C.2.1 dX11_allBy_89 hl (k := 6) rfl (nI_1 _) (by decide) rfl (fun ls hl => ?_)
              refine lv_iinc (v := nI (0 + j + 1)) (lv' := [(8, .int (nI (0 + j + 1))), (5, .int (nI (k + 1))), (6, .int y), (4, .int (x ||| (1 <<< ((nI (0 + j)) &&& 31)))), (0, .ref (mw_a E 30)), (1, .ref (mw_a E (67 + s))), (2, .ref (mw_a E (14 + q))), (3, .int 1), (7, .int 5)]) C.1 C.2.1 dX11_allBy_92 hl (k := 8) rfl (nI_1 _) (by decide) rfl (fun ls hl => ?_)
              refine lv_goto (tgt := 41) C.1 C.2.1 dX11_allBy_95 (by decide) ?_
              exact iha (j + 1) (x ||| (1 <<< ((nI (0 + j)) &&& 31))) (k + 1) y u9 _ _ (by omega) (by omega) (by rw [ex, orS_snoc, show bitG (fun v => okF z (σ.1 0) (upd (cuX σ 0 q) 0 (nI v)) (σ.2.1 (71 + s)) m) (0 + j) = 1 <<< (nI (0 + j) &&& 31) from if_pos (okF_t.mpr c13)]) (by rw [ek, cnS_snoc, if_pos (okF_t.mpr c13)]) (by rw [ey, leS_snoc, if_pos (okF_t.mpr c13), if_neg (by rw [← ek]; exact fun y => c14 (by rw [y]; rfl))]) ((fra.sc hq (by first | rfl | decide) _).cb (by decide) f11) hP hS ls (lv_sub hl [4, 5, 6, 7, 3, 1, 2, 8, 0] rfl)
            · refine lv_iload C.1 C.2.1 dX11_allBy_80 (lv_at hl 8 rfl) ?_
              refine lv_goto (tgt := 87) C.1 C.2.1 dX11_allBy_82 (by decide) ?_
              refine lv_istore (lv' := [(6, .int (nI (0 + j))), (4, .int (x ||| (1 <<< ((nI (0 + j)) &&& 31)))), (0, .ref (mw_a E 30)), (1, .ref (mw_a E (67 + s))), (2, .ref (mw_a E (14 + q))), (3, .int 1), (5, .int (nI k)), (7, .int 5), (8, .int (nI (0 + j)))]) C.1 C.2.1 dX11_allBy_87 hl (by decide) rfl (fun ls hl => ?_)
              refine lv_iinc (v := nI (k + 1)) (lv' := [(5, .int (nI (k + 1))), (6, .int (nI (0 + j))), (4, .int (x ||| (1 <<< ((nI (0 + j)) &&& 31)))), (0, .ref (mw_a E 30)), (1, .ref (mw_a E (67 + s))), (2, .ref (mw_a E (14 + q))), (3, .int 1), (7, .int 5), (8, .int (nI (0 + j)))]) C.1 C.2.1 dX11_allBy_89 hl (k := 6) rfl (nI_1 _) (by decide) rfl (fun ls hl => ?_)
              refine lv_iinc (v := nI (0 + j + 1)) (lv' := [(8, .int (nI (0 + j + 1))), (5, .int (nI (k + 1))), (6, .int (nI (0 + j))), (4, .int (x ||| (1 <<< ((nI (0 + j)) &&& 31)))), (0, .ref (mw_a E 30)), (1, .ref (mw_a E (67 + s))), (2, .ref (mw_a E (14 + q))), (3, .int 1), (7, .int 5)]) C.1 C.2.1 dX11_allBy_92 hl (k := 8) rfl (nI_1 _) (by decide) rfl (fun ls hl => ?_)
              refine lv_goto (tgt := 41) C.1 C.2.1 dX11_allBy_95 (by decide) ?_
              exact iha (j + 1) (x ||| (1 <<< ((nI (0 + j)) &&& 31))) (k + 1) (nI (0 + j)) u9 _ _ (by omega) (by omega) (by rw [ex, orS_snoc, show bitG (fun v => okF z (σ.1 0) (upd (cuX σ 0 q) 0 (nI v)) (σ.2.1 (71 + s)) m) (0 + j) = 1 <<< (nI (0 + j) &&& 31) from if_pos (okF_t.mpr c13)]) (by rw [ek, cnS_snoc, if_pos (okF_t.mpr c13)]) (by rw [leS_snoc, if_pos (okF_t.mpr c13), if_pos (by rw [← ek]; exact (nI_eq (b := 0) (by omega) (by decide)).mp c14)]) ((fra.sc hq (by first | rfl | decide) _).cb (by decide) f11) hP hS ls (lv_sub hl [4, 5, 6, 7, 3, 1, 2, 8, 0] rfl)
    exact lpa (6 + 1) 0 0 0 (-1) ς _ _ (by omega) (by omega) (rfl) (rfl) (rfl) hsu hP hS ls (lv_sub hl [5, 6, 7, 8, 4, 3, 2, 1, 0] rfl)
  · exact absurd c1 (by decide)

set_option maxHeartbeats 4000000 in
set_option maxRecDepth 100000 in
theorem cX_allBy2 (l : Launch) (E : mw_E) (σ ς : mw_M) (z : zP) (hru : xRu σ 0 z) (s : Nat) (hs : s < 4) (m : Nat) (hm : σ.1 (67 + s) 1 = nI m) (hm4 : m ≤ 40) (q : Nat) (hq : q < 8) (hsu : xSu σ (fun j => j = 0) (fun f => f = 1) q ς) : mw_Ci shX 75 gX l yX11_allBy cX11_allBy 9 (some .int) (rmF 6 178) E [.ref (mw_a E 30), .ref (mw_a E (67 + s)), .ref (mw_a E (14 + q)), .int 2] ς (fun r u => r = tellP3 (fun v => okF z (σ.1 0) (upd (cuX σ 0 q) 1 (nI v)) (σ.2.1 (71 + s)) m) 0 10 2 ∧ xQs σ u) := by
  refine mw_of (by decide) gX_ok (Nat.le_of_ble_eq_true rfl) ?_
  intro p_ e_ s_ m_ below meth c_ C hr hlk Z hP ls hl
  have C : CallFix p_ m_ c_ cX11_allBy 9 s_ _ lw_good RX11 := C
  have hl : lv_has ls 9 [(0, .ref (mw_a E 30)), (1, .ref (mw_a E (67 + s))), (2, .ref (mw_a E (14 + q))), (3, .int 2)] := hl
  have hS : va_S (mw_A 75 E) s_.heap s_.heap [] := va_S.rf
  refine lv_iconst (v := 0) C.1 C.2.1 dX11_allBy_0 (by decide) ?_
  refine lv_istore (lv' := [(4, .int 0), (0, .ref (mw_a E 30)), (1, .ref (mw_a E (67 + s))), (2, .ref (mw_a E (14 + q))), (3, .int 2)]) C.1 C.2.1 dX11_allBy_1 hl (by decide) rfl (fun ls hl => ?_)
  refine lv_iconst (v := 0) C.1 C.2.1 dX11_allBy_3 (by decide) ?_
  refine lv_istore (lv' := [(5, .int 0), (4, .int 0), (0, .ref (mw_a E 30)), (1, .ref (mw_a E (67 + s))), (2, .ref (mw_a E (14 + q))), (3, .int 2)]) C.1 C.2.1 dX11_allBy_4 hl (by decide) rfl (fun ls hl => ?_)
  refine lv_iconst (v := -1) C.1 C.2.1 dX11_allBy_6 (by decide) ?_
  refine lv_istore (lv' := [(6, .int (-1)), (5, .int 0), (4, .int 0), (0, .ref (mw_a E 30)), (1, .ref (mw_a E (67 + s))), (2, .ref (mw_a E (14 + q))), (3, .int 2)]) C.1 C.2.1 dX11_allBy_7 hl (by decide) rfl (fun ls hl => ?_)
  refine lv_iload_n C.1 C.2.1 dX11_allBy_9 rfl (lv_at hl 6 rfl) ?_
  refine lv_bipush (v := 7) C.1 C.2.1 dX11_allBy_10 (by decide) ?_
  refine lv_icmp_ne (tgt := 27) C.1 C.2.1 dX11_allBy_12 (by decide) (fun c1 => ?_) (fun c1 => ?_)
  · refine xw_gets C Z hS 4 (by decide) tw_4_65 dX11_allBy_27 ?_
    refine lv_iload_n C.1 C.2.1 dX11_allBy_30 rfl (lv_at hl 6 rfl) ?_
    refine xw_tld C Z hS 4 (2) (by decide) rfl (by show _ < 8; exact (by decide)) (by decide) dX11_allBy_31 ?_
    refine mw_top (y := 9) rfl ?_
    refine lv_istore (lv' := [(7, .int 9), (6, .int (-1)), (5, .int 0), (4, .int 0), (0, .ref (mw_a E 30)), (1, .ref (mw_a E (67 + s))), (2, .ref (mw_a E (14 + q))), (3, .int 2)]) C.1 C.2.1 dX11_allBy_32 hl (by decide) rfl (fun ls hl => ?_)
    refine xw_gets C Z hS 3 (by decide) tw_4_67 dX11_allBy_34 ?_
    refine lv_iload_n C.1 C.2.1 dX11_allBy_37 rfl (lv_at hl 7 rfl) ?_
    refine xw_tld C Z hS 3 (2) (by decide) rfl (by show _ < 8; exact (by decide)) (by decide) dX11_allBy_38 ?_
    refine mw_top (y := 0) rfl ?_
    refine lv_istore (lv' := [(8, .int 0), (7, .int 9), (6, .int (-1)), (5, .int 0), (4, .int 0), (0, .ref (mw_a E 30)), (1, .ref (mw_a E (67 + s))), (2, .ref (mw_a E (14 + q))), (3, .int 2)]) C.1 C.2.1 dX11_allBy_39 hl (by decide) rfl (fun ls hl => ?_)
    have lpa : ∀ (N : Nat) (j : Nat) (x : Int32) (k : Nat) (y : Int32) (ςa : mw_M) (H : Heap) (locs : List Loc), 10 + 1 ≤ j + N → (j ≤ 10) → (x = orS (bitG (fun v => okF z (σ.1 0) (upd (cuX σ 0 q) 1 (nI v)) (σ.2.1 (71 + s)) m)) j 0) → (k = cnS (fun v => okF z (σ.1 0) (upd (cuX σ 0 q) 1 (nI v)) (σ.2.1 (71 + s)) m) j 0) → (y = leS (fun v => okF z (σ.1 0) (upd (cuX σ 0 q) 1 (nI v)) (σ.2.1 (71 + s)) m) j 0) → xSu σ (fun j => j = 0) (fun f => f = 1) q ςa → va_P (mw_D E) vwCl (mw_ws shX 75 E ςa) H → va_S (mw_A 75 E) s_.heap H locs → ∀ (ls : Array Slot), lv_has ls 9 [(0, .ref (mw_a E 30)), (1, .ref (mw_a E (67 + s))), (2, .ref (mw_a E (14 + q))), (3, .int 2), (4, .int x), (5, .int (nI k)), (6, .int y), (7, .int 9), (8, .int (nI (0 + j)))] → xWi p_ l e_ (rmF 6 178) s_ m_ [.ref (mw_a E 30), .ref (mw_a E (67 + s)), .ref (mw_a E (14 + q)), .int 2] below meth c_ E (fun r u => r = tellP3 (fun v => okF z (σ.1 0) (upd (cuX σ 0 q) 1 (nI v)) (σ.2.1 (71 + s)) m) 0 10 2 ∧ xQs σ u) H locs (F0 m_ 41 ls []) := by
      intro N
      induction N with
      | zero => intros; exfalso; omega
      | succ N iha =>
        intro j x k y ςa H locs hNa hj ex ek ey fra hP hS ls hl
        have hk100 : k ≤ j := by rw [ek]; exact cnS_le _ j 0
        refine lv_iload C.1 C.2.1 dX11_allBy_41 (lv_at hl 8 rfl) ?_
        refine lv_iload C.1 C.2.1 dX11_allBy_43 (lv_at hl 7 rfl) ?_
        refine lv_icmp_gt (tgt := 98) C.1 C.2.1 dX11_allBy_45 (by decide) (fun c2 => ?_) (fun c2 => ?_)
        · have c2 := (nI_ltI (a := 9) (by decide) (by omega)).mp c2
          refine lv_iload_n C.1 C.2.1 dX11_allBy_98 rfl (lv_at hl 3 rfl) ?_
          refine lv_iconst (v := 3) C.1 C.2.1 dX11_allBy_99 (by decide) ?_
          refine lv_icmp_ne (tgt := 106) C.1 C.2.1 dX11_allBy_100 (by decide) (fun c3 => ?_) (fun c3 => ?_)
          · refine lv_iload_n C.1 C.2.1 dX11_allBy_106 rfl (lv_at hl 3 rfl) ?_
            refine lv_iconst (v := 4) C.1 C.2.1 dX11_allBy_107 (by decide) ?_
            refine lv_icmp_ne (tgt := 116) C.1 C.2.1 dX11_allBy_108 (by decide) (fun c4 => ?_) (fun c4 => ?_)
            · refine lv_iload C.1 C.2.1 dX11_allBy_116 (lv_at hl 4 rfl) ?_
              exact mw_iret C hr hlk Z hP hS dX11_allBy_118 (⟨by rw [ex, show j = 10 by omega, orS_bit _ (by omega)]; unfold tellP3; rw [if_neg (by decide), if_neg (by decide)], fra.1⟩)
            · exact absurd c4 (by decide)
          · exact absurd c3 (by decide)
        · have c2 := (not_congr (nI_ltI (a := 9) (by decide) (by omega))).mp c2
          refine lv_aload_n C.1 C.2.1 dX11_allBy_48 rfl (lv_at hl 0 rfl) ?_
          refine lv_aload_n C.1 C.2.1 dX11_allBy_49 rfl (lv_at hl 2 rfl) ?_
          refine lv_iload_n C.1 C.2.1 dX11_allBy_50 rfl (lv_at hl 3 rfl) ?_
          refine lv_iload C.1 C.2.1 dX11_allBy_51 (lv_at hl 8 rfl) ?_
          refine mw_cVv (As := [.ref (mw_a E (14 + q)), .int 2, .int (nI (0 + j))]) (rest := []) C Z hP hS (30) (cX_suppose2 l E ςa q hq (nI (0 + j))) vb_X11_suppose tw_4_69 ⟨rfl, rfl⟩ ⟨Nat.le_of_ble_eq_true rfl, Nat.le_of_ble_eq_true rfl⟩ (by decide) sx_30 rfl rfl rfl hl.1 rfl (Nat.le_of_ble_eq_true rfl) dX11_allBy_53 ⟨Nat.zero_le _, Nat.zero_le _⟩ (fun u6 H locs q7 hP hS => ?_)
          subst q7
          refine lv_aload_n C.1 C.2.1 dX11_allBy_56 rfl (lv_at hl 0 rfl) ?_
          refine lv_aload_n C.1 C.2.1 dX11_allBy_57 rfl (lv_at hl 1 rfl) ?_
          refine lv_aload_n C.1 C.2.1 dX11_allBy_58 rfl (lv_at hl 2 rfl) ?_
          refine mw_cVi (As := [.ref (mw_a E (67 + s)), .ref (mw_a E (14 + q))]) (rest := []) C Z hP hS (30) (cX_first l E (mw_si ςa (14 + q) 1 (nI (0 + j))) z ((fra.sc hq (by first | rfl | decide) _).ru (by decide) hru) s hs m ((congrFun ((fra.sc hq (by first | rfl | decide) _).1.1 (67 + s) (by refine ⟨?_, ?_, ?_⟩ <;> omega)) _).trans hm) hm4 q hq) vb_X11_firstOtherwise tw_4_57 ⟨rfl, rfl⟩ ⟨Nat.le_of_ble_eq_true rfl, Nat.le_of_ble_eq_true rfl⟩ (by decide) sx_30 rfl rfl rfl hl.1 rfl (Nat.le_of_ble_eq_true rfl) dX11_allBy_59 ⟨Nat.zero_le _, Nat.zero_le _⟩ (fun r8 u9 H locs q10 hP hS => ?_)
          obtain ⟨e12, f11⟩ := q10
          rw [su_ok (st2 := σ.1 0) (cu2 := upd (cuX σ 0 q) 1 (nI (0 + j))) (cl2 := σ.2.1 (71 + s)) (fun j hj h0 => (fra.sc hq (by first | rfl | decide) _).2.1 j (by omega) h0) (su_c fra.2.2) (fun i hi => congrFun ((fra.sc hq (by first | rfl | decide) _).1.2 (71 + s) (by omega)) i)] at e12
          subst e12
          refine lv_iconst (v := -1) C.1 C.2.1 dX11_allBy_62 (by decide) ?_
          refine lv_icmp_ne (tgt := 92) C.1 C.2.1 dX11_allBy_63 (by decide) (fun c13 => ?_) (fun c13 => ?_)
          · refine lv_iinc (v := nI (0 + j + 1)) (lv' := [(8, .int (nI (0 + j + 1))), (0, .ref (mw_a E 30)), (1, .ref (mw_a E (67 + s))), (2, .ref (mw_a E (14 + q))), (3, .int 2), (4, .int x), (5, .int (nI k)), (6, .int y), (7, .int 9)]) C.1 C.2.1 dX11_allBy_92 hl (k := 8) rfl (nI_1 _) (by decide) rfl (fun ls hl => ?_)
            refine lv_goto (tgt := 41) C.1 C.2.1 dX11_allBy_95 (by decide) ?_
            exact iha (j + 1) x k y u9 _ _ (by omega) (by omega) (by rw [ex, orS_snoc, show bitG (fun v => okF z (σ.1 0) (upd (cuX σ 0 q) 1 (nI v)) (σ.2.1 (71 + s)) m) (0 + j) = 0 from if_neg (fun y => c13 (okF_t.mp y)), Int32.or_zero]) (by rw [ek, cnS_snoc, if_neg (fun y => c13 (okF_t.mp y))]; rfl) (by rw [ey, leS_snoc, if_neg (fun y => c13 (okF_t.mp y))]; by_cases h0 : cnS (fun v => okF z (σ.1 0) (upd (cuX σ 0 q) 1 (nI v)) (σ.2.1 (71 + s)) m) j 0 = 0; (rw [if_pos h0, leS_0 _ _ _ h0]); (rw [if_neg h0])) ((fra.sc hq (by first | rfl | decide) _).cb (by decide) f11) hP hS ls (lv_sub hl [1, 2, 3, 4, 5, 6, 7, 8, 0] rfl)
          · refine lv_iload C.1 C.2.1 dX11_allBy_66 (lv_at hl 4 rfl) ?_
            refine lv_iconst (v := 1) C.1 C.2.1 dX11_allBy_68 (by decide) ?_
            refine lv_iload C.1 C.2.1 dX11_allBy_69 (lv_at hl 8 rfl) ?_
            refine lv_ishl C.1 C.2.1 dX11_allBy_71 ?_
            refine lv_ior C.1 C.2.1 dX11_allBy_72 ?_
            refine lv_istore (lv' := [(4, .int (x ||| (1 <<< ((nI (0 + j)) &&& 31)))), (0, .ref (mw_a E 30)), (1, .ref (mw_a E (67 + s))), (2, .ref (mw_a E (14 + q))), (3, .int 2), (5, .int (nI k)), (6, .int y), (7, .int 9), (8, .int (nI (0 + j)))]) C.1 C.2.1 dX11_allBy_73 hl (by decide) rfl (fun ls hl => ?_)
            refine lv_iload C.1 C.2.1 dX11_allBy_75 (lv_at hl 5 rfl) ?_
            refine lv_if_ne (tgt := 85) C.1 C.2.1 dX11_allBy_77 (by decide) (fun c14 => ?_) (fun c14 => ?_)
            · refine lv_iload C.1 C.2.1 dX11_allBy_85 (lv_at hl 6 rfl) ?_
              refine lv_istore (lv' := [(6, .int y), (4, .int (x ||| (1 <<< ((nI (0 + j)) &&& 31)))), (0, .ref (mw_a E 30)), (1, .ref (mw_a E (67 + s))), (2, .ref (mw_a E (14 + q))), (3, .int 2), (5, .int (nI k)), (7, .int 9), (8, .int (nI (0 + j)))]) C.1 C.2.1 dX11_allBy_87 hl (by decide) rfl (fun ls hl => ?_)
              refine lv_iinc (v := nI (k + 1)) (lv' := [(5, .int (nI (k + 1))), (6, .int y), (4, .int (x ||| (1 <<< ((nI (0 + j)) &&& 31)))), (0, .ref (mw_a E 30)), (1, .ref (mw_a E (67 + s))), (2, .ref (mw_a E (14 + q))), (3, .int 2), (7, .int 9), (8, .int (nI (0 + j)))]) C.1 C.2.1 dX11_allBy_89 hl (k := 6) rfl (nI_1 _) (by decide) rfl (fun ls hl => ?_)
              refine lv_iinc (v := nI (0 + j + 1)) (lv' := [(8, .int (nI (0 + j + 1))), (5, .int (nI (k + 1))), (6, .int y), (4, .int (x ||| (1 <<< ((nI (0 + j)) &&& 31)))), (0, .ref (mw_a E 30)), (1, .ref (mw_a E (67 + s))), (2, .ref (mw_a E (14 + q))), (3, .int 2), (7, .int 9)]) C.1 C.2.1 dX11_allBy_92 hl (k := 8) rfl (nI_1 _) (by decide) rfl (fun ls hl => ?_)
              refine lv_goto (tgt := 41) C.1 C.2.1 dX11_allBy_95 (by decide) ?_
              exact iha (j + 1) (x ||| (1 <<< ((nI (0 + j)) &&& 31))) (k + 1) y u9 _ _ (by omega) (by omega) (by rw [ex, orS_snoc, show bitG (fun v => okF z (σ.1 0) (upd (cuX σ 0 q) 1 (nI v)) (σ.2.1 (71 + s)) m) (0 + j) = 1 <<< (nI (0 + j) &&& 31) from if_pos (okF_t.mpr c13)]) (by rw [ek, cnS_snoc, if_pos (okF_t.mpr c13)]) (by rw [ey, leS_snoc, if_pos (okF_t.mpr c13), if_neg (by rw [← ek]; exact fun y => c14 (by rw [y]; rfl))]) ((fra.sc hq (by first | rfl | decide) _).cb (by decide) f11) hP hS ls (lv_sub hl [4, 5, 6, 7, 3, 1, 2, 8, 0] rfl)
            · refine lv_iload C.1 C.2.1 dX11_allBy_80 (lv_at hl 8 rfl) ?_
              refine lv_goto (tgt := 87) C.1 C.2.1 dX11_allBy_82 (by decide) ?_
              refine lv_istore (lv' := [(6, .int (nI (0 + j))), (4, .int (x ||| (1 <<< ((nI (0 + j)) &&& 31)))), (0, .ref (mw_a E 30)), (1, .ref (mw_a E (67 + s))), (2, .ref (mw_a E (14 + q))), (3, .int 2), (5, .int (nI k)), (7, .int 9), (8, .int (nI (0 + j)))]) C.1 C.2.1 dX11_allBy_87 hl (by decide) rfl (fun ls hl => ?_)
              refine lv_iinc (v := nI (k + 1)) (lv' := [(5, .int (nI (k + 1))), (6, .int (nI (0 + j))), (4, .int (x ||| (1 <<< ((nI (0 + j)) &&& 31)))), (0, .ref (mw_a E 30)), (1, .ref (mw_a E (67 + s))), (2, .ref (mw_a E (14 + q))), (3, .int 2), (7, .int 9), (8, .int (nI (0 + j)))]) C.1 C.2.1 dX11_allBy_89 hl (k := 6) rfl (nI_1 _) (by decide) rfl (fun ls hl => ?_)
              refine lv_iinc (v := nI (0 + j + 1)) (lv' := [(8, .int (nI (0 + j + 1))), (5, .int (nI (k + 1))), (6, .int (nI (0 + j))), (4, .int (x ||| (1 <<< ((nI (0 + j)) &&& 31)))), (0, .ref (mw_a E 30)), (1, .ref (mw_a E (67 + s))), (2, .ref (mw_a E (14 + q))), (3, .int 2), (7, .int 9)]) C.1 C.2.1 dX11_allBy_92 hl (k := 8) rfl (nI_1 _) (by decide) rfl (fun ls hl => ?_)
              refine lv_goto (tgt := 41) C.1 C.2.1 dX11_allBy_95 (by decide) ?_
              exact iha (j + 1) (x ||| (1 <<< ((nI (0 + j)) &&& 31))) (k + 1) (nI (0 + j)) u9 _ _ (by omega) (by omega) (by rw [ex, orS_snoc, show bitG (fun v => okF z (σ.1 0) (upd (cuX σ 0 q) 1 (nI v)) (σ.2.1 (71 + s)) m) (0 + j) = 1 <<< (nI (0 + j) &&& 31) from if_pos (okF_t.mpr c13)]) (by rw [ek, cnS_snoc, if_pos (okF_t.mpr c13)]) (by rw [leS_snoc, if_pos (okF_t.mpr c13), if_pos (by rw [← ek]; exact (nI_eq (b := 0) (by omega) (by decide)).mp c14)]) ((fra.sc hq (by first | rfl | decide) _).cb (by decide) f11) hP hS ls (lv_sub hl [4, 5, 6, 7, 3, 1, 2, 8, 0] rfl)
    exact lpa (10 + 1) 0 0 0 (-1) ς _ _ (by omega) (by omega) (rfl) (rfl) (rfl) hsu hP hS ls (lv_sub hl [5, 6, 7, 8, 4, 3, 2, 1, 0] rfl)
  · exact absurd c1 (by decide)

set_option maxHeartbeats 4000000 in
set_option maxRecDepth 100000 in
theorem cX_allBy3 (l : Launch) (E : mw_E) (σ ς : mw_M) (z : zP) (hru : xRu σ 0 z) (s : Nat) (hs : s < 4) (m : Nat) (hm : σ.1 (67 + s) 1 = nI m) (hm4 : m ≤ 40) (q : Nat) (hq : q < 8) (hsu : xSu σ (fun j => j = 0) (fun f => f = 3) q ς) : mw_Ci shX 75 gX l yX11_allBy cX11_allBy 9 (some .int) (rmF 6 178) E [.ref (mw_a E 30), .ref (mw_a E (67 + s)), .ref (mw_a E (14 + q)), .int 3] ς (fun r u => r = tellP3 (fun v => okF z (σ.1 0) (upd (cuX σ 0 q) 3 (nI v)) (σ.2.1 (71 + s)) m) 0 100 3 ∧ xQs σ u) := by
  refine mw_of (by decide) gX_ok (Nat.le_of_ble_eq_true rfl) ?_
  intro p_ e_ s_ m_ below meth c_ C hr hlk Z hP ls hl
  have C : CallFix p_ m_ c_ cX11_allBy 9 s_ _ lw_good RX11 := C
  have hl : lv_has ls 9 [(0, .ref (mw_a E 30)), (1, .ref (mw_a E (67 + s))), (2, .ref (mw_a E (14 + q))), (3, .int 3)] := hl
  have hS : va_S (mw_A 75 E) s_.heap s_.heap [] := va_S.rf
  refine lv_iconst (v := 0) C.1 C.2.1 dX11_allBy_0 (by decide) ?_
  refine lv_istore (lv' := [(4, .int 0), (0, .ref (mw_a E 30)), (1, .ref (mw_a E (67 + s))), (2, .ref (mw_a E (14 + q))), (3, .int 3)]) C.1 C.2.1 dX11_allBy_1 hl (by decide) rfl (fun ls hl => ?_)
  refine lv_iconst (v := 0) C.1 C.2.1 dX11_allBy_3 (by decide) ?_
  refine lv_istore (lv' := [(5, .int 0), (4, .int 0), (0, .ref (mw_a E 30)), (1, .ref (mw_a E (67 + s))), (2, .ref (mw_a E (14 + q))), (3, .int 3)]) C.1 C.2.1 dX11_allBy_4 hl (by decide) rfl (fun ls hl => ?_)
  refine lv_iconst (v := -1) C.1 C.2.1 dX11_allBy_6 (by decide) ?_
  refine lv_istore (lv' := [(6, .int (-1)), (5, .int 0), (4, .int 0), (0, .ref (mw_a E 30)), (1, .ref (mw_a E (67 + s))), (2, .ref (mw_a E (14 + q))), (3, .int 3)]) C.1 C.2.1 dX11_allBy_7 hl (by decide) rfl (fun ls hl => ?_)
  refine lv_iload_n C.1 C.2.1 dX11_allBy_9 rfl (lv_at hl 6 rfl) ?_
  refine lv_bipush (v := 7) C.1 C.2.1 dX11_allBy_10 (by decide) ?_
  refine lv_icmp_ne (tgt := 27) C.1 C.2.1 dX11_allBy_12 (by decide) (fun c1 => ?_) (fun c1 => ?_)
  · refine xw_gets C Z hS 4 (by decide) tw_4_65 dX11_allBy_27 ?_
    refine lv_iload_n C.1 C.2.1 dX11_allBy_30 rfl (lv_at hl 6 rfl) ?_
    refine xw_tld C Z hS 4 (3) (by decide) rfl (by show _ < 8; exact (by decide)) (by decide) dX11_allBy_31 ?_
    refine mw_top (y := 99) rfl ?_
    refine lv_istore (lv' := [(7, .int 99), (6, .int (-1)), (5, .int 0), (4, .int 0), (0, .ref (mw_a E 30)), (1, .ref (mw_a E (67 + s))), (2, .ref (mw_a E (14 + q))), (3, .int 3)]) C.1 C.2.1 dX11_allBy_32 hl (by decide) rfl (fun ls hl => ?_)
    refine xw_gets C Z hS 3 (by decide) tw_4_67 dX11_allBy_34 ?_
    refine lv_iload_n C.1 C.2.1 dX11_allBy_37 rfl (lv_at hl 7 rfl) ?_
    refine xw_tld C Z hS 3 (3) (by decide) rfl (by show _ < 8; exact (by decide)) (by decide) dX11_allBy_38 ?_
    refine mw_top (y := 0) rfl ?_
    refine lv_istore (lv' := [(8, .int 0), (7, .int 99), (6, .int (-1)), (5, .int 0), (4, .int 0), (0, .ref (mw_a E 30)), (1, .ref (mw_a E (67 + s))), (2, .ref (mw_a E (14 + q))), (3, .int 3)]) C.1 C.2.1 dX11_allBy_39 hl (by decide) rfl (fun ls hl => ?_)
    have lpa : ∀ (N : Nat) (j : Nat) (x : Int32) (k : Nat) (y : Int32) (ςa : mw_M) (H : Heap) (locs : List Loc), 100 + 1 ≤ j + N → (j ≤ 100) → (x = orS (bitG (fun v => okF z (σ.1 0) (upd (cuX σ 0 q) 3 (nI v)) (σ.2.1 (71 + s)) m)) j 0) → (k = cnS (fun v => okF z (σ.1 0) (upd (cuX σ 0 q) 3 (nI v)) (σ.2.1 (71 + s)) m) j 0) → (y = leS (fun v => okF z (σ.1 0) (upd (cuX σ 0 q) 3 (nI v)) (σ.2.1 (71 + s)) m) j 0) → xSu σ (fun j => j = 0) (fun f => f = 3) q ςa → va_P (mw_D E) vwCl (mw_ws shX 75 E ςa) H → va_S (mw_A 75 E) s_.heap H locs → ∀ (ls : Array Slot), lv_has ls 9 [(0, .ref (mw_a E 30)), (1, .ref (mw_a E (67 + s))), (2, .ref (mw_a E (14 + q))), (3, .int 3), (4, .int x), (5, .int (nI k)), (6, .int y), (7, .int 99), (8, .int (nI (0 + j)))] → xWi p_ l e_ (rmF 6 178) s_ m_ [.ref (mw_a E 30), .ref (mw_a E (67 + s)), .ref (mw_a E (14 + q)), .int 3] below meth c_ E (fun r u => r = tellP3 (fun v => okF z (σ.1 0) (upd (cuX σ 0 q) 3 (nI v)) (σ.2.1 (71 + s)) m) 0 100 3 ∧ xQs σ u) H locs (F0 m_ 41 ls []) := by
      intro N
      induction N with
      | zero => intros; exfalso; omega
      | succ N iha =>
        intro j x k y ςa H locs hNa hj ex ek ey fra hP hS ls hl
        have hk100 : k ≤ j := by rw [ek]; exact cnS_le _ j 0
        refine lv_iload C.1 C.2.1 dX11_allBy_41 (lv_at hl 8 rfl) ?_
        refine lv_iload C.1 C.2.1 dX11_allBy_43 (lv_at hl 7 rfl) ?_
        refine lv_icmp_gt (tgt := 98) C.1 C.2.1 dX11_allBy_45 (by decide) (fun c2 => ?_) (fun c2 => ?_)
        · have c2 := (nI_ltI (a := 99) (by decide) (by omega)).mp c2
          refine lv_iload_n C.1 C.2.1 dX11_allBy_98 rfl (lv_at hl 3 rfl) ?_
          refine lv_iconst (v := 3) C.1 C.2.1 dX11_allBy_99 (by decide) ?_
          refine lv_icmp_ne (tgt := 106) C.1 C.2.1 dX11_allBy_100 (by decide) (fun c3 => ?_) (fun c3 => ?_)
          · exact absurd c3 (by decide)
          · refine lv_iload C.1 C.2.1 dX11_allBy_103 (lv_at hl 5 rfl) ?_
            exact mw_iret C hr hlk Z hP hS dX11_allBy_105 (⟨by rw [ek, show j = 100 by omega]; unfold tellP3; rw [if_pos rfl], fra.1⟩)
        · have c2 := (not_congr (nI_ltI (a := 99) (by decide) (by omega))).mp c2
          refine lv_aload_n C.1 C.2.1 dX11_allBy_48 rfl (lv_at hl 0 rfl) ?_
          refine lv_aload_n C.1 C.2.1 dX11_allBy_49 rfl (lv_at hl 2 rfl) ?_
          refine lv_iload_n C.1 C.2.1 dX11_allBy_50 rfl (lv_at hl 3 rfl) ?_
          refine lv_iload C.1 C.2.1 dX11_allBy_51 (lv_at hl 8 rfl) ?_
          refine mw_cVv (As := [.ref (mw_a E (14 + q)), .int 3, .int (nI (0 + j))]) (rest := []) C Z hP hS (30) (cX_suppose3 l E ςa q hq (nI (0 + j))) vb_X11_suppose tw_4_69 ⟨rfl, rfl⟩ ⟨Nat.le_of_ble_eq_true rfl, Nat.le_of_ble_eq_true rfl⟩ (by decide) sx_30 rfl rfl rfl hl.1 rfl (Nat.le_of_ble_eq_true rfl) dX11_allBy_53 ⟨Nat.zero_le _, Nat.zero_le _⟩ (fun u5 H locs q6 hP hS => ?_)
          subst q6
          refine lv_aload_n C.1 C.2.1 dX11_allBy_56 rfl (lv_at hl 0 rfl) ?_
          refine lv_aload_n C.1 C.2.1 dX11_allBy_57 rfl (lv_at hl 1 rfl) ?_
          refine lv_aload_n C.1 C.2.1 dX11_allBy_58 rfl (lv_at hl 2 rfl) ?_
          refine mw_cVi (As := [.ref (mw_a E (67 + s)), .ref (mw_a E (14 + q))]) (rest := []) C Z hP hS (30) (cX_first l E (mw_si ςa (14 + q) 3 (nI (0 + j))) z ((fra.sc hq (by first | rfl | decide) _).ru (by decide) hru) s hs m ((congrFun ((fra.sc hq (by first | rfl | decide) _).1.1 (67 + s) (by refine ⟨?_, ?_, ?_⟩ <;> omega)) _).trans hm) hm4 q hq) vb_X11_firstOtherwise tw_4_57 ⟨rfl, rfl⟩ ⟨Nat.le_of_ble_eq_true rfl, Nat.le_of_ble_eq_true rfl⟩ (by decide) sx_30 rfl rfl rfl hl.1 rfl (Nat.le_of_ble_eq_true rfl) dX11_allBy_59 ⟨Nat.zero_le _, Nat.zero_le _⟩ (fun r7 u8 H locs q9 hP hS => ?_)
          obtain ⟨e11, f10⟩ := q9
          rw [su_ok (st2 := σ.1 0) (cu2 := upd (cuX σ 0 q) 3 (nI (0 + j))) (cl2 := σ.2.1 (71 + s)) (fun j hj h0 => (fra.sc hq (by first | rfl | decide) _).2.1 j (by omega) h0) (su_c fra.2.2) (fun i hi => congrFun ((fra.sc hq (by first | rfl | decide) _).1.2 (71 + s) (by omega)) i)] at e11
          subst e11
          refine lv_iconst (v := -1) C.1 C.2.1 dX11_allBy_62 (by decide) ?_
          refine lv_icmp_ne (tgt := 92) C.1 C.2.1 dX11_allBy_63 (by decide) (fun c12 => ?_) (fun c12 => ?_)
          · refine lv_iinc (v := nI (0 + j + 1)) (lv' := [(8, .int (nI (0 + j + 1))), (0, .ref (mw_a E 30)), (1, .ref (mw_a E (67 + s))), (2, .ref (mw_a E (14 + q))), (3, .int 3), (4, .int x), (5, .int (nI k)), (6, .int y), (7, .int 99)]) C.1 C.2.1 dX11_allBy_92 hl (k := 8) rfl (nI_1 _) (by decide) rfl (fun ls hl => ?_)
            refine lv_goto (tgt := 41) C.1 C.2.1 dX11_allBy_95 (by decide) ?_
            exact iha (j + 1) x k y u8 _ _ (by omega) (by omega) (by rw [ex, orS_snoc, show bitG (fun v => okF z (σ.1 0) (upd (cuX σ 0 q) 3 (nI v)) (σ.2.1 (71 + s)) m) (0 + j) = 0 from if_neg (fun y => c12 (okF_t.mp y)), Int32.or_zero]) (by rw [ek, cnS_snoc, if_neg (fun y => c12 (okF_t.mp y))]; rfl) (by rw [ey, leS_snoc, if_neg (fun y => c12 (okF_t.mp y))]; by_cases h0 : cnS (fun v => okF z (σ.1 0) (upd (cuX σ 0 q) 3 (nI v)) (σ.2.1 (71 + s)) m) j 0 = 0; (rw [if_pos h0, leS_0 _ _ _ h0]); (rw [if_neg h0])) ((fra.sc hq (by first | rfl | decide) _).cb (by decide) f10) hP hS ls (lv_sub hl [1, 2, 3, 4, 5, 6, 7, 8, 0] rfl)
          · refine lv_iload C.1 C.2.1 dX11_allBy_66 (lv_at hl 4 rfl) ?_
            refine lv_iconst (v := 1) C.1 C.2.1 dX11_allBy_68 (by decide) ?_
            refine lv_iload C.1 C.2.1 dX11_allBy_69 (lv_at hl 8 rfl) ?_
            refine lv_ishl C.1 C.2.1 dX11_allBy_71 ?_
            refine lv_ior C.1 C.2.1 dX11_allBy_72 ?_
            refine lv_istore (lv' := [(4, .int (x ||| (1 <<< ((nI (0 + j)) &&& 31)))), (0, .ref (mw_a E 30)), (1, .ref (mw_a E (67 + s))), (2, .ref (mw_a E (14 + q))), (3, .int 3), (5, .int (nI k)), (6, .int y), (7, .int 99), (8, .int (nI (0 + j)))]) C.1 C.2.1 dX11_allBy_73 hl (by decide) rfl (fun ls hl => ?_)
            refine lv_iload C.1 C.2.1 dX11_allBy_75 (lv_at hl 5 rfl) ?_
            refine lv_if_ne (tgt := 85) C.1 C.2.1 dX11_allBy_77 (by decide) (fun c13 => ?_) (fun c13 => ?_)
            · refine lv_iload C.1 C.2.1 dX11_allBy_85 (lv_at hl 6 rfl) ?_
              refine lv_istore (lv' := [(6, .int y), (4, .int (x ||| (1 <<< ((nI (0 + j)) &&& 31)))), (0, .ref (mw_a E 30)), (1, .ref (mw_a E (67 + s))), (2, .ref (mw_a E (14 + q))), (3, .int 3), (5, .int (nI k)), (7, .int 99), (8, .int (nI (0 + j)))]) C.1 C.2.1 dX11_allBy_87 hl (by decide) rfl (fun ls hl => ?_)
              refine lv_iinc (v := nI (k + 1)) (lv' := [(5, .int (nI (k + 1))), (6, .int y), (4, .int (x ||| (1 <<< ((nI (0 + j)) &&& 31)))), (0, .ref (mw_a E 30)), (1, .ref (mw_a E (67 + s))), (2, .ref (mw_a E (14 + q))), (3, .int 3), (7, .int 99), (8, .int (nI (0 + j)))]) C.1 C.2.1 dX11_allBy_89 hl (k := 6) rfl (nI_1 _) (by decide) rfl (fun ls hl => ?_)
              refine lv_iinc (v := nI (0 + j + 1)) (lv' := [(8, .int (nI (0 + j + 1))), (5, .int (nI (k + 1))), (6, .int y), (4, .int (x ||| (1 <<< ((nI (0 + j)) &&& 31)))), (0, .ref (mw_a E 30)), (1, .ref (mw_a E (67 + s))), (2, .ref (mw_a E (14 + q))), (3, .int 3), (7, .int 99)]) C.1 C.2.1 dX11_allBy_92 hl (k := 8) rfl (nI_1 _) (by decide) rfl (fun ls hl => ?_)
              refine lv_goto (tgt := 41) C.1 C.2.1 dX11_allBy_95 (by decide) ?_
              exact iha (j + 1) (x ||| (1 <<< ((nI (0 + j)) &&& 31))) (k + 1) y u8 _ _ (by omega) (by omega) (by rw [ex, orS_snoc, show bitG (fun v => okF z (σ.1 0) (upd (cuX σ 0 q) 3 (nI v)) (σ.2.1 (71 + s)) m) (0 + j) = 1 <<< (nI (0 + j) &&& 31) from if_pos (okF_t.mpr c12)]) (by rw [ek, cnS_snoc, if_pos (okF_t.mpr c12)]) (by rw [ey, leS_snoc, if_pos (okF_t.mpr c12), if_neg (by rw [← ek]; exact fun y => c13 (by rw [y]; rfl))]) ((fra.sc hq (by first | rfl | decide) _).cb (by decide) f10) hP hS ls (lv_sub hl [4, 5, 6, 7, 3, 1, 2, 8, 0] rfl)
            · refine lv_iload C.1 C.2.1 dX11_allBy_80 (lv_at hl 8 rfl) ?_
              refine lv_goto (tgt := 87) C.1 C.2.1 dX11_allBy_82 (by decide) ?_
              refine lv_istore (lv' := [(6, .int (nI (0 + j))), (4, .int (x ||| (1 <<< ((nI (0 + j)) &&& 31)))), (0, .ref (mw_a E 30)), (1, .ref (mw_a E (67 + s))), (2, .ref (mw_a E (14 + q))), (3, .int 3), (5, .int (nI k)), (7, .int 99), (8, .int (nI (0 + j)))]) C.1 C.2.1 dX11_allBy_87 hl (by decide) rfl (fun ls hl => ?_)
              refine lv_iinc (v := nI (k + 1)) (lv' := [(5, .int (nI (k + 1))), (6, .int (nI (0 + j))), (4, .int (x ||| (1 <<< ((nI (0 + j)) &&& 31)))), (0, .ref (mw_a E 30)), (1, .ref (mw_a E (67 + s))), (2, .ref (mw_a E (14 + q))), (3, .int 3), (7, .int 99), (8, .int (nI (0 + j)))]) C.1 C.2.1 dX11_allBy_89 hl (k := 6) rfl (nI_1 _) (by decide) rfl (fun ls hl => ?_)
              refine lv_iinc (v := nI (0 + j + 1)) (lv' := [(8, .int (nI (0 + j + 1))), (5, .int (nI (k + 1))), (6, .int (nI (0 + j))), (4, .int (x ||| (1 <<< ((nI (0 + j)) &&& 31)))), (0, .ref (mw_a E 30)), (1, .ref (mw_a E (67 + s))), (2, .ref (mw_a E (14 + q))), (3, .int 3), (7, .int 99)]) C.1 C.2.1 dX11_allBy_92 hl (k := 8) rfl (nI_1 _) (by decide) rfl (fun ls hl => ?_)
              refine lv_goto (tgt := 41) C.1 C.2.1 dX11_allBy_95 (by decide) ?_
              exact iha (j + 1) (x ||| (1 <<< ((nI (0 + j)) &&& 31))) (k + 1) (nI (0 + j)) u8 _ _ (by omega) (by omega) (by rw [ex, orS_snoc, show bitG (fun v => okF z (σ.1 0) (upd (cuX σ 0 q) 3 (nI v)) (σ.2.1 (71 + s)) m) (0 + j) = 1 <<< (nI (0 + j) &&& 31) from if_pos (okF_t.mpr c12)]) (by rw [ek, cnS_snoc, if_pos (okF_t.mpr c12)]) (by rw [leS_snoc, if_pos (okF_t.mpr c12), if_pos (by rw [← ek]; exact (nI_eq (b := 0) (by omega) (by decide)).mp c13)]) ((fra.sc hq (by first | rfl | decide) _).cb (by decide) f10) hP hS ls (lv_sub hl [4, 5, 6, 7, 3, 1, 2, 8, 0] rfl)
    exact lpa (100 + 1) 0 0 0 (-1) ς _ _ (by omega) (by omega) (rfl) (rfl) (rfl) hsu hP hS ls (lv_sub hl [5, 6, 7, 8, 4, 3, 2, 1, 0] rfl)
  · exact absurd c1 (by decide)

set_option maxHeartbeats 4000000 in
set_option maxRecDepth 100000 in
theorem cX_allBy4 (l : Launch) (E : mw_E) (σ ς : mw_M) (z : zP) (hru : xRu σ 0 z) (s : Nat) (hs : s < 4) (m : Nat) (hm : σ.1 (67 + s) 1 = nI m) (hm4 : m ≤ 40) (q : Nat) (hq : q < 8) (hsu : xSu σ (fun j => j = 0) (fun f => f = 3) q ς) : mw_Ci shX 75 gX l yX11_allBy cX11_allBy 9 (some .int) (rmF 6 178) E [.ref (mw_a E 30), .ref (mw_a E (67 + s)), .ref (mw_a E (14 + q)), .int 4] ς (fun r u => r = tellP3 (fun v => okF z (σ.1 0) (upd (cuX σ 0 q) 3 (nI v)) (σ.2.1 (71 + s)) m) 0 100 4 ∧ xQs σ u) := by
  refine mw_of (by decide) gX_ok (Nat.le_of_ble_eq_true rfl) ?_
  intro p_ e_ s_ m_ below meth c_ C hr hlk Z hP ls hl
  have C : CallFix p_ m_ c_ cX11_allBy 9 s_ _ lw_good RX11 := C
  have hl : lv_has ls 9 [(0, .ref (mw_a E 30)), (1, .ref (mw_a E (67 + s))), (2, .ref (mw_a E (14 + q))), (3, .int 4)] := hl
  have hS : va_S (mw_A 75 E) s_.heap s_.heap [] := va_S.rf
  refine lv_iconst (v := 0) C.1 C.2.1 dX11_allBy_0 (by decide) ?_
  refine lv_istore (lv' := [(4, .int 0), (0, .ref (mw_a E 30)), (1, .ref (mw_a E (67 + s))), (2, .ref (mw_a E (14 + q))), (3, .int 4)]) C.1 C.2.1 dX11_allBy_1 hl (by decide) rfl (fun ls hl => ?_)
  refine lv_iconst (v := 0) C.1 C.2.1 dX11_allBy_3 (by decide) ?_
  refine lv_istore (lv' := [(5, .int 0), (4, .int 0), (0, .ref (mw_a E 30)), (1, .ref (mw_a E (67 + s))), (2, .ref (mw_a E (14 + q))), (3, .int 4)]) C.1 C.2.1 dX11_allBy_4 hl (by decide) rfl (fun ls hl => ?_)
  refine lv_iconst (v := -1) C.1 C.2.1 dX11_allBy_6 (by decide) ?_
  refine lv_istore (lv' := [(6, .int (-1)), (5, .int 0), (4, .int 0), (0, .ref (mw_a E 30)), (1, .ref (mw_a E (67 + s))), (2, .ref (mw_a E (14 + q))), (3, .int 4)]) C.1 C.2.1 dX11_allBy_7 hl (by decide) rfl (fun ls hl => ?_)
  refine lv_iload_n C.1 C.2.1 dX11_allBy_9 rfl (lv_at hl 6 rfl) ?_
  refine lv_bipush (v := 7) C.1 C.2.1 dX11_allBy_10 (by decide) ?_
  refine lv_icmp_ne (tgt := 27) C.1 C.2.1 dX11_allBy_12 (by decide) (fun c1 => ?_) (fun c1 => ?_)
  · refine xw_gets C Z hS 4 (by decide) tw_4_65 dX11_allBy_27 ?_
    refine lv_iload_n C.1 C.2.1 dX11_allBy_30 rfl (lv_at hl 6 rfl) ?_
    refine xw_tld C Z hS 4 (4) (by decide) rfl (by show _ < 8; exact (by decide)) (by decide) dX11_allBy_31 ?_
    refine mw_top (y := 99) rfl ?_
    refine lv_istore (lv' := [(7, .int 99), (6, .int (-1)), (5, .int 0), (4, .int 0), (0, .ref (mw_a E 30)), (1, .ref (mw_a E (67 + s))), (2, .ref (mw_a E (14 + q))), (3, .int 4)]) C.1 C.2.1 dX11_allBy_32 hl (by decide) rfl (fun ls hl => ?_)
    refine xw_gets C Z hS 3 (by decide) tw_4_67 dX11_allBy_34 ?_
    refine lv_iload_n C.1 C.2.1 dX11_allBy_37 rfl (lv_at hl 7 rfl) ?_
    refine xw_tld C Z hS 3 (4) (by decide) rfl (by show _ < 8; exact (by decide)) (by decide) dX11_allBy_38 ?_
    refine mw_top (y := 0) rfl ?_
    refine lv_istore (lv' := [(8, .int 0), (7, .int 99), (6, .int (-1)), (5, .int 0), (4, .int 0), (0, .ref (mw_a E 30)), (1, .ref (mw_a E (67 + s))), (2, .ref (mw_a E (14 + q))), (3, .int 4)]) C.1 C.2.1 dX11_allBy_39 hl (by decide) rfl (fun ls hl => ?_)
    have lpa : ∀ (N : Nat) (j : Nat) (x : Int32) (k : Nat) (y : Int32) (ςa : mw_M) (H : Heap) (locs : List Loc), 100 + 1 ≤ j + N → (j ≤ 100) → (x = orS (bitG (fun v => okF z (σ.1 0) (upd (cuX σ 0 q) 3 (nI v)) (σ.2.1 (71 + s)) m)) j 0) → (k = cnS (fun v => okF z (σ.1 0) (upd (cuX σ 0 q) 3 (nI v)) (σ.2.1 (71 + s)) m) j 0) → (y = leS (fun v => okF z (σ.1 0) (upd (cuX σ 0 q) 3 (nI v)) (σ.2.1 (71 + s)) m) j 0) → xSu σ (fun j => j = 0) (fun f => f = 3) q ςa → va_P (mw_D E) vwCl (mw_ws shX 75 E ςa) H → va_S (mw_A 75 E) s_.heap H locs → ∀ (ls : Array Slot), lv_has ls 9 [(0, .ref (mw_a E 30)), (1, .ref (mw_a E (67 + s))), (2, .ref (mw_a E (14 + q))), (3, .int 4), (4, .int x), (5, .int (nI k)), (6, .int y), (7, .int 99), (8, .int (nI (0 + j)))] → xWi p_ l e_ (rmF 6 178) s_ m_ [.ref (mw_a E 30), .ref (mw_a E (67 + s)), .ref (mw_a E (14 + q)), .int 4] below meth c_ E (fun r u => r = tellP3 (fun v => okF z (σ.1 0) (upd (cuX σ 0 q) 3 (nI v)) (σ.2.1 (71 + s)) m) 0 100 4 ∧ xQs σ u) H locs (F0 m_ 41 ls []) := by
      intro N
      induction N with
      | zero => intros; exfalso; omega
      | succ N iha =>
        intro j x k y ςa H locs hNa hj ex ek ey fra hP hS ls hl
        have hk100 : k ≤ j := by rw [ek]; exact cnS_le _ j 0
        refine lv_iload C.1 C.2.1 dX11_allBy_41 (lv_at hl 8 rfl) ?_
        refine lv_iload C.1 C.2.1 dX11_allBy_43 (lv_at hl 7 rfl) ?_
        refine lv_icmp_gt (tgt := 98) C.1 C.2.1 dX11_allBy_45 (by decide) (fun c2 => ?_) (fun c2 => ?_)
        · have c2 := (nI_ltI (a := 99) (by decide) (by omega)).mp c2
          refine lv_iload_n C.1 C.2.1 dX11_allBy_98 rfl (lv_at hl 3 rfl) ?_
          refine lv_iconst (v := 3) C.1 C.2.1 dX11_allBy_99 (by decide) ?_
          refine lv_icmp_ne (tgt := 106) C.1 C.2.1 dX11_allBy_100 (by decide) (fun c3 => ?_) (fun c3 => ?_)
          · refine lv_iload_n C.1 C.2.1 dX11_allBy_106 rfl (lv_at hl 3 rfl) ?_
            refine lv_iconst (v := 4) C.1 C.2.1 dX11_allBy_107 (by decide) ?_
            refine lv_icmp_ne (tgt := 116) C.1 C.2.1 dX11_allBy_108 (by decide) (fun c4 => ?_) (fun c4 => ?_)
            · exact absurd c4 (by decide)
            · refine lv_iload C.1 C.2.1 dX11_allBy_111 (lv_at hl 6 rfl) ?_
              refine lv_goto (tgt := 118) C.1 C.2.1 dX11_allBy_113 (by decide) ?_
              exact mw_iret C hr hlk Z hP hS dX11_allBy_118 (⟨by rw [ey, show j = 100 by omega]; unfold tellP3; rw [if_neg (by decide), if_pos rfl], fra.1⟩)
          · exact absurd c3 (by decide)
        · have c2 := (not_congr (nI_ltI (a := 99) (by decide) (by omega))).mp c2
          refine lv_aload_n C.1 C.2.1 dX11_allBy_48 rfl (lv_at hl 0 rfl) ?_
          refine lv_aload_n C.1 C.2.1 dX11_allBy_49 rfl (lv_at hl 2 rfl) ?_
          refine lv_iload_n C.1 C.2.1 dX11_allBy_50 rfl (lv_at hl 3 rfl) ?_
          refine lv_iload C.1 C.2.1 dX11_allBy_51 (lv_at hl 8 rfl) ?_
          refine mw_cVv (As := [.ref (mw_a E (14 + q)), .int 4, .int (nI (0 + j))]) (rest := []) C Z hP hS (30) (cX_suppose4 l E ςa q hq (nI (0 + j))) vb_X11_suppose tw_4_69 ⟨rfl, rfl⟩ ⟨Nat.le_of_ble_eq_true rfl, Nat.le_of_ble_eq_true rfl⟩ (by decide) sx_30 rfl rfl rfl hl.1 rfl (Nat.le_of_ble_eq_true rfl) dX11_allBy_53 ⟨Nat.zero_le _, Nat.zero_le _⟩ (fun u6 H locs q7 hP hS => ?_)
          subst q7
          refine lv_aload_n C.1 C.2.1 dX11_allBy_56 rfl (lv_at hl 0 rfl) ?_
          refine lv_aload_n C.1 C.2.1 dX11_allBy_57 rfl (lv_at hl 1 rfl) ?_
          refine lv_aload_n C.1 C.2.1 dX11_allBy_58 rfl (lv_at hl 2 rfl) ?_
          refine mw_cVi (As := [.ref (mw_a E (67 + s)), .ref (mw_a E (14 + q))]) (rest := []) C Z hP hS (30) (cX_first l E (mw_si ςa (14 + q) 3 (nI (0 + j))) z ((fra.sc hq (by first | rfl | decide) _).ru (by decide) hru) s hs m ((congrFun ((fra.sc hq (by first | rfl | decide) _).1.1 (67 + s) (by refine ⟨?_, ?_, ?_⟩ <;> omega)) _).trans hm) hm4 q hq) vb_X11_firstOtherwise tw_4_57 ⟨rfl, rfl⟩ ⟨Nat.le_of_ble_eq_true rfl, Nat.le_of_ble_eq_true rfl⟩ (by decide) sx_30 rfl rfl rfl hl.1 rfl (Nat.le_of_ble_eq_true rfl) dX11_allBy_59 ⟨Nat.zero_le _, Nat.zero_le _⟩ (fun r8 u9 H locs q10 hP hS => ?_)
          obtain ⟨e12, f11⟩ := q10
          rw [su_ok (st2 := σ.1 0) (cu2 := upd (cuX σ 0 q) 3 (nI (0 + j))) (cl2 := σ.2.1 (71 + s)) (fun j hj h0 => (fra.sc hq (by first | rfl | decide) _).2.1 j (by omega) h0) (su_c fra.2.2) (fun i hi => congrFun ((fra.sc hq (by first | rfl | decide) _).1.2 (71 + s) (by omega)) i)] at e12
          subst e12
          refine lv_iconst (v := -1) C.1 C.2.1 dX11_allBy_62 (by decide) ?_
          refine lv_icmp_ne (tgt := 92) C.1 C.2.1 dX11_allBy_63 (by decide) (fun c13 => ?_) (fun c13 => ?_)
          · refine lv_iinc (v := nI (0 + j + 1)) (lv' := [(8, .int (nI (0 + j + 1))), (0, .ref (mw_a E 30)), (1, .ref (mw_a E (67 + s))), (2, .ref (mw_a E (14 + q))), (3, .int 4), (4, .int x), (5, .int (nI k)), (6, .int y), (7, .int 99)]) C.1 C.2.1 dX11_allBy_92 hl (k := 8) rfl (nI_1 _) (by decide) rfl (fun ls hl => ?_)
            refine lv_goto (tgt := 41) C.1 C.2.1 dX11_allBy_95 (by decide) ?_
            exact iha (j + 1) x k y u9 _ _ (by omega) (by omega) (by rw [ex, orS_snoc, show bitG (fun v => okF z (σ.1 0) (upd (cuX σ 0 q) 3 (nI v)) (σ.2.1 (71 + s)) m) (0 + j) = 0 from if_neg (fun y => c13 (okF_t.mp y)), Int32.or_zero]) (by rw [ek, cnS_snoc, if_neg (fun y => c13 (okF_t.mp y))]; rfl) (by rw [ey, leS_snoc, if_neg (fun y => c13 (okF_t.mp y))]; by_cases h0 : cnS (fun v => okF z (σ.1 0) (upd (cuX σ 0 q) 3 (nI v)) (σ.2.1 (71 + s)) m) j 0 = 0; (rw [if_pos h0, leS_0 _ _ _ h0]); (rw [if_neg h0])) ((fra.sc hq (by first | rfl | decide) _).cb (by decide) f11) hP hS ls (lv_sub hl [1, 2, 3, 4, 5, 6, 7, 8, 0] rfl)
          · refine lv_iload C.1 C.2.1 dX11_allBy_66 (lv_at hl 4 rfl) ?_
            refine lv_iconst (v := 1) C.1 C.2.1 dX11_allBy_68 (by decide) ?_
            refine lv_iload C.1 C.2.1 dX11_allBy_69 (lv_at hl 8 rfl) ?_
            refine lv_ishl C.1 C.2.1 dX11_allBy_71 ?_
            refine lv_ior C.1 C.2.1 dX11_allBy_72 ?_
            refine lv_istore (lv' := [(4, .int (x ||| (1 <<< ((nI (0 + j)) &&& 31)))), (0, .ref (mw_a E 30)), (1, .ref (mw_a E (67 + s))), (2, .ref (mw_a E (14 + q))), (3, .int 4), (5, .int (nI k)), (6, .int y), (7, .int 99), (8, .int (nI (0 + j)))]) C.1 C.2.1 dX11_allBy_73 hl (by decide) rfl (fun ls hl => ?_)
            refine lv_iload C.1 C.2.1 dX11_allBy_75 (lv_at hl 5 rfl) ?_
            refine lv_if_ne (tgt := 85) C.1 C.2.1 dX11_allBy_77 (by decide) (fun c14 => ?_) (fun c14 => ?_)
            · refine lv_iload C.1 C.2.1 dX11_allBy_85 (lv_at hl 6 rfl) ?_
              refine lv_istore (lv' := [(6, .int y), (4, .int (x ||| (1 <<< ((nI (0 + j)) &&& 31)))), (0, .ref (mw_a E 30)), (1, .ref (mw_a E (67 + s))), (2, .ref (mw_a E (14 + q))), (3, .int 4), (5, .int (nI k)), (7, .int 99), (8, .int (nI (0 + j)))]) C.1 C.2.1 dX11_allBy_87 hl (by decide) rfl (fun ls hl => ?_)
              refine lv_iinc (v := nI (k + 1)) (lv' := [(5, .int (nI (k + 1))), (6, .int y), (4, .int (x ||| (1 <<< ((nI (0 + j)) &&& 31)))), (0, .ref (mw_a E 30)), (1, .ref (mw_a E (67 + s))), (2, .ref (mw_a E (14 + q))), (3, .int 4), (7, .int 99), (8, .int (nI (0 + j)))]) C.1 C.2.1 dX11_allBy_89 hl (k := 6) rfl (nI_1 _) (by decide) rfl (fun ls hl => ?_)
              refine lv_iinc (v := nI (0 + j + 1)) (lv' := [(8, .int (nI (0 + j + 1))), (5, .int (nI (k + 1))), (6, .int y), (4, .int (x ||| (1 <<< ((nI (0 + j)) &&& 31)))), (0, .ref (mw_a E 30)), (1, .ref (mw_a E (67 + s))), (2, .ref (mw_a E (14 + q))), (3, .int 4), (7, .int 99)]) C.1 C.2.1 dX11_allBy_92 hl (k := 8) rfl (nI_1 _) (by decide) rfl (fun ls hl => ?_)
              refine lv_goto (tgt := 41) C.1 C.2.1 dX11_allBy_95 (by decide) ?_
              exact iha (j + 1) (x ||| (1 <<< ((nI (0 + j)) &&& 31))) (k + 1) y u9 _ _ (by omega) (by omega) (by rw [ex, orS_snoc, show bitG (fun v => okF z (σ.1 0) (upd (cuX σ 0 q) 3 (nI v)) (σ.2.1 (71 + s)) m) (0 + j) = 1 <<< (nI (0 + j) &&& 31) from if_pos (okF_t.mpr c13)]) (by rw [ek, cnS_snoc, if_pos (okF_t.mpr c13)]) (by rw [ey, leS_snoc, if_pos (okF_t.mpr c13), if_neg (by rw [← ek]; exact fun y => c14 (by rw [y]; rfl))]) ((fra.sc hq (by first | rfl | decide) _).cb (by decide) f11) hP hS ls (lv_sub hl [4, 5, 6, 7, 3, 1, 2, 8, 0] rfl)
            · refine lv_iload C.1 C.2.1 dX11_allBy_80 (lv_at hl 8 rfl) ?_
              refine lv_goto (tgt := 87) C.1 C.2.1 dX11_allBy_82 (by decide) ?_
              refine lv_istore (lv' := [(6, .int (nI (0 + j))), (4, .int (x ||| (1 <<< ((nI (0 + j)) &&& 31)))), (0, .ref (mw_a E 30)), (1, .ref (mw_a E (67 + s))), (2, .ref (mw_a E (14 + q))), (3, .int 4), (5, .int (nI k)), (7, .int 99), (8, .int (nI (0 + j)))]) C.1 C.2.1 dX11_allBy_87 hl (by decide) rfl (fun ls hl => ?_)
              refine lv_iinc (v := nI (k + 1)) (lv' := [(5, .int (nI (k + 1))), (6, .int (nI (0 + j))), (4, .int (x ||| (1 <<< ((nI (0 + j)) &&& 31)))), (0, .ref (mw_a E 30)), (1, .ref (mw_a E (67 + s))), (2, .ref (mw_a E (14 + q))), (3, .int 4), (7, .int 99), (8, .int (nI (0 + j)))]) C.1 C.2.1 dX11_allBy_89 hl (k := 6) rfl (nI_1 _) (by decide) rfl (fun ls hl => ?_)
              refine lv_iinc (v := nI (0 + j + 1)) (lv' := [(8, .int (nI (0 + j + 1))), (5, .int (nI (k + 1))), (6, .int (nI (0 + j))), (4, .int (x ||| (1 <<< ((nI (0 + j)) &&& 31)))), (0, .ref (mw_a E 30)), (1, .ref (mw_a E (67 + s))), (2, .ref (mw_a E (14 + q))), (3, .int 4), (7, .int 99)]) C.1 C.2.1 dX11_allBy_92 hl (k := 8) rfl (nI_1 _) (by decide) rfl (fun ls hl => ?_)
              refine lv_goto (tgt := 41) C.1 C.2.1 dX11_allBy_95 (by decide) ?_
              exact iha (j + 1) (x ||| (1 <<< ((nI (0 + j)) &&& 31))) (k + 1) (nI (0 + j)) u9 _ _ (by omega) (by omega) (by rw [ex, orS_snoc, show bitG (fun v => okF z (σ.1 0) (upd (cuX σ 0 q) 3 (nI v)) (σ.2.1 (71 + s)) m) (0 + j) = 1 <<< (nI (0 + j) &&& 31) from if_pos (okF_t.mpr c13)]) (by rw [ek, cnS_snoc, if_pos (okF_t.mpr c13)]) (by rw [leS_snoc, if_pos (okF_t.mpr c13), if_pos (by rw [← ek]; exact (nI_eq (b := 0) (by omega) (by decide)).mp c14)]) ((fra.sc hq (by first | rfl | decide) _).cb (by decide) f11) hP hS ls (lv_sub hl [4, 5, 6, 7, 3, 1, 2, 8, 0] rfl)
    exact lpa (100 + 1) 0 0 0 (-1) ς _ _ (by omega) (by omega) (rfl) (rfl) (rfl) hsu hP hS ls (lv_sub hl [5, 6, 7, 8, 4, 3, 2, 1, 0] rfl)
  · exact absurd c1 (by decide)

set_option maxHeartbeats 4000000 in
set_option maxRecDepth 100000 in
theorem cX_allBy5 (l : Launch) (E : mw_E) (σ ς : mw_M) (z : zP) (hru : xRu σ 0 z) (s : Nat) (hs : s < 4) (m : Nat) (hm : σ.1 (67 + s) 1 = nI m) (hm4 : m ≤ 40) (q : Nat) (hq : q < 8) (hsu : xSu σ (fun j => j = 0) (fun f => f = 2) q ς) : mw_Ci shX 75 gX l yX11_allBy cX11_allBy 9 (some .int) (rmF 6 178) E [.ref (mw_a E 30), .ref (mw_a E (67 + s)), .ref (mw_a E (14 + q)), .int 5] ς (fun r u => r = tellP3 (fun v => okF z (σ.1 0) (upd (cuX σ 0 q) 2 (nI v)) (σ.2.1 (71 + s)) m) 0 10 5 ∧ xQs σ u) := by
  refine mw_of (by decide) gX_ok (Nat.le_of_ble_eq_true rfl) ?_
  intro p_ e_ s_ m_ below meth c_ C hr hlk Z hP ls hl
  have C : CallFix p_ m_ c_ cX11_allBy 9 s_ _ lw_good RX11 := C
  have hl : lv_has ls 9 [(0, .ref (mw_a E 30)), (1, .ref (mw_a E (67 + s))), (2, .ref (mw_a E (14 + q))), (3, .int 5)] := hl
  have hS : va_S (mw_A 75 E) s_.heap s_.heap [] := va_S.rf
  refine lv_iconst (v := 0) C.1 C.2.1 dX11_allBy_0 (by decide) ?_
  refine lv_istore (lv' := [(4, .int 0), (0, .ref (mw_a E 30)), (1, .ref (mw_a E (67 + s))), (2, .ref (mw_a E (14 + q))), (3, .int 5)]) C.1 C.2.1 dX11_allBy_1 hl (by decide) rfl (fun ls hl => ?_)
  refine lv_iconst (v := 0) C.1 C.2.1 dX11_allBy_3 (by decide) ?_
  refine lv_istore (lv' := [(5, .int 0), (4, .int 0), (0, .ref (mw_a E 30)), (1, .ref (mw_a E (67 + s))), (2, .ref (mw_a E (14 + q))), (3, .int 5)]) C.1 C.2.1 dX11_allBy_4 hl (by decide) rfl (fun ls hl => ?_)
  refine lv_iconst (v := -1) C.1 C.2.1 dX11_allBy_6 (by decide) ?_
  refine lv_istore (lv' := [(6, .int (-1)), (5, .int 0), (4, .int 0), (0, .ref (mw_a E 30)), (1, .ref (mw_a E (67 + s))), (2, .ref (mw_a E (14 + q))), (3, .int 5)]) C.1 C.2.1 dX11_allBy_7 hl (by decide) rfl (fun ls hl => ?_)
  refine lv_iload_n C.1 C.2.1 dX11_allBy_9 rfl (lv_at hl 6 rfl) ?_
  refine lv_bipush (v := 7) C.1 C.2.1 dX11_allBy_10 (by decide) ?_
  refine lv_icmp_ne (tgt := 27) C.1 C.2.1 dX11_allBy_12 (by decide) (fun c1 => ?_) (fun c1 => ?_)
  · refine xw_gets C Z hS 4 (by decide) tw_4_65 dX11_allBy_27 ?_
    refine lv_iload_n C.1 C.2.1 dX11_allBy_30 rfl (lv_at hl 6 rfl) ?_
    refine xw_tld C Z hS 4 (5) (by decide) rfl (by show _ < 8; exact (by decide)) (by decide) dX11_allBy_31 ?_
    refine mw_top (y := 9) rfl ?_
    refine lv_istore (lv' := [(7, .int 9), (6, .int (-1)), (5, .int 0), (4, .int 0), (0, .ref (mw_a E 30)), (1, .ref (mw_a E (67 + s))), (2, .ref (mw_a E (14 + q))), (3, .int 5)]) C.1 C.2.1 dX11_allBy_32 hl (by decide) rfl (fun ls hl => ?_)
    refine xw_gets C Z hS 3 (by decide) tw_4_67 dX11_allBy_34 ?_
    refine lv_iload_n C.1 C.2.1 dX11_allBy_37 rfl (lv_at hl 7 rfl) ?_
    refine xw_tld C Z hS 3 (5) (by decide) rfl (by show _ < 8; exact (by decide)) (by decide) dX11_allBy_38 ?_
    refine mw_top (y := 0) rfl ?_
    refine lv_istore (lv' := [(8, .int 0), (7, .int 9), (6, .int (-1)), (5, .int 0), (4, .int 0), (0, .ref (mw_a E 30)), (1, .ref (mw_a E (67 + s))), (2, .ref (mw_a E (14 + q))), (3, .int 5)]) C.1 C.2.1 dX11_allBy_39 hl (by decide) rfl (fun ls hl => ?_)
    have lpa : ∀ (N : Nat) (j : Nat) (x : Int32) (k : Nat) (y : Int32) (ςa : mw_M) (H : Heap) (locs : List Loc), 10 + 1 ≤ j + N → (j ≤ 10) → (x = orS (bitG (fun v => okF z (σ.1 0) (upd (cuX σ 0 q) 2 (nI v)) (σ.2.1 (71 + s)) m)) j 0) → (k = cnS (fun v => okF z (σ.1 0) (upd (cuX σ 0 q) 2 (nI v)) (σ.2.1 (71 + s)) m) j 0) → (y = leS (fun v => okF z (σ.1 0) (upd (cuX σ 0 q) 2 (nI v)) (σ.2.1 (71 + s)) m) j 0) → xSu σ (fun j => j = 0) (fun f => f = 2) q ςa → va_P (mw_D E) vwCl (mw_ws shX 75 E ςa) H → va_S (mw_A 75 E) s_.heap H locs → ∀ (ls : Array Slot), lv_has ls 9 [(0, .ref (mw_a E 30)), (1, .ref (mw_a E (67 + s))), (2, .ref (mw_a E (14 + q))), (3, .int 5), (4, .int x), (5, .int (nI k)), (6, .int y), (7, .int 9), (8, .int (nI (0 + j)))] → xWi p_ l e_ (rmF 6 178) s_ m_ [.ref (mw_a E 30), .ref (mw_a E (67 + s)), .ref (mw_a E (14 + q)), .int 5] below meth c_ E (fun r u => r = tellP3 (fun v => okF z (σ.1 0) (upd (cuX σ 0 q) 2 (nI v)) (σ.2.1 (71 + s)) m) 0 10 5 ∧ xQs σ u) H locs (F0 m_ 41 ls []) := by
      intro N
      induction N with
      | zero => intros; exfalso; omega
      | succ N iha =>
        intro j x k y ςa H locs hNa hj ex ek ey fra hP hS ls hl
        have hk100 : k ≤ j := by rw [ek]; exact cnS_le _ j 0
        refine lv_iload C.1 C.2.1 dX11_allBy_41 (lv_at hl 8 rfl) ?_
        refine lv_iload C.1 C.2.1 dX11_allBy_43 (lv_at hl 7 rfl) ?_
        refine lv_icmp_gt (tgt := 98) C.1 C.2.1 dX11_allBy_45 (by decide) (fun c2 => ?_) (fun c2 => ?_)
        · have c2 := (nI_ltI (a := 9) (by decide) (by omega)).mp c2
          refine lv_iload_n C.1 C.2.1 dX11_allBy_98 rfl (lv_at hl 3 rfl) ?_
          refine lv_iconst (v := 3) C.1 C.2.1 dX11_allBy_99 (by decide) ?_
          refine lv_icmp_ne (tgt := 106) C.1 C.2.1 dX11_allBy_100 (by decide) (fun c3 => ?_) (fun c3 => ?_)
          · refine lv_iload_n C.1 C.2.1 dX11_allBy_106 rfl (lv_at hl 3 rfl) ?_
            refine lv_iconst (v := 4) C.1 C.2.1 dX11_allBy_107 (by decide) ?_
            refine lv_icmp_ne (tgt := 116) C.1 C.2.1 dX11_allBy_108 (by decide) (fun c4 => ?_) (fun c4 => ?_)
            · refine lv_iload C.1 C.2.1 dX11_allBy_116 (lv_at hl 4 rfl) ?_
              exact mw_iret C hr hlk Z hP hS dX11_allBy_118 (⟨by rw [ex, show j = 10 by omega, orS_bit _ (by omega)]; unfold tellP3; rw [if_neg (by decide), if_neg (by decide)], fra.1⟩)
            · exact absurd c4 (by decide)
          · exact absurd c3 (by decide)
        · have c2 := (not_congr (nI_ltI (a := 9) (by decide) (by omega))).mp c2
          refine lv_aload_n C.1 C.2.1 dX11_allBy_48 rfl (lv_at hl 0 rfl) ?_
          refine lv_aload_n C.1 C.2.1 dX11_allBy_49 rfl (lv_at hl 2 rfl) ?_
          refine lv_iload_n C.1 C.2.1 dX11_allBy_50 rfl (lv_at hl 3 rfl) ?_
          refine lv_iload C.1 C.2.1 dX11_allBy_51 (lv_at hl 8 rfl) ?_
          refine mw_cVv (As := [.ref (mw_a E (14 + q)), .int 5, .int (nI (0 + j))]) (rest := []) C Z hP hS (30) (cX_suppose5 l E ςa q hq (nI (0 + j))) vb_X11_suppose tw_4_69 ⟨rfl, rfl⟩ ⟨Nat.le_of_ble_eq_true rfl, Nat.le_of_ble_eq_true rfl⟩ (by decide) sx_30 rfl rfl rfl hl.1 rfl (Nat.le_of_ble_eq_true rfl) dX11_allBy_53 ⟨Nat.zero_le _, Nat.zero_le _⟩ (fun u6 H locs q7 hP hS => ?_)
          subst q7
          refine lv_aload_n C.1 C.2.1 dX11_allBy_56 rfl (lv_at hl 0 rfl) ?_
          refine lv_aload_n C.1 C.2.1 dX11_allBy_57 rfl (lv_at hl 1 rfl) ?_
          refine lv_aload_n C.1 C.2.1 dX11_allBy_58 rfl (lv_at hl 2 rfl) ?_
          refine mw_cVi (As := [.ref (mw_a E (67 + s)), .ref (mw_a E (14 + q))]) (rest := []) C Z hP hS (30) (cX_first l E (mw_si ςa (14 + q) 2 (nI (0 + j))) z ((fra.sc hq (by first | rfl | decide) _).ru (by decide) hru) s hs m ((congrFun ((fra.sc hq (by first | rfl | decide) _).1.1 (67 + s) (by refine ⟨?_, ?_, ?_⟩ <;> omega)) _).trans hm) hm4 q hq) vb_X11_firstOtherwise tw_4_57 ⟨rfl, rfl⟩ ⟨Nat.le_of_ble_eq_true rfl, Nat.le_of_ble_eq_true rfl⟩ (by decide) sx_30 rfl rfl rfl hl.1 rfl (Nat.le_of_ble_eq_true rfl) dX11_allBy_59 ⟨Nat.zero_le _, Nat.zero_le _⟩ (fun r8 u9 H locs q10 hP hS => ?_)
          obtain ⟨e12, f11⟩ := q10
          rw [su_ok (st2 := σ.1 0) (cu2 := upd (cuX σ 0 q) 2 (nI (0 + j))) (cl2 := σ.2.1 (71 + s)) (fun j hj h0 => (fra.sc hq (by first | rfl | decide) _).2.1 j (by omega) h0) (su_c fra.2.2) (fun i hi => congrFun ((fra.sc hq (by first | rfl | decide) _).1.2 (71 + s) (by omega)) i)] at e12
          subst e12
          refine lv_iconst (v := -1) C.1 C.2.1 dX11_allBy_62 (by decide) ?_
          refine lv_icmp_ne (tgt := 92) C.1 C.2.1 dX11_allBy_63 (by decide) (fun c13 => ?_) (fun c13 => ?_)
          · refine lv_iinc (v := nI (0 + j + 1)) (lv' := [(8, .int (nI (0 + j + 1))), (0, .ref (mw_a E 30)), (1, .ref (mw_a E (67 + s))), (2, .ref (mw_a E (14 + q))), (3, .int 5), (4, .int x), (5, .int (nI k)), (6, .int y), (7, .int 9)]) C.1 C.2.1 dX11_allBy_92 hl (k := 8) rfl (nI_1 _) (by decide) rfl (fun ls hl => ?_)
            refine lv_goto (tgt := 41) C.1 C.2.1 dX11_allBy_95 (by decide) ?_
            exact iha (j + 1) x k y u9 _ _ (by omega) (by omega) (by rw [ex, orS_snoc, show bitG (fun v => okF z (σ.1 0) (upd (cuX σ 0 q) 2 (nI v)) (σ.2.1 (71 + s)) m) (0 + j) = 0 from if_neg (fun y => c13 (okF_t.mp y)), Int32.or_zero]) (by rw [ek, cnS_snoc, if_neg (fun y => c13 (okF_t.mp y))]; rfl) (by rw [ey, leS_snoc, if_neg (fun y => c13 (okF_t.mp y))]; by_cases h0 : cnS (fun v => okF z (σ.1 0) (upd (cuX σ 0 q) 2 (nI v)) (σ.2.1 (71 + s)) m) j 0 = 0; (rw [if_pos h0, leS_0 _ _ _ h0]); (rw [if_neg h0])) ((fra.sc hq (by first | rfl | decide) _).cb (by decide) f11) hP hS ls (lv_sub hl [1, 2, 3, 4, 5, 6, 7, 8, 0] rfl)
          · refine lv_iload C.1 C.2.1 dX11_allBy_66 (lv_at hl 4 rfl) ?_
            refine lv_iconst (v := 1) C.1 C.2.1 dX11_allBy_68 (by decide) ?_
            refine lv_iload C.1 C.2.1 dX11_allBy_69 (lv_at hl 8 rfl) ?_
            refine lv_ishl C.1 C.2.1 dX11_allBy_71 ?_
            refine lv_ior C.1 C.2.1 dX11_allBy_72 ?_
            refine lv_istore (lv' := [(4, .int (x ||| (1 <<< ((nI (0 + j)) &&& 31)))), (0, .ref (mw_a E 30)), (1, .ref (mw_a E (67 + s))), (2, .ref (mw_a E (14 + q))), (3, .int 5), (5, .int (nI k)), (6, .int y), (7, .int 9), (8, .int (nI (0 + j)))]) C.1 C.2.1 dX11_allBy_73 hl (by decide) rfl (fun ls hl => ?_)
            refine lv_iload C.1 C.2.1 dX11_allBy_75 (lv_at hl 5 rfl) ?_
            refine lv_if_ne (tgt := 85) C.1 C.2.1 dX11_allBy_77 (by decide) (fun c14 => ?_) (fun c14 => ?_)
            · refine lv_iload C.1 C.2.1 dX11_allBy_85 (lv_at hl 6 rfl) ?_
              refine lv_istore (lv' := [(6, .int y), (4, .int (x ||| (1 <<< ((nI (0 + j)) &&& 31)))), (0, .ref (mw_a E 30)), (1, .ref (mw_a E (67 + s))), (2, .ref (mw_a E (14 + q))), (3, .int 5), (5, .int (nI k)), (7, .int 9), (8, .int (nI (0 + j)))]) C.1 C.2.1 dX11_allBy_87 hl (by decide) rfl (fun ls hl => ?_)
              refine lv_iinc (v := nI (k + 1)) (lv' := [(5, .int (nI (k + 1))), (6, .int y), (4, .int (x ||| (1 <<< ((nI (0 + j)) &&& 31)))), (0, .ref (mw_a E 30)), (1, .ref (mw_a E (67 + s))), (2, .ref (mw_a E (14 + q))), (3, .int 5), (7, .int 9), (8, .int (nI (0 + j)))]) C.1 C.2.1 dX11_allBy_89 hl (k := 6) rfl (nI_1 _) (by decide) rfl (fun ls hl => ?_)
              refine lv_iinc (v := nI (0 + j + 1)) (lv' := [(8, .int (nI (0 + j + 1))), (5, .int (nI (k + 1))), (6, .int y), (4, .int (x ||| (1 <<< ((nI (0 + j)) &&& 31)))), (0, .ref (mw_a E 30)), (1, .ref (mw_a E (67 + s))), (2, .ref (mw_a E (14 + q))), (3, .int 5), (7, .int 9)]) C.1 C.2.1 dX11_allBy_92 hl (k := 8) rfl (nI_1 _) (by decide) rfl (fun ls hl => ?_)
              refine lv_goto (tgt := 41) C.1 C.2.1 dX11_allBy_95 (by decide) ?_
              exact iha (j + 1) (x ||| (1 <<< ((nI (0 + j)) &&& 31))) (k + 1) y u9 _ _ (by omega) (by omega) (by rw [ex, orS_snoc, show bitG (fun v => okF z (σ.1 0) (upd (cuX σ 0 q) 2 (nI v)) (σ.2.1 (71 + s)) m) (0 + j) = 1 <<< (nI (0 + j) &&& 31) from if_pos (okF_t.mpr c13)]) (by rw [ek, cnS_snoc, if_pos (okF_t.mpr c13)]) (by rw [ey, leS_snoc, if_pos (okF_t.mpr c13), if_neg (by rw [← ek]; exact fun y => c14 (by rw [y]; rfl))]) ((fra.sc hq (by first | rfl | decide) _).cb (by decide) f11) hP hS ls (lv_sub hl [4, 5, 6, 7, 3, 1, 2, 8, 0] rfl)
            · refine lv_iload C.1 C.2.1 dX11_allBy_80 (lv_at hl 8 rfl) ?_
              refine lv_goto (tgt := 87) C.1 C.2.1 dX11_allBy_82 (by decide) ?_
              refine lv_istore (lv' := [(6, .int (nI (0 + j))), (4, .int (x ||| (1 <<< ((nI (0 + j)) &&& 31)))), (0, .ref (mw_a E 30)), (1, .ref (mw_a E (67 + s))), (2, .ref (mw_a E (14 + q))), (3, .int 5), (5, .int (nI k)), (7, .int 9), (8, .int (nI (0 + j)))]) C.1 C.2.1 dX11_allBy_87 hl (by decide) rfl (fun ls hl => ?_)
              refine lv_iinc (v := nI (k + 1)) (lv' := [(5, .int (nI (k + 1))), (6, .int (nI (0 + j))), (4, .int (x ||| (1 <<< ((nI (0 + j)) &&& 31)))), (0, .ref (mw_a E 30)), (1, .ref (mw_a E (67 + s))), (2, .ref (mw_a E (14 + q))), (3, .int 5), (7, .int 9), (8, .int (nI (0 + j)))]) C.1 C.2.1 dX11_allBy_89 hl (k := 6) rfl (nI_1 _) (by decide) rfl (fun ls hl => ?_)
              refine lv_iinc (v := nI (0 + j + 1)) (lv' := [(8, .int (nI (0 + j + 1))), (5, .int (nI (k + 1))), (6, .int (nI (0 + j))), (4, .int (x ||| (1 <<< ((nI (0 + j)) &&& 31)))), (0, .ref (mw_a E 30)), (1, .ref (mw_a E (67 + s))), (2, .ref (mw_a E (14 + q))), (3, .int 5), (7, .int 9)]) C.1 C.2.1 dX11_allBy_92 hl (k := 8) rfl (nI_1 _) (by decide) rfl (fun ls hl => ?_)
              refine lv_goto (tgt := 41) C.1 C.2.1 dX11_allBy_95 (by decide) ?_
              exact iha (j + 1) (x ||| (1 <<< ((nI (0 + j)) &&& 31))) (k + 1) (nI (0 + j)) u9 _ _ (by omega) (by omega) (by rw [ex, orS_snoc, show bitG (fun v => okF z (σ.1 0) (upd (cuX σ 0 q) 2 (nI v)) (σ.2.1 (71 + s)) m) (0 + j) = 1 <<< (nI (0 + j) &&& 31) from if_pos (okF_t.mpr c13)]) (by rw [ek, cnS_snoc, if_pos (okF_t.mpr c13)]) (by rw [leS_snoc, if_pos (okF_t.mpr c13), if_pos (by rw [← ek]; exact (nI_eq (b := 0) (by omega) (by decide)).mp c14)]) ((fra.sc hq (by first | rfl | decide) _).cb (by decide) f11) hP hS ls (lv_sub hl [4, 5, 6, 7, 3, 1, 2, 8, 0] rfl)
    exact lpa (10 + 1) 0 0 0 (-1) ς _ _ (by omega) (by omega) (rfl) (rfl) (rfl) hsu hP hS ls (lv_sub hl [5, 6, 7, 8, 4, 3, 2, 1, 0] rfl)
  · exact absurd c1 (by decide)

set_option maxHeartbeats 4000000 in
set_option maxRecDepth 100000 in
theorem cX_allBy6 (l : Launch) (E : mw_E) (σ ς : mw_M) (z : zP) (hru : xRu σ 0 z) (s : Nat) (hs : s < 4) (m : Nat) (hm : σ.1 (67 + s) 1 = nI m) (hm4 : m ≤ 40) (q : Nat) (hq : q < 8) (hsu : xSu σ (fun j => j = 0 ∨ j = 1) (fun _ => False) q ς) : mw_Ci shX 75 gX l yX11_allBy cX11_allBy 9 (some .int) (rmF 6 178) E [.ref (mw_a E 30), .ref (mw_a E (67 + s)), .ref (mw_a E (14 + q)), .int 6] ς (fun r u => r = tellP3 (fun v => okF z (upd (σ.1 0) 1 (nI v)) (cuX σ 0 q) (σ.2.1 (71 + s)) m) 1 6 6 ∧ xQs σ u) := by
  refine mw_of (by decide) gX_ok (Nat.le_of_ble_eq_true rfl) ?_
  intro p_ e_ s_ m_ below meth c_ C hr hlk Z hP ls hl
  have C : CallFix p_ m_ c_ cX11_allBy 9 s_ _ lw_good RX11 := C
  have hl : lv_has ls 9 [(0, .ref (mw_a E 30)), (1, .ref (mw_a E (67 + s))), (2, .ref (mw_a E (14 + q))), (3, .int 6)] := hl
  have hS : va_S (mw_A 75 E) s_.heap s_.heap [] := va_S.rf
  refine lv_iconst (v := 0) C.1 C.2.1 dX11_allBy_0 (by decide) ?_
  refine lv_istore (lv' := [(4, .int 0), (0, .ref (mw_a E 30)), (1, .ref (mw_a E (67 + s))), (2, .ref (mw_a E (14 + q))), (3, .int 6)]) C.1 C.2.1 dX11_allBy_1 hl (by decide) rfl (fun ls hl => ?_)
  refine lv_iconst (v := 0) C.1 C.2.1 dX11_allBy_3 (by decide) ?_
  refine lv_istore (lv' := [(5, .int 0), (4, .int 0), (0, .ref (mw_a E 30)), (1, .ref (mw_a E (67 + s))), (2, .ref (mw_a E (14 + q))), (3, .int 6)]) C.1 C.2.1 dX11_allBy_4 hl (by decide) rfl (fun ls hl => ?_)
  refine lv_iconst (v := -1) C.1 C.2.1 dX11_allBy_6 (by decide) ?_
  refine lv_istore (lv' := [(6, .int (-1)), (5, .int 0), (4, .int 0), (0, .ref (mw_a E 30)), (1, .ref (mw_a E (67 + s))), (2, .ref (mw_a E (14 + q))), (3, .int 6)]) C.1 C.2.1 dX11_allBy_7 hl (by decide) rfl (fun ls hl => ?_)
  refine lv_iload_n C.1 C.2.1 dX11_allBy_9 rfl (lv_at hl 6 rfl) ?_
  refine lv_bipush (v := 7) C.1 C.2.1 dX11_allBy_10 (by decide) ?_
  refine lv_icmp_ne (tgt := 27) C.1 C.2.1 dX11_allBy_12 (by decide) (fun c1 => ?_) (fun c1 => ?_)
  · refine xw_gets C Z hS 4 (by decide) tw_4_65 dX11_allBy_27 ?_
    refine lv_iload_n C.1 C.2.1 dX11_allBy_30 rfl (lv_at hl 6 rfl) ?_
    refine xw_tld C Z hS 4 (6) (by decide) rfl (by show _ < 8; exact (by decide)) (by decide) dX11_allBy_31 ?_
    refine mw_top (y := 6) rfl ?_
    refine lv_istore (lv' := [(7, .int 6), (6, .int (-1)), (5, .int 0), (4, .int 0), (0, .ref (mw_a E 30)), (1, .ref (mw_a E (67 + s))), (2, .ref (mw_a E (14 + q))), (3, .int 6)]) C.1 C.2.1 dX11_allBy_32 hl (by decide) rfl (fun ls hl => ?_)
    refine xw_gets C Z hS 3 (by decide) tw_4_67 dX11_allBy_34 ?_
    refine lv_iload_n C.1 C.2.1 dX11_allBy_37 rfl (lv_at hl 7 rfl) ?_
    refine xw_tld C Z hS 3 (6) (by decide) rfl (by show _ < 8; exact (by decide)) (by decide) dX11_allBy_38 ?_
    refine mw_top (y := 1) rfl ?_
    refine lv_istore (lv' := [(8, .int 1), (7, .int 6), (6, .int (-1)), (5, .int 0), (4, .int 0), (0, .ref (mw_a E 30)), (1, .ref (mw_a E (67 + s))), (2, .ref (mw_a E (14 + q))), (3, .int 6)]) C.1 C.2.1 dX11_allBy_39 hl (by decide) rfl (fun ls hl => ?_)
    have lpa : ∀ (N : Nat) (j : Nat) (x : Int32) (k : Nat) (y : Int32) (ςa : mw_M) (H : Heap) (locs : List Loc), 6 + 1 ≤ j + N → (j ≤ 6) → (x = orS (bitG (fun v => okF z (upd (σ.1 0) 1 (nI v)) (cuX σ 0 q) (σ.2.1 (71 + s)) m)) j 1) → (k = cnS (fun v => okF z (upd (σ.1 0) 1 (nI v)) (cuX σ 0 q) (σ.2.1 (71 + s)) m) j 1) → (y = leS (fun v => okF z (upd (σ.1 0) 1 (nI v)) (cuX σ 0 q) (σ.2.1 (71 + s)) m) j 1) → xSu σ (fun j => j = 0 ∨ j = 1) (fun _ => False) q ςa → va_P (mw_D E) vwCl (mw_ws shX 75 E ςa) H → va_S (mw_A 75 E) s_.heap H locs → ∀ (ls : Array Slot), lv_has ls 9 [(0, .ref (mw_a E 30)), (1, .ref (mw_a E (67 + s))), (2, .ref (mw_a E (14 + q))), (3, .int 6), (4, .int x), (5, .int (nI k)), (6, .int y), (7, .int 6), (8, .int (nI (1 + j)))] → xWi p_ l e_ (rmF 6 178) s_ m_ [.ref (mw_a E 30), .ref (mw_a E (67 + s)), .ref (mw_a E (14 + q)), .int 6] below meth c_ E (fun r u => r = tellP3 (fun v => okF z (upd (σ.1 0) 1 (nI v)) (cuX σ 0 q) (σ.2.1 (71 + s)) m) 1 6 6 ∧ xQs σ u) H locs (F0 m_ 41 ls []) := by
      intro N
      induction N with
      | zero => intros; exfalso; omega
      | succ N iha =>
        intro j x k y ςa H locs hNa hj ex ek ey fra hP hS ls hl
        have hk100 : k ≤ j := by rw [ek]; exact cnS_le _ j 1
        refine lv_iload C.1 C.2.1 dX11_allBy_41 (lv_at hl 8 rfl) ?_
        refine lv_iload C.1 C.2.1 dX11_allBy_43 (lv_at hl 7 rfl) ?_
        refine lv_icmp_gt (tgt := 98) C.1 C.2.1 dX11_allBy_45 (by decide) (fun c2 => ?_) (fun c2 => ?_)
        · have c2 := (nI_ltI (a := 6) (by decide) (by omega)).mp c2
          refine lv_iload_n C.1 C.2.1 dX11_allBy_98 rfl (lv_at hl 3 rfl) ?_
          refine lv_iconst (v := 3) C.1 C.2.1 dX11_allBy_99 (by decide) ?_
          refine lv_icmp_ne (tgt := 106) C.1 C.2.1 dX11_allBy_100 (by decide) (fun c3 => ?_) (fun c3 => ?_)
          · refine lv_iload_n C.1 C.2.1 dX11_allBy_106 rfl (lv_at hl 3 rfl) ?_
            refine lv_iconst (v := 4) C.1 C.2.1 dX11_allBy_107 (by decide) ?_
            refine lv_icmp_ne (tgt := 116) C.1 C.2.1 dX11_allBy_108 (by decide) (fun c4 => ?_) (fun c4 => ?_)
            · refine lv_iload C.1 C.2.1 dX11_allBy_116 (lv_at hl 4 rfl) ?_
              exact mw_iret C hr hlk Z hP hS dX11_allBy_118 (⟨by rw [ex, show j = 6 by omega, orS_bit _ (by omega)]; unfold tellP3; rw [if_neg (by decide), if_neg (by decide)], fra.1⟩)
            · exact absurd c4 (by decide)
          · exact absurd c3 (by decide)
        · have c2 := (not_congr (nI_ltI (a := 6) (by decide) (by omega))).mp c2
          refine lv_aload_n C.1 C.2.1 dX11_allBy_48 rfl (lv_at hl 0 rfl) ?_
          refine lv_aload_n C.1 C.2.1 dX11_allBy_49 rfl (lv_at hl 2 rfl) ?_
          refine lv_iload_n C.1 C.2.1 dX11_allBy_50 rfl (lv_at hl 3 rfl) ?_
          refine lv_iload C.1 C.2.1 dX11_allBy_51 (lv_at hl 8 rfl) ?_
          refine mw_cVv (As := [.ref (mw_a E (14 + q)), .int 6, .int (nI (1 + j))]) (rest := []) C Z hP hS (30) (cX_suppose6 l E ςa q hq (nI (1 + j))) vb_X11_suppose tw_4_69 ⟨rfl, rfl⟩ ⟨Nat.le_of_ble_eq_true rfl, Nat.le_of_ble_eq_true rfl⟩ (by decide) sx_30 rfl rfl rfl hl.1 rfl (Nat.le_of_ble_eq_true rfl) dX11_allBy_53 ⟨Nat.zero_le _, Nat.zero_le _⟩ (fun u6 H locs q7 hP hS => ?_)
          subst q7
          refine lv_aload_n C.1 C.2.1 dX11_allBy_56 rfl (lv_at hl 0 rfl) ?_
          refine lv_aload_n C.1 C.2.1 dX11_allBy_57 rfl (lv_at hl 1 rfl) ?_
          refine lv_aload_n C.1 C.2.1 dX11_allBy_58 rfl (lv_at hl 2 rfl) ?_
          refine mw_cVi (As := [.ref (mw_a E (67 + s)), .ref (mw_a E (14 + q))]) (rest := []) C Z hP hS (30) (cX_first l E (mw_si ςa 1 1 (nI (1 + j))) z ((fra.ss hq (by decide) _).ru (by decide) hru) s hs m ((congrFun ((fra.ss hq (by decide) _).1.1 (67 + s) (by refine ⟨?_, ?_, ?_⟩ <;> omega)) _).trans hm) hm4 q hq) vb_X11_firstOtherwise tw_4_57 ⟨rfl, rfl⟩ ⟨Nat.le_of_ble_eq_true rfl, Nat.le_of_ble_eq_true rfl⟩ (by decide) sx_30 rfl rfl rfl hl.1 rfl (Nat.le_of_ble_eq_true rfl) dX11_allBy_59 ⟨Nat.zero_le _, Nat.zero_le _⟩ (fun r8 u9 H locs q10 hP hS => ?_)
          obtain ⟨e12, f11⟩ := q10
          rw [su_ok (st2 := upd (σ.1 0) 1 (nI (1 + j))) (cu2 := cuX σ 0 q) (cl2 := σ.2.1 (71 + s)) (su_s fra.2.1) (fun f hf => (fra.ss hq (by decide) _).2.2 f (by omega) (fun y => y)) (fun i hi => congrFun ((fra.ss hq (by decide) _).1.2 (71 + s) (by omega)) i)] at e12
          subst e12
          refine lv_iconst (v := -1) C.1 C.2.1 dX11_allBy_62 (by decide) ?_
          refine lv_icmp_ne (tgt := 92) C.1 C.2.1 dX11_allBy_63 (by decide) (fun c13 => ?_) (fun c13 => ?_)
          · refine lv_iinc (v := nI (1 + j + 1)) (lv' := [(8, .int (nI (1 + j + 1))), (0, .ref (mw_a E 30)), (1, .ref (mw_a E (67 + s))), (2, .ref (mw_a E (14 + q))), (3, .int 6), (4, .int x), (5, .int (nI k)), (6, .int y), (7, .int 6)]) C.1 C.2.1 dX11_allBy_92 hl (k := 8) rfl (nI_1 _) (by decide) rfl (fun ls hl => ?_)
            refine lv_goto (tgt := 41) C.1 C.2.1 dX11_allBy_95 (by decide) ?_
            exact iha (j + 1) x k y u9 _ _ (by omega) (by omega) (by rw [ex, orS_snoc, show bitG (fun v => okF z (upd (σ.1 0) 1 (nI v)) (cuX σ 0 q) (σ.2.1 (71 + s)) m) (1 + j) = 0 from if_neg (fun y => c13 (okF_t.mp y)), Int32.or_zero]) (by rw [ek, cnS_snoc, if_neg (fun y => c13 (okF_t.mp y))]; rfl) (by rw [ey, leS_snoc, if_neg (fun y => c13 (okF_t.mp y))]; by_cases h0 : cnS (fun v => okF z (upd (σ.1 0) 1 (nI v)) (cuX σ 0 q) (σ.2.1 (71 + s)) m) j 1 = 0; (rw [if_pos h0, leS_0 _ _ _ h0]); (rw [if_neg h0])) ((fra.ss hq (by decide) _).cb (by decide) f11) hP hS ls (lv_sub hl [1, 2, 3, 4, 5, 6, 7, 8, 0] rfl)
          · refine lv_iload C.1 C.2.1 dX11_allBy_66 (lv_at hl 4 rfl) ?_
            refine lv_iconst (v := 1) C.1 C.2.1 dX11_allBy_68 (by decide) ?_
            refine lv_iload C.1 C.2.1 dX11_allBy_69 (lv_at hl 8 rfl) ?_
            refine lv_ishl C.1 C.2.1 dX11_allBy_71 ?_
            refine lv_ior C.1 C.2.1 dX11_allBy_72 ?_
            refine lv_istore (lv' := [(4, .int (x ||| (1 <<< ((nI (1 + j)) &&& 31)))), (0, .ref (mw_a E 30)), (1, .ref (mw_a E (67 + s))), (2, .ref (mw_a E (14 + q))), (3, .int 6), (5, .int (nI k)), (6, .int y), (7, .int 6), (8, .int (nI (1 + j)))]) C.1 C.2.1 dX11_allBy_73 hl (by decide) rfl (fun ls hl => ?_)
            refine lv_iload C.1 C.2.1 dX11_allBy_75 (lv_at hl 5 rfl) ?_
            refine lv_if_ne (tgt := 85) C.1 C.2.1 dX11_allBy_77 (by decide) (fun c14 => ?_) (fun c14 => ?_)
            · refine lv_iload C.1 C.2.1 dX11_allBy_85 (lv_at hl 6 rfl) ?_
              refine lv_istore (lv' := [(6, .int y), (4, .int (x ||| (1 <<< ((nI (1 + j)) &&& 31)))), (0, .ref (mw_a E 30)), (1, .ref (mw_a E (67 + s))), (2, .ref (mw_a E (14 + q))), (3, .int 6), (5, .int (nI k)), (7, .int 6), (8, .int (nI (1 + j)))]) C.1 C.2.1 dX11_allBy_87 hl (by decide) rfl (fun ls hl => ?_)
              refine lv_iinc (v := nI (k + 1)) (lv' := [(5, .int (nI (k + 1))), (6, .int y), (4, .int (x ||| (1 <<< ((nI (1 + j)) &&& 31)))), (0, .ref (mw_a E 30)), (1, .ref (mw_a E (67 + s))), (2, .ref (mw_a E (14 + q))), (3, .int 6), (7, .int 6), (8, .int (nI (1 + j)))]) C.1 C.2.1 dX11_allBy_89 hl (k := 6) rfl (nI_1 _) (by decide) rfl (fun ls hl => ?_)
              refine lv_iinc (v := nI (1 + j + 1)) (lv' := [(8, .int (nI (1 + j + 1))), (5, .int (nI (k + 1))), (6, .int y), (4, .int (x ||| (1 <<< ((nI (1 + j)) &&& 31)))), (0, .ref (mw_a E 30)), (1, .ref (mw_a E (67 + s))), (2, .ref (mw_a E (14 + q))), (3, .int 6), (7, .int 6)]) C.1 C.2.1 dX11_allBy_92 hl (k := 8) rfl (nI_1 _) (by decide) rfl (fun ls hl => ?_)
              refine lv_goto (tgt := 41) C.1 C.2.1 dX11_allBy_95 (by decide) ?_
              exact iha (j + 1) (x ||| (1 <<< ((nI (1 + j)) &&& 31))) (k + 1) y u9 _ _ (by omega) (by omega) (by rw [ex, orS_snoc, show bitG (fun v => okF z (upd (σ.1 0) 1 (nI v)) (cuX σ 0 q) (σ.2.1 (71 + s)) m) (1 + j) = 1 <<< (nI (1 + j) &&& 31) from if_pos (okF_t.mpr c13)]) (by rw [ek, cnS_snoc, if_pos (okF_t.mpr c13)]) (by rw [ey, leS_snoc, if_pos (okF_t.mpr c13), if_neg (by rw [← ek]; exact fun y => c14 (by rw [y]; rfl))]) ((fra.ss hq (by decide) _).cb (by decide) f11) hP hS ls (lv_sub hl [4, 5, 6, 7, 3, 1, 2, 8, 0] rfl)
            · refine lv_iload C.1 C.2.1 dX11_allBy_80 (lv_at hl 8 rfl) ?_
              refine lv_goto (tgt := 87) C.1 C.2.1 dX11_allBy_82 (by decide) ?_
              refine lv_istore (lv' := [(6, .int (nI (1 + j))), (4, .int (x ||| (1 <<< ((nI (1 + j)) &&& 31)))), (0, .ref (mw_a E 30)), (1, .ref (mw_a E (67 + s))), (2, .ref (mw_a E (14 + q))), (3, .int 6), (5, .int (nI k)), (7, .int 6), (8, .int (nI (1 + j)))]) C.1 C.2.1 dX11_allBy_87 hl (by decide) rfl (fun ls hl => ?_)
              refine lv_iinc (v := nI (k + 1)) (lv' := [(5, .int (nI (k + 1))), (6, .int (nI (1 + j))), (4, .int (x ||| (1 <<< ((nI (1 + j)) &&& 31)))), (0, .ref (mw_a E 30)), (1, .ref (mw_a E (67 + s))), (2, .ref (mw_a E (14 + q))), (3, .int 6), (7, .int 6), (8, .int (nI (1 + j)))]) C.1 C.2.1 dX11_allBy_89 hl (k := 6) rfl (nI_1 _) (by decide) rfl (fun ls hl => ?_)
              refine lv_iinc (v := nI (1 + j + 1)) (lv' := [(8, .int (nI (1 + j + 1))), (5, .int (nI (k + 1))), (6, .int (nI (1 + j))), (4, .int (x ||| (1 <<< ((nI (1 + j)) &&& 31)))), (0, .ref (mw_a E 30)), (1, .ref (mw_a E (67 + s))), (2, .ref (mw_a E (14 + q))), (3, .int 6), (7, .int 6)]) C.1 C.2.1 dX11_allBy_92 hl (k := 8) rfl (nI_1 _) (by decide) rfl (fun ls hl => ?_)
              refine lv_goto (tgt := 41) C.1 C.2.1 dX11_allBy_95 (by decide) ?_
              exact iha (j + 1) (x ||| (1 <<< ((nI (1 + j)) &&& 31))) (k + 1) (nI (1 + j)) u9 _ _ (by omega) (by omega) (by rw [ex, orS_snoc, show bitG (fun v => okF z (upd (σ.1 0) 1 (nI v)) (cuX σ 0 q) (σ.2.1 (71 + s)) m) (1 + j) = 1 <<< (nI (1 + j) &&& 31) from if_pos (okF_t.mpr c13)]) (by rw [ek, cnS_snoc, if_pos (okF_t.mpr c13)]) (by rw [leS_snoc, if_pos (okF_t.mpr c13), if_pos (by rw [← ek]; exact (nI_eq (b := 0) (by omega) (by decide)).mp c14)]) ((fra.ss hq (by decide) _).cb (by decide) f11) hP hS ls (lv_sub hl [4, 5, 6, 7, 3, 1, 2, 8, 0] rfl)
    exact lpa (6 + 1) 0 0 0 (-1) ς _ _ (by omega) (by omega) (rfl) (rfl) (rfl) hsu hP hS ls (lv_sub hl [5, 6, 7, 8, 4, 3, 2, 1, 0] rfl)
  · exact absurd c1 (by decide)

set_option maxHeartbeats 4000000 in
set_option maxRecDepth 100000 in
theorem cX_allBy7 (l : Launch) (E : mw_E) (σ ς : mw_M) (tc : Nat) (htc : σ.1 37 1 = nI tc) (ht1 : 1 ≤ tc) (h6 : tc ≤ 6) (zz : Nat → zP) (hts : ∀ t, t < tc → xTx σ t (zz t)) (s : Nat) (hs : s < 4) (m : Nat) (hm : σ.1 (67 + s) 1 = nI m) (hm4 : m ≤ 40) (q : Nat) (hq : q < 8) (hsu : xSu σ (fun j => j = 0 ∨ j = 5) (fun _ => False) q ς) : mw_Ci shX 75 gX l yX11_allBy cX11_allBy 9 (some .int) (rmF 6 178) E [.ref (mw_a E 30), .ref (mw_a E (67 + s)), .ref (mw_a E (14 + q)), .int 7] ς (fun r u => r = tellP3 (fun v => okF (zz v) (σ.1 0) (cuX σ 0 q) (σ.2.1 (71 + s)) m) 0 tc 7 ∧ xQs σ u) := by
  refine mw_of (by decide) gX_ok (Nat.le_of_ble_eq_true rfl) ?_
  intro p_ e_ s_ m_ below meth c_ C hr hlk Z hP ls hl
  have C : CallFix p_ m_ c_ cX11_allBy 9 s_ _ lw_good RX11 := C
  have hl : lv_has ls 9 [(0, .ref (mw_a E 30)), (1, .ref (mw_a E (67 + s))), (2, .ref (mw_a E (14 + q))), (3, .int 7)] := hl
  have hS : va_S (mw_A 75 E) s_.heap s_.heap [] := va_S.rf
  refine lv_iconst (v := 0) C.1 C.2.1 dX11_allBy_0 (by decide) ?_
  refine lv_istore (lv' := [(4, .int 0), (0, .ref (mw_a E 30)), (1, .ref (mw_a E (67 + s))), (2, .ref (mw_a E (14 + q))), (3, .int 7)]) C.1 C.2.1 dX11_allBy_1 hl (by decide) rfl (fun ls hl => ?_)
  refine lv_iconst (v := 0) C.1 C.2.1 dX11_allBy_3 (by decide) ?_
  refine lv_istore (lv' := [(5, .int 0), (4, .int 0), (0, .ref (mw_a E 30)), (1, .ref (mw_a E (67 + s))), (2, .ref (mw_a E (14 + q))), (3, .int 7)]) C.1 C.2.1 dX11_allBy_4 hl (by decide) rfl (fun ls hl => ?_)
  refine lv_iconst (v := -1) C.1 C.2.1 dX11_allBy_6 (by decide) ?_
  refine lv_istore (lv' := [(6, .int (-1)), (5, .int 0), (4, .int 0), (0, .ref (mw_a E 30)), (1, .ref (mw_a E (67 + s))), (2, .ref (mw_a E (14 + q))), (3, .int 7)]) C.1 C.2.1 dX11_allBy_7 hl (by decide) rfl (fun ls hl => ?_)
  refine lv_iload_n C.1 C.2.1 dX11_allBy_9 rfl (lv_at hl 6 rfl) ?_
  refine lv_bipush (v := 7) C.1 C.2.1 dX11_allBy_10 (by decide) ?_
  refine lv_icmp_ne (tgt := 27) C.1 C.2.1 dX11_allBy_12 (by decide) (fun c1 => ?_) (fun c1 => ?_)
  · exact absurd c1 (by decide)
  · refine lv_aload_n C.1 C.2.1 dX11_allBy_15 rfl (lv_at hl 3 rfl) ?_
    refine mw_getr C Z hP (30) 6 (37) (by decide) sx_30 rfl rfl (by decide) inX11 tw_3_5 dX11_allBy_16 ?_
    refine mw_geti C Z hP (37) 1 (by decide) sx_37 rfl rfl (by decide) inX9 tw_1_193 dX11_allBy_19 ?_
    refine mw_top (y := nI tc) ((congrFun (hsu.1.1 37 (by decide)) _).trans htc) ?_
    refine lv_iconst (v := 1) C.1 C.2.1 dX11_allBy_22 (by decide) ?_
    refine lv_isub C.1 C.2.1 dX11_allBy_23 ?_
    refine mw_top (y := nI (tc - 1)) (pk_sub (b := 1) (by omega)) ?_
    refine lv_goto (tgt := 32) C.1 C.2.1 dX11_allBy_24 (by decide) ?_
    refine lv_istore (lv' := [(7, .int (nI (tc - 1))), (6, .int (-1)), (5, .int 0), (4, .int 0), (0, .ref (mw_a E 30)), (1, .ref (mw_a E (67 + s))), (2, .ref (mw_a E (14 + q))), (3, .int 7)]) C.1 C.2.1 dX11_allBy_32 hl (by decide) rfl (fun ls hl => ?_)
    refine xw_gets C Z hS 3 (by decide) tw_4_67 dX11_allBy_34 ?_
    refine lv_iload_n C.1 C.2.1 dX11_allBy_37 rfl (lv_at hl 7 rfl) ?_
    refine xw_tld C Z hS 3 (7) (by decide) rfl (by show _ < 8; exact (by decide)) (by decide) dX11_allBy_38 ?_
    refine mw_top (y := 0) rfl ?_
    refine lv_istore (lv' := [(8, .int 0), (7, .int (nI (tc - 1))), (6, .int (-1)), (5, .int 0), (4, .int 0), (0, .ref (mw_a E 30)), (1, .ref (mw_a E (67 + s))), (2, .ref (mw_a E (14 + q))), (3, .int 7)]) C.1 C.2.1 dX11_allBy_39 hl (by decide) rfl (fun ls hl => ?_)
    have lpa : ∀ (N : Nat) (j : Nat) (x : Int32) (k : Nat) (y : Int32) (ςa : mw_M) (H : Heap) (locs : List Loc), tc + 1 ≤ j + N → (j ≤ tc) → (x = orS (bitG (fun v => okF (zz v) (σ.1 0) (cuX σ 0 q) (σ.2.1 (71 + s)) m)) j 0) → (k = cnS (fun v => okF (zz v) (σ.1 0) (cuX σ 0 q) (σ.2.1 (71 + s)) m) j 0) → (y = leS (fun v => okF (zz v) (σ.1 0) (cuX σ 0 q) (σ.2.1 (71 + s)) m) j 0) → xSu σ (fun j => j = 0 ∨ j = 5) (fun _ => False) q ςa → va_P (mw_D E) vwCl (mw_ws shX 75 E ςa) H → va_S (mw_A 75 E) s_.heap H locs → ∀ (ls : Array Slot), lv_has ls 9 [(0, .ref (mw_a E 30)), (1, .ref (mw_a E (67 + s))), (2, .ref (mw_a E (14 + q))), (3, .int 7), (4, .int x), (5, .int (nI k)), (6, .int y), (7, .int (nI (tc - 1))), (8, .int (nI (0 + j)))] → xWi p_ l e_ (rmF 6 178) s_ m_ [.ref (mw_a E 30), .ref (mw_a E (67 + s)), .ref (mw_a E (14 + q)), .int 7] below meth c_ E (fun r u => r = tellP3 (fun v => okF (zz v) (σ.1 0) (cuX σ 0 q) (σ.2.1 (71 + s)) m) 0 tc 7 ∧ xQs σ u) H locs (F0 m_ 41 ls []) := by
      intro N
      induction N with
      | zero => intros; exfalso; omega
      | succ N iha =>
        intro j x k y ςa H locs hNa hj ex ek ey fra hP hS ls hl
        have hk100 : k ≤ j := by rw [ek]; exact cnS_le _ j 0
        refine lv_iload C.1 C.2.1 dX11_allBy_41 (lv_at hl 8 rfl) ?_
        refine lv_iload C.1 C.2.1 dX11_allBy_43 (lv_at hl 7 rfl) ?_
        refine lv_icmp_gt (tgt := 98) C.1 C.2.1 dX11_allBy_45 (by decide) (fun c2 => ?_) (fun c2 => ?_)
        · have c2 := (nI_ltI (by omega) (by omega)).mp c2
          refine lv_iload_n C.1 C.2.1 dX11_allBy_98 rfl (lv_at hl 3 rfl) ?_
          refine lv_iconst (v := 3) C.1 C.2.1 dX11_allBy_99 (by decide) ?_
          refine lv_icmp_ne (tgt := 106) C.1 C.2.1 dX11_allBy_100 (by decide) (fun c3 => ?_) (fun c3 => ?_)
          · refine lv_iload_n C.1 C.2.1 dX11_allBy_106 rfl (lv_at hl 3 rfl) ?_
            refine lv_iconst (v := 4) C.1 C.2.1 dX11_allBy_107 (by decide) ?_
            refine lv_icmp_ne (tgt := 116) C.1 C.2.1 dX11_allBy_108 (by decide) (fun c4 => ?_) (fun c4 => ?_)
            · refine lv_iload C.1 C.2.1 dX11_allBy_116 (lv_at hl 4 rfl) ?_
              exact mw_iret C hr hlk Z hP hS dX11_allBy_118 (⟨by rw [ex, show j = tc by omega, orS_bit _ (by omega)]; unfold tellP3; rw [if_neg (by decide), if_neg (by decide)], fra.1⟩)
            · exact absurd c4 (by decide)
          · exact absurd c3 (by decide)
        · have c2 := (not_congr (nI_ltI (by omega) (by omega))).mp c2
          refine lv_aload_n C.1 C.2.1 dX11_allBy_48 rfl (lv_at hl 0 rfl) ?_
          refine lv_aload_n C.1 C.2.1 dX11_allBy_49 rfl (lv_at hl 2 rfl) ?_
          refine lv_iload_n C.1 C.2.1 dX11_allBy_50 rfl (lv_at hl 3 rfl) ?_
          refine lv_iload C.1 C.2.1 dX11_allBy_51 (lv_at hl 8 rfl) ?_
          refine mw_cVv (As := [.ref (mw_a E (14 + q)), .int 7, .int (nI (0 + j))]) (rest := []) C Z hP hS (30) (cX_suppose7 l E ςa q hq (nI (0 + j))) vb_X11_suppose tw_4_69 ⟨rfl, rfl⟩ ⟨Nat.le_of_ble_eq_true rfl, Nat.le_of_ble_eq_true rfl⟩ (by decide) sx_30 rfl rfl rfl hl.1 rfl (Nat.le_of_ble_eq_true rfl) dX11_allBy_53 ⟨Nat.zero_le _, Nat.zero_le _⟩ (fun u6 H locs q7 hP hS => ?_)
          subst q7
          refine lv_aload_n C.1 C.2.1 dX11_allBy_56 rfl (lv_at hl 0 rfl) ?_
          refine lv_aload_n C.1 C.2.1 dX11_allBy_57 rfl (lv_at hl 1 rfl) ?_
          refine lv_aload_n C.1 C.2.1 dX11_allBy_58 rfl (lv_at hl 2 rfl) ?_
          refine mw_cVi (As := [.ref (mw_a E (67 + s)), .ref (mw_a E (14 + q))]) (rest := []) C Z hP hS (30) (cX_first l E (mw_si ςa 1 5 (nI (0 + j))) (zz (0 + j)) ⟨0 + j, tc, mw_sf, by rw [(fra.ss hq (by decide) _).1.1 37 (by decide)]; exact htc, by omega, h6, (fra.ss hq (by decide) _).1.tx (hts (0 + j) (by omega))⟩ s hs m ((congrFun ((fra.ss hq (by decide) _).1.1 (67 + s) (by refine ⟨?_, ?_, ?_⟩ <;> omega)) _).trans hm) hm4 q hq) vb_X11_firstOtherwise tw_4_57 ⟨rfl, rfl⟩ ⟨Nat.le_of_ble_eq_true rfl, Nat.le_of_ble_eq_true rfl⟩ (by decide) sx_30 rfl rfl rfl hl.1 rfl (Nat.le_of_ble_eq_true rfl) dX11_allBy_59 ⟨Nat.zero_le _, Nat.zero_le _⟩ (fun r8 u9 H locs q10 hP hS => ?_)
          obtain ⟨e12, f11⟩ := q10
          rw [su_ok (st2 := σ.1 0) (cu2 := cuX σ 0 q) (cl2 := σ.2.1 (71 + s)) (fun j hj h0 => (fra.ss hq (by decide) _).2.1 j (by omega) (fun y => y.elim h0 (fun y => by omega))) (fun f hf => (fra.ss hq (by decide) _).2.2 f (by omega) (fun y => y)) (fun i hi => congrFun ((fra.ss hq (by decide) _).1.2 (71 + s) (by omega)) i)] at e12
          subst e12
          refine lv_iconst (v := -1) C.1 C.2.1 dX11_allBy_62 (by decide) ?_
          refine lv_icmp_ne (tgt := 92) C.1 C.2.1 dX11_allBy_63 (by decide) (fun c13 => ?_) (fun c13 => ?_)
          · refine lv_iinc (v := nI (0 + j + 1)) (lv' := [(8, .int (nI (0 + j + 1))), (0, .ref (mw_a E 30)), (1, .ref (mw_a E (67 + s))), (2, .ref (mw_a E (14 + q))), (3, .int 7), (4, .int x), (5, .int (nI k)), (6, .int y), (7, .int (nI (tc - 1)))]) C.1 C.2.1 dX11_allBy_92 hl (k := 8) rfl (nI_1 _) (by decide) rfl (fun ls hl => ?_)
            refine lv_goto (tgt := 41) C.1 C.2.1 dX11_allBy_95 (by decide) ?_
            exact iha (j + 1) x k y u9 _ _ (by omega) (by omega) (by rw [ex, orS_snoc, show bitG (fun v => okF (zz v) (σ.1 0) (cuX σ 0 q) (σ.2.1 (71 + s)) m) (0 + j) = 0 from if_neg (fun y => c13 (okF_t.mp y)), Int32.or_zero]) (by rw [ek, cnS_snoc, if_neg (fun y => c13 (okF_t.mp y))]; rfl) (by rw [ey, leS_snoc, if_neg (fun y => c13 (okF_t.mp y))]; by_cases h0 : cnS (fun v => okF (zz v) (σ.1 0) (cuX σ 0 q) (σ.2.1 (71 + s)) m) j 0 = 0; (rw [if_pos h0, leS_0 _ _ _ h0]); (rw [if_neg h0])) ((fra.ss hq (by decide) _).cb (by decide) f11) hP hS ls (lv_sub hl [1, 2, 3, 4, 5, 6, 7, 8, 0] rfl)
          · refine lv_iload C.1 C.2.1 dX11_allBy_66 (lv_at hl 4 rfl) ?_
            refine lv_iconst (v := 1) C.1 C.2.1 dX11_allBy_68 (by decide) ?_
            refine lv_iload C.1 C.2.1 dX11_allBy_69 (lv_at hl 8 rfl) ?_
            refine lv_ishl C.1 C.2.1 dX11_allBy_71 ?_
            refine lv_ior C.1 C.2.1 dX11_allBy_72 ?_
            refine lv_istore (lv' := [(4, .int (x ||| (1 <<< ((nI (0 + j)) &&& 31)))), (0, .ref (mw_a E 30)), (1, .ref (mw_a E (67 + s))), (2, .ref (mw_a E (14 + q))), (3, .int 7), (5, .int (nI k)), (6, .int y), (7, .int (nI (tc - 1))), (8, .int (nI (0 + j)))]) C.1 C.2.1 dX11_allBy_73 hl (by decide) rfl (fun ls hl => ?_)
            refine lv_iload C.1 C.2.1 dX11_allBy_75 (lv_at hl 5 rfl) ?_
            refine lv_if_ne (tgt := 85) C.1 C.2.1 dX11_allBy_77 (by decide) (fun c14 => ?_) (fun c14 => ?_)
            · refine lv_iload C.1 C.2.1 dX11_allBy_85 (lv_at hl 6 rfl) ?_
              refine lv_istore (lv' := [(6, .int y), (4, .int (x ||| (1 <<< ((nI (0 + j)) &&& 31)))), (0, .ref (mw_a E 30)), (1, .ref (mw_a E (67 + s))), (2, .ref (mw_a E (14 + q))), (3, .int 7), (5, .int (nI k)), (7, .int (nI (tc - 1))), (8, .int (nI (0 + j)))]) C.1 C.2.1 dX11_allBy_87 hl (by decide) rfl (fun ls hl => ?_)
              refine lv_iinc (v := nI (k + 1)) (lv' := [(5, .int (nI (k + 1))), (6, .int y), (4, .int (x ||| (1 <<< ((nI (0 + j)) &&& 31)))), (0, .ref (mw_a E 30)), (1, .ref (mw_a E (67 + s))), (2, .ref (mw_a E (14 + q))), (3, .int 7), (7, .int (nI (tc - 1))), (8, .int (nI (0 + j)))]) C.1 C.2.1 dX11_allBy_89 hl (k := 6) rfl (nI_1 _) (by decide) rfl (fun ls hl => ?_)
              refine lv_iinc (v := nI (0 + j + 1)) (lv' := [(8, .int (nI (0 + j + 1))), (5, .int (nI (k + 1))), (6, .int y), (4, .int (x ||| (1 <<< ((nI (0 + j)) &&& 31)))), (0, .ref (mw_a E 30)), (1, .ref (mw_a E (67 + s))), (2, .ref (mw_a E (14 + q))), (3, .int 7), (7, .int (nI (tc - 1)))]) C.1 C.2.1 dX11_allBy_92 hl (k := 8) rfl (nI_1 _) (by decide) rfl (fun ls hl => ?_)
              refine lv_goto (tgt := 41) C.1 C.2.1 dX11_allBy_95 (by decide) ?_
              exact iha (j + 1) (x ||| (1 <<< ((nI (0 + j)) &&& 31))) (k + 1) y u9 _ _ (by omega) (by omega) (by rw [ex, orS_snoc, show bitG (fun v => okF (zz v) (σ.1 0) (cuX σ 0 q) (σ.2.1 (71 + s)) m) (0 + j) = 1 <<< (nI (0 + j) &&& 31) from if_pos (okF_t.mpr c13)]) (by rw [ek, cnS_snoc, if_pos (okF_t.mpr c13)]) (by rw [ey, leS_snoc, if_pos (okF_t.mpr c13), if_neg (by rw [← ek]; exact fun y => c14 (by rw [y]; rfl))]) ((fra.ss hq (by decide) _).cb (by decide) f11) hP hS ls (lv_sub hl [4, 5, 6, 7, 3, 1, 2, 8, 0] rfl)
            · refine lv_iload C.1 C.2.1 dX11_allBy_80 (lv_at hl 8 rfl) ?_
              refine lv_goto (tgt := 87) C.1 C.2.1 dX11_allBy_82 (by decide) ?_
              refine lv_istore (lv' := [(6, .int (nI (0 + j))), (4, .int (x ||| (1 <<< ((nI (0 + j)) &&& 31)))), (0, .ref (mw_a E 30)), (1, .ref (mw_a E (67 + s))), (2, .ref (mw_a E (14 + q))), (3, .int 7), (5, .int (nI k)), (7, .int (nI (tc - 1))), (8, .int (nI (0 + j)))]) C.1 C.2.1 dX11_allBy_87 hl (by decide) rfl (fun ls hl => ?_)
              refine lv_iinc (v := nI (k + 1)) (lv' := [(5, .int (nI (k + 1))), (6, .int (nI (0 + j))), (4, .int (x ||| (1 <<< ((nI (0 + j)) &&& 31)))), (0, .ref (mw_a E 30)), (1, .ref (mw_a E (67 + s))), (2, .ref (mw_a E (14 + q))), (3, .int 7), (7, .int (nI (tc - 1))), (8, .int (nI (0 + j)))]) C.1 C.2.1 dX11_allBy_89 hl (k := 6) rfl (nI_1 _) (by decide) rfl (fun ls hl => ?_)
              refine lv_iinc (v := nI (0 + j + 1)) (lv' := [(8, .int (nI (0 + j + 1))), (5, .int (nI (k + 1))), (6, .int (nI (0 + j))), (4, .int (x ||| (1 <<< ((nI (0 + j)) &&& 31)))), (0, .ref (mw_a E 30)), (1, .ref (mw_a E (67 + s))), (2, .ref (mw_a E (14 + q))), (3, .int 7), (7, .int (nI (tc - 1)))]) C.1 C.2.1 dX11_allBy_92 hl (k := 8) rfl (nI_1 _) (by decide) rfl (fun ls hl => ?_)
              refine lv_goto (tgt := 41) C.1 C.2.1 dX11_allBy_95 (by decide) ?_
              exact iha (j + 1) (x ||| (1 <<< ((nI (0 + j)) &&& 31))) (k + 1) (nI (0 + j)) u9 _ _ (by omega) (by omega) (by rw [ex, orS_snoc, show bitG (fun v => okF (zz v) (σ.1 0) (cuX σ 0 q) (σ.2.1 (71 + s)) m) (0 + j) = 1 <<< (nI (0 + j) &&& 31) from if_pos (okF_t.mpr c13)]) (by rw [ek, cnS_snoc, if_pos (okF_t.mpr c13)]) (by rw [leS_snoc, if_pos (okF_t.mpr c13), if_pos (by rw [← ek]; exact (nI_eq (b := 0) (by omega) (by decide)).mp c14)]) ((fra.ss hq (by decide) _).cb (by decide) f11) hP hS ls (lv_sub hl [4, 5, 6, 7, 3, 1, 2, 8, 0] rfl)
    exact lpa (tc + 1) 0 0 0 (-1) ς _ _ (by omega) (by omega) (rfl) (rfl) (rfl) hsu hP hS ls (lv_sub hl [5, 6, 7, 8, 4, 3, 2, 1, 0] rfl)
