/-! THE CLASS: CUSTOMERS OUT OF A SHEET -/
def xcuMs (σ : mw_M) (n : Nat) : List triT → mw_M
  | [] => σ
  | t :: ts => xcuMs (xcuM σ n t.1 t.2.1 t.2.2) (n + 1) ts
theorem xcuMs_app (σ : mw_M) (n : Nat) : ∀ (xs ys : List triT), xcuMs σ n (xs ++ ys) = xcuMs (xcuMs σ n xs) (n + xs.length) ys := by
  intro xs
  induction xs generalizing σ n with
  | nil => intro ys; rfl
  | cons t ts ih =>
    intro ys
    show xcuMs (xcuM σ n t.1 t.2.1 t.2.2) (n + 1) (ts ++ ys) = xcuMs (xcuMs (xcuM σ n t.1 t.2.1 t.2.2) (n + 1) ts) (n + (ts.length + 1)) ys
    rw [ih, show n + 1 + ts.length = n + (ts.length + 1) by omega]
theorem xcuM_ne {σ : mw_M} {n q : Nat} {k m h : Int32} (h0 : q ≠ 0) (h1 : q ≠ 6 + n) : (xcuM σ n k m h).1 q = σ.1 q := (mw_npF h0).trans (comM_ne σ _ _ _ h1)
theorem xcuMs_keep (σ : mw_M) (n : Nat) (hn : σ.1 0 6 = nI n) : ∀ (xs : List triT), n + xs.length ≤ 8 → (xcuMs σ n xs).2 = σ.2 ∧ (∀ q, 30 ≤ q → (xcuMs σ n xs).1 q = σ.1 q) ∧ (xcuMs σ n xs).1 0 6 = nI (n + xs.length) := by
  intro xs
  induction xs generalizing σ n with
  | nil => intro _; exact ⟨rfl, fun _ _ => rfl, hn⟩
  | cons t ts ih =>
    intro hl
    rw [List.length_cons] at hl
    obtain ⟨h1, h2, h3⟩ := ih (xcuM σ n t.1 t.2.1 t.2.2) (n + 1) mw_sf (by omega)
    refine ⟨h1, fun q hq => (h2 q hq).trans (xcuM_ne (by omega) (by omega)), ?_⟩
    rw [show n + (t :: ts).length = n + 1 + ts.length by rw [List.length_cons]; omega]
    exact h3
def custR (σ : mw_M) (n : Nat) (s so a m : Int32) : Int32 × List triT := if ¬ (0 ≤ s.toInt ∧ s.toInt ≤ 3) ∨ ¬ (0 ≤ so.toInt ∧ so.toInt ≤ 2) ∨ ¬ (0 ≤ m.toInt ∧ m.toInt ≤ 8) then (-2, []) else if ¬ σ.1 (67 + s.toNatClampNeg) 0 = -1 ∧ ¬ σ.1 (67 + s.toNatClampNeg) 0 = so then (-13, []) else if σ.1 (67 + s.toNatClampNeg) 0 = -1 then (-11, []) else (cuR (cuL (σ.2.1 (71 + s.toNatClampNeg)) (σ.1 (67 + s.toNatClampNeg) 1).toNatClampNeg a.toInt m.toNatClampNeg 0 n), (cuL (σ.2.1 (71 + s.toNatClampNeg)) (σ.1 (67 + s.toNatClampNeg) 1).toNatClampNeg a.toInt m.toNatClampNeg 0 n).1)

set_option maxHeartbeats 4000000 in
set_option maxRecDepth 100000 in
theorem cX_customers (l : Launch) (E : mw_E) (σ : mw_M) (n : Nat) (hn : σ.1 0 6 = nI n) (h8 : n ≤ 8) (hsh : xShs σ) (ss so a1 m1 : Int32) : mw_Ci shX 75 gX l yX11_customers cX11_customers 9 (some .int) (rmF 3 110) E [.ref (mw_a E 30), .int ss, .int so, .int a1, .int m1] σ (fun r u => r = (custR σ n ss so a1 m1).1 ∧ u = xcuMs σ n (custR σ n ss so a1 m1).2) := by
  refine mw_of (by decide) gX_ok (Nat.le_of_ble_eq_true rfl) ?_
  intro p_ e_ s_ m_ below meth c_ C hr hlk Z hP ls hl
  have C : CallFix p_ m_ c_ cX11_customers 9 s_ _ lw_good RX11 := C
  have hl : lv_has ls 9 [(0, .ref (mw_a E 30)), (1, .int ss), (2, .int so), (3, .int a1), (4, .int m1)] := hl
  have hS : va_S (mw_A 75 E) s_.heap s_.heap [] := va_S.rf
  refine lv_iload_n C.1 C.2.1 dX11_customers_0 rfl (lv_at hl 1 rfl) ?_
  refine mw_cSi (As := [.int ss]) (rest := []) C Z hP hS (cX_isSheet l E σ ss) sb_X11_isSheet tw_4_50 ⟨rfl, rfl⟩ ⟨Nat.le_of_ble_eq_true rfl, Nat.le_of_ble_eq_true rfl⟩ rfl hl.1 rfl (Nat.le_of_ble_eq_true rfl) dX11_customers_1 ⟨Nat.zero_le _, Nat.zero_le _⟩ (fun r1 u2 H locs q3 hP hS => ?_)
  obtain ⟨rfl, q3u⟩ := q3
  rw [q3u] at hP; clear q3u
  refine lv_if_eq (tgt := 27) C.1 C.2.1 dX11_customers_4 (by decide) (fun c4 => ?_) (fun c4 => ?_)
  · have c4 := bI_0.mp c4
    refine lv_bipush (v := -2) C.1 C.2.1 dX11_customers_27 (by decide) ?_
    exact mw_iret C hr hlk Z hP hS dX11_customers_29 (⟨by unfold custR; rw [if_pos (Or.inl c4)], by unfold custR; rw [if_pos (Or.inl c4)]; rfl⟩)
  · have c4 := bI_n.mp c4
    have hrs := c4
    obtain ⟨s, hs3, es0⟩ := nI_ofI (k := 3) hrs.1 hrs.2
    have hs : s < 4 := by omega
    subst es0
    have es : (nI s).toNatClampNeg = s := nI_clamp (by omega)
    obtain ⟨m, hm4, hm⟩ := hsh s hs
    refine lv_iload_n C.1 C.2.1 dX11_customers_7 rfl (lv_at hl 2 rfl) ?_
    refine lv_iconst (v := 0) C.1 C.2.1 dX11_customers_8 (by decide) ?_
    refine lv_iconst (v := 2) C.1 C.2.1 dX11_customers_9 (by decide) ?_
    refine mw_cSi (As := [.int so, .int 0, .int 2]) (rest := []) C Z hP hS (cX_isWithin2 l E σ so (0 : Int32) (2 : Int32) (0 ≤ so.toInt ∧ so.toInt ≤ 2) Iff.rfl) sb_X11_isWithin tw_3_42 ⟨rfl, rfl⟩ ⟨Nat.le_of_ble_eq_true rfl, Nat.le_of_ble_eq_true rfl⟩ rfl hl.1 rfl (Nat.le_of_ble_eq_true rfl) dX11_customers_10 ⟨Nat.zero_le _, Nat.zero_le _⟩ (fun r5 u6 H locs q7 hP hS => ?_)
    obtain ⟨rfl, q7u⟩ := q7
    rw [q7u] at hP; clear q7u
    refine lv_if_eq (tgt := 27) C.1 C.2.1 dX11_customers_13 (by decide) (fun c8 => ?_) (fun c8 => ?_)
    · have c8 := bI_0.mp c8
      refine lv_bipush (v := -2) C.1 C.2.1 dX11_customers_27 (by decide) ?_
      exact mw_iret C hr hlk Z hP hS dX11_customers_29 (⟨by unfold custR; rw [if_pos (Or.inr (Or.inl c8))], by unfold custR; rw [if_pos (Or.inr (Or.inl c8))]; rfl⟩)
    · have c8 := bI_n.mp c8
      have hrso := c8
      refine lv_iload C.1 C.2.1 dX11_customers_16 (lv_at hl 4 rfl) ?_
      refine lv_iconst (v := 0) C.1 C.2.1 dX11_customers_18 (by decide) ?_
      refine lv_bipush (v := 8) C.1 C.2.1 dX11_customers_19 (by decide) ?_
      refine mw_cSi (As := [.int m1, .int 0, .int 8]) (rest := []) C Z hP hS (cX_isWithin2 l E σ m1 (0 : Int32) (8 : Int32) (0 ≤ m1.toInt ∧ m1.toInt ≤ 8) Iff.rfl) sb_X11_isWithin tw_3_42 ⟨rfl, rfl⟩ ⟨Nat.le_of_ble_eq_true rfl, Nat.le_of_ble_eq_true rfl⟩ rfl hl.1 rfl (Nat.le_of_ble_eq_true rfl) dX11_customers_21 ⟨Nat.zero_le _, Nat.zero_le _⟩ (fun r9 u10 H locs q11 hP hS => ?_)
      obtain ⟨rfl, q11u⟩ := q11
      rw [q11u] at hP; clear q11u
      refine lv_if_ne (tgt := 30) C.1 C.2.1 dX11_customers_24 (by decide) (fun c12 => ?_) (fun c12 => ?_)
      · have c12 := bI_n.mp c12
        have hrm := c12
        obtain ⟨mm, hmm, em0⟩ := nI_ofI (k := 8) hrm.1 hrm.2
        subst em0
        have emm : (nI mm).toNatClampNeg = mm := nI_clamp (by omega)
        have hgood : ¬ (¬ (0 ≤ (nI s).toInt ∧ (nI s).toInt ≤ 3) ∨ ¬ (0 ≤ so.toInt ∧ so.toInt ≤ 2) ∨ ¬ (0 ≤ (nI mm).toInt ∧ (nI mm).toInt ≤ 8)) := fun y => y.elim (fun y => y hrs) (fun y => y.elim (fun y => y hrso) (fun y => y hrm))
        refine lv_aload_n C.1 C.2.1 dX11_customers_30 rfl (lv_at hl 0 rfl) ?_
        refine mw_getr C Z hP (30) 10 (66) (by decide) sx_30 rfl rfl (by decide) inX11 tw_3_9 dX11_customers_31 ?_
        refine lv_iload_n C.1 C.2.1 dX11_customers_34 rfl (lv_at hl 1 rfl) ?_
        refine mw_aald C Z hP (66) (s) (by decide) sx_66 (by decide) rfl (Nat.lt_of_lt_of_le (by decide : 4 < 961) (Nat.le_of_ble_eq_true rfl)) rfl (by omega) dX11_customers_35 ?_
        refine lv_astore (lv' := [(5, .ref (mw_a E (67 + s))), (0, .ref (mw_a E 30)), (1, .int (nI s)), (2, .int so), (3, .int a1), (4, .int (nI mm))]) C.1 C.2.1 dX11_customers_36 hl (by decide) rfl (fun ls hl => ?_)
        refine lv_aload C.1 C.2.1 dX11_customers_38 (lv_at hl 0 rfl) ?_
        refine mw_cVi (As := []) (rest := []) C Z hP hS (67 + s) (cX_missing l E σ s (by omega)) vb_X5_isMissing tw_4_53 ⟨rfl, rfl⟩ ⟨Nat.le_of_ble_eq_true rfl, Nat.le_of_ble_eq_true rfl⟩ (by omega) (sx_sh (by omega)) rfl rfl rfl hl.1 rfl (Nat.le_of_ble_eq_true rfl) dX11_customers_40 ⟨Nat.zero_le _, Nat.zero_le _⟩ (fun r13 u14 H locs q15 hP hS => ?_)
        obtain ⟨rfl, q15u⟩ := q15
        rw [q15u] at hP; clear q15u
        refine lv_if_ne (tgt := 58) C.1 C.2.1 dX11_customers_43 (by decide) (fun c16 => ?_) (fun c16 => ?_)
        · have c16 := bI_n.mp c16
          have hso : ¬ (¬ σ.1 (67 + s) 0 = -1 ∧ ¬ σ.1 (67 + s) 0 = so) := fun y => y.1 c16
          have h90 := c16
          refine lv_aload C.1 C.2.1 dX11_customers_58 (lv_at hl 0 rfl) ?_
          refine mw_cVi (As := []) (rest := []) C Z hP hS (67 + s) (cX_missing l E σ s (by omega)) vb_X5_isMissing tw_4_53 ⟨rfl, rfl⟩ ⟨Nat.le_of_ble_eq_true rfl, Nat.le_of_ble_eq_true rfl⟩ (by omega) (sx_sh (by omega)) rfl rfl rfl hl.1 rfl (Nat.le_of_ble_eq_true rfl) dX11_customers_60 ⟨Nat.zero_le _, Nat.zero_le _⟩ (fun r17 u18 H locs q19 hP hS => ?_)
          obtain ⟨rfl, q19u⟩ := q19
          rw [q19u] at hP; clear q19u
          refine lv_if_eq (tgt := 69) C.1 C.2.1 dX11_customers_63 (by decide) (fun c20 => ?_) (fun c20 => ?_)
          · have c20 := bI_0.mp c20
            have hth := c20
            refine lv_iconst (v := 0) C.1 C.2.1 dX11_customers_69 (by decide) ?_
            refine lv_istore (lv' := [(6, .int 0), (5, .ref (mw_a E (67 + s))), (0, .ref (mw_a E 30)), (1, .int (nI s)), (2, .int so), (3, .int a1), (4, .int (nI mm))]) C.1 C.2.1 dX11_customers_70 hl (by decide) rfl (fun ls hl => ?_)
            refine lv_iload_n C.1 C.2.1 dX11_customers_72 rfl (lv_at hl 5 rfl) ?_
            refine lv_istore (lv' := [(7, .int a1), (6, .int 0), (5, .ref (mw_a E (67 + s))), (0, .ref (mw_a E 30)), (1, .int (nI s)), (2, .int so), (3, .int a1), (4, .int (nI mm))]) C.1 C.2.1 dX11_customers_73 hl (by decide) rfl (fun ls hl => ?_)
            refine lv_iconst (v := 0) C.1 C.2.1 dX11_customers_75 (by decide) ?_
            refine lv_istore (lv' := [(8, .int 0), (7, .int a1), (6, .int 0), (5, .ref (mw_a E (67 + s))), (0, .ref (mw_a E 30)), (1, .int (nI s)), (2, .int so), (3, .int a1), (4, .int (nI mm))]) C.1 C.2.1 dX11_customers_76 hl (by decide) rfl (fun ls hl => ?_)
            have lpa : ∀ (N : Nat) (k : Nat) (xs : List triT) (v : Int32) (ςa : mw_M) (H : Heap) (locs : List Loc), mm + 1 ≤ k + N → (k ≤ mm) → (n + xs.length ≤ 8) → (cuL (σ.2.1 (71 + s)) m a1.toInt mm 0 n = (xs ++ (cuL (σ.2.1 (71 + s)) m a1.toInt (mm - k) k (n + xs.length)).1, (cuL (σ.2.1 (71 + s)) m a1.toInt (mm - k) k (n + xs.length)).2)) → (v.toInt = a1.toInt + 3 * (k : Int)) → (k = 0 ∨ 0 ≤ a1.toInt) → ςa = xcuMs σ n xs → va_P (mw_D E) vwCl (mw_ws shX 75 E ςa) H → va_S (mw_A 75 E) s_.heap H locs → ∀ (ls : Array Slot), lv_has ls 9 [(0, .ref (mw_a E 30)), (1, .int (nI s)), (2, .int so), (3, .int a1), (4, .int (nI mm)), (5, .ref (mw_a E (67 + s))), (6, .int (nI xs.length)), (7, .int v), (8, .int (nI k))] → xWi p_ l e_ (rmF 3 110) s_ m_ [.ref (mw_a E 30), .int (nI s), .int so, .int a1, .int (nI mm)] below meth c_ E (fun r u => r = (custR σ n (nI s) so a1 (nI mm)).1 ∧ u = xcuMs σ n (custR σ n (nI s) so a1 (nI mm)).2) H locs (F0 m_ 78 ls []) := by
              intro N
              induction N with
              | zero => intros; exfalso; omega
              | succ N iha =>
                intro k xs v ςa H locs hNa hk hx8 eL hv ha0 fra hP hS ls hl
                have hkeep := xcuMs_keep σ n hn xs hx8
                rw [← fra] at hkeep
                have hnk := hkeep.2.2
                refine lv_iload C.1 C.2.1 dX11_customers_78 (lv_at hl 8 rfl) ?_
                refine lv_iload C.1 C.2.1 dX11_customers_80 (lv_at hl 4 rfl) ?_
                refine lv_icmp_ge (tgt := 146) C.1 C.2.1 dX11_customers_82 (by decide) (fun c21 => ?_) (fun c21 => ?_)
                · have c21 := (nI_leI (by omega) (by omega)).mp c21
                  refine lv_iload C.1 C.2.1 dX11_customers_146 (lv_at hl 6 rfl) ?_
                  have e : custR σ n (nI s) so a1 (nI mm) = (cuR (cuL (σ.2.1 (71 + s)) m a1.toInt mm 0 n), (cuL (σ.2.1 (71 + s)) m a1.toInt mm 0 n).1) := by unfold custR; rw [if_neg hgood, es, emm, if_neg hso, if_neg hth, hm, nI_clamp (n := m) (by omega)]
                  have e2 : cuL (σ.2.1 (71 + s)) m a1.toInt mm 0 n = (xs, true) := by rw [eL, show mm - k = 0 by omega]; show (xs ++ [], true) = _; rw [List.append_nil]
                  exact mw_iret C hr hlk Z hP hS dX11_customers_148 (⟨by rw [e, e2]; rfl, by rw [e, e2]; exact fra⟩)
                · have c21 : _ := (not_congr (nI_leI (by omega) (by omega))).mp c21
                  refine lv_aload C.1 C.2.1 dX11_customers_85 (lv_at hl 5 rfl) ?_
                  refine lv_iload C.1 C.2.1 dX11_customers_87 (lv_at hl 7 rfl) ?_
                  refine lv_iconst (v := 3) C.1 C.2.1 dX11_customers_89 (by decide) ?_
                  refine mw_cVi (As := [.int v, .int 3]) (rest := []) C Z hP hS (67 + s) (cX_holds l E ςa s (by omega) m ((congrFun (hkeep.2.1 _ (by omega)) _).trans hm) hm4 v (3 : Int32)) vb_X5_holds tw_4_133 ⟨rfl, rfl⟩ ⟨Nat.le_of_ble_eq_true rfl, Nat.le_of_ble_eq_true rfl⟩ (by omega) (sx_sh (by omega)) rfl rfl rfl hl.1 rfl (Nat.le_of_ble_eq_true rfl) dX11_customers_90 ⟨Nat.zero_le _, Nat.zero_le _⟩ (fun r22 u23 H locs q24 hP hS => ?_)
                  obtain ⟨rfl, q24u⟩ := q24
                  rw [q24u] at hP; clear q24u
                  refine lv_if_ne (tgt := 99) C.1 C.2.1 dX11_customers_93 (by decide) (fun c25 => ?_) (fun c25 => ?_)
                  · have c25 := bI_n.mp c25
                    have hho := c25
                    have q3 : (3 : Int32).toInt = 3 := rfl
                    obtain ⟨w, hw40, ew⟩ := nI_ofI (k := 40) hho.2.1 (by omega)
                    subst ew
                    rw [nI_toInt (by omega)] at hv hho
                    have hrng : 0 ≤ a1.toInt ∧ a1.toInt + 3 * k + 3 ≤ m := by omega
                    have hwq : w = a1.toInt.toNat + 3 * k := by omega
                    refine lv_aload_n C.1 C.2.1 dX11_customers_99 rfl (lv_at hl 0 rfl) ?_
                    refine lv_aload C.1 C.2.1 dX11_customers_100 (lv_at hl 5 rfl) ?_
                    refine mw_getr C Z hP (67 + s) 2 (71 + s) (by omega) (sx_sh (by omega)) rfl rfl (by decide) inX5 tw_2_13 dX11_customers_102 ?_
                    refine lv_iload C.1 C.2.1 dX11_customers_105 (lv_at hl 7 rfl) ?_
                    refine mw_iald C Z hP (71 + s) (w) (by omega) (sx_ce (by omega)) (Nat.lt_of_lt_of_le (by decide : 40 < 961) (Nat.le_of_ble_eq_true rfl)) rfl (by omega) dX11_customers_107 ?_
                    refine mw_top (y := σ.2.1 (71 + s) w) ((congrFun (congrFun (congrArg Prod.fst hkeep.1) _) _)) ?_
                    refine mw_top (y := σ.2.1 (71 + s) (a1.toInt.toNat + 3 * k)) (by rw [hwq]) ?_
                    refine lv_aload C.1 C.2.1 dX11_customers_108 (lv_at hl 5 rfl) ?_
                    refine mw_getr C Z hP (67 + s) 2 (71 + s) (by omega) (sx_sh (by omega)) rfl rfl (by decide) inX5 tw_2_13 dX11_customers_110 ?_
                    refine lv_iload C.1 C.2.1 dX11_customers_113 (lv_at hl 7 rfl) ?_
                    refine lv_iconst (v := 1) C.1 C.2.1 dX11_customers_115 (by decide) ?_
                    refine lv_iadd C.1 C.2.1 dX11_customers_116 ?_
                    refine mw_top (y := nI (w + 1)) (nI_1 _) ?_
                    refine mw_iald C Z hP (71 + s) (w + 1) (by omega) (sx_ce (by omega)) (Nat.lt_of_lt_of_le (by decide : 40 < 961) (Nat.le_of_ble_eq_true rfl)) rfl (by omega) dX11_customers_117 ?_
                    refine mw_top (y := σ.2.1 (71 + s) (w + 1)) ((congrFun (congrFun (congrArg Prod.fst hkeep.1) _) _)) ?_
                    refine mw_top (y := σ.2.1 (71 + s) (a1.toInt.toNat + 3 * k + 1)) (by rw [hwq]) ?_
                    refine lv_aload C.1 C.2.1 dX11_customers_118 (lv_at hl 5 rfl) ?_
                    refine mw_getr C Z hP (67 + s) 2 (71 + s) (by omega) (sx_sh (by omega)) rfl rfl (by decide) inX5 tw_2_13 dX11_customers_120 ?_
                    refine lv_iload C.1 C.2.1 dX11_customers_123 (lv_at hl 7 rfl) ?_
                    refine lv_iconst (v := 2) C.1 C.2.1 dX11_customers_125 (by decide) ?_
                    refine lv_iadd C.1 C.2.1 dX11_customers_126 ?_
                    refine mw_top (y := nI (w + 2)) (nI_add _ 2) ?_
                    refine mw_iald C Z hP (71 + s) (w + 2) (by omega) (sx_ce (by omega)) (Nat.lt_of_lt_of_le (by decide : 40 < 961) (Nat.le_of_ble_eq_true rfl)) rfl (by omega) dX11_customers_127 ?_
                    refine mw_top (y := σ.2.1 (71 + s) (w + 2)) ((congrFun (congrFun (congrArg Prod.fst hkeep.1) _) _)) ?_
                    refine mw_top (y := σ.2.1 (71 + s) (a1.toInt.toNat + 3 * k + 2)) (by rw [hwq]) ?_
                    refine mw_cVi (As := [.int (σ.2.1 (71 + s) (a1.toInt.toNat + 3 * k)), .int (σ.2.1 (71 + s) (a1.toInt.toNat + 3 * k + 1)), .int (σ.2.1 (71 + s) (a1.toInt.toNat + 3 * k + 2))]) (rest := []) C Z hP hS (30) (cX_customer l E ςa (n + xs.length) hnk hx8 (σ.2.1 (71 + s) (a1.toInt.toNat + 3 * k)) (σ.2.1 (71 + s) (a1.toInt.toNat + 3 * k + 1)) (σ.2.1 (71 + s) (a1.toInt.toNat + 3 * k + 2))) vb_X11_customer tw_4_145 ⟨rfl, rfl⟩ ⟨Nat.le_of_ble_eq_true rfl, Nat.le_of_ble_eq_true rfl⟩ (by decide) sx_30 rfl rfl rfl hl.1 rfl (Nat.le_of_ble_eq_true rfl) dX11_customers_128 ⟨Nat.zero_le _, Nat.zero_le _⟩ (fun r26 u27 H locs q28 hP hS => ?_)
                    by_cases hok : cusOK (σ.2.1 (71 + s) (a1.toInt.toNat + 3 * k)) (σ.2.1 (71 + s) (a1.toInt.toNat + 3 * k + 1)) (σ.2.1 (71 + s) (a1.toInt.toNat + 3 * k + 2)) ∧ n + xs.length < 8
                    · obtain ⟨z29, z30⟩ := q28.2.2 hok
                      subst z29
                      refine lv_if_lt (tgt := 137) C.1 C.2.1 dX11_customers_131 (by decide) (fun c32 => ?_) (fun c32 => ?_)
                      · exact absurd c32 (nI_pos (by omega))
                      · refine lv_iinc (v := nI (xs ++ [((σ.2.1 (71 + s)) (a1.toInt.toNat + 3 * k), (σ.2.1 (71 + s)) (a1.toInt.toNat + 3 * k + 1), (σ.2.1 (71 + s)) (a1.toInt.toNat + 3 * k + 2))]).length) (lv' := [(6, .int (nI (xs ++ [((σ.2.1 (71 + s)) (a1.toInt.toNat + 3 * k), (σ.2.1 (71 + s)) (a1.toInt.toNat + 3 * k + 1), (σ.2.1 (71 + s)) (a1.toInt.toNat + 3 * k + 2))]).length)), (0, .ref (mw_a E 30)), (1, .int (nI s)), (2, .int so), (3, .int a1), (4, .int (nI mm)), (5, .ref (mw_a E (67 + s))), (7, .int (nI w)), (8, .int (nI k))]) C.1 C.2.1 dX11_customers_134 hl (k := 6) rfl (by rw [List.length_append]; exact nI_1 _) (by decide) rfl (fun ls hl => ?_)
                        refine lv_iinc (v := nI w + 3) (lv' := [(7, .int (nI w + 3)), (6, .int (nI (xs ++ [((σ.2.1 (71 + s)) (a1.toInt.toNat + 3 * k), (σ.2.1 (71 + s)) (a1.toInt.toNat + 3 * k + 1), (σ.2.1 (71 + s)) (a1.toInt.toNat + 3 * k + 2))]).length)), (0, .ref (mw_a E 30)), (1, .int (nI s)), (2, .int so), (3, .int a1), (4, .int (nI mm)), (5, .ref (mw_a E (67 + s))), (8, .int (nI k))]) C.1 C.2.1 dX11_customers_137 hl (k := 7) rfl (rfl) (by decide) rfl (fun ls hl => ?_)
                        refine lv_iinc (v := nI (k + 1)) (lv' := [(8, .int (nI (k + 1))), (7, .int (nI w + 3)), (6, .int (nI (xs ++ [((σ.2.1 (71 + s)) (a1.toInt.toNat + 3 * k), (σ.2.1 (71 + s)) (a1.toInt.toNat + 3 * k + 1), (σ.2.1 (71 + s)) (a1.toInt.toNat + 3 * k + 2))]).length)), (0, .ref (mw_a E 30)), (1, .int (nI s)), (2, .int so), (3, .int a1), (4, .int (nI mm)), (5, .ref (mw_a E (67 + s)))]) C.1 C.2.1 dX11_customers_140 hl (k := 8) rfl (nI_1 _) (by decide) rfl (fun ls hl => ?_)
                        refine lv_goto (tgt := 78) C.1 C.2.1 dX11_customers_143 (by decide) ?_
                        exact iha (k + 1) (xs ++ [((σ.2.1 (71 + s)) (a1.toInt.toNat + 3 * k), (σ.2.1 (71 + s)) (a1.toInt.toNat + 3 * k + 1), (σ.2.1 (71 + s)) (a1.toInt.toNat + 3 * k + 2))]) (nI w + 3) u27 _ _ (by omega) (by omega) (by rw [List.length_append]; show n + (xs.length + 1) ≤ 8; have := hok.2; omega) (by rw [eL, show mm - k = (mm - (k + 1)) + 1 by omega, cuL_s hrng]; rw [if_pos hok]; show (xs ++ _ :: _, _) = ((xs ++ [_]) ++ _, _); rw [List.append_assoc, List.length_append]; rfl) (by rw [show nI w + 3 = nI (w + 3) from nI_add w 3, nI_toInt (by omega)]; omega) (Or.inr hrng.1) (by rw [z30, fra, xcuMs_app]; rfl) hP hS ls (lv_sub hl [3, 4, 5, 6, 7, 8, 2, 1, 0] rfl)
                    · have z29 : (r26 = -2 ∨ r26 = -4) ∧ u27 = ςa := by
                        by_cases h1 : cusOK (σ.2.1 (71 + s) (a1.toInt.toNat + 3 * k)) (σ.2.1 (71 + s) (a1.toInt.toNat + 3 * k + 1)) (σ.2.1 (71 + s) (a1.toInt.toNat + 3 * k + 2))
                        · exact ⟨Or.inr (q28.2.1 ⟨h1, by have : ¬ n + xs.length < 8 := fun y => hok ⟨h1, y⟩; omega⟩).1, (q28.2.1 ⟨h1, by have : ¬ n + xs.length < 8 := fun y => hok ⟨h1, y⟩; omega⟩).2⟩
                        · exact ⟨Or.inl (q28.1 h1).1, (q28.1 h1).2⟩
                      refine lv_if_lt (tgt := 137) C.1 C.2.1 dX11_customers_131 (by decide) (fun c33 => ?_) (fun c33 => ?_)
                      · refine lv_iinc (v := nI w + 3) (lv' := [(7, .int (nI w + 3)), (0, .ref (mw_a E 30)), (1, .int (nI s)), (2, .int so), (3, .int a1), (4, .int (nI mm)), (5, .ref (mw_a E (67 + s))), (6, .int (nI xs.length)), (8, .int (nI k))]) C.1 C.2.1 dX11_customers_137 hl (k := 7) rfl (rfl) (by decide) rfl (fun ls hl => ?_)
                        refine lv_iinc (v := nI (k + 1)) (lv' := [(8, .int (nI (k + 1))), (7, .int (nI w + 3)), (0, .ref (mw_a E 30)), (1, .int (nI s)), (2, .int so), (3, .int a1), (4, .int (nI mm)), (5, .ref (mw_a E (67 + s))), (6, .int (nI xs.length))]) C.1 C.2.1 dX11_customers_140 hl (k := 8) rfl (nI_1 _) (by decide) rfl (fun ls hl => ?_)
                        refine lv_goto (tgt := 78) C.1 C.2.1 dX11_customers_143 (by decide) ?_
                        exact iha (k + 1) xs (nI w + 3) u27 _ _ (by omega) (by omega) (hx8) (by rw [eL, show mm - k = (mm - (k + 1)) + 1 by omega, cuL_s hrng]; rw [if_neg hok]) (by rw [show nI w + 3 = nI (w + 3) from nI_add w 3, nI_toInt (by omega)]; omega) (Or.inr hrng.1) (z29.2.trans fra) hP hS ls (lv_sub hl [2, 3, 4, 5, 6, 7, 8, 1, 0] rfl)
                      · rcases z29.1 with h | h <;> (rw [h] at c33; exact absurd (by decide) c33)
                  · have c25 := bI_0.mp c25
                    refine lv_bipush (v := -12) C.1 C.2.1 dX11_customers_96 (by decide) ?_
                    have e : custR σ n (nI s) so a1 (nI mm) = (cuR (cuL (σ.2.1 (71 + s)) m a1.toInt mm 0 n), (cuL (σ.2.1 (71 + s)) m a1.toInt mm 0 n).1) := by unfold custR; rw [if_neg hgood, es, emm, if_neg hso, if_neg hth, hm, nI_clamp (n := m) (by omega)]
                    have e2 : cuL (σ.2.1 (71 + s)) m a1.toInt mm 0 n = (xs, false) := by rw [eL, show mm - k = (mm - (k + 1)) + 1 by omega, cuL_x (fun y => c25 (by have : (3 : Int32).toInt = 3 := rfl; omega)), List.append_nil]
                    exact mw_iret C hr hlk Z hP hS dX11_customers_98 (⟨by rw [e, e2]; rfl, by rw [e, e2]; exact fra⟩)
            exact lpa (mm + 1) 0 ([]) a1 σ _ _ (by omega) (by omega) (by show n + 0 ≤ 8; omega) (by rw [Nat.sub_zero]; rfl) (by omega) (Or.inl rfl) rfl hP hS ls (lv_sub hl [4, 5, 6, 7, 8, 3, 2, 1, 0] rfl)
          · have c20 := bI_n.mp c20
            refine lv_bipush (v := -11) C.1 C.2.1 dX11_customers_66 (by decide) ?_
            have e : custR σ n (nI s) so a1 (nI mm) = (-11, []) := by unfold custR; rw [if_neg hgood, es, if_neg (fun y => y.1 c20), if_pos c20]
            exact mw_iret C hr hlk Z hP hS dX11_customers_68 (⟨by rw [e], by rw [e]; rfl⟩)
        · have c16 := bI_0.mp c16
          have h90 := c16
          refine lv_aload C.1 C.2.1 dX11_customers_46 (lv_at hl 0 rfl) ?_
          refine mw_geti C Z hP (67 + s) 0 (by omega) (sx_sh (by omega)) rfl rfl (by decide) inX5 tw_2_9 dX11_customers_48 ?_
          refine lv_iload_n C.1 C.2.1 dX11_customers_51 rfl (lv_at hl 3 rfl) ?_
          refine lv_icmp_eq (tgt := 58) C.1 C.2.1 dX11_customers_52 (by decide) (fun c34 => ?_) (fun c34 => ?_)
          · have hso : ¬ (¬ σ.1 (67 + s) 0 = -1 ∧ ¬ σ.1 (67 + s) 0 = so) := fun y => y.2 c34
            refine lv_aload C.1 C.2.1 dX11_customers_58 (lv_at hl 0 rfl) ?_
            refine mw_cVi (As := []) (rest := []) C Z hP hS (67 + s) (cX_missing l E σ s (by omega)) vb_X5_isMissing tw_4_53 ⟨rfl, rfl⟩ ⟨Nat.le_of_ble_eq_true rfl, Nat.le_of_ble_eq_true rfl⟩ (by omega) (sx_sh (by omega)) rfl rfl rfl hl.1 rfl (Nat.le_of_ble_eq_true rfl) dX11_customers_60 ⟨Nat.zero_le _, Nat.zero_le _⟩ (fun r35 u36 H locs q37 hP hS => ?_)
            obtain ⟨rfl, q37u⟩ := q37
            rw [q37u] at hP; clear q37u
            refine lv_if_eq (tgt := 69) C.1 C.2.1 dX11_customers_63 (by decide) (fun c38 => ?_) (fun c38 => ?_)
            · have c38 := bI_0.mp c38
              have hth := c38
              refine lv_iconst (v := 0) C.1 C.2.1 dX11_customers_69 (by decide) ?_
              refine lv_istore (lv' := [(6, .int 0), (5, .ref (mw_a E (67 + s))), (0, .ref (mw_a E 30)), (1, .int (nI s)), (2, .int so), (3, .int a1), (4, .int (nI mm))]) C.1 C.2.1 dX11_customers_70 hl (by decide) rfl (fun ls hl => ?_)
              refine lv_iload_n C.1 C.2.1 dX11_customers_72 rfl (lv_at hl 5 rfl) ?_
              refine lv_istore (lv' := [(7, .int a1), (6, .int 0), (5, .ref (mw_a E (67 + s))), (0, .ref (mw_a E 30)), (1, .int (nI s)), (2, .int so), (3, .int a1), (4, .int (nI mm))]) C.1 C.2.1 dX11_customers_73 hl (by decide) rfl (fun ls hl => ?_)
              refine lv_iconst (v := 0) C.1 C.2.1 dX11_customers_75 (by decide) ?_
              refine lv_istore (lv' := [(8, .int 0), (7, .int a1), (6, .int 0), (5, .ref (mw_a E (67 + s))), (0, .ref (mw_a E 30)), (1, .int (nI s)), (2, .int so), (3, .int a1), (4, .int (nI mm))]) C.1 C.2.1 dX11_customers_76 hl (by decide) rfl (fun ls hl => ?_)
              have lpa : ∀ (N : Nat) (k : Nat) (xs : List triT) (v : Int32) (ςa : mw_M) (H : Heap) (locs : List Loc), mm + 1 ≤ k + N → (k ≤ mm) → (n + xs.length ≤ 8) → (cuL (σ.2.1 (71 + s)) m a1.toInt mm 0 n = (xs ++ (cuL (σ.2.1 (71 + s)) m a1.toInt (mm - k) k (n + xs.length)).1, (cuL (σ.2.1 (71 + s)) m a1.toInt (mm - k) k (n + xs.length)).2)) → (v.toInt = a1.toInt + 3 * (k : Int)) → (k = 0 ∨ 0 ≤ a1.toInt) → ςa = xcuMs σ n xs → va_P (mw_D E) vwCl (mw_ws shX 75 E ςa) H → va_S (mw_A 75 E) s_.heap H locs → ∀ (ls : Array Slot), lv_has ls 9 [(0, .ref (mw_a E 30)), (1, .int (nI s)), (2, .int so), (3, .int a1), (4, .int (nI mm)), (5, .ref (mw_a E (67 + s))), (6, .int (nI xs.length)), (7, .int v), (8, .int (nI k))] → xWi p_ l e_ (rmF 3 110) s_ m_ [.ref (mw_a E 30), .int (nI s), .int so, .int a1, .int (nI mm)] below meth c_ E (fun r u => r = (custR σ n (nI s) so a1 (nI mm)).1 ∧ u = xcuMs σ n (custR σ n (nI s) so a1 (nI mm)).2) H locs (F0 m_ 78 ls []) := by
                intro N
                induction N with
                | zero => intros; exfalso; omega
                | succ N iha =>
                  intro k xs v ςa H locs hNa hk hx8 eL hv ha0 fra hP hS ls hl
                  have hkeep := xcuMs_keep σ n hn xs hx8
                  rw [← fra] at hkeep
                  have hnk := hkeep.2.2
                  refine lv_iload C.1 C.2.1 dX11_customers_78 (lv_at hl 8 rfl) ?_
                  refine lv_iload C.1 C.2.1 dX11_customers_80 (lv_at hl 4 rfl) ?_
                  refine lv_icmp_ge (tgt := 146) C.1 C.2.1 dX11_customers_82 (by decide) (fun c39 => ?_) (fun c39 => ?_)
                  · have c39 := (nI_leI (by omega) (by omega)).mp c39
                    refine lv_iload C.1 C.2.1 dX11_customers_146 (lv_at hl 6 rfl) ?_
                    have e : custR σ n (nI s) so a1 (nI mm) = (cuR (cuL (σ.2.1 (71 + s)) m a1.toInt mm 0 n), (cuL (σ.2.1 (71 + s)) m a1.toInt mm 0 n).1) := by unfold custR; rw [if_neg hgood, es, emm, if_neg hso, if_neg hth, hm, nI_clamp (n := m) (by omega)]
                    have e2 : cuL (σ.2.1 (71 + s)) m a1.toInt mm 0 n = (xs, true) := by rw [eL, show mm - k = 0 by omega]; show (xs ++ [], true) = _; rw [List.append_nil]
                    exact mw_iret C hr hlk Z hP hS dX11_customers_148 (⟨by rw [e, e2]; rfl, by rw [e, e2]; exact fra⟩)
                  · have c39 : _ := (not_congr (nI_leI (by omega) (by omega))).mp c39
                    refine lv_aload C.1 C.2.1 dX11_customers_85 (lv_at hl 5 rfl) ?_
                    refine lv_iload C.1 C.2.1 dX11_customers_87 (lv_at hl 7 rfl) ?_
                    refine lv_iconst (v := 3) C.1 C.2.1 dX11_customers_89 (by decide) ?_
                    refine mw_cVi (As := [.int v, .int 3]) (rest := []) C Z hP hS (67 + s) (cX_holds l E ςa s (by omega) m ((congrFun (hkeep.2.1 _ (by omega)) _).trans hm) hm4 v (3 : Int32)) vb_X5_holds tw_4_133 ⟨rfl, rfl⟩ ⟨Nat.le_of_ble_eq_true rfl, Nat.le_of_ble_eq_true rfl⟩ (by omega) (sx_sh (by omega)) rfl rfl rfl hl.1 rfl (Nat.le_of_ble_eq_true rfl) dX11_customers_90 ⟨Nat.zero_le _, Nat.zero_le _⟩ (fun r40 u41 H locs q42 hP hS => ?_)
                    obtain ⟨rfl, q42u⟩ := q42
                    rw [q42u] at hP; clear q42u
                    refine lv_if_ne (tgt := 99) C.1 C.2.1 dX11_customers_93 (by decide) (fun c43 => ?_) (fun c43 => ?_)
                    · have c43 := bI_n.mp c43
                      have hho := c43
                      have q3 : (3 : Int32).toInt = 3 := rfl
                      obtain ⟨w, hw40, ew⟩ := nI_ofI (k := 40) hho.2.1 (by omega)
                      subst ew
                      rw [nI_toInt (by omega)] at hv hho
                      have hrng : 0 ≤ a1.toInt ∧ a1.toInt + 3 * k + 3 ≤ m := by omega
                      have hwq : w = a1.toInt.toNat + 3 * k := by omega
                      refine lv_aload_n C.1 C.2.1 dX11_customers_99 rfl (lv_at hl 0 rfl) ?_
                      refine lv_aload C.1 C.2.1 dX11_customers_100 (lv_at hl 5 rfl) ?_
                      refine mw_getr C Z hP (67 + s) 2 (71 + s) (by omega) (sx_sh (by omega)) rfl rfl (by decide) inX5 tw_2_13 dX11_customers_102 ?_
                      refine lv_iload C.1 C.2.1 dX11_customers_105 (lv_at hl 7 rfl) ?_
                      refine mw_iald C Z hP (71 + s) (w) (by omega) (sx_ce (by omega)) (Nat.lt_of_lt_of_le (by decide : 40 < 961) (Nat.le_of_ble_eq_true rfl)) rfl (by omega) dX11_customers_107 ?_
                      refine mw_top (y := σ.2.1 (71 + s) w) ((congrFun (congrFun (congrArg Prod.fst hkeep.1) _) _)) ?_
                      refine mw_top (y := σ.2.1 (71 + s) (a1.toInt.toNat + 3 * k)) (by rw [hwq]) ?_
                      refine lv_aload C.1 C.2.1 dX11_customers_108 (lv_at hl 5 rfl) ?_
                      refine mw_getr C Z hP (67 + s) 2 (71 + s) (by omega) (sx_sh (by omega)) rfl rfl (by decide) inX5 tw_2_13 dX11_customers_110 ?_
                      refine lv_iload C.1 C.2.1 dX11_customers_113 (lv_at hl 7 rfl) ?_
                      refine lv_iconst (v := 1) C.1 C.2.1 dX11_customers_115 (by decide) ?_
                      refine lv_iadd C.1 C.2.1 dX11_customers_116 ?_
                      refine mw_top (y := nI (w + 1)) (nI_1 _) ?_
                      refine mw_iald C Z hP (71 + s) (w + 1) (by omega) (sx_ce (by omega)) (Nat.lt_of_lt_of_le (by decide : 40 < 961) (Nat.le_of_ble_eq_true rfl)) rfl (by omega) dX11_customers_117 ?_
                      refine mw_top (y := σ.2.1 (71 + s) (w + 1)) ((congrFun (congrFun (congrArg Prod.fst hkeep.1) _) _)) ?_
                      refine mw_top (y := σ.2.1 (71 + s) (a1.toInt.toNat + 3 * k + 1)) (by rw [hwq]) ?_
                      refine lv_aload C.1 C.2.1 dX11_customers_118 (lv_at hl 5 rfl) ?_
                      refine mw_getr C Z hP (67 + s) 2 (71 + s) (by omega) (sx_sh (by omega)) rfl rfl (by decide) inX5 tw_2_13 dX11_customers_120 ?_
                      refine lv_iload C.1 C.2.1 dX11_customers_123 (lv_at hl 7 rfl) ?_
                      refine lv_iconst (v := 2) C.1 C.2.1 dX11_customers_125 (by decide) ?_
                      refine lv_iadd C.1 C.2.1 dX11_customers_126 ?_
                      refine mw_top (y := nI (w + 2)) (nI_add _ 2) ?_
                      refine mw_iald C Z hP (71 + s) (w + 2) (by omega) (sx_ce (by omega)) (Nat.lt_of_lt_of_le (by decide : 40 < 961) (Nat.le_of_ble_eq_true rfl)) rfl (by omega) dX11_customers_127 ?_
                      refine mw_top (y := σ.2.1 (71 + s) (w + 2)) ((congrFun (congrFun (congrArg Prod.fst hkeep.1) _) _)) ?_
                      refine mw_top (y := σ.2.1 (71 + s) (a1.toInt.toNat + 3 * k + 2)) (by rw [hwq]) ?_
                      refine mw_cVi (As := [.int (σ.2.1 (71 + s) (a1.toInt.toNat + 3 * k)), .int (σ.2.1 (71 + s) (a1.toInt.toNat + 3 * k + 1)), .int (σ.2.1 (71 + s) (a1.toInt.toNat + 3 * k + 2))]) (rest := []) C Z hP hS (30) (cX_customer l E ςa (n + xs.length) hnk hx8 (σ.2.1 (71 + s) (a1.toInt.toNat + 3 * k)) (σ.2.1 (71 + s) (a1.toInt.toNat + 3 * k + 1)) (σ.2.1 (71 + s) (a1.toInt.toNat + 3 * k + 2))) vb_X11_customer tw_4_145 ⟨rfl, rfl⟩ ⟨Nat.le_of_ble_eq_true rfl, Nat.le_of_ble_eq_true rfl⟩ (by decide) sx_30 rfl rfl rfl hl.1 rfl (Nat.le_of_ble_eq_true rfl) dX11_customers_128 ⟨Nat.zero_le _, Nat.zero_le _⟩ (fun r44 u45 H locs q46 hP hS => ?_)
                      by_cases hok : cusOK (σ.2.1 (71 + s) (a1.toInt.toNat + 3 * k)) (σ.2.1 (71 + s) (a1.toInt.toNat + 3 * k + 1)) (σ.2.1 (71 + s) (a1.toInt.toNat + 3 * k + 2)) ∧ n + xs.length < 8
                      · obtain ⟨z47, z48⟩ := q46.2.2 hok
                        subst z47
                        refine lv_if_lt (tgt := 137) C.1 C.2.1 dX11_customers_131 (by decide) (fun c50 => ?_) (fun c50 => ?_)
                        · exact absurd c50 (nI_pos (by omega))
                        · refine lv_iinc (v := nI (xs ++ [((σ.2.1 (71 + s)) (a1.toInt.toNat + 3 * k), (σ.2.1 (71 + s)) (a1.toInt.toNat + 3 * k + 1), (σ.2.1 (71 + s)) (a1.toInt.toNat + 3 * k + 2))]).length) (lv' := [(6, .int (nI (xs ++ [((σ.2.1 (71 + s)) (a1.toInt.toNat + 3 * k), (σ.2.1 (71 + s)) (a1.toInt.toNat + 3 * k + 1), (σ.2.1 (71 + s)) (a1.toInt.toNat + 3 * k + 2))]).length)), (0, .ref (mw_a E 30)), (1, .int (nI s)), (2, .int so), (3, .int a1), (4, .int (nI mm)), (5, .ref (mw_a E (67 + s))), (7, .int (nI w)), (8, .int (nI k))]) C.1 C.2.1 dX11_customers_134 hl (k := 6) rfl (by rw [List.length_append]; exact nI_1 _) (by decide) rfl (fun ls hl => ?_)
                          refine lv_iinc (v := nI w + 3) (lv' := [(7, .int (nI w + 3)), (6, .int (nI (xs ++ [((σ.2.1 (71 + s)) (a1.toInt.toNat + 3 * k), (σ.2.1 (71 + s)) (a1.toInt.toNat + 3 * k + 1), (σ.2.1 (71 + s)) (a1.toInt.toNat + 3 * k + 2))]).length)), (0, .ref (mw_a E 30)), (1, .int (nI s)), (2, .int so), (3, .int a1), (4, .int (nI mm)), (5, .ref (mw_a E (67 + s))), (8, .int (nI k))]) C.1 C.2.1 dX11_customers_137 hl (k := 7) rfl (rfl) (by decide) rfl (fun ls hl => ?_)
                          refine lv_iinc (v := nI (k + 1)) (lv' := [(8, .int (nI (k + 1))), (7, .int (nI w + 3)), (6, .int (nI (xs ++ [((σ.2.1 (71 + s)) (a1.toInt.toNat + 3 * k), (σ.2.1 (71 + s)) (a1.toInt.toNat + 3 * k + 1), (σ.2.1 (71 + s)) (a1.toInt.toNat + 3 * k + 2))]).length)), (0, .ref (mw_a E 30)), (1, .int (nI s)), (2, .int so), (3, .int a1), (4, .int (nI mm)), (5, .ref (mw_a E (67 + s)))]) C.1 C.2.1 dX11_customers_140 hl (k := 8) rfl (nI_1 _) (by decide) rfl (fun ls hl => ?_)
                          refine lv_goto (tgt := 78) C.1 C.2.1 dX11_customers_143 (by decide) ?_
                          exact iha (k + 1) (xs ++ [((σ.2.1 (71 + s)) (a1.toInt.toNat + 3 * k), (σ.2.1 (71 + s)) (a1.toInt.toNat + 3 * k + 1), (σ.2.1 (71 + s)) (a1.toInt.toNat + 3 * k + 2))]) (nI w + 3) u45 _ _ (by omega) (by omega) (by rw [List.length_append]; show n + (xs.length + 1) ≤ 8; have := hok.2; omega) (by rw [eL, show mm - k = (mm - (k + 1)) + 1 by omega, cuL_s hrng]; rw [if_pos hok]; show (xs ++ _ :: _, _) = ((xs ++ [_]) ++ _, _); rw [List.append_assoc, List.length_append]; rfl) (by rw [show nI w + 3 = nI (w + 3) from nI_add w 3, nI_toInt (by omega)]; omega) (Or.inr hrng.1) (by rw [z48, fra, xcuMs_app]; rfl) hP hS ls (lv_sub hl [3, 4, 5, 6, 7, 8, 2, 1, 0] rfl)
                      · have z47 : (r44 = -2 ∨ r44 = -4) ∧ u45 = ςa := by
                          by_cases h1 : cusOK (σ.2.1 (71 + s) (a1.toInt.toNat + 3 * k)) (σ.2.1 (71 + s) (a1.toInt.toNat + 3 * k + 1)) (σ.2.1 (71 + s) (a1.toInt.toNat + 3 * k + 2))
                          · exact ⟨Or.inr (q46.2.1 ⟨h1, by have : ¬ n + xs.length < 8 := fun y => hok ⟨h1, y⟩; omega⟩).1, (q46.2.1 ⟨h1, by have : ¬ n + xs.length < 8 := fun y => hok ⟨h1, y⟩; omega⟩).2⟩
                          · exact ⟨Or.inl (q46.1 h1).1, (q46.1 h1).2⟩
                        refine lv_if_lt (tgt := 137) C.1 C.2.1 dX11_customers_131 (by decide) (fun c51 => ?_) (fun c51 => ?_)
                        · refine lv_iinc (v := nI w + 3) (lv' := [(7, .int (nI w + 3)), (0, .ref (mw_a E 30)), (1, .int (nI s)), (2, .int so), (3, .int a1), (4, .int (nI mm)), (5, .ref (mw_a E (67 + s))), (6, .int (nI xs.length)), (8, .int (nI k))]) C.1 C.2.1 dX11_customers_137 hl (k := 7) rfl (rfl) (by decide) rfl (fun ls hl => ?_)
                          refine lv_iinc (v := nI (k + 1)) (lv' := [(8, .int (nI (k + 1))), (7, .int (nI w + 3)), (0, .ref (mw_a E 30)), (1, .int (nI s)), (2, .int so), (3, .int a1), (4, .int (nI mm)), (5, .ref (mw_a E (67 + s))), (6, .int (nI xs.length))]) C.1 C.2.1 dX11_customers_140 hl (k := 8) rfl (nI_1 _) (by decide) rfl (fun ls hl => ?_)
                          refine lv_goto (tgt := 78) C.1 C.2.1 dX11_customers_143 (by decide) ?_
                          exact iha (k + 1) xs (nI w + 3) u45 _ _ (by omega) (by omega) (hx8) (by rw [eL, show mm - k = (mm - (k + 1)) + 1 by omega, cuL_s hrng]; rw [if_neg hok]) (by rw [show nI w + 3 = nI (w + 3) from nI_add w 3, nI_toInt (by omega)]; omega) (Or.inr hrng.1) (z47.2.trans fra) hP hS ls (lv_sub hl [2, 3, 4, 5, 6, 7, 8, 1, 0] rfl)
                        · rcases z47.1 with h | h <;> (rw [h] at c51; exact absurd (by decide) c51)
                    · have c43 := bI_0.mp c43
                      refine lv_bipush (v := -12) C.1 C.2.1 dX11_customers_96 (by decide) ?_
                      have e : custR σ n (nI s) so a1 (nI mm) = (cuR (cuL (σ.2.1 (71 + s)) m a1.toInt mm 0 n), (cuL (σ.2.1 (71 + s)) m a1.toInt mm 0 n).1) := by unfold custR; rw [if_neg hgood, es, emm, if_neg hso, if_neg hth, hm, nI_clamp (n := m) (by omega)]
                      have e2 : cuL (σ.2.1 (71 + s)) m a1.toInt mm 0 n = (xs, false) := by rw [eL, show mm - k = (mm - (k + 1)) + 1 by omega, cuL_x (fun y => c43 (by have : (3 : Int32).toInt = 3 := rfl; omega)), List.append_nil]
                      exact mw_iret C hr hlk Z hP hS dX11_customers_98 (⟨by rw [e, e2]; rfl, by rw [e, e2]; exact fra⟩)
              exact lpa (mm + 1) 0 ([]) a1 σ _ _ (by omega) (by omega) (by show n + 0 ≤ 8; omega) (by rw [Nat.sub_zero]; rfl) (by omega) (Or.inl rfl) rfl hP hS ls (lv_sub hl [4, 5, 6, 7, 8, 3, 2, 1, 0] rfl)
            · have c38 := bI_n.mp c38
              refine lv_bipush (v := -11) C.1 C.2.1 dX11_customers_66 (by decide) ?_
              have e : custR σ n (nI s) so a1 (nI mm) = (-11, []) := by unfold custR; rw [if_neg hgood, es, if_neg (fun y => y.1 c38), if_pos c38]
              exact mw_iret C hr hlk Z hP hS dX11_customers_68 (⟨by rw [e], by rw [e]; rfl⟩)
          · refine lv_bipush (v := -13) C.1 C.2.1 dX11_customers_55 (by decide) ?_
            have e : custR σ n (nI s) so a1 (nI mm) = (-13, []) := by unfold custR; rw [if_neg hgood, es, if_pos ⟨c16, c34⟩]
            exact mw_iret C hr hlk Z hP hS dX11_customers_57 (⟨by rw [e], by rw [e]; rfl⟩)
      · have c12 := bI_0.mp c12
        refine lv_bipush (v := -2) C.1 C.2.1 dX11_customers_27 (by decide) ?_
        exact mw_iret C hr hlk Z hP hS dX11_customers_29 (⟨by unfold custR; rw [if_pos (Or.inr (Or.inr c12))], by unfold custR; rw [if_pos (Or.inr (Or.inr c12))]; rfl⟩)
