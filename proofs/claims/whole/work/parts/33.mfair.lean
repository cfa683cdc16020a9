/-! THE REFERENCE: FAIR, BUYS ONE -/
theorem lcF_63 (z : zP) (st : Nat → Int32) (cu : Nat → Nat → Int32) {n : Nat} (h : n ≤ 8) : lcF (tbP z st cu) n < 2 ^ 63 ∧ 0 < lcF (tbP z st cu) n := by
  refine ⟨?_, lcF_pos n (fun p _ => (tbP_rng z st cu p).1)⟩
  have h1 := lcF_le (t := tbP z st cu) n (fun p _ => tbP_rng z st cu p)
  have h2 : 99 ^ n ≤ 99 ^ 8 := Nat.pow_le_pow_right (by decide) h
  have h3 : 99 ^ 8 < 2 ^ 63 := Nat.lt_of_succ_le (Nat.le_of_ble_eq_true rfl)
  omega
theorem abF_63 (z : zP) (st : Nat → Int32) (cu : Nat → Nat → Int32) {n j : Nat} (h : n ≤ 8) (hj : j ≤ n) : abF (sbP z st cu) (tbP z st cu) (fairL z st cu n) j < 2 ^ 63 := by
  have h1 := abF_le (s := sbP z st cu) (t := tbP z st cu) (L := fairL z st cu n) j (fun p hp => ⟨sbP_rng z st cu p, lcF_quot (fun p _ => tbP_rng z st cu p) (by omega) h⟩)
  have h2 : j * (999 * 99 ^ 7) ≤ 8 * (999 * 99 ^ 7) := Nat.mul_le_mul_right _ (by omega)
  have h3 : 8 * (999 * 99 ^ 7) < 2 ^ 63 := Nat.lt_of_succ_le (Nat.le_of_ble_eq_true rfl)
  omega
def prF (t : Nat → Nat) : Nat → Nat
  | 0 => 1
  | n + 1 => prF t n * t n
def t1P (z : zP) (st : Nat → Int32) (cu : Nat → Nat → Int32) (p : Nat) : Nat := if buysP z st (cu p) then tnP z st (cu p) - 1 else 1
theorem prF_le {t : Nat → Nat} : ∀ n, (∀ p, p < n → t p ≤ 99) → prF t n ≤ 99 ^ n
  | 0, _ => Nat.le_refl _
  | n + 1, h => by
    rw [Nat.pow_succ]
    exact Nat.mul_le_mul (prF_le n (fun p hp => h p (by omega))) (h n (by omega))
theorem prF_mono {s t : Nat → Nat} : ∀ n, (∀ p, p < n → s p ≤ t p) → prF s n ≤ prF t n
  | 0, _ => Nat.le_refl _
  | n + 1, h => Nat.mul_le_mul (prF_mono n (fun p hp => h p (by omega))) (h n (by omega))
theorem prF_pos {t : Nat → Nat} : ∀ n, (∀ p, p < n → 0 < t p) → 0 < prF t n
  | 0, _ => Nat.one_pos
  | n + 1, h => Nat.mul_pos (prF_pos n (fun p hp => h p (by omega))) (h n (by omega))
theorem t1P_le (z : zP) (st : Nat → Int32) (cu : Nat → Nat → Int32) (p : Nat) : t1P z st cu p ≤ tbP z st cu p := by
  unfold t1P tbP
  split <;> omega
theorem prF_63 (z : zP) (st : Nat → Int32) (cu : Nat → Nat → Int32) {n : Nat} (h : n ≤ 8) : prF (tbP z st cu) n < 2 ^ 63 ∧ 0 < prF (tbP z st cu) n ∧ prF (t1P z st cu) n ≤ prF (tbP z st cu) n := by
  have h1 := prF_le (t := tbP z st cu) n (fun p _ => (tbP_rng z st cu p).2)
  have h2 : 99 ^ n ≤ 99 ^ 8 := Nat.pow_le_pow_right (by decide) h
  have h3 : 99 ^ 8 < 2 ^ 63 := Nat.lt_of_succ_le (Nat.le_of_ble_eq_true rfl)
  exact ⟨by omega, prF_pos n (fun p _ => (tbP_rng z st cu p).1), prF_mono n (fun p _ => t1P_le z st cu p)⟩
def oneF (z : zP) (st : Nat → Int32) (cu : Nat → Nat → Int32) (n : Nat) (w : Int32) : Int64 := if ¬ (0 ≤ w.toInt ∧ w.toInt ≤ 1) then -4611686018427387904 else if w = 0 then lN ((prF (tbP z st cu) n - prF (t1P z st cu) n) / Nat.gcd (prF (tbP z st cu) n - prF (t1P z st cu) n) (prF (tbP z st cu) n)) else lN (prF (tbP z st cu) n / Nat.gcd (prF (tbP z st cu) n - prF (t1P z st cu) n) (prF (tbP z st cu) n))
theorem tbP_t {z : zP} {st : Nat → Int32} {cu : Nat → Nat → Int32} {p : Nat} (h : buysP z st (cu p)) : tbP z st cu p = tnP z st (cu p) ∧ sbP z st cu p = snP z st (cu p) ∧ t1P z st cu p = tnP z st (cu p) - 1 := by unfold tbP sbP t1P; rw [if_pos h, if_pos h, if_pos h]; exact ⟨rfl, rfl, rfl⟩
theorem tbP_f {z : zP} {st : Nat → Int32} {cu : Nat → Nat → Int32} {p : Nat} (h : ¬ buysP z st (cu p)) : tbP z st cu p = 1 ∧ sbP z st cu p = 0 ∧ t1P z st cu p = 1 := by unfold tbP sbP t1P; rw [if_neg h, if_neg h, if_neg h]; exact ⟨rfl, rfl, rfl⟩

set_option maxHeartbeats 4000000 in
set_option maxRecDepth 100000 in
theorem cM_fair (l : Launch) (E : mw_E) (σ : mw_M) (z : zP) (n : Nat) (hn : σ.1 0 10 = nI n) (h8 : n ≤ 8) (hru : mRu σ z) (w : Int32) : mw_Cl shM 13 gM l yX12_fair cX12_fair 8 (some .long) (rmF 45 996) E [.ref (mw_a E 0), .int w] σ (fun r u => r = fairF z (mSt σ) (mCu σ) n w ∧ mFs σ u) := by
  refine mw_of (by decide) gM_ok (Nat.le_of_ble_eq_true rfl) ?_
  intro p_ e_ s_ m_ below meth c_ C hr hlk Z hP ls hl
  have C : CallFix p_ m_ c_ cX12_fair 8 s_ _ lw_good RX12 := C
  have hl : lv_has ls 8 [(0, .ref (mw_a E 0)), (1, .int w)] := hl
  have hS : va_S (mw_A 13 E) s_.heap s_.heap [] := va_S.rf
  refine lv_iload_n C.1 C.2.1 dX12_fair_0 rfl (lv_at hl 1 rfl) ?_
  refine lv_i2l C.1 C.2.1 dX12_fair_1 rfl ?_
  refine lv_lconst (v := 0) C.1 C.2.1 dX12_fair_2 (by decide) ?_
  refine lv_lconst (v := 1) C.1 C.2.1 dX12_fair_3 (by decide) ?_
  refine mw_cSi (As := [.long (w.toInt64), .long (0), .long (1)]) (rest := []) C Z hP hS (cM_in l E σ (w.toInt64) 0 1 (0 ≤ w.toInt ∧ w.toInt ≤ 1) (by first | (simp only [nl_i]; exact Iff.rfl) | (simp only [nl_i]; decide) | simp [nl_i])) sb_X12_in tw_5_33 ⟨rfl, rfl⟩ ⟨Nat.le_of_ble_eq_true rfl, Nat.le_of_ble_eq_true rfl⟩ rfl hl.1 rfl (Nat.le_of_ble_eq_true rfl) dX12_fair_4 ⟨Nat.zero_le _, Nat.zero_le _⟩ (fun r1 u2 H locs q3 hP hS => ?_)
  obtain ⟨rfl, q3u⟩ := q3
  rw [q3u] at hP; clear q3u
  refine lv_if_ne (tgt := 14) C.1 C.2.1 dX12_fair_7 (by decide) (fun c4 => ?_) (fun c4 => ?_)
  · have c4 := bI_n.mp c4
    have hrg := c4
    refine lv_lconst (v := 1) C.1 C.2.1 dX12_fair_14 (by decide) ?_
    refine lv_lstore_n (lv' := [(2, .long (1)), (0, .ref (mw_a E 0)), (1, .int w)]) C.1 C.2.1 dX12_fair_15 rfl hl (by decide) rfl (fun ls hl => ?_)
    refine lv_iconst (v := 0) C.1 C.2.1 dX12_fair_16 (by decide) ?_
    refine lv_istore (lv' := [(4, .int 0), (2, .long (1)), (0, .ref (mw_a E 0)), (1, .int w)]) C.1 C.2.1 dX12_fair_17 hl (by decide) rfl (fun ls hl => ?_)
    have lpa : ∀ (N : Nat) (j : Nat) (L : Nat) (ςa : mw_M) (H : Heap) (locs : List Loc), n + 1 ≤ j + N → (j ≤ n) → (L = lcF (tbP z (mSt σ) (mCu σ)) j) → mFs σ ςa → va_P (mw_D E) vwCl (mw_ws shM 13 E ςa) H → va_S (mw_A 13 E) s_.heap H locs → ∀ (ls : Array Slot), lv_has ls 8 [(0, .ref (mw_a E 0)), (1, .int w), (2, .long (lN L)), (4, .int (nI j))] → mWl p_ l e_ (rmF 45 996) s_ m_ [.ref (mw_a E 0), .int w] below meth c_ E (fun r u => r = fairF z (mSt σ) (mCu σ) n w ∧ mFs σ u) H locs (F0 m_ 19 ls []) := by
      intro N
      induction N with
      | zero => intros; exfalso; omega
      | succ N iha =>
        intro j L ςa H locs hNa hj eL fra hP hS ls hl
        have hL := lcF_63 z (mSt σ) (mCu σ) (n := j) (by omega)
        rw [← eL] at hL
        have hT := tnP_eq z (mSt σ) (mCu σ j)
        refine lv_iload C.1 C.2.1 dX12_fair_19 (lv_at hl 3 rfl) ?_
        refine lv_aload_n C.1 C.2.1 dX12_fair_21 rfl (lv_at hl 0 rfl) ?_
        refine mw_geti C Z hP (0) 10 (by decide) rfl rfl rfl (by decide) inX12 tw_4_174 dX12_fair_22 ?_
        refine mw_top (y := nI n) ((fra).many hn) ?_
        refine lv_icmp_ge (tgt := 69) C.1 C.2.1 dX12_fair_25 (by decide) (fun c5 => ?_) (fun c5 => ?_)
        · have c5 := (nI_leI (by omega) (by omega)).mp c5
          have eL2 : fairL z (mSt σ) (mCu σ) n = L := by rw [eL, show j = n by omega]; rfl
          have hL2 := hL
          refine lv_lconst (v := 0) C.1 C.2.1 dX12_fair_69 (by decide) ?_
          refine lv_lstore (lv' := [(4, .long (0)), (0, .ref (mw_a E 0)), (1, .int w), (2, .long (lN L))]) C.1 C.2.1 dX12_fair_70 hl (by decide) rfl (fun ls hl => ?_)
          refine lv_iconst (v := 0) C.1 C.2.1 dX12_fair_72 (by decide) ?_
          refine lv_istore (lv' := [(6, .int 0), (4, .long (0)), (0, .ref (mw_a E 0)), (1, .int w), (2, .long (lN L))]) C.1 C.2.1 dX12_fair_73 hl (by decide) rfl (fun ls hl => ?_)
          have lpb : ∀ (N : Nat) (j2 : Nat) (A : Nat) (ςb : mw_M) (H : Heap) (locs : List Loc), n + 1 ≤ j2 + N → (j2 ≤ n) → (A = abF (sbP z (mSt σ) (mCu σ)) (tbP z (mSt σ) (mCu σ)) L j2) → mFs σ ςb → va_P (mw_D E) vwCl (mw_ws shM 13 E ςb) H → va_S (mw_A 13 E) s_.heap H locs → ∀ (ls : Array Slot), lv_has ls 8 [(0, .ref (mw_a E 0)), (1, .int w), (2, .long (lN L)), (4, .long (lN A)), (6, .int (nI j2))] → mWl p_ l e_ (rmF 45 996) s_ m_ [.ref (mw_a E 0), .int w] below meth c_ E (fun r u => r = fairF z (mSt σ) (mCu σ) n w ∧ mFs σ u) H locs (F0 m_ 75 ls []) := by
            intro N
            induction N with
            | zero => intros; exfalso; omega
            | succ N ihb =>
              intro j2 A ςb H locs hNb hj2 eA frb hP hS ls hl
              have hT2 := tnP_eq z (mSt σ) (mCu σ j2)
              have hU2 := snP_eq z (mSt σ) (mCu σ j2)
              refine lv_iload C.1 C.2.1 dX12_fair_75 (lv_at hl 4 rfl) ?_
              refine lv_aload_n C.1 C.2.1 dX12_fair_77 rfl (lv_at hl 0 rfl) ?_
              refine mw_geti C Z hP (0) 10 (by decide) rfl rfl rfl (by decide) inX12 tw_4_174 dX12_fair_78 ?_
              refine mw_top (y := nI n) ((frb).many hn) ?_
              refine lv_icmp_ge (tgt := 125) C.1 C.2.1 dX12_fair_81 (by decide) (fun c6 => ?_) (fun c6 => ?_)
              · have c6 := (nI_leI (by omega) (by omega)).mp c6
                have eA2 : fairA z (mSt σ) (mCu σ) n = A := by rw [eA, ← eL2, show j2 = n by omega]; rfl
                have hA : A < 2 ^ 63 := by rw [eA, ← eL2]; exact abF_63 z (mSt σ) (mCu σ) h8 hj2
                have hgp := Nat.gcd_pos_of_pos_right A hL2.2
                have hgl := Nat.gcd_le_right A hL2.2
                have hgne : ¬ lN (Nat.gcd A L) = 0 := fun y => by have y := (pk_lEQ (b := 0) (by omega) (by decide)).mp y; omega
                refine lv_lload C.1 C.2.1 dX12_fair_125 (lv_at hl 3 rfl) ?_
                refine lv_lload_n C.1 C.2.1 dX12_fair_127 rfl (lv_at hl 2 rfl) ?_
                refine mw_cSl (As := [.long (lN A), .long (lN L)]) (rest := []) C Z hP hS (cM_common l E ςb A L hA hL2.1) sb_X12_common tw_6_83 ⟨rfl, rfl⟩ ⟨Nat.le_of_ble_eq_true rfl, Nat.le_of_ble_eq_true rfl⟩ rfl hl.1 rfl (Nat.le_of_ble_eq_true rfl) dX12_fair_128 ⟨Nat.zero_le _, Nat.zero_le _⟩ (fun r7 u8 H locs q9 hP hS => ?_)
                obtain ⟨rfl, f10⟩ := q9
                refine lv_lstore (lv' := [(6, .long (lN (Nat.gcd A L))), (0, .ref (mw_a E 0)), (1, .int w), (2, .long (lN L)), (4, .long (lN A))]) C.1 C.2.1 dX12_fair_131 hl (by decide) rfl (fun ls hl => ?_)
                refine lv_iload_n C.1 C.2.1 dX12_fair_133 rfl (lv_at hl 2 rfl) ?_
                refine lv_if_ne (tgt := 145) C.1 C.2.1 dX12_fair_134 (by decide) (fun c11 => ?_) (fun c11 => ?_)
                · refine lv_lload_n C.1 C.2.1 dX12_fair_145 rfl (lv_at hl 3 rfl) ?_
                  refine lv_lload C.1 C.2.1 dX12_fair_146 (lv_at hl 0 rfl) ?_
                  refine lv_ldiv C.1 C.2.1 dX12_fair_148 hgne ?_
                  refine mw_topl (y := lN (L / Nat.gcd A L)) (pk_lDiv hL2.1 hgp (by omega)) ?_
                  exact mw_lret C hr hlk Z hP hS dX12_fair_149 (⟨by unfold fairF; rw [if_neg (Decidable.not_not.mpr hrg), if_neg c11, eA2, eL2], (frb.tr f10)⟩)
                · refine lv_lload C.1 C.2.1 dX12_fair_137 (lv_at hl 4 rfl) ?_
                  refine lv_lload C.1 C.2.1 dX12_fair_139 (lv_at hl 0 rfl) ?_
                  refine lv_ldiv C.1 C.2.1 dX12_fair_141 hgne ?_
                  refine mw_topl (y := lN (A / Nat.gcd A L)) (pk_lDiv hA hgp (by omega)) ?_
                  refine lv_goto (tgt := 149) C.1 C.2.1 dX12_fair_142 (by decide) ?_
                  exact mw_lret C hr hlk Z hP hS dX12_fair_149 (⟨by unfold fairF; rw [if_neg (Decidable.not_not.mpr hrg), if_pos c11, eA2, eL2], (frb.tr f10)⟩)
              · have c6 : _ := (not_congr (nI_leI (by omega) (by omega))).mp c6
                refine lv_lload C.1 C.2.1 dX12_fair_84 (lv_at hl 3 rfl) ?_
                refine lv_aload_n C.1 C.2.1 dX12_fair_86 rfl (lv_at hl 0 rfl) ?_
                refine lv_iload C.1 C.2.1 dX12_fair_87 (lv_at hl 4 rfl) ?_
                refine mw_cVi (As := [.int (nI j2)]) (rest := [.long (lN A)]) C Z hP hS (0) (cM_buys2 l E ςb z j2 (by omega) (frb.ru hru)) vb_X12_buys tw_6_79 ⟨rfl, rfl⟩ ⟨Nat.le_of_ble_eq_true rfl, Nat.le_of_ble_eq_true rfl⟩ (by decide) rfl rfl rfl rfl hl.1 rfl (Nat.le_of_ble_eq_true rfl) dX12_fair_89 ⟨Nat.zero_le _, Nat.zero_le _⟩ (fun r12 u13 H locs q14 hP hS => ?_)
                obtain ⟨e16, f15⟩ := q14
                rw [frb.st, frb.cu] at e16
                subst e16
                refine lv_if_eq (tgt := 115) C.1 C.2.1 dX12_fair_92 (by decide) (fun c17 => ?_) (fun c17 => ?_)
                · have c17 := bI_0.mp c17
                  refine lv_lconst (v := 0) C.1 C.2.1 dX12_fair_115 (by decide) ?_
                  refine lv_ladd C.1 C.2.1 dX12_fair_116 ?_
                  refine mw_topl (y := lN (A + 0)) (lN_add A 0) ?_
                  refine lv_lstore (lv' := [(4, .long (lN (A + 0))), (0, .ref (mw_a E 0)), (1, .int w), (2, .long (lN L)), (6, .int (nI j2))]) C.1 C.2.1 dX12_fair_117 hl (by decide) rfl (fun ls hl => ?_)
                  refine lv_iinc (v := nI (j2 + 1)) (lv' := [(6, .int (nI (j2 + 1))), (4, .long (lN (A + 0))), (0, .ref (mw_a E 0)), (1, .int w), (2, .long (lN L))]) C.1 C.2.1 dX12_fair_119 hl (k := 4) rfl (nI_1 _) (by decide) rfl (fun ls hl => ?_)
                  refine lv_goto (tgt := 75) C.1 C.2.1 dX12_fair_122 (by decide) ?_
                  exact ihb (j2 + 1) (A + 0) u13 _ _ (by omega) (by omega) (by rw [eA]; show _ = _ + sbP z (mSt σ) (mCu σ) j2 * (L / tbP z (mSt σ) (mCu σ) j2); rw [(tbP_f c17).2.1, Nat.zero_mul]) (frb.tr f15) hP hS ls (lv_sub hl [2, 3, 4, 1, 0] rfl)
                · have c17 := bI_n.mp c17
                  have hTp := buysP_pos c17
                  refine lv_aload_n C.1 C.2.1 dX12_fair_95 rfl (lv_at hl 0 rfl) ?_
                  refine lv_iload C.1 C.2.1 dX12_fair_96 (lv_at hl 4 rfl) ?_
                  refine mw_cVi (As := [.int (nI j2)]) (rest := [.long (lN A)]) C Z hP hS (0) (cM_spendsOf l E u13 z j2 (by omega) ((frb.tr f15).ru hru)) vb_X12_spendsOf tw_6_18 ⟨rfl, rfl⟩ ⟨Nat.le_of_ble_eq_true rfl, Nat.le_of_ble_eq_true rfl⟩ (by decide) rfl rfl rfl rfl hl.1 rfl (Nat.le_of_ble_eq_true rfl) dX12_fair_98 ⟨Nat.zero_le _, Nat.zero_le _⟩ (fun r18 u19 H locs q20 hP hS => ?_)
                  obtain ⟨e22, f21⟩ := q20
                  rw [(frb.tr f15).st, (frb.tr f15).cu] at e22
                  subst e22
                  refine mw_top (y := nI (snP z (mSt σ) (mCu σ j2))) ((snP_eq _ _ _).1) ?_
                  refine lv_i2l C.1 C.2.1 dX12_fair_101 rfl ?_
                  refine mw_topl (y := lN (snP z (mSt σ) (mCu σ j2))) (nI_l (by omega)) ?_
                  refine lv_lload_n C.1 C.2.1 dX12_fair_102 rfl (lv_at hl 2 rfl) ?_
                  refine lv_aload_n C.1 C.2.1 dX12_fair_103 rfl (lv_at hl 0 rfl) ?_
                  refine lv_iload C.1 C.2.1 dX12_fair_104 (lv_at hl 4 rfl) ?_
                  refine mw_cVi (As := [.int (nI j2)]) (rest := [.long (lN L), .long (lN (snP z (mSt σ) (mCu σ j2))), .long (lN A)]) C Z hP hS (0) (cM_triesOf l E u19 z j2 (by omega) (((frb.tr f15).tr f21).ru hru)) vb_X12_triesOf tw_6_14 ⟨rfl, rfl⟩ ⟨Nat.le_of_ble_eq_true rfl, Nat.le_of_ble_eq_true rfl⟩ (by decide) rfl rfl rfl rfl hl.1 rfl (Nat.le_of_ble_eq_true rfl) dX12_fair_106 ⟨Nat.zero_le _, Nat.zero_le _⟩ (fun r23 u24 H locs q25 hP hS => ?_)
                  obtain ⟨e27, f26⟩ := q25
                  rw [((frb.tr f15).tr f21).st, ((frb.tr f15).tr f21).cu] at e27
                  subst e27
                  refine mw_top (y := nI (tnP z (mSt σ) (mCu σ j2))) ((tnP_eq _ _ _).1) ?_
                  refine lv_i2l C.1 C.2.1 dX12_fair_109 rfl ?_
                  refine mw_topl (y := lN (tnP z (mSt σ) (mCu σ j2))) (nI_l (by omega)) ?_
                  refine lv_ldiv C.1 C.2.1 dX12_fair_110 (fun y => by have y := (pk_lEQ (b := 0) (by omega) (by decide)).mp y; omega) ?_
                  refine mw_topl (y := lN (L / tnP z (mSt σ) (mCu σ j2))) (pk_lDiv hL2.1 hTp (by omega)) ?_
                  refine lv_lmul C.1 C.2.1 dX12_fair_111 ?_
                  refine mw_topl (y := lN (snP z (mSt σ) (mCu σ j2) * (L / tnP z (mSt σ) (mCu σ j2)))) (lN_mul _ _) ?_
                  refine lv_goto (tgt := 116) C.1 C.2.1 dX12_fair_112 (by decide) ?_
                  refine lv_ladd C.1 C.2.1 dX12_fair_116 ?_
                  refine mw_topl (y := lN (A + snP z (mSt σ) (mCu σ j2) * (L / tnP z (mSt σ) (mCu σ j2)))) (lN_add _ _) ?_
                  refine lv_lstore (lv' := [(4, .long (lN (A + snP z (mSt σ) (mCu σ j2) * (L / tnP z (mSt σ) (mCu σ j2))))), (0, .ref (mw_a E 0)), (1, .int w), (2, .long (lN L)), (6, .int (nI j2))]) C.1 C.2.1 dX12_fair_117 hl (by decide) rfl (fun ls hl => ?_)
                  refine lv_iinc (v := nI (j2 + 1)) (lv' := [(6, .int (nI (j2 + 1))), (4, .long (lN (A + snP z (mSt σ) (mCu σ j2) * (L / tnP z (mSt σ) (mCu σ j2))))), (0, .ref (mw_a E 0)), (1, .int w), (2, .long (lN L))]) C.1 C.2.1 dX12_fair_119 hl (k := 4) rfl (nI_1 _) (by decide) rfl (fun ls hl => ?_)
                  refine lv_goto (tgt := 75) C.1 C.2.1 dX12_fair_122 (by decide) ?_
                  exact ihb (j2 + 1) (A + snP z (mSt σ) (mCu σ j2) * (L / tnP z (mSt σ) (mCu σ j2))) u24 _ _ (by omega) (by omega) (by rw [eA]; show _ = _ + sbP z (mSt σ) (mCu σ) j2 * (L / tbP z (mSt σ) (mCu σ) j2); rw [(tbP_t c17).1, (tbP_t c17).2.1]) (((frb.tr f15).tr f21).tr f26) hP hS ls (lv_sub hl [2, 3, 4, 1, 0] rfl)
          exact lpb (n + 1) 0 0 ςa _ _ (by omega) (by omega) (rfl) fra hP hS ls (lv_sub hl [2, 3, 4, 1, 0] rfl)
        · have c5 : _ := (not_congr (nI_leI (by omega) (by omega))).mp c5
          refine lv_lload_n C.1 C.2.1 dX12_fair_28 rfl (lv_at hl 2 rfl) ?_
          refine lv_aload_n C.1 C.2.1 dX12_fair_29 rfl (lv_at hl 0 rfl) ?_
          refine lv_iload C.1 C.2.1 dX12_fair_30 (lv_at hl 3 rfl) ?_
          refine mw_cVi (As := [.int (nI j)]) (rest := [.long (lN L)]) C Z hP hS (0) (cM_buys2 l E ςa z j (by omega) (fra.ru hru)) vb_X12_buys tw_6_79 ⟨rfl, rfl⟩ ⟨Nat.le_of_ble_eq_true rfl, Nat.le_of_ble_eq_true rfl⟩ (by decide) rfl rfl rfl rfl hl.1 rfl (Nat.le_of_ble_eq_true rfl) dX12_fair_32 ⟨Nat.zero_le _, Nat.zero_le _⟩ (fun r28 u29 H locs q30 hP hS => ?_)
          obtain ⟨e32, f31⟩ := q30
          rw [fra.st, fra.cu] at e32
          subst e32
          refine lv_if_eq (tgt := 60) C.1 C.2.1 dX12_fair_35 (by decide) (fun c33 => ?_) (fun c33 => ?_)
          · have c33 := bI_0.mp c33
            refine lv_lconst (v := 1) C.1 C.2.1 dX12_fair_60 (by decide) ?_
            refine lv_lmul C.1 C.2.1 dX12_fair_61 ?_
            refine mw_topl (y := lN (L * 1)) (lN_mul L 1) ?_
            refine lv_lstore_n (lv' := [(2, .long (lN (L * 1))), (0, .ref (mw_a E 0)), (1, .int w), (4, .int (nI j))]) C.1 C.2.1 dX12_fair_62 rfl hl (by decide) rfl (fun ls hl => ?_)
            refine lv_iinc (v := nI (j + 1)) (lv' := [(4, .int (nI (j + 1))), (2, .long (lN (L * 1))), (0, .ref (mw_a E 0)), (1, .int w)]) C.1 C.2.1 dX12_fair_63 hl (k := 3) rfl (nI_1 _) (by decide) rfl (fun ls hl => ?_)
            refine lv_goto (tgt := 19) C.1 C.2.1 dX12_fair_66 (by decide) ?_
            exact iha (j + 1) (L * 1) u29 _ _ (by omega) (by omega) (by rw [eL]; show _ = lcF (tbP z (mSt σ) (mCu σ)) j * (tbP z (mSt σ) (mCu σ) j / _); rw [(tbP_f c33).1, Nat.gcd_one_right]) (fra.tr f31) hP hS ls (lv_sub hl [2, 3, 1, 0] rfl)
          · have c33 := bI_n.mp c33
            refine lv_aload_n C.1 C.2.1 dX12_fair_38 rfl (lv_at hl 0 rfl) ?_
            refine lv_iload C.1 C.2.1 dX12_fair_39 (lv_at hl 3 rfl) ?_
            refine mw_cVi (As := [.int (nI j)]) (rest := [.long (lN L)]) C Z hP hS (0) (cM_triesOf l E u29 z j (by omega) ((fra.tr f31).ru hru)) vb_X12_triesOf tw_6_14 ⟨rfl, rfl⟩ ⟨Nat.le_of_ble_eq_true rfl, Nat.le_of_ble_eq_true rfl⟩ (by decide) rfl rfl rfl rfl hl.1 rfl (Nat.le_of_ble_eq_true rfl) dX12_fair_41 ⟨Nat.zero_le _, Nat.zero_le _⟩ (fun r34 u35 H locs q36 hP hS => ?_)
            obtain ⟨e38, f37⟩ := q36
            rw [(fra.tr f31).st, (fra.tr f31).cu] at e38
            subst e38
            refine mw_top (y := nI (tnP z (mSt σ) (mCu σ j))) ((tnP_eq _ _ _).1) ?_
            refine lv_i2l C.1 C.2.1 dX12_fair_44 rfl ?_
            refine mw_topl (y := lN (tnP z (mSt σ) (mCu σ j))) (nI_l (by omega)) ?_
            refine lv_lload_n C.1 C.2.1 dX12_fair_45 rfl (lv_at hl 2 rfl) ?_
            refine lv_aload_n C.1 C.2.1 dX12_fair_46 rfl (lv_at hl 0 rfl) ?_
            refine lv_iload C.1 C.2.1 dX12_fair_47 (lv_at hl 3 rfl) ?_
            refine mw_cVi (As := [.int (nI j)]) (rest := [.long (lN L), .long (lN (tnP z (mSt σ) (mCu σ j))), .long (lN L)]) C Z hP hS (0) (cM_triesOf l E u35 z j (by omega) (((fra.tr f31).tr f37).ru hru)) vb_X12_triesOf tw_6_14 ⟨rfl, rfl⟩ ⟨Nat.le_of_ble_eq_true rfl, Nat.le_of_ble_eq_true rfl⟩ (by decide) rfl rfl rfl rfl hl.1 rfl (Nat.le_of_ble_eq_true rfl) dX12_fair_49 ⟨Nat.zero_le _, Nat.zero_le _⟩ (fun r39 u40 H locs q41 hP hS => ?_)
            obtain ⟨e43, f42⟩ := q41
            rw [((fra.tr f31).tr f37).st, ((fra.tr f31).tr f37).cu] at e43
            subst e43
            refine mw_top (y := nI (tnP z (mSt σ) (mCu σ j))) ((tnP_eq _ _ _).1) ?_
            refine lv_i2l C.1 C.2.1 dX12_fair_52 rfl ?_
            refine mw_topl (y := lN (tnP z (mSt σ) (mCu σ j))) (nI_l (by omega)) ?_
            refine mw_cSl (As := [.long (lN L), .long (lN (tnP z (mSt σ) (mCu σ j)))]) (rest := [.long (lN (tnP z (mSt σ) (mCu σ j))), .long (lN L)]) C Z hP hS (cM_common l E u40 L (tnP z (mSt σ) (mCu σ j)) hL.1 (by omega)) sb_X12_common tw_6_83 ⟨rfl, rfl⟩ ⟨Nat.le_of_ble_eq_true rfl, Nat.le_of_ble_eq_true rfl⟩ rfl hl.1 rfl (Nat.le_of_ble_eq_true rfl) dX12_fair_53 ⟨Nat.zero_le _, Nat.zero_le _⟩ (fun r44 u45 H locs q46 hP hS => ?_)
            obtain ⟨rfl, f47⟩ := q46
            refine lv_ldiv C.1 C.2.1 dX12_fair_56 (fun y => by have y := (pk_lEQ (b := 0) (by have := Nat.gcd_le_left (tnP z (mSt σ) (mCu σ j)) hL.2; omega) (by decide)).mp y; have := Nat.gcd_pos_of_pos_left (tnP z (mSt σ) (mCu σ j)) hL.2; omega) ?_
            refine mw_topl (y := lN (tnP z (mSt σ) (mCu σ j) / Nat.gcd L (tnP z (mSt σ) (mCu σ j)))) (pk_lDiv (by omega) (Nat.gcd_pos_of_pos_left _ hL.2) (by have := Nat.gcd_le_left (tnP z (mSt σ) (mCu σ j)) hL.2; omega)) ?_
            refine lv_goto (tgt := 61) C.1 C.2.1 dX12_fair_57 (by decide) ?_
            refine lv_lmul C.1 C.2.1 dX12_fair_61 ?_
            refine mw_topl (y := lN (L * (tnP z (mSt σ) (mCu σ j) / Nat.gcd L (tnP z (mSt σ) (mCu σ j))))) (lN_mul _ _) ?_
            refine lv_lstore_n (lv' := [(2, .long (lN (L * (tnP z (mSt σ) (mCu σ j) / Nat.gcd L (tnP z (mSt σ) (mCu σ j)))))), (0, .ref (mw_a E 0)), (1, .int w), (4, .int (nI j))]) C.1 C.2.1 dX12_fair_62 rfl hl (by decide) rfl (fun ls hl => ?_)
            refine lv_iinc (v := nI (j + 1)) (lv' := [(4, .int (nI (j + 1))), (2, .long (lN (L * (tnP z (mSt σ) (mCu σ j) / Nat.gcd L (tnP z (mSt σ) (mCu σ j)))))), (0, .ref (mw_a E 0)), (1, .int w)]) C.1 C.2.1 dX12_fair_63 hl (k := 3) rfl (nI_1 _) (by decide) rfl (fun ls hl => ?_)
            refine lv_goto (tgt := 19) C.1 C.2.1 dX12_fair_66 (by decide) ?_
            exact iha (j + 1) (L * (tnP z (mSt σ) (mCu σ j) / Nat.gcd L (tnP z (mSt σ) (mCu σ j)))) u45 _ _ (by omega) (by omega) (by rw [eL]; show _ = lcF (tbP z (mSt σ) (mCu σ)) j * (tbP z (mSt σ) (mCu σ) j / _); rw [(tbP_t c33).1]) ((((fra.tr f31).tr f37).tr f42).tr f47) hP hS ls (lv_sub hl [2, 3, 1, 0] rfl)
    exact lpa (n + 1) 0 1 σ _ _ (by omega) (by omega) (rfl) (mFs.rf σ) hP hS ls (lv_sub hl [2, 3, 1, 0] rfl)
  · have c4 := bI_0.mp c4
    refine lv_ldc2 (own := RX12) C.1 C.2.1 C.2.2.2.1 (C.2.2.2.2 _ tw_6_78) dX12_fair_10 ?_
    exact mw_lret C hr hlk Z hP hS dX12_fair_13 (⟨by unfold fairF; rw [if_pos c4], (mFs.rf σ)⟩)

set_option maxHeartbeats 4000000 in
set_option maxRecDepth 100000 in
theorem cM_buysOne (l : Launch) (E : mw_E) (σ : mw_M) (z : zP) (n : Nat) (hn : σ.1 0 10 = nI n) (h8 : n ≤ 8) (hru : mRu σ z) (w : Int32) : mw_Cl shM 13 gM l yX12_buysOne cX12_buysOne 8 (some .long) (rmF 45 996) E [.ref (mw_a E 0), .int w] σ (fun r u => r = oneF z (mSt σ) (mCu σ) n w ∧ mFs σ u) := by
  refine mw_of (by decide) gM_ok (Nat.le_of_ble_eq_true rfl) ?_
  intro p_ e_ s_ m_ below meth c_ C hr hlk Z hP ls hl
  have C : CallFix p_ m_ c_ cX12_buysOne 8 s_ _ lw_good RX12 := C
  have hl : lv_has ls 8 [(0, .ref (mw_a E 0)), (1, .int w)] := hl
  have hS : va_S (mw_A 13 E) s_.heap s_.heap [] := va_S.rf
  refine lv_iload_n C.1 C.2.1 dX12_buysOne_0 rfl (lv_at hl 1 rfl) ?_
  refine lv_i2l C.1 C.2.1 dX12_buysOne_1 rfl ?_
  refine lv_lconst (v := 0) C.1 C.2.1 dX12_buysOne_2 (by decide) ?_
  refine lv_lconst (v := 1) C.1 C.2.1 dX12_buysOne_3 (by decide) ?_
  refine mw_cSi (As := [.long (w.toInt64), .long (0), .long (1)]) (rest := []) C Z hP hS (cM_in l E σ (w.toInt64) 0 1 (0 ≤ w.toInt ∧ w.toInt ≤ 1) (by first | (simp only [nl_i]; exact Iff.rfl) | (simp only [nl_i]; decide) | simp [nl_i])) sb_X12_in tw_5_33 ⟨rfl, rfl⟩ ⟨Nat.le_of_ble_eq_true rfl, Nat.le_of_ble_eq_true rfl⟩ rfl hl.1 rfl (Nat.le_of_ble_eq_true rfl) dX12_buysOne_4 ⟨Nat.zero_le _, Nat.zero_le _⟩ (fun r1 u2 H locs q3 hP hS => ?_)
  obtain ⟨rfl, q3u⟩ := q3
  rw [q3u] at hP; clear q3u
  refine lv_if_ne (tgt := 14) C.1 C.2.1 dX12_buysOne_7 (by decide) (fun c4 => ?_) (fun c4 => ?_)
  · have c4 := bI_n.mp c4
    have hrg := c4
    refine lv_lconst (v := 1) C.1 C.2.1 dX12_buysOne_14 (by decide) ?_
    refine lv_lstore_n (lv' := [(2, .long (1)), (0, .ref (mw_a E 0)), (1, .int w)]) C.1 C.2.1 dX12_buysOne_15 rfl hl (by decide) rfl (fun ls hl => ?_)
    refine lv_lconst (v := 1) C.1 C.2.1 dX12_buysOne_16 (by decide) ?_
    refine lv_lstore (lv' := [(4, .long (1)), (2, .long (1)), (0, .ref (mw_a E 0)), (1, .int w)]) C.1 C.2.1 dX12_buysOne_17 hl (by decide) rfl (fun ls hl => ?_)
    refine lv_iconst (v := 0) C.1 C.2.1 dX12_buysOne_19 (by decide) ?_
    refine lv_istore (lv' := [(6, .int 0), (4, .long (1)), (2, .long (1)), (0, .ref (mw_a E 0)), (1, .int w)]) C.1 C.2.1 dX12_buysOne_20 hl (by decide) rfl (fun ls hl => ?_)
    have lpa : ∀ (N : Nat) (j : Nat) (B : Nat) (D : Nat) (ςa : mw_M) (H : Heap) (locs : List Loc), n + 1 ≤ j + N → (j ≤ n) → (B = prF (tbP z (mSt σ) (mCu σ)) j) → (D = prF (t1P z (mSt σ) (mCu σ)) j) → mFs σ ςa → va_P (mw_D E) vwCl (mw_ws shM 13 E ςa) H → va_S (mw_A 13 E) s_.heap H locs → ∀ (ls : Array Slot), lv_has ls 8 [(0, .ref (mw_a E 0)), (1, .int w), (2, .long (lN B)), (4, .long (lN D)), (6, .int (nI j))] → mWl p_ l e_ (rmF 45 996) s_ m_ [.ref (mw_a E 0), .int w] below meth c_ E (fun r u => r = oneF z (mSt σ) (mCu σ) n w ∧ mFs σ u) H locs (F0 m_ 22 ls []) := by
      intro N
      induction N with
      | zero => intros; exfalso; omega
      | succ N iha =>
        intro j B D ςa H locs hNa hj eB eN fra hP hS ls hl
        have hT := tnP_eq z (mSt σ) (mCu σ j)
        refine lv_iload C.1 C.2.1 dX12_buysOne_22 (lv_at hl 4 rfl) ?_
        refine lv_aload_n C.1 C.2.1 dX12_buysOne_24 rfl (lv_at hl 0 rfl) ?_
        refine mw_geti C Z hP (0) 10 (by decide) rfl rfl rfl (by decide) inX12 tw_4_174 dX12_buysOne_25 ?_
        refine mw_top (y := nI n) ((fra).many hn) ?_
        refine lv_icmp_ge (tgt := 87) C.1 C.2.1 dX12_buysOne_28 (by decide) (fun c5 => ?_) (fun c5 => ?_)
        · have c5 := (nI_leI (by omega) (by omega)).mp c5
          rw [show j = n by omega] at eB eN
          have hB := prF_63 z (mSt σ) (mCu σ) h8
          rw [← eB, ← eN] at hB
          have hgp := Nat.gcd_pos_of_pos_right (B - D) hB.2.1
          have hgl := Nat.gcd_le_right (B - D) hB.2.1
          have hgne : ¬ lN (Nat.gcd (B - D) B) = 0 := fun y => by have y := (pk_lEQ (b := 0) (by omega) (by decide)).mp y; omega
          refine lv_lload_n C.1 C.2.1 dX12_buysOne_87 rfl (lv_at hl 2 rfl) ?_
          refine lv_lload C.1 C.2.1 dX12_buysOne_88 (lv_at hl 3 rfl) ?_
          refine lv_lsub C.1 C.2.1 dX12_buysOne_90 ?_
          refine mw_topl (y := lN (B - D)) (lN_sub hB.2.2) ?_
          refine lv_lload_n C.1 C.2.1 dX12_buysOne_91 rfl (lv_at hl 2 rfl) ?_
          refine mw_cSl (As := [.long (lN (B - D)), .long (lN B)]) (rest := []) C Z hP hS (cM_common l E ςa (B - D) B (by omega) hB.1) sb_X12_common tw_6_83 ⟨rfl, rfl⟩ ⟨Nat.le_of_ble_eq_true rfl, Nat.le_of_ble_eq_true rfl⟩ rfl hl.1 rfl (Nat.le_of_ble_eq_true rfl) dX12_buysOne_92 ⟨Nat.zero_le _, Nat.zero_le _⟩ (fun r6 u7 H locs q8 hP hS => ?_)
          obtain ⟨rfl, f9⟩ := q8
          refine lv_lstore (lv' := [(6, .long (lN (Nat.gcd (B - D) B))), (0, .ref (mw_a E 0)), (1, .int w), (2, .long (lN B)), (4, .long (lN D))]) C.1 C.2.1 dX12_buysOne_95 hl (by decide) rfl (fun ls hl => ?_)
          refine lv_iload_n C.1 C.2.1 dX12_buysOne_97 rfl (lv_at hl 2 rfl) ?_
          refine lv_if_ne (tgt := 111) C.1 C.2.1 dX12_buysOne_98 (by decide) (fun c10 => ?_) (fun c10 => ?_)
          · refine lv_lload_n C.1 C.2.1 dX12_buysOne_111 rfl (lv_at hl 3 rfl) ?_
            refine lv_lload C.1 C.2.1 dX12_buysOne_112 (lv_at hl 0 rfl) ?_
            refine lv_ldiv C.1 C.2.1 dX12_buysOne_114 hgne ?_
            refine mw_topl (y := lN (B / Nat.gcd (B - D) B)) (pk_lDiv hB.1 hgp (by omega)) ?_
            exact mw_lret C hr hlk Z hP hS dX12_buysOne_115 (⟨by unfold oneF; rw [if_neg (Decidable.not_not.mpr hrg), if_neg c10, ← eB, ← eN], (fra.tr f9)⟩)
          · refine lv_lload_n C.1 C.2.1 dX12_buysOne_101 rfl (lv_at hl 3 rfl) ?_
            refine lv_lload C.1 C.2.1 dX12_buysOne_102 (lv_at hl 4 rfl) ?_
            refine lv_lsub C.1 C.2.1 dX12_buysOne_104 ?_
            refine mw_topl (y := lN (B - D)) (lN_sub hB.2.2) ?_
            refine lv_lload C.1 C.2.1 dX12_buysOne_105 (lv_at hl 0 rfl) ?_
            refine lv_ldiv C.1 C.2.1 dX12_buysOne_107 hgne ?_
            refine mw_topl (y := lN ((B - D) / Nat.gcd (B - D) B)) (pk_lDiv (by omega) hgp (by omega)) ?_
            refine lv_goto (tgt := 115) C.1 C.2.1 dX12_buysOne_108 (by decide) ?_
            exact mw_lret C hr hlk Z hP hS dX12_buysOne_115 (⟨by unfold oneF; rw [if_neg (Decidable.not_not.mpr hrg), if_pos c10, ← eB, ← eN], (fra.tr f9)⟩)
        · have c5 : _ := (not_congr (nI_leI (by omega) (by omega))).mp c5
          refine lv_lload_n C.1 C.2.1 dX12_buysOne_31 rfl (lv_at hl 2 rfl) ?_
          refine lv_aload_n C.1 C.2.1 dX12_buysOne_32 rfl (lv_at hl 0 rfl) ?_
          refine lv_iload C.1 C.2.1 dX12_buysOne_33 (lv_at hl 4 rfl) ?_
          refine mw_cVi (As := [.int (nI j)]) (rest := [.long (lN B)]) C Z hP hS (0) (cM_buys2 l E ςa z j (by omega) (fra.ru hru)) vb_X12_buys tw_6_79 ⟨rfl, rfl⟩ ⟨Nat.le_of_ble_eq_true rfl, Nat.le_of_ble_eq_true rfl⟩ (by decide) rfl rfl rfl rfl hl.1 rfl (Nat.le_of_ble_eq_true rfl) dX12_buysOne_35 ⟨Nat.zero_le _, Nat.zero_le _⟩ (fun r11 u12 H locs q13 hP hS => ?_)
          obtain ⟨e15, f14⟩ := q13
          rw [fra.st, fra.cu] at e15
          subst e15
          refine lv_if_eq (tgt := 51) C.1 C.2.1 dX12_buysOne_38 (by decide) (fun c16 => ?_) (fun c16 => ?_)
          · have c16 := bI_0.mp c16
            refine lv_lconst (v := 1) C.1 C.2.1 dX12_buysOne_51 (by decide) ?_
            refine lv_lmul C.1 C.2.1 dX12_buysOne_52 ?_
            refine mw_topl (y := lN (B * 1)) (lN_mul B 1) ?_
            refine lv_lstore_n (lv' := [(2, .long (lN (B * 1))), (0, .ref (mw_a E 0)), (1, .int w), (4, .long (lN D)), (6, .int (nI j))]) C.1 C.2.1 dX12_buysOne_53 rfl hl (by decide) rfl (fun ls hl => ?_)
            refine lv_lload C.1 C.2.1 dX12_buysOne_54 (lv_at hl 3 rfl) ?_
            refine lv_aload_n C.1 C.2.1 dX12_buysOne_56 rfl (lv_at hl 1 rfl) ?_
            refine lv_iload C.1 C.2.1 dX12_buysOne_57 (lv_at hl 4 rfl) ?_
            refine mw_cVi (As := [.int (nI j)]) (rest := [.long (lN D)]) C Z hP hS (0) (cM_buys2 l E u12 z j (by omega) ((fra.tr f14).ru hru)) vb_X12_buys tw_6_79 ⟨rfl, rfl⟩ ⟨Nat.le_of_ble_eq_true rfl, Nat.le_of_ble_eq_true rfl⟩ (by decide) rfl rfl rfl rfl hl.1 rfl (Nat.le_of_ble_eq_true rfl) dX12_buysOne_59 ⟨Nat.zero_le _, Nat.zero_le _⟩ (fun r17 u18 H locs q19 hP hS => ?_)
            obtain ⟨e21, f20⟩ := q19
            rw [(fra.tr f14).st, (fra.tr f14).cu] at e21
            subst e21
            refine lv_if_eq (tgt := 77) C.1 C.2.1 dX12_buysOne_62 (by decide) (fun c22 => ?_) (fun c22 => ?_)
            · have c22 := bI_0.mp c22
              refine lv_lconst (v := 1) C.1 C.2.1 dX12_buysOne_77 (by decide) ?_
              refine lv_lmul C.1 C.2.1 dX12_buysOne_78 ?_
              refine mw_topl (y := lN (D * 1)) (lN_mul D 1) ?_
              refine lv_lstore (lv' := [(4, .long (lN (D * 1))), (2, .long (lN (B * 1))), (0, .ref (mw_a E 0)), (1, .int w), (6, .int (nI j))]) C.1 C.2.1 dX12_buysOne_79 hl (by decide) rfl (fun ls hl => ?_)
              refine lv_iinc (v := nI (j + 1)) (lv' := [(6, .int (nI (j + 1))), (4, .long (lN (D * 1))), (2, .long (lN (B * 1))), (0, .ref (mw_a E 0)), (1, .int w)]) C.1 C.2.1 dX12_buysOne_81 hl (k := 4) rfl (nI_1 _) (by decide) rfl (fun ls hl => ?_)
              refine lv_goto (tgt := 22) C.1 C.2.1 dX12_buysOne_84 (by decide) ?_
              exact iha (j + 1) (B * 1) (D * 1) u18 _ _ (by omega) (by omega) (by rw [eB]; show _ = _ * tbP z (mSt σ) (mCu σ) j; rw [(tbP_f c16).1]) (by rw [eN]; show _ = _ * t1P z (mSt σ) (mCu σ) j; rw [(tbP_f c16).2.2]) ((fra.tr f14).tr f20) hP hS ls (lv_sub hl [3, 4, 2, 1, 0] rfl)
            · have c22 := bI_n.mp c22
              have hTp := buysP_pos c22
              refine lv_aload_n C.1 C.2.1 dX12_buysOne_65 rfl (lv_at hl 1 rfl) ?_
              refine lv_iload C.1 C.2.1 dX12_buysOne_66 (lv_at hl 4 rfl) ?_
              refine mw_cVi (As := [.int (nI j)]) (rest := [.long (lN D)]) C Z hP hS (0) (cM_triesOf l E u18 z j (by omega) (((fra.tr f14).tr f20).ru hru)) vb_X12_triesOf tw_6_14 ⟨rfl, rfl⟩ ⟨Nat.le_of_ble_eq_true rfl, Nat.le_of_ble_eq_true rfl⟩ (by decide) rfl rfl rfl rfl hl.1 rfl (Nat.le_of_ble_eq_true rfl) dX12_buysOne_68 ⟨Nat.zero_le _, Nat.zero_le _⟩ (fun r23 u24 H locs q25 hP hS => ?_)
              obtain ⟨e27, f26⟩ := q25
              rw [((fra.tr f14).tr f20).st, ((fra.tr f14).tr f20).cu] at e27
              subst e27
              refine mw_top (y := nI (tnP z (mSt σ) (mCu σ j))) ((tnP_eq _ _ _).1) ?_
              refine lv_i2l C.1 C.2.1 dX12_buysOne_71 rfl ?_
              refine mw_topl (y := lN (tnP z (mSt σ) (mCu σ j))) (nI_l (by omega)) ?_
              refine lv_lconst (v := 1) C.1 C.2.1 dX12_buysOne_72 (by decide) ?_
              refine lv_lsub C.1 C.2.1 dX12_buysOne_73 ?_
              refine mw_topl (y := lN (tnP z (mSt σ) (mCu σ j) - 1)) (lN_sub (b := 1) (by omega)) ?_
              refine lv_goto (tgt := 78) C.1 C.2.1 dX12_buysOne_74 (by decide) ?_
              refine lv_lmul C.1 C.2.1 dX12_buysOne_78 ?_
              refine mw_topl (y := lN (D * (tnP z (mSt σ) (mCu σ j) - 1))) (lN_mul _ _) ?_
              refine lv_lstore (lv' := [(4, .long (lN (D * (tnP z (mSt σ) (mCu σ j) - 1)))), (2, .long (lN (B * 1))), (0, .ref (mw_a E 0)), (1, .int w), (6, .int (nI j))]) C.1 C.2.1 dX12_buysOne_79 hl (by decide) rfl (fun ls hl => ?_)
              refine lv_iinc (v := nI (j + 1)) (lv' := [(6, .int (nI (j + 1))), (4, .long (lN (D * (tnP z (mSt σ) (mCu σ j) - 1)))), (2, .long (lN (B * 1))), (0, .ref (mw_a E 0)), (1, .int w)]) C.1 C.2.1 dX12_buysOne_81 hl (k := 4) rfl (nI_1 _) (by decide) rfl (fun ls hl => ?_)
              refine lv_goto (tgt := 22) C.1 C.2.1 dX12_buysOne_84 (by decide) ?_
              exact absurd c22 c16
          · have c16 := bI_n.mp c16
            have hTp := buysP_pos c16
            refine lv_aload_n C.1 C.2.1 dX12_buysOne_41 rfl (lv_at hl 0 rfl) ?_
            refine lv_iload C.1 C.2.1 dX12_buysOne_42 (lv_at hl 4 rfl) ?_
            refine mw_cVi (As := [.int (nI j)]) (rest := [.long (lN B)]) C Z hP hS (0) (cM_triesOf l E u12 z j (by omega) ((fra.tr f14).ru hru)) vb_X12_triesOf tw_6_14 ⟨rfl, rfl⟩ ⟨Nat.le_of_ble_eq_true rfl, Nat.le_of_ble_eq_true rfl⟩ (by decide) rfl rfl rfl rfl hl.1 rfl (Nat.le_of_ble_eq_true rfl) dX12_buysOne_44 ⟨Nat.zero_le _, Nat.zero_le _⟩ (fun r28 u29 H locs q30 hP hS => ?_)
            obtain ⟨e32, f31⟩ := q30
            rw [(fra.tr f14).st, (fra.tr f14).cu] at e32
            subst e32
            refine mw_top (y := nI (tnP z (mSt σ) (mCu σ j))) ((tnP_eq _ _ _).1) ?_
            refine lv_i2l C.1 C.2.1 dX12_buysOne_47 rfl ?_
            refine mw_topl (y := lN (tnP z (mSt σ) (mCu σ j))) (nI_l (by omega)) ?_
            refine lv_goto (tgt := 52) C.1 C.2.1 dX12_buysOne_48 (by decide) ?_
            refine lv_lmul C.1 C.2.1 dX12_buysOne_52 ?_
            refine mw_topl (y := lN (B * tnP z (mSt σ) (mCu σ j))) (lN_mul _ _) ?_
            refine lv_lstore_n (lv' := [(2, .long (lN (B * tnP z (mSt σ) (mCu σ j)))), (0, .ref (mw_a E 0)), (1, .int w), (4, .long (lN D)), (6, .int (nI j))]) C.1 C.2.1 dX12_buysOne_53 rfl hl (by decide) rfl (fun ls hl => ?_)
            refine lv_lload C.1 C.2.1 dX12_buysOne_54 (lv_at hl 3 rfl) ?_
            refine lv_aload_n C.1 C.2.1 dX12_buysOne_56 rfl (lv_at hl 1 rfl) ?_
            refine lv_iload C.1 C.2.1 dX12_buysOne_57 (lv_at hl 4 rfl) ?_
            refine mw_cVi (As := [.int (nI j)]) (rest := [.long (lN D)]) C Z hP hS (0) (cM_buys2 l E u29 z j (by omega) (((fra.tr f14).tr f31).ru hru)) vb_X12_buys tw_6_79 ⟨rfl, rfl⟩ ⟨Nat.le_of_ble_eq_true rfl, Nat.le_of_ble_eq_true rfl⟩ (by decide) rfl rfl rfl rfl hl.1 rfl (Nat.le_of_ble_eq_true rfl) dX12_buysOne_59 ⟨Nat.zero_le _, Nat.zero_le _⟩ (fun r33 u34 H locs q35 hP hS => ?_)
            obtain ⟨e37, f36⟩ := q35
            rw [((fra.tr f14).tr f31).st, ((fra.tr f14).tr f31).cu] at e37
            subst e37
            refine lv_if_eq (tgt := 77) C.1 C.2.1 dX12_buysOne_62 (by decide) (fun c38 => ?_) (fun c38 => ?_)
            · have c38 := bI_0.mp c38
              refine lv_lconst (v := 1) C.1 C.2.1 dX12_buysOne_77 (by decide) ?_
              refine lv_lmul C.1 C.2.1 dX12_buysOne_78 ?_
              refine mw_topl (y := lN (D * 1)) (lN_mul D 1) ?_
              refine lv_lstore (lv' := [(4, .long (lN (D * 1))), (2, .long (lN (B * tnP z (mSt σ) (mCu σ j)))), (0, .ref (mw_a E 0)), (1, .int w), (6, .int (nI j))]) C.1 C.2.1 dX12_buysOne_79 hl (by decide) rfl (fun ls hl => ?_)
              refine lv_iinc (v := nI (j + 1)) (lv' := [(6, .int (nI (j + 1))), (4, .long (lN (D * 1))), (2, .long (lN (B * tnP z (mSt σ) (mCu σ j)))), (0, .ref (mw_a E 0)), (1, .int w)]) C.1 C.2.1 dX12_buysOne_81 hl (k := 4) rfl (nI_1 _) (by decide) rfl (fun ls hl => ?_)
              refine lv_goto (tgt := 22) C.1 C.2.1 dX12_buysOne_84 (by decide) ?_
              exact absurd c16 c38
            · have c38 := bI_n.mp c38
              have hTp := buysP_pos c38
              refine lv_aload_n C.1 C.2.1 dX12_buysOne_65 rfl (lv_at hl 1 rfl) ?_
              refine lv_iload C.1 C.2.1 dX12_buysOne_66 (lv_at hl 4 rfl) ?_
              refine mw_cVi (As := [.int (nI j)]) (rest := [.long (lN D)]) C Z hP hS (0) (cM_triesOf l E u34 z j (by omega) ((((fra.tr f14).tr f31).tr f36).ru hru)) vb_X12_triesOf tw_6_14 ⟨rfl, rfl⟩ ⟨Nat.le_of_ble_eq_true rfl, Nat.le_of_ble_eq_true rfl⟩ (by decide) rfl rfl rfl rfl hl.1 rfl (Nat.le_of_ble_eq_true rfl) dX12_buysOne_68 ⟨Nat.zero_le _, Nat.zero_le _⟩ (fun r39 u40 H locs q41 hP hS => ?_)
              obtain ⟨e43, f42⟩ := q41
              rw [(((fra.tr f14).tr f31).tr f36).st, (((fra.tr f14).tr f31).tr f36).cu] at e43
              subst e43
              refine mw_top (y := nI (tnP z (mSt σ) (mCu σ j))) ((tnP_eq _ _ _).1) ?_
              refine lv_i2l C.1 C.2.1 dX12_buysOne_71 rfl ?_
              refine mw_topl (y := lN (tnP z (mSt σ) (mCu σ j))) (nI_l (by omega)) ?_
              refine lv_lconst (v := 1) C.1 C.2.1 dX12_buysOne_72 (by decide) ?_
              refine lv_lsub C.1 C.2.1 dX12_buysOne_73 ?_
              refine mw_topl (y := lN (tnP z (mSt σ) (mCu σ j) - 1)) (lN_sub (b := 1) (by omega)) ?_
              refine lv_goto (tgt := 78) C.1 C.2.1 dX12_buysOne_74 (by decide) ?_
              refine lv_lmul C.1 C.2.1 dX12_buysOne_78 ?_
              refine mw_topl (y := lN (D * (tnP z (mSt σ) (mCu σ j) - 1))) (lN_mul _ _) ?_
              refine lv_lstore (lv' := [(4, .long (lN (D * (tnP z (mSt σ) (mCu σ j) - 1)))), (2, .long (lN (B * tnP z (mSt σ) (mCu σ j)))), (0, .ref (mw_a E 0)), (1, .int w), (6, .int (nI j))]) C.1 C.2.1 dX12_buysOne_79 hl (by decide) rfl (fun ls hl => ?_)
              refine lv_iinc (v := nI (j + 1)) (lv' := [(6, .int (nI (j + 1))), (4, .long (lN (D * (tnP z (mSt σ) (mCu σ j) - 1)))), (2, .long (lN (B * tnP z (mSt σ) (mCu σ j)))), (0, .ref (mw_a E 0)), (1, .int w)]) C.1 C.2.1 dX12_buysOne_81 hl (k := 4) rfl (nI_1 _) (by decide) rfl (fun ls hl => ?_)
              refine lv_goto (tgt := 22) C.1 C.2.1 dX12_buysOne_84 (by decide) ?_
              exact iha (j + 1) (B * tnP z (mSt σ) (mCu σ j)) (D * (tnP z (mSt σ) (mCu σ j) - 1)) u40 _ _ (by omega) (by omega) (by rw [eB]; show _ = _ * tbP z (mSt σ) (mCu σ) j; rw [(tbP_t c16).1]) (by rw [eN]; show _ = _ * t1P z (mSt σ) (mCu σ) j; rw [(tbP_t c16).2.2]) ((((fra.tr f14).tr f31).tr f36).tr f42) hP hS ls (lv_sub hl [3, 4, 2, 1, 0] rfl)
    exact lpa (n + 1) 0 1 1 σ _ _ (by omega) (by omega) (rfl) (rfl) (mFs.rf σ) hP hS ls (lv_sub hl [3, 4, 2, 1, 0] rfl)
  · have c4 := bI_0.mp c4
    refine lv_ldc2 (own := RX12) C.1 C.2.1 C.2.2.2.1 (C.2.2.2.2 _ tw_6_78) dX12_buysOne_10 ?_
    exact mw_lret C hr hlk Z hP hS dX12_buysOne_13 (⟨by unfold oneF; rw [if_pos c4], (mFs.rf σ)⟩)
