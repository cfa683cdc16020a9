/-! THE REFERENCE: TELLS BY TEXTS, FILM -/
/-- every text's steps -/
def mTs (σ : mw_M) (tc : Nat) (zz : Nat → zP) : Prop := ∀ t, t < tc → ∃ (nb : Nat) (bs : Nat → Int32), mTt σ t nb bs ∧ gText (tkA bs nb 0) = .inl (zz t)
def mGr (σ u : mw_M) : Prop := u.2.1 = σ.2.1 ∧ ∀ f, (f < 11 ∨ 25 < f) → f ≠ 4 → u.1 0 f = σ.1 0 f
theorem mGr.tr {σ u v : mw_M} (h : mGr σ u) (f : mFs u v) : mGr σ v := ⟨f.1.trans h.1, fun k h1 h2 => (f.2 k h1).trans (h.2 k h1 h2)⟩
theorem mGr.s4 {σ u : mw_M} (h : mGr σ u) (v : Int32) : mGr σ (mw_si u 0 4 v) := ⟨h.1, fun k h1 h2 => by rw [mw_si_ne _ h2]; exact h.2 k h1 h2⟩
theorem mGr.ru {σ u : mw_M} {tc t : Nat} {zz : Nat → zP} (h : mGr σ u) (hts : mTs σ tc zz) (ht : t < tc) (h4 : u.1 0 4 = nI t) : mRu u (zz t) := by
  obtain ⟨nb, bs, h1, h2⟩ := hts t ht
  refine ⟨t, nb, bs, h4, ?_, h2⟩
  unfold mTt
  rw [h.1]
  exact h1
theorem mGr.fs {σ u : mw_M} (h : mGr σ u) (h4 : u.1 0 4 = σ.1 0 4) : mFs σ u := ⟨h.1, fun f hf => by
  by_cases e : f = 4
  · rw [e]; exact h4
  · exact h.2 f hf e⟩

set_option maxHeartbeats 4000000 in
set_option maxRecDepth 100000 in
theorem cM_tells7 (l : Launch) (E : mw_E) (σ : mw_M) (n : Nat) (hn : σ.1 0 10 = nI n) (h8 : n ≤ 8) (tc : Nat) (htc : σ.1 0 3 = nI tc) (h6 : tc ≤ 6) (zz : Nat → zP) (hts : mTs σ tc zz) (hsh : mShs σ.2.1) (ss oo : Int32) : mw_Ci shM 13 gM l yX12_tells cX12_tells 11 (some .int) (rmF 47 1041) E [.ref (mw_a E 0), .int ss, .int oo, .int 7] σ (fun r u => r = (if ¬ (0 ≤ ss.toInt ∧ ss.toInt ≤ 3) ∨ ¬ (0 ≤ oo.toInt ∧ oo.toInt < n) then -2 else if σ.2.1 9 ss.toNatClampNeg = 0 then -11 else tellP3 (fun v => okF (zz v) (mSt σ) (mCu σ oo.toNatClampNeg) (fun k => σ.2.1 12 (40 * ss.toNatClampNeg + k)) (σ.2.1 11 ss.toNatClampNeg).toNatClampNeg) 0 tc 7) ∧ mFs σ u) := by
  refine mw_of (by decide) gM_ok (Nat.le_of_ble_eq_true rfl) ?_
  intro p_ e_ s_ m_ below meth c_ C hr hlk Z hP ls hl
  have C : CallFix p_ m_ c_ cX12_tells 11 s_ _ lw_good RX12 := C
  have hl : lv_has ls 11 [(0, .ref (mw_a E 0)), (1, .int ss), (2, .int oo), (3, .int 7)] := hl
  have hS : va_S (mw_A 13 E) s_.heap s_.heap [] := va_S.rf
  refine lv_iload_n C.1 C.2.1 dX12_tells_0 rfl (lv_at hl 1 rfl) ?_
  refine mw_cSi (As := [.int ss]) (rest := []) C Z hP hS (cM_isSheet l E σ ss) sb_X12_isSheet tw_6_130 ⟨rfl, rfl⟩ ⟨Nat.le_of_ble_eq_true rfl, Nat.le_of_ble_eq_true rfl⟩ rfl hl.1 rfl (Nat.le_of_ble_eq_true rfl) dX12_tells_1 ⟨Nat.zero_le _, Nat.zero_le _⟩ (fun r1 u2 H locs q3 hP hS => ?_)
  obtain ⟨rfl, q3u⟩ := q3
  rw [q3u] at hP; clear q3u
  refine lv_if_eq (tgt := 27) C.1 C.2.1 dX12_tells_4 (by decide) (fun c4 => ?_) (fun c4 => ?_)
  · have c4 := bI_0.mp c4
    refine lv_bipush (v := -2) C.1 C.2.1 dX12_tells_27 (by decide) ?_
    exact mw_iret C hr hlk Z hP hS dX12_tells_29 (⟨by rw [if_pos (Or.inl c4)], (mFs.rf σ)⟩)
  · have c4 := bI_n.mp c4
    have hrs := c4
    obtain ⟨sn, hsn, esn⟩ := nI_ofI (k := 3) hrs.1 hrs.2
    subst esn
    refine lv_aload_n C.1 C.2.1 dX12_tells_7 rfl (lv_at hl 0 rfl) ?_
    refine lv_iload_n C.1 C.2.1 dX12_tells_8 rfl (lv_at hl 2 rfl) ?_
    refine mw_cVi (As := [.int oo]) (rest := []) C Z hP hS (0) (cM_isOne l E σ oo n hn h8) vb_X12_isOne tw_5_36 ⟨rfl, rfl⟩ ⟨Nat.le_of_ble_eq_true rfl, Nat.le_of_ble_eq_true rfl⟩ (by decide) rfl rfl rfl rfl hl.1 rfl (Nat.le_of_ble_eq_true rfl) dX12_tells_9 ⟨Nat.zero_le _, Nat.zero_le _⟩ (fun r5 u6 H locs q7 hP hS => ?_)
    obtain ⟨rfl, q7u⟩ := q7
    rw [q7u] at hP; clear q7u
    refine lv_if_eq (tgt := 27) C.1 C.2.1 dX12_tells_12 (by decide) (fun c8 => ?_) (fun c8 => ?_)
    · have c8 := bI_0.mp c8
      refine lv_bipush (v := -2) C.1 C.2.1 dX12_tells_27 (by decide) ?_
      exact mw_iret C hr hlk Z hP hS dX12_tells_29 (⟨by rw [if_pos (Or.inr c8)], (mFs.rf σ)⟩)
    · have c8 := bI_n.mp c8
      have hro := c8
      obtain ⟨q, hq, eq⟩ := nI_ofI (k := 7) hro.1 (by omega)
      subst eq
      have hqn : q < n := by have := hro.2; rw [nI_toInt (by omega)] at this; omega
      have hgood : ¬ (¬ (0 ≤ (nI sn).toInt ∧ (nI sn).toInt ≤ 3) ∨ ¬ (0 ≤ (nI q).toInt ∧ (nI q).toInt < n)) := fun y => y.elim (fun y => y hrs) (fun y => y hro)
      have esn : (nI sn).toNatClampNeg = sn := nI_clamp (by omega)
      have eqn : (nI q).toNatClampNeg = q := nI_clamp (by omega)
      refine lv_iload_n C.1 C.2.1 dX12_tells_15 rfl (lv_at hl 3 rfl) ?_
      refine lv_i2l C.1 C.2.1 dX12_tells_16 rfl ?_
      refine lv_lconst (v := 0) C.1 C.2.1 dX12_tells_17 (by decide) ?_
      refine lv_ldc2 (own := RX12) C.1 C.2.1 C.2.2.2.1 (C.2.2.2.2 _ tw_5_32) dX12_tells_18 ?_
      refine mw_cSi (As := [.long ((7 : Int32).toInt64), .long (0), .long (7)]) (rest := []) C Z hP hS (cM_in l E σ ((7 : Int32).toInt64) 0 7 (0 ≤ (7 : Int32).toInt ∧ (7 : Int32).toInt ≤ 7) (by first | (simp only [nl_i]; exact Iff.rfl) | (simp only [nl_i]; decide) | simp [nl_i])) sb_X12_in tw_5_33 ⟨rfl, rfl⟩ ⟨Nat.le_of_ble_eq_true rfl, Nat.le_of_ble_eq_true rfl⟩ rfl hl.1 rfl (Nat.le_of_ble_eq_true rfl) dX12_tells_21 ⟨Nat.zero_le _, Nat.zero_le _⟩ (fun r9 u10 H locs q11 hP hS => ?_)
      obtain ⟨rfl, q11u⟩ := q11
      rw [q11u] at hP; clear q11u
      refine lv_if_ne (tgt := 30) C.1 C.2.1 dX12_tells_24 (by decide) (fun c12 => ?_) (fun c12 => ?_)
      · have c12 := bI_n.mp c12
        refine lv_aload_n C.1 C.2.1 dX12_tells_30 rfl (lv_at hl 0 rfl) ?_
        refine mw_getr C Z hP (0) 30 (9) (by decide) rfl rfl rfl (by decide) inX12 tw_4_194 dX12_tells_31 ?_
        refine lv_iload_n C.1 C.2.1 dX12_tells_34 rfl (lv_at hl 1 rfl) ?_
        refine mw_zald C Z hP (9) (sn) (by decide) rfl (Nat.lt_of_lt_of_le (by decide : 4 < 961) (Nat.le_of_ble_eq_true rfl)) rfl (by omega) dX12_tells_35 ?_
        refine lv_if_ne (tgt := 42) C.1 C.2.1 dX12_tells_36 (by decide) (fun c13 => ?_) (fun c13 => ?_)
        · have hth := c13
          obtain ⟨mm, hmm, hm⟩ := ((hsh sn (by omega)).resolve_left hth).2
          refine lv_iload_n C.1 C.2.1 dX12_tells_42 rfl (lv_at hl 3 rfl) ?_
          refine lv_if_ne (tgt := 53) C.1 C.2.1 dX12_tells_43 (by decide) (fun c14 => ?_) (fun c14 => ?_)
          · refine lv_iload_n C.1 C.2.1 dX12_tells_53 rfl (lv_at hl 3 rfl) ?_
            refine lv_iconst (v := 1) C.1 C.2.1 dX12_tells_54 (by decide) ?_
            refine lv_icmp_ne (tgt := 63) C.1 C.2.1 dX12_tells_55 (by decide) (fun c15 => ?_) (fun c15 => ?_)
            · refine lv_iload_n C.1 C.2.1 dX12_tells_63 rfl (lv_at hl 3 rfl) ?_
              refine lv_iconst (v := 2) C.1 C.2.1 dX12_tells_64 (by decide) ?_
              refine lv_icmp_ne (tgt := 72) C.1 C.2.1 dX12_tells_65 (by decide) (fun c16 => ?_) (fun c16 => ?_)
              · refine lv_iload_n C.1 C.2.1 dX12_tells_72 rfl (lv_at hl 3 rfl) ?_
                refine lv_iconst (v := 5) C.1 C.2.1 dX12_tells_73 (by decide) ?_
                refine lv_icmp_ge (tgt := 82) C.1 C.2.1 dX12_tells_74 (by decide) (fun c17 => ?_) (fun c17 => ?_)
                · refine lv_iload_n C.1 C.2.1 dX12_tells_82 rfl (lv_at hl 3 rfl) ?_
                  refine lv_iconst (v := 5) C.1 C.2.1 dX12_tells_83 (by decide) ?_
                  refine lv_icmp_ne (tgt := 92) C.1 C.2.1 dX12_tells_84 (by decide) (fun c18 => ?_) (fun c18 => ?_)
                  · refine lv_iload_n C.1 C.2.1 dX12_tells_92 rfl (lv_at hl 3 rfl) ?_
                    refine lv_bipush (v := 6) C.1 C.2.1 dX12_tells_93 (by decide) ?_
                    refine lv_icmp_ne (tgt := 102) C.1 C.2.1 dX12_tells_95 (by decide) (fun c19 => ?_) (fun c19 => ?_)
                    · refine lv_bipush (v := 9) C.1 C.2.1 dX12_tells_102 (by decide) ?_
                      refine lv_istore (lv' := [(4, .int 9), (0, .ref (mw_a E 0)), (1, .int (nI sn)), (2, .int (nI q)), (3, .int 7)]) C.1 C.2.1 dX12_tells_104 hl (by decide) rfl (fun ls hl => ?_)
                      refine lv_iload C.1 C.2.1 dX12_tells_106 (lv_at hl 0 rfl) ?_
                      refine lv_bipush (v := 9) C.1 C.2.1 dX12_tells_108 (by decide) ?_
                      refine lv_icmp_ne (tgt := 120) C.1 C.2.1 dX12_tells_110 (by decide) (fun c20 => ?_) (fun c20 => ?_)
                      · exact absurd c20 (by decide)
                      · refine lv_aload_n C.1 C.2.1 dX12_tells_113 rfl (lv_at hl 1 rfl) ?_
                        refine mw_geti C Z hP (0) 4 (by decide) rfl rfl rfl (by decide) inX12 tw_4_168 dX12_tells_114 ?_
                        refine lv_goto (tgt := 127) C.1 C.2.1 dX12_tells_117 (by decide) ?_
                        refine lv_istore (lv' := [(5, .int (σ.1 0 4)), (4, .int 9), (0, .ref (mw_a E 0)), (1, .int (nI sn)), (2, .int (nI q)), (3, .int 7)]) C.1 C.2.1 dX12_tells_127 hl (by decide) rfl (fun ls hl => ?_)
                        refine lv_iload C.1 C.2.1 dX12_tells_129 (lv_at hl 1 rfl) ?_
                        refine lv_bipush (v := 9) C.1 C.2.1 dX12_tells_131 (by decide) ?_
                        refine lv_icmp_ne (tgt := 145) C.1 C.2.1 dX12_tells_133 (by decide) (fun c21 => ?_) (fun c21 => ?_)
                        · exact absurd c21 (by decide)
                        · refine lv_aload_n C.1 C.2.1 dX12_tells_136 rfl (lv_at hl 2 rfl) ?_
                          refine mw_geti C Z hP (0) 3 (by decide) rfl rfl rfl (by decide) inX12 tw_4_167 dX12_tells_137 ?_
                          refine mw_top (y := nI tc) (htc) ?_
                          refine lv_iconst (v := 1) C.1 C.2.1 dX12_tells_140 (by decide) ?_
                          refine lv_isub C.1 C.2.1 dX12_tells_141 ?_
                          refine lv_goto (tgt := 161) C.1 C.2.1 dX12_tells_142 (by decide) ?_
                          refine lv_istore (lv' := [(6, .int ((nI tc) - 1)), (5, .int (σ.1 0 4)), (4, .int 9), (0, .ref (mw_a E 0)), (1, .int (nI sn)), (2, .int (nI q)), (3, .int 7)]) C.1 C.2.1 dX12_tells_161 hl (by decide) rfl (fun ls hl => ?_)
                          refine lv_iconst (v := 0) C.1 C.2.1 dX12_tells_163 (by decide) ?_
                          refine lv_istore (lv' := [(7, .int 0), (6, .int ((nI tc) - 1)), (5, .int (σ.1 0 4)), (4, .int 9), (0, .ref (mw_a E 0)), (1, .int (nI sn)), (2, .int (nI q)), (3, .int 7)]) C.1 C.2.1 dX12_tells_164 hl (by decide) rfl (fun ls hl => ?_)
                          refine lv_iconst (v := 0) C.1 C.2.1 dX12_tells_166 (by decide) ?_
                          refine lv_istore (lv' := [(8, .int 0), (7, .int 0), (6, .int ((nI tc) - 1)), (5, .int (σ.1 0 4)), (4, .int 9), (0, .ref (mw_a E 0)), (1, .int (nI sn)), (2, .int (nI q)), (3, .int 7)]) C.1 C.2.1 dX12_tells_167 hl (by decide) rfl (fun ls hl => ?_)
                          refine lv_iconst (v := -1) C.1 C.2.1 dX12_tells_169 (by decide) ?_
                          refine lv_istore (lv' := [(9, .int (-1)), (8, .int 0), (7, .int 0), (6, .int ((nI tc) - 1)), (5, .int (σ.1 0 4)), (4, .int 9), (0, .ref (mw_a E 0)), (1, .int (nI sn)), (2, .int (nI q)), (3, .int 7)]) C.1 C.2.1 dX12_tells_170 hl (by decide) rfl (fun ls hl => ?_)
                          refine lv_iload C.1 C.2.1 dX12_tells_172 (lv_at hl 3 rfl) ?_
                          refine mw_top (y := nI (tc - 0) - 1) rfl ?_
                          refine lv_istore (lv' := [(10, .int (nI (tc - 0) - 1)), (9, .int (-1)), (8, .int 0), (7, .int 0), (6, .int ((nI tc) - 1)), (5, .int (σ.1 0 4)), (4, .int 9), (0, .ref (mw_a E 0)), (1, .int (nI sn)), (2, .int (nI q)), (3, .int 7)]) C.1 C.2.1 dX12_tells_174 hl (by decide) rfl (fun ls hl => ?_)
                          have lpa : ∀ (N : Nat) (m : Nat) (x : Int32) (k : Nat) (y : Int32) (ςa : mw_M) (H : Heap) (locs : List Loc), tc + 1 ≤ m + N → (m ≤ tc) → (x = orS (bitF (fun v => okF (zz v) (mSt σ) (mCu σ q) (fun k => σ.2.1 12 (40 * sn + k)) mm)) m (tc - m)) → (k = cnS (fun v => okF (zz v) (mSt σ) (mCu σ q) (fun k => σ.2.1 12 (40 * sn + k)) mm) m (tc - m)) → (y = leS (fun v => okF (zz v) (mSt σ) (mCu σ q) (fun k => σ.2.1 12 (40 * sn + k)) mm) m (tc - m)) → mGr σ ςa → va_P (mw_D E) vwCl (mw_ws shM 13 E ςa) H → va_S (mw_A 13 E) s_.heap H locs → ∀ (ls : Array Slot), lv_has ls 11 [(0, .ref (mw_a E 0)), (1, .int (nI sn)), (2, .int (nI q)), (3, .int 7), (4, .int 9), (5, .int (σ.1 0 4)), (6, .int (nI tc - 1)), (7, .int x), (8, .int (nI k)), (9, .int y), (10, .int (nI (tc - m) - 1))] → mWi p_ l e_ (rmF 47 1041) s_ m_ [.ref (mw_a E 0), .int (nI sn), .int (nI q), .int 7] below meth c_ E (fun r u => r = (if ¬ (0 ≤ (nI sn).toInt ∧ (nI sn).toInt ≤ 3) ∨ ¬ (0 ≤ (nI q).toInt ∧ (nI q).toInt < n) then -2 else if σ.2.1 9 (nI sn).toNatClampNeg = 0 then -11 else tellP3 (fun v => okF (zz v) (mSt σ) (mCu σ (nI q).toNatClampNeg) (fun k => σ.2.1 12 (40 * (nI sn).toNatClampNeg + k)) (σ.2.1 11 (nI sn).toNatClampNeg).toNatClampNeg) 0 tc 7) ∧ mFs σ u) H locs (F0 m_ 176 ls []) := by
                            intro N
                            induction N with
                            | zero => intros; exfalso; omega
                            | succ N iha =>
                              intro m x k y ςa H locs hNa hm5 ex ek ey fra hP hS ls hl
                              refine lv_iload C.1 C.2.1 dX12_tells_176 (lv_at hl 10 rfl) ?_
                              refine lv_iload C.1 C.2.1 dX12_tells_178 (lv_at hl 4 rfl) ?_
                              refine mw_cSi (As := [.int 9]) (rest := [.int (nI (tc - m) - 1)]) C Z hP hS (cM_leastOf l E ςa 9) sb_X12_leastOf tw_5_40 ⟨rfl, rfl⟩ ⟨Nat.le_of_ble_eq_true rfl, Nat.le_of_ble_eq_true rfl⟩ rfl hl.1 rfl (Nat.le_of_ble_eq_true rfl) dX12_tells_180 ⟨Nat.zero_le _, Nat.zero_le _⟩ (fun r22 u23 H locs q24 hP hS => ?_)
                              obtain ⟨rfl, q24u⟩ := q24
                              rw [q24u] at hP; clear q24u
                              refine mw_top (y := 0) (by decide) ?_
                              refine lv_icmp_lt (tgt := 238) C.1 C.2.1 dX12_tells_183 (by decide) (fun c25 => ?_) (fun c25 => ?_)
                              · have c25 : m = tc := by have y := (ni_lt _ _).mp c25; rw [nI_p1 (a := tc - m) (by omega)] at y; have e : (0 : Int32).toInt = 0 := rfl; omega
                                refine lv_aload_n C.1 C.2.1 dX12_tells_238 rfl (lv_at hl 0 rfl) ?_
                                refine lv_iload C.1 C.2.1 dX12_tells_239 (lv_at hl 4 rfl) ?_
                                refine lv_iload_n C.1 C.2.1 dX12_tells_241 rfl (lv_at hl 2 rfl) ?_
                                refine lv_iload C.1 C.2.1 dX12_tells_242 (lv_at hl 5 rfl) ?_
                                refine mw_cVv (As := [.int 9, .int (nI q), .int (σ.1 0 4)]) (rest := []) C Z hP hS (0) (cM_lays9 l E ςa q (by omega) (σ.1 0 4)) vb_X12_lays tw_6_34 ⟨rfl, rfl⟩ ⟨Nat.le_of_ble_eq_true rfl, Nat.le_of_ble_eq_true rfl⟩ (by decide) rfl rfl rfl rfl hl.1 rfl (Nat.le_of_ble_eq_true rfl) dX12_tells_244 ⟨Nat.zero_le _, Nat.zero_le _⟩ (fun u27 H locs q28 hP hS => ?_)
                                rw [q28] at hP; clear q28
                                refine lv_iload_n C.1 C.2.1 dX12_tells_247 rfl (lv_at hl 3 rfl) ?_
                                refine lv_iconst (v := 3) C.1 C.2.1 dX12_tells_248 (by decide) ?_
                                refine lv_icmp_ne (tgt := 257) C.1 C.2.1 dX12_tells_249 (by decide) (fun c29 => ?_) (fun c29 => ?_)
                                · refine lv_iload_n C.1 C.2.1 dX12_tells_257 rfl (lv_at hl 3 rfl) ?_
                                  refine lv_iconst (v := 4) C.1 C.2.1 dX12_tells_258 (by decide) ?_
                                  refine lv_icmp_ne (tgt := 267) C.1 C.2.1 dX12_tells_259 (by decide) (fun c30 => ?_) (fun c30 => ?_)
                                  · refine lv_iload C.1 C.2.1 dX12_tells_267 (lv_at hl 7 rfl) ?_
                                    have em : m = tc := by omega
                                    rw [em] at ex ek ey
                                    exact mw_iret C hr hlk Z hP hS dX12_tells_269 (⟨by rw [if_neg hgood, esn, if_neg hth, eqn, hm, nI_clamp (n := mm) (by omega)]; unfold tellP3; rw [if_neg (by decide), if_neg (by decide), ex, Nat.sub_self], ((fra.s4 (σ.1 0 4))).fs rfl⟩)
                                  · exact absurd c30 (by decide)
                                · exact absurd c29 (by decide)
                              · have c25 : m < tc := by have y := (not_congr (ni_lt _ _)).mp c25; rw [nI_p1 (a := tc - m) (by omega)] at y; have e : (0 : Int32).toInt = 0 := rfl; omega
                                obtain ⟨v, hv⟩ : ∃ v, v + 1 = tc - m := ⟨tc - m - 1, by omega⟩
                                have hv1 : v + 1 = tc - m := hv
                                have hseg : tc - (m + 1) = v := by omega
                                rw [show nI (tc - m) - 1 = nI v by rw [← hv]; exact nI_pred v] at hl
                                refine lv_aload_n C.1 C.2.1 dX12_tells_186 rfl (lv_at hl 0 rfl) ?_
                                refine lv_iload C.1 C.2.1 dX12_tells_187 (lv_at hl 4 rfl) ?_
                                refine lv_iload_n C.1 C.2.1 dX12_tells_189 rfl (lv_at hl 2 rfl) ?_
                                refine lv_iload C.1 C.2.1 dX12_tells_190 (lv_at hl 10 rfl) ?_
                                refine mw_cVv (As := [.int 9, .int (nI q), .int (nI v)]) (rest := []) C Z hP hS (0) (cM_lays9 l E ςa q (by omega) (nI v)) vb_X12_lays tw_6_34 ⟨rfl, rfl⟩ ⟨Nat.le_of_ble_eq_true rfl, Nat.le_of_ble_eq_true rfl⟩ (by decide) rfl rfl rfl rfl hl.1 rfl (Nat.le_of_ble_eq_true rfl) dX12_tells_192 ⟨Nat.zero_le _, Nat.zero_le _⟩ (fun u32 H locs q33 hP hS => ?_)
                                rw [q33] at hP; clear q33
                                refine lv_aload_n C.1 C.2.1 dX12_tells_195 rfl (lv_at hl 0 rfl) ?_
                                refine lv_iload_n C.1 C.2.1 dX12_tells_196 rfl (lv_at hl 1 rfl) ?_
                                refine lv_iload_n C.1 C.2.1 dX12_tells_197 rfl (lv_at hl 2 rfl) ?_
                                have hst : mSt (mw_si ςa 0 4 (nI v)) = mSt σ := by unfold mSt; rw [(fra.s4 (nI v)).1]
                                have hcu : mCu (mw_si ςa 0 4 (nI v)) q = mCu σ q := by unfold mCu; rw [(fra.s4 (nI v)).1]
                                refine mw_cVi (As := [.int (nI sn), .int (nI q)]) (rest := []) C Z hP hS (0) (cM_firstOther l E (mw_si ςa 0 4 (nI v)) (zz v) q (by omega) ((fra.s4 (nI v)).ru hts (by omega) rfl) sn mm (by omega) (by rw [(fra.s4 (nI v)).1]; exact hm) hmm) vb_X12_firstOther tw_6_134 ⟨rfl, rfl⟩ ⟨Nat.le_of_ble_eq_true rfl, Nat.le_of_ble_eq_true rfl⟩ (by decide) rfl rfl rfl rfl hl.1 rfl (Nat.le_of_ble_eq_true rfl) dX12_tells_198 ⟨Nat.zero_le _, Nat.zero_le _⟩ (fun r34 u35 H locs q36 hP hS => ?_)
                                obtain ⟨e38, f37⟩ := q36
                                rw [hst, hcu, show (mw_si ςa 0 4 (nI v)).2.1 12 = σ.2.1 12 by rw [(fra.s4 (nI v)).1]] at e38
                                subst e38
                                refine lv_iconst (v := -1) C.1 C.2.1 dX12_tells_201 (by decide) ?_
                                refine lv_icmp_ne (tgt := 232) C.1 C.2.1 dX12_tells_202 (by decide) (fun c39 => ?_) (fun c39 => ?_)
                                · refine lv_iinc (v := nI (tc - (m + 1)) - 1) (lv' := [(10, .int (nI (tc - (m + 1)) - 1)), (0, .ref (mw_a E 0)), (1, .int (nI sn)), (2, .int (nI q)), (3, .int 7), (4, .int 9), (5, .int (σ.1 0 4)), (6, .int (nI tc - 1)), (7, .int x), (8, .int (nI k)), (9, .int y)]) C.1 C.2.1 dX12_tells_232 hl (k := 10) rfl (by rw [hseg]; exact im1 _) (by decide) rfl (fun ls hl => ?_)
                                  refine lv_goto (tgt := 176) C.1 C.2.1 dX12_tells_235 (by decide) ?_
                                  exact iha (m + 1) x k y u35 _ _ (by omega) (by omega) (by rw [hseg]; show _ = orS _ m (v + 1) ||| bitF _ v; rw [hv1, ← ex]; unfold bitF; rw [if_neg (show ¬ (fun v => okF (zz v) (mSt σ) (mCu σ q) (fun k => σ.2.1 12 (40 * sn + k)) mm) v = true from fun y => c39 (of_decide_eq_true y)), Int32.or_zero]) (by rw [hseg]; show _ = cnS _ m (v + 1) + (if _ then _ else _); rw [hv1, ← ek]; rw [if_neg (show ¬ (fun v => okF (zz v) (mSt σ) (mCu σ q) (fun k => σ.2.1 12 (40 * sn + k)) mm) v = true from fun y => c39 (of_decide_eq_true y))]; rfl) (by rw [hseg]; show _ = (if _ then _ else leS _ m (v + 1)); rw [hv1, ← ey]; rw [if_neg (show ¬ (fun v => okF (zz v) (mSt σ) (mCu σ q) (fun k => σ.2.1 12 (40 * sn + k)) mm) v = true from fun y => c39 (of_decide_eq_true y))]) ((fra.s4 (nI v)).tr f37) hP hS ls (lv_sub hl [1, 2, 3, 4, 5, 6, 7, 8, 9, 10, 0] rfl)
                                · refine lv_iload C.1 C.2.1 dX12_tells_205 (lv_at hl 7 rfl) ?_
                                  refine lv_iload C.1 C.2.1 dX12_tells_207 (lv_at hl 10 rfl) ?_
                                  refine lv_bipush (v := 10) C.1 C.2.1 dX12_tells_209 (by decide) ?_
                                  refine lv_icmp_ge (tgt := 221) C.1 C.2.1 dX12_tells_211 (by decide) (fun c40 => ?_) (fun c40 => ?_)
                                  · have c40 : _ := (nI_leI (a := 10) (by decide) (by omega)).mp c40
                                    refine lv_iconst (v := 0) C.1 C.2.1 dX12_tells_221 (by decide) ?_
                                    refine lv_ior C.1 C.2.1 dX12_tells_222 ?_
                                    refine lv_istore (lv' := [(7, .int (x ||| 0)), (0, .ref (mw_a E 0)), (1, .int (nI sn)), (2, .int (nI q)), (3, .int 7), (4, .int 9), (5, .int (σ.1 0 4)), (6, .int (nI tc - 1)), (8, .int (nI k)), (9, .int y), (10, .int (nI v))]) C.1 C.2.1 dX12_tells_223 hl (by decide) rfl (fun ls hl => ?_)
                                    refine lv_iinc (v := nI (k + 1)) (lv' := [(8, .int (nI (k + 1))), (7, .int (x ||| 0)), (0, .ref (mw_a E 0)), (1, .int (nI sn)), (2, .int (nI q)), (3, .int 7), (4, .int 9), (5, .int (σ.1 0 4)), (6, .int (nI tc - 1)), (9, .int y), (10, .int (nI v))]) C.1 C.2.1 dX12_tells_225 hl (k := 8) rfl (nI_1 _) (by decide) rfl (fun ls hl => ?_)
                                    refine lv_iload C.1 C.2.1 dX12_tells_228 (lv_at hl 10 rfl) ?_
                                    refine lv_istore (lv' := [(9, .int (nI v)), (8, .int (nI (k + 1))), (7, .int (x ||| 0)), (0, .ref (mw_a E 0)), (1, .int (nI sn)), (2, .int (nI q)), (3, .int 7), (4, .int 9), (5, .int (σ.1 0 4)), (6, .int (nI tc - 1)), (10, .int (nI v))]) C.1 C.2.1 dX12_tells_230 hl (by decide) rfl (fun ls hl => ?_)
                                    refine lv_iinc (v := nI (tc - (m + 1)) - 1) (lv' := [(10, .int (nI (tc - (m + 1)) - 1)), (9, .int (nI v)), (8, .int (nI (k + 1))), (7, .int (x ||| 0)), (0, .ref (mw_a E 0)), (1, .int (nI sn)), (2, .int (nI q)), (3, .int 7), (4, .int 9), (5, .int (σ.1 0 4)), (6, .int (nI tc - 1))]) C.1 C.2.1 dX12_tells_232 hl (k := 10) rfl (by rw [hseg]; exact im1 _) (by decide) rfl (fun ls hl => ?_)
                                    refine lv_goto (tgt := 176) C.1 C.2.1 dX12_tells_235 (by decide) ?_
                                    exact iha (m + 1) (x ||| 0) (k + 1) (nI v) u35 _ _ (by omega) (by omega) (by rw [hseg]; show _ = orS _ m (v + 1) ||| bitF _ v; rw [hv1, ← ex]; unfold bitF; rw [if_pos (show (fun v => okF (zz v) (mSt σ) (mCu σ q) (fun k => σ.2.1 12 (40 * sn + k)) mm) v = true from decide_eq_true c39), if_neg (by omega)]) (by rw [hseg]; show _ = cnS _ m (v + 1) + (if _ then _ else _); rw [hv1, ← ek]; rw [if_pos (show (fun v => okF (zz v) (mSt σ) (mCu σ q) (fun k => σ.2.1 12 (40 * sn + k)) mm) v = true from decide_eq_true c39)]) (by rw [hseg]; show _ = (if _ then _ else leS _ m (v + 1)); rw [hv1, ← ey]; rw [if_pos (show (fun v => okF (zz v) (mSt σ) (mCu σ q) (fun k => σ.2.1 12 (40 * sn + k)) mm) v = true from decide_eq_true c39)]) ((fra.s4 (nI v)).tr f37) hP hS ls (lv_sub hl [4, 5, 6, 7, 8, 9, 10, 3, 2, 1, 0] rfl)
                                  · have c40 : _ := (not_congr (nI_leI (a := 10) (by decide) (by omega))).mp c40
                                    refine lv_iconst (v := 1) C.1 C.2.1 dX12_tells_214 (by decide) ?_
                                    refine lv_iload C.1 C.2.1 dX12_tells_215 (lv_at hl 10 rfl) ?_
                                    refine lv_ishl C.1 C.2.1 dX12_tells_217 ?_
                                    refine lv_goto (tgt := 222) C.1 C.2.1 dX12_tells_218 (by decide) ?_
                                    refine lv_ior C.1 C.2.1 dX12_tells_222 ?_
                                    refine lv_istore (lv' := [(7, .int (x ||| (1 <<< ((nI v) &&& 31)))), (0, .ref (mw_a E 0)), (1, .int (nI sn)), (2, .int (nI q)), (3, .int 7), (4, .int 9), (5, .int (σ.1 0 4)), (6, .int (nI tc - 1)), (8, .int (nI k)), (9, .int y), (10, .int (nI v))]) C.1 C.2.1 dX12_tells_223 hl (by decide) rfl (fun ls hl => ?_)
                                    refine lv_iinc (v := nI (k + 1)) (lv' := [(8, .int (nI (k + 1))), (7, .int (x ||| (1 <<< ((nI v) &&& 31)))), (0, .ref (mw_a E 0)), (1, .int (nI sn)), (2, .int (nI q)), (3, .int 7), (4, .int 9), (5, .int (σ.1 0 4)), (6, .int (nI tc - 1)), (9, .int y), (10, .int (nI v))]) C.1 C.2.1 dX12_tells_225 hl (k := 8) rfl (nI_1 _) (by decide) rfl (fun ls hl => ?_)
                                    refine lv_iload C.1 C.2.1 dX12_tells_228 (lv_at hl 10 rfl) ?_
                                    refine lv_istore (lv' := [(9, .int (nI v)), (8, .int (nI (k + 1))), (7, .int (x ||| (1 <<< ((nI v) &&& 31)))), (0, .ref (mw_a E 0)), (1, .int (nI sn)), (2, .int (nI q)), (3, .int 7), (4, .int 9), (5, .int (σ.1 0 4)), (6, .int (nI tc - 1)), (10, .int (nI v))]) C.1 C.2.1 dX12_tells_230 hl (by decide) rfl (fun ls hl => ?_)
                                    refine lv_iinc (v := nI (tc - (m + 1)) - 1) (lv' := [(10, .int (nI (tc - (m + 1)) - 1)), (9, .int (nI v)), (8, .int (nI (k + 1))), (7, .int (x ||| (1 <<< ((nI v) &&& 31)))), (0, .ref (mw_a E 0)), (1, .int (nI sn)), (2, .int (nI q)), (3, .int 7), (4, .int 9), (5, .int (σ.1 0 4)), (6, .int (nI tc - 1))]) C.1 C.2.1 dX12_tells_232 hl (k := 10) rfl (by rw [hseg]; exact im1 _) (by decide) rfl (fun ls hl => ?_)
                                    refine lv_goto (tgt := 176) C.1 C.2.1 dX12_tells_235 (by decide) ?_
                                    exact iha (m + 1) (x ||| (1 <<< ((nI v) &&& 31))) (k + 1) (nI v) u35 _ _ (by omega) (by omega) (by rw [hseg]; show _ = orS _ m (v + 1) ||| bitF _ v; rw [hv1, ← ex]; unfold bitF; rw [if_pos (show (fun v => okF (zz v) (mSt σ) (mCu σ q) (fun k => σ.2.1 12 (40 * sn + k)) mm) v = true from decide_eq_true c39), if_pos (by omega)]) (by rw [hseg]; show _ = cnS _ m (v + 1) + (if _ then _ else _); rw [hv1, ← ek]; rw [if_pos (show (fun v => okF (zz v) (mSt σ) (mCu σ q) (fun k => σ.2.1 12 (40 * sn + k)) mm) v = true from decide_eq_true c39)]) (by rw [hseg]; show _ = (if _ then _ else leS _ m (v + 1)); rw [hv1, ← ey]; rw [if_pos (show (fun v => okF (zz v) (mSt σ) (mCu σ q) (fun k => σ.2.1 12 (40 * sn + k)) mm) v = true from decide_eq_true c39)]) ((fra.s4 (nI v)).tr f37) hP hS ls (lv_sub hl [4, 5, 6, 7, 8, 9, 10, 3, 2, 1, 0] rfl)
                          exact lpa (tc + 1) 0 0 0 (-1) σ _ _ (by omega) (by omega) (rfl) (rfl) (rfl) ⟨(mFs.rf σ).1, fun k h1 _ => (mFs.rf σ).2 k h1⟩ hP hS ls (lv_sub hl [7, 8, 9, 10, 6, 5, 4, 3, 2, 1, 0] rfl)
                    · exact absurd c19 (by decide)
                  · exact absurd c18 (by decide)
                · exact absurd c17 (by decide)
              · exact absurd c16 (by decide)
            · exact absurd c15 (by decide)
          · exact absurd c14 (by decide)
        · refine lv_bipush (v := -11) C.1 C.2.1 dX12_tells_39 (by decide) ?_
          exact mw_iret C hr hlk Z hP hS dX12_tells_41 (⟨by rw [if_neg hgood, esn, if_pos c13], (mFs.rf σ)⟩)
      · have c12 := bI_0.mp c12
        exact absurd (by decide) c12

def flX (Y : Nat → Nat → Int32) (s c : Nat → Int32) : Nat → Nat → Int32 := va_up (va_up Y 4 s) 12 c
theorem flX_4 (Y : Nat → Nat → Int32) (s c t : Nat → Int32) : va_up (flX Y s c) 4 t = flX Y t c := by
  funext a
  unfold flX
  by_cases h4 : a = 4
  · subst h4; rw [va_up_self, va_up_ne _ _ (by decide), va_up_self]
  · by_cases h12 : a = 12
    · subst h12; rw [va_up_ne _ _ (by decide), va_up_self, va_up_self]
    · rw [va_up_ne _ _ h4, va_up_ne _ _ h12, va_up_ne _ _ h4, va_up_ne _ _ h12, va_up_ne _ _ h4]
theorem flX_12 (Y : Nat → Nat → Int32) (s c t : Nat → Int32) : va_up (flX Y s c) 12 t = flX Y s t := by
  unfold flX
  rw [bx_uu]
theorem flX_id (Y : Nat → Nat → Int32) : flX Y (Y 4) (Y 12) = Y := by
  unfold flX
  rw [up_self]
  exact up_self Y 12
theorem flX_n4 (Y : Nat → Nat → Int32) (c : Nat → Int32) : flX Y (Y 4) c = va_up Y 12 c := by
  unfold flX
  rw [up_self]
def filmE (z : zP) (st cu : Nat → Int32) (k : Nat) : Int32 := eatsP z (upd st 0 (nI (k + 1))) cu
def filmX (z : zP) (X : Nat → Nat → Int32) (st cu : Nat → Int32) (s m : Nat) : Nat → Nat → Int32 := va_up (sheetX X s 0 (nI m)) 12 (cpB (filmE z st cu) (zF (X 12) (40 * s) m) (40 * s) m)
def filmF (z : zP) (X : Nat → Nat → Int32) (st : Nat → Int32) (cu : Nat → Nat → Int32) (n : Nat) (s o m : Int32) : Int32 × (Nat → Nat → Int32) := if ¬ (0 ≤ s.toInt ∧ s.toInt ≤ 3) ∨ ¬ (0 ≤ o.toInt ∧ o.toInt < n) ∨ ¬ (0 ≤ m.toInt ∧ m.toInt ≤ 40) then (-2, X) else (m, filmX z X st (cu o.toNatClampNeg) s.toNatClampNeg m.toNatClampNeg)

set_option maxHeartbeats 4000000 in
set_option maxRecDepth 100000 in
theorem cM_film (l : Launch) (E : mw_E) (σ : mw_M) (z : zP) (n : Nat) (hn : σ.1 0 10 = nI n) (h8 : n ≤ 8) (hru : mRu σ z) (ss oo m1 : Int32) : mw_Ci shM 13 gM l yX12_film cX12_film 6 (some .int) (rmF 44 976) E [.ref (mw_a E 0), .int ss, .int oo, .int m1] σ (fun r u => r = (filmF z σ.2.1 (mSt σ) (mCu σ) n ss oo m1).1 ∧ mAr σ (filmF z σ.2.1 (mSt σ) (mCu σ) n ss oo m1).2 u) := by
  refine mw_of (by decide) gM_ok (Nat.le_of_ble_eq_true rfl) ?_
  intro p_ e_ s_ m_ below meth c_ C hr hlk Z hP ls hl
  have C : CallFix p_ m_ c_ cX12_film 6 s_ _ lw_good RX12 := C
  have hl : lv_has ls 6 [(0, .ref (mw_a E 0)), (1, .int ss), (2, .int oo), (3, .int m1)] := hl
  have hS : va_S (mw_A 13 E) s_.heap s_.heap [] := va_S.rf
  refine lv_iload_n C.1 C.2.1 dX12_film_0 rfl (lv_at hl 1 rfl) ?_
  refine mw_cSi (As := [.int ss]) (rest := []) C Z hP hS (cM_isSheet l E σ ss) sb_X12_isSheet tw_6_130 ⟨rfl, rfl⟩ ⟨Nat.le_of_ble_eq_true rfl, Nat.le_of_ble_eq_true rfl⟩ rfl hl.1 rfl (Nat.le_of_ble_eq_true rfl) dX12_film_1 ⟨Nat.zero_le _, Nat.zero_le _⟩ (fun r1 u2 H locs q3 hP hS => ?_)
  obtain ⟨rfl, q3u⟩ := q3
  rw [q3u] at hP; clear q3u
  refine lv_if_eq (tgt := 27) C.1 C.2.1 dX12_film_4 (by decide) (fun c4 => ?_) (fun c4 => ?_)
  · have c4 := bI_0.mp c4
    refine lv_bipush (v := -2) C.1 C.2.1 dX12_film_27 (by decide) ?_
    exact mw_iret C hr hlk Z hP hS dX12_film_29 (⟨by unfold filmF; rw [if_pos (Or.inl c4)], by unfold filmF; rw [if_pos (Or.inl c4)]; exact mFs.ar (mFs.rf σ)⟩)
  · have c4 := bI_n.mp c4
    have hrs := c4
    obtain ⟨sn, hsn, esn⟩ := nI_ofI (k := 3) hrs.1 hrs.2
    subst esn
    refine lv_aload_n C.1 C.2.1 dX12_film_7 rfl (lv_at hl 0 rfl) ?_
    refine lv_iload_n C.1 C.2.1 dX12_film_8 rfl (lv_at hl 2 rfl) ?_
    refine mw_cVi (As := [.int oo]) (rest := []) C Z hP hS (0) (cM_isOne l E σ oo n hn h8) vb_X12_isOne tw_5_36 ⟨rfl, rfl⟩ ⟨Nat.le_of_ble_eq_true rfl, Nat.le_of_ble_eq_true rfl⟩ (by decide) rfl rfl rfl rfl hl.1 rfl (Nat.le_of_ble_eq_true rfl) dX12_film_9 ⟨Nat.zero_le _, Nat.zero_le _⟩ (fun r5 u6 H locs q7 hP hS => ?_)
    obtain ⟨rfl, q7u⟩ := q7
    rw [q7u] at hP; clear q7u
    refine lv_if_eq (tgt := 27) C.1 C.2.1 dX12_film_12 (by decide) (fun c8 => ?_) (fun c8 => ?_)
    · have c8 := bI_0.mp c8
      refine lv_bipush (v := -2) C.1 C.2.1 dX12_film_27 (by decide) ?_
      exact mw_iret C hr hlk Z hP hS dX12_film_29 (⟨by unfold filmF; rw [if_pos (Or.inr (Or.inl c8))], by unfold filmF; rw [if_pos (Or.inr (Or.inl c8))]; exact mFs.ar (mFs.rf σ)⟩)
    · have c8 := bI_n.mp c8
      have hro := c8
      obtain ⟨q, hq, eq⟩ := nI_ofI (k := 7) hro.1 (by omega)
      subst eq
      have hqn : q < n := by have := hro.2; rw [nI_toInt (by omega)] at this; omega
      have esn : (nI sn).toNatClampNeg = sn := nI_clamp (by omega)
      have eqn : (nI q).toNatClampNeg = q := nI_clamp (by omega)
      refine lv_iload_n C.1 C.2.1 dX12_film_15 rfl (lv_at hl 3 rfl) ?_
      refine lv_i2l C.1 C.2.1 dX12_film_16 rfl ?_
      refine lv_lconst (v := 0) C.1 C.2.1 dX12_film_17 (by decide) ?_
      refine lv_ldc2 (own := RX12) C.1 C.2.1 C.2.2.2.1 (C.2.2.2.2 _ tw_6_142) dX12_film_18 ?_
      refine mw_cSi (As := [.long (m1.toInt64), .long (0), .long (40)]) (rest := []) C Z hP hS (cM_in l E σ (m1.toInt64) 0 40 (0 ≤ m1.toInt ∧ m1.toInt ≤ 40) (by first | (simp only [nl_i]; exact Iff.rfl) | (simp only [nl_i]; decide) | simp [nl_i])) sb_X12_in tw_5_33 ⟨rfl, rfl⟩ ⟨Nat.le_of_ble_eq_true rfl, Nat.le_of_ble_eq_true rfl⟩ rfl hl.1 rfl (Nat.le_of_ble_eq_true rfl) dX12_film_21 ⟨Nat.zero_le _, Nat.zero_le _⟩ (fun r9 u10 H locs q11 hP hS => ?_)
      obtain ⟨rfl, q11u⟩ := q11
      rw [q11u] at hP; clear q11u
      refine lv_if_ne (tgt := 30) C.1 C.2.1 dX12_film_24 (by decide) (fun c12 => ?_) (fun c12 => ?_)
      · have c12 := bI_n.mp c12
        have hrm := c12
        obtain ⟨mm, hmm, em1⟩ := nI_ofI (k := 40) hrm.1 hrm.2
        subst em1
        have emm : (nI mm).toNatClampNeg = mm := nI_clamp (by omega)
        have hgood : ¬ (¬ (0 ≤ (nI sn).toInt ∧ (nI sn).toInt ≤ 3) ∨ ¬ (0 ≤ (nI q).toInt ∧ (nI q).toInt < n) ∨ ¬ (0 ≤ (nI mm).toInt ∧ (nI mm).toInt ≤ 40)) := fun y => y.elim (fun y => y hrs) (fun y => y.elim (fun y => y hro) (fun y => y hrm))
        obtain ⟨Y, hYd⟩ : ∃ Y, sheetX σ.2.1 sn 0 (nI mm) = Y := ⟨_, rfl⟩
        have hY4 : Y 4 = mSt σ := by rw [← hYd]; rfl
        have hY5 : Y 5 = σ.2.1 5 := by rw [← hYd]; rfl
        have hY6 : Y 6 = σ.2.1 6 := by rw [← hYd]; rfl
        have hY1 : Y 1 = σ.2.1 1 := by rw [← hYd]; rfl
        have hY2 : Y 2 = σ.2.1 2 := by rw [← hYd]; rfl
        have hY12 : Y 12 = (zF (σ.2.1 12) (40 * sn) mm) := by rw [← hYd]; unfold sheetX; rw [va_up_self, if_pos (by decide), emm]
        refine lv_aload_n C.1 C.2.1 dX12_film_30 rfl (lv_at hl 0 rfl) ?_
        refine mw_getr C Z hP (0) 7 (4) (by decide) rfl rfl rfl (by decide) inX12 tw_4_171 dX12_film_31 ?_
        refine lv_iconst (v := 0) C.1 C.2.1 dX12_film_34 (by decide) ?_
        refine mw_iald C Z hP (4) (0) (by decide) rfl (Nat.lt_of_lt_of_le (by decide : 5 < 961) (Nat.le_of_ble_eq_true rfl)) rfl (by decide) dX12_film_35 ?_
        refine mw_top (y := mSt σ 0) (rfl) ?_
        refine lv_istore (lv' := [(4, .int (mSt σ 0)), (0, .ref (mw_a E 0)), (1, .int (nI sn)), (2, .int (nI q)), (3, .int (nI mm))]) C.1 C.2.1 dX12_film_36 hl (by decide) rfl (fun ls hl => ?_)
        refine lv_aload_n C.1 C.2.1 dX12_film_38 rfl (lv_at hl 1 rfl) ?_
        refine lv_iload_n C.1 C.2.1 dX12_film_39 rfl (lv_at hl 2 rfl) ?_
        refine lv_iconst (v := 0) C.1 C.2.1 dX12_film_40 (by decide) ?_
        refine lv_iload_n C.1 C.2.1 dX12_film_41 rfl (lv_at hl 4 rfl) ?_
        have hsheet : (sheetF σ.2.1 (nI sn) 0 (nI mm)).2 = Y := by unfold sheetF; rw [if_neg (fun y => y.elim (fun y => y hrs) (fun y => y.elim (fun y => y (by decide)) (fun y => absurd ((nI_ltI (a := 40) (by decide) (by omega)).mp y.2) (by omega)))), if_neg (fun y => absurd y.2 (nI_pos (by omega))), esn, hYd]
        refine mw_cVi (As := [.int (nI sn), .int 0, .int (nI mm)]) (rest := []) C Z hP hS (0) (cM_sheet l E σ (nI sn) 0 (nI mm)) vb_X12_sheet tw_6_143 ⟨rfl, rfl⟩ ⟨Nat.le_of_ble_eq_true rfl, Nat.le_of_ble_eq_true rfl⟩ (by decide) rfl rfl rfl rfl hl.1 rfl (Nat.le_of_ble_eq_true rfl) dX12_film_42 ⟨Nat.zero_le _, Nat.zero_le _⟩ (fun r13 u14 H locs q15 hP hS => ?_)
        obtain ⟨-, f16⟩ := q15
        rw [hsheet] at f16
        refine lv_pop C.1 C.2.1 dX12_film_45 rfl ?_
        refine lv_iconst (v := 0) C.1 C.2.1 dX12_film_46 (by decide) ?_
        refine lv_istore (lv' := [(5, .int 0), (4, .int (mSt σ 0)), (0, .ref (mw_a E 0)), (1, .int (nI sn)), (2, .int (nI q)), (3, .int (nI mm))]) C.1 C.2.1 dX12_film_47 hl (by decide) rfl (fun ls hl => ?_)
        have lpa : ∀ (N : Nat) (k : Nat) (s' : Nat → Int32) (ςa : mw_M) (H : Heap) (locs : List Loc), mm + 1 ≤ k + N → (k ≤ mm) → (∀ v, upd s' 0 v = upd (mSt σ) 0 v) → mAr σ (flX Y s' (cpB (filmE z (mSt σ) (mCu σ q)) (zF (σ.2.1 12) (40 * sn) mm) (40 * sn) k)) ςa → va_P (mw_D E) vwCl (mw_ws shM 13 E ςa) H → va_S (mw_A 13 E) s_.heap H locs → ∀ (ls : Array Slot), lv_has ls 6 [(0, .ref (mw_a E 0)), (1, .int (nI sn)), (2, .int (nI q)), (3, .int (nI mm)), (4, .int (mSt σ 0)), (5, .int (nI k))] → mWi p_ l e_ (rmF 44 976) s_ m_ [.ref (mw_a E 0), .int (nI sn), .int (nI q), .int (nI mm)] below meth c_ E (fun r u => r = (filmF z σ.2.1 (mSt σ) (mCu σ) n (nI sn) (nI q) (nI mm)).1 ∧ mAr σ (filmF z σ.2.1 (mSt σ) (mCu σ) n (nI sn) (nI q) (nI mm)).2 u) H locs (F0 m_ 49 ls []) := by
          intro N
          induction N with
          | zero => intros; exfalso; omega
          | succ N iha =>
            intro k s' ςa H locs hNa hk hs fra hP hS ls hl
            refine lv_iload C.1 C.2.1 dX12_film_49 (lv_at hl 5 rfl) ?_
            refine lv_iload_n C.1 C.2.1 dX12_film_51 rfl (lv_at hl 3 rfl) ?_
            refine lv_icmp_ge (tgt := 88) C.1 C.2.1 dX12_film_52 (by decide) (fun c17 => ?_) (fun c17 => ?_)
            · have c17 := (nI_leI (by omega) (by omega)).mp c17
              refine lv_aload_n C.1 C.2.1 dX12_film_88 rfl (lv_at hl 0 rfl) ?_
              refine mw_getr C Z hP (0) 7 (4) (by decide) rfl rfl rfl (by decide) inX12 tw_4_171 dX12_film_89 ?_
              refine lv_iconst (v := 0) C.1 C.2.1 dX12_film_92 (by decide) ?_
              refine lv_iload C.1 C.2.1 dX12_film_93 (lv_at hl 4 rfl) ?_
              refine mw_iast C Z hP hS (4) (0) (by decide) rfl (Nat.lt_of_lt_of_le (by decide : 5 < 961) (Nat.le_of_ble_eq_true rfl)) rfl (by decide) dX12_film_95 (fun H locs hP hS => ?_)
              refine lv_iload_n C.1 C.2.1 dX12_film_96 rfl (lv_at hl 3 rfl) ?_
              have e : filmF z σ.2.1 (mSt σ) (mCu σ) n (nI sn) (nI q) (nI mm) = (nI mm, filmX z σ.2.1 (mSt σ) (mCu σ q) sn mm) := by unfold filmF; rw [if_neg hgood, esn, eqn, emm]
              exact mw_iret C hr hlk Z hP hS dX12_film_97 (⟨by rw [e], by rw [e]; have y := (fra.sa 4 0 (mSt σ 0)); rw [flX_4, show flX Y s' (cpB (filmE z (mSt σ) (mCu σ q)) (zF (σ.2.1 12) (40 * sn) mm) (40 * sn) k) 4 = s' from rfl, hs, show upd (mSt σ) 0 (mSt σ 0) = Y 4 from (upd_self _ _).trans hY4.symm, flX_n4, show k = mm by omega] at y; unfold filmX; rw [hYd]; exact y⟩)
            · have c17 : _ := (not_congr (nI_leI (by omega) (by omega))).mp c17
              refine lv_aload_n C.1 C.2.1 dX12_film_55 rfl (lv_at hl 0 rfl) ?_
              refine mw_getr C Z hP (0) 7 (4) (by decide) rfl rfl rfl (by decide) inX12 tw_4_171 dX12_film_56 ?_
              refine lv_iconst (v := 0) C.1 C.2.1 dX12_film_59 (by decide) ?_
              refine lv_iload C.1 C.2.1 dX12_film_60 (lv_at hl 5 rfl) ?_
              refine lv_iconst (v := 1) C.1 C.2.1 dX12_film_62 (by decide) ?_
              refine lv_iadd C.1 C.2.1 dX12_film_63 ?_
              refine mw_top (y := nI (k + 1)) (nI_1 _) ?_
              refine mw_iast C Z hP hS (4) (0) (by decide) rfl (Nat.lt_of_lt_of_le (by decide : 5 < 961) (Nat.le_of_ble_eq_true rfl)) rfl (by decide) dX12_film_64 (fun H locs hP hS => ?_)
              have h65 : mAr σ (flX Y (upd (mSt σ) 0 (nI (k + 1))) (cpB (filmE z (mSt σ) (mCu σ q)) (zF (σ.2.1 12) (40 * sn) mm) (40 * sn) k)) (mw_sa ςa 4 0 (nI (k + 1))) := by have y := (fra.sa 4 0 (nI (k + 1))); rw [flX_4, show flX Y s' (cpB (filmE z (mSt σ) (mCu σ q)) (zF (σ.2.1 12) (40 * sn) mm) (40 * sn) k) 4 = s' from rfl, hs] at y; exact y
              refine lv_aload_n C.1 C.2.1 dX12_film_65 rfl (lv_at hl 0 rfl) ?_
              refine mw_getr C Z hP (0) 33 (12) (by decide) rfl rfl rfl (by decide) inX12 tw_4_197 dX12_film_66 ?_
              refine lv_bipush (v := 40) C.1 C.2.1 dX12_film_69 (by decide) ?_
              refine lv_iload_n C.1 C.2.1 dX12_film_71 rfl (lv_at hl 1 rfl) ?_
              refine lv_imul C.1 C.2.1 dX12_film_72 ?_
              refine mw_top (y := nI (40 * sn)) (pk_mul 40 sn) ?_
              refine lv_iload C.1 C.2.1 dX12_film_73 (lv_at hl 5 rfl) ?_
              refine lv_iadd C.1 C.2.1 dX12_film_75 ?_
              refine mw_top (y := nI (40 * sn + k)) (nI_add _ _) ?_
              refine lv_aload_n C.1 C.2.1 dX12_film_76 rfl (lv_at hl 0 rfl) ?_
              refine lv_iload_n C.1 C.2.1 dX12_film_77 rfl (lv_at hl 2 rfl) ?_
              have hst : mSt (mw_sa ςa 4 0 (nI (k + 1))) = upd (mSt σ) 0 (nI (k + 1)) := by unfold mSt; rw [h65.1]; rfl
              have hcu : mCu (mw_sa ςa 4 0 (nI (k + 1))) q = mCu σ q := by unfold mCu; rw [h65.1, show flX Y (upd (mSt σ) 0 (nI (k + 1))) (cpB (filmE z (mSt σ) (mCu σ q)) (zF (σ.2.1 12) (40 * sn) mm) (40 * sn) k) 5 = σ.2.1 5 from hY5, show flX Y (upd (mSt σ) 0 (nI (k + 1))) (cpB (filmE z (mSt σ) (mCu σ q)) (zF (σ.2.1 12) (40 * sn) mm) (40 * sn) k) 6 = σ.2.1 6 from hY6]
              refine mw_cVi (As := [.int (nI q)]) (rest := [.int (nI (40 * sn + k)), .ref (mw_a E 12)]) C Z hP hS (0) (cM_eatsOf l E (mw_sa ςa 4 0 (nI (k + 1))) z q (by omega) (h65.ru hY1 hY2 hru)) vb_X12_eatsOf tw_5_52 ⟨rfl, rfl⟩ ⟨Nat.le_of_ble_eq_true rfl, Nat.le_of_ble_eq_true rfl⟩ (by decide) rfl rfl rfl rfl hl.1 rfl (Nat.le_of_ble_eq_true rfl) dX12_film_78 ⟨Nat.zero_le _, Nat.zero_le _⟩ (fun r18 u19 H locs q20 hP hS => ?_)
              obtain ⟨e22, f21⟩ := q20
              rw [hst, hcu] at e22
              subst e22
              refine mw_iast C Z hP hS (12) (40 * sn + k) (by decide) rfl (Nat.lt_of_lt_of_le (by decide : 160 < 961) (Nat.le_of_ble_eq_true rfl)) rfl (by omega) dX12_film_81 (fun H locs hP hS => ?_)
              have hcell : flX Y (upd (mSt σ) 0 (nI (k + 1))) (cpB (filmE z (mSt σ) (mCu σ q)) (zF (σ.2.1 12) (40 * sn) mm) (40 * sn) k) 12 = cpB (filmE z (mSt σ) (mCu σ q)) (zF (σ.2.1 12) (40 * sn) mm) (40 * sn) k := rfl
              refine lv_iinc (v := nI (k + 1)) (lv' := [(5, .int (nI (k + 1))), (0, .ref (mw_a E 0)), (1, .int (nI sn)), (2, .int (nI q)), (3, .int (nI mm)), (4, .int (mSt σ 0))]) C.1 C.2.1 dX12_film_82 hl (k := 5) rfl (nI_1 _) (by decide) rfl (fun ls hl => ?_)
              refine lv_goto (tgt := 49) C.1 C.2.1 dX12_film_85 (by decide) ?_
              exact iha (k + 1) (upd s' 0 (nI (k + 1))) (mw_sa u19 12 (40 * sn + k) (filmE z (mSt σ) (mCu σ q) k)) _ _ (by omega) (by omega) (fun v => by rw [upd_upd]; exact hs v) (by have y := ((h65.tr f21).sa 12 (40 * sn + k) (filmE z (mSt σ) (mCu σ q) k)); rw [flX_12, hcell, cpB_s, ← hs] at y; exact y) hP hS ls (lv_sub hl [1, 2, 3, 4, 5, 0] rfl)
        exact lpa (mm + 1) 0 (mSt σ) u14 _ _ (by omega) (by omega) (fun v => rfl) (by rw [cpB_0, ← hY4, ← hY12, flX_id]; exact f16) hP hS ls (lv_sub hl [2, 3, 4, 5, 1, 0] rfl)
      · have c12 := bI_0.mp c12
        refine lv_bipush (v := -2) C.1 C.2.1 dX12_film_27 (by decide) ?_
        exact mw_iret C hr hlk Z hP hS dX12_film_29 (⟨by unfold filmF; rw [if_pos (Or.inr (Or.inr c12))], by unfold filmF; rw [if_pos (Or.inr (Or.inr c12))]; exact mFs.ar (mFs.rf σ)⟩)
