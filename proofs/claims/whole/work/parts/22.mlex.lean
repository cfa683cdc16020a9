/-! THE REFERENCE'S LEXER -/
/-- nothing but the lexer's own fields has changed -/
def mFr (σ u : mw_M) : Prop := u.2.1 = σ.2.1 ∧ ∀ f, f < 19 ∨ 22 < f → u.1 0 f = σ.1 0 f
theorem mFr.rf (σ : mw_M) : mFr σ σ := ⟨rfl, fun _ _ => rfl⟩
theorem mFr.tr {a b d : mw_M} (h1 : mFr a b) (h2 : mFr b d) : mFr a d := ⟨h2.1.trans h1.1, fun f hf => (h2.2 f hf).trans (h1.2 f hf)⟩
theorem mFr.si {σ u : mw_M} (h : mFr σ u) {k : Nat} (hk : 19 ≤ k ∧ k ≤ 22) (v : Int32) : mFr σ (mw_si u 0 k v) := by
  refine ⟨h.1, fun f hf => ?_⟩
  show va_up u.1 0 (va_up (u.1 0) k v) 0 f = _
  rw [va_up_self, va_up_ne _ _ (by omega)]
  exact h.2 f hf
theorem mFr.sl {σ u : mw_M} (h : mFr σ u) (k f : Nat) (v : Int64) : mFr σ (mw_sl u k f v) := h
theorem mFr.tx {σ u : mw_M} {t n : Nat} {bs : Nat → Int32} (h : mFr σ u) (hT : mTx σ t n bs) : mTx u t n bs := by
  obtain ⟨h1, h2, h3, h4, h5⟩ := hT
  refine ⟨(h.2 17 (by omega)).trans h1, (h.2 18 (by omega)).trans h2, h3, h4, fun j hj => ?_⟩
  rw [h.1]
  exact h5 j hj
/-- the token at hand is the first of ts, and the lexer stands behind it -/
def mLx (σ : mw_M) (n : Nat) (bs : Nat → Int32) (ts : List (Nat × Nat)) : Prop := ∃ q e : Nat, q ≤ n ∧ e ≤ n ∧ σ.1 0 19 = nI e ∧ σ.1 0 21 = nI q ∧ ts = tkA bs n q ∧
  ((n ≤ q ∧ σ.1 0 20 = 0) ∨ (q < n ∧ ¬ (byF bs n q = 32 ∨ byF bs n q = 10) ∧
    (((97 ≤ (byF bs n q).toInt ∧ (byF bs n q).toInt ≤ 122) ∧ σ.1 0 20 = 1 ∧ e = enF bs n q) ∨
     (¬ (97 ≤ (byF bs n q).toInt ∧ (byF bs n q).toInt ≤ 122) ∧ (48 ≤ (byF bs n q).toInt ∧ (byF bs n q).toInt ≤ 57) ∧ σ.1 0 20 = (if 4 < e - q then 4 else 2) ∧ (e - q ≤ 4 → σ.2.2 0 22 = lN (nvF bs n (e - q) q 0)) ∧ e = enF bs n q) ∨
     (¬ (97 ≤ (byF bs n q).toInt ∧ (byF bs n q).toInt ≤ 122) ∧ ¬ (48 ≤ (byF bs n q).toInt ∧ (byF bs n q).toInt ≤ 57) ∧ scF (byF bs n q) ≠ 22 ∧ σ.1 0 20 = 3 ∧ σ.2.2 0 22 = (byF bs n q).toInt64 ∧ e = enF bs n q) ∨
     (¬ (97 ≤ (byF bs n q).toInt ∧ (byF bs n q).toInt ≤ 122) ∧ ¬ (48 ≤ (byF bs n q).toInt ∧ (byF bs n q).toInt ≤ 57) ∧ scF (byF bs n q) = 22 ∧ σ.1 0 20 = 4))))
theorem nvF_snoc (bs : Nat → Int32) (n : Nat) : ∀ k q w, nvF bs n (k + 1) q w = 10 * nvF bs n k q w + ((byF bs n (q + k)).toInt - 48).toNat
  | 0, q, w => rfl
  | k + 1, q, w => by
    show nvF bs n (k + 1) (q + 1) _ = 10 * nvF bs n k (q + 1) _ + _
    rw [nvF_snoc bs n k (q + 1), show q + 1 + k = q + (k + 1) by omega]
theorem di_toL {b : Int32} (h : 48 ≤ b.toInt ∧ b.toInt ≤ 57) : ∃ d : Nat, d ≤ 9 ∧ b.toInt64 = lN (d + 48) ∧ (b.toInt - 48).toNat = d := by
  refine ⟨(b.toInt - 48).toNat, by omega, ?_, rfl⟩
  rw [nl_eq, nl_i, lN_toInt (by omega)]
  omega
theorem nv_stepL {b : Int32} (h : 48 ≤ b.toInt ∧ b.toInt ≤ 57) (x : Nat) : (10 * lN x + b.toInt64) - 48 = lN (10 * x + (b.toInt - 48).toNat) := by
  obtain ⟨d, -, e1, e2⟩ := di_toL h
  rw [e1, e2, show (10 : Int64) = lN 10 from rfl, show (48 : Int64) = lN 48 from rfl, lN_mul, lN_add, lN_sub (by omega)]
  congr 1

set_option maxHeartbeats 4000000 in
set_option maxRecDepth 100000 in
theorem cM_next (l : Launch) (E : mw_E) (σ : mw_M) (t n h0 : Nat) (bs : Nat → Int32) (hT : mTx σ t n bs) (hh : σ.1 0 19 = nI h0) (hle : h0 ≤ n) : mw_Cv shM 13 gM l yX12_next cX12_next 3 none (rmF 1 30) E [.ref (mw_a E 0)] σ (fun u => mLx u n bs (tkA bs n h0) ∧ mFr σ u) := by
  refine mw_of (by decide) gM_ok (Nat.le_of_ble_eq_true rfl) ?_
  intro p_ e_ s_ m_ below meth c_ C hr hlk Z hP ls hl
  have C : CallFix p_ m_ c_ cX12_next 3 s_ _ lw_good RX12 := C
  have hl : lv_has ls 3 [(0, .ref (mw_a E 0))] := hl
  have hS : va_S (mw_A 13 E) s_.heap s_.heap [] := va_S.rf
  have h4 := hT.2.2.2.1
  have lp : ∀ (N h : Nat) (ς : mw_M) (H : Heap) (locs : List Loc), n + 1 ≤ h + N → h ≤ n → skF bs n 161 h0 = skF bs n 161 h → ς.1 0 19 = nI h → mFr σ ς → mTx ς t n bs → va_P (mw_D E) vwCl (mw_ws shM 13 E ς) H → va_S (mw_A 13 E) s_.heap H locs → mWv p_ l e_ (rmF 1 30) s_ m_ [.ref (mw_a E 0)] below meth c_ E (fun u => mLx u n bs (tkA bs n h0) ∧ mFr σ u) H locs (F0 m_ 0 ls []) := by
    intro N
    induction N with
    | zero => intro h ς H locs h1 h2; exact absurd h1 (by omega)
    | succ N ih =>
      intro h ς H locs hN hle hsk hh hf hT hP hS
      refine lv_aload_n C.1 C.2.1 dX12_next_0 rfl (lv_at hl 0 rfl) ?_
      refine lv_aload_n C.1 C.2.1 dX12_next_1 rfl (lv_at hl 0 rfl) ?_
      refine mw_geti C Z hP (0) 19 (by decide) rfl rfl rfl (by decide) inX12 tw_4_183 dX12_next_2 ?_
      refine mw_top (y := nI h) (hh) ?_
      refine mw_cVi (As := [.int (nI h)]) (rest := []) C Z hP hS (0) (cM_byteAt l E ς t n h bs hT (by omega)) vb_X12_byteAt tw_5_68 ⟨rfl, rfl⟩ ⟨Nat.le_of_ble_eq_true rfl, Nat.le_of_ble_eq_true rfl⟩ (by decide) rfl rfl rfl rfl hl.1 rfl (Nat.le_of_ble_eq_true rfl) dX12_next_5 ⟨Nat.zero_le _, Nat.zero_le _⟩ (fun r1 u2 H locs q3 hP hS => ?_)
      obtain ⟨rfl, q3u⟩ := q3
      rw [q3u] at hP; clear q3u
      refine lv_bipush (v := 32) C.1 C.2.1 dX12_next_8 (by decide) ?_
      refine lv_icmp_eq (tgt := 26) C.1 C.2.1 dX12_next_10 (by decide) (fun c4 => ?_) (fun c4 => ?_)
      · refine lv_aload_n C.1 C.2.1 dX12_next_26 rfl (lv_at hl 0 rfl) ?_
        refine lv_dup C.1 C.2.1 dX12_next_27 rfl ?_
        refine mw_geti C Z hP (0) 19 (by decide) rfl rfl rfl (by decide) inX12 tw_4_183 dX12_next_28 ?_
        refine mw_top (y := nI h) (hh) ?_
        refine lv_iconst (v := 1) C.1 C.2.1 dX12_next_31 (by decide) ?_
        refine lv_iadd C.1 C.2.1 dX12_next_32 ?_
        refine mw_top (y := nI (h + 1)) (nI_1 _) ?_
        refine mw_puti C Z hP hS (0) 19 (by decide) rfl rfl rfl (by decide) inX12 tyX12 tyX12_ok nmX12 rfl tw_4_183 rfl rfl dX12_next_33 (fun H locs hP hS => ?_)
        refine lv_goto (tgt := 0) C.1 C.2.1 dX12_next_36 (by decide) ?_
        exact ih (h + 1) (mw_si ς 0 19 (nI (h + 1))) _ _ (by omega) (byF_bl (Or.inl c4)) (hsk.trans (skF_step h4 (Or.inl c4))) rfl (hf.si (by decide) _) hT hP hS
      · refine lv_aload_n C.1 C.2.1 dX12_next_13 rfl (lv_at hl 0 rfl) ?_
        refine lv_aload_n C.1 C.2.1 dX12_next_14 rfl (lv_at hl 0 rfl) ?_
        refine mw_geti C Z hP (0) 19 (by decide) rfl rfl rfl (by decide) inX12 tw_4_183 dX12_next_15 ?_
        refine mw_top (y := nI h) (hh) ?_
        refine mw_cVi (As := [.int (nI h)]) (rest := []) C Z hP hS (0) (cM_byteAt l E ς t n h bs hT (by omega)) vb_X12_byteAt tw_5_68 ⟨rfl, rfl⟩ ⟨Nat.le_of_ble_eq_true rfl, Nat.le_of_ble_eq_true rfl⟩ (by decide) rfl rfl rfl rfl hl.1 rfl (Nat.le_of_ble_eq_true rfl) dX12_next_18 ⟨Nat.zero_le _, Nat.zero_le _⟩ (fun r5 u6 H locs q7 hP hS => ?_)
        obtain ⟨rfl, q7u⟩ := q7
        rw [q7u] at hP; clear q7u
        refine lv_bipush (v := 10) C.1 C.2.1 dX12_next_21 (by decide) ?_
        refine lv_icmp_ne (tgt := 39) C.1 C.2.1 dX12_next_23 (by decide) (fun c8 => ?_) (fun c8 => ?_)
        · have hnb : ¬ (byF bs n h = 32 ∨ byF bs n h = 10) := fun q => q.elim c4 c8
          have hqs : skF bs n 161 h0 = h := hsk.trans (skF_stop hnb)
          have htk : tkA bs n h0 = tkA bs n h := by rw [tkA_sk h4 n h0 (by omega), hqs]
          refine lv_aload_n C.1 C.2.1 dX12_next_39 rfl (lv_at hl 0 rfl) ?_
          refine lv_aload_n C.1 C.2.1 dX12_next_40 rfl (lv_at hl 0 rfl) ?_
          refine mw_geti C Z hP (0) 19 (by decide) rfl rfl rfl (by decide) inX12 tw_4_183 dX12_next_41 ?_
          refine mw_top (y := nI h) (hh) ?_
          refine mw_puti C Z hP hS (0) 21 (by decide) rfl rfl rfl (by decide) inX12 tyX12 tyX12_ok nmX12 rfl tw_4_185 rfl rfl dX12_next_44 (fun H locs hP hS => ?_)
          refine lv_aload_n C.1 C.2.1 dX12_next_47 rfl (lv_at hl 0 rfl) ?_
          refine lv_aload_n C.1 C.2.1 dX12_next_48 rfl (lv_at hl 0 rfl) ?_
          refine mw_geti C Z hP (0) 19 (by decide) rfl rfl rfl (by decide) inX12 tw_4_183 dX12_next_49 ?_
          refine mw_top (y := nI h) (hh) ?_
          refine mw_cVi (As := [.int (nI h)]) (rest := []) C Z hP hS (0) (cM_byteAt l E (mw_si ς 0 21 (nI h)) t n h bs hT (by omega)) vb_X12_byteAt tw_5_68 ⟨rfl, rfl⟩ ⟨Nat.le_of_ble_eq_true rfl, Nat.le_of_ble_eq_true rfl⟩ (by decide) rfl rfl rfl rfl hl.1 rfl (Nat.le_of_ble_eq_true rfl) dX12_next_52 ⟨Nat.zero_le _, Nat.zero_le _⟩ (fun r9 u10 H locs q11 hP hS => ?_)
          obtain ⟨rfl, q11u⟩ := q11
          rw [q11u] at hP; clear q11u
          refine lv_istore_n (lv' := [(1, .int (byF bs n h)), (0, .ref (mw_a E 0))]) C.1 C.2.1 dX12_next_55 rfl hl (by decide) rfl (fun ls hl => ?_)
          refine lv_aload_n C.1 C.2.1 dX12_next_56 rfl (lv_at hl 1 rfl) ?_
          refine lv_iconst (v := 4) C.1 C.2.1 dX12_next_57 (by decide) ?_
          refine mw_puti C Z hP hS (0) 20 (by decide) rfl rfl rfl (by decide) inX12 tyX12 tyX12_ok nmX12 rfl tw_4_184 rfl rfl dX12_next_58 (fun H locs hP hS => ?_)
          refine lv_iload_n C.1 C.2.1 dX12_next_61 rfl (lv_at hl 0 rfl) ?_
          refine lv_if_ge (tgt := 81) C.1 C.2.1 dX12_next_62 (by decide) (fun c12 => ?_) (fun c12 => ?_)
          · have hqn : h < n := by
              rcases Nat.lt_or_ge h n with z | z
              · exact z
              · rw [byF_out z] at c12; exact absurd c12 (by decide)
            refine lv_iload_n C.1 C.2.1 dX12_next_81 rfl (lv_at hl 0 rfl) ?_
            refine lv_i2l C.1 C.2.1 dX12_next_82 rfl ?_
            refine lv_ldc2 (own := RX12) C.1 C.2.1 C.2.2.2.1 (C.2.2.2.2 _ tw_5_72) dX12_next_83 ?_
            refine lv_ldc2 (own := RX12) C.1 C.2.1 C.2.2.2.1 (C.2.2.2.2 _ tw_5_73) dX12_next_86 ?_
            refine mw_cSi (As := [.long ((byF bs n h).toInt64), .long (97), .long (122)]) (rest := []) C Z hP hS (cM_in l E (mw_si (mw_si ς 0 21 (nI h)) 0 20 4) ((byF bs n h).toInt64) 97 122 (97 ≤ (byF bs n h).toInt ∧ (byF bs n h).toInt ≤ 122) (by first | (simp only [nl_i]; exact Iff.rfl) | (simp only [nl_i]; decide) | simp [nl_i])) sb_X12_in tw_5_33 ⟨rfl, rfl⟩ ⟨Nat.le_of_ble_eq_true rfl, Nat.le_of_ble_eq_true rfl⟩ rfl hl.1 rfl (Nat.le_of_ble_eq_true rfl) dX12_next_89 ⟨Nat.zero_le _, Nat.zero_le _⟩ (fun r13 u14 H locs q15 hP hS => ?_)
            obtain ⟨rfl, q15u⟩ := q15
            rw [q15u] at hP; clear q15u
            refine lv_if_eq (tgt := 134) C.1 C.2.1 dX12_next_92 (by decide) (fun c16 => ?_) (fun c16 => ?_)
            · have c16 := bI_0.mp c16
              refine lv_iload_n C.1 C.2.1 dX12_next_134 rfl (lv_at hl 0 rfl) ?_
              refine lv_i2l C.1 C.2.1 dX12_next_135 rfl ?_
              refine lv_ldc2 (own := RX12) C.1 C.2.1 C.2.2.2.1 (C.2.2.2.2 _ tw_5_74) dX12_next_136 ?_
              refine lv_ldc2 (own := RX12) C.1 C.2.1 C.2.2.2.1 (C.2.2.2.2 _ tw_5_75) dX12_next_139 ?_
              refine mw_cSi (As := [.long ((byF bs n h).toInt64), .long (48), .long (57)]) (rest := []) C Z hP hS (cM_in l E (mw_si (mw_si ς 0 21 (nI h)) 0 20 4) ((byF bs n h).toInt64) 48 57 (48 ≤ (byF bs n h).toInt ∧ (byF bs n h).toInt ≤ 57) (by first | (simp only [nl_i]; exact Iff.rfl) | (simp only [nl_i]; decide) | simp [nl_i])) sb_X12_in tw_5_33 ⟨rfl, rfl⟩ ⟨Nat.le_of_ble_eq_true rfl, Nat.le_of_ble_eq_true rfl⟩ rfl hl.1 rfl (Nat.le_of_ble_eq_true rfl) dX12_next_142 ⟨Nat.zero_le _, Nat.zero_le _⟩ (fun r17 u18 H locs q19 hP hS => ?_)
              obtain ⟨rfl, q19u⟩ := q19
              rw [q19u] at hP; clear q19u
              refine lv_if_eq (tgt := 252) C.1 C.2.1 dX12_next_145 (by decide) (fun c20 => ?_) (fun c20 => ?_)
              · have c20 := bI_0.mp c20
                refine lv_iload_n C.1 C.2.1 dX12_next_252 rfl (lv_at hl 0 rfl) ?_
                refine lv_bipush (v := 40) C.1 C.2.1 dX12_next_253 (by decide) ?_
                refine lv_icmp_eq (tgt := 300) C.1 C.2.1 dX12_next_255 (by decide) (fun c21 => ?_) (fun c21 => ?_)
                · refine lv_aload_n C.1 C.2.1 dX12_next_300 rfl (lv_at hl 1 rfl) ?_
                  refine lv_iconst (v := 3) C.1 C.2.1 dX12_next_301 (by decide) ?_
                  refine mw_puti C Z hP hS (0) 20 (by decide) rfl rfl rfl (by decide) inX12 tyX12 tyX12_ok nmX12 rfl tw_4_184 rfl rfl dX12_next_302 (fun H locs hP hS => ?_)
                  refine lv_aload_n C.1 C.2.1 dX12_next_305 rfl (lv_at hl 1 rfl) ?_
                  refine lv_iload_n C.1 C.2.1 dX12_next_306 rfl (lv_at hl 0 rfl) ?_
                  refine lv_i2l C.1 C.2.1 dX12_next_307 rfl ?_
                  refine mw_putl C Z hP hS (0) 22 (by decide) rfl rfl rfl (by decide) inX12 tyX12 tyX12_ok nmX12 rfl tw_4_186 rfl rfl dX12_next_308 (fun H locs hP hS => ?_)
                  refine lv_aload_n C.1 C.2.1 dX12_next_311 rfl (lv_at hl 1 rfl) ?_
                  refine lv_dup C.1 C.2.1 dX12_next_312 rfl ?_
                  refine mw_geti C Z hP (0) 19 (by decide) rfl rfl rfl (by decide) inX12 tw_4_183 dX12_next_313 ?_
                  refine mw_top (y := nI h) (hh) ?_
                  refine lv_iconst (v := 1) C.1 C.2.1 dX12_next_316 (by decide) ?_
                  refine lv_iadd C.1 C.2.1 dX12_next_317 ?_
                  refine mw_top (y := nI (h + 1)) (nI_1 _) ?_
                  refine mw_puti C Z hP hS (0) 19 (by decide) rfl rfl rfl (by decide) inX12 tyX12 tyX12_ok nmX12 rfl tw_4_183 rfl rfl dX12_next_318 (fun H locs hP hS => ?_)
                  have hsc : scF (byF bs n h) ≠ 22 := by rw [c21]; decide
                  have e3 : h + 1 = enF bs n h := by unfold enF; rw [if_neg c16, if_neg c20]
                  exact mw_vret C hr hlk Z hP hS dX12_next_321 (⟨⟨h, h + 1, by omega, by omega, rfl, rfl, htk, Or.inr ⟨hqn, hnb, Or.inr (Or.inr (Or.inl ⟨c16, c20, hsc, rfl, rfl, e3⟩))⟩⟩, (((((hf.si (by decide) _).si (by decide) _).si (by decide) _).sl 0 22 _).si (by decide) _)⟩)
                · refine lv_iload_n C.1 C.2.1 dX12_next_258 rfl (lv_at hl 0 rfl) ?_
                  refine lv_bipush (v := 41) C.1 C.2.1 dX12_next_259 (by decide) ?_
                  refine lv_icmp_eq (tgt := 300) C.1 C.2.1 dX12_next_261 (by decide) (fun c22 => ?_) (fun c22 => ?_)
                  · refine lv_aload_n C.1 C.2.1 dX12_next_300 rfl (lv_at hl 1 rfl) ?_
                    refine lv_iconst (v := 3) C.1 C.2.1 dX12_next_301 (by decide) ?_
                    refine mw_puti C Z hP hS (0) 20 (by decide) rfl rfl rfl (by decide) inX12 tyX12 tyX12_ok nmX12 rfl tw_4_184 rfl rfl dX12_next_302 (fun H locs hP hS => ?_)
                    refine lv_aload_n C.1 C.2.1 dX12_next_305 rfl (lv_at hl 1 rfl) ?_
                    refine lv_iload_n C.1 C.2.1 dX12_next_306 rfl (lv_at hl 0 rfl) ?_
                    refine lv_i2l C.1 C.2.1 dX12_next_307 rfl ?_
                    refine mw_putl C Z hP hS (0) 22 (by decide) rfl rfl rfl (by decide) inX12 tyX12 tyX12_ok nmX12 rfl tw_4_186 rfl rfl dX12_next_308 (fun H locs hP hS => ?_)
                    refine lv_aload_n C.1 C.2.1 dX12_next_311 rfl (lv_at hl 1 rfl) ?_
                    refine lv_dup C.1 C.2.1 dX12_next_312 rfl ?_
                    refine mw_geti C Z hP (0) 19 (by decide) rfl rfl rfl (by decide) inX12 tw_4_183 dX12_next_313 ?_
                    refine mw_top (y := nI h) (hh) ?_
                    refine lv_iconst (v := 1) C.1 C.2.1 dX12_next_316 (by decide) ?_
                    refine lv_iadd C.1 C.2.1 dX12_next_317 ?_
                    refine mw_top (y := nI (h + 1)) (nI_1 _) ?_
                    refine mw_puti C Z hP hS (0) 19 (by decide) rfl rfl rfl (by decide) inX12 tyX12 tyX12_ok nmX12 rfl tw_4_183 rfl rfl dX12_next_318 (fun H locs hP hS => ?_)
                    have hsc : scF (byF bs n h) ≠ 22 := by rw [c22]; decide
                    have e3 : h + 1 = enF bs n h := by unfold enF; rw [if_neg c16, if_neg c20]
                    exact mw_vret C hr hlk Z hP hS dX12_next_321 (⟨⟨h, h + 1, by omega, by omega, rfl, rfl, htk, Or.inr ⟨hqn, hnb, Or.inr (Or.inr (Or.inl ⟨c16, c20, hsc, rfl, rfl, e3⟩))⟩⟩, (((((hf.si (by decide) _).si (by decide) _).si (by decide) _).sl 0 22 _).si (by decide) _)⟩)
                  · refine lv_iload_n C.1 C.2.1 dX12_next_264 rfl (lv_at hl 0 rfl) ?_
                    refine lv_bipush (v := 59) C.1 C.2.1 dX12_next_265 (by decide) ?_
                    refine lv_icmp_eq (tgt := 300) C.1 C.2.1 dX12_next_267 (by decide) (fun c23 => ?_) (fun c23 => ?_)
                    · refine lv_aload_n C.1 C.2.1 dX12_next_300 rfl (lv_at hl 1 rfl) ?_
                      refine lv_iconst (v := 3) C.1 C.2.1 dX12_next_301 (by decide) ?_
                      refine mw_puti C Z hP hS (0) 20 (by decide) rfl rfl rfl (by decide) inX12 tyX12 tyX12_ok nmX12 rfl tw_4_184 rfl rfl dX12_next_302 (fun H locs hP hS => ?_)
                      refine lv_aload_n C.1 C.2.1 dX12_next_305 rfl (lv_at hl 1 rfl) ?_
                      refine lv_iload_n C.1 C.2.1 dX12_next_306 rfl (lv_at hl 0 rfl) ?_
                      refine lv_i2l C.1 C.2.1 dX12_next_307 rfl ?_
                      refine mw_putl C Z hP hS (0) 22 (by decide) rfl rfl rfl (by decide) inX12 tyX12 tyX12_ok nmX12 rfl tw_4_186 rfl rfl dX12_next_308 (fun H locs hP hS => ?_)
                      refine lv_aload_n C.1 C.2.1 dX12_next_311 rfl (lv_at hl 1 rfl) ?_
                      refine lv_dup C.1 C.2.1 dX12_next_312 rfl ?_
                      refine mw_geti C Z hP (0) 19 (by decide) rfl rfl rfl (by decide) inX12 tw_4_183 dX12_next_313 ?_
                      refine mw_top (y := nI h) (hh) ?_
                      refine lv_iconst (v := 1) C.1 C.2.1 dX12_next_316 (by decide) ?_
                      refine lv_iadd C.1 C.2.1 dX12_next_317 ?_
                      refine mw_top (y := nI (h + 1)) (nI_1 _) ?_
                      refine mw_puti C Z hP hS (0) 19 (by decide) rfl rfl rfl (by decide) inX12 tyX12 tyX12_ok nmX12 rfl tw_4_183 rfl rfl dX12_next_318 (fun H locs hP hS => ?_)
                      have hsc : scF (byF bs n h) ≠ 22 := by rw [c23]; decide
                      have e3 : h + 1 = enF bs n h := by unfold enF; rw [if_neg c16, if_neg c20]
                      exact mw_vret C hr hlk Z hP hS dX12_next_321 (⟨⟨h, h + 1, by omega, by omega, rfl, rfl, htk, Or.inr ⟨hqn, hnb, Or.inr (Or.inr (Or.inl ⟨c16, c20, hsc, rfl, rfl, e3⟩))⟩⟩, (((((hf.si (by decide) _).si (by decide) _).si (by decide) _).sl 0 22 _).si (by decide) _)⟩)
                    · refine lv_iload_n C.1 C.2.1 dX12_next_270 rfl (lv_at hl 0 rfl) ?_
                      refine lv_bipush (v := 43) C.1 C.2.1 dX12_next_271 (by decide) ?_
                      refine lv_icmp_eq (tgt := 300) C.1 C.2.1 dX12_next_273 (by decide) (fun c24 => ?_) (fun c24 => ?_)
                      · refine lv_aload_n C.1 C.2.1 dX12_next_300 rfl (lv_at hl 1 rfl) ?_
                        refine lv_iconst (v := 3) C.1 C.2.1 dX12_next_301 (by decide) ?_
                        refine mw_puti C Z hP hS (0) 20 (by decide) rfl rfl rfl (by decide) inX12 tyX12 tyX12_ok nmX12 rfl tw_4_184 rfl rfl dX12_next_302 (fun H locs hP hS => ?_)
                        refine lv_aload_n C.1 C.2.1 dX12_next_305 rfl (lv_at hl 1 rfl) ?_
                        refine lv_iload_n C.1 C.2.1 dX12_next_306 rfl (lv_at hl 0 rfl) ?_
                        refine lv_i2l C.1 C.2.1 dX12_next_307 rfl ?_
                        refine mw_putl C Z hP hS (0) 22 (by decide) rfl rfl rfl (by decide) inX12 tyX12 tyX12_ok nmX12 rfl tw_4_186 rfl rfl dX12_next_308 (fun H locs hP hS => ?_)
                        refine lv_aload_n C.1 C.2.1 dX12_next_311 rfl (lv_at hl 1 rfl) ?_
                        refine lv_dup C.1 C.2.1 dX12_next_312 rfl ?_
                        refine mw_geti C Z hP (0) 19 (by decide) rfl rfl rfl (by decide) inX12 tw_4_183 dX12_next_313 ?_
                        refine mw_top (y := nI h) (hh) ?_
                        refine lv_iconst (v := 1) C.1 C.2.1 dX12_next_316 (by decide) ?_
                        refine lv_iadd C.1 C.2.1 dX12_next_317 ?_
                        refine mw_top (y := nI (h + 1)) (nI_1 _) ?_
                        refine mw_puti C Z hP hS (0) 19 (by decide) rfl rfl rfl (by decide) inX12 tyX12 tyX12_ok nmX12 rfl tw_4_183 rfl rfl dX12_next_318 (fun H locs hP hS => ?_)
                        have hsc : scF (byF bs n h) ≠ 22 := by rw [c24]; decide
                        have e3 : h + 1 = enF bs n h := by unfold enF; rw [if_neg c16, if_neg c20]
                        exact mw_vret C hr hlk Z hP hS dX12_next_321 (⟨⟨h, h + 1, by omega, by omega, rfl, rfl, htk, Or.inr ⟨hqn, hnb, Or.inr (Or.inr (Or.inl ⟨c16, c20, hsc, rfl, rfl, e3⟩))⟩⟩, (((((hf.si (by decide) _).si (by decide) _).si (by decide) _).sl 0 22 _).si (by decide) _)⟩)
                      · refine lv_iload_n C.1 C.2.1 dX12_next_276 rfl (lv_at hl 0 rfl) ?_
                        refine lv_bipush (v := 45) C.1 C.2.1 dX12_next_277 (by decide) ?_
                        refine lv_icmp_eq (tgt := 300) C.1 C.2.1 dX12_next_279 (by decide) (fun c25 => ?_) (fun c25 => ?_)
                        · refine lv_aload_n C.1 C.2.1 dX12_next_300 rfl (lv_at hl 1 rfl) ?_
                          refine lv_iconst (v := 3) C.1 C.2.1 dX12_next_301 (by decide) ?_
                          refine mw_puti C Z hP hS (0) 20 (by decide) rfl rfl rfl (by decide) inX12 tyX12 tyX12_ok nmX12 rfl tw_4_184 rfl rfl dX12_next_302 (fun H locs hP hS => ?_)
                          refine lv_aload_n C.1 C.2.1 dX12_next_305 rfl (lv_at hl 1 rfl) ?_
                          refine lv_iload_n C.1 C.2.1 dX12_next_306 rfl (lv_at hl 0 rfl) ?_
                          refine lv_i2l C.1 C.2.1 dX12_next_307 rfl ?_
                          refine mw_putl C Z hP hS (0) 22 (by decide) rfl rfl rfl (by decide) inX12 tyX12 tyX12_ok nmX12 rfl tw_4_186 rfl rfl dX12_next_308 (fun H locs hP hS => ?_)
                          refine lv_aload_n C.1 C.2.1 dX12_next_311 rfl (lv_at hl 1 rfl) ?_
                          refine lv_dup C.1 C.2.1 dX12_next_312 rfl ?_
                          refine mw_geti C Z hP (0) 19 (by decide) rfl rfl rfl (by decide) inX12 tw_4_183 dX12_next_313 ?_
                          refine mw_top (y := nI h) (hh) ?_
                          refine lv_iconst (v := 1) C.1 C.2.1 dX12_next_316 (by decide) ?_
                          refine lv_iadd C.1 C.2.1 dX12_next_317 ?_
                          refine mw_top (y := nI (h + 1)) (nI_1 _) ?_
                          refine mw_puti C Z hP hS (0) 19 (by decide) rfl rfl rfl (by decide) inX12 tyX12 tyX12_ok nmX12 rfl tw_4_183 rfl rfl dX12_next_318 (fun H locs hP hS => ?_)
                          have hsc : scF (byF bs n h) ≠ 22 := by rw [c25]; decide
                          have e3 : h + 1 = enF bs n h := by unfold enF; rw [if_neg c16, if_neg c20]
                          exact mw_vret C hr hlk Z hP hS dX12_next_321 (⟨⟨h, h + 1, by omega, by omega, rfl, rfl, htk, Or.inr ⟨hqn, hnb, Or.inr (Or.inr (Or.inl ⟨c16, c20, hsc, rfl, rfl, e3⟩))⟩⟩, (((((hf.si (by decide) _).si (by decide) _).si (by decide) _).sl 0 22 _).si (by decide) _)⟩)
                        · refine lv_iload_n C.1 C.2.1 dX12_next_282 rfl (lv_at hl 0 rfl) ?_
                          refine lv_bipush (v := 42) C.1 C.2.1 dX12_next_283 (by decide) ?_
                          refine lv_icmp_eq (tgt := 300) C.1 C.2.1 dX12_next_285 (by decide) (fun c26 => ?_) (fun c26 => ?_)
                          · refine lv_aload_n C.1 C.2.1 dX12_next_300 rfl (lv_at hl 1 rfl) ?_
                            refine lv_iconst (v := 3) C.1 C.2.1 dX12_next_301 (by decide) ?_
                            refine mw_puti C Z hP hS (0) 20 (by decide) rfl rfl rfl (by decide) inX12 tyX12 tyX12_ok nmX12 rfl tw_4_184 rfl rfl dX12_next_302 (fun H locs hP hS => ?_)
                            refine lv_aload_n C.1 C.2.1 dX12_next_305 rfl (lv_at hl 1 rfl) ?_
                            refine lv_iload_n C.1 C.2.1 dX12_next_306 rfl (lv_at hl 0 rfl) ?_
                            refine lv_i2l C.1 C.2.1 dX12_next_307 rfl ?_
                            refine mw_putl C Z hP hS (0) 22 (by decide) rfl rfl rfl (by decide) inX12 tyX12 tyX12_ok nmX12 rfl tw_4_186 rfl rfl dX12_next_308 (fun H locs hP hS => ?_)
                            refine lv_aload_n C.1 C.2.1 dX12_next_311 rfl (lv_at hl 1 rfl) ?_
                            refine lv_dup C.1 C.2.1 dX12_next_312 rfl ?_
                            refine mw_geti C Z hP (0) 19 (by decide) rfl rfl rfl (by decide) inX12 tw_4_183 dX12_next_313 ?_
                            refine mw_top (y := nI h) (hh) ?_
                            refine lv_iconst (v := 1) C.1 C.2.1 dX12_next_316 (by decide) ?_
                            refine lv_iadd C.1 C.2.1 dX12_next_317 ?_
                            refine mw_top (y := nI (h + 1)) (nI_1 _) ?_
                            refine mw_puti C Z hP hS (0) 19 (by decide) rfl rfl rfl (by decide) inX12 tyX12 tyX12_ok nmX12 rfl tw_4_183 rfl rfl dX12_next_318 (fun H locs hP hS => ?_)
                            have hsc : scF (byF bs n h) ≠ 22 := by rw [c26]; decide
                            have e3 : h + 1 = enF bs n h := by unfold enF; rw [if_neg c16, if_neg c20]
                            exact mw_vret C hr hlk Z hP hS dX12_next_321 (⟨⟨h, h + 1, by omega, by omega, rfl, rfl, htk, Or.inr ⟨hqn, hnb, Or.inr (Or.inr (Or.inl ⟨c16, c20, hsc, rfl, rfl, e3⟩))⟩⟩, (((((hf.si (by decide) _).si (by decide) _).si (by decide) _).sl 0 22 _).si (by decide) _)⟩)
                          · refine lv_iload_n C.1 C.2.1 dX12_next_288 rfl (lv_at hl 0 rfl) ?_
                            refine lv_bipush (v := 60) C.1 C.2.1 dX12_next_289 (by decide) ?_
                            refine lv_icmp_eq (tgt := 300) C.1 C.2.1 dX12_next_291 (by decide) (fun c27 => ?_) (fun c27 => ?_)
                            · refine lv_aload_n C.1 C.2.1 dX12_next_300 rfl (lv_at hl 1 rfl) ?_
                              refine lv_iconst (v := 3) C.1 C.2.1 dX12_next_301 (by decide) ?_
                              refine mw_puti C Z hP hS (0) 20 (by decide) rfl rfl rfl (by decide) inX12 tyX12 tyX12_ok nmX12 rfl tw_4_184 rfl rfl dX12_next_302 (fun H locs hP hS => ?_)
                              refine lv_aload_n C.1 C.2.1 dX12_next_305 rfl (lv_at hl 1 rfl) ?_
                              refine lv_iload_n C.1 C.2.1 dX12_next_306 rfl (lv_at hl 0 rfl) ?_
                              refine lv_i2l C.1 C.2.1 dX12_next_307 rfl ?_
                              refine mw_putl C Z hP hS (0) 22 (by decide) rfl rfl rfl (by decide) inX12 tyX12 tyX12_ok nmX12 rfl tw_4_186 rfl rfl dX12_next_308 (fun H locs hP hS => ?_)
                              refine lv_aload_n C.1 C.2.1 dX12_next_311 rfl (lv_at hl 1 rfl) ?_
                              refine lv_dup C.1 C.2.1 dX12_next_312 rfl ?_
                              refine mw_geti C Z hP (0) 19 (by decide) rfl rfl rfl (by decide) inX12 tw_4_183 dX12_next_313 ?_
                              refine mw_top (y := nI h) (hh) ?_
                              refine lv_iconst (v := 1) C.1 C.2.1 dX12_next_316 (by decide) ?_
                              refine lv_iadd C.1 C.2.1 dX12_next_317 ?_
                              refine mw_top (y := nI (h + 1)) (nI_1 _) ?_
                              refine mw_puti C Z hP hS (0) 19 (by decide) rfl rfl rfl (by decide) inX12 tyX12 tyX12_ok nmX12 rfl tw_4_183 rfl rfl dX12_next_318 (fun H locs hP hS => ?_)
                              have hsc : scF (byF bs n h) ≠ 22 := by rw [c27]; decide
                              have e3 : h + 1 = enF bs n h := by unfold enF; rw [if_neg c16, if_neg c20]
                              exact mw_vret C hr hlk Z hP hS dX12_next_321 (⟨⟨h, h + 1, by omega, by omega, rfl, rfl, htk, Or.inr ⟨hqn, hnb, Or.inr (Or.inr (Or.inl ⟨c16, c20, hsc, rfl, rfl, e3⟩))⟩⟩, (((((hf.si (by decide) _).si (by decide) _).si (by decide) _).sl 0 22 _).si (by decide) _)⟩)
                            · refine lv_iload_n C.1 C.2.1 dX12_next_294 rfl (lv_at hl 0 rfl) ?_
                              refine lv_bipush (v := 61) C.1 C.2.1 dX12_next_295 (by decide) ?_
                              refine lv_icmp_ne (tgt := 321) C.1 C.2.1 dX12_next_297 (by decide) (fun c28 => ?_) (fun c28 => ?_)
                              · have hsc : scF (byF bs n h) = 22 := by simp [scF, scL, signsF, c21, c22, c23, c24, c25, c26, c27, c28]
                                exact mw_vret C hr hlk Z hP hS dX12_next_321 (⟨⟨h, h, by omega, by omega, by rw [show (mw_si (mw_si ς 0 21 (nI h)) 0 20 4).1 0 19 = ς.1 0 19 from rfl]; exact hh, rfl, htk, Or.inr ⟨hqn, hnb, Or.inr (Or.inr (Or.inr ⟨c16, c20, hsc, rfl⟩))⟩⟩, ((hf.si (by decide) _).si (by decide) _)⟩)
                              · refine lv_aload_n C.1 C.2.1 dX12_next_300 rfl (lv_at hl 1 rfl) ?_
                                refine lv_iconst (v := 3) C.1 C.2.1 dX12_next_301 (by decide) ?_
                                refine mw_puti C Z hP hS (0) 20 (by decide) rfl rfl rfl (by decide) inX12 tyX12 tyX12_ok nmX12 rfl tw_4_184 rfl rfl dX12_next_302 (fun H locs hP hS => ?_)
                                refine lv_aload_n C.1 C.2.1 dX12_next_305 rfl (lv_at hl 1 rfl) ?_
                                refine lv_iload_n C.1 C.2.1 dX12_next_306 rfl (lv_at hl 0 rfl) ?_
                                refine lv_i2l C.1 C.2.1 dX12_next_307 rfl ?_
                                refine mw_putl C Z hP hS (0) 22 (by decide) rfl rfl rfl (by decide) inX12 tyX12 tyX12_ok nmX12 rfl tw_4_186 rfl rfl dX12_next_308 (fun H locs hP hS => ?_)
                                refine lv_aload_n C.1 C.2.1 dX12_next_311 rfl (lv_at hl 1 rfl) ?_
                                refine lv_dup C.1 C.2.1 dX12_next_312 rfl ?_
                                refine mw_geti C Z hP (0) 19 (by decide) rfl rfl rfl (by decide) inX12 tw_4_183 dX12_next_313 ?_
                                refine mw_top (y := nI h) (hh) ?_
                                refine lv_iconst (v := 1) C.1 C.2.1 dX12_next_316 (by decide) ?_
                                refine lv_iadd C.1 C.2.1 dX12_next_317 ?_
                                refine mw_top (y := nI (h + 1)) (nI_1 _) ?_
                                refine mw_puti C Z hP hS (0) 19 (by decide) rfl rfl rfl (by decide) inX12 tyX12 tyX12_ok nmX12 rfl tw_4_183 rfl rfl dX12_next_318 (fun H locs hP hS => ?_)
                                have hsc : scF (byF bs n h) ≠ 22 := by rw [c28]; decide
                                have e3 : h + 1 = enF bs n h := by unfold enF; rw [if_neg c16, if_neg c20]
                                exact mw_vret C hr hlk Z hP hS dX12_next_321 (⟨⟨h, h + 1, by omega, by omega, rfl, rfl, htk, Or.inr ⟨hqn, hnb, Or.inr (Or.inr (Or.inl ⟨c16, c20, hsc, rfl, rfl, e3⟩))⟩⟩, (((((hf.si (by decide) _).si (by decide) _).si (by decide) _).sl 0 22 _).si (by decide) _)⟩)
              · have c20 := bI_n.mp c20
                refine lv_aload_n C.1 C.2.1 dX12_next_148 rfl (lv_at hl 1 rfl) ?_
                refine lv_iconst (v := 2) C.1 C.2.1 dX12_next_149 (by decide) ?_
                refine mw_puti C Z hP hS (0) 20 (by decide) rfl rfl rfl (by decide) inX12 tyX12 tyX12_ok nmX12 rfl tw_4_184 rfl rfl dX12_next_150 (fun H locs hP hS => ?_)
                refine lv_aload_n C.1 C.2.1 dX12_next_153 rfl (lv_at hl 1 rfl) ?_
                refine lv_lconst (v := 0) C.1 C.2.1 dX12_next_154 (by decide) ?_
                refine mw_putl C Z hP hS (0) 22 (by decide) rfl rfl rfl (by decide) inX12 tyX12 tyX12_ok nmX12 rfl tw_4_186 rfl rfl dX12_next_155 (fun H locs hP hS => ?_)
                refine lv_iconst (v := 0) C.1 C.2.1 dX12_next_158 (by decide) ?_
                refine lv_istore_n (lv' := [(2, .int 0), (1, .int (byF bs n h)), (0, .ref (mw_a E 0))]) C.1 C.2.1 dX12_next_159 rfl hl (by decide) rfl (fun ls hl => ?_)
                have lp3 : ∀ (N k : Nat) (ς3 : mw_M) (H : Heap) (locs : List Loc), n + 1 ≤ h + k + N → h + k ≤ n → dgF bs n 161 h = dgF bs n 161 (h + k) → ς3.1 0 19 = nI (h + k) → ς3.1 0 21 = nI h → ς3.2.2 0 22 = lN (nvF bs n (if k ≤ 4 then k else 4) h 0) → mFr σ ς3 → mTx ς3 t n bs → va_P (mw_D E) vwCl (mw_ws shM 13 E ς3) H → va_S (mw_A 13 E) s_.heap H locs → ∀ (ls : Array Slot), lv_has ls 3 [(0, .ref (mw_a E 0)), (1, .int (byF bs n h)), (2, .int (nI k))] → mWv p_ l e_ (rmF 1 30) s_ m_ [.ref (mw_a E 0)] below meth c_ E (fun u => mLx u n bs (tkA bs n h0) ∧ mFr σ u) H locs (F0 m_ 160 ls []) := by
                  intro N
                  induction N with
                  | zero => intro k ς3 H locs z1 z2; exact absurd z1 (by omega)
                  | succ N ih3 =>
                    intro k ς3 H locs hN3 hle3 hd3 hh3 ha3 hw3 hf3 hT3 hP hS ls hl
                    refine lv_aload_n C.1 C.2.1 dX12_next_160 rfl (lv_at hl 0 rfl) ?_
                    refine lv_aload_n C.1 C.2.1 dX12_next_161 rfl (lv_at hl 0 rfl) ?_
                    refine mw_geti C Z hP (0) 19 (by decide) rfl rfl rfl (by decide) inX12 tw_4_183 dX12_next_162 ?_
                    refine mw_top (y := nI (h + k)) (hh3) ?_
                    refine mw_cVi (As := [.int (nI (h + k))]) (rest := []) C Z hP hS (0) (cM_byteAt l E ς3 t n (h + k) bs hT3 (by omega)) vb_X12_byteAt tw_5_68 ⟨rfl, rfl⟩ ⟨Nat.le_of_ble_eq_true rfl, Nat.le_of_ble_eq_true rfl⟩ (by decide) rfl rfl rfl rfl hl.1 rfl (Nat.le_of_ble_eq_true rfl) dX12_next_165 ⟨Nat.zero_le _, Nat.zero_le _⟩ (fun r29 u30 H locs q31 hP hS => ?_)
                    obtain ⟨rfl, q31u⟩ := q31
                    rw [q31u] at hP; clear q31u
                    refine lv_i2l C.1 C.2.1 dX12_next_168 rfl ?_
                    refine lv_ldc2 (own := RX12) C.1 C.2.1 C.2.2.2.1 (C.2.2.2.2 _ tw_5_74) dX12_next_169 ?_
                    refine lv_ldc2 (own := RX12) C.1 C.2.1 C.2.2.2.1 (C.2.2.2.2 _ tw_5_75) dX12_next_172 ?_
                    refine mw_cSi (As := [.long ((byF bs n (h + k)).toInt64), .long (48), .long (57)]) (rest := []) C Z hP hS (cM_in l E ς3 ((byF bs n (h + k)).toInt64) 48 57 (48 ≤ (byF bs n (h + k)).toInt ∧ (byF bs n (h + k)).toInt ≤ 57) (by first | (simp only [nl_i]; exact Iff.rfl) | (simp only [nl_i]; decide) | simp [nl_i])) sb_X12_in tw_5_33 ⟨rfl, rfl⟩ ⟨Nat.le_of_ble_eq_true rfl, Nat.le_of_ble_eq_true rfl⟩ rfl hl.1 rfl (Nat.le_of_ble_eq_true rfl) dX12_next_175 ⟨Nat.zero_le _, Nat.zero_le _⟩ (fun r32 u33 H locs q34 hP hS => ?_)
                    obtain ⟨rfl, q34u⟩ := q34
                    rw [q34u] at hP; clear q34u
                    refine lv_if_eq (tgt := 235) C.1 C.2.1 dX12_next_178 (by decide) (fun c35 => ?_) (fun c35 => ?_)
                    · have c35 := bI_0.mp c35
                      refine lv_aload_n C.1 C.2.1 dX12_next_235 rfl (lv_at hl 0 rfl) ?_
                      refine lv_iload_n C.1 C.2.1 dX12_next_236 rfl (lv_at hl 2 rfl) ?_
                      refine lv_iconst (v := 4) C.1 C.2.1 dX12_next_237 (by decide) ?_
                      refine lv_icmp_le (tgt := 245) C.1 C.2.1 dX12_next_238 (by decide) (fun c36 => ?_) (fun c36 => ?_)
                      · refine lv_iconst (v := 2) C.1 C.2.1 dX12_next_245 (by decide) ?_
                        refine mw_puti C Z hP hS (0) 20 (by decide) rfl rfl rfl (by decide) inX12 tyX12 tyX12_ok nmX12 rfl tw_4_184 rfl rfl dX12_next_246 (fun H locs hP hS => ?_)
                        refine lv_goto (tgt := 321) C.1 C.2.1 dX12_next_249 (by decide) ?_
                        have z := (nI_leI (b := 4) (by omega) (by decide)).mp c36
                        have e3 : h + k = enF bs n h := by unfold enF; rw [if_neg c16, if_pos c20, hd3, dgF_stop c35]
                        exact mw_vret C hr hlk Z hP hS dX12_next_321 (⟨⟨h, h + k, by omega, hle3, by rw [show (mw_si ς3 0 20 2).1 0 19 = ς3.1 0 19 from rfl]; exact hh3, by rw [show (mw_si ς3 0 20 2).1 0 21 = ς3.1 0 21 from rfl]; exact ha3, htk, Or.inr ⟨hqn, hnb, Or.inr (Or.inl ⟨c16, c20, by rw [if_neg (by omega)]; rfl, fun y => by rw [show (mw_si ς3 0 20 2).2.2 0 22 = ς3.2.2 0 22 from rfl, hw3, if_pos (by omega), Nat.add_sub_cancel_left], e3⟩)⟩⟩, hf3.si (by decide) _⟩)
                      · refine lv_iconst (v := 4) C.1 C.2.1 dX12_next_241 (by decide) ?_
                        refine lv_goto (tgt := 246) C.1 C.2.1 dX12_next_242 (by decide) ?_
                        refine mw_puti C Z hP hS (0) 20 (by decide) rfl rfl rfl (by decide) inX12 tyX12 tyX12_ok nmX12 rfl tw_4_184 rfl rfl dX12_next_246 (fun H locs hP hS => ?_)
                        refine lv_goto (tgt := 321) C.1 C.2.1 dX12_next_249 (by decide) ?_
                        have z := (not_congr (nI_leI (b := 4) (by omega) (by decide))).mp c36
                        have e3 : h + k = enF bs n h := by unfold enF; rw [if_neg c16, if_pos c20, hd3, dgF_stop c35]
                        exact mw_vret C hr hlk Z hP hS dX12_next_321 (⟨⟨h, h + k, by omega, hle3, by rw [show (mw_si ς3 0 20 4).1 0 19 = ς3.1 0 19 from rfl]; exact hh3, by rw [show (mw_si ς3 0 20 4).1 0 21 = ς3.1 0 21 from rfl]; exact ha3, htk, Or.inr ⟨hqn, hnb, Or.inr (Or.inl ⟨c16, c20, by rw [if_pos (by omega)]; rfl, fun y => by rw [show (mw_si ς3 0 20 4).2.2 0 22 = ς3.2.2 0 22 from rfl, hw3, if_pos (by omega), Nat.add_sub_cancel_left], e3⟩)⟩⟩, hf3.si (by decide) _⟩)
                    · have c35 := bI_n.mp c35
                      refine lv_aload_n C.1 C.2.1 dX12_next_181 rfl (lv_at hl 0 rfl) ?_
                      refine lv_iload_n C.1 C.2.1 dX12_next_182 rfl (lv_at hl 2 rfl) ?_
                      refine lv_iconst (v := 4) C.1 C.2.1 dX12_next_183 (by decide) ?_
                      refine lv_icmp_ge (tgt := 212) C.1 C.2.1 dX12_next_184 (by decide) (fun c37 => ?_) (fun c37 => ?_)
                      · refine lv_aload_n C.1 C.2.1 dX12_next_212 rfl (lv_at hl 0 rfl) ?_
                        refine mw_getl C Z hP (0) 22 (by decide) rfl rfl rfl (by decide) inX12 tw_4_186 dX12_next_213 ?_
                        refine mw_topl (y := lN (nvF bs n (if k ≤ 4 then k else 4) h 0)) (hw3) ?_
                        refine mw_putl C Z hP hS (0) 22 (by decide) rfl rfl rfl (by decide) inX12 tyX12 tyX12_ok nmX12 rfl tw_4_186 rfl rfl dX12_next_216 (fun H locs hP hS => ?_)
                        refine lv_iinc (v := nI (k + 1)) (lv' := [(2, .int (nI (k + 1))), (0, .ref (mw_a E 0)), (1, .int (byF bs n h))]) C.1 C.2.1 dX12_next_219 hl (k := 2) rfl (nI_1 _) (by decide) rfl (fun ls hl => ?_)
                        refine lv_aload_n C.1 C.2.1 dX12_next_222 rfl (lv_at hl 1 rfl) ?_
                        refine lv_dup C.1 C.2.1 dX12_next_223 rfl ?_
                        refine mw_geti C Z hP (0) 19 (by decide) rfl rfl rfl (by decide) inX12 tw_4_183 dX12_next_224 ?_
                        refine mw_top (y := nI (h + k)) (hh3) ?_
                        refine lv_iconst (v := 1) C.1 C.2.1 dX12_next_227 (by decide) ?_
                        refine lv_iadd C.1 C.2.1 dX12_next_228 ?_
                        refine mw_top (y := nI (h + k + 1)) (nI_1 _) ?_
                        refine mw_puti C Z hP hS (0) 19 (by decide) rfl rfl rfl (by decide) inX12 tyX12 tyX12_ok nmX12 rfl tw_4_183 rfl rfl dX12_next_229 (fun H locs hP hS => ?_)
                        refine lv_goto (tgt := 160) C.1 C.2.1 dX12_next_232 (by decide) ?_
                        exact ih3 (k + 1) (mw_si (mw_sl ς3 0 22 (lN (nvF bs n (if k ≤ 4 then k else 4) h 0))) 0 19 (nI (h + k + 1))) _ _ (by omega) (by have := byF_di c35; omega) (by rw [hd3, dgF_step h4 c35, Nat.add_assoc]) rfl (by rw [show (mw_si (mw_sl ς3 0 22 (lN (nvF bs n (if k ≤ 4 then k else 4) h 0))) 0 19 (nI (h + k + 1))).1 0 21 = ς3.1 0 21 from rfl]; exact ha3) (by have z := (nI_leI (a := 4) (by decide) (by omega)).mp c37; show lN _ = lN _; rw [if_neg (by omega : ¬ k + 1 ≤ 4), show (if k ≤ 4 then k else 4) = 4 by split <;> omega]) (((hf3.sl 0 22 _)).si (by decide) _) hT3 hP hS ls (lv_sub hl [1, 2, 0] rfl)
                      · refine lv_ldc2 (own := RX12) C.1 C.2.1 C.2.2.2.1 (C.2.2.2.2 _ tw_5_76) dX12_next_187 ?_
                        refine lv_aload_n C.1 C.2.1 dX12_next_190 rfl (lv_at hl 0 rfl) ?_
                        refine mw_getl C Z hP (0) 22 (by decide) rfl rfl rfl (by decide) inX12 tw_4_186 dX12_next_191 ?_
                        refine mw_topl (y := lN (nvF bs n (if k ≤ 4 then k else 4) h 0)) (hw3) ?_
                        refine lv_lmul C.1 C.2.1 dX12_next_194 ?_
                        refine lv_aload_n C.1 C.2.1 dX12_next_195 rfl (lv_at hl 0 rfl) ?_
                        refine lv_aload_n C.1 C.2.1 dX12_next_196 rfl (lv_at hl 0 rfl) ?_
                        refine mw_geti C Z hP (0) 19 (by decide) rfl rfl rfl (by decide) inX12 tw_4_183 dX12_next_197 ?_
                        refine mw_top (y := nI (h + k)) (hh3) ?_
                        refine mw_cVi (As := [.int (nI (h + k))]) (rest := [.long (10 * (lN (nvF bs n (if k ≤ 4 then k else 4) h 0))), .ref (mw_a E 0)]) C Z hP hS (0) (cM_byteAt l E ς3 t n (h + k) bs hT3 (by omega)) vb_X12_byteAt tw_5_68 ⟨rfl, rfl⟩ ⟨Nat.le_of_ble_eq_true rfl, Nat.le_of_ble_eq_true rfl⟩ (by decide) rfl rfl rfl rfl hl.1 rfl (Nat.le_of_ble_eq_true rfl) dX12_next_200 ⟨Nat.zero_le _, Nat.zero_le _⟩ (fun r38 u39 H locs q40 hP hS => ?_)
                        obtain ⟨rfl, q40u⟩ := q40
                        rw [q40u] at hP; clear q40u
                        refine lv_i2l C.1 C.2.1 dX12_next_203 rfl ?_
                        refine lv_ladd C.1 C.2.1 dX12_next_204 ?_
                        refine lv_ldc2 (own := RX12) C.1 C.2.1 C.2.2.2.1 (C.2.2.2.2 _ tw_5_74) dX12_next_205 ?_
                        refine lv_lsub C.1 C.2.1 dX12_next_208 ?_
                        refine lv_goto (tgt := 216) C.1 C.2.1 dX12_next_209 (by decide) ?_
                        refine mw_putl C Z hP hS (0) 22 (by decide) rfl rfl rfl (by decide) inX12 tyX12 tyX12_ok nmX12 rfl tw_4_186 rfl rfl dX12_next_216 (fun H locs hP hS => ?_)
                        refine lv_iinc (v := nI (k + 1)) (lv' := [(2, .int (nI (k + 1))), (0, .ref (mw_a E 0)), (1, .int (byF bs n h))]) C.1 C.2.1 dX12_next_219 hl (k := 2) rfl (nI_1 _) (by decide) rfl (fun ls hl => ?_)
                        refine lv_aload_n C.1 C.2.1 dX12_next_222 rfl (lv_at hl 1 rfl) ?_
                        refine lv_dup C.1 C.2.1 dX12_next_223 rfl ?_
                        refine mw_geti C Z hP (0) 19 (by decide) rfl rfl rfl (by decide) inX12 tw_4_183 dX12_next_224 ?_
                        refine mw_top (y := nI (h + k)) (hh3) ?_
                        refine lv_iconst (v := 1) C.1 C.2.1 dX12_next_227 (by decide) ?_
                        refine lv_iadd C.1 C.2.1 dX12_next_228 ?_
                        refine mw_top (y := nI (h + k + 1)) (nI_1 _) ?_
                        refine mw_puti C Z hP hS (0) 19 (by decide) rfl rfl rfl (by decide) inX12 tyX12 tyX12_ok nmX12 rfl tw_4_183 rfl rfl dX12_next_229 (fun H locs hP hS => ?_)
                        refine lv_goto (tgt := 160) C.1 C.2.1 dX12_next_232 (by decide) ?_
                        exact ih3 (k + 1) (mw_si (mw_sl ς3 0 22 (((10 * (lN (nvF bs n (if k ≤ 4 then k else 4) h 0))) + ((byF bs n (h + k)).toInt64)) - 48)) 0 19 (nI (h + k + 1))) _ _ (by omega) (by have := byF_di c35; omega) (by rw [hd3, dgF_step h4 c35, Nat.add_assoc]) rfl (by rw [show (mw_si (mw_sl ς3 0 22 (((10 * (lN (nvF bs n (if k ≤ 4 then k else 4) h 0))) + ((byF bs n (h + k)).toInt64)) - 48)) 0 19 (nI (h + k + 1))).1 0 21 = ς3.1 0 21 from rfl]; exact ha3) (by have z := (not_congr (nI_leI (a := 4) (by decide) (by omega))).mp c37; show (10 * lN (nvF bs n (if k ≤ 4 then k else 4) h 0) + (byF bs n (h + k)).toInt64) - 48 = _; rw [nv_stepL c35, if_pos (by omega : k ≤ 4), if_pos (by omega : k + 1 ≤ 4), nvF_snoc]) (((hf3.sl 0 22 _)).si (by decide) _) hT3 hP hS ls (lv_sub hl [1, 2, 0] rfl)
                exact lp3 (n + 1) 0 (mw_sl (mw_si (mw_si (mw_si ς 0 21 (nI h)) 0 20 4) 0 20 2) 0 22 0) _ _ (by omega) (by omega) rfl (by rw [show (mw_sl (mw_si (mw_si (mw_si ς 0 21 (nI h)) 0 20 4) 0 20 2) 0 22 0).1 0 19 = ς.1 0 19 from rfl]; exact hh) rfl rfl (((hf.si (by decide) _).si (by decide) _).si (by decide) _) hT hP hS ls (lv_sub hl [2, 1, 0] rfl)
            · have c16 := bI_n.mp c16
              refine lv_aload_n C.1 C.2.1 dX12_next_95 rfl (lv_at hl 1 rfl) ?_
              refine lv_iconst (v := 1) C.1 C.2.1 dX12_next_96 (by decide) ?_
              refine mw_puti C Z hP hS (0) 20 (by decide) rfl rfl rfl (by decide) inX12 tyX12 tyX12_ok nmX12 rfl tw_4_184 rfl rfl dX12_next_97 (fun H locs hP hS => ?_)
              have lp2 : ∀ (N h2 : Nat) (ς2 : mw_M) (H : Heap) (locs : List Loc), n + 1 ≤ h2 + N → h2 ≤ n → wdF bs n 161 h = wdF bs n 161 h2 → ς2.1 0 19 = nI h2 → ς2.1 0 20 = 1 → ς2.1 0 21 = nI h → mFr σ ς2 → mTx ς2 t n bs → va_P (mw_D E) vwCl (mw_ws shM 13 E ς2) H → va_S (mw_A 13 E) s_.heap H locs → mWv p_ l e_ (rmF 1 30) s_ m_ [.ref (mw_a E 0)] below meth c_ E (fun u => mLx u n bs (tkA bs n h0) ∧ mFr σ u) H locs (F0 m_ 100 ls []) := by
                intro N
                induction N with
                | zero => intro h2 ς2 H locs z1 z2; exact absurd z1 (by omega)
                | succ N ih2 =>
                  intro h2 ς2 H locs hN2 hle2 hw hh2 ht2 ha2 hf2 hT2 hP hS
                  refine lv_aload_n C.1 C.2.1 dX12_next_100 rfl (lv_at hl 1 rfl) ?_
                  refine lv_aload_n C.1 C.2.1 dX12_next_101 rfl (lv_at hl 1 rfl) ?_
                  refine mw_geti C Z hP (0) 19 (by decide) rfl rfl rfl (by decide) inX12 tw_4_183 dX12_next_102 ?_
                  refine mw_top (y := nI h2) (hh2) ?_
                  refine mw_cVi (As := [.int (nI h2)]) (rest := []) C Z hP hS (0) (cM_byteAt l E ς2 t n h2 bs hT2 (by omega)) vb_X12_byteAt tw_5_68 ⟨rfl, rfl⟩ ⟨Nat.le_of_ble_eq_true rfl, Nat.le_of_ble_eq_true rfl⟩ (by decide) rfl rfl rfl rfl hl.1 rfl (Nat.le_of_ble_eq_true rfl) dX12_next_105 ⟨Nat.zero_le _, Nat.zero_le _⟩ (fun r41 u42 H locs q43 hP hS => ?_)
                  obtain ⟨rfl, q43u⟩ := q43
                  rw [q43u] at hP; clear q43u
                  refine lv_i2l C.1 C.2.1 dX12_next_108 rfl ?_
                  refine lv_ldc2 (own := RX12) C.1 C.2.1 C.2.2.2.1 (C.2.2.2.2 _ tw_5_72) dX12_next_109 ?_
                  refine lv_ldc2 (own := RX12) C.1 C.2.1 C.2.2.2.1 (C.2.2.2.2 _ tw_5_73) dX12_next_112 ?_
                  refine mw_cSi (As := [.long ((byF bs n h2).toInt64), .long (97), .long (122)]) (rest := []) C Z hP hS (cM_in l E ς2 ((byF bs n h2).toInt64) 97 122 (97 ≤ (byF bs n h2).toInt ∧ (byF bs n h2).toInt ≤ 122) (by first | (simp only [nl_i]; exact Iff.rfl) | (simp only [nl_i]; decide) | simp [nl_i])) sb_X12_in tw_5_33 ⟨rfl, rfl⟩ ⟨Nat.le_of_ble_eq_true rfl, Nat.le_of_ble_eq_true rfl⟩ rfl hl.1 rfl (Nat.le_of_ble_eq_true rfl) dX12_next_115 ⟨Nat.zero_le _, Nat.zero_le _⟩ (fun r44 u45 H locs q46 hP hS => ?_)
                  obtain ⟨rfl, q46u⟩ := q46
                  rw [q46u] at hP; clear q46u
                  refine lv_if_eq (tgt := 321) C.1 C.2.1 dX12_next_118 (by decide) (fun c47 => ?_) (fun c47 => ?_)
                  · have c47 := bI_0.mp c47
                    have e2 : h2 = enF bs n h := by unfold enF; rw [if_pos c16, hw, wdF_stop c47]
                    exact mw_vret C hr hlk Z hP hS dX12_next_321 (⟨⟨h, h2, by omega, hle2, hh2, ha2, htk, Or.inr ⟨hqn, hnb, Or.inl ⟨c16, ht2, e2⟩⟩⟩, hf2⟩)
                  · have c47 := bI_n.mp c47
                    refine lv_aload_n C.1 C.2.1 dX12_next_121 rfl (lv_at hl 1 rfl) ?_
                    refine lv_dup C.1 C.2.1 dX12_next_122 rfl ?_
                    refine mw_geti C Z hP (0) 19 (by decide) rfl rfl rfl (by decide) inX12 tw_4_183 dX12_next_123 ?_
                    refine mw_top (y := nI h2) (hh2) ?_
                    refine lv_iconst (v := 1) C.1 C.2.1 dX12_next_126 (by decide) ?_
                    refine lv_iadd C.1 C.2.1 dX12_next_127 ?_
                    refine mw_top (y := nI (h2 + 1)) (nI_1 _) ?_
                    refine mw_puti C Z hP hS (0) 19 (by decide) rfl rfl rfl (by decide) inX12 tyX12 tyX12_ok nmX12 rfl tw_4_183 rfl rfl dX12_next_128 (fun H locs hP hS => ?_)
                    refine lv_goto (tgt := 100) C.1 C.2.1 dX12_next_131 (by decide) ?_
                    exact ih2 (h2 + 1) (mw_si ς2 0 19 (nI (h2 + 1))) _ _ (by omega) (by have := byF_sm c47; omega) (hw.trans (wdF_step h4 c47)) rfl ht2 (by rw [show (mw_si ς2 0 19 (nI (h2 + 1))).1 0 21 = ς2.1 0 21 from rfl]; exact ha2) (hf2.si (by decide) _) hT2 hP hS
              exact lp2 (n + 1) h (mw_si (mw_si (mw_si ς 0 21 (nI h)) 0 20 4) 0 20 1) _ _ (by omega) (by omega) rfl (by rw [show (mw_si (mw_si (mw_si ς 0 21 (nI h)) 0 20 4) 0 20 1).1 0 19 = ς.1 0 19 from rfl]; exact hh) rfl rfl (((hf.si (by decide) _).si (by decide) _).si (by decide) _) hT hP hS
          · have hqn : n ≤ h := by
              rcases Nat.lt_or_ge h n with z | z
              · exact absurd (by rw [show byF bs n h = bs h by unfold byF; rw [if_pos z], ni_le]; exact (hT.2.2.2.2 h z).2) c12
              · exact z
            refine lv_aload_n C.1 C.2.1 dX12_next_65 rfl (lv_at hl 1 rfl) ?_
            refine lv_iconst (v := 0) C.1 C.2.1 dX12_next_66 (by decide) ?_
            refine mw_puti C Z hP hS (0) 20 (by decide) rfl rfl rfl (by decide) inX12 tyX12 tyX12_ok nmX12 rfl tw_4_184 rfl rfl dX12_next_67 (fun H locs hP hS => ?_)
            refine lv_aload_n C.1 C.2.1 dX12_next_70 rfl (lv_at hl 1 rfl) ?_
            refine lv_aload_n C.1 C.2.1 dX12_next_71 rfl (lv_at hl 1 rfl) ?_
            refine mw_geti C Z hP (0) 18 (by decide) rfl rfl rfl (by decide) inX12 tw_4_182 dX12_next_72 ?_
            refine mw_top (y := ς.1 0 18) (rfl) ?_
            refine mw_puti C Z hP hS (0) 21 (by decide) rfl rfl rfl (by decide) inX12 tyX12 tyX12_ok nmX12 rfl tw_4_185 rfl rfl dX12_next_75 (fun H locs hP hS => ?_)
            refine lv_goto (tgt := 321) C.1 C.2.1 dX12_next_78 (by decide) ?_
            exact mw_vret C hr hlk Z hP hS dX12_next_321 (⟨⟨n, h, by omega, by omega, by rw [show (mw_si (mw_si (mw_si (mw_si ς 0 21 (nI h)) 0 20 4) 0 20 0) 0 21 (ς.1 0 18)).1 0 19 = ς.1 0 19 from rfl]; exact hh, by rw [show (mw_si (mw_si (mw_si (mw_si ς 0 21 (nI h)) 0 20 4) 0 20 0) 0 21 (ς.1 0 18)).1 0 21 = ς.1 0 18 from rfl]; exact hT.2.1, by rw [htk, tkA_end hqn, tkA_end (Nat.le_refl n)], Or.inl ⟨Nat.le_refl n, rfl⟩⟩, ((((hf.si (by decide) _).si (by decide) _).si (by decide) _).si (by decide) _)⟩)
        · refine lv_aload_n C.1 C.2.1 dX12_next_26 rfl (lv_at hl 0 rfl) ?_
          refine lv_dup C.1 C.2.1 dX12_next_27 rfl ?_
          refine mw_geti C Z hP (0) 19 (by decide) rfl rfl rfl (by decide) inX12 tw_4_183 dX12_next_28 ?_
          refine mw_top (y := nI h) (hh) ?_
          refine lv_iconst (v := 1) C.1 C.2.1 dX12_next_31 (by decide) ?_
          refine lv_iadd C.1 C.2.1 dX12_next_32 ?_
          refine mw_top (y := nI (h + 1)) (nI_1 _) ?_
          refine mw_puti C Z hP hS (0) 19 (by decide) rfl rfl rfl (by decide) inX12 tyX12 tyX12_ok nmX12 rfl tw_4_183 rfl rfl dX12_next_33 (fun H locs hP hS => ?_)
          refine lv_goto (tgt := 0) C.1 C.2.1 dX12_next_36 (by decide) ?_
          exact ih (h + 1) (mw_si ς 0 19 (nI (h + 1))) _ _ (by omega) (byF_bl (Or.inr c8)) (hsk.trans (skF_step h4 (Or.inr c8))) rfl (hf.si (by decide) _) hT hP hS
  exact lp (n + 1) h0 σ _ _ (by omega) hle rfl hh (mFr.rf σ) hT hP hS
