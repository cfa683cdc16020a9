/-! THE REFERENCE: SHEETS, SELLING -/
/-- the arrays are X; of the ints only scratch has changed -/
def mAr (σ : mw_M) (X : Nat → Nat → Int32) (u : mw_M) : Prop := u.2.1 = X ∧ ∀ f, f < 11 ∨ 25 < f → u.1 0 f = σ.1 0 f
theorem mFs.ar {σ u : mw_M} (h : mFs σ u) : mAr σ σ.2.1 u := h
theorem mAr.tr {σ u v : mw_M} {X : Nat → Nat → Int32} (h : mAr σ X u) (f : mFs u v) : mAr σ X v := ⟨f.1.trans h.1, fun k hk => (f.2 k hk).trans (h.2 k hk)⟩
theorem mAr.sa {σ u : mw_M} {X : Nat → Nat → Int32} (h : mAr σ X u) (a j : Nat) (v : Int32) : mAr σ (va_up X a (upd (X a) j v)) (mw_sa u a j v) := by
  refine ⟨?_, h.2⟩
  show va_up u.2.1 a (upd (u.2.1 a) j v) = _
  rw [h.1]
theorem mAr.many {σ u : mw_M} {X : Nat → Nat → Int32} {n : Nat} (h : mAr σ X u) (hn : σ.1 0 10 = nI n) : u.1 0 10 = nI n := (h.2 10 (by omega)).trans hn
theorem mAr.ru {σ u : mw_M} {X : Nat → Nat → Int32} {z : zP} (h : mAr σ X u) (h1 : X 1 = σ.2.1 1) (h2 : X 2 = σ.2.1 2) (hr : mRu σ z) : mRu u z := by
  obtain ⟨t, n, bs, e1, e2, e3⟩ := hr
  refine ⟨t, n, bs, (h.2 4 (by omega)).trans e1, ?_, e3⟩
  unfold mTt
  rw [h.1, h1, h2]
  exact e2
/-- what the reckoning reads: the board's first five, a customer's first four -/
theorem cg_tell {z : zP} {w : Nat} {st st2 cu cu2 : Nat → Int32} (hs : ∀ j, j < 5 → st j = st2 j) (hc : ∀ f, f < 4 → cu f = cu2 f) : tellP z w st cu = tellP z w st2 cu2 := by
  unfold tellP
  rw [show evP st cu = evP st2 cu2 from by
    funext k
    unfold evP
    rw [hs 0 (by omega), hs 1 (by omega), hs 2 (by omega), hc 1 (by omega), hc 2 (by omega), hc 3 (by omega)]]
theorem cg_eats {z : zP} {st st2 cu cu2 : Nat → Int32} (hs : ∀ j, j < 5 → st j = st2 j) (hc : ∀ f, f < 4 → cu f = cu2 f) : eatsP z st cu = eatsP z st2 cu2 := by
  unfold eatsP
  rw [cg_tell hs hc, hs 2 (by omega), hs 1 (by omega), hc 0 (by omega), hc 3 (by omega)]
theorem cg_tries {z : zP} {st st2 cu cu2 : Nat → Int32} (hs : ∀ j, j < 5 → st j = st2 j) (hc : ∀ f, f < 4 → cu f = cu2 f) : triesP z st cu = triesP z st2 cu2 := by
  unfold triesP
  rw [cg_tell hs hc, hs 1 (by omega), hc 0 (by omega), hc 1 (by omega)]
theorem cg_spends {z : zP} {st st2 cu cu2 : Nat → Int32} (hs : ∀ j, j < 5 → st j = st2 j) (hc : ∀ f, f < 4 → cu f = cu2 f) : spendsP z st cu = spendsP z st2 cu2 := by
  unfold spendsP
  rw [cg_tell hs hc, hc 0 (by omega), hc 1 (by omega)]
theorem cg_there {st st2 cu cu2 : Nat → Int32} (hs : ∀ j, j < 5 → st j = st2 j) (hc : ∀ f, f < 4 → cu f = cu2 f) : thereP st cu = thereP st2 cu2 := by
  show ((st 3 >>> (cu 2 &&& 31)) &&& 1 = 1) = _
  rw [hs 3 (by omega), hc 2 (by omega)]
theorem cg_thereI {st st2 cu cu2 : Nat → Int32} (hs : ∀ j, j < 5 → st j = st2 j) (hc : ∀ f, f < 4 → cu f = cu2 f) : thereP st cu ↔ thereP st2 cu2 := by rw [cg_there hs hc]
theorem cg_cost {z : zP} {st st2 cu cu2 : Nat → Int32} (hs : ∀ j, j < 5 → st j = st2 j) (hc : ∀ f, f < 4 → cu f = cu2 f) : costP z st cu = costP z st2 cu2 := by
  unfold costP
  rw [cg_eats hs hc, hs 0 (by omega), hs 4 (by omega)]
  by_cases h : thereP st cu
  · rw [if_pos h, if_pos ((cg_thereI hs hc).mp h)]
  · rw [if_neg h, if_neg (fun q => h ((cg_thereI hs hc).mpr q))]
theorem cg_gain {z : zP} {st st2 cu cu2 : Nat → Int32} (hs : ∀ j, j < 5 → st j = st2 j) (hc : ∀ f, f < 4 → cu f = cu2 f) : gainP z st cu = gainP z st2 cu2 := by
  unfold gainP
  rw [cg_tries hs hc, cg_spends hs hc, cg_cost hs hc]
  by_cases h : thereP st cu
  · rw [if_pos h, if_pos ((cg_thereI hs hc).mp h)]
  · rw [if_neg h, if_neg (fun q => h ((cg_thereI hs hc).mpr q))]

set_option maxHeartbeats 4000000 in
set_option maxRecDepth 100000 in
theorem cM_isSheet (l : Launch) (E : mw_E) (σ : mw_M) (v : Int32) : mw_Ci shM 13 gM l yX12_isSheet cX12_isSheet 1 (some .boolean) (rmF 1 25) E [.int v] σ (fun r u => r = bI (0 ≤ v.toInt ∧ v.toInt ≤ 3) ∧ u = σ) := by
  refine mw_of (by decide) gM_ok (Nat.le_of_ble_eq_true rfl) ?_
  intro p_ e_ s_ m_ below meth c_ C hr hlk Z hP ls hl
  have C : CallFix p_ m_ c_ cX12_isSheet 1 s_ _ lw_good RX12 := C
  have hl : lv_has ls 1 [(0, .int v)] := hl
  have hS : va_S (mw_A 13 E) s_.heap s_.heap [] := va_S.rf
  refine lv_iload_n C.1 C.2.1 dX12_isSheet_0 rfl (lv_at hl 0 rfl) ?_
  refine lv_i2l C.1 C.2.1 dX12_isSheet_1 rfl ?_
  refine lv_lconst (v := 0) C.1 C.2.1 dX12_isSheet_2 (by decide) ?_
  refine lv_ldc2 (own := RX12) C.1 C.2.1 C.2.2.2.1 (C.2.2.2.2 _ tw_6_133) dX12_isSheet_3 ?_
  refine mw_cSi (As := [.long (v.toInt64), .long (0), .long (3)]) (rest := []) C Z hP hS (cM_in l E σ (v.toInt64) 0 3 (0 ≤ v.toInt ∧ v.toInt ≤ 3) (by first | (simp only [nl_i]; exact Iff.rfl) | (simp only [nl_i]; decide) | simp [nl_i])) sb_X12_in tw_5_33 ⟨rfl, rfl⟩ ⟨Nat.le_of_ble_eq_true rfl, Nat.le_of_ble_eq_true rfl⟩ rfl hl.1 rfl (Nat.le_of_ble_eq_true rfl) dX12_isSheet_6 ⟨Nat.zero_le _, Nat.zero_le _⟩ (fun r1 u2 H locs q3 hP hS => ?_)
  obtain ⟨rfl, q3u⟩ := q3
  rw [q3u] at hP; clear q3u
  exact mw_zret C hr hlk Z hP hS (bI_nar _) dX12_isSheet_9 (⟨rfl, rfl⟩)

def zF (g : Nat → Int32) (b i : Nat) : Nat → Int32 := fun j => if b ≤ j ∧ j < b + i then 0 else g j
theorem zF_0 (g : Nat → Int32) (b : Nat) : zF g b 0 = g := by
  funext j
  unfold zF
  rw [if_neg (by omega)]
theorem zF_s (g : Nat → Int32) (b i : Nat) : upd (zF g b i) (b + i) 0 = zF g b (i + 1) := by
  funext j
  unfold upd zF
  by_cases h : j = b + i
  · rw [if_pos h, if_pos (by omega)]
  · rw [if_neg h]
    by_cases h2 : b ≤ j ∧ j < b + i
    · rw [if_pos h2, if_pos (by omega)]
    · rw [if_neg h2, if_neg (by omega)]
/-- a sheet becomes a row of n of a sort, all 0, or missing -/
def sheetX (X : Nat → Nat → Int32) (s : Nat) (so n : Int32) : Nat → Nat → Int32 := va_up (va_up (va_up (va_up X 9 (upd (X 9) s (bI (0 ≤ so)))) 10 (upd (X 10) s so)) 11 (upd (X 11) s n)) 12 (if 0 ≤ so then zF (X 12) (40 * s) n.toNatClampNeg else X 12)
def sheetF (X : Nat → Nat → Int32) (s so n : Int32) : Int32 × (Nat → Nat → Int32) := if ¬ (0 ≤ s.toInt ∧ s.toInt ≤ 3) ∨ ¬ (-1 ≤ so.toInt ∧ so.toInt ≤ 2) ∨ (0 ≤ so ∧ 40 < n) then (-2, X) else if 0 ≤ so ∧ n < 0 then (-14, X) else (1, sheetX X s.toNatClampNeg so n)

set_option maxHeartbeats 4000000 in
set_option maxRecDepth 100000 in
theorem cM_sheet (l : Launch) (E : mw_E) (σ : mw_M) (ss so nn : Int32) : mw_Ci shM 13 gM l yX12_sheet cX12_sheet 5 (some .int) (rmF 2 45) E [.ref (mw_a E 0), .int ss, .int so, .int nn] σ (fun r u => r = (sheetF σ.2.1 ss so nn).1 ∧ mAr σ (sheetF σ.2.1 ss so nn).2 u) := by
  refine mw_of (by decide) gM_ok (Nat.le_of_ble_eq_true rfl) ?_
  intro p_ e_ s_ m_ below meth c_ C hr hlk Z hP ls hl
  have C : CallFix p_ m_ c_ cX12_sheet 5 s_ _ lw_good RX12 := C
  have hl : lv_has ls 5 [(0, .ref (mw_a E 0)), (1, .int ss), (2, .int so), (3, .int nn)] := hl
  have hS : va_S (mw_A 13 E) s_.heap s_.heap [] := va_S.rf
  refine lv_iload_n C.1 C.2.1 dX12_sheet_0 rfl (lv_at hl 1 rfl) ?_
  refine mw_cSi (As := [.int ss]) (rest := []) C Z hP hS (cM_isSheet l E σ ss) sb_X12_isSheet tw_6_130 ⟨rfl, rfl⟩ ⟨Nat.le_of_ble_eq_true rfl, Nat.le_of_ble_eq_true rfl⟩ rfl hl.1 rfl (Nat.le_of_ble_eq_true rfl) dX12_sheet_1 ⟨Nat.zero_le _, Nat.zero_le _⟩ (fun r1 u2 H locs q3 hP hS => ?_)
  obtain ⟨rfl, q3u⟩ := q3
  rw [q3u] at hP; clear q3u
  refine lv_if_eq (tgt := 31) C.1 C.2.1 dX12_sheet_4 (by decide) (fun c4 => ?_) (fun c4 => ?_)
  · have c4 := bI_0.mp c4
    refine lv_bipush (v := -2) C.1 C.2.1 dX12_sheet_31 (by decide) ?_
    exact mw_iret C hr hlk Z hP hS dX12_sheet_33 (⟨by unfold sheetF; rw [if_pos (Or.inl c4)], by unfold sheetF; rw [if_pos (Or.inl c4)]; exact (mFs.ar (mFs.rf σ))⟩)
  · have c4 := bI_n.mp c4
    have hrs := c4
    obtain ⟨sn, hsn, esn⟩ := nI_ofI (k := 3) hrs.1 hrs.2
    subst esn
    refine lv_iload_n C.1 C.2.1 dX12_sheet_7 rfl (lv_at hl 2 rfl) ?_
    refine lv_i2l C.1 C.2.1 dX12_sheet_8 rfl ?_
    refine lv_ldc2 (own := RX12) C.1 C.2.1 C.2.2.2.1 (C.2.2.2.2 _ tw_6_147) dX12_sheet_9 ?_
    refine lv_ldc2 (own := RX12) C.1 C.2.1 C.2.2.2.1 (C.2.2.2.2 _ tw_6_148) dX12_sheet_12 ?_
    refine mw_cSi (As := [.long (so.toInt64), .long (-1), .long (2)]) (rest := []) C Z hP hS (cM_in l E σ (so.toInt64) (-1) 2 (-1 ≤ so.toInt ∧ so.toInt ≤ 2) (by first | (simp only [nl_i]; exact Iff.rfl) | (simp only [nl_i]; decide) | simp [nl_i])) sb_X12_in tw_5_33 ⟨rfl, rfl⟩ ⟨Nat.le_of_ble_eq_true rfl, Nat.le_of_ble_eq_true rfl⟩ rfl hl.1 rfl (Nat.le_of_ble_eq_true rfl) dX12_sheet_15 ⟨Nat.zero_le _, Nat.zero_le _⟩ (fun r5 u6 H locs q7 hP hS => ?_)
    obtain ⟨rfl, q7u⟩ := q7
    rw [q7u] at hP; clear q7u
    refine lv_if_eq (tgt := 31) C.1 C.2.1 dX12_sheet_18 (by decide) (fun c8 => ?_) (fun c8 => ?_)
    · have c8 := bI_0.mp c8
      refine lv_bipush (v := -2) C.1 C.2.1 dX12_sheet_31 (by decide) ?_
      exact mw_iret C hr hlk Z hP hS dX12_sheet_33 (⟨by unfold sheetF; rw [if_pos (Or.inr (Or.inl c8))], by unfold sheetF; rw [if_pos (Or.inr (Or.inl c8))]; exact (mFs.ar (mFs.rf σ))⟩)
    · have c8 := bI_n.mp c8
      have hro := c8
      refine lv_iload_n C.1 C.2.1 dX12_sheet_21 rfl (lv_at hl 2 rfl) ?_
      refine lv_if_lt (tgt := 34) C.1 C.2.1 dX12_sheet_22 (by decide) (fun c9 => ?_) (fun c9 => ?_)
      · have hgood : ¬ (¬ (0 ≤ (nI sn).toInt ∧ (nI sn).toInt ≤ 3) ∨ ¬ (-1 ≤ so.toInt ∧ so.toInt ≤ 2) ∨ (0 ≤ so ∧ 40 < nn)) := fun y => y.elim (fun y => y hrs) (fun y => y.elim (fun y => y hro) (fun y => absurd y.1 (Int32.not_le.mpr c9)))
        refine lv_iload_n C.1 C.2.1 dX12_sheet_34 rfl (lv_at hl 2 rfl) ?_
        refine lv_if_lt (tgt := 45) C.1 C.2.1 dX12_sheet_35 (by decide) (fun c10 => ?_) (fun c10 => ?_)
        · have hok : ¬ (0 ≤ so ∧ nn < 0) := fun y => absurd y.1 (Int32.not_le.mpr c10)
          refine lv_aload_n C.1 C.2.1 dX12_sheet_45 rfl (lv_at hl 0 rfl) ?_
          refine mw_getr C Z hP (0) 30 (9) (by decide) rfl rfl rfl (by decide) inX12 tw_4_194 dX12_sheet_46 ?_
          refine lv_iload_n C.1 C.2.1 dX12_sheet_49 rfl (lv_at hl 1 rfl) ?_
          refine lv_iload_n C.1 C.2.1 dX12_sheet_50 rfl (lv_at hl 2 rfl) ?_
          refine lv_if_lt (tgt := 58) C.1 C.2.1 dX12_sheet_51 (by decide) (fun c11 => ?_) (fun c11 => ?_)
          · have hbi : bI (0 ≤ so) = 0 := bI_f (Int32.not_le.mpr c11)
            have hso := Int32.not_le.mpr c11
            have hnn : 0 ≤ so → (0 : Int) ≤ nn.toInt := fun y => absurd y hso
            refine lv_iconst (v := 0) C.1 C.2.1 dX12_sheet_58 (by decide) ?_
            refine mw_zast C Z hP hS (9) (sn) (by decide) rfl (Nat.lt_of_lt_of_le (by decide : 4 < 961) (Nat.le_of_ble_eq_true rfl)) rfl (by omega) rfl dX12_sheet_59 (fun H locs hP hS => ?_)
            refine lv_aload_n C.1 C.2.1 dX12_sheet_60 rfl (lv_at hl 0 rfl) ?_
            refine mw_getr C Z hP (0) 31 (10) (by decide) rfl rfl rfl (by decide) inX12 tw_4_195 dX12_sheet_61 ?_
            refine lv_iload_n C.1 C.2.1 dX12_sheet_64 rfl (lv_at hl 1 rfl) ?_
            refine lv_iload_n C.1 C.2.1 dX12_sheet_65 rfl (lv_at hl 2 rfl) ?_
            refine mw_iast C Z hP hS (10) (sn) (by decide) rfl (Nat.lt_of_lt_of_le (by decide : 4 < 961) (Nat.le_of_ble_eq_true rfl)) rfl (by omega) dX12_sheet_66 (fun H locs hP hS => ?_)
            refine lv_aload_n C.1 C.2.1 dX12_sheet_67 rfl (lv_at hl 0 rfl) ?_
            refine mw_getr C Z hP (0) 32 (11) (by decide) rfl rfl rfl (by decide) inX12 tw_4_196 dX12_sheet_68 ?_
            refine lv_iload_n C.1 C.2.1 dX12_sheet_71 rfl (lv_at hl 1 rfl) ?_
            refine lv_iload_n C.1 C.2.1 dX12_sheet_72 rfl (lv_at hl 3 rfl) ?_
            refine mw_iast C Z hP hS (11) (sn) (by decide) rfl (Nat.lt_of_lt_of_le (by decide : 4 < 961) (Nat.le_of_ble_eq_true rfl)) rfl (by omega) dX12_sheet_73 (fun H locs hP hS => ?_)
            have hin0 : mAr σ (va_up (va_up (va_up (va_up σ.2.1 9 (upd (σ.2.1 9) sn (bI (0 ≤ so)))) 10 (upd (σ.2.1 10) sn so)) 11 (upd (σ.2.1 11) sn nn)) 12 (σ.2.1 12)) (mw_sa (mw_sa (mw_sa σ 9 sn 0) 10 sn so) 11 sn nn) := by
              have y := ((((mFs.ar (mFs.rf σ)).sa 9 sn 0).sa 10 sn so).sa 11 sn nn)
              rw [hbi]
              refine ⟨y.1.trans ?_, y.2⟩
              funext a
              by_cases ha : a = 12
              · subst ha; rw [va_up_self]; rfl
              · rw [va_up_ne _ _ ha]; rfl
            refine lv_iconst (v := 0) C.1 C.2.1 dX12_sheet_74 (by decide) ?_
            refine lv_istore (lv' := [(4, .int 0), (0, .ref (mw_a E 0)), (1, .int (nI sn)), (2, .int so), (3, .int nn)]) C.1 C.2.1 dX12_sheet_75 hl (by decide) rfl (fun ls hl => ?_)
            have lpa : ∀ (N : Nat) (i : Nat) (ςa : mw_M) (H : Heap) (locs : List Loc), 41 ≤ i + N → (i ≤ 40 ∧ (0 ≤ so → (i : Int) ≤ nn.toInt) ∧ (¬ 0 ≤ so → i = 0)) → mAr σ (va_up (va_up (va_up (va_up σ.2.1 9 (upd (σ.2.1 9) sn (bI (0 ≤ so)))) 10 (upd (σ.2.1 10) sn so)) 11 (upd (σ.2.1 11) sn nn)) 12 (zF (σ.2.1 12) (40 * sn) i)) ςa → va_P (mw_D E) vwCl (mw_ws shM 13 E ςa) H → va_S (mw_A 13 E) s_.heap H locs → ∀ (ls : Array Slot), lv_has ls 5 [(0, .ref (mw_a E 0)), (1, .int (nI sn)), (2, .int so), (3, .int nn), (4, .int (nI i))] → mWi p_ l e_ (rmF 2 45) s_ m_ [.ref (mw_a E 0), .int (nI sn), .int so, .int nn] below meth c_ E (fun r u => r = (sheetF σ.2.1 (nI sn) so nn).1 ∧ mAr σ (sheetF σ.2.1 (nI sn) so nn).2 u) H locs (F0 m_ 77 ls []) := by
              intro N
              induction N with
              | zero => intros; exfalso; omega
              | succ N iha =>
                intro i ςa H locs hNa hi fra hP hS ls hl
                refine lv_iload C.1 C.2.1 dX12_sheet_77 (lv_at hl 4 rfl) ?_
                refine lv_iload_n C.1 C.2.1 dX12_sheet_79 rfl (lv_at hl 3 rfl) ?_
                refine lv_icmp_ge (tgt := 106) C.1 C.2.1 dX12_sheet_80 (by decide) (fun c12 => ?_) (fun c12 => ?_)
                · refine lv_iconst (v := 1) C.1 C.2.1 dX12_sheet_106 (by decide) ?_
                  have e : sheetF σ.2.1 (nI sn) so nn = (1, sheetX σ.2.1 sn so nn) := by unfold sheetF; rw [if_neg hgood, if_neg hok, nI_clamp (n := sn) (by omega)]
                  exact mw_iret C hr hlk Z hP hS dX12_sheet_107 (⟨by rw [e], by rw [e]; have y := fra; unfold sheetX; rw [if_neg hso]; rw [hi.2.2 hso, zF_0] at y; exact y⟩)
                · have hlt : (i : Int) < nn.toInt := by have y1 := (not_congr (ni_le _ _)).mp c12; rw [nI_toInt (by omega)] at y1; omega
                  refine lv_iload_n C.1 C.2.1 dX12_sheet_83 rfl (lv_at hl 2 rfl) ?_
                  refine lv_if_lt (tgt := 106) C.1 C.2.1 dX12_sheet_84 (by decide) (fun c13 => ?_) (fun c13 => ?_)
                  · refine lv_iconst (v := 1) C.1 C.2.1 dX12_sheet_106 (by decide) ?_
                    have e : sheetF σ.2.1 (nI sn) so nn = (1, sheetX σ.2.1 sn so nn) := by unfold sheetF; rw [if_neg hgood, if_neg hok, nI_clamp (n := sn) (by omega)]
                    exact mw_iret C hr hlk Z hP hS dX12_sheet_107 (⟨by rw [e], by rw [e]; have y := fra; unfold sheetX; rw [if_neg hso]; rw [hi.2.2 hso, zF_0] at y; exact y⟩)
                  · have y1 := (not_congr (ni_lt _ _)).mp c13
                    have y2 := (not_congr (ni_le _ _)).mp hso
                    exfalso; omega
            exact lpa (41) 0 (mw_sa (mw_sa (mw_sa σ 9 sn 0) 10 sn so) 11 sn nn) _ _ (by omega) (⟨by omega, fun y => by have := hnn y; omega, fun _ => rfl⟩) (by rw [zF_0]; exact hin0) hP hS ls (lv_sub hl [1, 2, 3, 4, 0] rfl)
          · have y1 := (not_congr (ni_lt _ _)).mp c11
            have y2 := (ni_lt _ _).mp c9
            exfalso; omega
        · have y1 := (not_congr (ni_lt _ _)).mp c10
          have y2 := (ni_lt _ _).mp c9
          exfalso; omega
      · refine lv_iload_n C.1 C.2.1 dX12_sheet_25 rfl (lv_at hl 3 rfl) ?_
        refine lv_bipush (v := 40) C.1 C.2.1 dX12_sheet_26 (by decide) ?_
        refine lv_icmp_le (tgt := 34) C.1 C.2.1 dX12_sheet_28 (by decide) (fun c14 => ?_) (fun c14 => ?_)
        · have hgood : ¬ (¬ (0 ≤ (nI sn).toInt ∧ (nI sn).toInt ≤ 3) ∨ ¬ (-1 ≤ so.toInt ∧ so.toInt ≤ 2) ∨ (0 ≤ so ∧ 40 < nn)) := fun y => y.elim (fun y => y hrs) (fun y => y.elim (fun y => y hro) (fun y => absurd y.2 (Int32.not_lt.mpr c14)))
          have hn40 := c14
          refine lv_iload_n C.1 C.2.1 dX12_sheet_34 rfl (lv_at hl 2 rfl) ?_
          refine lv_if_lt (tgt := 45) C.1 C.2.1 dX12_sheet_35 (by decide) (fun c15 => ?_) (fun c15 => ?_)
          · have y1 := (ni_lt _ _).mp c15
            have y2 := (not_congr (ni_lt _ _)).mp c9
            exfalso; omega
          · refine lv_iload_n C.1 C.2.1 dX12_sheet_38 rfl (lv_at hl 3 rfl) ?_
            refine lv_if_ge (tgt := 45) C.1 C.2.1 dX12_sheet_39 (by decide) (fun c16 => ?_) (fun c16 => ?_)
            · have hok : ¬ (0 ≤ so ∧ nn < 0) := fun y => absurd y.2 (Int32.not_lt.mpr c16)
              have hn0 := c16
              refine lv_aload_n C.1 C.2.1 dX12_sheet_45 rfl (lv_at hl 0 rfl) ?_
              refine mw_getr C Z hP (0) 30 (9) (by decide) rfl rfl rfl (by decide) inX12 tw_4_194 dX12_sheet_46 ?_
              refine lv_iload_n C.1 C.2.1 dX12_sheet_49 rfl (lv_at hl 1 rfl) ?_
              refine lv_iload_n C.1 C.2.1 dX12_sheet_50 rfl (lv_at hl 2 rfl) ?_
              refine lv_if_lt (tgt := 58) C.1 C.2.1 dX12_sheet_51 (by decide) (fun c17 => ?_) (fun c17 => ?_)
              · have y1 := (ni_lt _ _).mp c17
                have y2 := (not_congr (ni_lt _ _)).mp c9
                exfalso; omega
              · have hbi : bI (0 ≤ so) = 1 := bI_t (Int32.not_lt.mp c17)
                have hso := Int32.not_lt.mp c17
                have hnn : 0 ≤ so → (0 : Int) ≤ nn.toInt := fun _ => (ni_le 0 nn).mp hn0
                refine lv_iconst (v := 1) C.1 C.2.1 dX12_sheet_54 (by decide) ?_
                refine lv_goto (tgt := 59) C.1 C.2.1 dX12_sheet_55 (by decide) ?_
                refine mw_zast C Z hP hS (9) (sn) (by decide) rfl (Nat.lt_of_lt_of_le (by decide : 4 < 961) (Nat.le_of_ble_eq_true rfl)) rfl (by omega) rfl dX12_sheet_59 (fun H locs hP hS => ?_)
                refine lv_aload_n C.1 C.2.1 dX12_sheet_60 rfl (lv_at hl 0 rfl) ?_
                refine mw_getr C Z hP (0) 31 (10) (by decide) rfl rfl rfl (by decide) inX12 tw_4_195 dX12_sheet_61 ?_
                refine lv_iload_n C.1 C.2.1 dX12_sheet_64 rfl (lv_at hl 1 rfl) ?_
                refine lv_iload_n C.1 C.2.1 dX12_sheet_65 rfl (lv_at hl 2 rfl) ?_
                refine mw_iast C Z hP hS (10) (sn) (by decide) rfl (Nat.lt_of_lt_of_le (by decide : 4 < 961) (Nat.le_of_ble_eq_true rfl)) rfl (by omega) dX12_sheet_66 (fun H locs hP hS => ?_)
                refine lv_aload_n C.1 C.2.1 dX12_sheet_67 rfl (lv_at hl 0 rfl) ?_
                refine mw_getr C Z hP (0) 32 (11) (by decide) rfl rfl rfl (by decide) inX12 tw_4_196 dX12_sheet_68 ?_
                refine lv_iload_n C.1 C.2.1 dX12_sheet_71 rfl (lv_at hl 1 rfl) ?_
                refine lv_iload_n C.1 C.2.1 dX12_sheet_72 rfl (lv_at hl 3 rfl) ?_
                refine mw_iast C Z hP hS (11) (sn) (by decide) rfl (Nat.lt_of_lt_of_le (by decide : 4 < 961) (Nat.le_of_ble_eq_true rfl)) rfl (by omega) dX12_sheet_73 (fun H locs hP hS => ?_)
                have hin0 : mAr σ (va_up (va_up (va_up (va_up σ.2.1 9 (upd (σ.2.1 9) sn (bI (0 ≤ so)))) 10 (upd (σ.2.1 10) sn so)) 11 (upd (σ.2.1 11) sn nn)) 12 (σ.2.1 12)) (mw_sa (mw_sa (mw_sa σ 9 sn 1) 10 sn so) 11 sn nn) := by
                  have y := ((((mFs.ar (mFs.rf σ)).sa 9 sn 1).sa 10 sn so).sa 11 sn nn)
                  rw [hbi]
                  refine ⟨y.1.trans ?_, y.2⟩
                  funext a
                  by_cases ha : a = 12
                  · subst ha; rw [va_up_self]; rfl
                  · rw [va_up_ne _ _ ha]; rfl
                refine lv_iconst (v := 0) C.1 C.2.1 dX12_sheet_74 (by decide) ?_
                refine lv_istore (lv' := [(4, .int 0), (0, .ref (mw_a E 0)), (1, .int (nI sn)), (2, .int so), (3, .int nn)]) C.1 C.2.1 dX12_sheet_75 hl (by decide) rfl (fun ls hl => ?_)
                have lpa : ∀ (N : Nat) (i : Nat) (ςa : mw_M) (H : Heap) (locs : List Loc), 41 ≤ i + N → (i ≤ 40 ∧ (0 ≤ so → (i : Int) ≤ nn.toInt) ∧ (¬ 0 ≤ so → i = 0)) → mAr σ (va_up (va_up (va_up (va_up σ.2.1 9 (upd (σ.2.1 9) sn (bI (0 ≤ so)))) 10 (upd (σ.2.1 10) sn so)) 11 (upd (σ.2.1 11) sn nn)) 12 (zF (σ.2.1 12) (40 * sn) i)) ςa → va_P (mw_D E) vwCl (mw_ws shM 13 E ςa) H → va_S (mw_A 13 E) s_.heap H locs → ∀ (ls : Array Slot), lv_has ls 5 [(0, .ref (mw_a E 0)), (1, .int (nI sn)), (2, .int so), (3, .int nn), (4, .int (nI i))] → mWi p_ l e_ (rmF 2 45) s_ m_ [.ref (mw_a E 0), .int (nI sn), .int so, .int nn] below meth c_ E (fun r u => r = (sheetF σ.2.1 (nI sn) so nn).1 ∧ mAr σ (sheetF σ.2.1 (nI sn) so nn).2 u) H locs (F0 m_ 77 ls []) := by
                  intro N
                  induction N with
                  | zero => intros; exfalso; omega
                  | succ N iha =>
                    intro i ςa H locs hNa hi fra hP hS ls hl
                    refine lv_iload C.1 C.2.1 dX12_sheet_77 (lv_at hl 4 rfl) ?_
                    refine lv_iload_n C.1 C.2.1 dX12_sheet_79 rfl (lv_at hl 3 rfl) ?_
                    refine lv_icmp_ge (tgt := 106) C.1 C.2.1 dX12_sheet_80 (by decide) (fun c18 => ?_) (fun c18 => ?_)
                    · refine lv_iconst (v := 1) C.1 C.2.1 dX12_sheet_106 (by decide) ?_
                      have e : sheetF σ.2.1 (nI sn) so nn = (1, sheetX σ.2.1 sn so nn) := by unfold sheetF; rw [if_neg hgood, if_neg hok, nI_clamp (n := sn) (by omega)]
                      exact mw_iret C hr hlk Z hP hS dX12_sheet_107 (⟨by rw [e], by rw [e]; have y := fra; unfold sheetX; rw [if_pos hso, show nn.toNatClampNeg = i from by have y1 := (ni_le _ _).mp c18; rw [nI_toInt (by omega)] at y1; have y2 := hi.2.1 hso; show nn.toInt.toNat = i; omega]; exact y⟩)
                    · have hlt : (i : Int) < nn.toInt := by have y1 := (not_congr (ni_le _ _)).mp c18; rw [nI_toInt (by omega)] at y1; omega
                      refine lv_iload_n C.1 C.2.1 dX12_sheet_83 rfl (lv_at hl 2 rfl) ?_
                      refine lv_if_lt (tgt := 106) C.1 C.2.1 dX12_sheet_84 (by decide) (fun c19 => ?_) (fun c19 => ?_)
                      · have y1 := (ni_lt _ _).mp c19
                        have y2 := (ni_le _ _).mp hso
                        exfalso; omega
                      · have h40 : nn.toInt ≤ 40 := by have := (ni_le _ _).mp hn40; have e : (40 : Int32).toInt = 40 := rfl; omega
                        refine lv_aload_n C.1 C.2.1 dX12_sheet_87 rfl (lv_at hl 0 rfl) ?_
                        refine mw_getr C Z hP (0) 33 (12) (by decide) rfl rfl rfl (by decide) inX12 tw_4_197 dX12_sheet_88 ?_
                        refine lv_bipush (v := 40) C.1 C.2.1 dX12_sheet_91 (by decide) ?_
                        refine lv_iload_n C.1 C.2.1 dX12_sheet_93 rfl (lv_at hl 1 rfl) ?_
                        refine lv_imul C.1 C.2.1 dX12_sheet_94 ?_
                        refine mw_top (y := nI (40 * sn)) (pk_mul 40 sn) ?_
                        refine lv_iload C.1 C.2.1 dX12_sheet_95 (lv_at hl 4 rfl) ?_
                        refine lv_iadd C.1 C.2.1 dX12_sheet_97 ?_
                        refine mw_top (y := nI (40 * sn + i)) (nI_add _ _) ?_
                        refine lv_iconst (v := 0) C.1 C.2.1 dX12_sheet_98 (by decide) ?_
                        refine mw_iast C Z hP hS (12) (40 * sn + i) (by decide) rfl (Nat.lt_of_lt_of_le (by decide : 160 < 961) (Nat.le_of_ble_eq_true rfl)) rfl (by omega) dX12_sheet_99 (fun H locs hP hS => ?_)
                        refine lv_iinc (v := nI (i + 1)) (lv' := [(4, .int (nI (i + 1))), (0, .ref (mw_a E 0)), (1, .int (nI sn)), (2, .int so), (3, .int nn)]) C.1 C.2.1 dX12_sheet_100 hl (k := 4) rfl (nI_1 _) (by decide) rfl (fun ls hl => ?_)
                        refine lv_goto (tgt := 77) C.1 C.2.1 dX12_sheet_103 (by decide) ?_
                        exact iha (i + 1) (mw_sa ςa 12 (40 * sn + i) 0) _ _ (by omega) (⟨by omega, fun _ => by omega, fun y => absurd hso y⟩) (by have y := (fra.sa 12 (40 * sn + i) 0); rw [va_up_self, bx_uu, zF_s] at y; exact y) hP hS ls (lv_sub hl [1, 2, 3, 4, 0] rfl)
                exact lpa (41) 0 (mw_sa (mw_sa (mw_sa σ 9 sn 1) 10 sn so) 11 sn nn) _ _ (by omega) (⟨by omega, fun y => by have := hnn y; omega, fun _ => rfl⟩) (by rw [zF_0]; exact hin0) hP hS ls (lv_sub hl [1, 2, 3, 4, 0] rfl)
            · refine lv_bipush (v := -14) C.1 C.2.1 dX12_sheet_42 (by decide) ?_
              have e : sheetF σ.2.1 (nI sn) so nn = (-14, σ.2.1) := by unfold sheetF; rw [if_neg hgood, if_pos ⟨Int32.not_lt.mp c15, Int32.not_le.mp c16⟩]
              exact mw_iret C hr hlk Z hP hS dX12_sheet_44 (⟨by rw [e], by rw [e]; exact (mFs.ar (mFs.rf σ))⟩)
        · refine lv_bipush (v := -2) C.1 C.2.1 dX12_sheet_31 (by decide) ?_
          exact mw_iret C hr hlk Z hP hS dX12_sheet_33 (⟨by unfold sheetF; rw [if_pos (Or.inr (Or.inr ⟨Int32.not_lt.mp c9, Int32.not_le.mp c14⟩))], by unfold sheetF; rw [if_pos (Or.inr (Or.inr ⟨Int32.not_lt.mp c9, Int32.not_le.mp c14⟩))]; exact (mFs.ar (mFs.rf σ))⟩)
