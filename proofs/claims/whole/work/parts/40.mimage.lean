/-! THE REFERENCE: SELL, CHANCE, IMAGE, BACK, COUNT, TEXT -/
theorem wI_id {v : Int32} (h0 : 0 ≤ v.toInt) (h1 : v.toInt ≤ 999) : wI v 0 999 = v := by
  unfold wI
  have e0 : (0 : Int32).toInt = 0 := rfl
  have e9 : (999 : Int32).toInt = 999 := rfl
  rw [if_neg (by rw [ni_lt]; omega), if_neg (by rw [ni_lt]; omega)]
theorem sdR_id {z : zP} {st : Nat → Int32} {cu : Nat → Nat → Int32} {seed : Int32} {rows : Nat → Int32} : ∀ n, (∀ p, p < n → 0 ≤ (rows (4 * p + 3)).toInt ∧ (rows (4 * p + 3)).toInt ≤ 999) → sdR z st cu seed 0 rows n = rows
  | 0, _ => rfl
  | n + 1, h => by
    have ih := sdR_id (z := z) (st := st) (cu := cu) (seed := seed) n (fun p hp => h p (by omega))
    show (if _ then _ else _) = _
    rw [ih]
    split
    · rw [Int32.add_zero, wI_id (h n (by omega)).1 (h n (by omega)).2]
      exact upd_self rows _
    · rfl
def cnF (f : Nat → Int32) (k : Int32) : Nat → Nat
  | 0 => 0
  | t + 1 => cnF f k t + (if f t < k then 0 else 1)
theorem cnF_le (f : Nat → Int32) (k : Int32) : ∀ t, cnF f k t ≤ t
  | 0 => Nat.le_refl _
  | t + 1 => by
    have := cnF_le f k t
    show cnF f k t + (if f t < k then 0 else 1) ≤ _
    split <;> omega
def chaA (z : zP) (st : Nat → Int32) (cu : Nat → Nat → Int32) (n : Nat) (seed k : Int32) (m : Nat) : Nat := cnF (fun t => sdS z st cu (seed + nI t) n) k m
def chaF (z : zP) (st : Nat → Int32) (cu : Nat → Nat → Int32) (n : Nat) (seed m k w : Int32) : Int64 := if ¬ (1 ≤ m.toInt ∧ m.toInt ≤ 20) ∨ ¬ (0 ≤ k.toInt ∧ k.toInt ≤ 9999) ∨ ¬ (0 ≤ w.toInt ∧ w.toInt ≤ 1) then -4611686018427387904 else if w = 0 then lN (chaA z st cu n seed k m.toNatClampNeg / Nat.gcd (chaA z st cu n seed k m.toNatClampNeg) m.toNatClampNeg) else lN (m.toNatClampNeg / Nat.gcd (chaA z st cu n seed k m.toNatClampNeg) m.toNatClampNeg)

set_option maxHeartbeats 4000000 in
set_option maxRecDepth 100000 in
theorem cM_sell (l : Launch) (E : mw_E) (σ : mw_M) (z : zP) (n : Nat) (hn : σ.1 0 10 = nI n) (h8 : n ≤ 8) (hru : mRu σ z) (seed : Int32) : mw_Ci shM 13 gM l yX12_sell cX12_sell 2 (some .int) (rmF 45 1001) E [.ref (mw_a E 0), .int seed] σ (fun r u => r = sdS z (mSt σ) (mCu σ) seed n ∧ mAr σ (va_up σ.2.1 6 (sdR z (mSt σ) (mCu σ) seed 1 (σ.2.1 6) n)) u) := by
  refine mw_of (by decide) gM_ok (Nat.le_of_ble_eq_true rfl) ?_
  intro p_ e_ s_ m_ below meth c_ C hr hlk Z hP ls hl
  have C : CallFix p_ m_ c_ cX12_sell 2 s_ _ lw_good RX12 := C
  have hl : lv_has ls 2 [(0, .ref (mw_a E 0)), (1, .int seed)] := hl
  have hS : va_S (mw_A 13 E) s_.heap s_.heap [] := va_S.rf
  refine lv_aload_n C.1 C.2.1 dX12_sell_0 rfl (lv_at hl 0 rfl) ?_
  refine lv_iload_n C.1 C.2.1 dX12_sell_1 rfl (lv_at hl 1 rfl) ?_
  refine lv_iconst (v := 1) C.1 C.2.1 dX12_sell_2 (by decide) ?_
  refine mw_cVi (As := [.int seed, .int 1]) (rest := []) C Z hP hS (0) (cM_soldBy l E σ z n ((mFs.rf σ).many hn) h8 ((mFs.rf σ).ru hru) seed 1 (Or.inr rfl)) vb_X12_soldBy tw_6_153 ⟨rfl, rfl⟩ ⟨Nat.le_of_ble_eq_true rfl, Nat.le_of_ble_eq_true rfl⟩ (by decide) rfl rfl rfl rfl hl.1 rfl (Nat.le_of_ble_eq_true rfl) dX12_sell_3 ⟨Nat.zero_le _, Nat.zero_le _⟩ (fun r1 u2 H locs q3 hP hS => ?_)
  obtain ⟨e5, f4⟩ := q3
  subst e5
  exact mw_iret C hr hlk Z hP hS dX12_sell_6 (⟨rfl, f4⟩)

set_option maxHeartbeats 4000000 in
set_option maxRecDepth 100000 in
theorem cM_chance (l : Launch) (E : mw_E) (σ : mw_M) (z : zP) (n : Nat) (hn : σ.1 0 10 = nI n) (h8 : n ≤ 8) (hru : mRu σ z) (hbt : ∀ p, p < n → 0 ≤ (σ.2.1 6 (4 * p + 3)).toInt ∧ (σ.2.1 6 (4 * p + 3)).toInt ≤ 999) (seed m1 kk w : Int32) : mw_Cl shM 13 gM l yX12_chance cX12_chance 9 (some .long) (rmF 45 1001) E [.ref (mw_a E 0), .int seed, .int m1, .int kk, .int w] σ (fun r u => r = chaF z (mSt σ) (mCu σ) n seed m1 kk w ∧ mFs σ u) := by
  refine mw_of (by decide) gM_ok (Nat.le_of_ble_eq_true rfl) ?_
  intro p_ e_ s_ m_ below meth c_ C hr hlk Z hP ls hl
  have C : CallFix p_ m_ c_ cX12_chance 9 s_ _ lw_good RX12 := C
  have hl : lv_has ls 9 [(0, .ref (mw_a E 0)), (1, .int seed), (2, .int m1), (3, .int kk), (4, .int w)] := hl
  have hS : va_S (mw_A 13 E) s_.heap s_.heap [] := va_S.rf
  refine lv_iload_n C.1 C.2.1 dX12_chance_0 rfl (lv_at hl 2 rfl) ?_
  refine lv_i2l C.1 C.2.1 dX12_chance_1 rfl ?_
  refine lv_lconst (v := 1) C.1 C.2.1 dX12_chance_2 (by decide) ?_
  refine lv_ldc2 (own := RX12) C.1 C.2.1 C.2.2.2.1 (C.2.2.2.2 _ tw_6_162) dX12_chance_3 ?_
  refine mw_cSi (As := [.long (m1.toInt64), .long (1), .long (20)]) (rest := []) C Z hP hS (cM_in l E σ (m1.toInt64) 1 20 (1 ≤ m1.toInt ∧ m1.toInt ≤ 20) (by first | (simp only [nl_i]; exact Iff.rfl) | (simp only [nl_i]; decide) | simp [nl_i])) sb_X12_in tw_5_33 ⟨rfl, rfl⟩ ⟨Nat.le_of_ble_eq_true rfl, Nat.le_of_ble_eq_true rfl⟩ rfl hl.1 rfl (Nat.le_of_ble_eq_true rfl) dX12_chance_6 ⟨Nat.zero_le _, Nat.zero_le _⟩ (fun r1 u2 H locs q3 hP hS => ?_)
  obtain ⟨rfl, q3u⟩ := q3
  rw [q3u] at hP; clear q3u
  refine lv_if_eq (tgt := 35) C.1 C.2.1 dX12_chance_9 (by decide) (fun c4 => ?_) (fun c4 => ?_)
  · have c4 := bI_0.mp c4
    refine lv_ldc2 (own := RX12) C.1 C.2.1 C.2.2.2.1 (C.2.2.2.2 _ tw_6_78) dX12_chance_35 ?_
    exact mw_lret C hr hlk Z hP hS dX12_chance_38 (⟨by unfold chaF; rw [if_pos (Or.inl c4)], (mFs.rf σ)⟩)
  · have c4 := bI_n.mp c4
    refine lv_iload_n C.1 C.2.1 dX12_chance_12 rfl (lv_at hl 3 rfl) ?_
    refine lv_i2l C.1 C.2.1 dX12_chance_13 rfl ?_
    refine lv_lconst (v := 0) C.1 C.2.1 dX12_chance_14 (by decide) ?_
    refine lv_ldc2 (own := RX12) C.1 C.2.1 C.2.2.2.1 (C.2.2.2.2 _ tw_6_163) dX12_chance_15 ?_
    refine mw_cSi (As := [.long (kk.toInt64), .long (0), .long (9999)]) (rest := []) C Z hP hS (cM_in l E σ (kk.toInt64) 0 9999 (0 ≤ kk.toInt ∧ kk.toInt ≤ 9999) (by first | (simp only [nl_i]; exact Iff.rfl) | (simp only [nl_i]; decide) | simp [nl_i])) sb_X12_in tw_5_33 ⟨rfl, rfl⟩ ⟨Nat.le_of_ble_eq_true rfl, Nat.le_of_ble_eq_true rfl⟩ rfl hl.1 rfl (Nat.le_of_ble_eq_true rfl) dX12_chance_18 ⟨Nat.zero_le _, Nat.zero_le _⟩ (fun r5 u6 H locs q7 hP hS => ?_)
    obtain ⟨rfl, q7u⟩ := q7
    rw [q7u] at hP; clear q7u
    refine lv_if_eq (tgt := 35) C.1 C.2.1 dX12_chance_21 (by decide) (fun c8 => ?_) (fun c8 => ?_)
    · have c8 := bI_0.mp c8
      refine lv_ldc2 (own := RX12) C.1 C.2.1 C.2.2.2.1 (C.2.2.2.2 _ tw_6_78) dX12_chance_35 ?_
      exact mw_lret C hr hlk Z hP hS dX12_chance_38 (⟨by unfold chaF; rw [if_pos (Or.inr (Or.inl c8))], (mFs.rf σ)⟩)
    · have c8 := bI_n.mp c8
      refine lv_iload C.1 C.2.1 dX12_chance_24 (lv_at hl 4 rfl) ?_
      refine lv_i2l C.1 C.2.1 dX12_chance_26 rfl ?_
      refine lv_lconst (v := 0) C.1 C.2.1 dX12_chance_27 (by decide) ?_
      refine lv_lconst (v := 1) C.1 C.2.1 dX12_chance_28 (by decide) ?_
      refine mw_cSi (As := [.long (w.toInt64), .long (0), .long (1)]) (rest := []) C Z hP hS (cM_in l E σ (w.toInt64) 0 1 (0 ≤ w.toInt ∧ w.toInt ≤ 1) (by first | (simp only [nl_i]; exact Iff.rfl) | (simp only [nl_i]; decide) | simp [nl_i])) sb_X12_in tw_5_33 ⟨rfl, rfl⟩ ⟨Nat.le_of_ble_eq_true rfl, Nat.le_of_ble_eq_true rfl⟩ rfl hl.1 rfl (Nat.le_of_ble_eq_true rfl) dX12_chance_29 ⟨Nat.zero_le _, Nat.zero_le _⟩ (fun r9 u10 H locs q11 hP hS => ?_)
      obtain ⟨rfl, q11u⟩ := q11
      rw [q11u] at hP; clear q11u
      refine lv_if_ne (tgt := 39) C.1 C.2.1 dX12_chance_32 (by decide) (fun c12 => ?_) (fun c12 => ?_)
      · have c12 := bI_n.mp c12
        have hgood : ¬ (¬ (1 ≤ m1.toInt ∧ m1.toInt ≤ 20) ∨ ¬ (0 ≤ kk.toInt ∧ kk.toInt ≤ 9999) ∨ ¬ (0 ≤ w.toInt ∧ w.toInt ≤ 1)) := fun y => y.elim (fun y => y c4) (fun y => y.elim (fun y => y c8) (fun y => y c12))
        have hrm := c4
        obtain ⟨mm, hmm, emm⟩ := nI_ofI (k := 20) (by omega) hrm.2
        subst emm
        have hm1 : 1 ≤ mm := by have := hrm.1; rw [nI_toInt (by omega)] at this; omega
        refine lv_lconst (v := 0) C.1 C.2.1 dX12_chance_39 (by decide) ?_
        refine lv_lstore (lv' := [(5, .long (0)), (0, .ref (mw_a E 0)), (1, .int seed), (2, .int (nI mm)), (3, .int kk), (4, .int w)]) C.1 C.2.1 dX12_chance_40 hl (by decide) rfl (fun ls hl => ?_)
        refine lv_iconst (v := 0) C.1 C.2.1 dX12_chance_42 (by decide) ?_
        refine lv_istore (lv' := [(7, .int 0), (5, .long (0)), (0, .ref (mw_a E 0)), (1, .int seed), (2, .int (nI mm)), (3, .int kk), (4, .int w)]) C.1 C.2.1 dX12_chance_43 hl (by decide) rfl (fun ls hl => ?_)
        have lpa : ∀ (N : Nat) (j : Nat) (A : Nat) (ςa : mw_M) (H : Heap) (locs : List Loc), mm + 1 ≤ j + N → (j ≤ mm) → (A = cnF (fun t => sdS z (mSt σ) (mCu σ) (seed + nI t) n) kk j) → mFs σ ςa → va_P (mw_D E) vwCl (mw_ws shM 13 E ςa) H → va_S (mw_A 13 E) s_.heap H locs → ∀ (ls : Array Slot), lv_has ls 9 [(0, .ref (mw_a E 0)), (1, .int seed), (2, .int (nI mm)), (3, .int kk), (4, .int w), (5, .long (lN A)), (7, .int (nI j))] → mWl p_ l e_ (rmF 45 1001) s_ m_ [.ref (mw_a E 0), .int seed, .int (nI mm), .int kk, .int w] below meth c_ E (fun r u => r = chaF z (mSt σ) (mCu σ) n seed (nI mm) kk w ∧ mFs σ u) H locs (F0 m_ 45 ls []) := by
          intro N
          induction N with
          | zero => intros; exfalso; omega
          | succ N iha =>
            intro j A ςa H locs hNa hj eA fra hP hS ls hl
            refine lv_iload C.1 C.2.1 dX12_chance_45 (lv_at hl 6 rfl) ?_
            refine lv_iload_n C.1 C.2.1 dX12_chance_47 rfl (lv_at hl 2 rfl) ?_
            refine lv_icmp_ge (tgt := 80) C.1 C.2.1 dX12_chance_48 (by decide) (fun c13 => ?_) (fun c13 => ?_)
            · have c13 := (nI_leI (by omega) (by omega)).mp c13
              rw [show j = mm by omega] at eA
              have hA := cnF_le (fun t => sdS z (mSt σ) (mCu σ) (seed + nI t) n) kk mm
              have hgp := Nat.gcd_pos_of_pos_right A (show 0 < mm by omega)
              have hgl := Nat.gcd_le_right A (show 0 < mm by omega)
              have hgne : ¬ lN (Nat.gcd A mm) = 0 := fun y => by have y := (pk_lEQ (b := 0) (by omega) (by decide)).mp y; omega
              refine lv_lload C.1 C.2.1 dX12_chance_80 (lv_at hl 5 rfl) ?_
              refine lv_iload_n C.1 C.2.1 dX12_chance_82 rfl (lv_at hl 2 rfl) ?_
              refine lv_i2l C.1 C.2.1 dX12_chance_83 rfl ?_
              refine mw_topl (y := lN mm) (nI_l (by omega)) ?_
              refine mw_cSl (As := [.long (lN A), .long (lN mm)]) (rest := []) C Z hP hS (cM_common l E ςa A mm (by omega) (by omega)) sb_X12_common tw_6_83 ⟨rfl, rfl⟩ ⟨Nat.le_of_ble_eq_true rfl, Nat.le_of_ble_eq_true rfl⟩ rfl hl.1 rfl (Nat.le_of_ble_eq_true rfl) dX12_chance_84 ⟨Nat.zero_le _, Nat.zero_le _⟩ (fun r14 u15 H locs q16 hP hS => ?_)
              obtain ⟨rfl, f17⟩ := q16
              refine lv_lstore (lv' := [(7, .long (lN (Nat.gcd A mm))), (0, .ref (mw_a E 0)), (1, .int seed), (2, .int (nI mm)), (3, .int kk), (4, .int w), (5, .long (lN A))]) C.1 C.2.1 dX12_chance_87 hl (by decide) rfl (fun ls hl => ?_)
              refine lv_iload C.1 C.2.1 dX12_chance_89 (lv_at hl 5 rfl) ?_
              refine lv_if_ne (tgt := 102) C.1 C.2.1 dX12_chance_91 (by decide) (fun c18 => ?_) (fun c18 => ?_)
              · refine lv_iload_n C.1 C.2.1 dX12_chance_102 rfl (lv_at hl 3 rfl) ?_
                refine lv_i2l C.1 C.2.1 dX12_chance_103 rfl ?_
                refine mw_topl (y := lN mm) (nI_l (by omega)) ?_
                refine lv_lload C.1 C.2.1 dX12_chance_104 (lv_at hl 0 rfl) ?_
                refine lv_ldiv C.1 C.2.1 dX12_chance_106 hgne ?_
                refine mw_topl (y := lN (mm / Nat.gcd A mm)) (pk_lDiv (by omega) hgp (by omega)) ?_
                exact mw_lret C hr hlk Z hP hS dX12_chance_107 (⟨by unfold chaF; rw [if_neg hgood, if_neg c18, nI_clamp (n := mm) (by omega)]; unfold chaA; rw [← eA], (fra.tr f17)⟩)
              · refine lv_lload C.1 C.2.1 dX12_chance_94 (lv_at hl 6 rfl) ?_
                refine lv_lload C.1 C.2.1 dX12_chance_96 (lv_at hl 0 rfl) ?_
                refine lv_ldiv C.1 C.2.1 dX12_chance_98 hgne ?_
                refine mw_topl (y := lN (A / Nat.gcd A mm)) (pk_lDiv (by omega) hgp (by omega)) ?_
                refine lv_goto (tgt := 107) C.1 C.2.1 dX12_chance_99 (by decide) ?_
                exact mw_lret C hr hlk Z hP hS dX12_chance_107 (⟨by unfold chaF; rw [if_neg hgood, if_pos c18, nI_clamp (n := mm) (by omega)]; unfold chaA; rw [← eA], (fra.tr f17)⟩)
            · have c13 : _ := (not_congr (nI_leI (by omega) (by omega))).mp c13
              refine lv_lload C.1 C.2.1 dX12_chance_51 (lv_at hl 5 rfl) ?_
              refine lv_aload_n C.1 C.2.1 dX12_chance_53 rfl (lv_at hl 0 rfl) ?_
              refine lv_iload_n C.1 C.2.1 dX12_chance_54 rfl (lv_at hl 1 rfl) ?_
              refine lv_iload C.1 C.2.1 dX12_chance_55 (lv_at hl 6 rfl) ?_
              refine lv_iadd C.1 C.2.1 dX12_chance_57 ?_
              refine lv_iconst (v := 0) C.1 C.2.1 dX12_chance_58 (by decide) ?_
              refine mw_cVi (As := [.int (seed + (nI j)), .int 0]) (rest := [.long (lN A)]) C Z hP hS (0) (cM_soldBy l E ςa z n (fra.many hn) h8 (fra.ru hru) (seed + (nI j)) 0 (Or.inl rfl)) vb_X12_soldBy tw_6_153 ⟨rfl, rfl⟩ ⟨Nat.le_of_ble_eq_true rfl, Nat.le_of_ble_eq_true rfl⟩ (by decide) rfl rfl rfl rfl hl.1 rfl (Nat.le_of_ble_eq_true rfl) dX12_chance_59 ⟨Nat.zero_le _, Nat.zero_le _⟩ (fun r19 u20 H locs q21 hP hS => ?_)
              obtain ⟨e23, f22⟩ := q21
              rw [fra.st, show mCu (ςa) = mCu σ from funext fun p => fra.cu p] at e23
              have f22 : mFs (ςa) u20 := by rw [sdR_id n (fun p hp => by rw [fra.1]; exact hbt p hp), sdX0] at f22; exact f22
              subst e23
              refine lv_iload_n C.1 C.2.1 dX12_chance_62 rfl (lv_at hl 3 rfl) ?_
              refine lv_icmp_lt (tgt := 70) C.1 C.2.1 dX12_chance_63 (by decide) (fun c24 => ?_) (fun c24 => ?_)
              · refine lv_lconst (v := 0) C.1 C.2.1 dX12_chance_70 (by decide) ?_
                refine lv_ladd C.1 C.2.1 dX12_chance_71 ?_
                refine mw_topl (y := lN (A + 0)) (lN_add A 0) ?_
                refine lv_lstore (lv' := [(5, .long (lN (A + 0))), (0, .ref (mw_a E 0)), (1, .int seed), (2, .int (nI mm)), (3, .int kk), (4, .int w), (7, .int (nI j))]) C.1 C.2.1 dX12_chance_72 hl (by decide) rfl (fun ls hl => ?_)
                refine lv_iinc (v := nI (j + 1)) (lv' := [(7, .int (nI (j + 1))), (5, .long (lN (A + 0))), (0, .ref (mw_a E 0)), (1, .int seed), (2, .int (nI mm)), (3, .int kk), (4, .int w)]) C.1 C.2.1 dX12_chance_74 hl (k := 6) rfl (nI_1 _) (by decide) rfl (fun ls hl => ?_)
                refine lv_goto (tgt := 45) C.1 C.2.1 dX12_chance_77 (by decide) ?_
                exact iha (j + 1) (A + 0) u20 _ _ (by omega) (by omega) (by rw [eA]; show _ = _ + (if _ then _ else _); rw [if_pos c24]) (fra.tr f22) hP hS ls (lv_sub hl [2, 3, 4, 5, 6, 1, 0] rfl)
              · refine lv_lconst (v := 1) C.1 C.2.1 dX12_chance_66 (by decide) ?_
                refine lv_goto (tgt := 71) C.1 C.2.1 dX12_chance_67 (by decide) ?_
                refine lv_ladd C.1 C.2.1 dX12_chance_71 ?_
                refine mw_topl (y := lN (A + 1)) (lN_add A 1) ?_
                refine lv_lstore (lv' := [(5, .long (lN (A + 1))), (0, .ref (mw_a E 0)), (1, .int seed), (2, .int (nI mm)), (3, .int kk), (4, .int w), (7, .int (nI j))]) C.1 C.2.1 dX12_chance_72 hl (by decide) rfl (fun ls hl => ?_)
                refine lv_iinc (v := nI (j + 1)) (lv' := [(7, .int (nI (j + 1))), (5, .long (lN (A + 1))), (0, .ref (mw_a E 0)), (1, .int seed), (2, .int (nI mm)), (3, .int kk), (4, .int w)]) C.1 C.2.1 dX12_chance_74 hl (k := 6) rfl (nI_1 _) (by decide) rfl (fun ls hl => ?_)
                refine lv_goto (tgt := 45) C.1 C.2.1 dX12_chance_77 (by decide) ?_
                exact iha (j + 1) (A + 1) u20 _ _ (by omega) (by omega) (by rw [eA]; show _ = _ + (if _ then _ else _); rw [if_neg c24]) (fra.tr f22) hP hS ls (lv_sub hl [2, 3, 4, 5, 6, 1, 0] rfl)
        exact lpa (mm + 1) 0 0 σ _ _ (by omega) (by omega) (rfl) (mFs.rf σ) hP hS ls (lv_sub hl [2, 3, 4, 5, 6, 1, 0] rfl)
      · have c12 := bI_0.mp c12
        refine lv_ldc2 (own := RX12) C.1 C.2.1 C.2.2.2.1 (C.2.2.2.2 _ tw_6_78) dX12_chance_35 ?_
        exact mw_lret C hr hlk Z hP hS dX12_chance_38 (⟨by unfold chaF; rw [if_pos (Or.inr (Or.inr c12))], (mFs.rf σ)⟩)

theorem mw_si_ne {σ : mw_M} {f k : Nat} (v : Int32) (h : f ≠ k) : (mw_si σ 0 k v).1 0 f = σ.1 0 f := by
  show va_up σ.1 0 (va_up (σ.1 0) k v) 0 f = _
  rw [va_up_self, va_up_ne _ _ h]
def cpA (f g : Nat → Int32) (i : Nat) : Nat → Int32 := fun j => if j < i then f j else g j
theorem cpA_0 (f g : Nat → Int32) : cpA f g 0 = g := by
  funext j
  unfold cpA
  rw [if_neg (by omega)]
theorem cpA_s (f g : Nat → Int32) (i : Nat) : upd (cpA f g i) i (f i) = cpA f g (i + 1) := by
  funext j
  unfold upd cpA
  by_cases h : j = i
  · rw [if_pos h, if_pos (by omega), h]
  · rw [if_neg h]
    by_cases h2 : j < i
    · rw [if_pos h2, if_pos (by omega)]
    · rw [if_neg h2, if_neg (by omega)]
def mEx (σ : mw_M) (X : Nat → Nat → Int32) (u : mw_M) : Prop := u.2.1 = X ∧ u.1 = σ.1
theorem mEx.sa {σ u : mw_M} {X : Nat → Nat → Int32} (h : mEx σ X u) (a j : Nat) (v : Int32) : mEx σ (va_up X a (upd (X a) j v)) (mw_sa u a j v) := by
  refine ⟨?_, h.2⟩
  show va_up u.2.1 a (upd (u.2.1 a) j v) = _
  rw [h.1]
theorem up_self (X : Nat → Nat → Int32) (a : Nat) : va_up X a (X a) = X := by
  funext b
  by_cases h : b = a
  · subst h; rw [va_up_self]
  · rw [va_up_ne _ _ h]
/-- four rows: the board's and the customers', copied -/
def copyX (X : Nat → Nat → Int32) (a b c d : Nat) : Nat → Nat → Int32 := va_up (va_up X b (cpA (X a) (X b) 5)) d (cpA (X c) (X d) 32)

set_option maxHeartbeats 4000000 in
set_option maxRecDepth 100000 in
theorem cM_image (l : Launch) (E : mw_E) (σ : mw_M) : mw_Ci shM 13 gM l yX12_image cX12_image 2 (some .int) (rmF 0 0) E [.ref (mw_a E 0)] σ (fun r u => r = σ.1 0 10 ∧ u.2.1 = copyX σ.2.1 4 7 6 8 ∧ (∀ f, f ≠ 28 → f ≠ 29 → u.1 0 f = σ.1 0 f) ∧ u.1 0 28 = σ.1 0 10 ∧ u.1 0 29 = σ.1 0 4) := by
  refine mw_of (by decide) gM_ok (Nat.le_of_ble_eq_true rfl) ?_
  intro p_ e_ s_ m_ below meth c_ C hr hlk Z hP ls hl
  have C : CallFix p_ m_ c_ cX12_image 2 s_ _ lw_good RX12 := C
  have hl : lv_has ls 2 [(0, .ref (mw_a E 0))] := hl
  have hS : va_S (mw_A 13 E) s_.heap s_.heap [] := va_S.rf
  refine lv_iconst (v := 0) C.1 C.2.1 dX12_image_0 (by decide) ?_
  refine lv_istore_n (lv' := [(1, .int 0), (0, .ref (mw_a E 0))]) C.1 C.2.1 dX12_image_1 rfl hl (by decide) rfl (fun ls hl => ?_)
  have lpa : ∀ (N : Nat) (i : Nat) (ςa : mw_M) (H : Heap) (locs : List Loc), 6 ≤ i + N → (i ≤ 5) → mEx σ (va_up σ.2.1 7 (cpA (σ.2.1 4) (σ.2.1 7) i)) ςa → va_P (mw_D E) vwCl (mw_ws shM 13 E ςa) H → va_S (mw_A 13 E) s_.heap H locs → ∀ (ls : Array Slot), lv_has ls 2 [(0, .ref (mw_a E 0)), (1, .int (nI i))] → mWi p_ l e_ (rmF 0 0) s_ m_ [.ref (mw_a E 0)] below meth c_ E (fun r u => r = σ.1 0 10 ∧ u.2.1 = copyX σ.2.1 4 7 6 8 ∧ (∀ f, f ≠ 28 → f ≠ 29 → u.1 0 f = σ.1 0 f) ∧ u.1 0 28 = σ.1 0 10 ∧ u.1 0 29 = σ.1 0 4) H locs (F0 m_ 2 ls []) := by
    intro N
    induction N with
    | zero => intros; exfalso; omega
    | succ N iha =>
      intro i ςa H locs hNa hi fra hP hS ls hl
      refine lv_iload_n C.1 C.2.1 dX12_image_2 rfl (lv_at hl 1 rfl) ?_
      refine lv_iconst (v := 5) C.1 C.2.1 dX12_image_3 (by decide) ?_
      refine lv_icmp_ge (tgt := 25) C.1 C.2.1 dX12_image_4 (by decide) (fun c1 => ?_) (fun c1 => ?_)
      · have c1 : 5 ≤ i := (nI_leI (a := 5) (by decide) (by omega)).mp c1
        refine lv_iconst (v := 0) C.1 C.2.1 dX12_image_25 (by decide) ?_
        refine lv_istore_n (lv' := [(1, .int 0), (0, .ref (mw_a E 0))]) C.1 C.2.1 dX12_image_26 rfl hl (by decide) rfl (fun ls hl => ?_)
        have lpb : ∀ (N : Nat) (i : Nat) (ςb : mw_M) (H : Heap) (locs : List Loc), 33 ≤ i + N → (i ≤ 32) → mEx σ (va_up (va_up σ.2.1 7 (cpA (σ.2.1 4) (σ.2.1 7) 5)) 8 (cpA (σ.2.1 6) (σ.2.1 8) i)) ςb → va_P (mw_D E) vwCl (mw_ws shM 13 E ςb) H → va_S (mw_A 13 E) s_.heap H locs → ∀ (ls : Array Slot), lv_has ls 2 [(0, .ref (mw_a E 0)), (1, .int (nI i))] → mWi p_ l e_ (rmF 0 0) s_ m_ [.ref (mw_a E 0)] below meth c_ E (fun r u => r = σ.1 0 10 ∧ u.2.1 = copyX σ.2.1 4 7 6 8 ∧ (∀ f, f ≠ 28 → f ≠ 29 → u.1 0 f = σ.1 0 f) ∧ u.1 0 28 = σ.1 0 10 ∧ u.1 0 29 = σ.1 0 4) H locs (F0 m_ 27 ls []) := by
          intro N
          induction N with
          | zero => intros; exfalso; omega
          | succ N ihb =>
            intro i ςb H locs hNb hi frb hP hS ls hl
            refine lv_iload_n C.1 C.2.1 dX12_image_27 rfl (lv_at hl 1 rfl) ?_
            refine lv_bipush (v := 32) C.1 C.2.1 dX12_image_28 (by decide) ?_
            refine lv_icmp_ge (tgt := 51) C.1 C.2.1 dX12_image_30 (by decide) (fun c2 => ?_) (fun c2 => ?_)
            · have c2 : 32 ≤ i := (nI_leI (a := 32) (by decide) (by omega)).mp c2
              refine lv_aload_n C.1 C.2.1 dX12_image_51 rfl (lv_at hl 0 rfl) ?_
              refine lv_aload_n C.1 C.2.1 dX12_image_52 rfl (lv_at hl 0 rfl) ?_
              refine mw_geti C Z hP (0) 10 (by decide) rfl rfl rfl (by decide) inX12 tw_4_174 dX12_image_53 ?_
              refine mw_top (y := σ.1 0 10) (congrFun (congrFun frb.2 0) 10) ?_
              refine mw_puti C Z hP hS (0) 28 (by decide) rfl rfl rfl (by decide) inX12 tyX12 tyX12_ok nmX12 rfl tw_4_192 rfl rfl dX12_image_56 (fun H locs hP hS => ?_)
              refine lv_aload_n C.1 C.2.1 dX12_image_59 rfl (lv_at hl 0 rfl) ?_
              refine lv_aload_n C.1 C.2.1 dX12_image_60 rfl (lv_at hl 0 rfl) ?_
              refine mw_geti C Z hP (0) 4 (by decide) rfl rfl rfl (by decide) inX12 tw_4_168 dX12_image_61 ?_
              refine mw_top (y := σ.1 0 4) (congrFun (congrFun frb.2 0) 4) ?_
              refine mw_puti C Z hP hS (0) 29 (by decide) rfl rfl rfl (by decide) inX12 tyX12 tyX12_ok nmX12 rfl tw_4_193 rfl rfl dX12_image_64 (fun H locs hP hS => ?_)
              refine lv_aload_n C.1 C.2.1 dX12_image_67 rfl (lv_at hl 0 rfl) ?_
              refine mw_geti C Z hP (0) 10 (by decide) rfl rfl rfl (by decide) inX12 tw_4_174 dX12_image_68 ?_
              refine mw_top (y := σ.1 0 10) (congrFun (congrFun frb.2 0) 10) ?_
              have ei : i = 32 := by omega
              exact mw_iret C hr hlk Z hP hS dX12_image_71 (⟨rfl, by rw [show (mw_si (mw_si ςb 0 28 (σ.1 0 10)) 0 29 (σ.1 0 4)).2.1 = ςb.2.1 from rfl, frb.1, ei]; rfl, fun f h1 h2 => by rw [mw_si_ne _ h2, mw_si_ne _ h1, frb.2], rfl, rfl⟩)
            · have c2 : ¬ 32 ≤ i := (not_congr (nI_leI (a := 32) (by decide) (by omega))).mp c2
              refine lv_aload_n C.1 C.2.1 dX12_image_33 rfl (lv_at hl 0 rfl) ?_
              refine mw_getr C Z hP (0) 27 (8) (by decide) rfl rfl rfl (by decide) inX12 tw_4_191 dX12_image_34 ?_
              refine lv_iload_n C.1 C.2.1 dX12_image_37 rfl (lv_at hl 1 rfl) ?_
              refine lv_aload_n C.1 C.2.1 dX12_image_38 rfl (lv_at hl 0 rfl) ?_
              refine mw_getr C Z hP (0) 9 (6) (by decide) rfl rfl rfl (by decide) inX12 tw_4_173 dX12_image_39 ?_
              refine lv_iload_n C.1 C.2.1 dX12_image_42 rfl (lv_at hl 1 rfl) ?_
              refine mw_iald C Z hP (6) (i) (by decide) rfl (Nat.lt_of_lt_of_le (by decide : 32 < 961) (Nat.le_of_ble_eq_true rfl)) rfl (by omega) dX12_image_43 ?_
              refine mw_top (y := σ.2.1 6 i) (by rw [frb.1]; rfl) ?_
              refine mw_iast C Z hP hS (8) (i) (by decide) rfl (Nat.lt_of_lt_of_le (by decide : 32 < 961) (Nat.le_of_ble_eq_true rfl)) rfl (by omega) dX12_image_44 (fun H locs hP hS => ?_)
              refine lv_iinc (v := nI (i + 1)) (lv' := [(1, .int (nI (i + 1))), (0, .ref (mw_a E 0))]) C.1 C.2.1 dX12_image_45 hl (k := 1) rfl (nI_1 _) (by decide) rfl (fun ls hl => ?_)
              refine lv_goto (tgt := 27) C.1 C.2.1 dX12_image_48 (by decide) ?_
              exact ihb (i + 1) (mw_sa ςb 8 i (σ.2.1 6 i)) _ _ (by omega) (by omega) (by have y := mEx.sa frb 8 i (σ.2.1 6 i); rw [va_up_self, bx_uu, cpA_s] at y; exact y) hP hS ls (lv_sub hl [1, 0] rfl)
        exact lpb (33) 0 ςa _ _ (by omega) (by omega) (by rw [cpA_0, show va_up (va_up σ.2.1 7 (cpA (σ.2.1 4) (σ.2.1 7) 5)) 8 (σ.2.1 8) = va_up σ.2.1 7 (cpA (σ.2.1 4) (σ.2.1 7) 5) from up_self (va_up σ.2.1 7 (cpA (σ.2.1 4) (σ.2.1 7) 5)) 8, ← show i = 5 by omega]; exact fra) hP hS ls (lv_sub hl [1, 0] rfl)
      · have c1 : ¬ 5 ≤ i := (not_congr (nI_leI (a := 5) (by decide) (by omega))).mp c1
        refine lv_aload_n C.1 C.2.1 dX12_image_7 rfl (lv_at hl 0 rfl) ?_
        refine mw_getr C Z hP (0) 26 (7) (by decide) rfl rfl rfl (by decide) inX12 tw_4_190 dX12_image_8 ?_
        refine lv_iload_n C.1 C.2.1 dX12_image_11 rfl (lv_at hl 1 rfl) ?_
        refine lv_aload_n C.1 C.2.1 dX12_image_12 rfl (lv_at hl 0 rfl) ?_
        refine mw_getr C Z hP (0) 7 (4) (by decide) rfl rfl rfl (by decide) inX12 tw_4_171 dX12_image_13 ?_
        refine lv_iload_n C.1 C.2.1 dX12_image_16 rfl (lv_at hl 1 rfl) ?_
        refine mw_iald C Z hP (4) (i) (by decide) rfl (Nat.lt_of_lt_of_le (by decide : 5 < 961) (Nat.le_of_ble_eq_true rfl)) rfl (by omega) dX12_image_17 ?_
        refine mw_top (y := σ.2.1 4 i) (by rw [fra.1]; rfl) ?_
        refine mw_iast C Z hP hS (7) (i) (by decide) rfl (Nat.lt_of_lt_of_le (by decide : 5 < 961) (Nat.le_of_ble_eq_true rfl)) rfl (by omega) dX12_image_18 (fun H locs hP hS => ?_)
        refine lv_iinc (v := nI (i + 1)) (lv' := [(1, .int (nI (i + 1))), (0, .ref (mw_a E 0))]) C.1 C.2.1 dX12_image_19 hl (k := 1) rfl (nI_1 _) (by decide) rfl (fun ls hl => ?_)
        refine lv_goto (tgt := 2) C.1 C.2.1 dX12_image_22 (by decide) ?_
        exact iha (i + 1) (mw_sa ςa 7 i (σ.2.1 4 i)) _ _ (by omega) (by omega) (by have y := mEx.sa fra 7 i (σ.2.1 4 i); rw [va_up_self, bx_uu, cpA_s] at y; exact y) hP hS ls (lv_sub hl [1, 0] rfl)
  exact lpa (6) 0 σ _ _ (by omega) (by omega) ⟨by rw [cpA_0, up_self], rfl⟩ hP hS ls (lv_sub hl [1, 0] rfl)

set_option maxHeartbeats 4000000 in
set_option maxRecDepth 100000 in
theorem cM_back (l : Launch) (E : mw_E) (σ : mw_M) : mw_Ci shM 13 gM l yX12_back cX12_back 2 (some .int) (rmF 0 0) E [.ref (mw_a E 0)] σ (fun r u => (σ.1 0 28 = -1 → r = -3 ∧ u = σ) ∧ (¬ σ.1 0 28 = -1 → r = σ.1 0 28 ∧ u.2.1 = copyX σ.2.1 7 4 8 6 ∧ (∀ f, f ≠ 10 → f ≠ 4 → u.1 0 f = σ.1 0 f) ∧ u.1 0 10 = σ.1 0 28 ∧ u.1 0 4 = σ.1 0 29)) := by
  refine mw_of (by decide) gM_ok (Nat.le_of_ble_eq_true rfl) ?_
  intro p_ e_ s_ m_ below meth c_ C hr hlk Z hP ls hl
  have C : CallFix p_ m_ c_ cX12_back 2 s_ _ lw_good RX12 := C
  have hl : lv_has ls 2 [(0, .ref (mw_a E 0))] := hl
  have hS : va_S (mw_A 13 E) s_.heap s_.heap [] := va_S.rf
  refine lv_aload_n C.1 C.2.1 dX12_back_0 rfl (lv_at hl 0 rfl) ?_
  refine mw_geti C Z hP (0) 28 (by decide) rfl rfl rfl (by decide) inX12 tw_4_192 dX12_back_1 ?_
  refine lv_iconst (v := -1) C.1 C.2.1 dX12_back_4 (by decide) ?_
  refine lv_icmp_ne (tgt := 11) C.1 C.2.1 dX12_back_5 (by decide) (fun c1 => ?_) (fun c1 => ?_)
  · have hne := c1
    refine lv_iconst (v := 0) C.1 C.2.1 dX12_back_11 (by decide) ?_
    refine lv_istore_n (lv' := [(1, .int 0), (0, .ref (mw_a E 0))]) C.1 C.2.1 dX12_back_12 rfl hl (by decide) rfl (fun ls hl => ?_)
    have lpa : ∀ (N : Nat) (i : Nat) (ςa : mw_M) (H : Heap) (locs : List Loc), 6 ≤ i + N → (i ≤ 5) → mEx σ (va_up σ.2.1 4 (cpA (σ.2.1 7) (σ.2.1 4) i)) ςa → va_P (mw_D E) vwCl (mw_ws shM 13 E ςa) H → va_S (mw_A 13 E) s_.heap H locs → ∀ (ls : Array Slot), lv_has ls 2 [(0, .ref (mw_a E 0)), (1, .int (nI i))] → mWi p_ l e_ (rmF 0 0) s_ m_ [.ref (mw_a E 0)] below meth c_ E (fun r u => (σ.1 0 28 = -1 → r = -3 ∧ u = σ) ∧ (¬ σ.1 0 28 = -1 → r = σ.1 0 28 ∧ u.2.1 = copyX σ.2.1 7 4 8 6 ∧ (∀ f, f ≠ 10 → f ≠ 4 → u.1 0 f = σ.1 0 f) ∧ u.1 0 10 = σ.1 0 28 ∧ u.1 0 4 = σ.1 0 29)) H locs (F0 m_ 13 ls []) := by
      intro N
      induction N with
      | zero => intros; exfalso; omega
      | succ N iha =>
        intro i ςa H locs hNa hi fra hP hS ls hl
        refine lv_iload_n C.1 C.2.1 dX12_back_13 rfl (lv_at hl 1 rfl) ?_
        refine lv_iconst (v := 5) C.1 C.2.1 dX12_back_14 (by decide) ?_
        refine lv_icmp_ge (tgt := 36) C.1 C.2.1 dX12_back_15 (by decide) (fun c2 => ?_) (fun c2 => ?_)
        · have c2 : 5 ≤ i := (nI_leI (a := 5) (by decide) (by omega)).mp c2
          refine lv_iconst (v := 0) C.1 C.2.1 dX12_back_36 (by decide) ?_
          refine lv_istore_n (lv' := [(1, .int 0), (0, .ref (mw_a E 0))]) C.1 C.2.1 dX12_back_37 rfl hl (by decide) rfl (fun ls hl => ?_)
          have lpb : ∀ (N : Nat) (i : Nat) (ςb : mw_M) (H : Heap) (locs : List Loc), 33 ≤ i + N → (i ≤ 32) → mEx σ (va_up (va_up σ.2.1 4 (cpA (σ.2.1 7) (σ.2.1 4) 5)) 6 (cpA (σ.2.1 8) (σ.2.1 6) i)) ςb → va_P (mw_D E) vwCl (mw_ws shM 13 E ςb) H → va_S (mw_A 13 E) s_.heap H locs → ∀ (ls : Array Slot), lv_has ls 2 [(0, .ref (mw_a E 0)), (1, .int (nI i))] → mWi p_ l e_ (rmF 0 0) s_ m_ [.ref (mw_a E 0)] below meth c_ E (fun r u => (σ.1 0 28 = -1 → r = -3 ∧ u = σ) ∧ (¬ σ.1 0 28 = -1 → r = σ.1 0 28 ∧ u.2.1 = copyX σ.2.1 7 4 8 6 ∧ (∀ f, f ≠ 10 → f ≠ 4 → u.1 0 f = σ.1 0 f) ∧ u.1 0 10 = σ.1 0 28 ∧ u.1 0 4 = σ.1 0 29)) H locs (F0 m_ 38 ls []) := by
            intro N
            induction N with
            | zero => intros; exfalso; omega
            | succ N ihb =>
              intro i ςb H locs hNb hi frb hP hS ls hl
              refine lv_iload_n C.1 C.2.1 dX12_back_38 rfl (lv_at hl 1 rfl) ?_
              refine lv_bipush (v := 32) C.1 C.2.1 dX12_back_39 (by decide) ?_
              refine lv_icmp_ge (tgt := 62) C.1 C.2.1 dX12_back_41 (by decide) (fun c3 => ?_) (fun c3 => ?_)
              · have c3 : 32 ≤ i := (nI_leI (a := 32) (by decide) (by omega)).mp c3
                refine lv_aload_n C.1 C.2.1 dX12_back_62 rfl (lv_at hl 0 rfl) ?_
                refine lv_aload_n C.1 C.2.1 dX12_back_63 rfl (lv_at hl 0 rfl) ?_
                refine mw_geti C Z hP (0) 28 (by decide) rfl rfl rfl (by decide) inX12 tw_4_192 dX12_back_64 ?_
                refine mw_top (y := σ.1 0 28) (congrFun (congrFun frb.2 0) 28) ?_
                refine mw_puti C Z hP hS (0) 10 (by decide) rfl rfl rfl (by decide) inX12 tyX12 tyX12_ok nmX12 rfl tw_4_174 rfl rfl dX12_back_67 (fun H locs hP hS => ?_)
                refine lv_aload_n C.1 C.2.1 dX12_back_70 rfl (lv_at hl 0 rfl) ?_
                refine lv_aload_n C.1 C.2.1 dX12_back_71 rfl (lv_at hl 0 rfl) ?_
                refine mw_geti C Z hP (0) 29 (by decide) rfl rfl rfl (by decide) inX12 tw_4_193 dX12_back_72 ?_
                refine mw_top (y := σ.1 0 29) (congrFun (congrFun frb.2 0) 29) ?_
                refine mw_puti C Z hP hS (0) 4 (by decide) rfl rfl rfl (by decide) inX12 tyX12 tyX12_ok nmX12 rfl tw_4_168 rfl rfl dX12_back_75 (fun H locs hP hS => ?_)
                refine lv_aload_n C.1 C.2.1 dX12_back_78 rfl (lv_at hl 0 rfl) ?_
                refine mw_geti C Z hP (0) 10 (by decide) rfl rfl rfl (by decide) inX12 tw_4_174 dX12_back_79 ?_
                refine mw_top (y := σ.1 0 28) (rfl) ?_
                have ei : i = 32 := by omega
                exact mw_iret C hr hlk Z hP hS dX12_back_82 (⟨fun y => absurd y hne, fun _ => ⟨rfl, by rw [show (mw_si (mw_si ςb 0 10 (σ.1 0 28)) 0 4 (σ.1 0 29)).2.1 = ςb.2.1 from rfl, frb.1, ei]; rfl, fun f h1 h2 => by rw [mw_si_ne _ h2, mw_si_ne _ h1, frb.2], rfl, rfl⟩⟩)
              · have c3 : ¬ 32 ≤ i := (not_congr (nI_leI (a := 32) (by decide) (by omega))).mp c3
                refine lv_aload_n C.1 C.2.1 dX12_back_44 rfl (lv_at hl 0 rfl) ?_
                refine mw_getr C Z hP (0) 9 (6) (by decide) rfl rfl rfl (by decide) inX12 tw_4_173 dX12_back_45 ?_
                refine lv_iload_n C.1 C.2.1 dX12_back_48 rfl (lv_at hl 1 rfl) ?_
                refine lv_aload_n C.1 C.2.1 dX12_back_49 rfl (lv_at hl 0 rfl) ?_
                refine mw_getr C Z hP (0) 27 (8) (by decide) rfl rfl rfl (by decide) inX12 tw_4_191 dX12_back_50 ?_
                refine lv_iload_n C.1 C.2.1 dX12_back_53 rfl (lv_at hl 1 rfl) ?_
                refine mw_iald C Z hP (8) (i) (by decide) rfl (Nat.lt_of_lt_of_le (by decide : 32 < 961) (Nat.le_of_ble_eq_true rfl)) rfl (by omega) dX12_back_54 ?_
                refine mw_top (y := σ.2.1 8 i) (by rw [frb.1]; rfl) ?_
                refine mw_iast C Z hP hS (6) (i) (by decide) rfl (Nat.lt_of_lt_of_le (by decide : 32 < 961) (Nat.le_of_ble_eq_true rfl)) rfl (by omega) dX12_back_55 (fun H locs hP hS => ?_)
                refine lv_iinc (v := nI (i + 1)) (lv' := [(1, .int (nI (i + 1))), (0, .ref (mw_a E 0))]) C.1 C.2.1 dX12_back_56 hl (k := 1) rfl (nI_1 _) (by decide) rfl (fun ls hl => ?_)
                refine lv_goto (tgt := 38) C.1 C.2.1 dX12_back_59 (by decide) ?_
                exact ihb (i + 1) (mw_sa ςb 6 i (σ.2.1 8 i)) _ _ (by omega) (by omega) (by have y := mEx.sa frb 6 i (σ.2.1 8 i); rw [va_up_self, bx_uu, cpA_s] at y; exact y) hP hS ls (lv_sub hl [1, 0] rfl)
          exact lpb (33) 0 ςa _ _ (by omega) (by omega) (by rw [cpA_0, show va_up (va_up σ.2.1 4 (cpA (σ.2.1 7) (σ.2.1 4) 5)) 6 (σ.2.1 6) = va_up σ.2.1 4 (cpA (σ.2.1 7) (σ.2.1 4) 5) from up_self (va_up σ.2.1 4 (cpA (σ.2.1 7) (σ.2.1 4) 5)) 6, ← show i = 5 by omega]; exact fra) hP hS ls (lv_sub hl [1, 0] rfl)
        · have c2 : ¬ 5 ≤ i := (not_congr (nI_leI (a := 5) (by decide) (by omega))).mp c2
          refine lv_aload_n C.1 C.2.1 dX12_back_18 rfl (lv_at hl 0 rfl) ?_
          refine mw_getr C Z hP (0) 7 (4) (by decide) rfl rfl rfl (by decide) inX12 tw_4_171 dX12_back_19 ?_
          refine lv_iload_n C.1 C.2.1 dX12_back_22 rfl (lv_at hl 1 rfl) ?_
          refine lv_aload_n C.1 C.2.1 dX12_back_23 rfl (lv_at hl 0 rfl) ?_
          refine mw_getr C Z hP (0) 26 (7) (by decide) rfl rfl rfl (by decide) inX12 tw_4_190 dX12_back_24 ?_
          refine lv_iload_n C.1 C.2.1 dX12_back_27 rfl (lv_at hl 1 rfl) ?_
          refine mw_iald C Z hP (7) (i) (by decide) rfl (Nat.lt_of_lt_of_le (by decide : 5 < 961) (Nat.le_of_ble_eq_true rfl)) rfl (by omega) dX12_back_28 ?_
          refine mw_top (y := σ.2.1 7 i) (by rw [fra.1]; rfl) ?_
          refine mw_iast C Z hP hS (4) (i) (by decide) rfl (Nat.lt_of_lt_of_le (by decide : 5 < 961) (Nat.le_of_ble_eq_true rfl)) rfl (by omega) dX12_back_29 (fun H locs hP hS => ?_)
          refine lv_iinc (v := nI (i + 1)) (lv' := [(1, .int (nI (i + 1))), (0, .ref (mw_a E 0))]) C.1 C.2.1 dX12_back_30 hl (k := 1) rfl (nI_1 _) (by decide) rfl (fun ls hl => ?_)
          refine lv_goto (tgt := 13) C.1 C.2.1 dX12_back_33 (by decide) ?_
          exact iha (i + 1) (mw_sa ςa 4 i (σ.2.1 7 i)) _ _ (by omega) (by omega) (by have y := mEx.sa fra 4 i (σ.2.1 7 i); rw [va_up_self, bx_uu, cpA_s] at y; exact y) hP hS ls (lv_sub hl [1, 0] rfl)
    exact lpa (6) 0 σ _ _ (by omega) (by omega) ⟨by rw [cpA_0, up_self], rfl⟩ hP hS ls (lv_sub hl [1, 0] rfl)
  · refine lv_bipush (v := -3) C.1 C.2.1 dX12_back_8 (by decide) ?_
    exact mw_iret C hr hlk Z hP hS dX12_back_10 (⟨fun _ => ⟨rfl, rfl⟩, fun y => absurd c1 y⟩)

def hoursF (st : Nat → Int32) : Int32 := sumP (fun h => (st 3 >>> (nI h &&& 31)) &&& 1) 10
def countF (st : Nat → Int32) (cu : Nat → Nat → Int32) (n : Nat) (a b c : Int32) (w : Int32) : Int32 := if ¬ (0 ≤ w.toInt ∧ w.toInt ≤ 5) then -2 else if w = 3 then a else if w = 4 then b else if w = 5 then c else if w = 0 then nI n else if w = 1 then hoursF st else sumP (fun p => cu p 4) n

theorem cnt_fin {st : Nat → Int32} {cu : Nat → Nat → Int32} {n j1 j2 : Nat} {x y : Int32} (w : Int32) (hle : w ≤ 2) (h0 : ¬ w = 0) (h0' : 0 ≤ w.toInt) (ex : x = if w = 1 then sumP (fun h => (st 3 >>> (nI h &&& 31)) &&& 1) j1 else 0) (ey : y = if w = 2 then sumP (fun p => cu p 4) j2 else x) (hx : w = 1 → j1 = 10) (hy : w = 2 → j2 = n) : y = if w = 1 then hoursF st else sumP (fun p => cu p 4) n := by
  by_cases h2 : w = 2
  · rw [ey, if_pos h2, if_neg (by rw [h2]; decide), hy h2]
  · have h1 : w = 1 := by
      have e2 : (2 : Int32).toInt = 2 := rfl
      have e1 : (1 : Int32).toInt = 1 := rfl
      have e0 : (0 : Int32).toInt = 0 := rfl
      rw [ni_le] at hle
      rw [ni_eq] at h0 h2 ⊢
      omega
    rw [ey, if_neg h2, ex, if_pos h1, if_pos h1, hx h1]
    rfl

theorem cnt_5 {w : Int32} (h : w.toInt ≤ 5) (h2 : ¬ w ≤ 2) (h3 : ¬ w = 3) (h4 : ¬ w = 4) : w = 5 := by
  have e2 : (2 : Int32).toInt = 2 := rfl
  have e3 : (3 : Int32).toInt = 3 := rfl
  have e4 : (4 : Int32).toInt = 4 := rfl
  have e5 : (5 : Int32).toInt = 5 := rfl
  rw [ni_le] at h2
  rw [ni_eq] at h3 h4 ⊢
  omega

set_option maxHeartbeats 4000000 in
set_option maxRecDepth 100000 in
theorem cM_count (l : Launch) (E : mw_E) (σ : mw_M) (n : Nat) (hn : σ.1 0 10 = nI n) (h8 : n ≤ 8) (w : Int32) : mw_Ci shM 13 gM l yX12_count cX12_count 4 (some .int) (rmF 1 25) E [.ref (mw_a E 0), .int w] σ (fun r u => r = countF (mSt σ) (mCu σ) n (σ.1 0 3) (σ.1 0 6) (σ.1 0 4) w ∧ mFs σ u) := by
  refine mw_of (by decide) gM_ok (Nat.le_of_ble_eq_true rfl) ?_
  intro p_ e_ s_ m_ below meth c_ C hr hlk Z hP ls hl
  have C : CallFix p_ m_ c_ cX12_count 4 s_ _ lw_good RX12 := C
  have hl : lv_has ls 4 [(0, .ref (mw_a E 0)), (1, .int w)] := hl
  have hS : va_S (mw_A 13 E) s_.heap s_.heap [] := va_S.rf
  refine lv_iload_n C.1 C.2.1 dX12_count_0 rfl (lv_at hl 1 rfl) ?_
  refine lv_i2l C.1 C.2.1 dX12_count_1 rfl ?_
  refine lv_lconst (v := 0) C.1 C.2.1 dX12_count_2 (by decide) ?_
  refine lv_ldc2 (own := RX12) C.1 C.2.1 C.2.2.2.1 (C.2.2.2.2 _ tw_6_42) dX12_count_3 ?_
  refine mw_cSi (As := [.long (w.toInt64), .long (0), .long (5)]) (rest := []) C Z hP hS (cM_in l E σ (w.toInt64) 0 5 (0 ≤ w.toInt ∧ w.toInt ≤ 5) (by first | (simp only [nl_i]; exact Iff.rfl) | (simp only [nl_i]; decide) | simp [nl_i])) sb_X12_in tw_5_33 ⟨rfl, rfl⟩ ⟨Nat.le_of_ble_eq_true rfl, Nat.le_of_ble_eq_true rfl⟩ rfl hl.1 rfl (Nat.le_of_ble_eq_true rfl) dX12_count_6 ⟨Nat.zero_le _, Nat.zero_le _⟩ (fun r1 u2 H locs q3 hP hS => ?_)
  obtain ⟨rfl, q3u⟩ := q3
  rw [q3u] at hP; clear q3u
  refine lv_if_ne (tgt := 15) C.1 C.2.1 dX12_count_9 (by decide) (fun c4 => ?_) (fun c4 => ?_)
  · have c4 := bI_n.mp c4
    have hrg := c4
    refine lv_iload_n C.1 C.2.1 dX12_count_15 rfl (lv_at hl 1 rfl) ?_
    refine lv_iconst (v := 2) C.1 C.2.1 dX12_count_16 (by decide) ?_
    refine lv_icmp_le (tgt := 49) C.1 C.2.1 dX12_count_17 (by decide) (fun c5 => ?_) (fun c5 => ?_)
    · have hle := c5
      refine lv_iconst (v := 0) C.1 C.2.1 dX12_count_49 (by decide) ?_
      refine lv_istore_n (lv' := [(2, .int 0), (0, .ref (mw_a E 0)), (1, .int w)]) C.1 C.2.1 dX12_count_50 rfl hl (by decide) rfl (fun ls hl => ?_)
      refine lv_iconst (v := 0) C.1 C.2.1 dX12_count_51 (by decide) ?_
      refine lv_istore_n (lv' := [(3, .int 0), (2, .int 0), (0, .ref (mw_a E 0)), (1, .int w)]) C.1 C.2.1 dX12_count_52 rfl hl (by decide) rfl (fun ls hl => ?_)
      have lpa : ∀ (N : Nat) (j : Nat) (x : Int32) (ςa : mw_M) (H : Heap) (locs : List Loc), 11 ≤ j + N → (j ≤ 10) → (x = if w = 1 then sumP (fun h => (mSt σ 3 >>> (nI h &&& 31)) &&& 1) j else 0) → (¬ w = 1 → j = 0) → mFs σ ςa → va_P (mw_D E) vwCl (mw_ws shM 13 E ςa) H → va_S (mw_A 13 E) s_.heap H locs → ∀ (ls : Array Slot), lv_has ls 4 [(0, .ref (mw_a E 0)), (1, .int w), (2, .int x), (3, .int (nI j))] → mWi p_ l e_ (rmF 1 25) s_ m_ [.ref (mw_a E 0), .int w] below meth c_ E (fun r u => r = countF (mSt σ) (mCu σ) n (σ.1 0 3) (σ.1 0 6) (σ.1 0 4) w ∧ mFs σ u) H locs (F0 m_ 53 ls []) := by
        intro N
        induction N with
        | zero => intros; exfalso; omega
        | succ N iha =>
          intro j x ςa H locs hNa hj ex hj0 fra hP hS ls hl
          refine lv_iload_n C.1 C.2.1 dX12_count_53 rfl (lv_at hl 3 rfl) ?_
          refine lv_bipush (v := 10) C.1 C.2.1 dX12_count_54 (by decide) ?_
          refine lv_icmp_ge (tgt := 83) C.1 C.2.1 dX12_count_56 (by decide) (fun c6 => ?_) (fun c6 => ?_)
          · have c6 : 10 ≤ j := (nI_leI (a := 10) (by decide) (by omega)).mp c6
            have hx1 : w = 1 → j = 10 := fun _ => by omega
            refine lv_iconst (v := 0) C.1 C.2.1 dX12_count_83 (by decide) ?_
            refine lv_istore_n (lv' := [(3, .int 0), (0, .ref (mw_a E 0)), (1, .int w), (2, .int x)]) C.1 C.2.1 dX12_count_84 rfl hl (by decide) rfl (fun ls hl => ?_)
            have lpb : ∀ (N : Nat) (j2 : Nat) (y : Int32) (ςb : mw_M) (H : Heap) (locs : List Loc), n + 1 ≤ j2 + N → (j2 ≤ n) → (y = if w = 2 then sumP (fun p => mCu σ p 4) j2 else x) → (¬ w = 2 → j2 = 0) → mFs σ ςb → va_P (mw_D E) vwCl (mw_ws shM 13 E ςb) H → va_S (mw_A 13 E) s_.heap H locs → ∀ (ls : Array Slot), lv_has ls 4 [(0, .ref (mw_a E 0)), (1, .int w), (2, .int y), (3, .int (nI j2))] → mWi p_ l e_ (rmF 1 25) s_ m_ [.ref (mw_a E 0), .int w] below meth c_ E (fun r u => r = countF (mSt σ) (mCu σ) n (σ.1 0 3) (σ.1 0 6) (σ.1 0 4) w ∧ mFs σ u) H locs (F0 m_ 85 ls []) := by
              intro N
              induction N with
              | zero => intros; exfalso; omega
              | succ N ihb =>
                intro j2 y ςb H locs hNb hj2 ey hk2 frb hP hS ls hl
                refine lv_iload_n C.1 C.2.1 dX12_count_85 rfl (lv_at hl 3 rfl) ?_
                refine lv_aload_n C.1 C.2.1 dX12_count_86 rfl (lv_at hl 0 rfl) ?_
                refine mw_geti C Z hP (0) 10 (by decide) rfl rfl rfl (by decide) inX12 tw_4_174 dX12_count_87 ?_
                refine mw_top (y := nI n) ((frb).many hn) ?_
                refine lv_icmp_ge (tgt := 117) C.1 C.2.1 dX12_count_90 (by decide) (fun c7 => ?_) (fun c7 => ?_)
                · have c7 := (nI_leI (by omega) (by omega)).mp c7
                  refine lv_iload_n C.1 C.2.1 dX12_count_117 rfl (lv_at hl 1 rfl) ?_
                  refine lv_if_ne (tgt := 128) C.1 C.2.1 dX12_count_118 (by decide) (fun c8 => ?_) (fun c8 => ?_)
                  · refine lv_iload_n C.1 C.2.1 dX12_count_128 rfl (lv_at hl 2 rfl) ?_
                    have e3 : ¬ w = 3 ∧ ¬ w = 4 ∧ ¬ w = 5 := by refine ⟨?_, ?_, ?_⟩ <;> (intro q; rw [q] at hle; exact absurd hle (by decide))
                    exact mw_iret C hr hlk Z hP hS dX12_count_129 (⟨by unfold countF; rw [if_neg (Decidable.not_not.mpr hrg)]; rw [if_neg e3.1, if_neg e3.2.1, if_neg e3.2.2, if_neg c8]; exact cnt_fin w hle c8 hrg.1 ex ey hx1 (fun q => by omega), frb⟩)
                  · refine lv_aload_n C.1 C.2.1 dX12_count_121 rfl (lv_at hl 0 rfl) ?_
                    refine mw_geti C Z hP (0) 10 (by decide) rfl rfl rfl (by decide) inX12 tw_4_174 dX12_count_122 ?_
                    refine mw_top (y := nI n) ((frb).many hn) ?_
                    refine lv_goto (tgt := 129) C.1 C.2.1 dX12_count_125 (by decide) ?_
                    exact mw_iret C hr hlk Z hP hS dX12_count_129 (⟨by unfold countF; rw [if_neg (Decidable.not_not.mpr hrg)]; simp [c8], frb⟩)
                · have c7 : _ := (not_congr (nI_leI (by omega) (by omega))).mp c7
                  refine lv_iload_n C.1 C.2.1 dX12_count_93 rfl (lv_at hl 1 rfl) ?_
                  refine lv_iconst (v := 2) C.1 C.2.1 dX12_count_94 (by decide) ?_
                  refine lv_icmp_ne (tgt := 117) C.1 C.2.1 dX12_count_95 (by decide) (fun c9 => ?_) (fun c9 => ?_)
                  · refine lv_iload_n C.1 C.2.1 dX12_count_117 rfl (lv_at hl 1 rfl) ?_
                    refine lv_if_ne (tgt := 128) C.1 C.2.1 dX12_count_118 (by decide) (fun c10 => ?_) (fun c10 => ?_)
                    · refine lv_iload_n C.1 C.2.1 dX12_count_128 rfl (lv_at hl 2 rfl) ?_
                      have e3 : ¬ w = 3 ∧ ¬ w = 4 ∧ ¬ w = 5 := by refine ⟨?_, ?_, ?_⟩ <;> (intro q; rw [q] at hle; exact absurd hle (by decide))
                      exact mw_iret C hr hlk Z hP hS dX12_count_129 (⟨by unfold countF; rw [if_neg (Decidable.not_not.mpr hrg)]; rw [if_neg e3.1, if_neg e3.2.1, if_neg e3.2.2, if_neg c10]; exact cnt_fin w hle c10 hrg.1 ex ey hx1 (fun q => absurd q c9), frb⟩)
                    · refine lv_aload_n C.1 C.2.1 dX12_count_121 rfl (lv_at hl 0 rfl) ?_
                      refine mw_geti C Z hP (0) 10 (by decide) rfl rfl rfl (by decide) inX12 tw_4_174 dX12_count_122 ?_
                      refine mw_top (y := nI n) ((frb).many hn) ?_
                      refine lv_goto (tgt := 129) C.1 C.2.1 dX12_count_125 (by decide) ?_
                      exact mw_iret C hr hlk Z hP hS dX12_count_129 (⟨by unfold countF; rw [if_neg (Decidable.not_not.mpr hrg)]; simp [c10], frb⟩)
                  · refine lv_iload_n C.1 C.2.1 dX12_count_98 rfl (lv_at hl 2 rfl) ?_
                    refine lv_aload_n C.1 C.2.1 dX12_count_99 rfl (lv_at hl 0 rfl) ?_
                    refine mw_getr C Z hP (0) 9 (6) (by decide) rfl rfl rfl (by decide) inX12 tw_4_173 dX12_count_100 ?_
                    refine lv_iconst (v := 4) C.1 C.2.1 dX12_count_103 (by decide) ?_
                    refine lv_iload_n C.1 C.2.1 dX12_count_104 rfl (lv_at hl 3 rfl) ?_
                    refine lv_imul C.1 C.2.1 dX12_count_105 ?_
                    refine mw_top (y := nI (4 * j2)) (pk_mul 4 j2) ?_
                    refine lv_iconst (v := 3) C.1 C.2.1 dX12_count_106 (by decide) ?_
                    refine lv_iadd C.1 C.2.1 dX12_count_107 ?_
                    refine mw_top (y := nI (4 * j2 + 3)) (nI_add _ 3) ?_
                    refine mw_iald C Z hP (6) (4 * j2 + 3) (by decide) rfl (Nat.lt_of_lt_of_le (by decide : 32 < 961) (Nat.le_of_ble_eq_true rfl)) rfl (by omega) dX12_count_108 ?_
                    refine mw_top (y := σ.2.1 6 (4 * j2 + 3)) (by first | (rw [frb.1]; done) | (rw [frb.1]; rfl)) ?_
                    refine lv_iadd C.1 C.2.1 dX12_count_109 ?_
                    refine lv_istore_n (lv' := [(2, .int (y + (σ.2.1 6 (4 * j2 + 3)))), (0, .ref (mw_a E 0)), (1, .int w), (3, .int (nI j2))]) C.1 C.2.1 dX12_count_110 rfl hl (by decide) rfl (fun ls hl => ?_)
                    refine lv_iinc (v := nI (j2 + 1)) (lv' := [(3, .int (nI (j2 + 1))), (2, .int (y + (σ.2.1 6 (4 * j2 + 3)))), (0, .ref (mw_a E 0)), (1, .int w)]) C.1 C.2.1 dX12_count_111 hl (k := 3) rfl (nI_1 _) (by decide) rfl (fun ls hl => ?_)
                    refine lv_goto (tgt := 85) C.1 C.2.1 dX12_count_114 (by decide) ?_
                    exact ihb (j2 + 1) (y + (σ.2.1 6 (4 * j2 + 3))) ςb _ _ (by omega) (by omega) (by rw [ey, if_pos c9, if_pos c9]; rfl) (fun y => absurd c9 y) frb hP hS ls (lv_sub hl [2, 3, 1, 0] rfl)
            exact lpb (n + 1) 0 x ςa _ _ (by omega) (by omega) ((by by_cases q : w = 2 <;> simp [q, ex, sumP])) (fun _ => rfl) fra hP hS ls (lv_sub hl [1, 2, 3, 0] rfl)
          · have c6 : ¬ 10 ≤ j := (not_congr (nI_leI (a := 10) (by decide) (by omega))).mp c6
            refine lv_iload_n C.1 C.2.1 dX12_count_59 rfl (lv_at hl 1 rfl) ?_
            refine lv_iconst (v := 1) C.1 C.2.1 dX12_count_60 (by decide) ?_
            refine lv_icmp_ne (tgt := 83) C.1 C.2.1 dX12_count_61 (by decide) (fun c11 => ?_) (fun c11 => ?_)
            · have hx1 : w = 1 → j = 10 := fun q => absurd q c11
              refine lv_iconst (v := 0) C.1 C.2.1 dX12_count_83 (by decide) ?_
              refine lv_istore_n (lv' := [(3, .int 0), (0, .ref (mw_a E 0)), (1, .int w), (2, .int x)]) C.1 C.2.1 dX12_count_84 rfl hl (by decide) rfl (fun ls hl => ?_)
              have lpb : ∀ (N : Nat) (j2 : Nat) (y : Int32) (ςb : mw_M) (H : Heap) (locs : List Loc), n + 1 ≤ j2 + N → (j2 ≤ n) → (y = if w = 2 then sumP (fun p => mCu σ p 4) j2 else x) → (¬ w = 2 → j2 = 0) → mFs σ ςb → va_P (mw_D E) vwCl (mw_ws shM 13 E ςb) H → va_S (mw_A 13 E) s_.heap H locs → ∀ (ls : Array Slot), lv_has ls 4 [(0, .ref (mw_a E 0)), (1, .int w), (2, .int y), (3, .int (nI j2))] → mWi p_ l e_ (rmF 1 25) s_ m_ [.ref (mw_a E 0), .int w] below meth c_ E (fun r u => r = countF (mSt σ) (mCu σ) n (σ.1 0 3) (σ.1 0 6) (σ.1 0 4) w ∧ mFs σ u) H locs (F0 m_ 85 ls []) := by
                intro N
                induction N with
                | zero => intros; exfalso; omega
                | succ N ihb =>
                  intro j2 y ςb H locs hNb hj2 ey hk2 frb hP hS ls hl
                  refine lv_iload_n C.1 C.2.1 dX12_count_85 rfl (lv_at hl 3 rfl) ?_
                  refine lv_aload_n C.1 C.2.1 dX12_count_86 rfl (lv_at hl 0 rfl) ?_
                  refine mw_geti C Z hP (0) 10 (by decide) rfl rfl rfl (by decide) inX12 tw_4_174 dX12_count_87 ?_
                  refine mw_top (y := nI n) ((frb).many hn) ?_
                  refine lv_icmp_ge (tgt := 117) C.1 C.2.1 dX12_count_90 (by decide) (fun c12 => ?_) (fun c12 => ?_)
                  · have c12 := (nI_leI (by omega) (by omega)).mp c12
                    refine lv_iload_n C.1 C.2.1 dX12_count_117 rfl (lv_at hl 1 rfl) ?_
                    refine lv_if_ne (tgt := 128) C.1 C.2.1 dX12_count_118 (by decide) (fun c13 => ?_) (fun c13 => ?_)
                    · refine lv_iload_n C.1 C.2.1 dX12_count_128 rfl (lv_at hl 2 rfl) ?_
                      have e3 : ¬ w = 3 ∧ ¬ w = 4 ∧ ¬ w = 5 := by refine ⟨?_, ?_, ?_⟩ <;> (intro q; rw [q] at hle; exact absurd hle (by decide))
                      exact mw_iret C hr hlk Z hP hS dX12_count_129 (⟨by unfold countF; rw [if_neg (Decidable.not_not.mpr hrg)]; rw [if_neg e3.1, if_neg e3.2.1, if_neg e3.2.2, if_neg c13]; exact cnt_fin w hle c13 hrg.1 ex ey hx1 (fun q => by omega), frb⟩)
                    · refine lv_aload_n C.1 C.2.1 dX12_count_121 rfl (lv_at hl 0 rfl) ?_
                      refine mw_geti C Z hP (0) 10 (by decide) rfl rfl rfl (by decide) inX12 tw_4_174 dX12_count_122 ?_
                      refine mw_top (y := nI n) ((frb).many hn) ?_
                      refine lv_goto (tgt := 129) C.1 C.2.1 dX12_count_125 (by decide) ?_
                      exact mw_iret C hr hlk Z hP hS dX12_count_129 (⟨by unfold countF; rw [if_neg (Decidable.not_not.mpr hrg)]; simp [c13], frb⟩)
                  · have c12 : _ := (not_congr (nI_leI (by omega) (by omega))).mp c12
                    refine lv_iload_n C.1 C.2.1 dX12_count_93 rfl (lv_at hl 1 rfl) ?_
                    refine lv_iconst (v := 2) C.1 C.2.1 dX12_count_94 (by decide) ?_
                    refine lv_icmp_ne (tgt := 117) C.1 C.2.1 dX12_count_95 (by decide) (fun c14 => ?_) (fun c14 => ?_)
                    · refine lv_iload_n C.1 C.2.1 dX12_count_117 rfl (lv_at hl 1 rfl) ?_
                      refine lv_if_ne (tgt := 128) C.1 C.2.1 dX12_count_118 (by decide) (fun c15 => ?_) (fun c15 => ?_)
                      · refine lv_iload_n C.1 C.2.1 dX12_count_128 rfl (lv_at hl 2 rfl) ?_
                        have e3 : ¬ w = 3 ∧ ¬ w = 4 ∧ ¬ w = 5 := by refine ⟨?_, ?_, ?_⟩ <;> (intro q; rw [q] at hle; exact absurd hle (by decide))
                        exact mw_iret C hr hlk Z hP hS dX12_count_129 (⟨by unfold countF; rw [if_neg (Decidable.not_not.mpr hrg)]; rw [if_neg e3.1, if_neg e3.2.1, if_neg e3.2.2, if_neg c15]; exact cnt_fin w hle c15 hrg.1 ex ey hx1 (fun q => absurd q c14), frb⟩)
                      · refine lv_aload_n C.1 C.2.1 dX12_count_121 rfl (lv_at hl 0 rfl) ?_
                        refine mw_geti C Z hP (0) 10 (by decide) rfl rfl rfl (by decide) inX12 tw_4_174 dX12_count_122 ?_
                        refine mw_top (y := nI n) ((frb).many hn) ?_
                        refine lv_goto (tgt := 129) C.1 C.2.1 dX12_count_125 (by decide) ?_
                        exact mw_iret C hr hlk Z hP hS dX12_count_129 (⟨by unfold countF; rw [if_neg (Decidable.not_not.mpr hrg)]; simp [c15], frb⟩)
                    · refine lv_iload_n C.1 C.2.1 dX12_count_98 rfl (lv_at hl 2 rfl) ?_
                      refine lv_aload_n C.1 C.2.1 dX12_count_99 rfl (lv_at hl 0 rfl) ?_
                      refine mw_getr C Z hP (0) 9 (6) (by decide) rfl rfl rfl (by decide) inX12 tw_4_173 dX12_count_100 ?_
                      refine lv_iconst (v := 4) C.1 C.2.1 dX12_count_103 (by decide) ?_
                      refine lv_iload_n C.1 C.2.1 dX12_count_104 rfl (lv_at hl 3 rfl) ?_
                      refine lv_imul C.1 C.2.1 dX12_count_105 ?_
                      refine mw_top (y := nI (4 * j2)) (pk_mul 4 j2) ?_
                      refine lv_iconst (v := 3) C.1 C.2.1 dX12_count_106 (by decide) ?_
                      refine lv_iadd C.1 C.2.1 dX12_count_107 ?_
                      refine mw_top (y := nI (4 * j2 + 3)) (nI_add _ 3) ?_
                      refine mw_iald C Z hP (6) (4 * j2 + 3) (by decide) rfl (Nat.lt_of_lt_of_le (by decide : 32 < 961) (Nat.le_of_ble_eq_true rfl)) rfl (by omega) dX12_count_108 ?_
                      refine mw_top (y := σ.2.1 6 (4 * j2 + 3)) (by first | (rw [frb.1]; done) | (rw [frb.1]; rfl)) ?_
                      refine lv_iadd C.1 C.2.1 dX12_count_109 ?_
                      refine lv_istore_n (lv' := [(2, .int (y + (σ.2.1 6 (4 * j2 + 3)))), (0, .ref (mw_a E 0)), (1, .int w), (3, .int (nI j2))]) C.1 C.2.1 dX12_count_110 rfl hl (by decide) rfl (fun ls hl => ?_)
                      refine lv_iinc (v := nI (j2 + 1)) (lv' := [(3, .int (nI (j2 + 1))), (2, .int (y + (σ.2.1 6 (4 * j2 + 3)))), (0, .ref (mw_a E 0)), (1, .int w)]) C.1 C.2.1 dX12_count_111 hl (k := 3) rfl (nI_1 _) (by decide) rfl (fun ls hl => ?_)
                      refine lv_goto (tgt := 85) C.1 C.2.1 dX12_count_114 (by decide) ?_
                      exact ihb (j2 + 1) (y + (σ.2.1 6 (4 * j2 + 3))) ςb _ _ (by omega) (by omega) (by rw [ey, if_pos c14, if_pos c14]; rfl) (fun y => absurd c14 y) frb hP hS ls (lv_sub hl [2, 3, 1, 0] rfl)
              exact lpb (n + 1) 0 x ςa _ _ (by omega) (by omega) ((by by_cases q : w = 2 <;> simp [q, ex, sumP])) (fun _ => rfl) fra hP hS ls (lv_sub hl [1, 2, 3, 0] rfl)
            · refine lv_iload_n C.1 C.2.1 dX12_count_64 rfl (lv_at hl 2 rfl) ?_
              refine lv_aload_n C.1 C.2.1 dX12_count_65 rfl (lv_at hl 0 rfl) ?_
              refine mw_getr C Z hP (0) 7 (4) (by decide) rfl rfl rfl (by decide) inX12 tw_4_171 dX12_count_66 ?_
              refine lv_iconst (v := 3) C.1 C.2.1 dX12_count_69 (by decide) ?_
              refine mw_iald C Z hP (4) (3) (by decide) rfl (Nat.lt_of_lt_of_le (by decide : 5 < 961) (Nat.le_of_ble_eq_true rfl)) rfl (by decide) dX12_count_70 ?_
              refine mw_top (y := σ.2.1 4 3) (by first | (rw [fra.1]; done) | (rw [fra.1]; rfl)) ?_
              refine lv_iload_n C.1 C.2.1 dX12_count_71 rfl (lv_at hl 3 rfl) ?_
              refine lv_ishr C.1 C.2.1 dX12_count_72 ?_
              refine lv_iconst (v := 1) C.1 C.2.1 dX12_count_73 (by decide) ?_
              refine lv_iand C.1 C.2.1 dX12_count_74 ?_
              refine lv_iadd C.1 C.2.1 dX12_count_75 ?_
              refine lv_istore_n (lv' := [(2, .int (x + (((σ.2.1 4 3) >>> ((nI j) &&& 31)) &&& 1))), (0, .ref (mw_a E 0)), (1, .int w), (3, .int (nI j))]) C.1 C.2.1 dX12_count_76 rfl hl (by decide) rfl (fun ls hl => ?_)
              refine lv_iinc (v := nI (j + 1)) (lv' := [(3, .int (nI (j + 1))), (2, .int (x + (((σ.2.1 4 3) >>> ((nI j) &&& 31)) &&& 1))), (0, .ref (mw_a E 0)), (1, .int w)]) C.1 C.2.1 dX12_count_77 hl (k := 3) rfl (nI_1 _) (by decide) rfl (fun ls hl => ?_)
              refine lv_goto (tgt := 53) C.1 C.2.1 dX12_count_80 (by decide) ?_
              exact iha (j + 1) (x + (((σ.2.1 4 3) >>> ((nI j) &&& 31)) &&& 1)) ςa _ _ (by omega) (by omega) (by rw [ex, if_pos c11, if_pos c11]; rfl) (fun y => absurd c11 y) fra hP hS ls (lv_sub hl [2, 3, 1, 0] rfl)
      exact lpa (11) 0 0 σ _ _ (by omega) (by omega) (by split <;> rfl) (fun _ => rfl) (mFs.rf σ) hP hS ls (lv_sub hl [2, 3, 1, 0] rfl)
    · refine lv_iload_n C.1 C.2.1 dX12_count_20 rfl (lv_at hl 1 rfl) ?_
      refine lv_iconst (v := 3) C.1 C.2.1 dX12_count_21 (by decide) ?_
      refine lv_icmp_ne (tgt := 32) C.1 C.2.1 dX12_count_22 (by decide) (fun c16 => ?_) (fun c16 => ?_)
      · refine lv_iload_n C.1 C.2.1 dX12_count_32 rfl (lv_at hl 1 rfl) ?_
        refine lv_iconst (v := 4) C.1 C.2.1 dX12_count_33 (by decide) ?_
        refine lv_icmp_ne (tgt := 44) C.1 C.2.1 dX12_count_34 (by decide) (fun c17 => ?_) (fun c17 => ?_)
        · refine lv_aload_n C.1 C.2.1 dX12_count_44 rfl (lv_at hl 0 rfl) ?_
          refine mw_geti C Z hP (0) 4 (by decide) rfl rfl rfl (by decide) inX12 tw_4_168 dX12_count_45 ?_
          exact mw_iret C hr hlk Z hP hS dX12_count_48 (⟨by unfold countF; rw [if_neg (Decidable.not_not.mpr hrg)]; rw [if_neg c16, if_neg c17, if_pos (cnt_5 hrg.2 c5 c16 c17)], (mFs.rf σ)⟩)
        · refine lv_aload_n C.1 C.2.1 dX12_count_37 rfl (lv_at hl 0 rfl) ?_
          refine mw_geti C Z hP (0) 6 (by decide) rfl rfl rfl (by decide) inX12 tw_4_170 dX12_count_38 ?_
          refine lv_goto (tgt := 48) C.1 C.2.1 dX12_count_41 (by decide) ?_
          exact mw_iret C hr hlk Z hP hS dX12_count_48 (⟨by unfold countF; rw [if_neg (Decidable.not_not.mpr hrg)]; rw [if_neg c16, if_pos c17], (mFs.rf σ)⟩)
      · refine lv_aload_n C.1 C.2.1 dX12_count_25 rfl (lv_at hl 0 rfl) ?_
        refine mw_geti C Z hP (0) 3 (by decide) rfl rfl rfl (by decide) inX12 tw_4_167 dX12_count_26 ?_
        refine lv_goto (tgt := 48) C.1 C.2.1 dX12_count_29 (by decide) ?_
        exact mw_iret C hr hlk Z hP hS dX12_count_48 (⟨by unfold countF; rw [if_neg (Decidable.not_not.mpr hrg)]; rw [if_pos c16], (mFs.rf σ)⟩)
  · have c4 := bI_0.mp c4
    refine lv_bipush (v := -2) C.1 C.2.1 dX12_count_12 (by decide) ?_
    exact mw_iret C hr hlk Z hP hS dX12_count_14 (⟨by unfold countF; rw [if_pos c4], (mFs.rf σ)⟩)
