/-! THE CLASS: TOKENS -/
theorem enF_le {bs : Nat → Int32} {n q : Nat} (h : q < n) : enF bs n q ≤ n := by
  unfold enF
  split
  · exact wdF_le bs n 161 q (by omega)
  · split
    · exact dgF_le bs n 161 q (by omega)
    · exact h
theorem coF_lt (bs : Nat → Int32) (n q : Nat) : coF bs n q < 20000 := by
  unfold coF
  split
  · rcases wcF_range bs n q (wdF bs n 161 q) with h | h <;> omega
  · split
    · split
      · decide
      · next h => have := nvF_100 (bs := bs) (n := n) (q := q) (k := dgF bs n 161 q - q) (by omega) (fun i hi => dgF_di bs n 161 q (q + i) (by omega) (by omega)); omega
    · rcases scF_range (byF bs n q) with h | h <;> omega
theorem tkF_ok (bs : Nat → Int32) (n : Nat) : ∀ f h, tkOK (tkF bs n f h)
  | 0, h => by
    intro k hk
    rw [show tkF bs n 0 h = [(21, n)] from rfl, List.mem_singleton] at hk
    rw [hk]; show 21 < 20000; decide
  | f + 1, h => by
    intro k hk
    unfold tkF at hk
    split at hk
    · rw [List.mem_singleton] at hk; rw [hk]; show 21 < 20000; decide
    · split at hk
      · exact tkF_ok bs n f (h + 1) k hk
      · rcases List.mem_cons.mp hk with e | e
        · rw [e]; exact coF_lt bs n h
        · exact tkF_ok bs n f (enF bs n h) k e
theorem tkA_ok (bs : Nat → Int32) (n h : Nat) : tkOK (tkA bs n h) := tkF_ok bs n 161 h
theorem tkF_pl (bs : Nat → Int32) (n : Nat) : ∀ f h, h ≤ n → ∀ k, k ∈ tkF bs n f h → k.2 ≤ n
  | 0, h, _, k, hk => by
    rw [show tkF bs n 0 h = [(21, n)] from rfl, List.mem_singleton] at hk
    rw [hk]; exact Nat.le_refl n
  | f + 1, h, hh, k, hk => by
    unfold tkF at hk
    split at hk
    · rw [List.mem_singleton] at hk; rw [hk]; exact Nat.le_refl n
    · next hlt =>
      split at hk
      · exact tkF_pl bs n f (h + 1) (by omega) k hk
      · rcases List.mem_cons.mp hk with e | e
        · rw [e]; exact hh
        · exact tkF_pl bs n f (enF bs n h) (enF_le (by omega)) k e

set_option maxHeartbeats 4000000 in
set_option maxRecDepth 100000 in
theorem cX_tokenOf (l : Launch) (E : mw_E) (σ : mw_M) (n : Nat) (hn : σ.1 31 1 = nI n) (h6 : n ≤ 160) (hby : ∀ i, i < n → ∃ k : Nat, k ≤ 255 ∧ σ.2.1 32 i = nI k) (q : Nat) (hq0 : q < n) : mw_Ci shX 75 gX l yX10_tokenOf cX10_tokenOf 4 (some .int) (rmF 8 223) E [.ref (mw_a E 31), .int (nI q), .int (nI (enF (σ.2.1 32) n q))] σ (fun r u => r = nI (coF (σ.2.1 32) n q) ∧ u = σ) := by
  refine mw_of (by decide) gX_ok (Nat.le_of_ble_eq_true rfl) ?_
  intro p_ e_ s_ m_ below meth c_ C hr hlk Z hP ls hl
  have C : CallFix p_ m_ c_ cX10_tokenOf 4 s_ _ lw_good RX10 := C
  have hl : lv_has ls 4 [(0, .ref (mw_a E 31)), (1, .int (nI q)), (2, .int (nI (enF (σ.2.1 32) n q)))] := hl
  have hS : va_S (mw_A 75 E) s_.heap s_.heap [] := va_S.rf
  obtain ⟨kx, hkx, ekx⟩ := hby q hq0
  have ex : byF (σ.2.1 32) n q = nI kx := by unfold byF; rw [if_pos hq0]; exact ekx
  refine lv_aload_n C.1 C.2.1 dX10_tokenOf_0 rfl (lv_at hl 0 rfl) ?_
  refine lv_iload_n C.1 C.2.1 dX10_tokenOf_1 rfl (lv_at hl 1 rfl) ?_
  refine mw_cVi (As := [.int (nI q)]) (rest := []) C Z hP hS (31) (cX_isSmall l E σ n hn h6 q (by omega)) vb_X7_isSmall tw_2_89 ⟨rfl, rfl⟩ ⟨Nat.le_of_ble_eq_true rfl, Nat.le_of_ble_eq_true rfl⟩ (by decide) sx_31 rfl rfl rfl hl.1 rfl (Nat.le_of_ble_eq_true rfl) dX10_tokenOf_2 ⟨Nat.zero_le _, Nat.zero_le _⟩ (fun r1 u2 H locs q3 hP hS => ?_)
  obtain ⟨rfl, q3u⟩ := q3
  rw [q3u] at hP; clear q3u
  refine lv_if_eq (tgt := 15) C.1 C.2.1 dX10_tokenOf_5 (by decide) (fun c4 => ?_) (fun c4 => ?_)
  · have c4 := bI_0.mp c4
    have hs0 := c4
    refine lv_aload_n C.1 C.2.1 dX10_tokenOf_15 rfl (lv_at hl 0 rfl) ?_
    refine lv_iload_n C.1 C.2.1 dX10_tokenOf_16 rfl (lv_at hl 1 rfl) ?_
    refine mw_cVi (As := [.int (nI q)]) (rest := []) C Z hP hS (31) (cX_isDigit l E σ n hn h6 q (by omega)) vb_X7_isDigit tw_2_97 ⟨rfl, rfl⟩ ⟨Nat.le_of_ble_eq_true rfl, Nat.le_of_ble_eq_true rfl⟩ (by decide) sx_31 rfl rfl rfl hl.1 rfl (Nat.le_of_ble_eq_true rfl) dX10_tokenOf_17 ⟨Nat.zero_le _, Nat.zero_le _⟩ (fun r5 u6 H locs q7 hP hS => ?_)
    obtain ⟨rfl, q7u⟩ := q7
    rw [q7u] at hP; clear q7u
    refine lv_if_eq (tgt := 30) C.1 C.2.1 dX10_tokenOf_20 (by decide) (fun c8 => ?_) (fun c8 => ?_)
    · have c8 := bI_0.mp c8
      have hs1 := c8
      refine xw_ldcS C Z 13 (by decide) ⟨rfl, rfl⟩ dX10_tokenOf_30 ?_
      refine lv_aload_n C.1 C.2.1 dX10_tokenOf_32 rfl (lv_at hl 0 rfl) ?_
      refine lv_iload_n C.1 C.2.1 dX10_tokenOf_33 rfl (lv_at hl 1 rfl) ?_
      refine mw_cVi (As := [.int (nI q)]) (rest := [.ref (mw_k E 13)]) C Z hP hS (31) (cX_letterAt l E σ n hn h6 q (by omega)) vb_X7_letterAt tw_2_132 ⟨rfl, rfl⟩ ⟨Nat.le_of_ble_eq_true rfl, Nat.le_of_ble_eq_true rfl⟩ (by decide) sx_31 rfl rfl rfl hl.1 rfl (Nat.le_of_ble_eq_true rfl) dX10_tokenOf_34 ⟨Nat.zero_le _, Nat.zero_le _⟩ (fun r9 u10 H locs q11 hP hS => ?_)
      obtain ⟨rfl, q11u⟩ := q11
      rw [q11u] at hP; clear q11u
      refine lv_i2c C.1 C.2.1 dX10_tokenOf_37 rfl ?_
      refine mw_top (y := byF (σ.2.1 32) n q) (by rw [ex]; exact let_c ⟨kx, by omega⟩) ?_
      refine xw_cTi (As := [.int (byF (σ.2.1 32) n q)]) (rest := []) C Z hP hS 13 (by omega) (cX_idx1 l E σ (byF (σ.2.1 32) n q) kx hkx ex) vb_J0_indexOf_0f7a4 tw_2_137 ⟨rfl, rfl⟩ ⟨Nat.le_of_ble_eq_true rfl, Nat.le_of_ble_eq_true rfl⟩ rfl hl.1 rfl (Nat.le_of_ble_eq_true rfl) dX10_tokenOf_38 ⟨Nat.zero_le _, Nat.zero_le _⟩ (fun r12 u13 H locs q14 hP hS => ?_)
      obtain ⟨rfl, q14u⟩ := q14
      rw [q14u] at hP; clear q14u
      refine lv_istore_n (lv' := [(3, .int (scX (byF (σ.2.1 32) n q))), (0, .ref (mw_a E 31)), (1, .int (nI q)), (2, .int (nI (enF (σ.2.1 32) n q)))]) C.1 C.2.1 dX10_tokenOf_41 rfl hl (by decide) rfl (fun ls hl => ?_)
      refine lv_iload_n C.1 C.2.1 dX10_tokenOf_42 rfl (lv_at hl 0 rfl) ?_
      refine lv_if_lt (tgt := 53) C.1 C.2.1 dX10_tokenOf_43 (by decide) (fun c15 => ?_) (fun c15 => ?_)
      · refine lv_bipush (v := 22) C.1 C.2.1 dX10_tokenOf_53 (by decide) ?_
        have e22 : scF (byF (σ.2.1 32) n q) = 22 := Decidable.byContradiction (fun y => by have z := c15; unfold scX at z; rw [if_neg y] at z; exact nI_pos (by have := scF_range (byF (σ.2.1 32) n q); omega) z)
        exact mw_iret C hr hlk Z hP hS dX10_tokenOf_55 (⟨by unfold coF; rw [if_neg hs0, if_neg hs1, e22]; rfl, rfl⟩)
      · refine lv_bipush (v := 12) C.1 C.2.1 dX10_tokenOf_46 (by decide) ?_
        refine lv_iload_n C.1 C.2.1 dX10_tokenOf_48 rfl (lv_at hl 0 rfl) ?_
        refine lv_iadd C.1 C.2.1 dX10_tokenOf_49 ?_
        refine lv_goto (tgt := 55) C.1 C.2.1 dX10_tokenOf_50 (by decide) ?_
        have e22 : ¬ scF (byF (σ.2.1 32) n q) = 22 := fun y => c15 (by unfold scX; rw [if_pos y]; decide)
        exact mw_iret C hr hlk Z hP hS dX10_tokenOf_55 (⟨by unfold coF scX; rw [if_neg hs0, if_neg hs1, if_neg e22, show (12 : Int32) = nI 12 from rfl, nI_add]; congr 1; have := scF_range (byF (σ.2.1 32) n q); omega, rfl⟩)
    · have c8 := bI_n.mp c8
      have hs1 := c8
      have een : enF (σ.2.1 32) n q = dgF (σ.2.1 32) n 161 q := by unfold enF; rw [if_neg hs0, if_pos hs1]
      refine lv_aload_n C.1 C.2.1 dX10_tokenOf_23 rfl (lv_at hl 0 rfl) ?_
      refine lv_iload_n C.1 C.2.1 dX10_tokenOf_24 rfl (lv_at hl 1 rfl) ?_
      refine lv_iload_n C.1 C.2.1 dX10_tokenOf_25 rfl (lv_at hl 2 rfl) ?_
      refine mw_cSi (As := [.ref (mw_a E 31), .int (nI q), .int (nI (enF (σ.2.1 32) n q))]) (rest := []) C Z hP hS (cX_numberOf l E σ n hn h6 q (enF (σ.2.1 32) n q) (Nat.le_of_lt enF_gt) (enF_le hq0) (fun i h1 h2 => dgF_di (σ.2.1 32) n 161 q i h1 (by rw [een] at h2; exact h2))) sb_X10_numberOf tw_2_133 ⟨rfl, rfl⟩ ⟨Nat.le_of_ble_eq_true rfl, Nat.le_of_ble_eq_true rfl⟩ rfl hl.1 rfl (Nat.le_of_ble_eq_true rfl) dX10_tokenOf_26 ⟨Nat.zero_le _, Nat.zero_le _⟩ (fun r16 u17 H locs q18 hP hS => ?_)
      obtain ⟨rfl, q18u⟩ := q18
      rw [q18u] at hP; clear q18u
      exact mw_iret C hr hlk Z hP hS dX10_tokenOf_29 (⟨by rw [een]; unfold coF; rw [if_neg hs0, if_pos hs1], rfl⟩)
  · have c4 := bI_n.mp c4
    have hs0 := c4
    refine lv_aload_n C.1 C.2.1 dX10_tokenOf_8 rfl (lv_at hl 0 rfl) ?_
    refine lv_iload_n C.1 C.2.1 dX10_tokenOf_9 rfl (lv_at hl 1 rfl) ?_
    refine lv_iload_n C.1 C.2.1 dX10_tokenOf_10 rfl (lv_at hl 2 rfl) ?_
    refine mw_cSi (As := [.ref (mw_a E 31), .int (nI q), .int (nI (enF (σ.2.1 32) n q))]) (rest := []) C Z hP hS (cX_wordOf l E σ n hn h6 q (enF (σ.2.1 32) n q) (Nat.le_of_lt enF_gt) (enF_le hq0)) sb_X10_wordOf tw_2_108 ⟨rfl, rfl⟩ ⟨Nat.le_of_ble_eq_true rfl, Nat.le_of_ble_eq_true rfl⟩ rfl hl.1 rfl (Nat.le_of_ble_eq_true rfl) dX10_tokenOf_11 ⟨Nat.zero_le _, Nat.zero_le _⟩ (fun r19 u20 H locs q21 hP hS => ?_)
    obtain ⟨rfl, q21u⟩ := q21
    rw [q21u] at hP; clear q21u
    exact mw_iret C hr hlk Z hP hS dX10_tokenOf_14 (⟨by unfold coF enF; rw [if_pos hs0, if_pos hs0], rfl⟩)

def xCu (σ : mw_M) (dn : List (Nat × Nat)) (u : mw_M) : Prop := u.1 34 2 = nI dn.length ∧ (∀ i, i < dn.length → u.2.1 35 i = nI (dn.getD i (0, 0)).1 ∧ u.2.1 36 i = nI (dn.getD i (0, 0)).2) ∧ (∀ k, k ≠ 34 → u.1 k = σ.1 k) ∧ (∀ k, k ≠ 35 → k ≠ 36 → u.2.1 k = σ.2.1 k) ∧ u.2.2 = σ.2.2
theorem xCu.zero (σ : mw_M) : xCu σ [] (mw_si σ 34 2 0) := ⟨rfl, fun i hi => absurd hi (Nat.not_lt_zero i), fun k hk => mw_npF hk, fun _ _ _ => rfl, rfl⟩
theorem getD_snoc {α : Type} (l : List α) (x d : α) : (l ++ [x]).getD l.length d = x := by simp [List.getD]
theorem getD_app {α : Type} (l m : List α) (d : α) {i : Nat} (h : i < l.length) : (l ++ m).getD i d = l.getD i d := by simp [List.getD, List.getElem?_append_left h]
theorem xCu.put {σ u : mw_M} {dn : List (Nat × Nat)} (h : xCu σ dn u) (c p : Nat) : xCu σ (dn ++ [(c, p)]) (mw_si (mw_sa (mw_sa u 35 dn.length (nI c)) 36 dn.length (nI p)) 34 2 (nI (dn.length + 1))) := by
  obtain ⟨h1, h2, h3, h4, h5⟩ := h
  refine ⟨?_, fun i hi => ?_, fun k hk => (mw_npF hk).trans (h3 k hk), fun k k1 k2 => ?_, h5⟩
  · rw [List.length_append]; exact mw_sf
  · rw [List.length_append, List.length_singleton] at hi
    show (mw_sa (mw_sa u 35 dn.length (nI c)) 36 dn.length (nI p)).2.1 35 i = _ ∧ (mw_sa (mw_sa u 35 dn.length (nI c)) 36 dn.length (nI p)).2.1 36 i = _
    by_cases e : i = dn.length
    · subst e
      rw [getD_snoc, mw_sap (by decide)]
      exact ⟨mw_sa_at _ _ _ _, mw_sa_at _ _ _ _⟩
    · rw [getD_app _ _ _ (by omega), mw_sap (by decide), mw_san e, mw_san e, mw_sap (by decide)]
      exact h2 i (by omega)
  · show (mw_sa (mw_sa u 35 dn.length (nI c)) 36 dn.length (nI p)).2.1 k = _
    rw [mw_sap k2, mw_sap k1]
    exact h4 k k1 k2

theorem enF_bl {bs : Nat → Int32} {n h : Nat} (q : byF bs n h = 32 ∨ byF bs n h = 10) : enF bs n h = h + 1 := by
  unfold enF
  have e : (32 : Int32).toInt = 32 := rfl
  have e2 : (10 : Int32).toInt = 10 := rfl
  rcases q with y | y <;> rw [y, if_neg (by omega), if_neg (by omega)]

set_option maxHeartbeats 4000000 in
set_option maxRecDepth 100000 in
theorem cX_cut (l : Launch) (E : mw_E) (σ : mw_M) (n : Nat) (hn : σ.1 31 1 = nI n) (h6 : n ≤ 160) (hby : ∀ i, i < n → ∃ k : Nat, k ≤ 255 ∧ σ.2.1 32 i = nI k) : mw_Cv shX 75 gX l yX10_cut cX10_cut 5 none (rmF 9 246) E [.ref (mw_a E 34), .ref (mw_a E 31)] σ (fun u => xCu σ (tkA (σ.2.1 32) n 0) u) := by
  refine mw_of (by decide) gX_ok (Nat.le_of_ble_eq_true rfl) ?_
  intro p_ e_ s_ m_ below meth c_ C hr hlk Z hP ls hl
  have C : CallFix p_ m_ c_ cX10_cut 5 s_ _ lw_good RX10 := C
  have hl : lv_has ls 5 [(0, .ref (mw_a E 34)), (1, .ref (mw_a E 31))] := hl
  have hS : va_S (mw_A 75 E) s_.heap s_.heap [] := va_S.rf
  refine lv_aload_n C.1 C.2.1 dX10_cut_0 rfl (lv_at hl 0 rfl) ?_
  refine lv_iconst (v := 0) C.1 C.2.1 dX10_cut_1 (by decide) ?_
  refine mw_puti C Z hP hS (34) 2 (by decide) sx_34 rfl rfl (by decide) inX10 tyX10 tyX10_ok nmX10 rfl tw_1_145 rfl rfl dX10_cut_2 (fun H locs hP hS => ?_)
  refine lv_iconst (v := 0) C.1 C.2.1 dX10_cut_5 (by decide) ?_
  refine lv_istore_n (lv' := [(2, .int 0), (0, .ref (mw_a E 34)), (1, .ref (mw_a E 31))]) C.1 C.2.1 dX10_cut_6 rfl hl (by decide) rfl (fun ls hl => ?_)
  refine lv_iconst (v := 0) C.1 C.2.1 dX10_cut_7 (by decide) ?_
  refine lv_istore_n (lv' := [(3, .int 0), (2, .int 0), (0, .ref (mw_a E 34)), (1, .ref (mw_a E 31))]) C.1 C.2.1 dX10_cut_8 rfl hl (by decide) rfl (fun ls hl => ?_)
  have lpa : ∀ (N : Nat) (h : Nat) (t : Nat) (dn : List (Nat × Nat)) (ςa : mw_M) (H : Heap) (locs : List Loc), 161 ≤ t + N → (h ≤ n) → (t ≤ 160) → (t ≤ h) → (dn.length ≤ h) → (dn ++ tkA (σ.2.1 32) n h = tkA (σ.2.1 32) n 0) → xCu σ dn ςa → va_P (mw_D E) vwCl (mw_ws shX 75 E ςa) H → va_S (mw_A 75 E) s_.heap H locs → ∀ (ls : Array Slot), lv_has ls 5 [(0, .ref (mw_a E 34)), (1, .ref (mw_a E 31)), (2, .int (nI h)), (3, .int (nI t))] → xWv p_ l e_ (rmF 9 246) s_ m_ [.ref (mw_a E 34), .ref (mw_a E 31)] below meth c_ E (fun u => xCu σ (tkA (σ.2.1 32) n 0) u) H locs (F0 m_ 9 ls []) := by
    intro N
    induction N with
    | zero => intros; exfalso; omega
    | succ N iha =>
      intro h t dn ςa H locs hNa hh ht hth hdl htk fra hP hS ls hl
      refine lv_iload_n C.1 C.2.1 dX10_cut_9 rfl (lv_at hl 3 rfl) ?_
      refine lv_sipush (v := 160) C.1 C.2.1 dX10_cut_10 (by decide) ?_
      refine lv_icmp_ge (tgt := 60) C.1 C.2.1 dX10_cut_13 (by decide) (fun c1 => ?_) (fun c1 => ?_)
      · have c1 := (nI_leI (a := 160) (by decide) (by omega)).mp c1
        refine lv_aload_n C.1 C.2.1 dX10_cut_60 rfl (lv_at hl 0 rfl) ?_
        refine lv_bipush (v := 21) C.1 C.2.1 dX10_cut_61 (by decide) ?_
        refine lv_aload_n C.1 C.2.1 dX10_cut_63 rfl (lv_at hl 1 rfl) ?_
        refine mw_geti C Z hP (31) 1 (by decide) sx_31 rfl rfl (by decide) inX7 tw_1_123 dX10_cut_64 ?_
        refine mw_top (y := nI n) ((congrFun (fra.2.2.1 31 (by decide)) 1).trans hn) ?_
        refine mw_cVv (As := [.int 21, .int (nI n)]) (rest := []) C Z hP hS (34) (cX_putT l E ςa dn.length fra.1 (by omega) (by omega) (21) (nI n)) vb_X10_put tw_2_196 ⟨rfl, rfl⟩ ⟨Nat.le_of_ble_eq_true rfl, Nat.le_of_ble_eq_true rfl⟩ (by decide) sx_34 rfl rfl rfl hl.1 rfl (Nat.le_of_ble_eq_true rfl) dX10_cut_67 ⟨Nat.zero_le _, Nat.zero_le _⟩ (fun u3 H locs q4 hP hS => ?_)
        subst q4
        have ehn : h = n := by omega
        have efin := fra.put 21 n
        rw [show dn ++ [(21, n)] = tkA (σ.2.1 32) n 0 by rw [← htk, tkA_end (by omega)]] at efin
        exact mw_vret C hr hlk Z hP hS dX10_cut_70 (efin)
      · have c1 := (not_congr (nI_leI (a := 160) (by decide) (by omega))).mp c1
        refine lv_iload_n C.1 C.2.1 dX10_cut_16 rfl (lv_at hl 2 rfl) ?_
        refine lv_aload_n C.1 C.2.1 dX10_cut_17 rfl (lv_at hl 1 rfl) ?_
        refine mw_geti C Z hP (31) 1 (by decide) sx_31 rfl rfl (by decide) inX7 tw_1_123 dX10_cut_18 ?_
        refine mw_top (y := nI n) ((congrFun (fra.2.2.1 31 (by decide)) 1).trans hn) ?_
        refine lv_icmp_ge (tgt := 60) C.1 C.2.1 dX10_cut_21 (by decide) (fun c5 => ?_) (fun c5 => ?_)
        · have c5 := (nI_leI (by omega) (by omega)).mp c5
          refine lv_aload_n C.1 C.2.1 dX10_cut_60 rfl (lv_at hl 0 rfl) ?_
          refine lv_bipush (v := 21) C.1 C.2.1 dX10_cut_61 (by decide) ?_
          refine lv_aload_n C.1 C.2.1 dX10_cut_63 rfl (lv_at hl 1 rfl) ?_
          refine mw_geti C Z hP (31) 1 (by decide) sx_31 rfl rfl (by decide) inX7 tw_1_123 dX10_cut_64 ?_
          refine mw_top (y := nI n) ((congrFun (fra.2.2.1 31 (by decide)) 1).trans hn) ?_
          refine mw_cVv (As := [.int 21, .int (nI n)]) (rest := []) C Z hP hS (34) (cX_putT l E ςa dn.length fra.1 (by omega) (by omega) (21) (nI n)) vb_X10_put tw_2_196 ⟨rfl, rfl⟩ ⟨Nat.le_of_ble_eq_true rfl, Nat.le_of_ble_eq_true rfl⟩ (by decide) sx_34 rfl rfl rfl hl.1 rfl (Nat.le_of_ble_eq_true rfl) dX10_cut_67 ⟨Nat.zero_le _, Nat.zero_le _⟩ (fun u7 H locs q8 hP hS => ?_)
          subst q8
          have ehn : h = n := by omega
          have efin := fra.put 21 n
          rw [show dn ++ [(21, n)] = tkA (σ.2.1 32) n 0 by rw [← htk, tkA_end (by omega)]] at efin
          exact mw_vret C hr hlk Z hP hS dX10_cut_70 (efin)
        · have c5 : _ := (not_congr (nI_leI (by omega) (by omega))).mp c5
          have heg := enF_gt (bs := (σ.2.1 32)) (n := n) (q := h)
          have hel := enF_le (bs := (σ.2.1 32)) (n := n) (q := h) (by omega)
          refine lv_aload_n C.1 C.2.1 dX10_cut_24 rfl (lv_at hl 1 rfl) ?_
          refine lv_iload_n C.1 C.2.1 dX10_cut_25 rfl (lv_at hl 2 rfl) ?_
          refine mw_cSi (As := [.ref (mw_a E 31), .int (nI h)]) (rest := []) C Z hP hS (cX_endOf l E ςa n ((congrFun (fra.2.2.1 31 (by decide)) 1).trans hn) h6 h (by omega)) sb_X10_endOf tw_2_86 ⟨rfl, rfl⟩ ⟨Nat.le_of_ble_eq_true rfl, Nat.le_of_ble_eq_true rfl⟩ rfl hl.1 rfl (Nat.le_of_ble_eq_true rfl) dX10_cut_26 ⟨Nat.zero_le _, Nat.zero_le _⟩ (fun r9 u10 H locs q11 hP hS => ?_)
          rw [fra.2.2.2.1 32 (by decide) (by decide)] at q11
          obtain ⟨rfl, q11u⟩ := q11
          rw [q11u] at hP; clear q11u
          refine lv_istore (lv' := [(4, .int (nI (enF (σ.2.1 32) n h))), (0, .ref (mw_a E 34)), (1, .ref (mw_a E 31)), (2, .int (nI h)), (3, .int (nI t))]) C.1 C.2.1 dX10_cut_29 hl (by decide) rfl (fun ls hl => ?_)
          refine lv_aload_n C.1 C.2.1 dX10_cut_31 rfl (lv_at hl 2 rfl) ?_
          refine lv_iload_n C.1 C.2.1 dX10_cut_32 rfl (lv_at hl 3 rfl) ?_
          refine mw_cVi (As := [.int (nI h)]) (rest := []) C Z hP hS (31) (cX_isBlank l E ςa n ((congrFun (fra.2.2.1 31 (by decide)) 1).trans hn) h6 h (by omega)) vb_X7_isBlank tw_2_101 ⟨rfl, rfl⟩ ⟨Nat.le_of_ble_eq_true rfl, Nat.le_of_ble_eq_true rfl⟩ (by decide) sx_31 rfl rfl rfl hl.1 rfl (Nat.le_of_ble_eq_true rfl) dX10_cut_33 ⟨Nat.zero_le _, Nat.zero_le _⟩ (fun r12 u13 H locs q14 hP hS => ?_)
          rw [fra.2.2.2.1 32 (by decide) (by decide)] at q14
          obtain ⟨rfl, q14u⟩ := q14
          rw [q14u] at hP; clear q14u
          refine lv_if_ne (tgt := 51) C.1 C.2.1 dX10_cut_36 (by decide) (fun c15 => ?_) (fun c15 => ?_)
          · have c15 := bI_n.mp c15
            have hbl := c15
            refine lv_iload C.1 C.2.1 dX10_cut_51 (lv_at hl 0 rfl) ?_
            refine lv_istore_n (lv' := [(2, .int (nI (enF (σ.2.1 32) n h))), (4, .int (nI (enF (σ.2.1 32) n h))), (0, .ref (mw_a E 34)), (1, .ref (mw_a E 31)), (3, .int (nI t))]) C.1 C.2.1 dX10_cut_53 rfl hl (by decide) rfl (fun ls hl => ?_)
            refine lv_iinc (v := nI (t + 1)) (lv' := [(3, .int (nI (t + 1))), (2, .int (nI (enF (σ.2.1 32) n h))), (4, .int (nI (enF (σ.2.1 32) n h))), (0, .ref (mw_a E 34)), (1, .ref (mw_a E 31))]) C.1 C.2.1 dX10_cut_54 hl (k := 4) rfl (nI_1 _) (by decide) rfl (fun ls hl => ?_)
            refine lv_goto (tgt := 9) C.1 C.2.1 dX10_cut_57 (by decide) ?_
            exact iha (enF (σ.2.1 32) n h) (t + 1) dn ςa _ _ (by omega) (by omega) (by omega) (by omega) (by omega) (by rw [← htk, tkA_bl h6 hbl, enF_bl hbl]) fra hP hS ls (lv_sub hl [3, 4, 1, 0] rfl)
          · have c15 := bI_0.mp c15
            have hnb := c15
            refine lv_aload_n C.1 C.2.1 dX10_cut_39 rfl (lv_at hl 1 rfl) ?_
            refine lv_aload_n C.1 C.2.1 dX10_cut_40 rfl (lv_at hl 2 rfl) ?_
            refine lv_iload_n C.1 C.2.1 dX10_cut_41 rfl (lv_at hl 3 rfl) ?_
            refine lv_iload C.1 C.2.1 dX10_cut_42 (lv_at hl 0 rfl) ?_
            have hto := cX_tokenOf l E ςa n ((congrFun (fra.2.2.1 31 (by decide)) 1).trans hn) h6 (by rw [fra.2.2.2.1 32 (by decide) (by decide)]; exact hby) h (by omega)
            have hto2 := hto; rw [fra.2.2.2.1 32 (by decide) (by decide)] at hto2
            refine mw_cSi (As := [.ref (mw_a E 31), .int (nI h), .int (nI (enF (σ.2.1 32) n h))]) (rest := [.ref (mw_a E 34)]) C Z hP hS (hto2) sb_X10_tokenOf tw_2_105 ⟨rfl, rfl⟩ ⟨Nat.le_of_ble_eq_true rfl, Nat.le_of_ble_eq_true rfl⟩ rfl hl.1 rfl (Nat.le_of_ble_eq_true rfl) dX10_cut_44 ⟨Nat.zero_le _, Nat.zero_le _⟩ (fun r16 u17 H locs q18 hP hS => ?_)
            obtain ⟨rfl, q18u⟩ := q18
            rw [q18u] at hP; clear q18u
            refine lv_iload_n C.1 C.2.1 dX10_cut_47 rfl (lv_at hl 3 rfl) ?_
            refine mw_cVv (As := [.int (nI (coF (σ.2.1 32) n h)), .int (nI h)]) (rest := []) C Z hP hS (34) (cX_putT l E ςa dn.length fra.1 (by omega) (by omega) (nI (coF (σ.2.1 32) n h)) (nI h)) vb_X10_put tw_2_196 ⟨rfl, rfl⟩ ⟨Nat.le_of_ble_eq_true rfl, Nat.le_of_ble_eq_true rfl⟩ (by decide) sx_34 rfl rfl rfl hl.1 rfl (Nat.le_of_ble_eq_true rfl) dX10_cut_48 ⟨Nat.zero_le _, Nat.zero_le _⟩ (fun u20 H locs q21 hP hS => ?_)
            subst q21
            refine lv_iload C.1 C.2.1 dX10_cut_51 (lv_at hl 0 rfl) ?_
            refine lv_istore_n (lv' := [(2, .int (nI (enF (σ.2.1 32) n h))), (4, .int (nI (enF (σ.2.1 32) n h))), (0, .ref (mw_a E 34)), (1, .ref (mw_a E 31)), (3, .int (nI t))]) C.1 C.2.1 dX10_cut_53 rfl hl (by decide) rfl (fun ls hl => ?_)
            refine lv_iinc (v := nI (t + 1)) (lv' := [(3, .int (nI (t + 1))), (2, .int (nI (enF (σ.2.1 32) n h))), (4, .int (nI (enF (σ.2.1 32) n h))), (0, .ref (mw_a E 34)), (1, .ref (mw_a E 31))]) C.1 C.2.1 dX10_cut_54 hl (k := 4) rfl (nI_1 _) (by decide) rfl (fun ls hl => ?_)
            refine lv_goto (tgt := 9) C.1 C.2.1 dX10_cut_57 (by decide) ?_
            exact iha (enF (σ.2.1 32) n h) (t + 1) (dn ++ [(coF (σ.2.1 32) n h, h)]) (mw_si (mw_sa (mw_sa ςa 35 dn.length (nI (coF (σ.2.1 32) n h))) 36 dn.length (nI h)) 34 2 (nI (dn.length + 1))) _ _ (by omega) (by omega) (by omega) (by omega) (by rw [List.length_append, List.length_singleton]; omega) (by rw [← htk, tkA_tok h6 (by omega) hnb, List.append_assoc]; rfl) (fra.put _ _) hP hS ls (lv_sub hl [3, 4, 1, 0] rfl)
  exact lpa (161) 0 0 ([]) (mw_si σ 34 2 0) _ _ (by omega) (by omega) (by omega) (by omega) (Nat.le_refl 0) (rfl) (xCu.zero σ) hP hS ls (lv_sub hl [2, 3, 1, 0] rfl)
