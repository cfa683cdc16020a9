/-! PLAIN FACTS -/
theorem ni_lt (a b : Int32) : a < b ↔ a.toInt < b.toInt := Int32.lt_iff_toInt_lt
theorem ni_le (a b : Int32) : a ≤ b ↔ a.toInt ≤ b.toInt := Int32.le_iff_toInt_le
theorem ni_eq (a b : Int32) : a = b ↔ a.toInt = b.toInt := Int32.toInt_inj.symm
theorem nl_lt (a b : Int64) : a < b ↔ a.toInt < b.toInt := Int64.lt_iff_toInt_lt
theorem nl_le (a b : Int64) : a ≤ b ↔ a.toInt ≤ b.toInt := Int64.le_iff_toInt_le
theorem nl_eq (a b : Int64) : a = b ↔ a.toInt = b.toInt := Int64.toInt_inj.symm
theorem nl_i (a : Int32) : a.toInt64.toInt = a.toInt := Int32.toInt_toInt64 a
theorem bI_nar (P : Prop) [Decidable P] : narrow .boolean (.int (bI P)) = .int (bI P) := by
  by_cases h : P
  · rw [bI_t h]; rfl
  · rw [bI_f h]; rfl
theorem bI_congr {P Q : Prop} [Decidable P] [Decidable Q] (h : P ↔ Q) : bI P = bI Q := by
  by_cases q : Q
  · rw [bI_t (h.mpr q), bI_t q]
  · rw [bI_f (fun z => q (h.mp z)), bI_f q]
/-- an int that isn't below 0 and not above k -/
theorem nI_ofI {x : Int32} {k : Nat} (h0 : 0 ≤ x.toInt) (h1 : x.toInt ≤ k) : ∃ j : Nat, j ≤ k ∧ x = nI j := by
  obtain ⟨j, hj, e⟩ := nI_of (x := x) (by rw [ni_lt]; show ¬ x.toInt < 0; omega)
  refine ⟨j, ?_, e⟩
  rw [e, nI_toInt hj] at h1
  omega
def wI (v a b : Int32) : Int32 := if v < a then a else if b < v then b else v
/-! THE REFERENCE'S SMALL METHODS -/

set_option maxHeartbeats 4000000 in
set_option maxRecDepth 100000 in
/-- whether a lies in b .. d -/
theorem cM_in (l : Launch) (E : mw_E) (σ : mw_M) (a b d : Int64) (P : Prop) [Decidable P] (h : P ↔ b.toInt ≤ a.toInt ∧ a.toInt ≤ d.toInt) : mw_Ci shM 13 gM l yX12_in cX12_in 6 (some .boolean) (rmF 0 0) E [.long (a), .long (b), .long (d)] σ (fun r u => r = bI P ∧ u = σ) := by
  refine mw_of (by decide) gM_ok (Nat.le_of_ble_eq_true rfl) ?_
  intro p_ e_ s_ m_ below meth c_ C hr hlk Z hP ls hl
  have C : CallFix p_ m_ c_ cX12_in 6 s_ _ lw_good RX12 := C
  have hl : lv_has ls 6 [(0, .long (a)), (2, .long (b)), (4, .long (d))] := hl
  have hS : va_S (mw_A 13 E) s_.heap s_.heap [] := va_S.rf
  refine lv_lload_n C.1 C.2.1 dX12_in_0 rfl (lv_at hl 0 rfl) ?_
  refine lv_lload_n C.1 C.2.1 dX12_in_1 rfl (lv_at hl 1 rfl) ?_
  refine W.lcmp C.1 C.2.1 dX12_in_2 ?_
  refine lv_if_lt (tgt := 17) C.1 C.2.1 dX12_in_3 (by decide) (fun c1 => ?_) (fun c1 => ?_)
  · have c1 := (lg_cmp_lt _ _).mp c1
    refine lv_iconst (v := 0) C.1 C.2.1 dX12_in_17 (by decide) ?_
    exact mw_zret C hr hlk Z hP hS rfl dX12_in_18 (⟨(bI_f (fun q => by have q := h.mp q; rw [nl_lt] at c1; omega)).symm, rfl⟩)
  · have c1 := (not_congr (lg_cmp_lt _ _)).mp c1
    refine lv_lload_n C.1 C.2.1 dX12_in_6 rfl (lv_at hl 0 rfl) ?_
    refine lv_lload C.1 C.2.1 dX12_in_7 (lv_at hl 2 rfl) ?_
    refine W.lcmp C.1 C.2.1 dX12_in_9 ?_
    refine lv_if_gt (tgt := 17) C.1 C.2.1 dX12_in_10 (by decide) (fun c2 => ?_) (fun c2 => ?_)
    · have c2 := (lg_cmp_gt _ _).mp c2
      refine lv_iconst (v := 0) C.1 C.2.1 dX12_in_17 (by decide) ?_
      exact mw_zret C hr hlk Z hP hS rfl dX12_in_18 (⟨(bI_f (fun q => by have q := h.mp q; rw [nl_lt] at c2; omega)).symm, rfl⟩)
    · have c2 := (not_congr (lg_cmp_gt _ _)).mp c2
      refine lv_iconst (v := 1) C.1 C.2.1 dX12_in_13 (by decide) ?_
      refine lv_goto (tgt := 18) C.1 C.2.1 dX12_in_14 (by decide) ?_
      exact mw_zret C hr hlk Z hP hS rfl dX12_in_18 (⟨(bI_t (h.mpr ⟨by rw [nl_lt] at c1; omega, by rw [nl_lt] at c2; omega⟩)).symm, rfl⟩)

set_option maxHeartbeats 4000000 in
set_option maxRecDepth 100000 in
theorem cM_within (l : Launch) (E : mw_E) (σ : mw_M) (v a b : Int32) : mw_Ci shM 13 gM l yX12_within cX12_within 3 (some .int) (rmF 0 0) E [.int v, .int a, .int b] σ (fun r u => r = wI v a b ∧ u = σ) := by
  refine mw_of (by decide) gM_ok (Nat.le_of_ble_eq_true rfl) ?_
  intro p_ e_ s_ m_ below meth c_ C hr hlk Z hP ls hl
  have C : CallFix p_ m_ c_ cX12_within 3 s_ _ lw_good RX12 := C
  have hl : lv_has ls 3 [(0, .int v), (1, .int a), (2, .int b)] := hl
  have hS : va_S (mw_A 13 E) s_.heap s_.heap [] := va_S.rf
  refine lv_iload_n C.1 C.2.1 dX12_within_0 rfl (lv_at hl 0 rfl) ?_
  refine lv_iload_n C.1 C.2.1 dX12_within_1 rfl (lv_at hl 1 rfl) ?_
  refine lv_icmp_ge (tgt := 9) C.1 C.2.1 dX12_within_2 (by decide) (fun c1 => ?_) (fun c1 => ?_)
  · refine lv_iload_n C.1 C.2.1 dX12_within_9 rfl (lv_at hl 0 rfl) ?_
    refine lv_iload_n C.1 C.2.1 dX12_within_10 rfl (lv_at hl 2 rfl) ?_
    refine lv_icmp_le (tgt := 18) C.1 C.2.1 dX12_within_11 (by decide) (fun c2 => ?_) (fun c2 => ?_)
    · refine lv_iload_n C.1 C.2.1 dX12_within_18 rfl (lv_at hl 0 rfl) ?_
      exact mw_iret C hr hlk Z hP hS dX12_within_19 (⟨by unfold wI; simp only [ni_lt, ni_le, ni_eq, nl_lt, nl_le, nl_eq] at c1 c2 ⊢; (repeat' split) <;> first | rfl | (exfalso; omega), rfl⟩)
    · refine lv_iload_n C.1 C.2.1 dX12_within_14 rfl (lv_at hl 2 rfl) ?_
      refine lv_goto (tgt := 19) C.1 C.2.1 dX12_within_15 (by decide) ?_
      exact mw_iret C hr hlk Z hP hS dX12_within_19 (⟨by unfold wI; simp only [ni_lt, ni_le, ni_eq, nl_lt, nl_le, nl_eq] at c1 c2 ⊢; (repeat' split) <;> first | rfl | (exfalso; omega), rfl⟩)
  · refine lv_iload_n C.1 C.2.1 dX12_within_5 rfl (lv_at hl 1 rfl) ?_
    refine lv_goto (tgt := 19) C.1 C.2.1 dX12_within_6 (by decide) ?_
    exact mw_iret C hr hlk Z hP hS dX12_within_19 (⟨by unfold wI; simp only [ni_lt, ni_le, ni_eq, nl_lt, nl_le, nl_eq] at c1 ⊢; (repeat' split) <;> first | rfl | (exfalso; omega), rfl⟩)

def leastF (w : Int32) : Int32 := if w < 2 then 1 else 0
def mostF (w : Int32) : Int32 := if w = 0 then 40 else if w = 1 then 6 else if w = 2 then 1 else if w = 3 then 1023 else if w = 5 then 9 else if w = 6 then 9 else 99

set_option maxHeartbeats 4000000 in
set_option maxRecDepth 100000 in
theorem cM_leastOf (l : Launch) (E : mw_E) (σ : mw_M) (v : Int32) : mw_Ci shM 13 gM l yX12_leastOf cX12_leastOf 1 (some .int) (rmF 0 0) E [.int v] σ (fun r u => r = leastF v ∧ u = σ) := by
  refine mw_of (by decide) gM_ok (Nat.le_of_ble_eq_true rfl) ?_
  intro p_ e_ s_ m_ below meth c_ C hr hlk Z hP ls hl
  have C : CallFix p_ m_ c_ cX12_leastOf 1 s_ _ lw_good RX12 := C
  have hl : lv_has ls 1 [(0, .int v)] := hl
  have hS : va_S (mw_A 13 E) s_.heap s_.heap [] := va_S.rf
  refine lv_iload_n C.1 C.2.1 dX12_leastOf_0 rfl (lv_at hl 0 rfl) ?_
  refine lv_iconst (v := 2) C.1 C.2.1 dX12_leastOf_1 (by decide) ?_
  refine lv_icmp_ge (tgt := 9) C.1 C.2.1 dX12_leastOf_2 (by decide) (fun c1 => ?_) (fun c1 => ?_)
  · refine lv_iconst (v := 0) C.1 C.2.1 dX12_leastOf_9 (by decide) ?_
    exact mw_iret C hr hlk Z hP hS dX12_leastOf_10 (⟨by unfold leastF; simp only [ni_lt, ni_le, ni_eq, nl_lt, nl_le, nl_eq] at c1 ⊢; (repeat' split) <;> first | rfl | (exfalso; omega), rfl⟩)
  · refine lv_iconst (v := 1) C.1 C.2.1 dX12_leastOf_5 (by decide) ?_
    refine lv_goto (tgt := 10) C.1 C.2.1 dX12_leastOf_6 (by decide) ?_
    exact mw_iret C hr hlk Z hP hS dX12_leastOf_10 (⟨by unfold leastF; simp only [ni_lt, ni_le, ni_eq, nl_lt, nl_le, nl_eq] at c1 ⊢; (repeat' split) <;> first | rfl | (exfalso; omega), rfl⟩)

set_option maxHeartbeats 4000000 in
set_option maxRecDepth 100000 in
theorem cM_mostOf (l : Launch) (E : mw_E) (σ : mw_M) (v : Int32) : mw_Ci shM 13 gM l yX12_mostOf cX12_mostOf 1 (some .int) (rmF 0 0) E [.int v] σ (fun r u => r = mostF v ∧ u = σ) := by
  refine mw_of (by decide) gM_ok (Nat.le_of_ble_eq_true rfl) ?_
  intro p_ e_ s_ m_ below meth c_ C hr hlk Z hP ls hl
  have C : CallFix p_ m_ c_ cX12_mostOf 1 s_ _ lw_good RX12 := C
  have hl : lv_has ls 1 [(0, .int v)] := hl
  have hS : va_S (mw_A 13 E) s_.heap s_.heap [] := va_S.rf
  refine lv_iload_n C.1 C.2.1 dX12_mostOf_0 rfl (lv_at hl 0 rfl) ?_
  refine lv_if_ne (tgt := 9) C.1 C.2.1 dX12_mostOf_1 (by decide) (fun c1 => ?_) (fun c1 => ?_)
  · refine lv_iload_n C.1 C.2.1 dX12_mostOf_9 rfl (lv_at hl 0 rfl) ?_
    refine lv_iconst (v := 1) C.1 C.2.1 dX12_mostOf_10 (by decide) ?_
    refine lv_icmp_ne (tgt := 19) C.1 C.2.1 dX12_mostOf_11 (by decide) (fun c2 => ?_) (fun c2 => ?_)
    · refine lv_iload_n C.1 C.2.1 dX12_mostOf_19 rfl (lv_at hl 0 rfl) ?_
      refine lv_iconst (v := 2) C.1 C.2.1 dX12_mostOf_20 (by decide) ?_
      refine lv_icmp_ne (tgt := 28) C.1 C.2.1 dX12_mostOf_21 (by decide) (fun c3 => ?_) (fun c3 => ?_)
      · refine lv_iload_n C.1 C.2.1 dX12_mostOf_28 rfl (lv_at hl 0 rfl) ?_
        refine lv_iconst (v := 3) C.1 C.2.1 dX12_mostOf_29 (by decide) ?_
        refine lv_icmp_ne (tgt := 39) C.1 C.2.1 dX12_mostOf_30 (by decide) (fun c4 => ?_) (fun c4 => ?_)
        · refine lv_iload_n C.1 C.2.1 dX12_mostOf_39 rfl (lv_at hl 0 rfl) ?_
          refine lv_iconst (v := 5) C.1 C.2.1 dX12_mostOf_40 (by decide) ?_
          refine lv_icmp_eq (tgt := 50) C.1 C.2.1 dX12_mostOf_41 (by decide) (fun c5 => ?_) (fun c5 => ?_)
          · refine lv_bipush (v := 9) C.1 C.2.1 dX12_mostOf_50 (by decide) ?_
            refine lv_goto (tgt := 57) C.1 C.2.1 dX12_mostOf_52 (by decide) ?_
            exact mw_iret C hr hlk Z hP hS dX12_mostOf_57 (⟨by unfold mostF; simp [c1, c2, c3, c4, c5], rfl⟩)
          · refine lv_iload_n C.1 C.2.1 dX12_mostOf_44 rfl (lv_at hl 0 rfl) ?_
            refine lv_bipush (v := 6) C.1 C.2.1 dX12_mostOf_45 (by decide) ?_
            refine lv_icmp_ne (tgt := 55) C.1 C.2.1 dX12_mostOf_47 (by decide) (fun c6 => ?_) (fun c6 => ?_)
            · refine lv_bipush (v := 99) C.1 C.2.1 dX12_mostOf_55 (by decide) ?_
              exact mw_iret C hr hlk Z hP hS dX12_mostOf_57 (⟨by unfold mostF; simp [c1, c2, c3, c4, c5, c6], rfl⟩)
            · refine lv_bipush (v := 9) C.1 C.2.1 dX12_mostOf_50 (by decide) ?_
              refine lv_goto (tgt := 57) C.1 C.2.1 dX12_mostOf_52 (by decide) ?_
              exact mw_iret C hr hlk Z hP hS dX12_mostOf_57 (⟨by unfold mostF; simp [c1, c2, c3, c4, c5, c6], rfl⟩)
        · refine lv_sipush (v := 1023) C.1 C.2.1 dX12_mostOf_33 (by decide) ?_
          refine lv_goto (tgt := 57) C.1 C.2.1 dX12_mostOf_36 (by decide) ?_
          exact mw_iret C hr hlk Z hP hS dX12_mostOf_57 (⟨by unfold mostF; simp [c1, c2, c3, c4], rfl⟩)
      · refine lv_iconst (v := 1) C.1 C.2.1 dX12_mostOf_24 (by decide) ?_
        refine lv_goto (tgt := 57) C.1 C.2.1 dX12_mostOf_25 (by decide) ?_
        exact mw_iret C hr hlk Z hP hS dX12_mostOf_57 (⟨by unfold mostF; simp [c1, c2, c3], rfl⟩)
    · refine lv_bipush (v := 6) C.1 C.2.1 dX12_mostOf_14 (by decide) ?_
      refine lv_goto (tgt := 57) C.1 C.2.1 dX12_mostOf_16 (by decide) ?_
      exact mw_iret C hr hlk Z hP hS dX12_mostOf_57 (⟨by unfold mostF; simp [c1, c2], rfl⟩)
  · refine lv_bipush (v := 40) C.1 C.2.1 dX12_mostOf_4 (by decide) ?_
    refine lv_goto (tgt := 57) C.1 C.2.1 dX12_mostOf_6 (by decide) ?_
    exact mw_iret C hr hlk Z hP hS dX12_mostOf_57 (⟨by unfold mostF; simp [c1], rfl⟩)

set_option maxHeartbeats 4000000 in
set_option maxRecDepth 100000 in
theorem cM_isOne (l : Launch) (E : mw_E) (σ : mw_M) (v : Int32) (n : Nat) (hn : σ.1 0 10 = nI n) (h8 : n ≤ 8) : mw_Ci shM 13 gM l yX12_isOne cX12_isOne 2 (some .boolean) (rmF 1 25) E [.ref (mw_a E 0), .int v] σ (fun r u => r = bI (0 ≤ v.toInt ∧ v.toInt < n) ∧ u = σ) := by
  refine mw_of (by decide) gM_ok (Nat.le_of_ble_eq_true rfl) ?_
  intro p_ e_ s_ m_ below meth c_ C hr hlk Z hP ls hl
  have C : CallFix p_ m_ c_ cX12_isOne 2 s_ _ lw_good RX12 := C
  have hl : lv_has ls 2 [(0, .ref (mw_a E 0)), (1, .int v)] := hl
  have hS : va_S (mw_A 13 E) s_.heap s_.heap [] := va_S.rf
  have hm : (nI n - 1).toInt = (n : Int) - 1 := pk_sub_toInt (b := 1) (by omega) (by decide)
  refine lv_iload_n C.1 C.2.1 dX12_isOne_0 rfl (lv_at hl 1 rfl) ?_
  refine lv_i2l C.1 C.2.1 dX12_isOne_1 rfl ?_
  refine lv_lconst (v := 0) C.1 C.2.1 dX12_isOne_2 (by decide) ?_
  refine lv_aload_n C.1 C.2.1 dX12_isOne_3 rfl (lv_at hl 0 rfl) ?_
  refine mw_geti C Z hP (0) 10 (by decide) rfl rfl rfl (by decide) inX12 tw_4_174 dX12_isOne_4 ?_
  refine lv_iconst (v := 1) C.1 C.2.1 dX12_isOne_7 (by decide) ?_
  refine lv_isub C.1 C.2.1 dX12_isOne_8 ?_
  refine lv_i2l C.1 C.2.1 dX12_isOne_9 rfl ?_
  refine mw_cSi (As := [.long (v.toInt64), .long (0), .long (((σ.1 0 10) - 1).toInt64)]) (rest := []) C Z hP hS (cM_in l E σ (v.toInt64) 0 (((σ.1 0 10) - 1).toInt64) (0 ≤ v.toInt ∧ v.toInt ≤ ((σ.1 0 10) - 1).toInt) (by first | (simp only [nl_i]; exact Iff.rfl) | (simp only [nl_i]; decide) | simp [nl_i])) sb_X12_in tw_5_33 ⟨rfl, rfl⟩ ⟨Nat.le_of_ble_eq_true rfl, Nat.le_of_ble_eq_true rfl⟩ rfl hl.1 rfl (Nat.le_of_ble_eq_true rfl) dX12_isOne_10 ⟨Nat.zero_le _, Nat.zero_le _⟩ (fun r1 u2 H locs q3 hP hS => ?_)
  obtain ⟨rfl, q3u⟩ := q3
  rw [q3u] at hP; clear q3u
  exact mw_zret C hr hlk Z hP hS (bI_nar _) dX12_isOne_13 (⟨bI_congr ⟨fun q => ⟨q.1, by have := q.2; rw [hn, hm] at this; omega⟩, fun q => ⟨q.1, by rw [hn, hm]; omega⟩⟩, rfl⟩)

/-- a text's byte at a place, -1 behind its end -/
def byF (bs : Nat → Int32) (n j : Nat) : Int32 := if j < n then bs j else -1
/-- the text that is read: the bytes from 160 t on, n of them -/
def mTx (σ : mw_M) (t n : Nat) (bs : Nat → Int32) : Prop := σ.1 0 17 = nI (160 * t) ∧ σ.1 0 18 = nI n ∧ t < 6 ∧ n ≤ 160 ∧ ∀ j, j < n → σ.2.1 1 (160 * t + j) = bs j ∧ 0 ≤ (bs j).toInt

set_option maxHeartbeats 4000000 in
set_option maxRecDepth 100000 in
theorem cM_byteAt (l : Launch) (E : mw_E) (σ : mw_M) (t n j : Nat) (bs : Nat → Int32) (hT : mTx σ t n bs) (hj : j ≤ 1000) : mw_Ci shM 13 gM l yX12_byteAt cX12_byteAt 2 (some .int) (rmF 0 0) E [.ref (mw_a E 0), .int (nI j)] σ (fun r u => r = byF bs n j ∧ u = σ) := by
  refine mw_of (by decide) gM_ok (Nat.le_of_ble_eq_true rfl) ?_
  intro p_ e_ s_ m_ below meth c_ C hr hlk Z hP ls hl
  have C : CallFix p_ m_ c_ cX12_byteAt 2 s_ _ lw_good RX12 := C
  have hl : lv_has ls 2 [(0, .ref (mw_a E 0)), (1, .int (nI j))] := hl
  have hS : va_S (mw_A 13 E) s_.heap s_.heap [] := va_S.rf
  have h6 := hT.2.2.1
  have h7 := hT.2.2.2.1
  refine lv_iload_n C.1 C.2.1 dX12_byteAt_0 rfl (lv_at hl 1 rfl) ?_
  refine lv_aload_n C.1 C.2.1 dX12_byteAt_1 rfl (lv_at hl 0 rfl) ?_
  refine mw_geti C Z hP (0) 18 (by decide) rfl rfl rfl (by decide) inX12 tw_4_182 dX12_byteAt_2 ?_
  refine lv_icmp_ge (tgt := 22) C.1 C.2.1 dX12_byteAt_5 (by decide) (fun c1 => ?_) (fun c1 => ?_)
  · refine lv_iconst (v := -1) C.1 C.2.1 dX12_byteAt_22 (by decide) ?_
    exact mw_iret C hr hlk Z hP hS dX12_byteAt_23 (⟨by unfold byF; rw [if_neg (by rw [hT.2.1, nI_leI (by omega) (by omega)] at c1; omega)], rfl⟩)
  · refine lv_aload_n C.1 C.2.1 dX12_byteAt_8 rfl (lv_at hl 0 rfl) ?_
    refine mw_getr C Z hP (0) 1 (1) (by decide) rfl rfl rfl (by decide) inX12 tw_4_165 dX12_byteAt_9 ?_
    refine lv_aload_n C.1 C.2.1 dX12_byteAt_12 rfl (lv_at hl 0 rfl) ?_
    refine mw_geti C Z hP (0) 17 (by decide) rfl rfl rfl (by decide) inX12 tw_4_181 dX12_byteAt_13 ?_
    refine lv_iload_n C.1 C.2.1 dX12_byteAt_16 rfl (lv_at hl 1 rfl) ?_
    refine lv_iadd C.1 C.2.1 dX12_byteAt_17 ?_
    refine mw_iald C Z hP (1) (160 * t + j) (by decide) rfl (Nat.lt_of_lt_of_le (by decide : 960 < 961) (Nat.le_of_ble_eq_true rfl)) (by rw [hT.1, nI_add]) (by rw [hT.2.1, nI_leI (by omega) (by omega)] at c1; omega) dX12_byteAt_18 ?_
    refine lv_goto (tgt := 23) C.1 C.2.1 dX12_byteAt_19 (by decide) ?_
    exact mw_iret C hr hlk Z hP hS dX12_byteAt_23 (⟨by unfold byF; rw [hT.2.1, nI_leI (by omega) (by omega)] at c1; rw [if_pos (by omega)]; exact (hT.2.2.2.2 j (by omega)).1, rfl⟩)
