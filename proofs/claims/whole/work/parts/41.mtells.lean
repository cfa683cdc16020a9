/-! THE REFERENCE: TEXT, TELLS -/
theorem nI_p1 {a : Nat} (h : a < 2 ^ 30) : (nI a - 1).toInt = (a : Int) - 1 := pk_sub_toInt (b := 1) h (by decide)
def cpB (f g : Nat → Int32) (b i : Nat) : Nat → Int32 := fun j => if b ≤ j ∧ j < b + i then f (j - b) else g j
theorem cpB_0 (f g : Nat → Int32) (b : Nat) : cpB f g b 0 = g := by
  funext j
  unfold cpB
  rw [if_neg (by omega)]
theorem cpB_s (f g : Nat → Int32) (b i : Nat) : upd (cpB f g b i) (b + i) (f i) = cpB f g b (i + 1) := by
  funext j
  unfold upd cpB
  by_cases h : j = b + i
  · rw [if_pos h, if_pos (by omega), h, Nat.add_sub_cancel_left]
  · rw [if_neg h]
    by_cases h2 : b ≤ j ∧ j < b + i
    · rw [if_pos h2, if_pos (by omega)]
    · rw [if_neg h2, if_neg (by omega)]
def textX (X : Nat → Nat → Int32) (tc tn : Nat) : Nat → Nat → Int32 := va_up (va_up X 1 (cpB (X 3) (X 1) (160 * tc) tn)) 2 (upd (X 2) tc (nI tn))
def textQ (σ u : mw_M) (tc tn : Nat) (r : Int32) (res : zP ⊕ Nat) : Prop := u.2.1 = textX σ.2.1 tc tn ∧ u.1 0 6 = 0 ∧ (match res with
  | .inl _ => r = nI tc ∧ u.1 0 3 = nI (tc + 1) ∧ ∀ f, (f < 11 ∨ 25 < f) → f ≠ 3 → f ≠ 6 → u.1 0 f = σ.1 0 f
  | .inr q => r = -100 - nI q ∧ ∀ f, (f < 11 ∨ 25 < f) → f ≠ 6 → u.1 0 f = σ.1 0 f)

set_option maxHeartbeats 4000000 in
set_option maxRecDepth 100000 in
theorem cM_text (l : Launch) (E : mw_E) (σ : mw_M) (tc tn : Nat) (htc : σ.1 0 3 = nI tc) (htn : σ.1 0 6 = nI tn) (h6 : tc ≤ 6) (h160 : tn ≤ 160) (hby : ∀ j, j < tn → 0 ≤ (σ.2.1 3 j).toInt) : mw_Ci shM 13 gM l yX12_text cX12_text 2 (some .int) (rmF 42 930) E [.ref (mw_a E 0)] σ (fun r u => (tc = 6 → r = -4 ∧ u = σ) ∧ (tc < 6 → textQ σ u tc tn r (gText (tkA (σ.2.1 3) tn 0)))) := by
  refine mw_of (by decide) gM_ok (Nat.le_of_ble_eq_true rfl) ?_
  intro p_ e_ s_ m_ below meth c_ C hr hlk Z hP ls hl
  have C : CallFix p_ m_ c_ cX12_text 2 s_ _ lw_good RX12 := C
  have hl : lv_has ls 2 [(0, .ref (mw_a E 0))] := hl
  have hS : va_S (mw_A 13 E) s_.heap s_.heap [] := va_S.rf
  refine lv_aload_n C.1 C.2.1 dX12_text_0 rfl (lv_at hl 0 rfl) ?_
  refine mw_geti C Z hP (0) 3 (by decide) rfl rfl rfl (by decide) inX12 tw_4_167 dX12_text_1 ?_
  refine mw_top (y := nI tc) (htc) ?_
  refine lv_bipush (v := 6) C.1 C.2.1 dX12_text_4 (by decide) ?_
  refine lv_icmp_ne (tgt := 12) C.1 C.2.1 dX12_text_6 (by decide) (fun c1 => ?_) (fun c1 => ?_)
  · have c1 : ¬ tc = 6 := (not_congr (nI_eq (b := 6) (by omega) (by decide))).mp c1
    have h5 : tc < 6 := by omega
    refine lv_iconst (v := 0) C.1 C.2.1 dX12_text_12 (by decide) ?_
    refine lv_istore_n (lv' := [(1, .int 0), (0, .ref (mw_a E 0))]) C.1 C.2.1 dX12_text_13 rfl hl (by decide) rfl (fun ls hl => ?_)
    have lpa : ∀ (N : Nat) (i : Nat) (ςa : mw_M) (H : Heap) (locs : List Loc), tn + 1 ≤ i + N → (i ≤ tn) → mEx σ (va_up σ.2.1 1 (cpB (σ.2.1 3) (σ.2.1 1) (160 * tc) i)) ςa → va_P (mw_D E) vwCl (mw_ws shM 13 E ςa) H → va_S (mw_A 13 E) s_.heap H locs → ∀ (ls : Array Slot), lv_has ls 2 [(0, .ref (mw_a E 0)), (1, .int (nI i))] → mWi p_ l e_ (rmF 42 930) s_ m_ [.ref (mw_a E 0)] below meth c_ E (fun r u => (tc = 6 → r = -4 ∧ u = σ) ∧ (tc < 6 → textQ σ u tc tn r (gText (tkA (σ.2.1 3) tn 0)))) H locs (F0 m_ 14 ls []) := by
      intro N
      induction N with
      | zero => intros; exfalso; omega
      | succ N iha =>
        intro i ςa H locs hNa hi fra hP hS ls hl
        refine lv_iload_n C.1 C.2.1 dX12_text_14 rfl (lv_at hl 1 rfl) ?_
        refine lv_aload_n C.1 C.2.1 dX12_text_15 rfl (lv_at hl 0 rfl) ?_
        refine mw_geti C Z hP (0) 6 (by decide) rfl rfl rfl (by decide) inX12 tw_4_170 dX12_text_16 ?_
        refine mw_top (y := nI tn) ((congrFun (congrFun fra.2 0) 6).trans htn) ?_
        refine lv_icmp_ge (tgt := 49) C.1 C.2.1 dX12_text_19 (by decide) (fun c2 => ?_) (fun c2 => ?_)
        · have c2 := (nI_leI (by omega) (by omega)).mp c2
          refine lv_aload_n C.1 C.2.1 dX12_text_49 rfl (lv_at hl 0 rfl) ?_
          refine mw_getr C Z hP (0) 2 (2) (by decide) rfl rfl rfl (by decide) inX12 tw_4_166 dX12_text_50 ?_
          refine lv_aload_n C.1 C.2.1 dX12_text_53 rfl (lv_at hl 0 rfl) ?_
          refine mw_geti C Z hP (0) 3 (by decide) rfl rfl rfl (by decide) inX12 tw_4_167 dX12_text_54 ?_
          refine mw_top (y := nI tc) ((congrFun (congrFun fra.2 0) 3).trans htc) ?_
          refine lv_aload_n C.1 C.2.1 dX12_text_57 rfl (lv_at hl 0 rfl) ?_
          refine mw_geti C Z hP (0) 6 (by decide) rfl rfl rfl (by decide) inX12 tw_4_170 dX12_text_58 ?_
          refine mw_top (y := nI tn) ((congrFun (congrFun fra.2 0) 6).trans htn) ?_
          refine mw_iast C Z hP hS (2) (tc) (by decide) rfl (Nat.lt_of_lt_of_le (by decide : 6 < 961) (Nat.le_of_ble_eq_true rfl)) rfl (by omega) dX12_text_61 (fun H locs hP hS => ?_)
          refine lv_aload_n C.1 C.2.1 dX12_text_62 rfl (lv_at hl 0 rfl) ?_
          refine lv_iconst (v := 0) C.1 C.2.1 dX12_text_63 (by decide) ?_
          refine mw_puti C Z hP hS (0) 6 (by decide) rfl rfl rfl (by decide) inX12 tyX12 tyX12_ok nmX12 rfl tw_4_170 rfl rfl dX12_text_64 (fun H locs hP hS => ?_)
          have hTt : mTt (mw_si (mw_sa ςa 2 tc (nI tn)) 0 6 0) tc tn (σ.2.1 3) := by
            refine ⟨?_, h5, h160, fun j hj => ⟨?_, hby j hj⟩⟩
            · show (va_up ςa.2.1 2 (upd (ςa.2.1 2) tc (nI tn))) 2 tc = _
              rw [va_up_self]; exact pk_us
            · show (va_up ςa.2.1 2 (upd (ςa.2.1 2) tc (nI tn))) 1 (160 * tc + j) = _
              rw [va_up_ne _ _ (by decide), fra.1, va_up_self]
              unfold cpB
              rw [if_pos (by omega), Nat.add_sub_cancel_left]
          refine lv_aload_n C.1 C.2.1 dX12_text_67 rfl (lv_at hl 0 rfl) ?_
          refine lv_aload_n C.1 C.2.1 dX12_text_68 rfl (lv_at hl 0 rfl) ?_
          refine mw_geti C Z hP (0) 3 (by decide) rfl rfl rfl (by decide) inX12 tw_4_167 dX12_text_69 ?_
          refine mw_top (y := nI tc) ((congrFun (congrFun fra.2 0) 3).trans htc) ?_
          refine lv_iconst (v := 0) C.1 C.2.1 dX12_text_72 (by decide) ?_
          refine mw_cVi (As := [.int (nI tc), .int 0]) (rest := []) C Z hP hS (0) (cM_read0 l E (mw_si (mw_sa ςa 2 tc (nI tn)) 0 6 0) tc tn (σ.2.1 3) hTt) vb_X12_read tw_5_60 ⟨rfl, rfl⟩ ⟨Nat.le_of_ble_eq_true rfl, Nat.le_of_ble_eq_true rfl⟩ (by decide) rfl rfl rfl rfl hl.1 rfl (Nat.le_of_ble_eq_true rfl) dX12_text_73 ⟨Nat.zero_le _, Nat.zero_le _⟩ (fun r3 u4 H locs q5 hP hS => ?_)
          rcases hg6 : gText (tkA (σ.2.1 3) tn 0) with z7 | qq8
          · rw [hg6] at q5
            obtain ⟨f9, h10, hv11⟩ := q5
            refine lv_istore_n (lv' := [(1, .int r3), (0, .ref (mw_a E 0))]) C.1 C.2.1 dX12_text_76 rfl hl (by decide) rfl (fun ls hl => ?_)
            refine lv_aload_n C.1 C.2.1 dX12_text_77 rfl (lv_at hl 1 rfl) ?_
            refine mw_geti C Z hP (0) 24 (by decide) rfl rfl rfl (by decide) inX12 tw_4_188 dX12_text_78 ?_
            refine mw_top (y := 0) (h10) ?_
            refine lv_if_eq (tgt := 92) C.1 C.2.1 dX12_text_81 (by decide) (fun c13 => ?_) (fun c13 => ?_)
            · refine lv_aload_n C.1 C.2.1 dX12_text_92 rfl (lv_at hl 1 rfl) ?_
              refine lv_dup C.1 C.2.1 dX12_text_93 rfl ?_
              refine mw_geti C Z hP (0) 3 (by decide) rfl rfl rfl (by decide) inX12 tw_4_167 dX12_text_94 ?_
              refine mw_top (y := nI tc) ((f9.2 3 (by omega)).trans ((congrFun (congrFun fra.2 0) 3).trans htc)) ?_
              refine lv_iconst (v := 1) C.1 C.2.1 dX12_text_97 (by decide) ?_
              refine lv_iadd C.1 C.2.1 dX12_text_98 ?_
              refine mw_top (y := nI (tc + 1)) (nI_1 _) ?_
              refine mw_puti C Z hP hS (0) 3 (by decide) rfl rfl rfl (by decide) inX12 tyX12 tyX12_ok nmX12 rfl tw_4_167 rfl rfl dX12_text_99 (fun H locs hP hS => ?_)
              refine lv_aload_n C.1 C.2.1 dX12_text_102 rfl (lv_at hl 1 rfl) ?_
              refine mw_geti C Z hP (0) 3 (by decide) rfl rfl rfl (by decide) inX12 tw_4_167 dX12_text_103 ?_
              refine mw_top (y := nI (tc + 1)) (rfl) ?_
              refine lv_iconst (v := 1) C.1 C.2.1 dX12_text_106 (by decide) ?_
              refine lv_isub C.1 C.2.1 dX12_text_107 ?_
              refine mw_top (y := nI tc) (pk_sub (a := tc + 1) (b := 1) (by omega)) ?_
              have hfr : ∀ k, (k < 11 ∨ 25 < k) → k ≠ 3 → k ≠ 6 → (mw_si u4 0 3 (nI (tc + 1))).1 0 k = σ.1 0 k := fun k h1 h2 h3 => by rw [mw_si_ne _ h2, f9.2 k (by omega), mw_si_ne _ h3]; exact congrFun (congrFun fra.2 0) k
              exact mw_iret C hr hlk Z hP hS dX12_text_108 (⟨fun y => absurd y (by omega), fun _ => ⟨(by rw [show (mw_si u4 0 3 (nI (tc + 1))).2.1 = u4.2.1 from rfl, f9.1, show (mw_si (mw_sa ςa 2 tc (nI tn)) 0 6 0).2.1 = va_up ςa.2.1 2 (upd (ςa.2.1 2) tc (nI tn)) from rfl, fra.1, show i = tn by omega]; rfl), (by rw [show (mw_si u4 0 3 (nI (tc + 1))).1 0 6 = u4.1 0 6 from rfl]; exact (f9.2 6 (by omega)).trans rfl), ⟨rfl, rfl, hfr⟩⟩⟩)
            · exact absurd c13 (by decide)
          · rw [hg6] at q5
            obtain ⟨f9, hb12⟩ := q5
            refine lv_istore_n (lv' := [(1, .int r3), (0, .ref (mw_a E 0))]) C.1 C.2.1 dX12_text_76 rfl hl (by decide) rfl (fun ls hl => ?_)
            refine lv_aload_n C.1 C.2.1 dX12_text_77 rfl (lv_at hl 1 rfl) ?_
            refine mw_geti C Z hP (0) 24 (by decide) rfl rfl rfl (by decide) inX12 tw_4_188 dX12_text_78 ?_
            refine mw_top (y := 1) (hb12.1) ?_
            refine lv_if_eq (tgt := 92) C.1 C.2.1 dX12_text_81 (by decide) (fun c14 => ?_) (fun c14 => ?_)
            · exact absurd c14 (by decide)
            · refine lv_bipush (v := -100) C.1 C.2.1 dX12_text_84 (by decide) ?_
              refine lv_aload_n C.1 C.2.1 dX12_text_86 rfl (lv_at hl 1 rfl) ?_
              refine mw_geti C Z hP (0) 25 (by decide) rfl rfl rfl (by decide) inX12 tw_4_189 dX12_text_87 ?_
              refine mw_top (y := nI qq8) (hb12.2) ?_
              refine lv_isub C.1 C.2.1 dX12_text_90 ?_
              have hfr : ∀ k, (k < 11 ∨ 25 < k) → k ≠ 6 → u4.1 0 k = σ.1 0 k := fun k h1 h3 => by rw [f9.2 k (by omega), mw_si_ne _ h3]; exact congrFun (congrFun fra.2 0) k
              exact mw_iret C hr hlk Z hP hS dX12_text_91 (⟨fun y => absurd y (by omega), fun _ => ⟨(by rw [show (u4).2.1 = u4.2.1 from rfl, f9.1, show (mw_si (mw_sa ςa 2 tc (nI tn)) 0 6 0).2.1 = va_up ςa.2.1 2 (upd (ςa.2.1 2) tc (nI tn)) from rfl, fra.1, show i = tn by omega]; rfl), (by rw [show (u4).1 0 6 = u4.1 0 6 from rfl]; exact (f9.2 6 (by omega)).trans rfl), ⟨rfl, hfr⟩⟩⟩)
        · have c2 : _ := (not_congr (nI_leI (by omega) (by omega))).mp c2
          refine lv_aload_n C.1 C.2.1 dX12_text_22 rfl (lv_at hl 0 rfl) ?_
          refine mw_getr C Z hP (0) 1 (1) (by decide) rfl rfl rfl (by decide) inX12 tw_4_165 dX12_text_23 ?_
          refine lv_sipush (v := 160) C.1 C.2.1 dX12_text_26 (by decide) ?_
          refine lv_aload_n C.1 C.2.1 dX12_text_29 rfl (lv_at hl 0 rfl) ?_
          refine mw_geti C Z hP (0) 3 (by decide) rfl rfl rfl (by decide) inX12 tw_4_167 dX12_text_30 ?_
          refine mw_top (y := nI tc) ((congrFun (congrFun fra.2 0) 3).trans htc) ?_
          refine lv_imul C.1 C.2.1 dX12_text_33 ?_
          refine mw_top (y := nI (160 * tc)) (pk_mul 160 tc) ?_
          refine lv_iload_n C.1 C.2.1 dX12_text_34 rfl (lv_at hl 1 rfl) ?_
          refine lv_iadd C.1 C.2.1 dX12_text_35 ?_
          refine mw_top (y := nI (160 * tc + i)) (nI_add _ _) ?_
          refine lv_aload_n C.1 C.2.1 dX12_text_36 rfl (lv_at hl 0 rfl) ?_
          refine mw_getr C Z hP (0) 5 (3) (by decide) rfl rfl rfl (by decide) inX12 tw_4_169 dX12_text_37 ?_
          refine lv_iload_n C.1 C.2.1 dX12_text_40 rfl (lv_at hl 1 rfl) ?_
          refine mw_iald C Z hP (3) (i) (by decide) rfl (Nat.lt_of_lt_of_le (by decide : 160 < 961) (Nat.le_of_ble_eq_true rfl)) rfl (by omega) dX12_text_41 ?_
          refine mw_top (y := σ.2.1 3 i) (by rw [fra.1]; rfl) ?_
          refine mw_iast C Z hP hS (1) (160 * tc + i) (by decide) rfl (Nat.lt_of_lt_of_le (by decide : 960 < 961) (Nat.le_of_ble_eq_true rfl)) rfl (by omega) dX12_text_42 (fun H locs hP hS => ?_)
          refine lv_iinc (v := nI (i + 1)) (lv' := [(1, .int (nI (i + 1))), (0, .ref (mw_a E 0))]) C.1 C.2.1 dX12_text_43 hl (k := 1) rfl (nI_1 _) (by decide) rfl (fun ls hl => ?_)
          refine lv_goto (tgt := 14) C.1 C.2.1 dX12_text_46 (by decide) ?_
          exact iha (i + 1) (mw_sa ςa 1 (160 * tc + i) (σ.2.1 3 i)) _ _ (by omega) (by omega) (by have y := mEx.sa fra 1 (160 * tc + i) (σ.2.1 3 i); rw [va_up_self, bx_uu, cpB_s] at y; exact y) hP hS ls (lv_sub hl [1, 0] rfl)
    exact lpa (tn + 1) 0 σ _ _ (by omega) (by omega) ⟨by rw [cpB_0, up_self], rfl⟩ hP hS ls (lv_sub hl [1, 0] rfl)
  · have c1 : tc = 6 := (nI_eq (b := 6) (by omega) (by decide)).mp c1
    refine lv_bipush (v := -4) C.1 C.2.1 dX12_text_9 (by decide) ?_
    exact mw_iret C hr hlk Z hP hS dX12_text_11 (⟨fun _ => ⟨rfl, rfl⟩, fun y => absurd y (by omega)⟩)

theorem im1 (x : Int32) : x + Int32.ofInt (-1) = x - 1 := by rw [Int32.sub_eq_add_neg]; rfl
theorem mCu_k {σ u : mw_M} {q : Nat} {v : Int32} (h : u.2.1 = va_up σ.2.1 5 (upd (σ.2.1 5) q v)) : mCu u q = upd (mCu σ q) 0 v := by
  funext f
  by_cases h0 : f = 0
  · subst h0
    show u.2.1 5 q = v
    rw [h, va_up_self]
    exact pk_us
  · have e1 : mCu u q f = u.2.1 6 (4 * q + (f - 1)) := by unfold mCu; rw [if_neg h0]
    have e2 : upd (mCu σ q) 0 v f = mCu σ q f := pk_un h0
    rw [e1, e2, h, va_up_ne _ _ (by decide)]
    unfold mCu
    rw [if_neg h0]
theorem mCu_r {σ u : mw_M} {q j : Nat} {v : Int32} (hj : j < 3) (h : u.2.1 = va_up σ.2.1 6 (upd (σ.2.1 6) (4 * q + j) v)) : mCu u q = upd (mCu σ q) (j + 1) v := by
  funext f
  by_cases h0 : f = 0
  · subst h0
    rw [pk_un (by omega)]
    show u.2.1 5 q = σ.2.1 5 q
    rw [h, va_up_ne _ _ (by decide)]
  · have e1 : mCu u q f = u.2.1 6 (4 * q + (f - 1)) := by unfold mCu; rw [if_neg h0]
    rw [e1, h, va_up_self]
    by_cases h1 : f = j + 1
    · rw [h1, pk_us, show j + 1 - 1 = j by omega, pk_us]
    · rw [pk_un h1, pk_un (by omega)]
      unfold mCu
      rw [if_neg h0]
def orS (f : Nat → Int32) : Nat → Nat → Int32
  | 0, _ => 0
  | m + 1, a => orS f m (a + 1) ||| f a
def cnS (b : Nat → Bool) : Nat → Nat → Nat
  | 0, _ => 0
  | m + 1, a => cnS b m (a + 1) + (if b a = true then 1 else 0)
def leS (b : Nat → Bool) : Nat → Nat → Int32
  | 0, _ => -1
  | m + 1, a => if b a = true then nI a else leS b m (a + 1)
def bitF (b : Nat → Bool) (v : Nat) : Int32 := if b v = true then (if v < 10 then 1 <<< (nI v &&& 31) else 0) else 0
/-- by which values v (lo on, cnt of them) all would be so: bits, how many, the least -/
def tellP3 (b : Nat → Bool) (lo cnt : Nat) (w : Nat) : Int32 := if w = 3 then nI (cnS b cnt lo) else if w = 4 then leS b cnt lo else orS (bitF b) cnt lo
theorem cnS_le (b : Nat → Bool) : ∀ m a, cnS b m a ≤ m
  | 0, _ => Nat.le_refl _
  | m + 1, a => by
    have := cnS_le b m (a + 1)
    show cnS b m (a + 1) + _ ≤ _
    split <;> omega
/-- what a customer would eat, by CUBE 1, 2, .., against a row of m cells -/
def okF (z : zP) (st cu : Nat → Int32) (cl : Nat → Int32) (m : Nat) : Bool := decide (foF (fun k => eatsP z (upd st 0 (nI (k + 1))) cu) cl m 0 = -1)

set_option maxHeartbeats 4000000 in
set_option maxRecDepth 100000 in
theorem cM_tells0 (l : Launch) (E : mw_E) (σ : mw_M) (z : zP) (n : Nat) (hn : σ.1 0 10 = nI n) (h8 : n ≤ 8) (hru : mRu σ z) (hsh : mShs σ.2.1) (ss oo : Int32) : mw_Ci shM 13 gM l yX12_tells cX12_tells 11 (some .int) (rmF 47 1041) E [.ref (mw_a E 0), .int ss, .int oo, .int 0] σ (fun r u => r = (if ¬ (0 ≤ ss.toInt ∧ ss.toInt ≤ 3) ∨ ¬ (0 ≤ oo.toInt ∧ oo.toInt < n) then -2 else if σ.2.1 9 ss.toNatClampNeg = 0 then -11 else foF (fun k => eatsP z (upd (mSt σ) 0 (nI (k + 1))) (mCu σ oo.toNatClampNeg)) (fun k => σ.2.1 12 (40 * ss.toNatClampNeg + k)) (σ.2.1 11 ss.toNatClampNeg).toNatClampNeg 0) ∧ mFs σ u) := by
  refine mw_of (by decide) gM_ok (Nat.le_of_ble_eq_true rfl) ?_
  intro p_ e_ s_ m_ below meth c_ C hr hlk Z hP ls hl
  have C : CallFix p_ m_ c_ cX12_tells 11 s_ _ lw_good RX12 := C
  have hl : lv_has ls 11 [(0, .ref (mw_a E 0)), (1, .int ss), (2, .int oo), (3, .int 0)] := hl
  have hS : va_S (mw_A 13 E) s_.heap s_.heap [] := va_S.rf
  refine lv_iload_n C.1 C.2.1 dX12_tells_0 rfl (lv_at hl 1 rfl) ?_
  refine mw_cSi (As := [.int ss]) (rest := []) C Z hP hS (cM_isSheet l E σ ss) sb_X12_isSheet tw_6_130 ⟨rfl, rfl⟩ ⟨Nat.le_of_ble_eq_true rfl, Nat.le_of_ble_eq_true rfl⟩ rfl hl.1 rfl (Nat.le_of_ble_eq_true rfl) dX12_tells_1 ⟨Nat.zero_le _, Nat.zero_le _⟩ (fun r1 u2 H locs q3 hP hS => ?_)
  obtain ⟨rfl, q3u⟩ := q3
  rw [q3u] at hP; clear q3u
  refine lv_if_eq (tgt := 27) C.1 C.2.1 dX12_tells_4 (by decide) (fun c4 => ?_) (fun c4 => ?_)
  · have c4 := bI_0.mp c4
    refine lv_bipush (v := -2) C.1 C.2.1 dX12_tells_27 (by decide) ?_
    exact mw_iret C hr hlk Z hP hS dX12_tells_29 (⟨by rw [if_pos (Or.inl c4)], (mFs.rf σ)⟩)
  · have c4 := bI_n.mp c4
    have hrs := c4
    obtain ⟨sn, hsn, esn⟩ := nI_ofI (k := 3) hrs.1 hrs.2
    subst esn
    refine lv_aload_n C.1 C.2.1 dX12_tells_7 rfl (lv_at hl 0 rfl) ?_
    refine lv_iload_n C.1 C.2.1 dX12_tells_8 rfl (lv_at hl 2 rfl) ?_
    refine mw_cVi (As := [.int oo]) (rest := []) C Z hP hS (0) (cM_isOne l E σ oo n hn h8) vb_X12_isOne tw_5_36 ⟨rfl, rfl⟩ ⟨Nat.le_of_ble_eq_true rfl, Nat.le_of_ble_eq_true rfl⟩ (by decide) rfl rfl rfl rfl hl.1 rfl (Nat.le_of_ble_eq_true rfl) dX12_tells_9 ⟨Nat.zero_le _, Nat.zero_le _⟩ (fun r5 u6 H locs q7 hP hS => ?_)
    obtain ⟨rfl, q7u⟩ := q7
    rw [q7u] at hP; clear q7u
    refine lv_if_eq (tgt := 27) C.1 C.2.1 dX12_tells_12 (by decide) (fun c8 => ?_) (fun c8 => ?_)
    · have c8 := bI_0.mp c8
      refine lv_bipush (v := -2) C.1 C.2.1 dX12_tells_27 (by decide) ?_
      exact mw_iret C hr hlk Z hP hS dX12_tells_29 (⟨by rw [if_pos (Or.inr c8)], (mFs.rf σ)⟩)
    · have c8 := bI_n.mp c8
      have hro := c8
      obtain ⟨q, hq, eq⟩ := nI_ofI (k := 7) hro.1 (by omega)
      subst eq
      have hqn : q < n := by have := hro.2; rw [nI_toInt (by omega)] at this; omega
      have hgood : ¬ (¬ (0 ≤ (nI sn).toInt ∧ (nI sn).toInt ≤ 3) ∨ ¬ (0 ≤ (nI q).toInt ∧ (nI q).toInt < n)) := fun y => y.elim (fun y => y hrs) (fun y => y hro)
      have esn : (nI sn).toNatClampNeg = sn := nI_clamp (by omega)
      have eqn : (nI q).toNatClampNeg = q := nI_clamp (by omega)
      refine lv_iload_n C.1 C.2.1 dX12_tells_15 rfl (lv_at hl 3 rfl) ?_
      refine lv_i2l C.1 C.2.1 dX12_tells_16 rfl ?_
      refine lv_lconst (v := 0) C.1 C.2.1 dX12_tells_17 (by decide) ?_
      refine lv_ldc2 (own := RX12) C.1 C.2.1 C.2.2.2.1 (C.2.2.2.2 _ tw_5_32) dX12_tells_18 ?_
      refine mw_cSi (As := [.long ((0 : Int32).toInt64), .long (0), .long (7)]) (rest := []) C Z hP hS (cM_in l E σ ((0 : Int32).toInt64) 0 7 (0 ≤ (0 : Int32).toInt ∧ (0 : Int32).toInt ≤ 7) (by first | (simp only [nl_i]; exact Iff.rfl) | (simp only [nl_i]; decide) | simp [nl_i])) sb_X12_in tw_5_33 ⟨rfl, rfl⟩ ⟨Nat.le_of_ble_eq_true rfl, Nat.le_of_ble_eq_true rfl⟩ rfl hl.1 rfl (Nat.le_of_ble_eq_true rfl) dX12_tells_21 ⟨Nat.zero_le _, Nat.zero_le _⟩ (fun r9 u10 H locs q11 hP hS => ?_)
      obtain ⟨rfl, q11u⟩ := q11
      rw [q11u] at hP; clear q11u
      refine lv_if_ne (tgt := 30) C.1 C.2.1 dX12_tells_24 (by decide) (fun c12 => ?_) (fun c12 => ?_)
      · have c12 := bI_n.mp c12
        refine lv_aload_n C.1 C.2.1 dX12_tells_30 rfl (lv_at hl 0 rfl) ?_
        refine mw_getr C Z hP (0) 30 (9) (by decide) rfl rfl rfl (by decide) inX12 tw_4_194 dX12_tells_31 ?_
        refine lv_iload_n C.1 C.2.1 dX12_tells_34 rfl (lv_at hl 1 rfl) ?_
        refine mw_zald C Z hP (9) (sn) (by decide) rfl (Nat.lt_of_lt_of_le (by decide : 4 < 961) (Nat.le_of_ble_eq_true rfl)) rfl (by omega) dX12_tells_35 ?_
        refine lv_if_ne (tgt := 42) C.1 C.2.1 dX12_tells_36 (by decide) (fun c13 => ?_) (fun c13 => ?_)
        · have hth := c13
          obtain ⟨mm, hmm, hm⟩ := ((hsh sn (by omega)).resolve_left hth).2
          refine lv_iload_n C.1 C.2.1 dX12_tells_42 rfl (lv_at hl 3 rfl) ?_
          refine lv_if_ne (tgt := 53) C.1 C.2.1 dX12_tells_43 (by decide) (fun c14 => ?_) (fun c14 => ?_)
          · exact absurd c14 (by decide)
          · refine lv_aload_n C.1 C.2.1 dX12_tells_46 rfl (lv_at hl 0 rfl) ?_
            refine lv_iload_n C.1 C.2.1 dX12_tells_47 rfl (lv_at hl 1 rfl) ?_
            refine lv_iload_n C.1 C.2.1 dX12_tells_48 rfl (lv_at hl 2 rfl) ?_
            refine mw_cVi (As := [.int (nI sn), .int (nI q)]) (rest := []) C Z hP hS (0) (cM_firstOther l E σ z q (by omega) hru sn mm (by omega) hm hmm) vb_X12_firstOther tw_6_134 ⟨rfl, rfl⟩ ⟨Nat.le_of_ble_eq_true rfl, Nat.le_of_ble_eq_true rfl⟩ (by decide) rfl rfl rfl rfl hl.1 rfl (Nat.le_of_ble_eq_true rfl) dX12_tells_49 ⟨Nat.zero_le _, Nat.zero_le _⟩ (fun r15 u16 H locs q17 hP hS => ?_)
            obtain ⟨rfl, f18⟩ := q17
            exact mw_iret C hr hlk Z hP hS dX12_tells_52 (⟨by rw [if_neg hgood, esn, if_neg hth, eqn, hm, nI_clamp (n := mm) (by omega)], ((mFs.rf σ).tr f18)⟩)
        · refine lv_bipush (v := -11) C.1 C.2.1 dX12_tells_39 (by decide) ?_
          exact mw_iret C hr hlk Z hP hS dX12_tells_41 (⟨by rw [if_neg hgood, esn, if_pos c13], (mFs.rf σ)⟩)
      · have c12 := bI_0.mp c12
        exact absurd (by decide) c12

set_option maxHeartbeats 4000000 in
set_option maxRecDepth 100000 in
theorem cM_tells1 (l : Launch) (E : mw_E) (σ : mw_M) (z : zP) (n : Nat) (hn : σ.1 0 10 = nI n) (h8 : n ≤ 8) (hru : mRu σ z) (hsh : mShs σ.2.1) (ss oo : Int32) : mw_Ci shM 13 gM l yX12_tells cX12_tells 11 (some .int) (rmF 47 1041) E [.ref (mw_a E 0), .int ss, .int oo, .int 1] σ (fun r u => r = (if ¬ (0 ≤ ss.toInt ∧ ss.toInt ≤ 3) ∨ ¬ (0 ≤ oo.toInt ∧ oo.toInt < n) then -2 else if σ.2.1 9 ss.toNatClampNeg = 0 then -11 else tellP3 (fun v => okF z (mSt σ) (upd (mCu σ oo.toNatClampNeg) 0 (nI v)) (fun k => σ.2.1 12 (40 * ss.toNatClampNeg + k)) (σ.2.1 11 ss.toNatClampNeg).toNatClampNeg) 0 6 1) ∧ mFs σ u) := by
  refine mw_of (by decide) gM_ok (Nat.le_of_ble_eq_true rfl) ?_
  intro p_ e_ s_ m_ below meth c_ C hr hlk Z hP ls hl
  have C : CallFix p_ m_ c_ cX12_tells 11 s_ _ lw_good RX12 := C
  have hl : lv_has ls 11 [(0, .ref (mw_a E 0)), (1, .int ss), (2, .int oo), (3, .int 1)] := hl
  have hS : va_S (mw_A 13 E) s_.heap s_.heap [] := va_S.rf
  refine lv_iload_n C.1 C.2.1 dX12_tells_0 rfl (lv_at hl 1 rfl) ?_
  refine mw_cSi (As := [.int ss]) (rest := []) C Z hP hS (cM_isSheet l E σ ss) sb_X12_isSheet tw_6_130 ⟨rfl, rfl⟩ ⟨Nat.le_of_ble_eq_true rfl, Nat.le_of_ble_eq_true rfl⟩ rfl hl.1 rfl (Nat.le_of_ble_eq_true rfl) dX12_tells_1 ⟨Nat.zero_le _, Nat.zero_le _⟩ (fun r1 u2 H locs q3 hP hS => ?_)
  obtain ⟨rfl, q3u⟩ := q3
  rw [q3u] at hP; clear q3u
  refine lv_if_eq (tgt := 27) C.1 C.2.1 dX12_tells_4 (by decide) (fun c4 => ?_) (fun c4 => ?_)
  · have c4 := bI_0.mp c4
    refine lv_bipush (v := -2) C.1 C.2.1 dX12_tells_27 (by decide) ?_
    exact mw_iret C hr hlk Z hP hS dX12_tells_29 (⟨by rw [if_pos (Or.inl c4)], (mFs.rf σ)⟩)
  · have c4 := bI_n.mp c4
    have hrs := c4
    obtain ⟨sn, hsn, esn⟩ := nI_ofI (k := 3) hrs.1 hrs.2
    subst esn
    refine lv_aload_n C.1 C.2.1 dX12_tells_7 rfl (lv_at hl 0 rfl) ?_
    refine lv_iload_n C.1 C.2.1 dX12_tells_8 rfl (lv_at hl 2 rfl) ?_
    refine mw_cVi (As := [.int oo]) (rest := []) C Z hP hS (0) (cM_isOne l E σ oo n hn h8) vb_X12_isOne tw_5_36 ⟨rfl, rfl⟩ ⟨Nat.le_of_ble_eq_true rfl, Nat.le_of_ble_eq_true rfl⟩ (by decide) rfl rfl rfl rfl hl.1 rfl (Nat.le_of_ble_eq_true rfl) dX12_tells_9 ⟨Nat.zero_le _, Nat.zero_le _⟩ (fun r5 u6 H locs q7 hP hS => ?_)
    obtain ⟨rfl, q7u⟩ := q7
    rw [q7u] at hP; clear q7u
    refine lv_if_eq (tgt := 27) C.1 C.2.1 dX12_tells_12 (by decide) (fun c8 => ?_) (fun c8 => ?_)
    · have c8 := bI_0.mp c8
      refine lv_bipush (v := -2) C.1 C.2.1 dX12_tells_27 (by decide) ?_
      exact mw_iret C hr hlk Z hP hS dX12_tells_29 (⟨by rw [if_pos (Or.inr c8)], (mFs.rf σ)⟩)
    · have c8 := bI_n.mp c8
      have hro := c8
      obtain ⟨q, hq, eq⟩ := nI_ofI (k := 7) hro.1 (by omega)
      subst eq
      have hqn : q < n := by have := hro.2; rw [nI_toInt (by omega)] at this; omega
      have hgood : ¬ (¬ (0 ≤ (nI sn).toInt ∧ (nI sn).toInt ≤ 3) ∨ ¬ (0 ≤ (nI q).toInt ∧ (nI q).toInt < n)) := fun y => y.elim (fun y => y hrs) (fun y => y hro)
      have esn : (nI sn).toNatClampNeg = sn := nI_clamp (by omega)
      have eqn : (nI q).toNatClampNeg = q := nI_clamp (by omega)
      refine lv_iload_n C.1 C.2.1 dX12_tells_15 rfl (lv_at hl 3 rfl) ?_
      refine lv_i2l C.1 C.2.1 dX12_tells_16 rfl ?_
      refine lv_lconst (v := 0) C.1 C.2.1 dX12_tells_17 (by decide) ?_
      refine lv_ldc2 (own := RX12) C.1 C.2.1 C.2.2.2.1 (C.2.2.2.2 _ tw_5_32) dX12_tells_18 ?_
      refine mw_cSi (As := [.long ((1 : Int32).toInt64), .long (0), .long (7)]) (rest := []) C Z hP hS (cM_in l E σ ((1 : Int32).toInt64) 0 7 (0 ≤ (1 : Int32).toInt ∧ (1 : Int32).toInt ≤ 7) (by first | (simp only [nl_i]; exact Iff.rfl) | (simp only [nl_i]; decide) | simp [nl_i])) sb_X12_in tw_5_33 ⟨rfl, rfl⟩ ⟨Nat.le_of_ble_eq_true rfl, Nat.le_of_ble_eq_true rfl⟩ rfl hl.1 rfl (Nat.le_of_ble_eq_true rfl) dX12_tells_21 ⟨Nat.zero_le _, Nat.zero_le _⟩ (fun r9 u10 H locs q11 hP hS => ?_)
      obtain ⟨rfl, q11u⟩ := q11
      rw [q11u] at hP; clear q11u
      refine lv_if_ne (tgt := 30) C.1 C.2.1 dX12_tells_24 (by decide) (fun c12 => ?_) (fun c12 => ?_)
      · have c12 := bI_n.mp c12
        refine lv_aload_n C.1 C.2.1 dX12_tells_30 rfl (lv_at hl 0 rfl) ?_
        refine mw_getr C Z hP (0) 30 (9) (by decide) rfl rfl rfl (by decide) inX12 tw_4_194 dX12_tells_31 ?_
        refine lv_iload_n C.1 C.2.1 dX12_tells_34 rfl (lv_at hl 1 rfl) ?_
        refine mw_zald C Z hP (9) (sn) (by decide) rfl (Nat.lt_of_lt_of_le (by decide : 4 < 961) (Nat.le_of_ble_eq_true rfl)) rfl (by omega) dX12_tells_35 ?_
        refine lv_if_ne (tgt := 42) C.1 C.2.1 dX12_tells_36 (by decide) (fun c13 => ?_) (fun c13 => ?_)
        · have hth := c13
          obtain ⟨mm, hmm, hm⟩ := ((hsh sn (by omega)).resolve_left hth).2
          refine lv_iload_n C.1 C.2.1 dX12_tells_42 rfl (lv_at hl 3 rfl) ?_
          refine lv_if_ne (tgt := 53) C.1 C.2.1 dX12_tells_43 (by decide) (fun c14 => ?_) (fun c14 => ?_)
          · refine lv_iload_n C.1 C.2.1 dX12_tells_53 rfl (lv_at hl 3 rfl) ?_
            refine lv_iconst (v := 1) C.1 C.2.1 dX12_tells_54 (by decide) ?_
            refine lv_icmp_ne (tgt := 63) C.1 C.2.1 dX12_tells_55 (by decide) (fun c15 => ?_) (fun c15 => ?_)
            · exact absurd c15 (by decide)
            · refine lv_bipush (v := 8) C.1 C.2.1 dX12_tells_58 (by decide) ?_
              refine lv_goto (tgt := 104) C.1 C.2.1 dX12_tells_60 (by decide) ?_
              refine lv_istore (lv' := [(4, .int 8), (0, .ref (mw_a E 0)), (1, .int (nI sn)), (2, .int (nI q)), (3, .int 1)]) C.1 C.2.1 dX12_tells_104 hl (by decide) rfl (fun ls hl => ?_)
              refine lv_iload C.1 C.2.1 dX12_tells_106 (lv_at hl 0 rfl) ?_
              refine lv_bipush (v := 9) C.1 C.2.1 dX12_tells_108 (by decide) ?_
              refine lv_icmp_ne (tgt := 120) C.1 C.2.1 dX12_tells_110 (by decide) (fun c16 => ?_) (fun c16 => ?_)
              · refine lv_aload_n C.1 C.2.1 dX12_tells_120 rfl (lv_at hl 1 rfl) ?_
                refine lv_iload_n C.1 C.2.1 dX12_tells_121 rfl (lv_at hl 3 rfl) ?_
                refine lv_iload C.1 C.2.1 dX12_tells_122 (lv_at hl 0 rfl) ?_
                refine mw_cVi (As := [.int (nI q), .int 8]) (rest := []) C Z hP hS (0) (cM_told l E σ z n ((mFs.rf σ).many hn) h8 ((mFs.rf σ).ru hru) (nI q) 8) vb_X12_told tw_5_46 ⟨rfl, rfl⟩ ⟨Nat.le_of_ble_eq_true rfl, Nat.le_of_ble_eq_true rfl⟩ (by decide) rfl rfl rfl rfl hl.1 rfl (Nat.le_of_ble_eq_true rfl) dX12_tells_124 ⟨Nat.zero_le _, Nat.zero_le _⟩ (fun r17 u18 H locs q19 hP hS => ?_)
                obtain ⟨e21, f20⟩ := q19
                rw [(mFs.rf σ).st, show mCu (σ) = mCu σ from funext fun p => (mFs.rf σ).cu p] at e21
                subst e21
                have hwas : toldF z (mSt σ) (mCu σ) n (nI q) 8 = mCu σ q 0 := by unfold toldF; rw [if_neg (fun y => y.elim (fun y => y (by decide)) (fun y => y.2 ⟨by rw [nI_toInt (by omega)]; omega, by rw [nI_toInt (by omega)]; omega⟩)), eqn]; rfl
                refine mw_top (y := mCu σ q 0) hwas ?_
                refine lv_istore (lv' := [(5, .int (mCu σ q 0)), (4, .int 8), (0, .ref (mw_a E 0)), (1, .int (nI sn)), (2, .int (nI q)), (3, .int 1)]) C.1 C.2.1 dX12_tells_127 hl (by decide) rfl (fun ls hl => ?_)
                refine lv_iload C.1 C.2.1 dX12_tells_129 (lv_at hl 1 rfl) ?_
                refine lv_bipush (v := 9) C.1 C.2.1 dX12_tells_131 (by decide) ?_
                refine lv_icmp_ne (tgt := 145) C.1 C.2.1 dX12_tells_133 (by decide) (fun c22 => ?_) (fun c22 => ?_)
                · refine lv_iload C.1 C.2.1 dX12_tells_145 (lv_at hl 1 rfl) ?_
                  refine lv_bipush (v := 8) C.1 C.2.1 dX12_tells_147 (by decide) ?_
                  refine lv_icmp_ne (tgt := 156) C.1 C.2.1 dX12_tells_149 (by decide) (fun c23 => ?_) (fun c23 => ?_)
                  · exact absurd c23 (by decide)
                  · refine lv_iconst (v := 5) C.1 C.2.1 dX12_tells_152 (by decide) ?_
                    refine lv_goto (tgt := 161) C.1 C.2.1 dX12_tells_153 (by decide) ?_
                    refine lv_istore (lv' := [(6, .int 5), (5, .int (mCu σ q 0)), (4, .int 8), (0, .ref (mw_a E 0)), (1, .int (nI sn)), (2, .int (nI q)), (3, .int 1)]) C.1 C.2.1 dX12_tells_161 hl (by decide) rfl (fun ls hl => ?_)
                    refine lv_iconst (v := 0) C.1 C.2.1 dX12_tells_163 (by decide) ?_
                    refine lv_istore (lv' := [(7, .int 0), (6, .int 5), (5, .int (mCu σ q 0)), (4, .int 8), (0, .ref (mw_a E 0)), (1, .int (nI sn)), (2, .int (nI q)), (3, .int 1)]) C.1 C.2.1 dX12_tells_164 hl (by decide) rfl (fun ls hl => ?_)
                    refine lv_iconst (v := 0) C.1 C.2.1 dX12_tells_166 (by decide) ?_
                    refine lv_istore (lv' := [(8, .int 0), (7, .int 0), (6, .int 5), (5, .int (mCu σ q 0)), (4, .int 8), (0, .ref (mw_a E 0)), (1, .int (nI sn)), (2, .int (nI q)), (3, .int 1)]) C.1 C.2.1 dX12_tells_167 hl (by decide) rfl (fun ls hl => ?_)
                    refine lv_iconst (v := -1) C.1 C.2.1 dX12_tells_169 (by decide) ?_
                    refine lv_istore (lv' := [(9, .int (-1)), (8, .int 0), (7, .int 0), (6, .int 5), (5, .int (mCu σ q 0)), (4, .int 8), (0, .ref (mw_a E 0)), (1, .int (nI sn)), (2, .int (nI q)), (3, .int 1)]) C.1 C.2.1 dX12_tells_170 hl (by decide) rfl (fun ls hl => ?_)
                    refine lv_iload C.1 C.2.1 dX12_tells_172 (lv_at hl 3 rfl) ?_
                    refine mw_top (y := nI (6 - 0) - 1) (by decide) ?_
                    refine lv_istore (lv' := [(10, .int (nI (6 - 0) - 1)), (9, .int (-1)), (8, .int 0), (7, .int 0), (6, .int 5), (5, .int (mCu σ q 0)), (4, .int 8), (0, .ref (mw_a E 0)), (1, .int (nI sn)), (2, .int (nI q)), (3, .int 1)]) C.1 C.2.1 dX12_tells_174 hl (by decide) rfl (fun ls hl => ?_)
                    have lpa : ∀ (N : Nat) (m : Nat) (x : Int32) (k : Nat) (y : Int32) (r' : Nat → Int32) (ςa : mw_M) (H : Heap) (locs : List Loc), 7 ≤ m + N → (m ≤ 6) → (x = orS (bitF (fun v => okF z (mSt σ) (upd (mCu σ q) 0 (nI v)) (fun k => σ.2.1 12 (40 * sn + k)) mm)) m (6 - m)) → (k = cnS (fun v => okF z (mSt σ) (upd (mCu σ q) 0 (nI v)) (fun k => σ.2.1 12 (40 * sn + k)) mm) m (6 - m)) → (y = leS (fun v => okF z (mSt σ) (upd (mCu σ q) 0 (nI v)) (fun k => σ.2.1 12 (40 * sn + k)) mm) m (6 - m)) → (∀ v, upd r' q v = upd (σ.2.1 5) q v) → mAr σ (va_up σ.2.1 5 r') ςa → va_P (mw_D E) vwCl (mw_ws shM 13 E ςa) H → va_S (mw_A 13 E) s_.heap H locs → ∀ (ls : Array Slot), lv_has ls 11 [(0, .ref (mw_a E 0)), (1, .int (nI sn)), (2, .int (nI q)), (3, .int 1), (4, .int 8), (5, .int (mCu σ q 0)), (6, .int 5), (7, .int x), (8, .int (nI k)), (9, .int y), (10, .int (nI (6 - m) - 1))] → mWi p_ l e_ (rmF 47 1041) s_ m_ [.ref (mw_a E 0), .int (nI sn), .int (nI q), .int 1] below meth c_ E (fun r u => r = (if ¬ (0 ≤ (nI sn).toInt ∧ (nI sn).toInt ≤ 3) ∨ ¬ (0 ≤ (nI q).toInt ∧ (nI q).toInt < n) then -2 else if σ.2.1 9 (nI sn).toNatClampNeg = 0 then -11 else tellP3 (fun v => okF z (mSt σ) (upd (mCu σ (nI q).toNatClampNeg) 0 (nI v)) (fun k => σ.2.1 12 (40 * (nI sn).toNatClampNeg + k)) (σ.2.1 11 (nI sn).toNatClampNeg).toNatClampNeg) 0 6 1) ∧ mFs σ u) H locs (F0 m_ 176 ls []) := by
                      intro N
                      induction N with
                      | zero => intros; exfalso; omega
                      | succ N iha =>
                        intro m x k y r' ςa H locs hNa hm5 ex ek ey hs fra hP hS ls hl
                        refine lv_iload C.1 C.2.1 dX12_tells_176 (lv_at hl 10 rfl) ?_
                        refine lv_iload C.1 C.2.1 dX12_tells_178 (lv_at hl 4 rfl) ?_
                        refine mw_cSi (As := [.int 8]) (rest := [.int (nI (6 - m) - 1)]) C Z hP hS (cM_leastOf l E ςa 8) sb_X12_leastOf tw_5_40 ⟨rfl, rfl⟩ ⟨Nat.le_of_ble_eq_true rfl, Nat.le_of_ble_eq_true rfl⟩ rfl hl.1 rfl (Nat.le_of_ble_eq_true rfl) dX12_tells_180 ⟨Nat.zero_le _, Nat.zero_le _⟩ (fun r24 u25 H locs q26 hP hS => ?_)
                        obtain ⟨rfl, q26u⟩ := q26
                        rw [q26u] at hP; clear q26u
                        refine mw_top (y := 0) (by decide) ?_
                        refine lv_icmp_lt (tgt := 238) C.1 C.2.1 dX12_tells_183 (by decide) (fun c27 => ?_) (fun c27 => ?_)
                        · have c27 : m = 6 := by have y := (ni_lt _ _).mp c27; rw [nI_p1 (a := 6 - m) (by omega)] at y; have e : (0 : Int32).toInt = 0 := rfl; omega
                          have hback : va_up σ.2.1 5 (upd (σ.2.1 5) q (mCu σ q 0)) = σ.2.1 := by rw [show mCu σ q 0 = σ.2.1 5 q from rfl, upd_self]; exact up_self _ _
                          refine lv_aload_n C.1 C.2.1 dX12_tells_238 rfl (lv_at hl 0 rfl) ?_
                          refine lv_iload C.1 C.2.1 dX12_tells_239 (lv_at hl 4 rfl) ?_
                          refine lv_iload_n C.1 C.2.1 dX12_tells_241 rfl (lv_at hl 2 rfl) ?_
                          refine lv_iload C.1 C.2.1 dX12_tells_242 (lv_at hl 5 rfl) ?_
                          refine mw_cVv (As := [.int 8, .int (nI q), .int (mCu σ q 0)]) (rest := []) C Z hP hS (0) (cM_lays8 l E ςa q (by omega) (mCu σ q 0)) vb_X12_lays tw_6_34 ⟨rfl, rfl⟩ ⟨Nat.le_of_ble_eq_true rfl, Nat.le_of_ble_eq_true rfl⟩ (by decide) rfl rfl rfl rfl hl.1 rfl (Nat.le_of_ble_eq_true rfl) dX12_tells_244 ⟨Nat.zero_le _, Nat.zero_le _⟩ (fun u29 H locs q30 hP hS => ?_)
                          rw [q30] at hP; clear q30
                          refine lv_iload_n C.1 C.2.1 dX12_tells_247 rfl (lv_at hl 3 rfl) ?_
                          refine lv_iconst (v := 3) C.1 C.2.1 dX12_tells_248 (by decide) ?_
                          refine lv_icmp_ne (tgt := 257) C.1 C.2.1 dX12_tells_249 (by decide) (fun c31 => ?_) (fun c31 => ?_)
                          · refine lv_iload_n C.1 C.2.1 dX12_tells_257 rfl (lv_at hl 3 rfl) ?_
                            refine lv_iconst (v := 4) C.1 C.2.1 dX12_tells_258 (by decide) ?_
                            refine lv_icmp_ne (tgt := 267) C.1 C.2.1 dX12_tells_259 (by decide) (fun c32 => ?_) (fun c32 => ?_)
                            · refine lv_iload C.1 C.2.1 dX12_tells_267 (lv_at hl 7 rfl) ?_
                              have em : m = 6 := by omega
                              rw [em] at ex ek ey
                              exact mw_iret C hr hlk Z hP hS dX12_tells_269 (⟨by rw [if_neg hgood, esn, if_neg hth, eqn, hm, nI_clamp (n := mm) (by omega)]; unfold tellP3; rw [if_neg (by decide), if_neg (by decide), ex], ⟨((by have y := mAr.sa fra 5 q (mCu σ q 0); rw [va_up_self, bx_uu] at y; exact y : mAr σ (va_up σ.2.1 5 (upd r' q (mCu σ q 0))) _)).1.trans (by rw [hs]; exact hback), ((by have y := mAr.sa fra 5 q (mCu σ q 0); rw [va_up_self, bx_uu] at y; exact y : mAr σ (va_up σ.2.1 5 (upd r' q (mCu σ q 0))) _)).2⟩⟩)
                            · exact absurd c32 (by decide)
                          · exact absurd c31 (by decide)
                        · have c27 : m < 6 := by have y := (not_congr (ni_lt _ _)).mp c27; rw [nI_p1 (a := 6 - m) (by omega)] at y; have e : (0 : Int32).toInt = 0 := rfl; omega
                          obtain ⟨v, hv⟩ : ∃ v, v + 1 = 6 - m := ⟨6 - m - 1, by omega⟩
                          have hv1 : v + 1 = 6 - m := hv
                          have hseg : 6 - (m + 1) = v := by omega
                          rw [show nI (6 - m) - 1 = nI v by rw [← hv]; exact nI_pred v] at hl
                          refine lv_aload_n C.1 C.2.1 dX12_tells_186 rfl (lv_at hl 0 rfl) ?_
                          refine lv_iload C.1 C.2.1 dX12_tells_187 (lv_at hl 4 rfl) ?_
                          refine lv_iload_n C.1 C.2.1 dX12_tells_189 rfl (lv_at hl 2 rfl) ?_
                          refine lv_iload C.1 C.2.1 dX12_tells_190 (lv_at hl 10 rfl) ?_
                          refine mw_cVv (As := [.int 8, .int (nI q), .int (nI v)]) (rest := []) C Z hP hS (0) (cM_lays8 l E ςa q (by omega) (nI v)) vb_X12_lays tw_6_34 ⟨rfl, rfl⟩ ⟨Nat.le_of_ble_eq_true rfl, Nat.le_of_ble_eq_true rfl⟩ (by decide) rfl rfl rfl rfl hl.1 rfl (Nat.le_of_ble_eq_true rfl) dX12_tells_192 ⟨Nat.zero_le _, Nat.zero_le _⟩ (fun u34 H locs q35 hP hS => ?_)
                          rw [q35] at hP; clear q35
                          refine lv_aload_n C.1 C.2.1 dX12_tells_195 rfl (lv_at hl 0 rfl) ?_
                          refine lv_iload_n C.1 C.2.1 dX12_tells_196 rfl (lv_at hl 1 rfl) ?_
                          refine lv_iload_n C.1 C.2.1 dX12_tells_197 rfl (lv_at hl 2 rfl) ?_
                          have hX36 : mAr σ (va_up σ.2.1 5 (upd (σ.2.1 5) q (nI v))) (mw_sa ςa 5 q (nI v)) := by have y := (by have y := mAr.sa fra 5 q (nI v); rw [va_up_self, bx_uu] at y; exact y : mAr σ (va_up σ.2.1 5 (upd r' q (nI v))) _); rw [hs] at y; exact y
                          have hst : mSt (mw_sa ςa 5 q (nI v)) = (mSt σ) := by unfold mSt; rw [hX36.1]; rfl
                          have hcu : mCu (mw_sa ςa 5 q (nI v)) q = upd (mCu σ q) 0 (nI v) := mCu_k hX36.1
                          refine mw_cVi (As := [.int (nI sn), .int (nI q)]) (rest := []) C Z hP hS (0) (cM_firstOther l E (mw_sa ςa 5 q (nI v)) z q (by omega) (hX36.ru rfl rfl hru) sn mm (by omega) (by rw [hX36.1]; exact hm) hmm) vb_X12_firstOther tw_6_134 ⟨rfl, rfl⟩ ⟨Nat.le_of_ble_eq_true rfl, Nat.le_of_ble_eq_true rfl⟩ (by decide) rfl rfl rfl rfl hl.1 rfl (Nat.le_of_ble_eq_true rfl) dX12_tells_198 ⟨Nat.zero_le _, Nat.zero_le _⟩ (fun r37 u38 H locs q39 hP hS => ?_)
                          obtain ⟨e41, f40⟩ := q39
                          rw [hst, hcu, show (mw_sa ςa 5 q (nI v)).2.1 12 = σ.2.1 12 by rw [hX36.1]; rfl] at e41
                          subst e41
                          refine lv_iconst (v := -1) C.1 C.2.1 dX12_tells_201 (by decide) ?_
                          refine lv_icmp_ne (tgt := 232) C.1 C.2.1 dX12_tells_202 (by decide) (fun c42 => ?_) (fun c42 => ?_)
                          · refine lv_iinc (v := nI (6 - (m + 1)) - 1) (lv' := [(10, .int (nI (6 - (m + 1)) - 1)), (0, .ref (mw_a E 0)), (1, .int (nI sn)), (2, .int (nI q)), (3, .int 1), (4, .int 8), (5, .int (mCu σ q 0)), (6, .int 5), (7, .int x), (8, .int (nI k)), (9, .int y)]) C.1 C.2.1 dX12_tells_232 hl (k := 10) rfl (by rw [hseg]; exact im1 _) (by decide) rfl (fun ls hl => ?_)
                            refine lv_goto (tgt := 176) C.1 C.2.1 dX12_tells_235 (by decide) ?_
                            exact iha (m + 1) x k y (upd r' q (nI v)) u38 _ _ (by omega) (by omega) (by rw [hseg]; show _ = orS _ m (v + 1) ||| bitF _ v; rw [hv1, ← ex]; unfold bitF; rw [if_neg (show ¬ (fun v => okF z (mSt σ) (upd (mCu σ q) 0 (nI v)) (fun k => σ.2.1 12 (40 * sn + k)) mm) v = true from fun y => c42 (of_decide_eq_true y)), Int32.or_zero]) (by rw [hseg]; show _ = cnS _ m (v + 1) + (if _ then _ else _); rw [hv1, ← ek]; rw [if_neg (show ¬ (fun v => okF z (mSt σ) (upd (mCu σ q) 0 (nI v)) (fun k => σ.2.1 12 (40 * sn + k)) mm) v = true from fun y => c42 (of_decide_eq_true y))]; rfl) (by rw [hseg]; show _ = (if _ then _ else leS _ m (v + 1)); rw [hv1, ← ey]; rw [if_neg (show ¬ (fun v => okF z (mSt σ) (upd (mCu σ q) 0 (nI v)) (fun k => σ.2.1 12 (40 * sn + k)) mm) v = true from fun y => c42 (of_decide_eq_true y))]) (fun v2 => by rw [upd_upd]; exact hs v2) (mAr.tr (by have y := mAr.sa fra 5 q (nI v); rw [va_up_self, bx_uu] at y; exact y : mAr σ (va_up σ.2.1 5 (upd r' q (nI v))) _) f40) hP hS ls (lv_sub hl [1, 2, 3, 4, 5, 6, 7, 8, 9, 10, 0] rfl)
                          · refine lv_iload C.1 C.2.1 dX12_tells_205 (lv_at hl 7 rfl) ?_
                            refine lv_iload C.1 C.2.1 dX12_tells_207 (lv_at hl 10 rfl) ?_
                            refine lv_bipush (v := 10) C.1 C.2.1 dX12_tells_209 (by decide) ?_
                            refine lv_icmp_ge (tgt := 221) C.1 C.2.1 dX12_tells_211 (by decide) (fun c43 => ?_) (fun c43 => ?_)
                            · have c43 : _ := (nI_leI (a := 10) (by decide) (by omega)).mp c43
                              refine lv_iconst (v := 0) C.1 C.2.1 dX12_tells_221 (by decide) ?_
                              refine lv_ior C.1 C.2.1 dX12_tells_222 ?_
                              refine lv_istore (lv' := [(7, .int (x ||| 0)), (0, .ref (mw_a E 0)), (1, .int (nI sn)), (2, .int (nI q)), (3, .int 1), (4, .int 8), (5, .int (mCu σ q 0)), (6, .int 5), (8, .int (nI k)), (9, .int y), (10, .int (nI v))]) C.1 C.2.1 dX12_tells_223 hl (by decide) rfl (fun ls hl => ?_)
                              refine lv_iinc (v := nI (k + 1)) (lv' := [(8, .int (nI (k + 1))), (7, .int (x ||| 0)), (0, .ref (mw_a E 0)), (1, .int (nI sn)), (2, .int (nI q)), (3, .int 1), (4, .int 8), (5, .int (mCu σ q 0)), (6, .int 5), (9, .int y), (10, .int (nI v))]) C.1 C.2.1 dX12_tells_225 hl (k := 8) rfl (nI_1 _) (by decide) rfl (fun ls hl => ?_)
                              refine lv_iload C.1 C.2.1 dX12_tells_228 (lv_at hl 10 rfl) ?_
                              refine lv_istore (lv' := [(9, .int (nI v)), (8, .int (nI (k + 1))), (7, .int (x ||| 0)), (0, .ref (mw_a E 0)), (1, .int (nI sn)), (2, .int (nI q)), (3, .int 1), (4, .int 8), (5, .int (mCu σ q 0)), (6, .int 5), (10, .int (nI v))]) C.1 C.2.1 dX12_tells_230 hl (by decide) rfl (fun ls hl => ?_)
                              refine lv_iinc (v := nI (6 - (m + 1)) - 1) (lv' := [(10, .int (nI (6 - (m + 1)) - 1)), (9, .int (nI v)), (8, .int (nI (k + 1))), (7, .int (x ||| 0)), (0, .ref (mw_a E 0)), (1, .int (nI sn)), (2, .int (nI q)), (3, .int 1), (4, .int 8), (5, .int (mCu σ q 0)), (6, .int 5)]) C.1 C.2.1 dX12_tells_232 hl (k := 10) rfl (by rw [hseg]; exact im1 _) (by decide) rfl (fun ls hl => ?_)
                              refine lv_goto (tgt := 176) C.1 C.2.1 dX12_tells_235 (by decide) ?_
                              exact iha (m + 1) (x ||| 0) (k + 1) (nI v) (upd r' q (nI v)) u38 _ _ (by omega) (by omega) (by rw [hseg]; show _ = orS _ m (v + 1) ||| bitF _ v; rw [hv1, ← ex]; unfold bitF; rw [if_pos (show (fun v => okF z (mSt σ) (upd (mCu σ q) 0 (nI v)) (fun k => σ.2.1 12 (40 * sn + k)) mm) v = true from decide_eq_true c42), if_neg (by omega)]) (by rw [hseg]; show _ = cnS _ m (v + 1) + (if _ then _ else _); rw [hv1, ← ek]; rw [if_pos (show (fun v => okF z (mSt σ) (upd (mCu σ q) 0 (nI v)) (fun k => σ.2.1 12 (40 * sn + k)) mm) v = true from decide_eq_true c42)]) (by rw [hseg]; show _ = (if _ then _ else leS _ m (v + 1)); rw [hv1, ← ey]; rw [if_pos (show (fun v => okF z (mSt σ) (upd (mCu σ q) 0 (nI v)) (fun k => σ.2.1 12 (40 * sn + k)) mm) v = true from decide_eq_true c42)]) (fun v2 => by rw [upd_upd]; exact hs v2) (mAr.tr (by have y := mAr.sa fra 5 q (nI v); rw [va_up_self, bx_uu] at y; exact y : mAr σ (va_up σ.2.1 5 (upd r' q (nI v))) _) f40) hP hS ls (lv_sub hl [4, 5, 6, 7, 8, 9, 10, 3, 2, 1, 0] rfl)
                            · have c43 : _ := (not_congr (nI_leI (a := 10) (by decide) (by omega))).mp c43
                              refine lv_iconst (v := 1) C.1 C.2.1 dX12_tells_214 (by decide) ?_
                              refine lv_iload C.1 C.2.1 dX12_tells_215 (lv_at hl 10 rfl) ?_
                              refine lv_ishl C.1 C.2.1 dX12_tells_217 ?_
                              refine lv_goto (tgt := 222) C.1 C.2.1 dX12_tells_218 (by decide) ?_
                              refine lv_ior C.1 C.2.1 dX12_tells_222 ?_
                              refine lv_istore (lv' := [(7, .int (x ||| (1 <<< ((nI v) &&& 31)))), (0, .ref (mw_a E 0)), (1, .int (nI sn)), (2, .int (nI q)), (3, .int 1), (4, .int 8), (5, .int (mCu σ q 0)), (6, .int 5), (8, .int (nI k)), (9, .int y), (10, .int (nI v))]) C.1 C.2.1 dX12_tells_223 hl (by decide) rfl (fun ls hl => ?_)
                              refine lv_iinc (v := nI (k + 1)) (lv' := [(8, .int (nI (k + 1))), (7, .int (x ||| (1 <<< ((nI v) &&& 31)))), (0, .ref (mw_a E 0)), (1, .int (nI sn)), (2, .int (nI q)), (3, .int 1), (4, .int 8), (5, .int (mCu σ q 0)), (6, .int 5), (9, .int y), (10, .int (nI v))]) C.1 C.2.1 dX12_tells_225 hl (k := 8) rfl (nI_1 _) (by decide) rfl (fun ls hl => ?_)
                              refine lv_iload C.1 C.2.1 dX12_tells_228 (lv_at hl 10 rfl) ?_
                              refine lv_istore (lv' := [(9, .int (nI v)), (8, .int (nI (k + 1))), (7, .int (x ||| (1 <<< ((nI v) &&& 31)))), (0, .ref (mw_a E 0)), (1, .int (nI sn)), (2, .int (nI q)), (3, .int 1), (4, .int 8), (5, .int (mCu σ q 0)), (6, .int 5), (10, .int (nI v))]) C.1 C.2.1 dX12_tells_230 hl (by decide) rfl (fun ls hl => ?_)
                              refine lv_iinc (v := nI (6 - (m + 1)) - 1) (lv' := [(10, .int (nI (6 - (m + 1)) - 1)), (9, .int (nI v)), (8, .int (nI (k + 1))), (7, .int (x ||| (1 <<< ((nI v) &&& 31)))), (0, .ref (mw_a E 0)), (1, .int (nI sn)), (2, .int (nI q)), (3, .int 1), (4, .int 8), (5, .int (mCu σ q 0)), (6, .int 5)]) C.1 C.2.1 dX12_tells_232 hl (k := 10) rfl (by rw [hseg]; exact im1 _) (by decide) rfl (fun ls hl => ?_)
                              refine lv_goto (tgt := 176) C.1 C.2.1 dX12_tells_235 (by decide) ?_
                              exact iha (m + 1) (x ||| (1 <<< ((nI v) &&& 31))) (k + 1) (nI v) (upd r' q (nI v)) u38 _ _ (by omega) (by omega) (by rw [hseg]; show _ = orS _ m (v + 1) ||| bitF _ v; rw [hv1, ← ex]; unfold bitF; rw [if_pos (show (fun v => okF z (mSt σ) (upd (mCu σ q) 0 (nI v)) (fun k => σ.2.1 12 (40 * sn + k)) mm) v = true from decide_eq_true c42), if_pos (by omega)]) (by rw [hseg]; show _ = cnS _ m (v + 1) + (if _ then _ else _); rw [hv1, ← ek]; rw [if_pos (show (fun v => okF z (mSt σ) (upd (mCu σ q) 0 (nI v)) (fun k => σ.2.1 12 (40 * sn + k)) mm) v = true from decide_eq_true c42)]) (by rw [hseg]; show _ = (if _ then _ else leS _ m (v + 1)); rw [hv1, ← ey]; rw [if_pos (show (fun v => okF z (mSt σ) (upd (mCu σ q) 0 (nI v)) (fun k => σ.2.1 12 (40 * sn + k)) mm) v = true from decide_eq_true c42)]) (fun v2 => by rw [upd_upd]; exact hs v2) (mAr.tr (by have y := mAr.sa fra 5 q (nI v); rw [va_up_self, bx_uu] at y; exact y : mAr σ (va_up σ.2.1 5 (upd r' q (nI v))) _) f40) hP hS ls (lv_sub hl [4, 5, 6, 7, 8, 9, 10, 3, 2, 1, 0] rfl)
                    exact lpa (7) 0 0 0 (-1) (σ.2.1 5) u18 _ _ (by omega) (by omega) (rfl) (rfl) (rfl) (fun v => rfl) ⟨(up_self σ.2.1 5).symm ▸ ((mFs.rf σ).tr f20).1, ((mFs.rf σ).tr f20).2⟩ hP hS ls (lv_sub hl [7, 8, 9, 10, 6, 5, 4, 3, 2, 1, 0] rfl)
                · exact absurd c22 (by decide)
              · exact absurd c16 (by decide)
          · exact absurd c14 (by decide)
        · refine lv_bipush (v := -11) C.1 C.2.1 dX12_tells_39 (by decide) ?_
          exact mw_iret C hr hlk Z hP hS dX12_tells_41 (⟨by rw [if_neg hgood, esn, if_pos c13], (mFs.rf σ)⟩)
      · have c12 := bI_0.mp c12
        exact absurd (by decide) c12

set_option maxHeartbeats 4000000 in
set_option maxRecDepth 100000 in
theorem cM_tells2 (l : Launch) (E : mw_E) (σ : mw_M) (z : zP) (n : Nat) (hn : σ.1 0 10 = nI n) (h8 : n ≤ 8) (hru : mRu σ z) (hsh : mShs σ.2.1) (ss oo : Int32) : mw_Ci shM 13 gM l yX12_tells cX12_tells 11 (some .int) (rmF 47 1041) E [.ref (mw_a E 0), .int ss, .int oo, .int 2] σ (fun r u => r = (if ¬ (0 ≤ ss.toInt ∧ ss.toInt ≤ 3) ∨ ¬ (0 ≤ oo.toInt ∧ oo.toInt < n) then -2 else if σ.2.1 9 ss.toNatClampNeg = 0 then -11 else tellP3 (fun v => okF z (mSt σ) (upd (mCu σ oo.toNatClampNeg) 1 (nI v)) (fun k => σ.2.1 12 (40 * ss.toNatClampNeg + k)) (σ.2.1 11 ss.toNatClampNeg).toNatClampNeg) 0 10 2) ∧ mFs σ u) := by
  refine mw_of (by decide) gM_ok (Nat.le_of_ble_eq_true rfl) ?_
  intro p_ e_ s_ m_ below meth c_ C hr hlk Z hP ls hl
  have C : CallFix p_ m_ c_ cX12_tells 11 s_ _ lw_good RX12 := C
  have hl : lv_has ls 11 [(0, .ref (mw_a E 0)), (1, .int ss), (2, .int oo), (3, .int 2)] := hl
  have hS : va_S (mw_A 13 E) s_.heap s_.heap [] := va_S.rf
  refine lv_iload_n C.1 C.2.1 dX12_tells_0 rfl (lv_at hl 1 rfl) ?_
  refine mw_cSi (As := [.int ss]) (rest := []) C Z hP hS (cM_isSheet l E σ ss) sb_X12_isSheet tw_6_130 ⟨rfl, rfl⟩ ⟨Nat.le_of_ble_eq_true rfl, Nat.le_of_ble_eq_true rfl⟩ rfl hl.1 rfl (Nat.le_of_ble_eq_true rfl) dX12_tells_1 ⟨Nat.zero_le _, Nat.zero_le _⟩ (fun r1 u2 H locs q3 hP hS => ?_)
  obtain ⟨rfl, q3u⟩ := q3
  rw [q3u] at hP; clear q3u
  refine lv_if_eq (tgt := 27) C.1 C.2.1 dX12_tells_4 (by decide) (fun c4 => ?_) (fun c4 => ?_)
  · have c4 := bI_0.mp c4
    refine lv_bipush (v := -2) C.1 C.2.1 dX12_tells_27 (by decide) ?_
    exact mw_iret C hr hlk Z hP hS dX12_tells_29 (⟨by rw [if_pos (Or.inl c4)], (mFs.rf σ)⟩)
  · have c4 := bI_n.mp c4
    have hrs := c4
    obtain ⟨sn, hsn, esn⟩ := nI_ofI (k := 3) hrs.1 hrs.2
    subst esn
    refine lv_aload_n C.1 C.2.1 dX12_tells_7 rfl (lv_at hl 0 rfl) ?_
    refine lv_iload_n C.1 C.2.1 dX12_tells_8 rfl (lv_at hl 2 rfl) ?_
    refine mw_cVi (As := [.int oo]) (rest := []) C Z hP hS (0) (cM_isOne l E σ oo n hn h8) vb_X12_isOne tw_5_36 ⟨rfl, rfl⟩ ⟨Nat.le_of_ble_eq_true rfl, Nat.le_of_ble_eq_true rfl⟩ (by decide) rfl rfl rfl rfl hl.1 rfl (Nat.le_of_ble_eq_true rfl) dX12_tells_9 ⟨Nat.zero_le _, Nat.zero_le _⟩ (fun r5 u6 H locs q7 hP hS => ?_)
    obtain ⟨rfl, q7u⟩ := q7
    rw [q7u] at hP; clear q7u
    refine lv_if_eq (tgt := 27) C.1 C.2.1 dX12_tells_12 (by decide) (fun c8 => ?_) (fun c8 => ?_)
    · have c8 := bI_0.mp c8
      refine lv_bipush (v := -2) C.1 C.2.1 dX12_tells_27 (by decide) ?_
      exact mw_iret C hr hlk Z hP hS dX12_tells_29 (⟨by rw [if_pos (Or.inr c8)], (mFs.rf σ)⟩)
    · have c8 := bI_n.mp c8
      have hro := c8
      obtain ⟨q, hq, eq⟩ := nI_ofI (k := 7) hro.1 (by omega)
      subst eq
      have hqn : q < n := by have := hro.2; rw [nI_toInt (by omega)] at this; omega
      have hgood : ¬ (¬ (0 ≤ (nI sn).toInt ∧ (nI sn).toInt ≤ 3) ∨ ¬ (0 ≤ (nI q).toInt ∧ (nI q).toInt < n)) := fun y => y.elim (fun y => y hrs) (fun y => y hro)
      have esn : (nI sn).toNatClampNeg = sn := nI_clamp (by omega)
      have eqn : (nI q).toNatClampNeg = q := nI_clamp (by omega)
      refine lv_iload_n C.1 C.2.1 dX12_tells_15 rfl (lv_at hl 3 rfl) ?_
      refine lv_i2l C.1 C.2.1 dX12_tells_16 rfl ?_
      refine lv_lconst (v := 0) C.1 C.2.1 dX12_tells_17 (by decide) ?_
      refine lv_ldc2 (own := RX12) C.1 C.2.1 C.2.2.2.1 (C.2.2.2.2 _ tw_5_32) dX12_tells_18 ?_
      refine mw_cSi (As := [.long ((2 : Int32).toInt64), .long (0), .long (7)]) (rest := []) C Z hP hS (cM_in l E σ ((2 : Int32).toInt64) 0 7 (0 ≤ (2 : Int32).toInt ∧ (2 : Int32).toInt ≤ 7) (by first | (simp only [nl_i]; exact Iff.rfl) | (simp only [nl_i]; decide) | simp [nl_i])) sb_X12_in tw_5_33 ⟨rfl, rfl⟩ ⟨Nat.le_of_ble_eq_true rfl, Nat.le_of_ble_eq_true rfl⟩ rfl hl.1 rfl (Nat.le_of_ble_eq_true rfl) dX12_tells_21 ⟨Nat.zero_le _, Nat.zero_le _⟩ (fun r9 u10 H locs q11 hP hS => ?_)
      obtain ⟨rfl, q11u⟩ := q11
      rw [q11u] at hP; clear q11u
      refine lv_if_ne (tgt := 30) C.1 C.2.1 dX12_tells_24 (by decide) (fun c12 => ?_) (fun c12 => ?_)
      · have c12 := bI_n.mp c12
        refine lv_aload_n C.1 C.2.1 dX12_tells_30 rfl (lv_at hl 0 rfl) ?_
        refine mw_getr C Z hP (0) 30 (9) (by decide) rfl rfl rfl (by decide) inX12 tw_4_194 dX12_tells_31 ?_
        refine lv_iload_n C.1 C.2.1 dX12_tells_34 rfl (lv_at hl 1 rfl) ?_
        refine mw_zald C Z hP (9) (sn) (by decide) rfl (Nat.lt_of_lt_of_le (by decide : 4 < 961) (Nat.le_of_ble_eq_true rfl)) rfl (by omega) dX12_tells_35 ?_
        refine lv_if_ne (tgt := 42) C.1 C.2.1 dX12_tells_36 (by decide) (fun c13 => ?_) (fun c13 => ?_)
        · have hth := c13
          obtain ⟨mm, hmm, hm⟩ := ((hsh sn (by omega)).resolve_left hth).2
          refine lv_iload_n C.1 C.2.1 dX12_tells_42 rfl (lv_at hl 3 rfl) ?_
          refine lv_if_ne (tgt := 53) C.1 C.2.1 dX12_tells_43 (by decide) (fun c14 => ?_) (fun c14 => ?_)
          · refine lv_iload_n C.1 C.2.1 dX12_tells_53 rfl (lv_at hl 3 rfl) ?_
            refine lv_iconst (v := 1) C.1 C.2.1 dX12_tells_54 (by decide) ?_
            refine lv_icmp_ne (tgt := 63) C.1 C.2.1 dX12_tells_55 (by decide) (fun c15 => ?_) (fun c15 => ?_)
            · refine lv_iload_n C.1 C.2.1 dX12_tells_63 rfl (lv_at hl 3 rfl) ?_
              refine lv_iconst (v := 2) C.1 C.2.1 dX12_tells_64 (by decide) ?_
              refine lv_icmp_ne (tgt := 72) C.1 C.2.1 dX12_tells_65 (by decide) (fun c16 => ?_) (fun c16 => ?_)
              · exact absurd c16 (by decide)
              · refine lv_iconst (v := 5) C.1 C.2.1 dX12_tells_68 (by decide) ?_
                refine lv_goto (tgt := 104) C.1 C.2.1 dX12_tells_69 (by decide) ?_
                refine lv_istore (lv' := [(4, .int 5), (0, .ref (mw_a E 0)), (1, .int (nI sn)), (2, .int (nI q)), (3, .int 2)]) C.1 C.2.1 dX12_tells_104 hl (by decide) rfl (fun ls hl => ?_)
                refine lv_iload C.1 C.2.1 dX12_tells_106 (lv_at hl 0 rfl) ?_
                refine lv_bipush (v := 9) C.1 C.2.1 dX12_tells_108 (by decide) ?_
                refine lv_icmp_ne (tgt := 120) C.1 C.2.1 dX12_tells_110 (by decide) (fun c17 => ?_) (fun c17 => ?_)
                · refine lv_aload_n C.1 C.2.1 dX12_tells_120 rfl (lv_at hl 1 rfl) ?_
                  refine lv_iload_n C.1 C.2.1 dX12_tells_121 rfl (lv_at hl 3 rfl) ?_
                  refine lv_iload C.1 C.2.1 dX12_tells_122 (lv_at hl 0 rfl) ?_
                  refine mw_cVi (As := [.int (nI q), .int 5]) (rest := []) C Z hP hS (0) (cM_told l E σ z n ((mFs.rf σ).many hn) h8 ((mFs.rf σ).ru hru) (nI q) 5) vb_X12_told tw_5_46 ⟨rfl, rfl⟩ ⟨Nat.le_of_ble_eq_true rfl, Nat.le_of_ble_eq_true rfl⟩ (by decide) rfl rfl rfl rfl hl.1 rfl (Nat.le_of_ble_eq_true rfl) dX12_tells_124 ⟨Nat.zero_le _, Nat.zero_le _⟩ (fun r18 u19 H locs q20 hP hS => ?_)
                  obtain ⟨e22, f21⟩ := q20
                  rw [(mFs.rf σ).st, show mCu (σ) = mCu σ from funext fun p => (mFs.rf σ).cu p] at e22
                  subst e22
                  have hwas : toldF z (mSt σ) (mCu σ) n (nI q) 5 = mCu σ q 1 := by unfold toldF; rw [if_neg (fun y => y.elim (fun y => y (by decide)) (fun y => y.2 ⟨by rw [nI_toInt (by omega)]; omega, by rw [nI_toInt (by omega)]; omega⟩)), eqn]; rfl
                  refine mw_top (y := mCu σ q 1) hwas ?_
                  refine lv_istore (lv' := [(5, .int (mCu σ q 1)), (4, .int 5), (0, .ref (mw_a E 0)), (1, .int (nI sn)), (2, .int (nI q)), (3, .int 2)]) C.1 C.2.1 dX12_tells_127 hl (by decide) rfl (fun ls hl => ?_)
                  refine lv_iload C.1 C.2.1 dX12_tells_129 (lv_at hl 1 rfl) ?_
                  refine lv_bipush (v := 9) C.1 C.2.1 dX12_tells_131 (by decide) ?_
                  refine lv_icmp_ne (tgt := 145) C.1 C.2.1 dX12_tells_133 (by decide) (fun c23 => ?_) (fun c23 => ?_)
                  · refine lv_iload C.1 C.2.1 dX12_tells_145 (lv_at hl 1 rfl) ?_
                    refine lv_bipush (v := 8) C.1 C.2.1 dX12_tells_147 (by decide) ?_
                    refine lv_icmp_ne (tgt := 156) C.1 C.2.1 dX12_tells_149 (by decide) (fun c24 => ?_) (fun c24 => ?_)
                    · refine lv_iload C.1 C.2.1 dX12_tells_156 (lv_at hl 1 rfl) ?_
                      refine mw_cSi (As := [.int 5]) (rest := []) C Z hP hS (cM_mostOf l E u19 5) sb_X12_mostOf tw_5_43 ⟨rfl, rfl⟩ ⟨Nat.le_of_ble_eq_true rfl, Nat.le_of_ble_eq_true rfl⟩ rfl hl.1 rfl (Nat.le_of_ble_eq_true rfl) dX12_tells_158 ⟨Nat.zero_le _, Nat.zero_le _⟩ (fun r25 u26 H locs q27 hP hS => ?_)
                      obtain ⟨rfl, q27u⟩ := q27
                      rw [q27u] at hP; clear q27u
                      refine mw_top (y := 9) (by decide) ?_
                      refine lv_istore (lv' := [(6, .int 9), (5, .int (mCu σ q 1)), (4, .int 5), (0, .ref (mw_a E 0)), (1, .int (nI sn)), (2, .int (nI q)), (3, .int 2)]) C.1 C.2.1 dX12_tells_161 hl (by decide) rfl (fun ls hl => ?_)
                      refine lv_iconst (v := 0) C.1 C.2.1 dX12_tells_163 (by decide) ?_
                      refine lv_istore (lv' := [(7, .int 0), (6, .int 9), (5, .int (mCu σ q 1)), (4, .int 5), (0, .ref (mw_a E 0)), (1, .int (nI sn)), (2, .int (nI q)), (3, .int 2)]) C.1 C.2.1 dX12_tells_164 hl (by decide) rfl (fun ls hl => ?_)
                      refine lv_iconst (v := 0) C.1 C.2.1 dX12_tells_166 (by decide) ?_
                      refine lv_istore (lv' := [(8, .int 0), (7, .int 0), (6, .int 9), (5, .int (mCu σ q 1)), (4, .int 5), (0, .ref (mw_a E 0)), (1, .int (nI sn)), (2, .int (nI q)), (3, .int 2)]) C.1 C.2.1 dX12_tells_167 hl (by decide) rfl (fun ls hl => ?_)
                      refine lv_iconst (v := -1) C.1 C.2.1 dX12_tells_169 (by decide) ?_
                      refine lv_istore (lv' := [(9, .int (-1)), (8, .int 0), (7, .int 0), (6, .int 9), (5, .int (mCu σ q 1)), (4, .int 5), (0, .ref (mw_a E 0)), (1, .int (nI sn)), (2, .int (nI q)), (3, .int 2)]) C.1 C.2.1 dX12_tells_170 hl (by decide) rfl (fun ls hl => ?_)
                      refine lv_iload C.1 C.2.1 dX12_tells_172 (lv_at hl 3 rfl) ?_
                      refine mw_top (y := nI (10 - 0) - 1) (by decide) ?_
                      refine lv_istore (lv' := [(10, .int (nI (10 - 0) - 1)), (9, .int (-1)), (8, .int 0), (7, .int 0), (6, .int 9), (5, .int (mCu σ q 1)), (4, .int 5), (0, .ref (mw_a E 0)), (1, .int (nI sn)), (2, .int (nI q)), (3, .int 2)]) C.1 C.2.1 dX12_tells_174 hl (by decide) rfl (fun ls hl => ?_)
                      have lpa : ∀ (N : Nat) (m : Nat) (x : Int32) (k : Nat) (y : Int32) (r' : Nat → Int32) (ςa : mw_M) (H : Heap) (locs : List Loc), 11 ≤ m + N → (m ≤ 10) → (x = orS (bitF (fun v => okF z (mSt σ) (upd (mCu σ q) 1 (nI v)) (fun k => σ.2.1 12 (40 * sn + k)) mm)) m (10 - m)) → (k = cnS (fun v => okF z (mSt σ) (upd (mCu σ q) 1 (nI v)) (fun k => σ.2.1 12 (40 * sn + k)) mm) m (10 - m)) → (y = leS (fun v => okF z (mSt σ) (upd (mCu σ q) 1 (nI v)) (fun k => σ.2.1 12 (40 * sn + k)) mm) m (10 - m)) → (∀ v, upd r' (4 * q + 0) v = upd (σ.2.1 6) (4 * q + 0) v) → mAr σ (va_up σ.2.1 6 r') ςa → va_P (mw_D E) vwCl (mw_ws shM 13 E ςa) H → va_S (mw_A 13 E) s_.heap H locs → ∀ (ls : Array Slot), lv_has ls 11 [(0, .ref (mw_a E 0)), (1, .int (nI sn)), (2, .int (nI q)), (3, .int 2), (4, .int 5), (5, .int (mCu σ q 1)), (6, .int 9), (7, .int x), (8, .int (nI k)), (9, .int y), (10, .int (nI (10 - m) - 1))] → mWi p_ l e_ (rmF 47 1041) s_ m_ [.ref (mw_a E 0), .int (nI sn), .int (nI q), .int 2] below meth c_ E (fun r u => r = (if ¬ (0 ≤ (nI sn).toInt ∧ (nI sn).toInt ≤ 3) ∨ ¬ (0 ≤ (nI q).toInt ∧ (nI q).toInt < n) then -2 else if σ.2.1 9 (nI sn).toNatClampNeg = 0 then -11 else tellP3 (fun v => okF z (mSt σ) (upd (mCu σ (nI q).toNatClampNeg) 1 (nI v)) (fun k => σ.2.1 12 (40 * (nI sn).toNatClampNeg + k)) (σ.2.1 11 (nI sn).toNatClampNeg).toNatClampNeg) 0 10 2) ∧ mFs σ u) H locs (F0 m_ 176 ls []) := by
                        intro N
                        induction N with
                        | zero => intros; exfalso; omega
                        | succ N iha =>
                          intro m x k y r' ςa H locs hNa hm5 ex ek ey hs fra hP hS ls hl
                          refine lv_iload C.1 C.2.1 dX12_tells_176 (lv_at hl 10 rfl) ?_
                          refine lv_iload C.1 C.2.1 dX12_tells_178 (lv_at hl 4 rfl) ?_
                          refine mw_cSi (As := [.int 5]) (rest := [.int (nI (10 - m) - 1)]) C Z hP hS (cM_leastOf l E ςa 5) sb_X12_leastOf tw_5_40 ⟨rfl, rfl⟩ ⟨Nat.le_of_ble_eq_true rfl, Nat.le_of_ble_eq_true rfl⟩ rfl hl.1 rfl (Nat.le_of_ble_eq_true rfl) dX12_tells_180 ⟨Nat.zero_le _, Nat.zero_le _⟩ (fun r28 u29 H locs q30 hP hS => ?_)
                          obtain ⟨rfl, q30u⟩ := q30
                          rw [q30u] at hP; clear q30u
                          refine mw_top (y := 0) (by decide) ?_
                          refine lv_icmp_lt (tgt := 238) C.1 C.2.1 dX12_tells_183 (by decide) (fun c31 => ?_) (fun c31 => ?_)
                          · have c31 : m = 10 := by have y := (ni_lt _ _).mp c31; rw [nI_p1 (a := 10 - m) (by omega)] at y; have e : (0 : Int32).toInt = 0 := rfl; omega
                            have hback : va_up σ.2.1 6 (upd (σ.2.1 6) (4 * q + 0) (mCu σ q 1)) = σ.2.1 := by rw [show mCu σ q 1 = σ.2.1 6 (4 * q + 0) from rfl, upd_self]; exact up_self _ _
                            refine lv_aload_n C.1 C.2.1 dX12_tells_238 rfl (lv_at hl 0 rfl) ?_
                            refine lv_iload C.1 C.2.1 dX12_tells_239 (lv_at hl 4 rfl) ?_
                            refine lv_iload_n C.1 C.2.1 dX12_tells_241 rfl (lv_at hl 2 rfl) ?_
                            refine lv_iload C.1 C.2.1 dX12_tells_242 (lv_at hl 5 rfl) ?_
                            refine mw_cVv (As := [.int 5, .int (nI q), .int (mCu σ q 1)]) (rest := []) C Z hP hS (0) (cM_lays5 l E ςa q (by omega) (mCu σ q 1)) vb_X12_lays tw_6_34 ⟨rfl, rfl⟩ ⟨Nat.le_of_ble_eq_true rfl, Nat.le_of_ble_eq_true rfl⟩ (by decide) rfl rfl rfl rfl hl.1 rfl (Nat.le_of_ble_eq_true rfl) dX12_tells_244 ⟨Nat.zero_le _, Nat.zero_le _⟩ (fun u33 H locs q34 hP hS => ?_)
                            rw [q34] at hP; clear q34
                            refine lv_iload_n C.1 C.2.1 dX12_tells_247 rfl (lv_at hl 3 rfl) ?_
                            refine lv_iconst (v := 3) C.1 C.2.1 dX12_tells_248 (by decide) ?_
                            refine lv_icmp_ne (tgt := 257) C.1 C.2.1 dX12_tells_249 (by decide) (fun c35 => ?_) (fun c35 => ?_)
                            · refine lv_iload_n C.1 C.2.1 dX12_tells_257 rfl (lv_at hl 3 rfl) ?_
                              refine lv_iconst (v := 4) C.1 C.2.1 dX12_tells_258 (by decide) ?_
                              refine lv_icmp_ne (tgt := 267) C.1 C.2.1 dX12_tells_259 (by decide) (fun c36 => ?_) (fun c36 => ?_)
                              · refine lv_iload C.1 C.2.1 dX12_tells_267 (lv_at hl 7 rfl) ?_
                                have em : m = 10 := by omega
                                rw [em] at ex ek ey
                                exact mw_iret C hr hlk Z hP hS dX12_tells_269 (⟨by rw [if_neg hgood, esn, if_neg hth, eqn, hm, nI_clamp (n := mm) (by omega)]; unfold tellP3; rw [if_neg (by decide), if_neg (by decide), ex], ⟨((by have y := mAr.sa fra 6 (4 * q + 0) (mCu σ q 1); rw [va_up_self, bx_uu] at y; exact y : mAr σ (va_up σ.2.1 6 (upd r' (4 * q + 0) (mCu σ q 1))) _)).1.trans (by rw [hs]; exact hback), ((by have y := mAr.sa fra 6 (4 * q + 0) (mCu σ q 1); rw [va_up_self, bx_uu] at y; exact y : mAr σ (va_up σ.2.1 6 (upd r' (4 * q + 0) (mCu σ q 1))) _)).2⟩⟩)
                              · exact absurd c36 (by decide)
                            · exact absurd c35 (by decide)
                          · have c31 : m < 10 := by have y := (not_congr (ni_lt _ _)).mp c31; rw [nI_p1 (a := 10 - m) (by omega)] at y; have e : (0 : Int32).toInt = 0 := rfl; omega
                            obtain ⟨v, hv⟩ : ∃ v, v + 1 = 10 - m := ⟨10 - m - 1, by omega⟩
                            have hv1 : v + 1 = 10 - m := hv
                            have hseg : 10 - (m + 1) = v := by omega
                            rw [show nI (10 - m) - 1 = nI v by rw [← hv]; exact nI_pred v] at hl
                            refine lv_aload_n C.1 C.2.1 dX12_tells_186 rfl (lv_at hl 0 rfl) ?_
                            refine lv_iload C.1 C.2.1 dX12_tells_187 (lv_at hl 4 rfl) ?_
                            refine lv_iload_n C.1 C.2.1 dX12_tells_189 rfl (lv_at hl 2 rfl) ?_
                            refine lv_iload C.1 C.2.1 dX12_tells_190 (lv_at hl 10 rfl) ?_
                            refine mw_cVv (As := [.int 5, .int (nI q), .int (nI v)]) (rest := []) C Z hP hS (0) (cM_lays5 l E ςa q (by omega) (nI v)) vb_X12_lays tw_6_34 ⟨rfl, rfl⟩ ⟨Nat.le_of_ble_eq_true rfl, Nat.le_of_ble_eq_true rfl⟩ (by decide) rfl rfl rfl rfl hl.1 rfl (Nat.le_of_ble_eq_true rfl) dX12_tells_192 ⟨Nat.zero_le _, Nat.zero_le _⟩ (fun u38 H locs q39 hP hS => ?_)
                            rw [q39] at hP; clear q39
                            refine lv_aload_n C.1 C.2.1 dX12_tells_195 rfl (lv_at hl 0 rfl) ?_
                            refine lv_iload_n C.1 C.2.1 dX12_tells_196 rfl (lv_at hl 1 rfl) ?_
                            refine lv_iload_n C.1 C.2.1 dX12_tells_197 rfl (lv_at hl 2 rfl) ?_
                            have hX40 : mAr σ (va_up σ.2.1 6 (upd (σ.2.1 6) (4 * q + 0) (nI v))) (mw_sa ςa 6 (4 * q + 0) (nI v)) := by have y := (by have y := mAr.sa fra 6 (4 * q + 0) (nI v); rw [va_up_self, bx_uu] at y; exact y : mAr σ (va_up σ.2.1 6 (upd r' (4 * q + 0) (nI v))) _); rw [hs] at y; exact y
                            have hst : mSt (mw_sa ςa 6 (4 * q + 0) (nI v)) = (mSt σ) := by unfold mSt; rw [hX40.1]; rfl
                            have hcu : mCu (mw_sa ςa 6 (4 * q + 0) (nI v)) q = upd (mCu σ q) 1 (nI v) := mCu_r (j := 0) (by decide) hX40.1
                            refine mw_cVi (As := [.int (nI sn), .int (nI q)]) (rest := []) C Z hP hS (0) (cM_firstOther l E (mw_sa ςa 6 (4 * q + 0) (nI v)) z q (by omega) (hX40.ru rfl rfl hru) sn mm (by omega) (by rw [hX40.1]; exact hm) hmm) vb_X12_firstOther tw_6_134 ⟨rfl, rfl⟩ ⟨Nat.le_of_ble_eq_true rfl, Nat.le_of_ble_eq_true rfl⟩ (by decide) rfl rfl rfl rfl hl.1 rfl (Nat.le_of_ble_eq_true rfl) dX12_tells_198 ⟨Nat.zero_le _, Nat.zero_le _⟩ (fun r41 u42 H locs q43 hP hS => ?_)
                            obtain ⟨e45, f44⟩ := q43
                            rw [hst, hcu, show (mw_sa ςa 6 (4 * q + 0) (nI v)).2.1 12 = σ.2.1 12 by rw [hX40.1]; rfl] at e45
                            subst e45
                            refine lv_iconst (v := -1) C.1 C.2.1 dX12_tells_201 (by decide) ?_
                            refine lv_icmp_ne (tgt := 232) C.1 C.2.1 dX12_tells_202 (by decide) (fun c46 => ?_) (fun c46 => ?_)
                            · refine lv_iinc (v := nI (10 - (m + 1)) - 1) (lv' := [(10, .int (nI (10 - (m + 1)) - 1)), (0, .ref (mw_a E 0)), (1, .int (nI sn)), (2, .int (nI q)), (3, .int 2), (4, .int 5), (5, .int (mCu σ q 1)), (6, .int 9), (7, .int x), (8, .int (nI k)), (9, .int y)]) C.1 C.2.1 dX12_tells_232 hl (k := 10) rfl (by rw [hseg]; exact im1 _) (by decide) rfl (fun ls hl => ?_)
                              refine lv_goto (tgt := 176) C.1 C.2.1 dX12_tells_235 (by decide) ?_
                              exact iha (m + 1) x k y (upd r' (4 * q + 0) (nI v)) u42 _ _ (by omega) (by omega) (by rw [hseg]; show _ = orS _ m (v + 1) ||| bitF _ v; rw [hv1, ← ex]; unfold bitF; rw [if_neg (show ¬ (fun v => okF z (mSt σ) (upd (mCu σ q) 1 (nI v)) (fun k => σ.2.1 12 (40 * sn + k)) mm) v = true from fun y => c46 (of_decide_eq_true y)), Int32.or_zero]) (by rw [hseg]; show _ = cnS _ m (v + 1) + (if _ then _ else _); rw [hv1, ← ek]; rw [if_neg (show ¬ (fun v => okF z (mSt σ) (upd (mCu σ q) 1 (nI v)) (fun k => σ.2.1 12 (40 * sn + k)) mm) v = true from fun y => c46 (of_decide_eq_true y))]; rfl) (by rw [hseg]; show _ = (if _ then _ else leS _ m (v + 1)); rw [hv1, ← ey]; rw [if_neg (show ¬ (fun v => okF z (mSt σ) (upd (mCu σ q) 1 (nI v)) (fun k => σ.2.1 12 (40 * sn + k)) mm) v = true from fun y => c46 (of_decide_eq_true y))]) (fun v2 => by rw [upd_upd]; exact hs v2) (mAr.tr (by have y := mAr.sa fra 6 (4 * q + 0) (nI v); rw [va_up_self, bx_uu] at y; exact y : mAr σ (va_up σ.2.1 6 (upd r' (4 * q + 0) (nI v))) _) f44) hP hS ls (lv_sub hl [1, 2, 3, 4, 5, 6, 7, 8, 9, 10, 0] rfl)
                            · refine lv_iload C.1 C.2.1 dX12_tells_205 (lv_at hl 7 rfl) ?_
                              refine lv_iload C.1 C.2.1 dX12_tells_207 (lv_at hl 10 rfl) ?_
                              refine lv_bipush (v := 10) C.1 C.2.1 dX12_tells_209 (by decide) ?_
                              refine lv_icmp_ge (tgt := 221) C.1 C.2.1 dX12_tells_211 (by decide) (fun c47 => ?_) (fun c47 => ?_)
                              · have c47 : _ := (nI_leI (a := 10) (by decide) (by omega)).mp c47
                                refine lv_iconst (v := 0) C.1 C.2.1 dX12_tells_221 (by decide) ?_
                                refine lv_ior C.1 C.2.1 dX12_tells_222 ?_
                                refine lv_istore (lv' := [(7, .int (x ||| 0)), (0, .ref (mw_a E 0)), (1, .int (nI sn)), (2, .int (nI q)), (3, .int 2), (4, .int 5), (5, .int (mCu σ q 1)), (6, .int 9), (8, .int (nI k)), (9, .int y), (10, .int (nI v))]) C.1 C.2.1 dX12_tells_223 hl (by decide) rfl (fun ls hl => ?_)
                                refine lv_iinc (v := nI (k + 1)) (lv' := [(8, .int (nI (k + 1))), (7, .int (x ||| 0)), (0, .ref (mw_a E 0)), (1, .int (nI sn)), (2, .int (nI q)), (3, .int 2), (4, .int 5), (5, .int (mCu σ q 1)), (6, .int 9), (9, .int y), (10, .int (nI v))]) C.1 C.2.1 dX12_tells_225 hl (k := 8) rfl (nI_1 _) (by decide) rfl (fun ls hl => ?_)
                                refine lv_iload C.1 C.2.1 dX12_tells_228 (lv_at hl 10 rfl) ?_
                                refine lv_istore (lv' := [(9, .int (nI v)), (8, .int (nI (k + 1))), (7, .int (x ||| 0)), (0, .ref (mw_a E 0)), (1, .int (nI sn)), (2, .int (nI q)), (3, .int 2), (4, .int 5), (5, .int (mCu σ q 1)), (6, .int 9), (10, .int (nI v))]) C.1 C.2.1 dX12_tells_230 hl (by decide) rfl (fun ls hl => ?_)
                                refine lv_iinc (v := nI (10 - (m + 1)) - 1) (lv' := [(10, .int (nI (10 - (m + 1)) - 1)), (9, .int (nI v)), (8, .int (nI (k + 1))), (7, .int (x ||| 0)), (0, .ref (mw_a E 0)), (1, .int (nI sn)), (2, .int (nI q)), (3, .int 2), (4, .int 5), (5, .int (mCu σ q 1)), (6, .int 9)]) C.1 C.2.1 dX12_tells_232 hl (k := 10) rfl (by rw [hseg]; exact im1 _) (by decide) rfl (fun ls hl => ?_)
                                refine lv_goto (tgt := 176) C.1 C.2.1 dX12_tells_235 (by decide) ?_
                                exact iha (m + 1) (x ||| 0) (k + 1) (nI v) (upd r' (4 * q + 0) (nI v)) u42 _ _ (by omega) (by omega) (by rw [hseg]; show _ = orS _ m (v + 1) ||| bitF _ v; rw [hv1, ← ex]; unfold bitF; rw [if_pos (show (fun v => okF z (mSt σ) (upd (mCu σ q) 1 (nI v)) (fun k => σ.2.1 12 (40 * sn + k)) mm) v = true from decide_eq_true c46), if_neg (by omega)]) (by rw [hseg]; show _ = cnS _ m (v + 1) + (if _ then _ else _); rw [hv1, ← ek]; rw [if_pos (show (fun v => okF z (mSt σ) (upd (mCu σ q) 1 (nI v)) (fun k => σ.2.1 12 (40 * sn + k)) mm) v = true from decide_eq_true c46)]) (by rw [hseg]; show _ = (if _ then _ else leS _ m (v + 1)); rw [hv1, ← ey]; rw [if_pos (show (fun v => okF z (mSt σ) (upd (mCu σ q) 1 (nI v)) (fun k => σ.2.1 12 (40 * sn + k)) mm) v = true from decide_eq_true c46)]) (fun v2 => by rw [upd_upd]; exact hs v2) (mAr.tr (by have y := mAr.sa fra 6 (4 * q + 0) (nI v); rw [va_up_self, bx_uu] at y; exact y : mAr σ (va_up σ.2.1 6 (upd r' (4 * q + 0) (nI v))) _) f44) hP hS ls (lv_sub hl [4, 5, 6, 7, 8, 9, 10, 3, 2, 1, 0] rfl)
                              · have c47 : _ := (not_congr (nI_leI (a := 10) (by decide) (by omega))).mp c47
                                refine lv_iconst (v := 1) C.1 C.2.1 dX12_tells_214 (by decide) ?_
                                refine lv_iload C.1 C.2.1 dX12_tells_215 (lv_at hl 10 rfl) ?_
                                refine lv_ishl C.1 C.2.1 dX12_tells_217 ?_
                                refine lv_goto (tgt := 222) C.1 C.2.1 dX12_tells_218 (by decide) ?_
                                refine lv_ior C.1 C.2.1 dX12_tells_222 ?_
                                refine lv_istore (lv' := [(7, .int (x ||| (1 <<< ((nI v) &&& 31)))), (0, .ref (mw_a E 0)), (1, .int (nI sn)), (2, .int (nI q)), (3, .int 2), (4, .int 5), (5, .int (mCu σ q 1)), (6, .int 9), (8, .int (nI k)), (9, .int y), (10, .int (nI v))]) C.1 C.2.1 dX12_tells_223 hl (by decide) rfl (fun ls hl => ?_)
                                refine lv_iinc (v := nI (k + 1)) (lv' := [(8, .int (nI (k + 1))), (7, .int (x ||| (1 <<< ((nI v) &&& 31)))), (0, .ref (mw_a E 0)), (1, .int (nI sn)), (2, .int (nI q)), (3, .int 2), (4, .int 5), (5, .int (mCu σ q 1)), (6, .int 9), (9, .int y), (10, .int (nI v))]) C.1 C.2.1 dX12_tells_225 hl (k := 8) rfl (nI_1 _) (by decide) rfl (fun ls hl => ?_)
                                refine lv_iload C.1 C.2.1 dX12_tells_228 (lv_at hl 10 rfl) ?_
                                refine lv_istore (lv' := [(9, .int (nI v)), (8, .int (nI (k + 1))), (7, .int (x ||| (1 <<< ((nI v) &&& 31)))), (0, .ref (mw_a E 0)), (1, .int (nI sn)), (2, .int (nI q)), (3, .int 2), (4, .int 5), (5, .int (mCu σ q 1)), (6, .int 9), (10, .int (nI v))]) C.1 C.2.1 dX12_tells_230 hl (by decide) rfl (fun ls hl => ?_)
                                refine lv_iinc (v := nI (10 - (m + 1)) - 1) (lv' := [(10, .int (nI (10 - (m + 1)) - 1)), (9, .int (nI v)), (8, .int (nI (k + 1))), (7, .int (x ||| (1 <<< ((nI v) &&& 31)))), (0, .ref (mw_a E 0)), (1, .int (nI sn)), (2, .int (nI q)), (3, .int 2), (4, .int 5), (5, .int (mCu σ q 1)), (6, .int 9)]) C.1 C.2.1 dX12_tells_232 hl (k := 10) rfl (by rw [hseg]; exact im1 _) (by decide) rfl (fun ls hl => ?_)
                                refine lv_goto (tgt := 176) C.1 C.2.1 dX12_tells_235 (by decide) ?_
                                exact iha (m + 1) (x ||| (1 <<< ((nI v) &&& 31))) (k + 1) (nI v) (upd r' (4 * q + 0) (nI v)) u42 _ _ (by omega) (by omega) (by rw [hseg]; show _ = orS _ m (v + 1) ||| bitF _ v; rw [hv1, ← ex]; unfold bitF; rw [if_pos (show (fun v => okF z (mSt σ) (upd (mCu σ q) 1 (nI v)) (fun k => σ.2.1 12 (40 * sn + k)) mm) v = true from decide_eq_true c46), if_pos (by omega)]) (by rw [hseg]; show _ = cnS _ m (v + 1) + (if _ then _ else _); rw [hv1, ← ek]; rw [if_pos (show (fun v => okF z (mSt σ) (upd (mCu σ q) 1 (nI v)) (fun k => σ.2.1 12 (40 * sn + k)) mm) v = true from decide_eq_true c46)]) (by rw [hseg]; show _ = (if _ then _ else leS _ m (v + 1)); rw [hv1, ← ey]; rw [if_pos (show (fun v => okF z (mSt σ) (upd (mCu σ q) 1 (nI v)) (fun k => σ.2.1 12 (40 * sn + k)) mm) v = true from decide_eq_true c46)]) (fun v2 => by rw [upd_upd]; exact hs v2) (mAr.tr (by have y := mAr.sa fra 6 (4 * q + 0) (nI v); rw [va_up_self, bx_uu] at y; exact y : mAr σ (va_up σ.2.1 6 (upd r' (4 * q + 0) (nI v))) _) f44) hP hS ls (lv_sub hl [4, 5, 6, 7, 8, 9, 10, 3, 2, 1, 0] rfl)
                      exact lpa (11) 0 0 0 (-1) (σ.2.1 6) u19 _ _ (by omega) (by omega) (rfl) (rfl) (rfl) (fun v => rfl) ⟨(up_self σ.2.1 6).symm ▸ ((mFs.rf σ).tr f21).1, ((mFs.rf σ).tr f21).2⟩ hP hS ls (lv_sub hl [7, 8, 9, 10, 6, 5, 4, 3, 2, 1, 0] rfl)
                    · exact absurd c24 (by decide)
                  · exact absurd c23 (by decide)
                · exact absurd c17 (by decide)
            · exact absurd c15 (by decide)
          · exact absurd c14 (by decide)
        · refine lv_bipush (v := -11) C.1 C.2.1 dX12_tells_39 (by decide) ?_
          exact mw_iret C hr hlk Z hP hS dX12_tells_41 (⟨by rw [if_neg hgood, esn, if_pos c13], (mFs.rf σ)⟩)
      · have c12 := bI_0.mp c12
        exact absurd (by decide) c12

set_option maxHeartbeats 4000000 in
set_option maxRecDepth 100000 in
theorem cM_tells3 (l : Launch) (E : mw_E) (σ : mw_M) (z : zP) (n : Nat) (hn : σ.1 0 10 = nI n) (h8 : n ≤ 8) (hru : mRu σ z) (hsh : mShs σ.2.1) (ss oo : Int32) : mw_Ci shM 13 gM l yX12_tells cX12_tells 11 (some .int) (rmF 47 1041) E [.ref (mw_a E 0), .int ss, .int oo, .int 3] σ (fun r u => r = (if ¬ (0 ≤ ss.toInt ∧ ss.toInt ≤ 3) ∨ ¬ (0 ≤ oo.toInt ∧ oo.toInt < n) then -2 else if σ.2.1 9 ss.toNatClampNeg = 0 then -11 else tellP3 (fun v => okF z (mSt σ) (upd (mCu σ oo.toNatClampNeg) 3 (nI v)) (fun k => σ.2.1 12 (40 * ss.toNatClampNeg + k)) (σ.2.1 11 ss.toNatClampNeg).toNatClampNeg) 0 100 3) ∧ mFs σ u) := by
  refine mw_of (by decide) gM_ok (Nat.le_of_ble_eq_true rfl) ?_
  intro p_ e_ s_ m_ below meth c_ C hr hlk Z hP ls hl
  have C : CallFix p_ m_ c_ cX12_tells 11 s_ _ lw_good RX12 := C
  have hl : lv_has ls 11 [(0, .ref (mw_a E 0)), (1, .int ss), (2, .int oo), (3, .int 3)] := hl
  have hS : va_S (mw_A 13 E) s_.heap s_.heap [] := va_S.rf
  refine lv_iload_n C.1 C.2.1 dX12_tells_0 rfl (lv_at hl 1 rfl) ?_
  refine mw_cSi (As := [.int ss]) (rest := []) C Z hP hS (cM_isSheet l E σ ss) sb_X12_isSheet tw_6_130 ⟨rfl, rfl⟩ ⟨Nat.le_of_ble_eq_true rfl, Nat.le_of_ble_eq_true rfl⟩ rfl hl.1 rfl (Nat.le_of_ble_eq_true rfl) dX12_tells_1 ⟨Nat.zero_le _, Nat.zero_le _⟩ (fun r1 u2 H locs q3 hP hS => ?_)
  obtain ⟨rfl, q3u⟩ := q3
  rw [q3u] at hP; clear q3u
  refine lv_if_eq (tgt := 27) C.1 C.2.1 dX12_tells_4 (by decide) (fun c4 => ?_) (fun c4 => ?_)
  · have c4 := bI_0.mp c4
    refine lv_bipush (v := -2) C.1 C.2.1 dX12_tells_27 (by decide) ?_
    exact mw_iret C hr hlk Z hP hS dX12_tells_29 (⟨by rw [if_pos (Or.inl c4)], (mFs.rf σ)⟩)
  · have c4 := bI_n.mp c4
    have hrs := c4
    obtain ⟨sn, hsn, esn⟩ := nI_ofI (k := 3) hrs.1 hrs.2
    subst esn
    refine lv_aload_n C.1 C.2.1 dX12_tells_7 rfl (lv_at hl 0 rfl) ?_
    refine lv_iload_n C.1 C.2.1 dX12_tells_8 rfl (lv_at hl 2 rfl) ?_
    refine mw_cVi (As := [.int oo]) (rest := []) C Z hP hS (0) (cM_isOne l E σ oo n hn h8) vb_X12_isOne tw_5_36 ⟨rfl, rfl⟩ ⟨Nat.le_of_ble_eq_true rfl, Nat.le_of_ble_eq_true rfl⟩ (by decide) rfl rfl rfl rfl hl.1 rfl (Nat.le_of_ble_eq_true rfl) dX12_tells_9 ⟨Nat.zero_le _, Nat.zero_le _⟩ (fun r5 u6 H locs q7 hP hS => ?_)
    obtain ⟨rfl, q7u⟩ := q7
    rw [q7u] at hP; clear q7u
    refine lv_if_eq (tgt := 27) C.1 C.2.1 dX12_tells_12 (by decide) (fun c8 => ?_) (fun c8 => ?_)
    · have c8 := bI_0.mp c8
      refine lv_bipush (v := -2) C.1 C.2.1 dX12_tells_27 (by decide) ?_
      exact mw_iret C hr hlk Z hP hS dX12_tells_29 (⟨by rw [if_pos (Or.inr c8)], (mFs.rf σ)⟩)
    · have c8 := bI_n.mp c8
      have hro := c8
      obtain ⟨q, hq, eq⟩ := nI_ofI (k := 7) hro.1 (by omega)
      subst eq
      have hqn : q < n := by have := hro.2; rw [nI_toInt (by omega)] at this; omega
      have hgood : ¬ (¬ (0 ≤ (nI sn).toInt ∧ (nI sn).toInt ≤ 3) ∨ ¬ (0 ≤ (nI q).toInt ∧ (nI q).toInt < n)) := fun y => y.elim (fun y => y hrs) (fun y => y hro)
      have esn : (nI sn).toNatClampNeg = sn := nI_clamp (by omega)
      have eqn : (nI q).toNatClampNeg = q := nI_clamp (by omega)
      refine lv_iload_n C.1 C.2.1 dX12_tells_15 rfl (lv_at hl 3 rfl) ?_
      refine lv_i2l C.1 C.2.1 dX12_tells_16 rfl ?_
      refine lv_lconst (v := 0) C.1 C.2.1 dX12_tells_17 (by decide) ?_
      refine lv_ldc2 (own := RX12) C.1 C.2.1 C.2.2.2.1 (C.2.2.2.2 _ tw_5_32) dX12_tells_18 ?_
      refine mw_cSi (As := [.long ((3 : Int32).toInt64), .long (0), .long (7)]) (rest := []) C Z hP hS (cM_in l E σ ((3 : Int32).toInt64) 0 7 (0 ≤ (3 : Int32).toInt ∧ (3 : Int32).toInt ≤ 7) (by first | (simp only [nl_i]; exact Iff.rfl) | (simp only [nl_i]; decide) | simp [nl_i])) sb_X12_in tw_5_33 ⟨rfl, rfl⟩ ⟨Nat.le_of_ble_eq_true rfl, Nat.le_of_ble_eq_true rfl⟩ rfl hl.1 rfl (Nat.le_of_ble_eq_true rfl) dX12_tells_21 ⟨Nat.zero_le _, Nat.zero_le _⟩ (fun r9 u10 H locs q11 hP hS => ?_)
      obtain ⟨rfl, q11u⟩ := q11
      rw [q11u] at hP; clear q11u
      refine lv_if_ne (tgt := 30) C.1 C.2.1 dX12_tells_24 (by decide) (fun c12 => ?_) (fun c12 => ?_)
      · have c12 := bI_n.mp c12
        refine lv_aload_n C.1 C.2.1 dX12_tells_30 rfl (lv_at hl 0 rfl) ?_
        refine mw_getr C Z hP (0) 30 (9) (by decide) rfl rfl rfl (by decide) inX12 tw_4_194 dX12_tells_31 ?_
        refine lv_iload_n C.1 C.2.1 dX12_tells_34 rfl (lv_at hl 1 rfl) ?_
        refine mw_zald C Z hP (9) (sn) (by decide) rfl (Nat.lt_of_lt_of_le (by decide : 4 < 961) (Nat.le_of_ble_eq_true rfl)) rfl (by omega) dX12_tells_35 ?_
        refine lv_if_ne (tgt := 42) C.1 C.2.1 dX12_tells_36 (by decide) (fun c13 => ?_) (fun c13 => ?_)
        · have hth := c13
          obtain ⟨mm, hmm, hm⟩ := ((hsh sn (by omega)).resolve_left hth).2
          refine lv_iload_n C.1 C.2.1 dX12_tells_42 rfl (lv_at hl 3 rfl) ?_
          refine lv_if_ne (tgt := 53) C.1 C.2.1 dX12_tells_43 (by decide) (fun c14 => ?_) (fun c14 => ?_)
          · refine lv_iload_n C.1 C.2.1 dX12_tells_53 rfl (lv_at hl 3 rfl) ?_
            refine lv_iconst (v := 1) C.1 C.2.1 dX12_tells_54 (by decide) ?_
            refine lv_icmp_ne (tgt := 63) C.1 C.2.1 dX12_tells_55 (by decide) (fun c15 => ?_) (fun c15 => ?_)
            · refine lv_iload_n C.1 C.2.1 dX12_tells_63 rfl (lv_at hl 3 rfl) ?_
              refine lv_iconst (v := 2) C.1 C.2.1 dX12_tells_64 (by decide) ?_
              refine lv_icmp_ne (tgt := 72) C.1 C.2.1 dX12_tells_65 (by decide) (fun c16 => ?_) (fun c16 => ?_)
              · refine lv_iload_n C.1 C.2.1 dX12_tells_72 rfl (lv_at hl 3 rfl) ?_
                refine lv_iconst (v := 5) C.1 C.2.1 dX12_tells_73 (by decide) ?_
                refine lv_icmp_ge (tgt := 82) C.1 C.2.1 dX12_tells_74 (by decide) (fun c17 => ?_) (fun c17 => ?_)
                · exact absurd c17 (by decide)
                · refine lv_bipush (v := 7) C.1 C.2.1 dX12_tells_77 (by decide) ?_
                  refine lv_goto (tgt := 104) C.1 C.2.1 dX12_tells_79 (by decide) ?_
                  refine lv_istore (lv' := [(4, .int 7), (0, .ref (mw_a E 0)), (1, .int (nI sn)), (2, .int (nI q)), (3, .int 3)]) C.1 C.2.1 dX12_tells_104 hl (by decide) rfl (fun ls hl => ?_)
                  refine lv_iload C.1 C.2.1 dX12_tells_106 (lv_at hl 0 rfl) ?_
                  refine lv_bipush (v := 9) C.1 C.2.1 dX12_tells_108 (by decide) ?_
                  refine lv_icmp_ne (tgt := 120) C.1 C.2.1 dX12_tells_110 (by decide) (fun c18 => ?_) (fun c18 => ?_)
                  · refine lv_aload_n C.1 C.2.1 dX12_tells_120 rfl (lv_at hl 1 rfl) ?_
                    refine lv_iload_n C.1 C.2.1 dX12_tells_121 rfl (lv_at hl 3 rfl) ?_
                    refine lv_iload C.1 C.2.1 dX12_tells_122 (lv_at hl 0 rfl) ?_
                    refine mw_cVi (As := [.int (nI q), .int 7]) (rest := []) C Z hP hS (0) (cM_told l E σ z n ((mFs.rf σ).many hn) h8 ((mFs.rf σ).ru hru) (nI q) 7) vb_X12_told tw_5_46 ⟨rfl, rfl⟩ ⟨Nat.le_of_ble_eq_true rfl, Nat.le_of_ble_eq_true rfl⟩ (by decide) rfl rfl rfl rfl hl.1 rfl (Nat.le_of_ble_eq_true rfl) dX12_tells_124 ⟨Nat.zero_le _, Nat.zero_le _⟩ (fun r19 u20 H locs q21 hP hS => ?_)
                    obtain ⟨e23, f22⟩ := q21
                    rw [(mFs.rf σ).st, show mCu (σ) = mCu σ from funext fun p => (mFs.rf σ).cu p] at e23
                    subst e23
                    have hwas : toldF z (mSt σ) (mCu σ) n (nI q) 7 = mCu σ q 3 := by unfold toldF; rw [if_neg (fun y => y.elim (fun y => y (by decide)) (fun y => y.2 ⟨by rw [nI_toInt (by omega)]; omega, by rw [nI_toInt (by omega)]; omega⟩)), eqn]; rfl
                    refine mw_top (y := mCu σ q 3) hwas ?_
                    refine lv_istore (lv' := [(5, .int (mCu σ q 3)), (4, .int 7), (0, .ref (mw_a E 0)), (1, .int (nI sn)), (2, .int (nI q)), (3, .int 3)]) C.1 C.2.1 dX12_tells_127 hl (by decide) rfl (fun ls hl => ?_)
                    refine lv_iload C.1 C.2.1 dX12_tells_129 (lv_at hl 1 rfl) ?_
                    refine lv_bipush (v := 9) C.1 C.2.1 dX12_tells_131 (by decide) ?_
                    refine lv_icmp_ne (tgt := 145) C.1 C.2.1 dX12_tells_133 (by decide) (fun c24 => ?_) (fun c24 => ?_)
                    · refine lv_iload C.1 C.2.1 dX12_tells_145 (lv_at hl 1 rfl) ?_
                      refine lv_bipush (v := 8) C.1 C.2.1 dX12_tells_147 (by decide) ?_
                      refine lv_icmp_ne (tgt := 156) C.1 C.2.1 dX12_tells_149 (by decide) (fun c25 => ?_) (fun c25 => ?_)
                      · refine lv_iload C.1 C.2.1 dX12_tells_156 (lv_at hl 1 rfl) ?_
                        refine mw_cSi (As := [.int 7]) (rest := []) C Z hP hS (cM_mostOf l E u20 7) sb_X12_mostOf tw_5_43 ⟨rfl, rfl⟩ ⟨Nat.le_of_ble_eq_true rfl, Nat.le_of_ble_eq_true rfl⟩ rfl hl.1 rfl (Nat.le_of_ble_eq_true rfl) dX12_tells_158 ⟨Nat.zero_le _, Nat.zero_le _⟩ (fun r26 u27 H locs q28 hP hS => ?_)
                        obtain ⟨rfl, q28u⟩ := q28
                        rw [q28u] at hP; clear q28u
                        refine mw_top (y := 99) (by decide) ?_
                        refine lv_istore (lv' := [(6, .int 99), (5, .int (mCu σ q 3)), (4, .int 7), (0, .ref (mw_a E 0)), (1, .int (nI sn)), (2, .int (nI q)), (3, .int 3)]) C.1 C.2.1 dX12_tells_161 hl (by decide) rfl (fun ls hl => ?_)
                        refine lv_iconst (v := 0) C.1 C.2.1 dX12_tells_163 (by decide) ?_
                        refine lv_istore (lv' := [(7, .int 0), (6, .int 99), (5, .int (mCu σ q 3)), (4, .int 7), (0, .ref (mw_a E 0)), (1, .int (nI sn)), (2, .int (nI q)), (3, .int 3)]) C.1 C.2.1 dX12_tells_164 hl (by decide) rfl (fun ls hl => ?_)
                        refine lv_iconst (v := 0) C.1 C.2.1 dX12_tells_166 (by decide) ?_
                        refine lv_istore (lv' := [(8, .int 0), (7, .int 0), (6, .int 99), (5, .int (mCu σ q 3)), (4, .int 7), (0, .ref (mw_a E 0)), (1, .int (nI sn)), (2, .int (nI q)), (3, .int 3)]) C.1 C.2.1 dX12_tells_167 hl (by decide) rfl (fun ls hl => ?_)
                        refine lv_iconst (v := -1) C.1 C.2.1 dX12_tells_169 (by decide) ?_
                        refine lv_istore (lv' := [(9, .int (-1)), (8, .int 0), (7, .int 0), (6, .int 99), (5, .int (mCu σ q 3)), (4, .int 7), (0, .ref (mw_a E 0)), (1, .int (nI sn)), (2, .int (nI q)), (3, .int 3)]) C.1 C.2.1 dX12_tells_170 hl (by decide) rfl (fun ls hl => ?_)
                        refine lv_iload C.1 C.2.1 dX12_tells_172 (lv_at hl 3 rfl) ?_
                        refine mw_top (y := nI (100 - 0) - 1) (by decide) ?_
                        refine lv_istore (lv' := [(10, .int (nI (100 - 0) - 1)), (9, .int (-1)), (8, .int 0), (7, .int 0), (6, .int 99), (5, .int (mCu σ q 3)), (4, .int 7), (0, .ref (mw_a E 0)), (1, .int (nI sn)), (2, .int (nI q)), (3, .int 3)]) C.1 C.2.1 dX12_tells_174 hl (by decide) rfl (fun ls hl => ?_)
                        have lpa : ∀ (N : Nat) (m : Nat) (x : Int32) (k : Nat) (y : Int32) (r' : Nat → Int32) (ςa : mw_M) (H : Heap) (locs : List Loc), 101 ≤ m + N → (m ≤ 100) → (x = orS (bitF (fun v => okF z (mSt σ) (upd (mCu σ q) 3 (nI v)) (fun k => σ.2.1 12 (40 * sn + k)) mm)) m (100 - m)) → (k = cnS (fun v => okF z (mSt σ) (upd (mCu σ q) 3 (nI v)) (fun k => σ.2.1 12 (40 * sn + k)) mm) m (100 - m)) → (y = leS (fun v => okF z (mSt σ) (upd (mCu σ q) 3 (nI v)) (fun k => σ.2.1 12 (40 * sn + k)) mm) m (100 - m)) → (∀ v, upd r' (4 * q + 2) v = upd (σ.2.1 6) (4 * q + 2) v) → mAr σ (va_up σ.2.1 6 r') ςa → va_P (mw_D E) vwCl (mw_ws shM 13 E ςa) H → va_S (mw_A 13 E) s_.heap H locs → ∀ (ls : Array Slot), lv_has ls 11 [(0, .ref (mw_a E 0)), (1, .int (nI sn)), (2, .int (nI q)), (3, .int 3), (4, .int 7), (5, .int (mCu σ q 3)), (6, .int 99), (7, .int x), (8, .int (nI k)), (9, .int y), (10, .int (nI (100 - m) - 1))] → mWi p_ l e_ (rmF 47 1041) s_ m_ [.ref (mw_a E 0), .int (nI sn), .int (nI q), .int 3] below meth c_ E (fun r u => r = (if ¬ (0 ≤ (nI sn).toInt ∧ (nI sn).toInt ≤ 3) ∨ ¬ (0 ≤ (nI q).toInt ∧ (nI q).toInt < n) then -2 else if σ.2.1 9 (nI sn).toNatClampNeg = 0 then -11 else tellP3 (fun v => okF z (mSt σ) (upd (mCu σ (nI q).toNatClampNeg) 3 (nI v)) (fun k => σ.2.1 12 (40 * (nI sn).toNatClampNeg + k)) (σ.2.1 11 (nI sn).toNatClampNeg).toNatClampNeg) 0 100 3) ∧ mFs σ u) H locs (F0 m_ 176 ls []) := by
                          intro N
                          induction N with
                          | zero => intros; exfalso; omega
                          | succ N iha =>
                            intro m x k y r' ςa H locs hNa hm5 ex ek ey hs fra hP hS ls hl
                            refine lv_iload C.1 C.2.1 dX12_tells_176 (lv_at hl 10 rfl) ?_
                            refine lv_iload C.1 C.2.1 dX12_tells_178 (lv_at hl 4 rfl) ?_
                            refine mw_cSi (As := [.int 7]) (rest := [.int (nI (100 - m) - 1)]) C Z hP hS (cM_leastOf l E ςa 7) sb_X12_leastOf tw_5_40 ⟨rfl, rfl⟩ ⟨Nat.le_of_ble_eq_true rfl, Nat.le_of_ble_eq_true rfl⟩ rfl hl.1 rfl (Nat.le_of_ble_eq_true rfl) dX12_tells_180 ⟨Nat.zero_le _, Nat.zero_le _⟩ (fun r29 u30 H locs q31 hP hS => ?_)
                            obtain ⟨rfl, q31u⟩ := q31
                            rw [q31u] at hP; clear q31u
                            refine mw_top (y := 0) (by decide) ?_
                            refine lv_icmp_lt (tgt := 238) C.1 C.2.1 dX12_tells_183 (by decide) (fun c32 => ?_) (fun c32 => ?_)
                            · have c32 : m = 100 := by have y := (ni_lt _ _).mp c32; rw [nI_p1 (a := 100 - m) (by omega)] at y; have e : (0 : Int32).toInt = 0 := rfl; omega
                              have hback : va_up σ.2.1 6 (upd (σ.2.1 6) (4 * q + 2) (mCu σ q 3)) = σ.2.1 := by rw [show mCu σ q 3 = σ.2.1 6 (4 * q + 2) from rfl, upd_self]; exact up_self _ _
                              refine lv_aload_n C.1 C.2.1 dX12_tells_238 rfl (lv_at hl 0 rfl) ?_
                              refine lv_iload C.1 C.2.1 dX12_tells_239 (lv_at hl 4 rfl) ?_
                              refine lv_iload_n C.1 C.2.1 dX12_tells_241 rfl (lv_at hl 2 rfl) ?_
                              refine lv_iload C.1 C.2.1 dX12_tells_242 (lv_at hl 5 rfl) ?_
                              refine mw_cVv (As := [.int 7, .int (nI q), .int (mCu σ q 3)]) (rest := []) C Z hP hS (0) (cM_lays7 l E ςa q (by omega) (mCu σ q 3)) vb_X12_lays tw_6_34 ⟨rfl, rfl⟩ ⟨Nat.le_of_ble_eq_true rfl, Nat.le_of_ble_eq_true rfl⟩ (by decide) rfl rfl rfl rfl hl.1 rfl (Nat.le_of_ble_eq_true rfl) dX12_tells_244 ⟨Nat.zero_le _, Nat.zero_le _⟩ (fun u34 H locs q35 hP hS => ?_)
                              rw [q35] at hP; clear q35
                              refine lv_iload_n C.1 C.2.1 dX12_tells_247 rfl (lv_at hl 3 rfl) ?_
                              refine lv_iconst (v := 3) C.1 C.2.1 dX12_tells_248 (by decide) ?_
                              refine lv_icmp_ne (tgt := 257) C.1 C.2.1 dX12_tells_249 (by decide) (fun c36 => ?_) (fun c36 => ?_)
                              · exact absurd c36 (by decide)
                              · refine lv_iload C.1 C.2.1 dX12_tells_252 (lv_at hl 8 rfl) ?_
                                refine lv_goto (tgt := 269) C.1 C.2.1 dX12_tells_254 (by decide) ?_
                                have em : m = 100 := by omega
                                rw [em] at ex ek ey
                                exact mw_iret C hr hlk Z hP hS dX12_tells_269 (⟨by rw [if_neg hgood, esn, if_neg hth, eqn, hm, nI_clamp (n := mm) (by omega)]; unfold tellP3; rw [if_pos rfl, ek], ⟨((by have y := mAr.sa fra 6 (4 * q + 2) (mCu σ q 3); rw [va_up_self, bx_uu] at y; exact y : mAr σ (va_up σ.2.1 6 (upd r' (4 * q + 2) (mCu σ q 3))) _)).1.trans (by rw [hs]; exact hback), ((by have y := mAr.sa fra 6 (4 * q + 2) (mCu σ q 3); rw [va_up_self, bx_uu] at y; exact y : mAr σ (va_up σ.2.1 6 (upd r' (4 * q + 2) (mCu σ q 3))) _)).2⟩⟩)
                            · have c32 : m < 100 := by have y := (not_congr (ni_lt _ _)).mp c32; rw [nI_p1 (a := 100 - m) (by omega)] at y; have e : (0 : Int32).toInt = 0 := rfl; omega
                              obtain ⟨v, hv⟩ : ∃ v, v + 1 = 100 - m := ⟨100 - m - 1, by omega⟩
                              have hv1 : v + 1 = 100 - m := hv
                              have hseg : 100 - (m + 1) = v := by omega
                              rw [show nI (100 - m) - 1 = nI v by rw [← hv]; exact nI_pred v] at hl
                              refine lv_aload_n C.1 C.2.1 dX12_tells_186 rfl (lv_at hl 0 rfl) ?_
                              refine lv_iload C.1 C.2.1 dX12_tells_187 (lv_at hl 4 rfl) ?_
                              refine lv_iload_n C.1 C.2.1 dX12_tells_189 rfl (lv_at hl 2 rfl) ?_
                              refine lv_iload C.1 C.2.1 dX12_tells_190 (lv_at hl 10 rfl) ?_
                              refine mw_cVv (As := [.int 7, .int (nI q), .int (nI v)]) (rest := []) C Z hP hS (0) (cM_lays7 l E ςa q (by omega) (nI v)) vb_X12_lays tw_6_34 ⟨rfl, rfl⟩ ⟨Nat.le_of_ble_eq_true rfl, Nat.le_of_ble_eq_true rfl⟩ (by decide) rfl rfl rfl rfl hl.1 rfl (Nat.le_of_ble_eq_true rfl) dX12_tells_192 ⟨Nat.zero_le _, Nat.zero_le _⟩ (fun u38 H locs q39 hP hS => ?_)
                              rw [q39] at hP; clear q39
                              refine lv_aload_n C.1 C.2.1 dX12_tells_195 rfl (lv_at hl 0 rfl) ?_
                              refine lv_iload_n C.1 C.2.1 dX12_tells_196 rfl (lv_at hl 1 rfl) ?_
                              refine lv_iload_n C.1 C.2.1 dX12_tells_197 rfl (lv_at hl 2 rfl) ?_
                              have hX40 : mAr σ (va_up σ.2.1 6 (upd (σ.2.1 6) (4 * q + 2) (nI v))) (mw_sa ςa 6 (4 * q + 2) (nI v)) := by have y := (by have y := mAr.sa fra 6 (4 * q + 2) (nI v); rw [va_up_self, bx_uu] at y; exact y : mAr σ (va_up σ.2.1 6 (upd r' (4 * q + 2) (nI v))) _); rw [hs] at y; exact y
                              have hst : mSt (mw_sa ςa 6 (4 * q + 2) (nI v)) = (mSt σ) := by unfold mSt; rw [hX40.1]; rfl
                              have hcu : mCu (mw_sa ςa 6 (4 * q + 2) (nI v)) q = upd (mCu σ q) 3 (nI v) := mCu_r (j := 2) (by decide) hX40.1
                              refine mw_cVi (As := [.int (nI sn), .int (nI q)]) (rest := []) C Z hP hS (0) (cM_firstOther l E (mw_sa ςa 6 (4 * q + 2) (nI v)) z q (by omega) (hX40.ru rfl rfl hru) sn mm (by omega) (by rw [hX40.1]; exact hm) hmm) vb_X12_firstOther tw_6_134 ⟨rfl, rfl⟩ ⟨Nat.le_of_ble_eq_true rfl, Nat.le_of_ble_eq_true rfl⟩ (by decide) rfl rfl rfl rfl hl.1 rfl (Nat.le_of_ble_eq_true rfl) dX12_tells_198 ⟨Nat.zero_le _, Nat.zero_le _⟩ (fun r41 u42 H locs q43 hP hS => ?_)
                              obtain ⟨e45, f44⟩ := q43
                              rw [hst, hcu, show (mw_sa ςa 6 (4 * q + 2) (nI v)).2.1 12 = σ.2.1 12 by rw [hX40.1]; rfl] at e45
                              subst e45
                              refine lv_iconst (v := -1) C.1 C.2.1 dX12_tells_201 (by decide) ?_
                              refine lv_icmp_ne (tgt := 232) C.1 C.2.1 dX12_tells_202 (by decide) (fun c46 => ?_) (fun c46 => ?_)
                              · refine lv_iinc (v := nI (100 - (m + 1)) - 1) (lv' := [(10, .int (nI (100 - (m + 1)) - 1)), (0, .ref (mw_a E 0)), (1, .int (nI sn)), (2, .int (nI q)), (3, .int 3), (4, .int 7), (5, .int (mCu σ q 3)), (6, .int 99), (7, .int x), (8, .int (nI k)), (9, .int y)]) C.1 C.2.1 dX12_tells_232 hl (k := 10) rfl (by rw [hseg]; exact im1 _) (by decide) rfl (fun ls hl => ?_)
                                refine lv_goto (tgt := 176) C.1 C.2.1 dX12_tells_235 (by decide) ?_
                                exact iha (m + 1) x k y (upd r' (4 * q + 2) (nI v)) u42 _ _ (by omega) (by omega) (by rw [hseg]; show _ = orS _ m (v + 1) ||| bitF _ v; rw [hv1, ← ex]; unfold bitF; rw [if_neg (show ¬ (fun v => okF z (mSt σ) (upd (mCu σ q) 3 (nI v)) (fun k => σ.2.1 12 (40 * sn + k)) mm) v = true from fun y => c46 (of_decide_eq_true y)), Int32.or_zero]) (by rw [hseg]; show _ = cnS _ m (v + 1) + (if _ then _ else _); rw [hv1, ← ek]; rw [if_neg (show ¬ (fun v => okF z (mSt σ) (upd (mCu σ q) 3 (nI v)) (fun k => σ.2.1 12 (40 * sn + k)) mm) v = true from fun y => c46 (of_decide_eq_true y))]; rfl) (by rw [hseg]; show _ = (if _ then _ else leS _ m (v + 1)); rw [hv1, ← ey]; rw [if_neg (show ¬ (fun v => okF z (mSt σ) (upd (mCu σ q) 3 (nI v)) (fun k => σ.2.1 12 (40 * sn + k)) mm) v = true from fun y => c46 (of_decide_eq_true y))]) (fun v2 => by rw [upd_upd]; exact hs v2) (mAr.tr (by have y := mAr.sa fra 6 (4 * q + 2) (nI v); rw [va_up_self, bx_uu] at y; exact y : mAr σ (va_up σ.2.1 6 (upd r' (4 * q + 2) (nI v))) _) f44) hP hS ls (lv_sub hl [1, 2, 3, 4, 5, 6, 7, 8, 9, 10, 0] rfl)
                              · refine lv_iload C.1 C.2.1 dX12_tells_205 (lv_at hl 7 rfl) ?_
                                refine lv_iload C.1 C.2.1 dX12_tells_207 (lv_at hl 10 rfl) ?_
                                refine lv_bipush (v := 10) C.1 C.2.1 dX12_tells_209 (by decide) ?_
                                refine lv_icmp_ge (tgt := 221) C.1 C.2.1 dX12_tells_211 (by decide) (fun c47 => ?_) (fun c47 => ?_)
                                · have c47 : _ := (nI_leI (a := 10) (by decide) (by omega)).mp c47
                                  refine lv_iconst (v := 0) C.1 C.2.1 dX12_tells_221 (by decide) ?_
                                  refine lv_ior C.1 C.2.1 dX12_tells_222 ?_
                                  refine lv_istore (lv' := [(7, .int (x ||| 0)), (0, .ref (mw_a E 0)), (1, .int (nI sn)), (2, .int (nI q)), (3, .int 3), (4, .int 7), (5, .int (mCu σ q 3)), (6, .int 99), (8, .int (nI k)), (9, .int y), (10, .int (nI v))]) C.1 C.2.1 dX12_tells_223 hl (by decide) rfl (fun ls hl => ?_)
                                  refine lv_iinc (v := nI (k + 1)) (lv' := [(8, .int (nI (k + 1))), (7, .int (x ||| 0)), (0, .ref (mw_a E 0)), (1, .int (nI sn)), (2, .int (nI q)), (3, .int 3), (4, .int 7), (5, .int (mCu σ q 3)), (6, .int 99), (9, .int y), (10, .int (nI v))]) C.1 C.2.1 dX12_tells_225 hl (k := 8) rfl (nI_1 _) (by decide) rfl (fun ls hl => ?_)
                                  refine lv_iload C.1 C.2.1 dX12_tells_228 (lv_at hl 10 rfl) ?_
                                  refine lv_istore (lv' := [(9, .int (nI v)), (8, .int (nI (k + 1))), (7, .int (x ||| 0)), (0, .ref (mw_a E 0)), (1, .int (nI sn)), (2, .int (nI q)), (3, .int 3), (4, .int 7), (5, .int (mCu σ q 3)), (6, .int 99), (10, .int (nI v))]) C.1 C.2.1 dX12_tells_230 hl (by decide) rfl (fun ls hl => ?_)
                                  refine lv_iinc (v := nI (100 - (m + 1)) - 1) (lv' := [(10, .int (nI (100 - (m + 1)) - 1)), (9, .int (nI v)), (8, .int (nI (k + 1))), (7, .int (x ||| 0)), (0, .ref (mw_a E 0)), (1, .int (nI sn)), (2, .int (nI q)), (3, .int 3), (4, .int 7), (5, .int (mCu σ q 3)), (6, .int 99)]) C.1 C.2.1 dX12_tells_232 hl (k := 10) rfl (by rw [hseg]; exact im1 _) (by decide) rfl (fun ls hl => ?_)
                                  refine lv_goto (tgt := 176) C.1 C.2.1 dX12_tells_235 (by decide) ?_
                                  exact iha (m + 1) (x ||| 0) (k + 1) (nI v) (upd r' (4 * q + 2) (nI v)) u42 _ _ (by omega) (by omega) (by rw [hseg]; show _ = orS _ m (v + 1) ||| bitF _ v; rw [hv1, ← ex]; unfold bitF; rw [if_pos (show (fun v => okF z (mSt σ) (upd (mCu σ q) 3 (nI v)) (fun k => σ.2.1 12 (40 * sn + k)) mm) v = true from decide_eq_true c46), if_neg (by omega)]) (by rw [hseg]; show _ = cnS _ m (v + 1) + (if _ then _ else _); rw [hv1, ← ek]; rw [if_pos (show (fun v => okF z (mSt σ) (upd (mCu σ q) 3 (nI v)) (fun k => σ.2.1 12 (40 * sn + k)) mm) v = true from decide_eq_true c46)]) (by rw [hseg]; show _ = (if _ then _ else leS _ m (v + 1)); rw [hv1, ← ey]; rw [if_pos (show (fun v => okF z (mSt σ) (upd (mCu σ q) 3 (nI v)) (fun k => σ.2.1 12 (40 * sn + k)) mm) v = true from decide_eq_true c46)]) (fun v2 => by rw [upd_upd]; exact hs v2) (mAr.tr (by have y := mAr.sa fra 6 (4 * q + 2) (nI v); rw [va_up_self, bx_uu] at y; exact y : mAr σ (va_up σ.2.1 6 (upd r' (4 * q + 2) (nI v))) _) f44) hP hS ls (lv_sub hl [4, 5, 6, 7, 8, 9, 10, 3, 2, 1, 0] rfl)
                                · have c47 : _ := (not_congr (nI_leI (a := 10) (by decide) (by omega))).mp c47
                                  refine lv_iconst (v := 1) C.1 C.2.1 dX12_tells_214 (by decide) ?_
                                  refine lv_iload C.1 C.2.1 dX12_tells_215 (lv_at hl 10 rfl) ?_
                                  refine lv_ishl C.1 C.2.1 dX12_tells_217 ?_
                                  refine lv_goto (tgt := 222) C.1 C.2.1 dX12_tells_218 (by decide) ?_
                                  refine lv_ior C.1 C.2.1 dX12_tells_222 ?_
                                  refine lv_istore (lv' := [(7, .int (x ||| (1 <<< ((nI v) &&& 31)))), (0, .ref (mw_a E 0)), (1, .int (nI sn)), (2, .int (nI q)), (3, .int 3), (4, .int 7), (5, .int (mCu σ q 3)), (6, .int 99), (8, .int (nI k)), (9, .int y), (10, .int (nI v))]) C.1 C.2.1 dX12_tells_223 hl (by decide) rfl (fun ls hl => ?_)
                                  refine lv_iinc (v := nI (k + 1)) (lv' := [(8, .int (nI (k + 1))), (7, .int (x ||| (1 <<< ((nI v) &&& 31)))), (0, .ref (mw_a E 0)), (1, .int (nI sn)), (2, .int (nI q)), (3, .int 3), (4, .int 7), (5, .int (mCu σ q 3)), (6, .int 99), (9, .int y), (10, .int (nI v))]) C.1 C.2.1 dX12_tells_225 hl (k := 8) rfl (nI_1 _) (by decide) rfl (fun ls hl => ?_)
                                  refine lv_iload C.1 C.2.1 dX12_tells_228 (lv_at hl 10 rfl) ?_
                                  refine lv_istore (lv' := [(9, .int (nI v)), (8, .int (nI (k + 1))), (7, .int (x ||| (1 <<< ((nI v) &&& 31)))), (0, .ref (mw_a E 0)), (1, .int (nI sn)), (2, .int (nI q)), (3, .int 3), (4, .int 7), (5, .int (mCu σ q 3)), (6, .int 99), (10, .int (nI v))]) C.1 C.2.1 dX12_tells_230 hl (by decide) rfl (fun ls hl => ?_)
                                  refine lv_iinc (v := nI (100 - (m + 1)) - 1) (lv' := [(10, .int (nI (100 - (m + 1)) - 1)), (9, .int (nI v)), (8, .int (nI (k + 1))), (7, .int (x ||| (1 <<< ((nI v) &&& 31)))), (0, .ref (mw_a E 0)), (1, .int (nI sn)), (2, .int (nI q)), (3, .int 3), (4, .int 7), (5, .int (mCu σ q 3)), (6, .int 99)]) C.1 C.2.1 dX12_tells_232 hl (k := 10) rfl (by rw [hseg]; exact im1 _) (by decide) rfl (fun ls hl => ?_)
                                  refine lv_goto (tgt := 176) C.1 C.2.1 dX12_tells_235 (by decide) ?_
                                  exact iha (m + 1) (x ||| (1 <<< ((nI v) &&& 31))) (k + 1) (nI v) (upd r' (4 * q + 2) (nI v)) u42 _ _ (by omega) (by omega) (by rw [hseg]; show _ = orS _ m (v + 1) ||| bitF _ v; rw [hv1, ← ex]; unfold bitF; rw [if_pos (show (fun v => okF z (mSt σ) (upd (mCu σ q) 3 (nI v)) (fun k => σ.2.1 12 (40 * sn + k)) mm) v = true from decide_eq_true c46), if_pos (by omega)]) (by rw [hseg]; show _ = cnS _ m (v + 1) + (if _ then _ else _); rw [hv1, ← ek]; rw [if_pos (show (fun v => okF z (mSt σ) (upd (mCu σ q) 3 (nI v)) (fun k => σ.2.1 12 (40 * sn + k)) mm) v = true from decide_eq_true c46)]) (by rw [hseg]; show _ = (if _ then _ else leS _ m (v + 1)); rw [hv1, ← ey]; rw [if_pos (show (fun v => okF z (mSt σ) (upd (mCu σ q) 3 (nI v)) (fun k => σ.2.1 12 (40 * sn + k)) mm) v = true from decide_eq_true c46)]) (fun v2 => by rw [upd_upd]; exact hs v2) (mAr.tr (by have y := mAr.sa fra 6 (4 * q + 2) (nI v); rw [va_up_self, bx_uu] at y; exact y : mAr σ (va_up σ.2.1 6 (upd r' (4 * q + 2) (nI v))) _) f44) hP hS ls (lv_sub hl [4, 5, 6, 7, 8, 9, 10, 3, 2, 1, 0] rfl)
                        exact lpa (101) 0 0 0 (-1) (σ.2.1 6) u20 _ _ (by omega) (by omega) (rfl) (rfl) (rfl) (fun v => rfl) ⟨(up_self σ.2.1 6).symm ▸ ((mFs.rf σ).tr f22).1, ((mFs.rf σ).tr f22).2⟩ hP hS ls (lv_sub hl [7, 8, 9, 10, 6, 5, 4, 3, 2, 1, 0] rfl)
                      · exact absurd c25 (by decide)
                    · exact absurd c24 (by decide)
                  · exact absurd c18 (by decide)
              · exact absurd c16 (by decide)
            · exact absurd c15 (by decide)
          · exact absurd c14 (by decide)
        · refine lv_bipush (v := -11) C.1 C.2.1 dX12_tells_39 (by decide) ?_
          exact mw_iret C hr hlk Z hP hS dX12_tells_41 (⟨by rw [if_neg hgood, esn, if_pos c13], (mFs.rf σ)⟩)
      · have c12 := bI_0.mp c12
        exact absurd (by decide) c12

set_option maxHeartbeats 4000000 in
set_option maxRecDepth 100000 in
theorem cM_tells4 (l : Launch) (E : mw_E) (σ : mw_M) (z : zP) (n : Nat) (hn : σ.1 0 10 = nI n) (h8 : n ≤ 8) (hru : mRu σ z) (hsh : mShs σ.2.1) (ss oo : Int32) : mw_Ci shM 13 gM l yX12_tells cX12_tells 11 (some .int) (rmF 47 1041) E [.ref (mw_a E 0), .int ss, .int oo, .int 4] σ (fun r u => r = (if ¬ (0 ≤ ss.toInt ∧ ss.toInt ≤ 3) ∨ ¬ (0 ≤ oo.toInt ∧ oo.toInt < n) then -2 else if σ.2.1 9 ss.toNatClampNeg = 0 then -11 else tellP3 (fun v => okF z (mSt σ) (upd (mCu σ oo.toNatClampNeg) 3 (nI v)) (fun k => σ.2.1 12 (40 * ss.toNatClampNeg + k)) (σ.2.1 11 ss.toNatClampNeg).toNatClampNeg) 0 100 4) ∧ mFs σ u) := by
  refine mw_of (by decide) gM_ok (Nat.le_of_ble_eq_true rfl) ?_
  intro p_ e_ s_ m_ below meth c_ C hr hlk Z hP ls hl
  have C : CallFix p_ m_ c_ cX12_tells 11 s_ _ lw_good RX12 := C
  have hl : lv_has ls 11 [(0, .ref (mw_a E 0)), (1, .int ss), (2, .int oo), (3, .int 4)] := hl
  have hS : va_S (mw_A 13 E) s_.heap s_.heap [] := va_S.rf
  refine lv_iload_n C.1 C.2.1 dX12_tells_0 rfl (lv_at hl 1 rfl) ?_
  refine mw_cSi (As := [.int ss]) (rest := []) C Z hP hS (cM_isSheet l E σ ss) sb_X12_isSheet tw_6_130 ⟨rfl, rfl⟩ ⟨Nat.le_of_ble_eq_true rfl, Nat.le_of_ble_eq_true rfl⟩ rfl hl.1 rfl (Nat.le_of_ble_eq_true rfl) dX12_tells_1 ⟨Nat.zero_le _, Nat.zero_le _⟩ (fun r1 u2 H locs q3 hP hS => ?_)
  obtain ⟨rfl, q3u⟩ := q3
  rw [q3u] at hP; clear q3u
  refine lv_if_eq (tgt := 27) C.1 C.2.1 dX12_tells_4 (by decide) (fun c4 => ?_) (fun c4 => ?_)
  · have c4 := bI_0.mp c4
    refine lv_bipush (v := -2) C.1 C.2.1 dX12_tells_27 (by decide) ?_
    exact mw_iret C hr hlk Z hP hS dX12_tells_29 (⟨by rw [if_pos (Or.inl c4)], (mFs.rf σ)⟩)
  · have c4 := bI_n.mp c4
    have hrs := c4
    obtain ⟨sn, hsn, esn⟩ := nI_ofI (k := 3) hrs.1 hrs.2
    subst esn
    refine lv_aload_n C.1 C.2.1 dX12_tells_7 rfl (lv_at hl 0 rfl) ?_
    refine lv_iload_n C.1 C.2.1 dX12_tells_8 rfl (lv_at hl 2 rfl) ?_
    refine mw_cVi (As := [.int oo]) (rest := []) C Z hP hS (0) (cM_isOne l E σ oo n hn h8) vb_X12_isOne tw_5_36 ⟨rfl, rfl⟩ ⟨Nat.le_of_ble_eq_true rfl, Nat.le_of_ble_eq_true rfl⟩ (by decide) rfl rfl rfl rfl hl.1 rfl (Nat.le_of_ble_eq_true rfl) dX12_tells_9 ⟨Nat.zero_le _, Nat.zero_le _⟩ (fun r5 u6 H locs q7 hP hS => ?_)
    obtain ⟨rfl, q7u⟩ := q7
    rw [q7u] at hP; clear q7u
    refine lv_if_eq (tgt := 27) C.1 C.2.1 dX12_tells_12 (by decide) (fun c8 => ?_) (fun c8 => ?_)
    · have c8 := bI_0.mp c8
      refine lv_bipush (v := -2) C.1 C.2.1 dX12_tells_27 (by decide) ?_
      exact mw_iret C hr hlk Z hP hS dX12_tells_29 (⟨by rw [if_pos (Or.inr c8)], (mFs.rf σ)⟩)
    · have c8 := bI_n.mp c8
      have hro := c8
      obtain ⟨q, hq, eq⟩ := nI_ofI (k := 7) hro.1 (by omega)
      subst eq
      have hqn : q < n := by have := hro.2; rw [nI_toInt (by omega)] at this; omega
      have hgood : ¬ (¬ (0 ≤ (nI sn).toInt ∧ (nI sn).toInt ≤ 3) ∨ ¬ (0 ≤ (nI q).toInt ∧ (nI q).toInt < n)) := fun y => y.elim (fun y => y hrs) (fun y => y hro)
      have esn : (nI sn).toNatClampNeg = sn := nI_clamp (by omega)
      have eqn : (nI q).toNatClampNeg = q := nI_clamp (by omega)
      refine lv_iload_n C.1 C.2.1 dX12_tells_15 rfl (lv_at hl 3 rfl) ?_
      refine lv_i2l C.1 C.2.1 dX12_tells_16 rfl ?_
      refine lv_lconst (v := 0) C.1 C.2.1 dX12_tells_17 (by decide) ?_
      refine lv_ldc2 (own := RX12) C.1 C.2.1 C.2.2.2.1 (C.2.2.2.2 _ tw_5_32) dX12_tells_18 ?_
      refine mw_cSi (As := [.long ((4 : Int32).toInt64), .long (0), .long (7)]) (rest := []) C Z hP hS (cM_in l E σ ((4 : Int32).toInt64) 0 7 (0 ≤ (4 : Int32).toInt ∧ (4 : Int32).toInt ≤ 7) (by first | (simp only [nl_i]; exact Iff.rfl) | (simp only [nl_i]; decide) | simp [nl_i])) sb_X12_in tw_5_33 ⟨rfl, rfl⟩ ⟨Nat.le_of_ble_eq_true rfl, Nat.le_of_ble_eq_true rfl⟩ rfl hl.1 rfl (Nat.le_of_ble_eq_true rfl) dX12_tells_21 ⟨Nat.zero_le _, Nat.zero_le _⟩ (fun r9 u10 H locs q11 hP hS => ?_)
      obtain ⟨rfl, q11u⟩ := q11
      rw [q11u] at hP; clear q11u
      refine lv_if_ne (tgt := 30) C.1 C.2.1 dX12_tells_24 (by decide) (fun c12 => ?_) (fun c12 => ?_)
      · have c12 := bI_n.mp c12
        refine lv_aload_n C.1 C.2.1 dX12_tells_30 rfl (lv_at hl 0 rfl) ?_
        refine mw_getr C Z hP (0) 30 (9) (by decide) rfl rfl rfl (by decide) inX12 tw_4_194 dX12_tells_31 ?_
        refine lv_iload_n C.1 C.2.1 dX12_tells_34 rfl (lv_at hl 1 rfl) ?_
        refine mw_zald C Z hP (9) (sn) (by decide) rfl (Nat.lt_of_lt_of_le (by decide : 4 < 961) (Nat.le_of_ble_eq_true rfl)) rfl (by omega) dX12_tells_35 ?_
        refine lv_if_ne (tgt := 42) C.1 C.2.1 dX12_tells_36 (by decide) (fun c13 => ?_) (fun c13 => ?_)
        · have hth := c13
          obtain ⟨mm, hmm, hm⟩ := ((hsh sn (by omega)).resolve_left hth).2
          refine lv_iload_n C.1 C.2.1 dX12_tells_42 rfl (lv_at hl 3 rfl) ?_
          refine lv_if_ne (tgt := 53) C.1 C.2.1 dX12_tells_43 (by decide) (fun c14 => ?_) (fun c14 => ?_)
          · refine lv_iload_n C.1 C.2.1 dX12_tells_53 rfl (lv_at hl 3 rfl) ?_
            refine lv_iconst (v := 1) C.1 C.2.1 dX12_tells_54 (by decide) ?_
            refine lv_icmp_ne (tgt := 63) C.1 C.2.1 dX12_tells_55 (by decide) (fun c15 => ?_) (fun c15 => ?_)
            · refine lv_iload_n C.1 C.2.1 dX12_tells_63 rfl (lv_at hl 3 rfl) ?_
              refine lv_iconst (v := 2) C.1 C.2.1 dX12_tells_64 (by decide) ?_
              refine lv_icmp_ne (tgt := 72) C.1 C.2.1 dX12_tells_65 (by decide) (fun c16 => ?_) (fun c16 => ?_)
              · refine lv_iload_n C.1 C.2.1 dX12_tells_72 rfl (lv_at hl 3 rfl) ?_
                refine lv_iconst (v := 5) C.1 C.2.1 dX12_tells_73 (by decide) ?_
                refine lv_icmp_ge (tgt := 82) C.1 C.2.1 dX12_tells_74 (by decide) (fun c17 => ?_) (fun c17 => ?_)
                · exact absurd c17 (by decide)
                · refine lv_bipush (v := 7) C.1 C.2.1 dX12_tells_77 (by decide) ?_
                  refine lv_goto (tgt := 104) C.1 C.2.1 dX12_tells_79 (by decide) ?_
                  refine lv_istore (lv' := [(4, .int 7), (0, .ref (mw_a E 0)), (1, .int (nI sn)), (2, .int (nI q)), (3, .int 4)]) C.1 C.2.1 dX12_tells_104 hl (by decide) rfl (fun ls hl => ?_)
                  refine lv_iload C.1 C.2.1 dX12_tells_106 (lv_at hl 0 rfl) ?_
                  refine lv_bipush (v := 9) C.1 C.2.1 dX12_tells_108 (by decide) ?_
                  refine lv_icmp_ne (tgt := 120) C.1 C.2.1 dX12_tells_110 (by decide) (fun c18 => ?_) (fun c18 => ?_)
                  · refine lv_aload_n C.1 C.2.1 dX12_tells_120 rfl (lv_at hl 1 rfl) ?_
                    refine lv_iload_n C.1 C.2.1 dX12_tells_121 rfl (lv_at hl 3 rfl) ?_
                    refine lv_iload C.1 C.2.1 dX12_tells_122 (lv_at hl 0 rfl) ?_
                    refine mw_cVi (As := [.int (nI q), .int 7]) (rest := []) C Z hP hS (0) (cM_told l E σ z n ((mFs.rf σ).many hn) h8 ((mFs.rf σ).ru hru) (nI q) 7) vb_X12_told tw_5_46 ⟨rfl, rfl⟩ ⟨Nat.le_of_ble_eq_true rfl, Nat.le_of_ble_eq_true rfl⟩ (by decide) rfl rfl rfl rfl hl.1 rfl (Nat.le_of_ble_eq_true rfl) dX12_tells_124 ⟨Nat.zero_le _, Nat.zero_le _⟩ (fun r19 u20 H locs q21 hP hS => ?_)
                    obtain ⟨e23, f22⟩ := q21
                    rw [(mFs.rf σ).st, show mCu (σ) = mCu σ from funext fun p => (mFs.rf σ).cu p] at e23
                    subst e23
                    have hwas : toldF z (mSt σ) (mCu σ) n (nI q) 7 = mCu σ q 3 := by unfold toldF; rw [if_neg (fun y => y.elim (fun y => y (by decide)) (fun y => y.2 ⟨by rw [nI_toInt (by omega)]; omega, by rw [nI_toInt (by omega)]; omega⟩)), eqn]; rfl
                    refine mw_top (y := mCu σ q 3) hwas ?_
                    refine lv_istore (lv' := [(5, .int (mCu σ q 3)), (4, .int 7), (0, .ref (mw_a E 0)), (1, .int (nI sn)), (2, .int (nI q)), (3, .int 4)]) C.1 C.2.1 dX12_tells_127 hl (by decide) rfl (fun ls hl => ?_)
                    refine lv_iload C.1 C.2.1 dX12_tells_129 (lv_at hl 1 rfl) ?_
                    refine lv_bipush (v := 9) C.1 C.2.1 dX12_tells_131 (by decide) ?_
                    refine lv_icmp_ne (tgt := 145) C.1 C.2.1 dX12_tells_133 (by decide) (fun c24 => ?_) (fun c24 => ?_)
                    · refine lv_iload C.1 C.2.1 dX12_tells_145 (lv_at hl 1 rfl) ?_
                      refine lv_bipush (v := 8) C.1 C.2.1 dX12_tells_147 (by decide) ?_
                      refine lv_icmp_ne (tgt := 156) C.1 C.2.1 dX12_tells_149 (by decide) (fun c25 => ?_) (fun c25 => ?_)
                      · refine lv_iload C.1 C.2.1 dX12_tells_156 (lv_at hl 1 rfl) ?_
                        refine mw_cSi (As := [.int 7]) (rest := []) C Z hP hS (cM_mostOf l E u20 7) sb_X12_mostOf tw_5_43 ⟨rfl, rfl⟩ ⟨Nat.le_of_ble_eq_true rfl, Nat.le_of_ble_eq_true rfl⟩ rfl hl.1 rfl (Nat.le_of_ble_eq_true rfl) dX12_tells_158 ⟨Nat.zero_le _, Nat.zero_le _⟩ (fun r26 u27 H locs q28 hP hS => ?_)
                        obtain ⟨rfl, q28u⟩ := q28
                        rw [q28u] at hP; clear q28u
                        refine mw_top (y := 99) (by decide) ?_
                        refine lv_istore (lv' := [(6, .int 99), (5, .int (mCu σ q 3)), (4, .int 7), (0, .ref (mw_a E 0)), (1, .int (nI sn)), (2, .int (nI q)), (3, .int 4)]) C.1 C.2.1 dX12_tells_161 hl (by decide) rfl (fun ls hl => ?_)
                        refine lv_iconst (v := 0) C.1 C.2.1 dX12_tells_163 (by decide) ?_
                        refine lv_istore (lv' := [(7, .int 0), (6, .int 99), (5, .int (mCu σ q 3)), (4, .int 7), (0, .ref (mw_a E 0)), (1, .int (nI sn)), (2, .int (nI q)), (3, .int 4)]) C.1 C.2.1 dX12_tells_164 hl (by decide) rfl (fun ls hl => ?_)
                        refine lv_iconst (v := 0) C.1 C.2.1 dX12_tells_166 (by decide) ?_
                        refine lv_istore (lv' := [(8, .int 0), (7, .int 0), (6, .int 99), (5, .int (mCu σ q 3)), (4, .int 7), (0, .ref (mw_a E 0)), (1, .int (nI sn)), (2, .int (nI q)), (3, .int 4)]) C.1 C.2.1 dX12_tells_167 hl (by decide) rfl (fun ls hl => ?_)
                        refine lv_iconst (v := -1) C.1 C.2.1 dX12_tells_169 (by decide) ?_
                        refine lv_istore (lv' := [(9, .int (-1)), (8, .int 0), (7, .int 0), (6, .int 99), (5, .int (mCu σ q 3)), (4, .int 7), (0, .ref (mw_a E 0)), (1, .int (nI sn)), (2, .int (nI q)), (3, .int 4)]) C.1 C.2.1 dX12_tells_170 hl (by decide) rfl (fun ls hl => ?_)
                        refine lv_iload C.1 C.2.1 dX12_tells_172 (lv_at hl 3 rfl) ?_
                        refine mw_top (y := nI (100 - 0) - 1) (by decide) ?_
                        refine lv_istore (lv' := [(10, .int (nI (100 - 0) - 1)), (9, .int (-1)), (8, .int 0), (7, .int 0), (6, .int 99), (5, .int (mCu σ q 3)), (4, .int 7), (0, .ref (mw_a E 0)), (1, .int (nI sn)), (2, .int (nI q)), (3, .int 4)]) C.1 C.2.1 dX12_tells_174 hl (by decide) rfl (fun ls hl => ?_)
                        have lpa : ∀ (N : Nat) (m : Nat) (x : Int32) (k : Nat) (y : Int32) (r' : Nat → Int32) (ςa : mw_M) (H : Heap) (locs : List Loc), 101 ≤ m + N → (m ≤ 100) → (x = orS (bitF (fun v => okF z (mSt σ) (upd (mCu σ q) 3 (nI v)) (fun k => σ.2.1 12 (40 * sn + k)) mm)) m (100 - m)) → (k = cnS (fun v => okF z (mSt σ) (upd (mCu σ q) 3 (nI v)) (fun k => σ.2.1 12 (40 * sn + k)) mm) m (100 - m)) → (y = leS (fun v => okF z (mSt σ) (upd (mCu σ q) 3 (nI v)) (fun k => σ.2.1 12 (40 * sn + k)) mm) m (100 - m)) → (∀ v, upd r' (4 * q + 2) v = upd (σ.2.1 6) (4 * q + 2) v) → mAr σ (va_up σ.2.1 6 r') ςa → va_P (mw_D E) vwCl (mw_ws shM 13 E ςa) H → va_S (mw_A 13 E) s_.heap H locs → ∀ (ls : Array Slot), lv_has ls 11 [(0, .ref (mw_a E 0)), (1, .int (nI sn)), (2, .int (nI q)), (3, .int 4), (4, .int 7), (5, .int (mCu σ q 3)), (6, .int 99), (7, .int x), (8, .int (nI k)), (9, .int y), (10, .int (nI (100 - m) - 1))] → mWi p_ l e_ (rmF 47 1041) s_ m_ [.ref (mw_a E 0), .int (nI sn), .int (nI q), .int 4] below meth c_ E (fun r u => r = (if ¬ (0 ≤ (nI sn).toInt ∧ (nI sn).toInt ≤ 3) ∨ ¬ (0 ≤ (nI q).toInt ∧ (nI q).toInt < n) then -2 else if σ.2.1 9 (nI sn).toNatClampNeg = 0 then -11 else tellP3 (fun v => okF z (mSt σ) (upd (mCu σ (nI q).toNatClampNeg) 3 (nI v)) (fun k => σ.2.1 12 (40 * (nI sn).toNatClampNeg + k)) (σ.2.1 11 (nI sn).toNatClampNeg).toNatClampNeg) 0 100 4) ∧ mFs σ u) H locs (F0 m_ 176 ls []) := by
                          intro N
                          induction N with
                          | zero => intros; exfalso; omega
                          | succ N iha =>
                            intro m x k y r' ςa H locs hNa hm5 ex ek ey hs fra hP hS ls hl
                            refine lv_iload C.1 C.2.1 dX12_tells_176 (lv_at hl 10 rfl) ?_
                            refine lv_iload C.1 C.2.1 dX12_tells_178 (lv_at hl 4 rfl) ?_
                            refine mw_cSi (As := [.int 7]) (rest := [.int (nI (100 - m) - 1)]) C Z hP hS (cM_leastOf l E ςa 7) sb_X12_leastOf tw_5_40 ⟨rfl, rfl⟩ ⟨Nat.le_of_ble_eq_true rfl, Nat.le_of_ble_eq_true rfl⟩ rfl hl.1 rfl (Nat.le_of_ble_eq_true rfl) dX12_tells_180 ⟨Nat.zero_le _, Nat.zero_le _⟩ (fun r29 u30 H locs q31 hP hS => ?_)
                            obtain ⟨rfl, q31u⟩ := q31
                            rw [q31u] at hP; clear q31u
                            refine mw_top (y := 0) (by decide) ?_
                            refine lv_icmp_lt (tgt := 238) C.1 C.2.1 dX12_tells_183 (by decide) (fun c32 => ?_) (fun c32 => ?_)
                            · have c32 : m = 100 := by have y := (ni_lt _ _).mp c32; rw [nI_p1 (a := 100 - m) (by omega)] at y; have e : (0 : Int32).toInt = 0 := rfl; omega
                              have hback : va_up σ.2.1 6 (upd (σ.2.1 6) (4 * q + 2) (mCu σ q 3)) = σ.2.1 := by rw [show mCu σ q 3 = σ.2.1 6 (4 * q + 2) from rfl, upd_self]; exact up_self _ _
                              refine lv_aload_n C.1 C.2.1 dX12_tells_238 rfl (lv_at hl 0 rfl) ?_
                              refine lv_iload C.1 C.2.1 dX12_tells_239 (lv_at hl 4 rfl) ?_
                              refine lv_iload_n C.1 C.2.1 dX12_tells_241 rfl (lv_at hl 2 rfl) ?_
                              refine lv_iload C.1 C.2.1 dX12_tells_242 (lv_at hl 5 rfl) ?_
                              refine mw_cVv (As := [.int 7, .int (nI q), .int (mCu σ q 3)]) (rest := []) C Z hP hS (0) (cM_lays7 l E ςa q (by omega) (mCu σ q 3)) vb_X12_lays tw_6_34 ⟨rfl, rfl⟩ ⟨Nat.le_of_ble_eq_true rfl, Nat.le_of_ble_eq_true rfl⟩ (by decide) rfl rfl rfl rfl hl.1 rfl (Nat.le_of_ble_eq_true rfl) dX12_tells_244 ⟨Nat.zero_le _, Nat.zero_le _⟩ (fun u34 H locs q35 hP hS => ?_)
                              rw [q35] at hP; clear q35
                              refine lv_iload_n C.1 C.2.1 dX12_tells_247 rfl (lv_at hl 3 rfl) ?_
                              refine lv_iconst (v := 3) C.1 C.2.1 dX12_tells_248 (by decide) ?_
                              refine lv_icmp_ne (tgt := 257) C.1 C.2.1 dX12_tells_249 (by decide) (fun c36 => ?_) (fun c36 => ?_)
                              · refine lv_iload_n C.1 C.2.1 dX12_tells_257 rfl (lv_at hl 3 rfl) ?_
                                refine lv_iconst (v := 4) C.1 C.2.1 dX12_tells_258 (by decide) ?_
                                refine lv_icmp_ne (tgt := 267) C.1 C.2.1 dX12_tells_259 (by decide) (fun c37 => ?_) (fun c37 => ?_)
                                · exact absurd c37 (by decide)
                                · refine lv_iload C.1 C.2.1 dX12_tells_262 (lv_at hl 9 rfl) ?_
                                  refine lv_goto (tgt := 269) C.1 C.2.1 dX12_tells_264 (by decide) ?_
                                  have em : m = 100 := by omega
                                  rw [em] at ex ek ey
                                  exact mw_iret C hr hlk Z hP hS dX12_tells_269 (⟨by rw [if_neg hgood, esn, if_neg hth, eqn, hm, nI_clamp (n := mm) (by omega)]; unfold tellP3; rw [if_neg (by decide), if_pos rfl, ey], ⟨((by have y := mAr.sa fra 6 (4 * q + 2) (mCu σ q 3); rw [va_up_self, bx_uu] at y; exact y : mAr σ (va_up σ.2.1 6 (upd r' (4 * q + 2) (mCu σ q 3))) _)).1.trans (by rw [hs]; exact hback), ((by have y := mAr.sa fra 6 (4 * q + 2) (mCu σ q 3); rw [va_up_self, bx_uu] at y; exact y : mAr σ (va_up σ.2.1 6 (upd r' (4 * q + 2) (mCu σ q 3))) _)).2⟩⟩)
                              · exact absurd c36 (by decide)
                            · have c32 : m < 100 := by have y := (not_congr (ni_lt _ _)).mp c32; rw [nI_p1 (a := 100 - m) (by omega)] at y; have e : (0 : Int32).toInt = 0 := rfl; omega
                              obtain ⟨v, hv⟩ : ∃ v, v + 1 = 100 - m := ⟨100 - m - 1, by omega⟩
                              have hv1 : v + 1 = 100 - m := hv
                              have hseg : 100 - (m + 1) = v := by omega
                              rw [show nI (100 - m) - 1 = nI v by rw [← hv]; exact nI_pred v] at hl
                              refine lv_aload_n C.1 C.2.1 dX12_tells_186 rfl (lv_at hl 0 rfl) ?_
                              refine lv_iload C.1 C.2.1 dX12_tells_187 (lv_at hl 4 rfl) ?_
                              refine lv_iload_n C.1 C.2.1 dX12_tells_189 rfl (lv_at hl 2 rfl) ?_
                              refine lv_iload C.1 C.2.1 dX12_tells_190 (lv_at hl 10 rfl) ?_
                              refine mw_cVv (As := [.int 7, .int (nI q), .int (nI v)]) (rest := []) C Z hP hS (0) (cM_lays7 l E ςa q (by omega) (nI v)) vb_X12_lays tw_6_34 ⟨rfl, rfl⟩ ⟨Nat.le_of_ble_eq_true rfl, Nat.le_of_ble_eq_true rfl⟩ (by decide) rfl rfl rfl rfl hl.1 rfl (Nat.le_of_ble_eq_true rfl) dX12_tells_192 ⟨Nat.zero_le _, Nat.zero_le _⟩ (fun u39 H locs q40 hP hS => ?_)
                              rw [q40] at hP; clear q40
                              refine lv_aload_n C.1 C.2.1 dX12_tells_195 rfl (lv_at hl 0 rfl) ?_
                              refine lv_iload_n C.1 C.2.1 dX12_tells_196 rfl (lv_at hl 1 rfl) ?_
                              refine lv_iload_n C.1 C.2.1 dX12_tells_197 rfl (lv_at hl 2 rfl) ?_
                              have hX41 : mAr σ (va_up σ.2.1 6 (upd (σ.2.1 6) (4 * q + 2) (nI v))) (mw_sa ςa 6 (4 * q + 2) (nI v)) := by have y := (by have y := mAr.sa fra 6 (4 * q + 2) (nI v); rw [va_up_self, bx_uu] at y; exact y : mAr σ (va_up σ.2.1 6 (upd r' (4 * q + 2) (nI v))) _); rw [hs] at y; exact y
                              have hst : mSt (mw_sa ςa 6 (4 * q + 2) (nI v)) = (mSt σ) := by unfold mSt; rw [hX41.1]; rfl
                              have hcu : mCu (mw_sa ςa 6 (4 * q + 2) (nI v)) q = upd (mCu σ q) 3 (nI v) := mCu_r (j := 2) (by decide) hX41.1
                              refine mw_cVi (As := [.int (nI sn), .int (nI q)]) (rest := []) C Z hP hS (0) (cM_firstOther l E (mw_sa ςa 6 (4 * q + 2) (nI v)) z q (by omega) (hX41.ru rfl rfl hru) sn mm (by omega) (by rw [hX41.1]; exact hm) hmm) vb_X12_firstOther tw_6_134 ⟨rfl, rfl⟩ ⟨Nat.le_of_ble_eq_true rfl, Nat.le_of_ble_eq_true rfl⟩ (by decide) rfl rfl rfl rfl hl.1 rfl (Nat.le_of_ble_eq_true rfl) dX12_tells_198 ⟨Nat.zero_le _, Nat.zero_le _⟩ (fun r42 u43 H locs q44 hP hS => ?_)
                              obtain ⟨e46, f45⟩ := q44
                              rw [hst, hcu, show (mw_sa ςa 6 (4 * q + 2) (nI v)).2.1 12 = σ.2.1 12 by rw [hX41.1]; rfl] at e46
                              subst e46
                              refine lv_iconst (v := -1) C.1 C.2.1 dX12_tells_201 (by decide) ?_
                              refine lv_icmp_ne (tgt := 232) C.1 C.2.1 dX12_tells_202 (by decide) (fun c47 => ?_) (fun c47 => ?_)
                              · refine lv_iinc (v := nI (100 - (m + 1)) - 1) (lv' := [(10, .int (nI (100 - (m + 1)) - 1)), (0, .ref (mw_a E 0)), (1, .int (nI sn)), (2, .int (nI q)), (3, .int 4), (4, .int 7), (5, .int (mCu σ q 3)), (6, .int 99), (7, .int x), (8, .int (nI k)), (9, .int y)]) C.1 C.2.1 dX12_tells_232 hl (k := 10) rfl (by rw [hseg]; exact im1 _) (by decide) rfl (fun ls hl => ?_)
                                refine lv_goto (tgt := 176) C.1 C.2.1 dX12_tells_235 (by decide) ?_
                                exact iha (m + 1) x k y (upd r' (4 * q + 2) (nI v)) u43 _ _ (by omega) (by omega) (by rw [hseg]; show _ = orS _ m (v + 1) ||| bitF _ v; rw [hv1, ← ex]; unfold bitF; rw [if_neg (show ¬ (fun v => okF z (mSt σ) (upd (mCu σ q) 3 (nI v)) (fun k => σ.2.1 12 (40 * sn + k)) mm) v = true from fun y => c47 (of_decide_eq_true y)), Int32.or_zero]) (by rw [hseg]; show _ = cnS _ m (v + 1) + (if _ then _ else _); rw [hv1, ← ek]; rw [if_neg (show ¬ (fun v => okF z (mSt σ) (upd (mCu σ q) 3 (nI v)) (fun k => σ.2.1 12 (40 * sn + k)) mm) v = true from fun y => c47 (of_decide_eq_true y))]; rfl) (by rw [hseg]; show _ = (if _ then _ else leS _ m (v + 1)); rw [hv1, ← ey]; rw [if_neg (show ¬ (fun v => okF z (mSt σ) (upd (mCu σ q) 3 (nI v)) (fun k => σ.2.1 12 (40 * sn + k)) mm) v = true from fun y => c47 (of_decide_eq_true y))]) (fun v2 => by rw [upd_upd]; exact hs v2) (mAr.tr (by have y := mAr.sa fra 6 (4 * q + 2) (nI v); rw [va_up_self, bx_uu] at y; exact y : mAr σ (va_up σ.2.1 6 (upd r' (4 * q + 2) (nI v))) _) f45) hP hS ls (lv_sub hl [1, 2, 3, 4, 5, 6, 7, 8, 9, 10, 0] rfl)
                              · refine lv_iload C.1 C.2.1 dX12_tells_205 (lv_at hl 7 rfl) ?_
                                refine lv_iload C.1 C.2.1 dX12_tells_207 (lv_at hl 10 rfl) ?_
                                refine lv_bipush (v := 10) C.1 C.2.1 dX12_tells_209 (by decide) ?_
                                refine lv_icmp_ge (tgt := 221) C.1 C.2.1 dX12_tells_211 (by decide) (fun c48 => ?_) (fun c48 => ?_)
                                · have c48 : _ := (nI_leI (a := 10) (by decide) (by omega)).mp c48
                                  refine lv_iconst (v := 0) C.1 C.2.1 dX12_tells_221 (by decide) ?_
                                  refine lv_ior C.1 C.2.1 dX12_tells_222 ?_
                                  refine lv_istore (lv' := [(7, .int (x ||| 0)), (0, .ref (mw_a E 0)), (1, .int (nI sn)), (2, .int (nI q)), (3, .int 4), (4, .int 7), (5, .int (mCu σ q 3)), (6, .int 99), (8, .int (nI k)), (9, .int y), (10, .int (nI v))]) C.1 C.2.1 dX12_tells_223 hl (by decide) rfl (fun ls hl => ?_)
                                  refine lv_iinc (v := nI (k + 1)) (lv' := [(8, .int (nI (k + 1))), (7, .int (x ||| 0)), (0, .ref (mw_a E 0)), (1, .int (nI sn)), (2, .int (nI q)), (3, .int 4), (4, .int 7), (5, .int (mCu σ q 3)), (6, .int 99), (9, .int y), (10, .int (nI v))]) C.1 C.2.1 dX12_tells_225 hl (k := 8) rfl (nI_1 _) (by decide) rfl (fun ls hl => ?_)
                                  refine lv_iload C.1 C.2.1 dX12_tells_228 (lv_at hl 10 rfl) ?_
                                  refine lv_istore (lv' := [(9, .int (nI v)), (8, .int (nI (k + 1))), (7, .int (x ||| 0)), (0, .ref (mw_a E 0)), (1, .int (nI sn)), (2, .int (nI q)), (3, .int 4), (4, .int 7), (5, .int (mCu σ q 3)), (6, .int 99), (10, .int (nI v))]) C.1 C.2.1 dX12_tells_230 hl (by decide) rfl (fun ls hl => ?_)
                                  refine lv_iinc (v := nI (100 - (m + 1)) - 1) (lv' := [(10, .int (nI (100 - (m + 1)) - 1)), (9, .int (nI v)), (8, .int (nI (k + 1))), (7, .int (x ||| 0)), (0, .ref (mw_a E 0)), (1, .int (nI sn)), (2, .int (nI q)), (3, .int 4), (4, .int 7), (5, .int (mCu σ q 3)), (6, .int 99)]) C.1 C.2.1 dX12_tells_232 hl (k := 10) rfl (by rw [hseg]; exact im1 _) (by decide) rfl (fun ls hl => ?_)
                                  refine lv_goto (tgt := 176) C.1 C.2.1 dX12_tells_235 (by decide) ?_
                                  exact iha (m + 1) (x ||| 0) (k + 1) (nI v) (upd r' (4 * q + 2) (nI v)) u43 _ _ (by omega) (by omega) (by rw [hseg]; show _ = orS _ m (v + 1) ||| bitF _ v; rw [hv1, ← ex]; unfold bitF; rw [if_pos (show (fun v => okF z (mSt σ) (upd (mCu σ q) 3 (nI v)) (fun k => σ.2.1 12 (40 * sn + k)) mm) v = true from decide_eq_true c47), if_neg (by omega)]) (by rw [hseg]; show _ = cnS _ m (v + 1) + (if _ then _ else _); rw [hv1, ← ek]; rw [if_pos (show (fun v => okF z (mSt σ) (upd (mCu σ q) 3 (nI v)) (fun k => σ.2.1 12 (40 * sn + k)) mm) v = true from decide_eq_true c47)]) (by rw [hseg]; show _ = (if _ then _ else leS _ m (v + 1)); rw [hv1, ← ey]; rw [if_pos (show (fun v => okF z (mSt σ) (upd (mCu σ q) 3 (nI v)) (fun k => σ.2.1 12 (40 * sn + k)) mm) v = true from decide_eq_true c47)]) (fun v2 => by rw [upd_upd]; exact hs v2) (mAr.tr (by have y := mAr.sa fra 6 (4 * q + 2) (nI v); rw [va_up_self, bx_uu] at y; exact y : mAr σ (va_up σ.2.1 6 (upd r' (4 * q + 2) (nI v))) _) f45) hP hS ls (lv_sub hl [4, 5, 6, 7, 8, 9, 10, 3, 2, 1, 0] rfl)
                                · have c48 : _ := (not_congr (nI_leI (a := 10) (by decide) (by omega))).mp c48
                                  refine lv_iconst (v := 1) C.1 C.2.1 dX12_tells_214 (by decide) ?_
                                  refine lv_iload C.1 C.2.1 dX12_tells_215 (lv_at hl 10 rfl) ?_
                                  refine lv_ishl C.1 C.2.1 dX12_tells_217 ?_
                                  refine lv_goto (tgt := 222) C.1 C.2.1 dX12_tells_218 (by decide) ?_
                                  refine lv_ior C.1 C.2.1 dX12_tells_222 ?_
                                  refine lv_istore (lv' := [(7, .int (x ||| (1 <<< ((nI v) &&& 31)))), (0, .ref (mw_a E 0)), (1, .int (nI sn)), (2, .int (nI q)), (3, .int 4), (4, .int 7), (5, .int (mCu σ q 3)), (6, .int 99), (8, .int (nI k)), (9, .int y), (10, .int (nI v))]) C.1 C.2.1 dX12_tells_223 hl (by decide) rfl (fun ls hl => ?_)
                                  refine lv_iinc (v := nI (k + 1)) (lv' := [(8, .int (nI (k + 1))), (7, .int (x ||| (1 <<< ((nI v) &&& 31)))), (0, .ref (mw_a E 0)), (1, .int (nI sn)), (2, .int (nI q)), (3, .int 4), (4, .int 7), (5, .int (mCu σ q 3)), (6, .int 99), (9, .int y), (10, .int (nI v))]) C.1 C.2.1 dX12_tells_225 hl (k := 8) rfl (nI_1 _) (by decide) rfl (fun ls hl => ?_)
                                  refine lv_iload C.1 C.2.1 dX12_tells_228 (lv_at hl 10 rfl) ?_
                                  refine lv_istore (lv' := [(9, .int (nI v)), (8, .int (nI (k + 1))), (7, .int (x ||| (1 <<< ((nI v) &&& 31)))), (0, .ref (mw_a E 0)), (1, .int (nI sn)), (2, .int (nI q)), (3, .int 4), (4, .int 7), (5, .int (mCu σ q 3)), (6, .int 99), (10, .int (nI v))]) C.1 C.2.1 dX12_tells_230 hl (by decide) rfl (fun ls hl => ?_)
                                  refine lv_iinc (v := nI (100 - (m + 1)) - 1) (lv' := [(10, .int (nI (100 - (m + 1)) - 1)), (9, .int (nI v)), (8, .int (nI (k + 1))), (7, .int (x ||| (1 <<< ((nI v) &&& 31)))), (0, .ref (mw_a E 0)), (1, .int (nI sn)), (2, .int (nI q)), (3, .int 4), (4, .int 7), (5, .int (mCu σ q 3)), (6, .int 99)]) C.1 C.2.1 dX12_tells_232 hl (k := 10) rfl (by rw [hseg]; exact im1 _) (by decide) rfl (fun ls hl => ?_)
                                  refine lv_goto (tgt := 176) C.1 C.2.1 dX12_tells_235 (by decide) ?_
                                  exact iha (m + 1) (x ||| (1 <<< ((nI v) &&& 31))) (k + 1) (nI v) (upd r' (4 * q + 2) (nI v)) u43 _ _ (by omega) (by omega) (by rw [hseg]; show _ = orS _ m (v + 1) ||| bitF _ v; rw [hv1, ← ex]; unfold bitF; rw [if_pos (show (fun v => okF z (mSt σ) (upd (mCu σ q) 3 (nI v)) (fun k => σ.2.1 12 (40 * sn + k)) mm) v = true from decide_eq_true c47), if_pos (by omega)]) (by rw [hseg]; show _ = cnS _ m (v + 1) + (if _ then _ else _); rw [hv1, ← ek]; rw [if_pos (show (fun v => okF z (mSt σ) (upd (mCu σ q) 3 (nI v)) (fun k => σ.2.1 12 (40 * sn + k)) mm) v = true from decide_eq_true c47)]) (by rw [hseg]; show _ = (if _ then _ else leS _ m (v + 1)); rw [hv1, ← ey]; rw [if_pos (show (fun v => okF z (mSt σ) (upd (mCu σ q) 3 (nI v)) (fun k => σ.2.1 12 (40 * sn + k)) mm) v = true from decide_eq_true c47)]) (fun v2 => by rw [upd_upd]; exact hs v2) (mAr.tr (by have y := mAr.sa fra 6 (4 * q + 2) (nI v); rw [va_up_self, bx_uu] at y; exact y : mAr σ (va_up σ.2.1 6 (upd r' (4 * q + 2) (nI v))) _) f45) hP hS ls (lv_sub hl [4, 5, 6, 7, 8, 9, 10, 3, 2, 1, 0] rfl)
                        exact lpa (101) 0 0 0 (-1) (σ.2.1 6) u20 _ _ (by omega) (by omega) (rfl) (rfl) (rfl) (fun v => rfl) ⟨(up_self σ.2.1 6).symm ▸ ((mFs.rf σ).tr f22).1, ((mFs.rf σ).tr f22).2⟩ hP hS ls (lv_sub hl [7, 8, 9, 10, 6, 5, 4, 3, 2, 1, 0] rfl)
                      · exact absurd c25 (by decide)
                    · exact absurd c24 (by decide)
                  · exact absurd c18 (by decide)
              · exact absurd c16 (by decide)
            · exact absurd c15 (by decide)
          · exact absurd c14 (by decide)
        · refine lv_bipush (v := -11) C.1 C.2.1 dX12_tells_39 (by decide) ?_
          exact mw_iret C hr hlk Z hP hS dX12_tells_41 (⟨by rw [if_neg hgood, esn, if_pos c13], (mFs.rf σ)⟩)
      · have c12 := bI_0.mp c12
        exact absurd (by decide) c12

set_option maxHeartbeats 4000000 in
set_option maxRecDepth 100000 in
theorem cM_tells5 (l : Launch) (E : mw_E) (σ : mw_M) (z : zP) (n : Nat) (hn : σ.1 0 10 = nI n) (h8 : n ≤ 8) (hru : mRu σ z) (hsh : mShs σ.2.1) (ss oo : Int32) : mw_Ci shM 13 gM l yX12_tells cX12_tells 11 (some .int) (rmF 47 1041) E [.ref (mw_a E 0), .int ss, .int oo, .int 5] σ (fun r u => r = (if ¬ (0 ≤ ss.toInt ∧ ss.toInt ≤ 3) ∨ ¬ (0 ≤ oo.toInt ∧ oo.toInt < n) then -2 else if σ.2.1 9 ss.toNatClampNeg = 0 then -11 else tellP3 (fun v => okF z (mSt σ) (upd (mCu σ oo.toNatClampNeg) 2 (nI v)) (fun k => σ.2.1 12 (40 * ss.toNatClampNeg + k)) (σ.2.1 11 ss.toNatClampNeg).toNatClampNeg) 0 10 5) ∧ mFs σ u) := by
  refine mw_of (by decide) gM_ok (Nat.le_of_ble_eq_true rfl) ?_
  intro p_ e_ s_ m_ below meth c_ C hr hlk Z hP ls hl
  have C : CallFix p_ m_ c_ cX12_tells 11 s_ _ lw_good RX12 := C
  have hl : lv_has ls 11 [(0, .ref (mw_a E 0)), (1, .int ss), (2, .int oo), (3, .int 5)] := hl
  have hS : va_S (mw_A 13 E) s_.heap s_.heap [] := va_S.rf
  refine lv_iload_n C.1 C.2.1 dX12_tells_0 rfl (lv_at hl 1 rfl) ?_
  refine mw_cSi (As := [.int ss]) (rest := []) C Z hP hS (cM_isSheet l E σ ss) sb_X12_isSheet tw_6_130 ⟨rfl, rfl⟩ ⟨Nat.le_of_ble_eq_true rfl, Nat.le_of_ble_eq_true rfl⟩ rfl hl.1 rfl (Nat.le_of_ble_eq_true rfl) dX12_tells_1 ⟨Nat.zero_le _, Nat.zero_le _⟩ (fun r1 u2 H locs q3 hP hS => ?_)
  obtain ⟨rfl, q3u⟩ := q3
  rw [q3u] at hP; clear q3u
  refine lv_if_eq (tgt := 27) C.1 C.2.1 dX12_tells_4 (by decide) (fun c4 => ?_) (fun c4 => ?_)
  · have c4 := bI_0.mp c4
    refine lv_bipush (v := -2) C.1 C.2.1 dX12_tells_27 (by decide) ?_
    exact mw_iret C hr hlk Z hP hS dX12_tells_29 (⟨by rw [if_pos (Or.inl c4)], (mFs.rf σ)⟩)
  · have c4 := bI_n.mp c4
    have hrs := c4
    obtain ⟨sn, hsn, esn⟩ := nI_ofI (k := 3) hrs.1 hrs.2
    subst esn
    refine lv_aload_n C.1 C.2.1 dX12_tells_7 rfl (lv_at hl 0 rfl) ?_
    refine lv_iload_n C.1 C.2.1 dX12_tells_8 rfl (lv_at hl 2 rfl) ?_
    refine mw_cVi (As := [.int oo]) (rest := []) C Z hP hS (0) (cM_isOne l E σ oo n hn h8) vb_X12_isOne tw_5_36 ⟨rfl, rfl⟩ ⟨Nat.le_of_ble_eq_true rfl, Nat.le_of_ble_eq_true rfl⟩ (by decide) rfl rfl rfl rfl hl.1 rfl (Nat.le_of_ble_eq_true rfl) dX12_tells_9 ⟨Nat.zero_le _, Nat.zero_le _⟩ (fun r5 u6 H locs q7 hP hS => ?_)
    obtain ⟨rfl, q7u⟩ := q7
    rw [q7u] at hP; clear q7u
    refine lv_if_eq (tgt := 27) C.1 C.2.1 dX12_tells_12 (by decide) (fun c8 => ?_) (fun c8 => ?_)
    · have c8 := bI_0.mp c8
      refine lv_bipush (v := -2) C.1 C.2.1 dX12_tells_27 (by decide) ?_
      exact mw_iret C hr hlk Z hP hS dX12_tells_29 (⟨by rw [if_pos (Or.inr c8)], (mFs.rf σ)⟩)
    · have c8 := bI_n.mp c8
      have hro := c8
      obtain ⟨q, hq, eq⟩ := nI_ofI (k := 7) hro.1 (by omega)
      subst eq
      have hqn : q < n := by have := hro.2; rw [nI_toInt (by omega)] at this; omega
      have hgood : ¬ (¬ (0 ≤ (nI sn).toInt ∧ (nI sn).toInt ≤ 3) ∨ ¬ (0 ≤ (nI q).toInt ∧ (nI q).toInt < n)) := fun y => y.elim (fun y => y hrs) (fun y => y hro)
      have esn : (nI sn).toNatClampNeg = sn := nI_clamp (by omega)
      have eqn : (nI q).toNatClampNeg = q := nI_clamp (by omega)
      refine lv_iload_n C.1 C.2.1 dX12_tells_15 rfl (lv_at hl 3 rfl) ?_
      refine lv_i2l C.1 C.2.1 dX12_tells_16 rfl ?_
      refine lv_lconst (v := 0) C.1 C.2.1 dX12_tells_17 (by decide) ?_
      refine lv_ldc2 (own := RX12) C.1 C.2.1 C.2.2.2.1 (C.2.2.2.2 _ tw_5_32) dX12_tells_18 ?_
      refine mw_cSi (As := [.long ((5 : Int32).toInt64), .long (0), .long (7)]) (rest := []) C Z hP hS (cM_in l E σ ((5 : Int32).toInt64) 0 7 (0 ≤ (5 : Int32).toInt ∧ (5 : Int32).toInt ≤ 7) (by first | (simp only [nl_i]; exact Iff.rfl) | (simp only [nl_i]; decide) | simp [nl_i])) sb_X12_in tw_5_33 ⟨rfl, rfl⟩ ⟨Nat.le_of_ble_eq_true rfl, Nat.le_of_ble_eq_true rfl⟩ rfl hl.1 rfl (Nat.le_of_ble_eq_true rfl) dX12_tells_21 ⟨Nat.zero_le _, Nat.zero_le _⟩ (fun r9 u10 H locs q11 hP hS => ?_)
      obtain ⟨rfl, q11u⟩ := q11
      rw [q11u] at hP; clear q11u
      refine lv_if_ne (tgt := 30) C.1 C.2.1 dX12_tells_24 (by decide) (fun c12 => ?_) (fun c12 => ?_)
      · have c12 := bI_n.mp c12
        refine lv_aload_n C.1 C.2.1 dX12_tells_30 rfl (lv_at hl 0 rfl) ?_
        refine mw_getr C Z hP (0) 30 (9) (by decide) rfl rfl rfl (by decide) inX12 tw_4_194 dX12_tells_31 ?_
        refine lv_iload_n C.1 C.2.1 dX12_tells_34 rfl (lv_at hl 1 rfl) ?_
        refine mw_zald C Z hP (9) (sn) (by decide) rfl (Nat.lt_of_lt_of_le (by decide : 4 < 961) (Nat.le_of_ble_eq_true rfl)) rfl (by omega) dX12_tells_35 ?_
        refine lv_if_ne (tgt := 42) C.1 C.2.1 dX12_tells_36 (by decide) (fun c13 => ?_) (fun c13 => ?_)
        · have hth := c13
          obtain ⟨mm, hmm, hm⟩ := ((hsh sn (by omega)).resolve_left hth).2
          refine lv_iload_n C.1 C.2.1 dX12_tells_42 rfl (lv_at hl 3 rfl) ?_
          refine lv_if_ne (tgt := 53) C.1 C.2.1 dX12_tells_43 (by decide) (fun c14 => ?_) (fun c14 => ?_)
          · refine lv_iload_n C.1 C.2.1 dX12_tells_53 rfl (lv_at hl 3 rfl) ?_
            refine lv_iconst (v := 1) C.1 C.2.1 dX12_tells_54 (by decide) ?_
            refine lv_icmp_ne (tgt := 63) C.1 C.2.1 dX12_tells_55 (by decide) (fun c15 => ?_) (fun c15 => ?_)
            · refine lv_iload_n C.1 C.2.1 dX12_tells_63 rfl (lv_at hl 3 rfl) ?_
              refine lv_iconst (v := 2) C.1 C.2.1 dX12_tells_64 (by decide) ?_
              refine lv_icmp_ne (tgt := 72) C.1 C.2.1 dX12_tells_65 (by decide) (fun c16 => ?_) (fun c16 => ?_)
              · refine lv_iload_n C.1 C.2.1 dX12_tells_72 rfl (lv_at hl 3 rfl) ?_
                refine lv_iconst (v := 5) C.1 C.2.1 dX12_tells_73 (by decide) ?_
                refine lv_icmp_ge (tgt := 82) C.1 C.2.1 dX12_tells_74 (by decide) (fun c17 => ?_) (fun c17 => ?_)
                · refine lv_iload_n C.1 C.2.1 dX12_tells_82 rfl (lv_at hl 3 rfl) ?_
                  refine lv_iconst (v := 5) C.1 C.2.1 dX12_tells_83 (by decide) ?_
                  refine lv_icmp_ne (tgt := 92) C.1 C.2.1 dX12_tells_84 (by decide) (fun c18 => ?_) (fun c18 => ?_)
                  · exact absurd c18 (by decide)
                  · refine lv_bipush (v := 6) C.1 C.2.1 dX12_tells_87 (by decide) ?_
                    refine lv_goto (tgt := 104) C.1 C.2.1 dX12_tells_89 (by decide) ?_
                    refine lv_istore (lv' := [(4, .int 6), (0, .ref (mw_a E 0)), (1, .int (nI sn)), (2, .int (nI q)), (3, .int 5)]) C.1 C.2.1 dX12_tells_104 hl (by decide) rfl (fun ls hl => ?_)
                    refine lv_iload C.1 C.2.1 dX12_tells_106 (lv_at hl 0 rfl) ?_
                    refine lv_bipush (v := 9) C.1 C.2.1 dX12_tells_108 (by decide) ?_
                    refine lv_icmp_ne (tgt := 120) C.1 C.2.1 dX12_tells_110 (by decide) (fun c19 => ?_) (fun c19 => ?_)
                    · refine lv_aload_n C.1 C.2.1 dX12_tells_120 rfl (lv_at hl 1 rfl) ?_
                      refine lv_iload_n C.1 C.2.1 dX12_tells_121 rfl (lv_at hl 3 rfl) ?_
                      refine lv_iload C.1 C.2.1 dX12_tells_122 (lv_at hl 0 rfl) ?_
                      refine mw_cVi (As := [.int (nI q), .int 6]) (rest := []) C Z hP hS (0) (cM_told l E σ z n ((mFs.rf σ).many hn) h8 ((mFs.rf σ).ru hru) (nI q) 6) vb_X12_told tw_5_46 ⟨rfl, rfl⟩ ⟨Nat.le_of_ble_eq_true rfl, Nat.le_of_ble_eq_true rfl⟩ (by decide) rfl rfl rfl rfl hl.1 rfl (Nat.le_of_ble_eq_true rfl) dX12_tells_124 ⟨Nat.zero_le _, Nat.zero_le _⟩ (fun r20 u21 H locs q22 hP hS => ?_)
                      obtain ⟨e24, f23⟩ := q22
                      rw [(mFs.rf σ).st, show mCu (σ) = mCu σ from funext fun p => (mFs.rf σ).cu p] at e24
                      subst e24
                      have hwas : toldF z (mSt σ) (mCu σ) n (nI q) 6 = mCu σ q 2 := by unfold toldF; rw [if_neg (fun y => y.elim (fun y => y (by decide)) (fun y => y.2 ⟨by rw [nI_toInt (by omega)]; omega, by rw [nI_toInt (by omega)]; omega⟩)), eqn]; rfl
                      refine mw_top (y := mCu σ q 2) hwas ?_
                      refine lv_istore (lv' := [(5, .int (mCu σ q 2)), (4, .int 6), (0, .ref (mw_a E 0)), (1, .int (nI sn)), (2, .int (nI q)), (3, .int 5)]) C.1 C.2.1 dX12_tells_127 hl (by decide) rfl (fun ls hl => ?_)
                      refine lv_iload C.1 C.2.1 dX12_tells_129 (lv_at hl 1 rfl) ?_
                      refine lv_bipush (v := 9) C.1 C.2.1 dX12_tells_131 (by decide) ?_
                      refine lv_icmp_ne (tgt := 145) C.1 C.2.1 dX12_tells_133 (by decide) (fun c25 => ?_) (fun c25 => ?_)
                      · refine lv_iload C.1 C.2.1 dX12_tells_145 (lv_at hl 1 rfl) ?_
                        refine lv_bipush (v := 8) C.1 C.2.1 dX12_tells_147 (by decide) ?_
                        refine lv_icmp_ne (tgt := 156) C.1 C.2.1 dX12_tells_149 (by decide) (fun c26 => ?_) (fun c26 => ?_)
                        · refine lv_iload C.1 C.2.1 dX12_tells_156 (lv_at hl 1 rfl) ?_
                          refine mw_cSi (As := [.int 6]) (rest := []) C Z hP hS (cM_mostOf l E u21 6) sb_X12_mostOf tw_5_43 ⟨rfl, rfl⟩ ⟨Nat.le_of_ble_eq_true rfl, Nat.le_of_ble_eq_true rfl⟩ rfl hl.1 rfl (Nat.le_of_ble_eq_true rfl) dX12_tells_158 ⟨Nat.zero_le _, Nat.zero_le _⟩ (fun r27 u28 H locs q29 hP hS => ?_)
                          obtain ⟨rfl, q29u⟩ := q29
                          rw [q29u] at hP; clear q29u
                          refine mw_top (y := 9) (by decide) ?_
                          refine lv_istore (lv' := [(6, .int 9), (5, .int (mCu σ q 2)), (4, .int 6), (0, .ref (mw_a E 0)), (1, .int (nI sn)), (2, .int (nI q)), (3, .int 5)]) C.1 C.2.1 dX12_tells_161 hl (by decide) rfl (fun ls hl => ?_)
                          refine lv_iconst (v := 0) C.1 C.2.1 dX12_tells_163 (by decide) ?_
                          refine lv_istore (lv' := [(7, .int 0), (6, .int 9), (5, .int (mCu σ q 2)), (4, .int 6), (0, .ref (mw_a E 0)), (1, .int (nI sn)), (2, .int (nI q)), (3, .int 5)]) C.1 C.2.1 dX12_tells_164 hl (by decide) rfl (fun ls hl => ?_)
                          refine lv_iconst (v := 0) C.1 C.2.1 dX12_tells_166 (by decide) ?_
                          refine lv_istore (lv' := [(8, .int 0), (7, .int 0), (6, .int 9), (5, .int (mCu σ q 2)), (4, .int 6), (0, .ref (mw_a E 0)), (1, .int (nI sn)), (2, .int (nI q)), (3, .int 5)]) C.1 C.2.1 dX12_tells_167 hl (by decide) rfl (fun ls hl => ?_)
                          refine lv_iconst (v := -1) C.1 C.2.1 dX12_tells_169 (by decide) ?_
                          refine lv_istore (lv' := [(9, .int (-1)), (8, .int 0), (7, .int 0), (6, .int 9), (5, .int (mCu σ q 2)), (4, .int 6), (0, .ref (mw_a E 0)), (1, .int (nI sn)), (2, .int (nI q)), (3, .int 5)]) C.1 C.2.1 dX12_tells_170 hl (by decide) rfl (fun ls hl => ?_)
                          refine lv_iload C.1 C.2.1 dX12_tells_172 (lv_at hl 3 rfl) ?_
                          refine mw_top (y := nI (10 - 0) - 1) (by decide) ?_
                          refine lv_istore (lv' := [(10, .int (nI (10 - 0) - 1)), (9, .int (-1)), (8, .int 0), (7, .int 0), (6, .int 9), (5, .int (mCu σ q 2)), (4, .int 6), (0, .ref (mw_a E 0)), (1, .int (nI sn)), (2, .int (nI q)), (3, .int 5)]) C.1 C.2.1 dX12_tells_174 hl (by decide) rfl (fun ls hl => ?_)
                          have lpa : ∀ (N : Nat) (m : Nat) (x : Int32) (k : Nat) (y : Int32) (r' : Nat → Int32) (ςa : mw_M) (H : Heap) (locs : List Loc), 11 ≤ m + N → (m ≤ 10) → (x = orS (bitF (fun v => okF z (mSt σ) (upd (mCu σ q) 2 (nI v)) (fun k => σ.2.1 12 (40 * sn + k)) mm)) m (10 - m)) → (k = cnS (fun v => okF z (mSt σ) (upd (mCu σ q) 2 (nI v)) (fun k => σ.2.1 12 (40 * sn + k)) mm) m (10 - m)) → (y = leS (fun v => okF z (mSt σ) (upd (mCu σ q) 2 (nI v)) (fun k => σ.2.1 12 (40 * sn + k)) mm) m (10 - m)) → (∀ v, upd r' (4 * q + 1) v = upd (σ.2.1 6) (4 * q + 1) v) → mAr σ (va_up σ.2.1 6 r') ςa → va_P (mw_D E) vwCl (mw_ws shM 13 E ςa) H → va_S (mw_A 13 E) s_.heap H locs → ∀ (ls : Array Slot), lv_has ls 11 [(0, .ref (mw_a E 0)), (1, .int (nI sn)), (2, .int (nI q)), (3, .int 5), (4, .int 6), (5, .int (mCu σ q 2)), (6, .int 9), (7, .int x), (8, .int (nI k)), (9, .int y), (10, .int (nI (10 - m) - 1))] → mWi p_ l e_ (rmF 47 1041) s_ m_ [.ref (mw_a E 0), .int (nI sn), .int (nI q), .int 5] below meth c_ E (fun r u => r = (if ¬ (0 ≤ (nI sn).toInt ∧ (nI sn).toInt ≤ 3) ∨ ¬ (0 ≤ (nI q).toInt ∧ (nI q).toInt < n) then -2 else if σ.2.1 9 (nI sn).toNatClampNeg = 0 then -11 else tellP3 (fun v => okF z (mSt σ) (upd (mCu σ (nI q).toNatClampNeg) 2 (nI v)) (fun k => σ.2.1 12 (40 * (nI sn).toNatClampNeg + k)) (σ.2.1 11 (nI sn).toNatClampNeg).toNatClampNeg) 0 10 5) ∧ mFs σ u) H locs (F0 m_ 176 ls []) := by
                            intro N
                            induction N with
                            | zero => intros; exfalso; omega
                            | succ N iha =>
                              intro m x k y r' ςa H locs hNa hm5 ex ek ey hs fra hP hS ls hl
                              refine lv_iload C.1 C.2.1 dX12_tells_176 (lv_at hl 10 rfl) ?_
                              refine lv_iload C.1 C.2.1 dX12_tells_178 (lv_at hl 4 rfl) ?_
                              refine mw_cSi (As := [.int 6]) (rest := [.int (nI (10 - m) - 1)]) C Z hP hS (cM_leastOf l E ςa 6) sb_X12_leastOf tw_5_40 ⟨rfl, rfl⟩ ⟨Nat.le_of_ble_eq_true rfl, Nat.le_of_ble_eq_true rfl⟩ rfl hl.1 rfl (Nat.le_of_ble_eq_true rfl) dX12_tells_180 ⟨Nat.zero_le _, Nat.zero_le _⟩ (fun r30 u31 H locs q32 hP hS => ?_)
                              obtain ⟨rfl, q32u⟩ := q32
                              rw [q32u] at hP; clear q32u
                              refine mw_top (y := 0) (by decide) ?_
                              refine lv_icmp_lt (tgt := 238) C.1 C.2.1 dX12_tells_183 (by decide) (fun c33 => ?_) (fun c33 => ?_)
                              · have c33 : m = 10 := by have y := (ni_lt _ _).mp c33; rw [nI_p1 (a := 10 - m) (by omega)] at y; have e : (0 : Int32).toInt = 0 := rfl; omega
                                have hback : va_up σ.2.1 6 (upd (σ.2.1 6) (4 * q + 1) (mCu σ q 2)) = σ.2.1 := by rw [show mCu σ q 2 = σ.2.1 6 (4 * q + 1) from rfl, upd_self]; exact up_self _ _
                                refine lv_aload_n C.1 C.2.1 dX12_tells_238 rfl (lv_at hl 0 rfl) ?_
                                refine lv_iload C.1 C.2.1 dX12_tells_239 (lv_at hl 4 rfl) ?_
                                refine lv_iload_n C.1 C.2.1 dX12_tells_241 rfl (lv_at hl 2 rfl) ?_
                                refine lv_iload C.1 C.2.1 dX12_tells_242 (lv_at hl 5 rfl) ?_
                                refine mw_cVv (As := [.int 6, .int (nI q), .int (mCu σ q 2)]) (rest := []) C Z hP hS (0) (cM_lays6 l E ςa q (by omega) (mCu σ q 2)) vb_X12_lays tw_6_34 ⟨rfl, rfl⟩ ⟨Nat.le_of_ble_eq_true rfl, Nat.le_of_ble_eq_true rfl⟩ (by decide) rfl rfl rfl rfl hl.1 rfl (Nat.le_of_ble_eq_true rfl) dX12_tells_244 ⟨Nat.zero_le _, Nat.zero_le _⟩ (fun u35 H locs q36 hP hS => ?_)
                                rw [q36] at hP; clear q36
                                refine lv_iload_n C.1 C.2.1 dX12_tells_247 rfl (lv_at hl 3 rfl) ?_
                                refine lv_iconst (v := 3) C.1 C.2.1 dX12_tells_248 (by decide) ?_
                                refine lv_icmp_ne (tgt := 257) C.1 C.2.1 dX12_tells_249 (by decide) (fun c37 => ?_) (fun c37 => ?_)
                                · refine lv_iload_n C.1 C.2.1 dX12_tells_257 rfl (lv_at hl 3 rfl) ?_
                                  refine lv_iconst (v := 4) C.1 C.2.1 dX12_tells_258 (by decide) ?_
                                  refine lv_icmp_ne (tgt := 267) C.1 C.2.1 dX12_tells_259 (by decide) (fun c38 => ?_) (fun c38 => ?_)
                                  · refine lv_iload C.1 C.2.1 dX12_tells_267 (lv_at hl 7 rfl) ?_
                                    have em : m = 10 := by omega
                                    rw [em] at ex ek ey
                                    exact mw_iret C hr hlk Z hP hS dX12_tells_269 (⟨by rw [if_neg hgood, esn, if_neg hth, eqn, hm, nI_clamp (n := mm) (by omega)]; unfold tellP3; rw [if_neg (by decide), if_neg (by decide), ex], ⟨((by have y := mAr.sa fra 6 (4 * q + 1) (mCu σ q 2); rw [va_up_self, bx_uu] at y; exact y : mAr σ (va_up σ.2.1 6 (upd r' (4 * q + 1) (mCu σ q 2))) _)).1.trans (by rw [hs]; exact hback), ((by have y := mAr.sa fra 6 (4 * q + 1) (mCu σ q 2); rw [va_up_self, bx_uu] at y; exact y : mAr σ (va_up σ.2.1 6 (upd r' (4 * q + 1) (mCu σ q 2))) _)).2⟩⟩)
                                  · exact absurd c38 (by decide)
                                · exact absurd c37 (by decide)
                              · have c33 : m < 10 := by have y := (not_congr (ni_lt _ _)).mp c33; rw [nI_p1 (a := 10 - m) (by omega)] at y; have e : (0 : Int32).toInt = 0 := rfl; omega
                                obtain ⟨v, hv⟩ : ∃ v, v + 1 = 10 - m := ⟨10 - m - 1, by omega⟩
                                have hv1 : v + 1 = 10 - m := hv
                                have hseg : 10 - (m + 1) = v := by omega
                                rw [show nI (10 - m) - 1 = nI v by rw [← hv]; exact nI_pred v] at hl
                                refine lv_aload_n C.1 C.2.1 dX12_tells_186 rfl (lv_at hl 0 rfl) ?_
                                refine lv_iload C.1 C.2.1 dX12_tells_187 (lv_at hl 4 rfl) ?_
                                refine lv_iload_n C.1 C.2.1 dX12_tells_189 rfl (lv_at hl 2 rfl) ?_
                                refine lv_iload C.1 C.2.1 dX12_tells_190 (lv_at hl 10 rfl) ?_
                                refine mw_cVv (As := [.int 6, .int (nI q), .int (nI v)]) (rest := []) C Z hP hS (0) (cM_lays6 l E ςa q (by omega) (nI v)) vb_X12_lays tw_6_34 ⟨rfl, rfl⟩ ⟨Nat.le_of_ble_eq_true rfl, Nat.le_of_ble_eq_true rfl⟩ (by decide) rfl rfl rfl rfl hl.1 rfl (Nat.le_of_ble_eq_true rfl) dX12_tells_192 ⟨Nat.zero_le _, Nat.zero_le _⟩ (fun u40 H locs q41 hP hS => ?_)
                                rw [q41] at hP; clear q41
                                refine lv_aload_n C.1 C.2.1 dX12_tells_195 rfl (lv_at hl 0 rfl) ?_
                                refine lv_iload_n C.1 C.2.1 dX12_tells_196 rfl (lv_at hl 1 rfl) ?_
                                refine lv_iload_n C.1 C.2.1 dX12_tells_197 rfl (lv_at hl 2 rfl) ?_
                                have hX42 : mAr σ (va_up σ.2.1 6 (upd (σ.2.1 6) (4 * q + 1) (nI v))) (mw_sa ςa 6 (4 * q + 1) (nI v)) := by have y := (by have y := mAr.sa fra 6 (4 * q + 1) (nI v); rw [va_up_self, bx_uu] at y; exact y : mAr σ (va_up σ.2.1 6 (upd r' (4 * q + 1) (nI v))) _); rw [hs] at y; exact y
                                have hst : mSt (mw_sa ςa 6 (4 * q + 1) (nI v)) = (mSt σ) := by unfold mSt; rw [hX42.1]; rfl
                                have hcu : mCu (mw_sa ςa 6 (4 * q + 1) (nI v)) q = upd (mCu σ q) 2 (nI v) := mCu_r (j := 1) (by decide) hX42.1
                                refine mw_cVi (As := [.int (nI sn), .int (nI q)]) (rest := []) C Z hP hS (0) (cM_firstOther l E (mw_sa ςa 6 (4 * q + 1) (nI v)) z q (by omega) (hX42.ru rfl rfl hru) sn mm (by omega) (by rw [hX42.1]; exact hm) hmm) vb_X12_firstOther tw_6_134 ⟨rfl, rfl⟩ ⟨Nat.le_of_ble_eq_true rfl, Nat.le_of_ble_eq_true rfl⟩ (by decide) rfl rfl rfl rfl hl.1 rfl (Nat.le_of_ble_eq_true rfl) dX12_tells_198 ⟨Nat.zero_le _, Nat.zero_le _⟩ (fun r43 u44 H locs q45 hP hS => ?_)
                                obtain ⟨e47, f46⟩ := q45
                                rw [hst, hcu, show (mw_sa ςa 6 (4 * q + 1) (nI v)).2.1 12 = σ.2.1 12 by rw [hX42.1]; rfl] at e47
                                subst e47
                                refine lv_iconst (v := -1) C.1 C.2.1 dX12_tells_201 (by decide) ?_
                                refine lv_icmp_ne (tgt := 232) C.1 C.2.1 dX12_tells_202 (by decide) (fun c48 => ?_) (fun c48 => ?_)
                                · refine lv_iinc (v := nI (10 - (m + 1)) - 1) (lv' := [(10, .int (nI (10 - (m + 1)) - 1)), (0, .ref (mw_a E 0)), (1, .int (nI sn)), (2, .int (nI q)), (3, .int 5), (4, .int 6), (5, .int (mCu σ q 2)), (6, .int 9), (7, .int x), (8, .int (nI k)), (9, .int y)]) C.1 C.2.1 dX12_tells_232 hl (k := 10) rfl (by rw [hseg]; exact im1 _) (by decide) rfl (fun ls hl => ?_)
                                  refine lv_goto (tgt := 176) C.1 C.2.1 dX12_tells_235 (by decide) ?_
                                  exact iha (m + 1) x k y (upd r' (4 * q + 1) (nI v)) u44 _ _ (by omega) (by omega) (by rw [hseg]; show _ = orS _ m (v + 1) ||| bitF _ v; rw [hv1, ← ex]; unfold bitF; rw [if_neg (show ¬ (fun v => okF z (mSt σ) (upd (mCu σ q) 2 (nI v)) (fun k => σ.2.1 12 (40 * sn + k)) mm) v = true from fun y => c48 (of_decide_eq_true y)), Int32.or_zero]) (by rw [hseg]; show _ = cnS _ m (v + 1) + (if _ then _ else _); rw [hv1, ← ek]; rw [if_neg (show ¬ (fun v => okF z (mSt σ) (upd (mCu σ q) 2 (nI v)) (fun k => σ.2.1 12 (40 * sn + k)) mm) v = true from fun y => c48 (of_decide_eq_true y))]; rfl) (by rw [hseg]; show _ = (if _ then _ else leS _ m (v + 1)); rw [hv1, ← ey]; rw [if_neg (show ¬ (fun v => okF z (mSt σ) (upd (mCu σ q) 2 (nI v)) (fun k => σ.2.1 12 (40 * sn + k)) mm) v = true from fun y => c48 (of_decide_eq_true y))]) (fun v2 => by rw [upd_upd]; exact hs v2) (mAr.tr (by have y := mAr.sa fra 6 (4 * q + 1) (nI v); rw [va_up_self, bx_uu] at y; exact y : mAr σ (va_up σ.2.1 6 (upd r' (4 * q + 1) (nI v))) _) f46) hP hS ls (lv_sub hl [1, 2, 3, 4, 5, 6, 7, 8, 9, 10, 0] rfl)
                                · refine lv_iload C.1 C.2.1 dX12_tells_205 (lv_at hl 7 rfl) ?_
                                  refine lv_iload C.1 C.2.1 dX12_tells_207 (lv_at hl 10 rfl) ?_
                                  refine lv_bipush (v := 10) C.1 C.2.1 dX12_tells_209 (by decide) ?_
                                  refine lv_icmp_ge (tgt := 221) C.1 C.2.1 dX12_tells_211 (by decide) (fun c49 => ?_) (fun c49 => ?_)
                                  · have c49 : _ := (nI_leI (a := 10) (by decide) (by omega)).mp c49
                                    refine lv_iconst (v := 0) C.1 C.2.1 dX12_tells_221 (by decide) ?_
                                    refine lv_ior C.1 C.2.1 dX12_tells_222 ?_
                                    refine lv_istore (lv' := [(7, .int (x ||| 0)), (0, .ref (mw_a E 0)), (1, .int (nI sn)), (2, .int (nI q)), (3, .int 5), (4, .int 6), (5, .int (mCu σ q 2)), (6, .int 9), (8, .int (nI k)), (9, .int y), (10, .int (nI v))]) C.1 C.2.1 dX12_tells_223 hl (by decide) rfl (fun ls hl => ?_)
                                    refine lv_iinc (v := nI (k + 1)) (lv' := [(8, .int (nI (k + 1))), (7, .int (x ||| 0)), (0, .ref (mw_a E 0)), (1, .int (nI sn)), (2, .int (nI q)), (3, .int 5), (4, .int 6), (5, .int (mCu σ q 2)), (6, .int 9), (9, .int y), (10, .int (nI v))]) C.1 C.2.1 dX12_tells_225 hl (k := 8) rfl (nI_1 _) (by decide) rfl (fun ls hl => ?_)
                                    refine lv_iload C.1 C.2.1 dX12_tells_228 (lv_at hl 10 rfl) ?_
                                    refine lv_istore (lv' := [(9, .int (nI v)), (8, .int (nI (k + 1))), (7, .int (x ||| 0)), (0, .ref (mw_a E 0)), (1, .int (nI sn)), (2, .int (nI q)), (3, .int 5), (4, .int 6), (5, .int (mCu σ q 2)), (6, .int 9), (10, .int (nI v))]) C.1 C.2.1 dX12_tells_230 hl (by decide) rfl (fun ls hl => ?_)
                                    refine lv_iinc (v := nI (10 - (m + 1)) - 1) (lv' := [(10, .int (nI (10 - (m + 1)) - 1)), (9, .int (nI v)), (8, .int (nI (k + 1))), (7, .int (x ||| 0)), (0, .ref (mw_a E 0)), (1, .int (nI sn)), (2, .int (nI q)), (3, .int 5), (4, .int 6), (5, .int (mCu σ q 2)), (6, .int 9)]) C.1 C.2.1 dX12_tells_232 hl (k := 10) rfl (by rw [hseg]; exact im1 _) (by decide) rfl (fun ls hl => ?_)
                                    refine lv_goto (tgt := 176) C.1 C.2.1 dX12_tells_235 (by decide) ?_
                                    exact iha (m + 1) (x ||| 0) (k + 1) (nI v) (upd r' (4 * q + 1) (nI v)) u44 _ _ (by omega) (by omega) (by rw [hseg]; show _ = orS _ m (v + 1) ||| bitF _ v; rw [hv1, ← ex]; unfold bitF; rw [if_pos (show (fun v => okF z (mSt σ) (upd (mCu σ q) 2 (nI v)) (fun k => σ.2.1 12 (40 * sn + k)) mm) v = true from decide_eq_true c48), if_neg (by omega)]) (by rw [hseg]; show _ = cnS _ m (v + 1) + (if _ then _ else _); rw [hv1, ← ek]; rw [if_pos (show (fun v => okF z (mSt σ) (upd (mCu σ q) 2 (nI v)) (fun k => σ.2.1 12 (40 * sn + k)) mm) v = true from decide_eq_true c48)]) (by rw [hseg]; show _ = (if _ then _ else leS _ m (v + 1)); rw [hv1, ← ey]; rw [if_pos (show (fun v => okF z (mSt σ) (upd (mCu σ q) 2 (nI v)) (fun k => σ.2.1 12 (40 * sn + k)) mm) v = true from decide_eq_true c48)]) (fun v2 => by rw [upd_upd]; exact hs v2) (mAr.tr (by have y := mAr.sa fra 6 (4 * q + 1) (nI v); rw [va_up_self, bx_uu] at y; exact y : mAr σ (va_up σ.2.1 6 (upd r' (4 * q + 1) (nI v))) _) f46) hP hS ls (lv_sub hl [4, 5, 6, 7, 8, 9, 10, 3, 2, 1, 0] rfl)
                                  · have c49 : _ := (not_congr (nI_leI (a := 10) (by decide) (by omega))).mp c49
                                    refine lv_iconst (v := 1) C.1 C.2.1 dX12_tells_214 (by decide) ?_
                                    refine lv_iload C.1 C.2.1 dX12_tells_215 (lv_at hl 10 rfl) ?_
                                    refine lv_ishl C.1 C.2.1 dX12_tells_217 ?_
                                    refine lv_goto (tgt := 222) C.1 C.2.1 dX12_tells_218 (by decide) ?_
                                    refine lv_ior C.1 C.2.1 dX12_tells_222 ?_
                                    refine lv_istore (lv' := [(7, .int (x ||| (1 <<< ((nI v) &&& 31)))), (0, .ref (mw_a E 0)), (1, .int (nI sn)), (2, .int (nI q)), (3, .int 5), (4, .int 6), (5, .int (mCu σ q 2)), (6, .int 9), (8, .int (nI k)), (9, .int y), (10, .int (nI v))]) C.1 C.2.1 dX12_tells_223 hl (by decide) rfl (fun ls hl => ?_)
                                    refine lv_iinc (v := nI (k + 1)) (lv' := [(8, .int (nI (k + 1))), (7, .int (x ||| (1 <<< ((nI v) &&& 31)))), (0, .ref (mw_a E 0)), (1, .int (nI sn)), (2, .int (nI q)), (3, .int 5), (4, .int 6), (5, .int (mCu σ q 2)), (6, .int 9), (9, .int y), (10, .int (nI v))]) C.1 C.2.1 dX12_tells_225 hl (k := 8) rfl (nI_1 _) (by decide) rfl (fun ls hl => ?_)
                                    refine lv_iload C.1 C.2.1 dX12_tells_228 (lv_at hl 10 rfl) ?_
                                    refine lv_istore (lv' := [(9, .int (nI v)), (8, .int (nI (k + 1))), (7, .int (x ||| (1 <<< ((nI v) &&& 31)))), (0, .ref (mw_a E 0)), (1, .int (nI sn)), (2, .int (nI q)), (3, .int 5), (4, .int 6), (5, .int (mCu σ q 2)), (6, .int 9), (10, .int (nI v))]) C.1 C.2.1 dX12_tells_230 hl (by decide) rfl (fun ls hl => ?_)
                                    refine lv_iinc (v := nI (10 - (m + 1)) - 1) (lv' := [(10, .int (nI (10 - (m + 1)) - 1)), (9, .int (nI v)), (8, .int (nI (k + 1))), (7, .int (x ||| (1 <<< ((nI v) &&& 31)))), (0, .ref (mw_a E 0)), (1, .int (nI sn)), (2, .int (nI q)), (3, .int 5), (4, .int 6), (5, .int (mCu σ q 2)), (6, .int 9)]) C.1 C.2.1 dX12_tells_232 hl (k := 10) rfl (by rw [hseg]; exact im1 _) (by decide) rfl (fun ls hl => ?_)
                                    refine lv_goto (tgt := 176) C.1 C.2.1 dX12_tells_235 (by decide) ?_
                                    exact iha (m + 1) (x ||| (1 <<< ((nI v) &&& 31))) (k + 1) (nI v) (upd r' (4 * q + 1) (nI v)) u44 _ _ (by omega) (by omega) (by rw [hseg]; show _ = orS _ m (v + 1) ||| bitF _ v; rw [hv1, ← ex]; unfold bitF; rw [if_pos (show (fun v => okF z (mSt σ) (upd (mCu σ q) 2 (nI v)) (fun k => σ.2.1 12 (40 * sn + k)) mm) v = true from decide_eq_true c48), if_pos (by omega)]) (by rw [hseg]; show _ = cnS _ m (v + 1) + (if _ then _ else _); rw [hv1, ← ek]; rw [if_pos (show (fun v => okF z (mSt σ) (upd (mCu σ q) 2 (nI v)) (fun k => σ.2.1 12 (40 * sn + k)) mm) v = true from decide_eq_true c48)]) (by rw [hseg]; show _ = (if _ then _ else leS _ m (v + 1)); rw [hv1, ← ey]; rw [if_pos (show (fun v => okF z (mSt σ) (upd (mCu σ q) 2 (nI v)) (fun k => σ.2.1 12 (40 * sn + k)) mm) v = true from decide_eq_true c48)]) (fun v2 => by rw [upd_upd]; exact hs v2) (mAr.tr (by have y := mAr.sa fra 6 (4 * q + 1) (nI v); rw [va_up_self, bx_uu] at y; exact y : mAr σ (va_up σ.2.1 6 (upd r' (4 * q + 1) (nI v))) _) f46) hP hS ls (lv_sub hl [4, 5, 6, 7, 8, 9, 10, 3, 2, 1, 0] rfl)
                          exact lpa (11) 0 0 0 (-1) (σ.2.1 6) u21 _ _ (by omega) (by omega) (rfl) (rfl) (rfl) (fun v => rfl) ⟨(up_self σ.2.1 6).symm ▸ ((mFs.rf σ).tr f23).1, ((mFs.rf σ).tr f23).2⟩ hP hS ls (lv_sub hl [7, 8, 9, 10, 6, 5, 4, 3, 2, 1, 0] rfl)
                        · exact absurd c26 (by decide)
                      · exact absurd c25 (by decide)
                    · exact absurd c19 (by decide)
                · exact absurd c17 (by decide)
              · exact absurd c16 (by decide)
            · exact absurd c15 (by decide)
          · exact absurd c14 (by decide)
        · refine lv_bipush (v := -11) C.1 C.2.1 dX12_tells_39 (by decide) ?_
          exact mw_iret C hr hlk Z hP hS dX12_tells_41 (⟨by rw [if_neg hgood, esn, if_pos c13], (mFs.rf σ)⟩)
      · have c12 := bI_0.mp c12
        exact absurd (by decide) c12

set_option maxHeartbeats 4000000 in
set_option maxRecDepth 100000 in
theorem cM_tells6 (l : Launch) (E : mw_E) (σ : mw_M) (z : zP) (n : Nat) (hn : σ.1 0 10 = nI n) (h8 : n ≤ 8) (hru : mRu σ z) (hsh : mShs σ.2.1) (ss oo : Int32) : mw_Ci shM 13 gM l yX12_tells cX12_tells 11 (some .int) (rmF 47 1041) E [.ref (mw_a E 0), .int ss, .int oo, .int 6] σ (fun r u => r = (if ¬ (0 ≤ ss.toInt ∧ ss.toInt ≤ 3) ∨ ¬ (0 ≤ oo.toInt ∧ oo.toInt < n) then -2 else if σ.2.1 9 ss.toNatClampNeg = 0 then -11 else tellP3 (fun v => okF z (upd (mSt σ) 1 (nI v)) (mCu σ oo.toNatClampNeg) (fun k => σ.2.1 12 (40 * ss.toNatClampNeg + k)) (σ.2.1 11 ss.toNatClampNeg).toNatClampNeg) 1 6 6) ∧ mFs σ u) := by
  refine mw_of (by decide) gM_ok (Nat.le_of_ble_eq_true rfl) ?_
  intro p_ e_ s_ m_ below meth c_ C hr hlk Z hP ls hl
  have C : CallFix p_ m_ c_ cX12_tells 11 s_ _ lw_good RX12 := C
  have hl : lv_has ls 11 [(0, .ref (mw_a E 0)), (1, .int ss), (2, .int oo), (3, .int 6)] := hl
  have hS : va_S (mw_A 13 E) s_.heap s_.heap [] := va_S.rf
  refine lv_iload_n C.1 C.2.1 dX12_tells_0 rfl (lv_at hl 1 rfl) ?_
  refine mw_cSi (As := [.int ss]) (rest := []) C Z hP hS (cM_isSheet l E σ ss) sb_X12_isSheet tw_6_130 ⟨rfl, rfl⟩ ⟨Nat.le_of_ble_eq_true rfl, Nat.le_of_ble_eq_true rfl⟩ rfl hl.1 rfl (Nat.le_of_ble_eq_true rfl) dX12_tells_1 ⟨Nat.zero_le _, Nat.zero_le _⟩ (fun r1 u2 H locs q3 hP hS => ?_)
  obtain ⟨rfl, q3u⟩ := q3
  rw [q3u] at hP; clear q3u
  refine lv_if_eq (tgt := 27) C.1 C.2.1 dX12_tells_4 (by decide) (fun c4 => ?_) (fun c4 => ?_)
  · have c4 := bI_0.mp c4
    refine lv_bipush (v := -2) C.1 C.2.1 dX12_tells_27 (by decide) ?_
    exact mw_iret C hr hlk Z hP hS dX12_tells_29 (⟨by rw [if_pos (Or.inl c4)], (mFs.rf σ)⟩)
  · have c4 := bI_n.mp c4
    have hrs := c4
    obtain ⟨sn, hsn, esn⟩ := nI_ofI (k := 3) hrs.1 hrs.2
    subst esn
    refine lv_aload_n C.1 C.2.1 dX12_tells_7 rfl (lv_at hl 0 rfl) ?_
    refine lv_iload_n C.1 C.2.1 dX12_tells_8 rfl (lv_at hl 2 rfl) ?_
    refine mw_cVi (As := [.int oo]) (rest := []) C Z hP hS (0) (cM_isOne l E σ oo n hn h8) vb_X12_isOne tw_5_36 ⟨rfl, rfl⟩ ⟨Nat.le_of_ble_eq_true rfl, Nat.le_of_ble_eq_true rfl⟩ (by decide) rfl rfl rfl rfl hl.1 rfl (Nat.le_of_ble_eq_true rfl) dX12_tells_9 ⟨Nat.zero_le _, Nat.zero_le _⟩ (fun r5 u6 H locs q7 hP hS => ?_)
    obtain ⟨rfl, q7u⟩ := q7
    rw [q7u] at hP; clear q7u
    refine lv_if_eq (tgt := 27) C.1 C.2.1 dX12_tells_12 (by decide) (fun c8 => ?_) (fun c8 => ?_)
    · have c8 := bI_0.mp c8
      refine lv_bipush (v := -2) C.1 C.2.1 dX12_tells_27 (by decide) ?_
      exact mw_iret C hr hlk Z hP hS dX12_tells_29 (⟨by rw [if_pos (Or.inr c8)], (mFs.rf σ)⟩)
    · have c8 := bI_n.mp c8
      have hro := c8
      obtain ⟨q, hq, eq⟩ := nI_ofI (k := 7) hro.1 (by omega)
      subst eq
      have hqn : q < n := by have := hro.2; rw [nI_toInt (by omega)] at this; omega
      have hgood : ¬ (¬ (0 ≤ (nI sn).toInt ∧ (nI sn).toInt ≤ 3) ∨ ¬ (0 ≤ (nI q).toInt ∧ (nI q).toInt < n)) := fun y => y.elim (fun y => y hrs) (fun y => y hro)
      have esn : (nI sn).toNatClampNeg = sn := nI_clamp (by omega)
      have eqn : (nI q).toNatClampNeg = q := nI_clamp (by omega)
      refine lv_iload_n C.1 C.2.1 dX12_tells_15 rfl (lv_at hl 3 rfl) ?_
      refine lv_i2l C.1 C.2.1 dX12_tells_16 rfl ?_
      refine lv_lconst (v := 0) C.1 C.2.1 dX12_tells_17 (by decide) ?_
      refine lv_ldc2 (own := RX12) C.1 C.2.1 C.2.2.2.1 (C.2.2.2.2 _ tw_5_32) dX12_tells_18 ?_
      refine mw_cSi (As := [.long ((6 : Int32).toInt64), .long (0), .long (7)]) (rest := []) C Z hP hS (cM_in l E σ ((6 : Int32).toInt64) 0 7 (0 ≤ (6 : Int32).toInt ∧ (6 : Int32).toInt ≤ 7) (by first | (simp only [nl_i]; exact Iff.rfl) | (simp only [nl_i]; decide) | simp [nl_i])) sb_X12_in tw_5_33 ⟨rfl, rfl⟩ ⟨Nat.le_of_ble_eq_true rfl, Nat.le_of_ble_eq_true rfl⟩ rfl hl.1 rfl (Nat.le_of_ble_eq_true rfl) dX12_tells_21 ⟨Nat.zero_le _, Nat.zero_le _⟩ (fun r9 u10 H locs q11 hP hS => ?_)
      obtain ⟨rfl, q11u⟩ := q11
      rw [q11u] at hP; clear q11u
      refine lv_if_ne (tgt := 30) C.1 C.2.1 dX12_tells_24 (by decide) (fun c12 => ?_) (fun c12 => ?_)
      · have c12 := bI_n.mp c12
        refine lv_aload_n C.1 C.2.1 dX12_tells_30 rfl (lv_at hl 0 rfl) ?_
        refine mw_getr C Z hP (0) 30 (9) (by decide) rfl rfl rfl (by decide) inX12 tw_4_194 dX12_tells_31 ?_
        refine lv_iload_n C.1 C.2.1 dX12_tells_34 rfl (lv_at hl 1 rfl) ?_
        refine mw_zald C Z hP (9) (sn) (by decide) rfl (Nat.lt_of_lt_of_le (by decide : 4 < 961) (Nat.le_of_ble_eq_true rfl)) rfl (by omega) dX12_tells_35 ?_
        refine lv_if_ne (tgt := 42) C.1 C.2.1 dX12_tells_36 (by decide) (fun c13 => ?_) (fun c13 => ?_)
        · have hth := c13
          obtain ⟨mm, hmm, hm⟩ := ((hsh sn (by omega)).resolve_left hth).2
          refine lv_iload_n C.1 C.2.1 dX12_tells_42 rfl (lv_at hl 3 rfl) ?_
          refine lv_if_ne (tgt := 53) C.1 C.2.1 dX12_tells_43 (by decide) (fun c14 => ?_) (fun c14 => ?_)
          · refine lv_iload_n C.1 C.2.1 dX12_tells_53 rfl (lv_at hl 3 rfl) ?_
            refine lv_iconst (v := 1) C.1 C.2.1 dX12_tells_54 (by decide) ?_
            refine lv_icmp_ne (tgt := 63) C.1 C.2.1 dX12_tells_55 (by decide) (fun c15 => ?_) (fun c15 => ?_)
            · refine lv_iload_n C.1 C.2.1 dX12_tells_63 rfl (lv_at hl 3 rfl) ?_
              refine lv_iconst (v := 2) C.1 C.2.1 dX12_tells_64 (by decide) ?_
              refine lv_icmp_ne (tgt := 72) C.1 C.2.1 dX12_tells_65 (by decide) (fun c16 => ?_) (fun c16 => ?_)
              · refine lv_iload_n C.1 C.2.1 dX12_tells_72 rfl (lv_at hl 3 rfl) ?_
                refine lv_iconst (v := 5) C.1 C.2.1 dX12_tells_73 (by decide) ?_
                refine lv_icmp_ge (tgt := 82) C.1 C.2.1 dX12_tells_74 (by decide) (fun c17 => ?_) (fun c17 => ?_)
                · refine lv_iload_n C.1 C.2.1 dX12_tells_82 rfl (lv_at hl 3 rfl) ?_
                  refine lv_iconst (v := 5) C.1 C.2.1 dX12_tells_83 (by decide) ?_
                  refine lv_icmp_ne (tgt := 92) C.1 C.2.1 dX12_tells_84 (by decide) (fun c18 => ?_) (fun c18 => ?_)
                  · refine lv_iload_n C.1 C.2.1 dX12_tells_92 rfl (lv_at hl 3 rfl) ?_
                    refine lv_bipush (v := 6) C.1 C.2.1 dX12_tells_93 (by decide) ?_
                    refine lv_icmp_ne (tgt := 102) C.1 C.2.1 dX12_tells_95 (by decide) (fun c19 => ?_) (fun c19 => ?_)
                    · exact absurd c19 (by decide)
                    · refine lv_iconst (v := 1) C.1 C.2.1 dX12_tells_98 (by decide) ?_
                      refine lv_goto (tgt := 104) C.1 C.2.1 dX12_tells_99 (by decide) ?_
                      refine lv_istore (lv' := [(4, .int 1), (0, .ref (mw_a E 0)), (1, .int (nI sn)), (2, .int (nI q)), (3, .int 6)]) C.1 C.2.1 dX12_tells_104 hl (by decide) rfl (fun ls hl => ?_)
                      refine lv_iload C.1 C.2.1 dX12_tells_106 (lv_at hl 0 rfl) ?_
                      refine lv_bipush (v := 9) C.1 C.2.1 dX12_tells_108 (by decide) ?_
                      refine lv_icmp_ne (tgt := 120) C.1 C.2.1 dX12_tells_110 (by decide) (fun c20 => ?_) (fun c20 => ?_)
                      · refine lv_aload_n C.1 C.2.1 dX12_tells_120 rfl (lv_at hl 1 rfl) ?_
                        refine lv_iload_n C.1 C.2.1 dX12_tells_121 rfl (lv_at hl 3 rfl) ?_
                        refine lv_iload C.1 C.2.1 dX12_tells_122 (lv_at hl 0 rfl) ?_
                        refine mw_cVi (As := [.int (nI q), .int 1]) (rest := []) C Z hP hS (0) (cM_told l E σ z n ((mFs.rf σ).many hn) h8 ((mFs.rf σ).ru hru) (nI q) 1) vb_X12_told tw_5_46 ⟨rfl, rfl⟩ ⟨Nat.le_of_ble_eq_true rfl, Nat.le_of_ble_eq_true rfl⟩ (by decide) rfl rfl rfl rfl hl.1 rfl (Nat.le_of_ble_eq_true rfl) dX12_tells_124 ⟨Nat.zero_le _, Nat.zero_le _⟩ (fun r21 u22 H locs q23 hP hS => ?_)
                        obtain ⟨e25, f24⟩ := q23
                        rw [(mFs.rf σ).st, show mCu (σ) = mCu σ from funext fun p => (mFs.rf σ).cu p] at e25
                        subst e25
                        have hwas : toldF z (mSt σ) (mCu σ) n (nI q) 1 = mSt σ 1 := by unfold toldF; rw [if_neg (fun y => y.elim (fun y => y (by decide)) (fun y => y.2 ⟨by rw [nI_toInt (by omega)]; omega, by rw [nI_toInt (by omega)]; omega⟩)), eqn]; rfl
                        refine mw_top (y := mSt σ 1) hwas ?_
                        refine lv_istore (lv' := [(5, .int (mSt σ 1)), (4, .int 1), (0, .ref (mw_a E 0)), (1, .int (nI sn)), (2, .int (nI q)), (3, .int 6)]) C.1 C.2.1 dX12_tells_127 hl (by decide) rfl (fun ls hl => ?_)
                        refine lv_iload C.1 C.2.1 dX12_tells_129 (lv_at hl 1 rfl) ?_
                        refine lv_bipush (v := 9) C.1 C.2.1 dX12_tells_131 (by decide) ?_
                        refine lv_icmp_ne (tgt := 145) C.1 C.2.1 dX12_tells_133 (by decide) (fun c26 => ?_) (fun c26 => ?_)
                        · refine lv_iload C.1 C.2.1 dX12_tells_145 (lv_at hl 1 rfl) ?_
                          refine lv_bipush (v := 8) C.1 C.2.1 dX12_tells_147 (by decide) ?_
                          refine lv_icmp_ne (tgt := 156) C.1 C.2.1 dX12_tells_149 (by decide) (fun c27 => ?_) (fun c27 => ?_)
                          · refine lv_iload C.1 C.2.1 dX12_tells_156 (lv_at hl 1 rfl) ?_
                            refine mw_cSi (As := [.int 1]) (rest := []) C Z hP hS (cM_mostOf l E u22 1) sb_X12_mostOf tw_5_43 ⟨rfl, rfl⟩ ⟨Nat.le_of_ble_eq_true rfl, Nat.le_of_ble_eq_true rfl⟩ rfl hl.1 rfl (Nat.le_of_ble_eq_true rfl) dX12_tells_158 ⟨Nat.zero_le _, Nat.zero_le _⟩ (fun r28 u29 H locs q30 hP hS => ?_)
                            obtain ⟨rfl, q30u⟩ := q30
                            rw [q30u] at hP; clear q30u
                            refine mw_top (y := 6) (by decide) ?_
                            refine lv_istore (lv' := [(6, .int 6), (5, .int (mSt σ 1)), (4, .int 1), (0, .ref (mw_a E 0)), (1, .int (nI sn)), (2, .int (nI q)), (3, .int 6)]) C.1 C.2.1 dX12_tells_161 hl (by decide) rfl (fun ls hl => ?_)
                            refine lv_iconst (v := 0) C.1 C.2.1 dX12_tells_163 (by decide) ?_
                            refine lv_istore (lv' := [(7, .int 0), (6, .int 6), (5, .int (mSt σ 1)), (4, .int 1), (0, .ref (mw_a E 0)), (1, .int (nI sn)), (2, .int (nI q)), (3, .int 6)]) C.1 C.2.1 dX12_tells_164 hl (by decide) rfl (fun ls hl => ?_)
                            refine lv_iconst (v := 0) C.1 C.2.1 dX12_tells_166 (by decide) ?_
                            refine lv_istore (lv' := [(8, .int 0), (7, .int 0), (6, .int 6), (5, .int (mSt σ 1)), (4, .int 1), (0, .ref (mw_a E 0)), (1, .int (nI sn)), (2, .int (nI q)), (3, .int 6)]) C.1 C.2.1 dX12_tells_167 hl (by decide) rfl (fun ls hl => ?_)
                            refine lv_iconst (v := -1) C.1 C.2.1 dX12_tells_169 (by decide) ?_
                            refine lv_istore (lv' := [(9, .int (-1)), (8, .int 0), (7, .int 0), (6, .int 6), (5, .int (mSt σ 1)), (4, .int 1), (0, .ref (mw_a E 0)), (1, .int (nI sn)), (2, .int (nI q)), (3, .int 6)]) C.1 C.2.1 dX12_tells_170 hl (by decide) rfl (fun ls hl => ?_)
                            refine lv_iload C.1 C.2.1 dX12_tells_172 (lv_at hl 3 rfl) ?_
                            refine mw_top (y := nI (7 - 0) - 1) (by decide) ?_
                            refine lv_istore (lv' := [(10, .int (nI (7 - 0) - 1)), (9, .int (-1)), (8, .int 0), (7, .int 0), (6, .int 6), (5, .int (mSt σ 1)), (4, .int 1), (0, .ref (mw_a E 0)), (1, .int (nI sn)), (2, .int (nI q)), (3, .int 6)]) C.1 C.2.1 dX12_tells_174 hl (by decide) rfl (fun ls hl => ?_)
                            have lpa : ∀ (N : Nat) (m : Nat) (x : Int32) (k : Nat) (y : Int32) (r' : Nat → Int32) (ςa : mw_M) (H : Heap) (locs : List Loc), 7 ≤ m + N → (m ≤ 6) → (x = orS (bitF (fun v => okF z (upd (mSt σ) 1 (nI v)) (mCu σ q) (fun k => σ.2.1 12 (40 * sn + k)) mm)) m (7 - m)) → (k = cnS (fun v => okF z (upd (mSt σ) 1 (nI v)) (mCu σ q) (fun k => σ.2.1 12 (40 * sn + k)) mm) m (7 - m)) → (y = leS (fun v => okF z (upd (mSt σ) 1 (nI v)) (mCu σ q) (fun k => σ.2.1 12 (40 * sn + k)) mm) m (7 - m)) → (∀ v, upd r' 1 v = upd (σ.2.1 4) 1 v) → mAr σ (va_up σ.2.1 4 r') ςa → va_P (mw_D E) vwCl (mw_ws shM 13 E ςa) H → va_S (mw_A 13 E) s_.heap H locs → ∀ (ls : Array Slot), lv_has ls 11 [(0, .ref (mw_a E 0)), (1, .int (nI sn)), (2, .int (nI q)), (3, .int 6), (4, .int 1), (5, .int (mSt σ 1)), (6, .int 6), (7, .int x), (8, .int (nI k)), (9, .int y), (10, .int (nI (7 - m) - 1))] → mWi p_ l e_ (rmF 47 1041) s_ m_ [.ref (mw_a E 0), .int (nI sn), .int (nI q), .int 6] below meth c_ E (fun r u => r = (if ¬ (0 ≤ (nI sn).toInt ∧ (nI sn).toInt ≤ 3) ∨ ¬ (0 ≤ (nI q).toInt ∧ (nI q).toInt < n) then -2 else if σ.2.1 9 (nI sn).toNatClampNeg = 0 then -11 else tellP3 (fun v => okF z (upd (mSt σ) 1 (nI v)) (mCu σ (nI q).toNatClampNeg) (fun k => σ.2.1 12 (40 * (nI sn).toNatClampNeg + k)) (σ.2.1 11 (nI sn).toNatClampNeg).toNatClampNeg) 1 6 6) ∧ mFs σ u) H locs (F0 m_ 176 ls []) := by
                              intro N
                              induction N with
                              | zero => intros; exfalso; omega
                              | succ N iha =>
                                intro m x k y r' ςa H locs hNa hm5 ex ek ey hs fra hP hS ls hl
                                refine lv_iload C.1 C.2.1 dX12_tells_176 (lv_at hl 10 rfl) ?_
                                refine lv_iload C.1 C.2.1 dX12_tells_178 (lv_at hl 4 rfl) ?_
                                refine mw_cSi (As := [.int 1]) (rest := [.int (nI (7 - m) - 1)]) C Z hP hS (cM_leastOf l E ςa 1) sb_X12_leastOf tw_5_40 ⟨rfl, rfl⟩ ⟨Nat.le_of_ble_eq_true rfl, Nat.le_of_ble_eq_true rfl⟩ rfl hl.1 rfl (Nat.le_of_ble_eq_true rfl) dX12_tells_180 ⟨Nat.zero_le _, Nat.zero_le _⟩ (fun r31 u32 H locs q33 hP hS => ?_)
                                obtain ⟨rfl, q33u⟩ := q33
                                rw [q33u] at hP; clear q33u
                                refine mw_top (y := 1) (by decide) ?_
                                refine lv_icmp_lt (tgt := 238) C.1 C.2.1 dX12_tells_183 (by decide) (fun c34 => ?_) (fun c34 => ?_)
                                · have c34 : m = 6 := by have y := (ni_lt _ _).mp c34; rw [nI_p1 (a := 7 - m) (by omega)] at y; have e : (1 : Int32).toInt = 1 := rfl; omega
                                  have hback : va_up σ.2.1 4 (upd (σ.2.1 4) 1 (mSt σ 1)) = σ.2.1 := by rw [show mSt σ 1 = σ.2.1 4 1 from rfl, upd_self]; exact up_self _ _
                                  refine lv_aload_n C.1 C.2.1 dX12_tells_238 rfl (lv_at hl 0 rfl) ?_
                                  refine lv_iload C.1 C.2.1 dX12_tells_239 (lv_at hl 4 rfl) ?_
                                  refine lv_iload_n C.1 C.2.1 dX12_tells_241 rfl (lv_at hl 2 rfl) ?_
                                  refine lv_iload C.1 C.2.1 dX12_tells_242 (lv_at hl 5 rfl) ?_
                                  refine mw_cVv (As := [.int 1, .int (nI q), .int (mSt σ 1)]) (rest := []) C Z hP hS (0) (cM_lays1 l E ςa (nI q) (mSt σ 1)) vb_X12_lays tw_6_34 ⟨rfl, rfl⟩ ⟨Nat.le_of_ble_eq_true rfl, Nat.le_of_ble_eq_true rfl⟩ (by decide) rfl rfl rfl rfl hl.1 rfl (Nat.le_of_ble_eq_true rfl) dX12_tells_244 ⟨Nat.zero_le _, Nat.zero_le _⟩ (fun u36 H locs q37 hP hS => ?_)
                                  rw [q37] at hP; clear q37
                                  refine lv_iload_n C.1 C.2.1 dX12_tells_247 rfl (lv_at hl 3 rfl) ?_
                                  refine lv_iconst (v := 3) C.1 C.2.1 dX12_tells_248 (by decide) ?_
                                  refine lv_icmp_ne (tgt := 257) C.1 C.2.1 dX12_tells_249 (by decide) (fun c38 => ?_) (fun c38 => ?_)
                                  · refine lv_iload_n C.1 C.2.1 dX12_tells_257 rfl (lv_at hl 3 rfl) ?_
                                    refine lv_iconst (v := 4) C.1 C.2.1 dX12_tells_258 (by decide) ?_
                                    refine lv_icmp_ne (tgt := 267) C.1 C.2.1 dX12_tells_259 (by decide) (fun c39 => ?_) (fun c39 => ?_)
                                    · refine lv_iload C.1 C.2.1 dX12_tells_267 (lv_at hl 7 rfl) ?_
                                      have em : m = 6 := by omega
                                      rw [em] at ex ek ey
                                      exact mw_iret C hr hlk Z hP hS dX12_tells_269 (⟨by rw [if_neg hgood, esn, if_neg hth, eqn, hm, nI_clamp (n := mm) (by omega)]; unfold tellP3; rw [if_neg (by decide), if_neg (by decide), ex], ⟨((by have y := mAr.sa fra 4 1 (mSt σ 1); rw [va_up_self, bx_uu] at y; exact y : mAr σ (va_up σ.2.1 4 (upd r' 1 (mSt σ 1))) _)).1.trans (by rw [hs]; exact hback), ((by have y := mAr.sa fra 4 1 (mSt σ 1); rw [va_up_self, bx_uu] at y; exact y : mAr σ (va_up σ.2.1 4 (upd r' 1 (mSt σ 1))) _)).2⟩⟩)
                                    · exact absurd c39 (by decide)
                                  · exact absurd c38 (by decide)
                                · have c34 : m < 6 := by have y := (not_congr (ni_lt _ _)).mp c34; rw [nI_p1 (a := 7 - m) (by omega)] at y; have e : (1 : Int32).toInt = 1 := rfl; omega
                                  obtain ⟨v, hv⟩ : ∃ v, v + 1 = 7 - m := ⟨7 - m - 1, by omega⟩
                                  have hv1 : v + 1 = 7 - m := hv
                                  have hseg : 7 - (m + 1) = v := by omega
                                  rw [show nI (7 - m) - 1 = nI v by rw [← hv]; exact nI_pred v] at hl
                                  refine lv_aload_n C.1 C.2.1 dX12_tells_186 rfl (lv_at hl 0 rfl) ?_
                                  refine lv_iload C.1 C.2.1 dX12_tells_187 (lv_at hl 4 rfl) ?_
                                  refine lv_iload_n C.1 C.2.1 dX12_tells_189 rfl (lv_at hl 2 rfl) ?_
                                  refine lv_iload C.1 C.2.1 dX12_tells_190 (lv_at hl 10 rfl) ?_
                                  refine mw_cVv (As := [.int 1, .int (nI q), .int (nI v)]) (rest := []) C Z hP hS (0) (cM_lays1 l E ςa (nI q) (nI v)) vb_X12_lays tw_6_34 ⟨rfl, rfl⟩ ⟨Nat.le_of_ble_eq_true rfl, Nat.le_of_ble_eq_true rfl⟩ (by decide) rfl rfl rfl rfl hl.1 rfl (Nat.le_of_ble_eq_true rfl) dX12_tells_192 ⟨Nat.zero_le _, Nat.zero_le _⟩ (fun u41 H locs q42 hP hS => ?_)
                                  rw [q42] at hP; clear q42
                                  refine lv_aload_n C.1 C.2.1 dX12_tells_195 rfl (lv_at hl 0 rfl) ?_
                                  refine lv_iload_n C.1 C.2.1 dX12_tells_196 rfl (lv_at hl 1 rfl) ?_
                                  refine lv_iload_n C.1 C.2.1 dX12_tells_197 rfl (lv_at hl 2 rfl) ?_
                                  have hX43 : mAr σ (va_up σ.2.1 4 (upd (σ.2.1 4) 1 (nI v))) (mw_sa ςa 4 1 (nI v)) := by have y := (by have y := mAr.sa fra 4 1 (nI v); rw [va_up_self, bx_uu] at y; exact y : mAr σ (va_up σ.2.1 4 (upd r' 1 (nI v))) _); rw [hs] at y; exact y
                                  have hst : mSt (mw_sa ςa 4 1 (nI v)) = (upd (mSt σ) 1 (nI v)) := by unfold mSt; rw [hX43.1]; rfl
                                  have hcu : mCu (mw_sa ςa 4 1 (nI v)) q = mCu σ q := by unfold mCu; rw [hX43.1]; rfl
                                  refine mw_cVi (As := [.int (nI sn), .int (nI q)]) (rest := []) C Z hP hS (0) (cM_firstOther l E (mw_sa ςa 4 1 (nI v)) z q (by omega) (hX43.ru rfl rfl hru) sn mm (by omega) (by rw [hX43.1]; exact hm) hmm) vb_X12_firstOther tw_6_134 ⟨rfl, rfl⟩ ⟨Nat.le_of_ble_eq_true rfl, Nat.le_of_ble_eq_true rfl⟩ (by decide) rfl rfl rfl rfl hl.1 rfl (Nat.le_of_ble_eq_true rfl) dX12_tells_198 ⟨Nat.zero_le _, Nat.zero_le _⟩ (fun r44 u45 H locs q46 hP hS => ?_)
                                  obtain ⟨e48, f47⟩ := q46
                                  rw [hst, hcu, show (mw_sa ςa 4 1 (nI v)).2.1 12 = σ.2.1 12 by rw [hX43.1]; rfl] at e48
                                  subst e48
                                  refine lv_iconst (v := -1) C.1 C.2.1 dX12_tells_201 (by decide) ?_
                                  refine lv_icmp_ne (tgt := 232) C.1 C.2.1 dX12_tells_202 (by decide) (fun c49 => ?_) (fun c49 => ?_)
                                  · refine lv_iinc (v := nI (7 - (m + 1)) - 1) (lv' := [(10, .int (nI (7 - (m + 1)) - 1)), (0, .ref (mw_a E 0)), (1, .int (nI sn)), (2, .int (nI q)), (3, .int 6), (4, .int 1), (5, .int (mSt σ 1)), (6, .int 6), (7, .int x), (8, .int (nI k)), (9, .int y)]) C.1 C.2.1 dX12_tells_232 hl (k := 10) rfl (by rw [hseg]; exact im1 _) (by decide) rfl (fun ls hl => ?_)
                                    refine lv_goto (tgt := 176) C.1 C.2.1 dX12_tells_235 (by decide) ?_
                                    exact iha (m + 1) x k y (upd r' 1 (nI v)) u45 _ _ (by omega) (by omega) (by rw [hseg]; show _ = orS _ m (v + 1) ||| bitF _ v; rw [hv1, ← ex]; unfold bitF; rw [if_neg (show ¬ (fun v => okF z (upd (mSt σ) 1 (nI v)) (mCu σ q) (fun k => σ.2.1 12 (40 * sn + k)) mm) v = true from fun y => c49 (of_decide_eq_true y)), Int32.or_zero]) (by rw [hseg]; show _ = cnS _ m (v + 1) + (if _ then _ else _); rw [hv1, ← ek]; rw [if_neg (show ¬ (fun v => okF z (upd (mSt σ) 1 (nI v)) (mCu σ q) (fun k => σ.2.1 12 (40 * sn + k)) mm) v = true from fun y => c49 (of_decide_eq_true y))]; rfl) (by rw [hseg]; show _ = (if _ then _ else leS _ m (v + 1)); rw [hv1, ← ey]; rw [if_neg (show ¬ (fun v => okF z (upd (mSt σ) 1 (nI v)) (mCu σ q) (fun k => σ.2.1 12 (40 * sn + k)) mm) v = true from fun y => c49 (of_decide_eq_true y))]) (fun v2 => by rw [upd_upd]; exact hs v2) (mAr.tr (by have y := mAr.sa fra 4 1 (nI v); rw [va_up_self, bx_uu] at y; exact y : mAr σ (va_up σ.2.1 4 (upd r' 1 (nI v))) _) f47) hP hS ls (lv_sub hl [1, 2, 3, 4, 5, 6, 7, 8, 9, 10, 0] rfl)
                                  · refine lv_iload C.1 C.2.1 dX12_tells_205 (lv_at hl 7 rfl) ?_
                                    refine lv_iload C.1 C.2.1 dX12_tells_207 (lv_at hl 10 rfl) ?_
                                    refine lv_bipush (v := 10) C.1 C.2.1 dX12_tells_209 (by decide) ?_
                                    refine lv_icmp_ge (tgt := 221) C.1 C.2.1 dX12_tells_211 (by decide) (fun c50 => ?_) (fun c50 => ?_)
                                    · have c50 : _ := (nI_leI (a := 10) (by decide) (by omega)).mp c50
                                      refine lv_iconst (v := 0) C.1 C.2.1 dX12_tells_221 (by decide) ?_
                                      refine lv_ior C.1 C.2.1 dX12_tells_222 ?_
                                      refine lv_istore (lv' := [(7, .int (x ||| 0)), (0, .ref (mw_a E 0)), (1, .int (nI sn)), (2, .int (nI q)), (3, .int 6), (4, .int 1), (5, .int (mSt σ 1)), (6, .int 6), (8, .int (nI k)), (9, .int y), (10, .int (nI v))]) C.1 C.2.1 dX12_tells_223 hl (by decide) rfl (fun ls hl => ?_)
                                      refine lv_iinc (v := nI (k + 1)) (lv' := [(8, .int (nI (k + 1))), (7, .int (x ||| 0)), (0, .ref (mw_a E 0)), (1, .int (nI sn)), (2, .int (nI q)), (3, .int 6), (4, .int 1), (5, .int (mSt σ 1)), (6, .int 6), (9, .int y), (10, .int (nI v))]) C.1 C.2.1 dX12_tells_225 hl (k := 8) rfl (nI_1 _) (by decide) rfl (fun ls hl => ?_)
                                      refine lv_iload C.1 C.2.1 dX12_tells_228 (lv_at hl 10 rfl) ?_
                                      refine lv_istore (lv' := [(9, .int (nI v)), (8, .int (nI (k + 1))), (7, .int (x ||| 0)), (0, .ref (mw_a E 0)), (1, .int (nI sn)), (2, .int (nI q)), (3, .int 6), (4, .int 1), (5, .int (mSt σ 1)), (6, .int 6), (10, .int (nI v))]) C.1 C.2.1 dX12_tells_230 hl (by decide) rfl (fun ls hl => ?_)
                                      refine lv_iinc (v := nI (7 - (m + 1)) - 1) (lv' := [(10, .int (nI (7 - (m + 1)) - 1)), (9, .int (nI v)), (8, .int (nI (k + 1))), (7, .int (x ||| 0)), (0, .ref (mw_a E 0)), (1, .int (nI sn)), (2, .int (nI q)), (3, .int 6), (4, .int 1), (5, .int (mSt σ 1)), (6, .int 6)]) C.1 C.2.1 dX12_tells_232 hl (k := 10) rfl (by rw [hseg]; exact im1 _) (by decide) rfl (fun ls hl => ?_)
                                      refine lv_goto (tgt := 176) C.1 C.2.1 dX12_tells_235 (by decide) ?_
                                      exact iha (m + 1) (x ||| 0) (k + 1) (nI v) (upd r' 1 (nI v)) u45 _ _ (by omega) (by omega) (by rw [hseg]; show _ = orS _ m (v + 1) ||| bitF _ v; rw [hv1, ← ex]; unfold bitF; rw [if_pos (show (fun v => okF z (upd (mSt σ) 1 (nI v)) (mCu σ q) (fun k => σ.2.1 12 (40 * sn + k)) mm) v = true from decide_eq_true c49), if_neg (by omega)]) (by rw [hseg]; show _ = cnS _ m (v + 1) + (if _ then _ else _); rw [hv1, ← ek]; rw [if_pos (show (fun v => okF z (upd (mSt σ) 1 (nI v)) (mCu σ q) (fun k => σ.2.1 12 (40 * sn + k)) mm) v = true from decide_eq_true c49)]) (by rw [hseg]; show _ = (if _ then _ else leS _ m (v + 1)); rw [hv1, ← ey]; rw [if_pos (show (fun v => okF z (upd (mSt σ) 1 (nI v)) (mCu σ q) (fun k => σ.2.1 12 (40 * sn + k)) mm) v = true from decide_eq_true c49)]) (fun v2 => by rw [upd_upd]; exact hs v2) (mAr.tr (by have y := mAr.sa fra 4 1 (nI v); rw [va_up_self, bx_uu] at y; exact y : mAr σ (va_up σ.2.1 4 (upd r' 1 (nI v))) _) f47) hP hS ls (lv_sub hl [4, 5, 6, 7, 8, 9, 10, 3, 2, 1, 0] rfl)
                                    · have c50 : _ := (not_congr (nI_leI (a := 10) (by decide) (by omega))).mp c50
                                      refine lv_iconst (v := 1) C.1 C.2.1 dX12_tells_214 (by decide) ?_
                                      refine lv_iload C.1 C.2.1 dX12_tells_215 (lv_at hl 10 rfl) ?_
                                      refine lv_ishl C.1 C.2.1 dX12_tells_217 ?_
                                      refine lv_goto (tgt := 222) C.1 C.2.1 dX12_tells_218 (by decide) ?_
                                      refine lv_ior C.1 C.2.1 dX12_tells_222 ?_
                                      refine lv_istore (lv' := [(7, .int (x ||| (1 <<< ((nI v) &&& 31)))), (0, .ref (mw_a E 0)), (1, .int (nI sn)), (2, .int (nI q)), (3, .int 6), (4, .int 1), (5, .int (mSt σ 1)), (6, .int 6), (8, .int (nI k)), (9, .int y), (10, .int (nI v))]) C.1 C.2.1 dX12_tells_223 hl (by decide) rfl (fun ls hl => ?_)
                                      refine lv_iinc (v := nI (k + 1)) (lv' := [(8, .int (nI (k + 1))), (7, .int (x ||| (1 <<< ((nI v) &&& 31)))), (0, .ref (mw_a E 0)), (1, .int (nI sn)), (2, .int (nI q)), (3, .int 6), (4, .int 1), (5, .int (mSt σ 1)), (6, .int 6), (9, .int y), (10, .int (nI v))]) C.1 C.2.1 dX12_tells_225 hl (k := 8) rfl (nI_1 _) (by decide) rfl (fun ls hl => ?_)
                                      refine lv_iload C.1 C.2.1 dX12_tells_228 (lv_at hl 10 rfl) ?_
                                      refine lv_istore (lv' := [(9, .int (nI v)), (8, .int (nI (k + 1))), (7, .int (x ||| (1 <<< ((nI v) &&& 31)))), (0, .ref (mw_a E 0)), (1, .int (nI sn)), (2, .int (nI q)), (3, .int 6), (4, .int 1), (5, .int (mSt σ 1)), (6, .int 6), (10, .int (nI v))]) C.1 C.2.1 dX12_tells_230 hl (by decide) rfl (fun ls hl => ?_)
                                      refine lv_iinc (v := nI (7 - (m + 1)) - 1) (lv' := [(10, .int (nI (7 - (m + 1)) - 1)), (9, .int (nI v)), (8, .int (nI (k + 1))), (7, .int (x ||| (1 <<< ((nI v) &&& 31)))), (0, .ref (mw_a E 0)), (1, .int (nI sn)), (2, .int (nI q)), (3, .int 6), (4, .int 1), (5, .int (mSt σ 1)), (6, .int 6)]) C.1 C.2.1 dX12_tells_232 hl (k := 10) rfl (by rw [hseg]; exact im1 _) (by decide) rfl (fun ls hl => ?_)
                                      refine lv_goto (tgt := 176) C.1 C.2.1 dX12_tells_235 (by decide) ?_
                                      exact iha (m + 1) (x ||| (1 <<< ((nI v) &&& 31))) (k + 1) (nI v) (upd r' 1 (nI v)) u45 _ _ (by omega) (by omega) (by rw [hseg]; show _ = orS _ m (v + 1) ||| bitF _ v; rw [hv1, ← ex]; unfold bitF; rw [if_pos (show (fun v => okF z (upd (mSt σ) 1 (nI v)) (mCu σ q) (fun k => σ.2.1 12 (40 * sn + k)) mm) v = true from decide_eq_true c49), if_pos (by omega)]) (by rw [hseg]; show _ = cnS _ m (v + 1) + (if _ then _ else _); rw [hv1, ← ek]; rw [if_pos (show (fun v => okF z (upd (mSt σ) 1 (nI v)) (mCu σ q) (fun k => σ.2.1 12 (40 * sn + k)) mm) v = true from decide_eq_true c49)]) (by rw [hseg]; show _ = (if _ then _ else leS _ m (v + 1)); rw [hv1, ← ey]; rw [if_pos (show (fun v => okF z (upd (mSt σ) 1 (nI v)) (mCu σ q) (fun k => σ.2.1 12 (40 * sn + k)) mm) v = true from decide_eq_true c49)]) (fun v2 => by rw [upd_upd]; exact hs v2) (mAr.tr (by have y := mAr.sa fra 4 1 (nI v); rw [va_up_self, bx_uu] at y; exact y : mAr σ (va_up σ.2.1 4 (upd r' 1 (nI v))) _) f47) hP hS ls (lv_sub hl [4, 5, 6, 7, 8, 9, 10, 3, 2, 1, 0] rfl)
                            exact lpa (7) 0 0 0 (-1) (σ.2.1 4) u22 _ _ (by omega) (by omega) (rfl) (rfl) (rfl) (fun v => rfl) ⟨(up_self σ.2.1 4).symm ▸ ((mFs.rf σ).tr f24).1, ((mFs.rf σ).tr f24).2⟩ hP hS ls (lv_sub hl [7, 8, 9, 10, 6, 5, 4, 3, 2, 1, 0] rfl)
                          · exact absurd c27 (by decide)
                        · exact absurd c26 (by decide)
                      · exact absurd c20 (by decide)
                  · exact absurd c18 (by decide)
                · exact absurd c17 (by decide)
              · exact absurd c16 (by decide)
            · exact absurd c15 (by decide)
          · exact absurd c14 (by decide)
        · refine lv_bipush (v := -11) C.1 C.2.1 dX12_tells_39 (by decide) ?_
          exact mw_iret C hr hlk Z hP hS dX12_tells_41 (⟨by rw [if_neg hgood, esn, if_pos c13], (mFs.rf σ)⟩)
      · have c12 := bI_0.mp c12
        exact absurd (by decide) c12
