/-! THE CLASS: QUESTIONS. What they leave as it was: all but the thought stall, the best, the fraction, the stacks -/
abbrev xK (k : Nat) : Prop := k ≠ 1 ∧ ¬ (14 ≤ k ∧ k < 22) ∧ k ≠ 64
def xQs (σ u : mw_M) : Prop := (∀ k, xK k → u.1 k = σ.1 k) ∧ ∀ k, k < 57 ∨ 63 ≤ k → u.2.1 k = σ.2.1 k
theorem xQs.rf (σ : mw_M) : xQs σ σ := ⟨fun _ _ => rfl, fun _ _ => rfl⟩
theorem xQs.tr {a b c : mw_M} (h1 : xQs a b) (h2 : xQs b c) : xQs a c := ⟨fun k hk => (h2.1 k hk).trans (h1.1 k hk), fun k hk => (h2.2 k hk).trans (h1.2 k hk)⟩
theorem xFs.q {a b : mw_M} (h : xFs a b) : xQs a b := ⟨fun k _ => by rw [h.1], h.2.2⟩
theorem xQs.fs {a b c : mw_M} (h1 : xQs a b) (h2 : xFs b c) : xQs a c := h1.tr h2.q
theorem xQs.tx {σ u : mw_M} {t : Nat} {z : zP} (h : xQs σ u) (hx : xTx σ t z) : xTx u t z := by
  have ht := hx.1
  unfold xTx xSeg at *
  rw [h.2 (51 + t) (by omega), h.2 (45 + t) (by omega)]
  exact hx
theorem xQs.ru {σ u : mw_M} {s : Nat} {z : zP} (h : xQs σ u) (hs : xK s) (hr : xRu σ s z) : xRu u s z := by
  obtain ⟨t, tc, h1, h2, h3, h4, h5⟩ := hr
  exact ⟨t, tc, by rw [h.1 s hs]; exact h1, by rw [h.1 37 (by decide)]; exact h2, h3, h4, h.tx h5⟩
theorem xQs.cu {σ u : mw_M} (h : xQs σ u) {p : Nat} (hp : p < 8) : cuX u 0 p = cuX σ 0 p := h.1 (6 + 8 * 0 + p) (by refine ⟨?_, ?_, ?_⟩ <;> omega)
theorem xQs.best {σ u v : mw_M} (h : xQs σ u) (h1 : ∀ k, k ≠ 64 → v.1 k = u.1 k) (h2 : v.2 = u.2) : xQs σ v := ⟨fun k hk => (h1 k hk.2.2).trans (h.1 k hk), fun k hk => by rw [h2]; exact h.2 k hk⟩
theorem xQs.of {σ u : mw_M} (h : xQs σ u) (f m : Int32) : xQs σ (ofM u f m) := h.best (of_ne u f m).1 (of_ne u f m).2
theorem xQs.bw {σ u : mw_M} (h : xQs σ u) (f m : Int32) : xQs σ (bwM u f m) := h.best (bw_at u f m).2.2.2.1 (bw_at u f m).2.2.2.2
theorem xQs.bg {σ u : mw_M} (h : xQs σ u) : xQs σ (bgM u) := h.best (bg_at u).2.2.2.1 (bg_at u).2.2.2.2
theorem xQs.fra {σ u : mw_M} (h : xQs σ u) (a b : Nat) : xQs σ (fraM u a b) := h
theorem of_C {u : mw_M} {x : Int32 × Int32} (f m : Int32) (h : u.1 64 2 = 1) (hx : (u.1 64 0, u.1 64 1) = x) : ((ofM u f m).1 64 0, (ofM u f m).1 64 1) = stC x f m ∧ (ofM u f m).1 64 2 = 1 := by
  subst hx
  unfold ofM stC
  by_cases hm : u.1 64 1 < m
  · rw [if_pos (Or.inr hm), if_pos hm]
    exact ⟨rfl, rfl⟩
  · rw [if_neg (fun y => y.elim (fun y => absurd (h.symm.trans y) (by decide)) hm), if_neg hm]
    exact ⟨rfl, h⟩
theorem of_B {u : mw_M} {x : Int32 × Int32} (f m : Int32) (hf : ¬ f = -1) (h : u.1 64 2 = 0 ↔ u.1 64 0 = -1) (hx : (u.1 64 0, u.1 64 1) = x) : ((ofM u f m).1 64 0, (ofM u f m).1 64 1) = stB x f m ∧ ((ofM u f m).1 64 2 = 0 ↔ (ofM u f m).1 64 0 = -1) := by
  subst hx
  unfold ofM stB
  by_cases hm : u.1 64 0 = -1 ∨ u.1 64 1 < m
  · rw [if_pos (hm.elim (fun y => Or.inl (h.mpr y)) Or.inr), if_pos hm]
    exact ⟨rfl, ⟨fun y => absurd y (by show ¬ (1 : Int32) = 0; decide), fun y => absurd y hf⟩⟩
  · rw [if_neg (fun y => hm (y.elim (fun y => Or.inl (h.mp y)) Or.inr)), if_neg hm]
    exact ⟨rfl, h⟩
theorem sumP_cg {f g : Nat → Int32} : ∀ {n : Nat}, (∀ p, p < n → f p = g p) → sumP f n = sumP g n
  | 0, _ => rfl
  | n + 1, h => by
    show sumP f n + f n = sumP g n + g n
    rw [sumP_cg (fun p hp => h p (by omega)), h n (by omega)]
theorem orP_cg {f g : Nat → Int32} : ∀ {n : Nat}, (∀ p, p < n → f p = g p) → orP f n = orP g n
  | 0, _ => rfl
  | n + 1, h => by
    show orP f n ||| f n = orP g n ||| g n
    rw [orP_cg (fun p hp => h p (by omega)), h n (by omega)]

set_option maxHeartbeats 4000000 in
set_option maxRecDepth 100000 in
theorem cX_told (l : Launch) (E : mw_E) (σ : mw_M) (n : Nat) (hn : σ.1 0 6 = nI n) (h8 : n ≤ 8) (z : zP) (hru : xRu σ 0 z) (oo ww : Int32) : mw_Ci shX 75 gX l yX11_told cX11_told 4 (some .int) (rmF 7 199) E [.ref (mw_a E 30), .int oo, .int ww] σ (fun r u => r = toldF z (σ.1 0) (cuX σ 0) n oo ww ∧ xQs σ u) := by
  refine mw_of (by decide) gX_ok (Nat.le_of_ble_eq_true rfl) ?_
  intro p_ e_ s_ m_ below meth c_ C hr hlk Z hP ls hl
  have C : CallFix p_ m_ c_ cX11_told 4 s_ _ lw_good RX11 := C
  have hl : lv_has ls 4 [(0, .ref (mw_a E 30)), (1, .int oo), (2, .int ww)] := hl
  have hS : va_S (mw_A 75 E) s_.heap s_.heap [] := va_S.rf
  refine lv_iload_n C.1 C.2.1 dX11_told_0 rfl (lv_at hl 2 rfl) ?_
  refine lv_if_lt (tgt := 18) C.1 C.2.1 dX11_told_1 (by decide) (fun c1 => ?_) (fun c1 => ?_)
  · refine lv_aload_n C.1 C.2.1 dX11_told_18 rfl (lv_at hl 0 rfl) ?_
    refine mw_getr C Z hP (30) 0 (0) (by decide) sx_30 rfl rfl (by decide) inX11 tw_2_239 dX11_told_19 ?_
    refine lv_iload_n C.1 C.2.1 dX11_told_22 rfl (lv_at hl 1 rfl) ?_
    refine mw_cVi (As := [.int oo]) (rest := []) C Z hP hS (0) (cX_hasS l E σ 0 (by decide) n hn h8 oo) vb_X6_has tw_3_53 ⟨rfl, rfl⟩ ⟨Nat.le_of_ble_eq_true rfl, Nat.le_of_ble_eq_true rfl⟩ (by decide) sx_0 rfl rfl rfl hl.1 rfl (Nat.le_of_ble_eq_true rfl) dX11_told_23 ⟨Nat.zero_le _, Nat.zero_le _⟩ (fun r2 u3 H locs q4 hP hS => ?_)
    obtain ⟨rfl, q4u⟩ := q4
    rw [q4u] at hP; clear q4u
    refine lv_if_ne (tgt := 32) C.1 C.2.1 dX11_told_26 (by decide) (fun c5 => ?_) (fun c5 => ?_)
    · have c5 := bI_n.mp c5
      have hhas := c5
      obtain ⟨q, hq8, eq0⟩ := nI_ofI (k := 8) hhas.1 (by omega)
      have hq : q < n := by have y := hhas.2; rw [eq0, nI_toInt (by omega)] at y; omega
      subst eq0
      refine lv_aload_n C.1 C.2.1 dX11_told_32 rfl (lv_at hl 0 rfl) ?_
      refine mw_getr C Z hP (30) 0 (0) (by decide) sx_30 rfl rfl (by decide) inX11 tw_2_239 dX11_told_33 ?_
      refine mw_getr C Z hP (0) 7 (3) (by decide) sx_0 rfl rfl (by decide) inX6 tw_1_96 dX11_told_36 ?_
      refine lv_iload_n C.1 C.2.1 dX11_told_39 rfl (lv_at hl 1 rfl) ?_
      refine mw_aald C Z hP (3) (q) (by decide) sx_3 (by decide) rfl (Nat.lt_of_lt_of_le (by decide : 8 < 961) (Nat.le_of_ble_eq_true rfl)) rfl (by omega) dX11_told_40 ?_
      refine lv_astore_n (lv' := [(3, .ref (mw_a E (6 + q))), (0, .ref (mw_a E 30)), (1, .int (nI q)), (2, .int ww)]) C.1 C.2.1 dX11_told_41 rfl hl (by decide) rfl (fun ls hl => ?_)
      refine lv_iload_n C.1 C.2.1 dX11_told_42 rfl (lv_at hl 3 rfl) ?_
      refine lv_iconst (v := 5) C.1 C.2.1 dX11_told_43 (by decide) ?_
      refine lv_icmp_lt (tgt := 59) C.1 C.2.1 dX11_told_44 (by decide) (fun c6 => ?_) (fun c6 => ?_)
      · refine lv_iload_n C.1 C.2.1 dX11_told_59 rfl (lv_at hl 3 rfl) ?_
        by_cases c7 : ww = 10
        · refine lv_tableIn (off := 40) (tgt := 100) C.1 C.2.1 dX11_told_60 (by rw [c7]; decide) (by rw [c7]; decide) (by rw [c7]; decide) (by decide) ?_
          refine lv_aload_n C.1 C.2.1 dX11_told_100 rfl (lv_at hl 1 rfl) ?_
          refine mw_getr C Z hP (30) 7 (63) (by decide) sx_30 rfl rfl (by decide) inX11 tw_3_6 dX11_told_101 ?_
          refine lv_aload_n C.1 C.2.1 dX11_told_104 rfl (lv_at hl 1 rfl) ?_
          refine mw_getr C Z hP (30) 0 (0) (by decide) sx_30 rfl rfl (by decide) inX11 tw_2_239 dX11_told_105 ?_
          refine lv_aload_n C.1 C.2.1 dX11_told_108 rfl (lv_at hl 0 rfl) ?_
          refine mw_cVi (As := [.ref (mw_a E 0), .ref (mw_a E (6 + q))]) (rest := []) C Z hP hS (63) (cX_eatsOf l E σ (0) (by omega) (6 + q) (by omega) z hru) vb_X4_eatsOf tw_3_81 ⟨rfl, rfl⟩ ⟨Nat.le_of_ble_eq_true rfl, Nat.le_of_ble_eq_true rfl⟩ (by decide) sx_63 rfl rfl rfl hl.1 rfl (Nat.le_of_ble_eq_true rfl) dX11_told_109 ⟨Nat.zero_le _, Nat.zero_le _⟩ (fun r8 u9 H locs q10 hP hS => ?_)
          obtain ⟨e12, f11⟩ := q10
          subst e12
          exact mw_iret C hr hlk Z hP hS dX11_told_112 (⟨by unfold toldF; rw [if_neg (fun y => y.elim (fun y => y (by rw [c7]; decide)) (fun y => y.2 hhas)), c7, nI_clamp (by omega)]; rfl, ((xQs.rf σ).fs f11)⟩)
        by_cases c13 : ww = 11
        · refine lv_tableIn (off := 53) (tgt := 113) C.1 C.2.1 dX11_told_60 (by rw [c13]; decide) (by rw [c13]; decide) (by rw [c13]; decide) (by decide) ?_
          refine lv_aload_n C.1 C.2.1 dX11_told_113 rfl (lv_at hl 1 rfl) ?_
          refine mw_getr C Z hP (30) 7 (63) (by decide) sx_30 rfl rfl (by decide) inX11 tw_3_6 dX11_told_114 ?_
          refine lv_aload_n C.1 C.2.1 dX11_told_117 rfl (lv_at hl 1 rfl) ?_
          refine mw_getr C Z hP (30) 0 (0) (by decide) sx_30 rfl rfl (by decide) inX11 tw_2_239 dX11_told_118 ?_
          refine lv_aload_n C.1 C.2.1 dX11_told_121 rfl (lv_at hl 0 rfl) ?_
          refine mw_cVi (As := [.ref (mw_a E 0), .ref (mw_a E (6 + q))]) (rest := []) C Z hP hS (63) (cX_triesOf l E σ (0) (by omega) (6 + q) (by omega) z hru) vb_X4_triesOf tw_3_113 ⟨rfl, rfl⟩ ⟨Nat.le_of_ble_eq_true rfl, Nat.le_of_ble_eq_true rfl⟩ (by decide) sx_63 rfl rfl rfl hl.1 rfl (Nat.le_of_ble_eq_true rfl) dX11_told_122 ⟨Nat.zero_le _, Nat.zero_le _⟩ (fun r14 u15 H locs q16 hP hS => ?_)
          obtain ⟨e18, f17⟩ := q16
          subst e18
          exact mw_iret C hr hlk Z hP hS dX11_told_125 (⟨by unfold toldF; rw [if_neg (fun y => y.elim (fun y => y (by rw [c13]; decide)) (fun y => y.2 hhas)), c13, nI_clamp (by omega)]; rfl, ((xQs.rf σ).fs f17)⟩)
        by_cases c19 : ww = 12
        · refine lv_tableIn (off := 66) (tgt := 126) C.1 C.2.1 dX11_told_60 (by rw [c19]; decide) (by rw [c19]; decide) (by rw [c19]; decide) (by decide) ?_
          refine lv_aload_n C.1 C.2.1 dX11_told_126 rfl (lv_at hl 1 rfl) ?_
          refine mw_getr C Z hP (30) 7 (63) (by decide) sx_30 rfl rfl (by decide) inX11 tw_3_6 dX11_told_127 ?_
          refine lv_aload_n C.1 C.2.1 dX11_told_130 rfl (lv_at hl 1 rfl) ?_
          refine mw_getr C Z hP (30) 0 (0) (by decide) sx_30 rfl rfl (by decide) inX11 tw_2_239 dX11_told_131 ?_
          refine lv_aload_n C.1 C.2.1 dX11_told_134 rfl (lv_at hl 0 rfl) ?_
          refine mw_cVi (As := [.ref (mw_a E 0), .ref (mw_a E (6 + q))]) (rest := []) C Z hP hS (63) (cX_spendsOf l E σ (0) (by omega) (6 + q) (by omega) z hru) vb_X4_spendsOf tw_3_117 ⟨rfl, rfl⟩ ⟨Nat.le_of_ble_eq_true rfl, Nat.le_of_ble_eq_true rfl⟩ (by decide) sx_63 rfl rfl rfl hl.1 rfl (Nat.le_of_ble_eq_true rfl) dX11_told_135 ⟨Nat.zero_le _, Nat.zero_le _⟩ (fun r20 u21 H locs q22 hP hS => ?_)
          obtain ⟨e24, f23⟩ := q22
          subst e24
          exact mw_iret C hr hlk Z hP hS dX11_told_138 (⟨by unfold toldF; rw [if_neg (fun y => y.elim (fun y => y (by rw [c19]; decide)) (fun y => y.2 hhas)), c19, nI_clamp (by omega)]; rfl, ((xQs.rf σ).fs f23)⟩)
        by_cases c25 : ww = 13
        · refine lv_tableIn (off := 79) (tgt := 139) C.1 C.2.1 dX11_told_60 (by rw [c25]; decide) (by rw [c25]; decide) (by rw [c25]; decide) (by decide) ?_
          refine lv_aload_n C.1 C.2.1 dX11_told_139 rfl (lv_at hl 1 rfl) ?_
          refine mw_getr C Z hP (30) 0 (0) (by decide) sx_30 rfl rfl (by decide) inX11 tw_2_239 dX11_told_140 ?_
          refine lv_aload_n C.1 C.2.1 dX11_told_143 rfl (lv_at hl 0 rfl) ?_
          refine mw_cVi (As := [.ref (mw_a E (6 + q))]) (rest := []) C Z hP hS (0) (cX_isThere l E σ (0) (by omega) (6 + q) (by omega)) vb_X6_isThere tw_3_121 ⟨rfl, rfl⟩ ⟨Nat.le_of_ble_eq_true rfl, Nat.le_of_ble_eq_true rfl⟩ (by decide) sx_0 rfl rfl rfl hl.1 rfl (Nat.le_of_ble_eq_true rfl) dX11_told_144 ⟨Nat.zero_le _, Nat.zero_le _⟩ (fun r26 u27 H locs q28 hP hS => ?_)
          obtain ⟨rfl, q28u⟩ := q28
          rw [q28u] at hP; clear q28u
          refine lv_if_eq (tgt := 154) C.1 C.2.1 dX11_told_147 (by decide) (fun c29 => ?_) (fun c29 => ?_)
          · have c29 := bI_0.mp c29
            refine lv_iconst (v := 0) C.1 C.2.1 dX11_told_154 (by decide) ?_
            exact mw_iret C hr hlk Z hP hS dX11_told_155 (⟨by unfold toldF; rw [if_neg (fun y => y.elim (fun y => y (by rw [c25]; decide)) (fun y => y.2 hhas)), c25, nI_clamp (by omega)]; exact (bI_f c29).symm, (xQs.rf σ)⟩)
          · have c29 := bI_n.mp c29
            refine lv_iconst (v := 1) C.1 C.2.1 dX11_told_150 (by decide) ?_
            refine lv_goto (tgt := 155) C.1 C.2.1 dX11_told_151 (by decide) ?_
            exact mw_iret C hr hlk Z hP hS dX11_told_155 (⟨by unfold toldF; rw [if_neg (fun y => y.elim (fun y => y (by rw [c25]; decide)) (fun y => y.2 hhas)), c25, nI_clamp (by omega)]; exact (bI_t c29).symm, (xQs.rf σ)⟩)
        by_cases c30 : ww = 14
        · refine lv_tableIn (off := 96) (tgt := 156) C.1 C.2.1 dX11_told_60 (by rw [c30]; decide) (by rw [c30]; decide) (by rw [c30]; decide) (by decide) ?_
          refine lv_aload_n C.1 C.2.1 dX11_told_156 rfl (lv_at hl 1 rfl) ?_
          refine mw_getr C Z hP (30) 7 (63) (by decide) sx_30 rfl rfl (by decide) inX11 tw_3_6 dX11_told_157 ?_
          refine lv_aload_n C.1 C.2.1 dX11_told_160 rfl (lv_at hl 1 rfl) ?_
          refine mw_getr C Z hP (30) 0 (0) (by decide) sx_30 rfl rfl (by decide) inX11 tw_2_239 dX11_told_161 ?_
          refine lv_aload_n C.1 C.2.1 dX11_told_164 rfl (lv_at hl 0 rfl) ?_
          refine mw_cVi (As := [.ref (mw_a E 0), .ref (mw_a E (6 + q))]) (rest := []) C Z hP hS (63) (cX_costOf l E σ (0) (by omega) (6 + q) (by omega) z hru) vb_X4_costOf tw_3_125 ⟨rfl, rfl⟩ ⟨Nat.le_of_ble_eq_true rfl, Nat.le_of_ble_eq_true rfl⟩ (by decide) sx_63 rfl rfl rfl hl.1 rfl (Nat.le_of_ble_eq_true rfl) dX11_told_165 ⟨Nat.zero_le _, Nat.zero_le _⟩ (fun r31 u32 H locs q33 hP hS => ?_)
          obtain ⟨e35, f34⟩ := q33
          subst e35
          exact mw_iret C hr hlk Z hP hS dX11_told_168 (⟨by unfold toldF; rw [if_neg (fun y => y.elim (fun y => y (by rw [c30]; decide)) (fun y => y.2 hhas)), c30, nI_clamp (by omega)]; rfl, ((xQs.rf σ).fs f34)⟩)
        by_cases c36 : ww = 15
        · refine lv_tableIn (off := 109) (tgt := 169) C.1 C.2.1 dX11_told_60 (by rw [c36]; decide) (by rw [c36]; decide) (by rw [c36]; decide) (by decide) ?_
          refine lv_aload_n C.1 C.2.1 dX11_told_169 rfl (lv_at hl 1 rfl) ?_
          refine mw_getr C Z hP (30) 7 (63) (by decide) sx_30 rfl rfl (by decide) inX11 tw_3_6 dX11_told_170 ?_
          refine lv_aload_n C.1 C.2.1 dX11_told_173 rfl (lv_at hl 1 rfl) ?_
          refine mw_getr C Z hP (30) 0 (0) (by decide) sx_30 rfl rfl (by decide) inX11 tw_2_239 dX11_told_174 ?_
          refine lv_aload_n C.1 C.2.1 dX11_told_177 rfl (lv_at hl 0 rfl) ?_
          refine mw_cVi (As := [.ref (mw_a E 0), .ref (mw_a E (6 + q))]) (rest := []) C Z hP hS (63) (cX_gainOf l E σ (0) (by omega) (6 + q) (by omega) z hru) vb_X4_gainOf tw_3_138 ⟨rfl, rfl⟩ ⟨Nat.le_of_ble_eq_true rfl, Nat.le_of_ble_eq_true rfl⟩ (by decide) sx_63 rfl rfl rfl hl.1 rfl (Nat.le_of_ble_eq_true rfl) dX11_told_178 ⟨Nat.zero_le _, Nat.zero_le _⟩ (fun r37 u38 H locs q39 hP hS => ?_)
          obtain ⟨e41, f40⟩ := q39
          subst e41
          exact mw_iret C hr hlk Z hP hS dX11_told_181 (⟨by unfold toldF; rw [if_neg (fun y => y.elim (fun y => y (by rw [c36]; decide)) (fun y => y.2 hhas)), c36, nI_clamp (by omega)]; rfl, ((xQs.rf σ).fs f40)⟩)
        refine lv_tableOut (tgt := 182) C.1 C.2.1 dX11_told_60 (by have z0 := (not_congr (ni_eq _ _)).mp c7; have y0 : (10 : Int32).toInt = 10 := rfl; have z1 := (not_congr (ni_eq _ _)).mp c13; have y1 : (11 : Int32).toInt = 11 := rfl; have z2 := (not_congr (ni_eq _ _)).mp c19; have y2 : (12 : Int32).toInt = 12 := rfl; have z3 := (not_congr (ni_eq _ _)).mp c25; have y3 : (13 : Int32).toInt = 13 := rfl; have z4 := (not_congr (ni_eq _ _)).mp c30; have y4 : (14 : Int32).toInt = 14 := rfl; have z5 := (not_congr (ni_eq _ _)).mp c36; have y5 : (15 : Int32).toInt = 15 := rfl; omega) (by decide) ?_
        refine lv_ldc (own := RX11) C.1 C.2.1 C.2.2.2.1 (C.2.2.2.2 _ tw_3_80) dX11_told_182 ?_
        exact mw_iret C hr hlk Z hP hS dX11_told_184 (⟨by unfold toldF; rw [if_pos (Or.inl (fun y => by simp only [ni_lt, ni_le, ni_eq] at c1 c6 c7 c13 c19 c25 c30 c36; have q0 : (0 : Int32).toInt = 0 := rfl; have q4 : (4 : Int32).toInt = 4 := rfl; have q5 : (5 : Int32).toInt = 5 := rfl; have q9 : (9 : Int32).toInt = 9 := rfl; have q10 : (10 : Int32).toInt = 10 := rfl; have q11 : (11 : Int32).toInt = 11 := rfl; have q12 : (12 : Int32).toInt = 12 := rfl; have q13 : (13 : Int32).toInt = 13 := rfl; have q14 : (14 : Int32).toInt = 14 := rfl; have q15 : (15 : Int32).toInt = 15 := rfl; omega))], (xQs.rf σ)⟩)
      · refine lv_iload_n C.1 C.2.1 dX11_told_47 rfl (lv_at hl 3 rfl) ?_
        refine lv_bipush (v := 9) C.1 C.2.1 dX11_told_48 (by decide) ?_
        refine lv_icmp_gt (tgt := 59) C.1 C.2.1 dX11_told_50 (by decide) (fun c42 => ?_) (fun c42 => ?_)
        · refine lv_iload_n C.1 C.2.1 dX11_told_59 rfl (lv_at hl 3 rfl) ?_
          by_cases c43 : ww = 10
          · refine lv_tableIn (off := 40) (tgt := 100) C.1 C.2.1 dX11_told_60 (by rw [c43]; decide) (by rw [c43]; decide) (by rw [c43]; decide) (by decide) ?_
            refine lv_aload_n C.1 C.2.1 dX11_told_100 rfl (lv_at hl 1 rfl) ?_
            refine mw_getr C Z hP (30) 7 (63) (by decide) sx_30 rfl rfl (by decide) inX11 tw_3_6 dX11_told_101 ?_
            refine lv_aload_n C.1 C.2.1 dX11_told_104 rfl (lv_at hl 1 rfl) ?_
            refine mw_getr C Z hP (30) 0 (0) (by decide) sx_30 rfl rfl (by decide) inX11 tw_2_239 dX11_told_105 ?_
            refine lv_aload_n C.1 C.2.1 dX11_told_108 rfl (lv_at hl 0 rfl) ?_
            refine mw_cVi (As := [.ref (mw_a E 0), .ref (mw_a E (6 + q))]) (rest := []) C Z hP hS (63) (cX_eatsOf l E σ (0) (by omega) (6 + q) (by omega) z hru) vb_X4_eatsOf tw_3_81 ⟨rfl, rfl⟩ ⟨Nat.le_of_ble_eq_true rfl, Nat.le_of_ble_eq_true rfl⟩ (by decide) sx_63 rfl rfl rfl hl.1 rfl (Nat.le_of_ble_eq_true rfl) dX11_told_109 ⟨Nat.zero_le _, Nat.zero_le _⟩ (fun r44 u45 H locs q46 hP hS => ?_)
            obtain ⟨e48, f47⟩ := q46
            subst e48
            exact mw_iret C hr hlk Z hP hS dX11_told_112 (⟨by unfold toldF; rw [if_neg (fun y => y.elim (fun y => y (by rw [c43]; decide)) (fun y => y.2 hhas)), c43, nI_clamp (by omega)]; rfl, ((xQs.rf σ).fs f47)⟩)
          by_cases c49 : ww = 11
          · refine lv_tableIn (off := 53) (tgt := 113) C.1 C.2.1 dX11_told_60 (by rw [c49]; decide) (by rw [c49]; decide) (by rw [c49]; decide) (by decide) ?_
            refine lv_aload_n C.1 C.2.1 dX11_told_113 rfl (lv_at hl 1 rfl) ?_
            refine mw_getr C Z hP (30) 7 (63) (by decide) sx_30 rfl rfl (by decide) inX11 tw_3_6 dX11_told_114 ?_
            refine lv_aload_n C.1 C.2.1 dX11_told_117 rfl (lv_at hl 1 rfl) ?_
            refine mw_getr C Z hP (30) 0 (0) (by decide) sx_30 rfl rfl (by decide) inX11 tw_2_239 dX11_told_118 ?_
            refine lv_aload_n C.1 C.2.1 dX11_told_121 rfl (lv_at hl 0 rfl) ?_
            refine mw_cVi (As := [.ref (mw_a E 0), .ref (mw_a E (6 + q))]) (rest := []) C Z hP hS (63) (cX_triesOf l E σ (0) (by omega) (6 + q) (by omega) z hru) vb_X4_triesOf tw_3_113 ⟨rfl, rfl⟩ ⟨Nat.le_of_ble_eq_true rfl, Nat.le_of_ble_eq_true rfl⟩ (by decide) sx_63 rfl rfl rfl hl.1 rfl (Nat.le_of_ble_eq_true rfl) dX11_told_122 ⟨Nat.zero_le _, Nat.zero_le _⟩ (fun r50 u51 H locs q52 hP hS => ?_)
            obtain ⟨e54, f53⟩ := q52
            subst e54
            exact mw_iret C hr hlk Z hP hS dX11_told_125 (⟨by unfold toldF; rw [if_neg (fun y => y.elim (fun y => y (by rw [c49]; decide)) (fun y => y.2 hhas)), c49, nI_clamp (by omega)]; rfl, ((xQs.rf σ).fs f53)⟩)
          by_cases c55 : ww = 12
          · refine lv_tableIn (off := 66) (tgt := 126) C.1 C.2.1 dX11_told_60 (by rw [c55]; decide) (by rw [c55]; decide) (by rw [c55]; decide) (by decide) ?_
            refine lv_aload_n C.1 C.2.1 dX11_told_126 rfl (lv_at hl 1 rfl) ?_
            refine mw_getr C Z hP (30) 7 (63) (by decide) sx_30 rfl rfl (by decide) inX11 tw_3_6 dX11_told_127 ?_
            refine lv_aload_n C.1 C.2.1 dX11_told_130 rfl (lv_at hl 1 rfl) ?_
            refine mw_getr C Z hP (30) 0 (0) (by decide) sx_30 rfl rfl (by decide) inX11 tw_2_239 dX11_told_131 ?_
            refine lv_aload_n C.1 C.2.1 dX11_told_134 rfl (lv_at hl 0 rfl) ?_
            refine mw_cVi (As := [.ref (mw_a E 0), .ref (mw_a E (6 + q))]) (rest := []) C Z hP hS (63) (cX_spendsOf l E σ (0) (by omega) (6 + q) (by omega) z hru) vb_X4_spendsOf tw_3_117 ⟨rfl, rfl⟩ ⟨Nat.le_of_ble_eq_true rfl, Nat.le_of_ble_eq_true rfl⟩ (by decide) sx_63 rfl rfl rfl hl.1 rfl (Nat.le_of_ble_eq_true rfl) dX11_told_135 ⟨Nat.zero_le _, Nat.zero_le _⟩ (fun r56 u57 H locs q58 hP hS => ?_)
            obtain ⟨e60, f59⟩ := q58
            subst e60
            exact mw_iret C hr hlk Z hP hS dX11_told_138 (⟨by unfold toldF; rw [if_neg (fun y => y.elim (fun y => y (by rw [c55]; decide)) (fun y => y.2 hhas)), c55, nI_clamp (by omega)]; rfl, ((xQs.rf σ).fs f59)⟩)
          by_cases c61 : ww = 13
          · refine lv_tableIn (off := 79) (tgt := 139) C.1 C.2.1 dX11_told_60 (by rw [c61]; decide) (by rw [c61]; decide) (by rw [c61]; decide) (by decide) ?_
            refine lv_aload_n C.1 C.2.1 dX11_told_139 rfl (lv_at hl 1 rfl) ?_
            refine mw_getr C Z hP (30) 0 (0) (by decide) sx_30 rfl rfl (by decide) inX11 tw_2_239 dX11_told_140 ?_
            refine lv_aload_n C.1 C.2.1 dX11_told_143 rfl (lv_at hl 0 rfl) ?_
            refine mw_cVi (As := [.ref (mw_a E (6 + q))]) (rest := []) C Z hP hS (0) (cX_isThere l E σ (0) (by omega) (6 + q) (by omega)) vb_X6_isThere tw_3_121 ⟨rfl, rfl⟩ ⟨Nat.le_of_ble_eq_true rfl, Nat.le_of_ble_eq_true rfl⟩ (by decide) sx_0 rfl rfl rfl hl.1 rfl (Nat.le_of_ble_eq_true rfl) dX11_told_144 ⟨Nat.zero_le _, Nat.zero_le _⟩ (fun r62 u63 H locs q64 hP hS => ?_)
            obtain ⟨rfl, q64u⟩ := q64
            rw [q64u] at hP; clear q64u
            refine lv_if_eq (tgt := 154) C.1 C.2.1 dX11_told_147 (by decide) (fun c65 => ?_) (fun c65 => ?_)
            · have c65 := bI_0.mp c65
              refine lv_iconst (v := 0) C.1 C.2.1 dX11_told_154 (by decide) ?_
              exact mw_iret C hr hlk Z hP hS dX11_told_155 (⟨by unfold toldF; rw [if_neg (fun y => y.elim (fun y => y (by rw [c61]; decide)) (fun y => y.2 hhas)), c61, nI_clamp (by omega)]; exact (bI_f c65).symm, (xQs.rf σ)⟩)
            · have c65 := bI_n.mp c65
              refine lv_iconst (v := 1) C.1 C.2.1 dX11_told_150 (by decide) ?_
              refine lv_goto (tgt := 155) C.1 C.2.1 dX11_told_151 (by decide) ?_
              exact mw_iret C hr hlk Z hP hS dX11_told_155 (⟨by unfold toldF; rw [if_neg (fun y => y.elim (fun y => y (by rw [c61]; decide)) (fun y => y.2 hhas)), c61, nI_clamp (by omega)]; exact (bI_t c65).symm, (xQs.rf σ)⟩)
          by_cases c66 : ww = 14
          · refine lv_tableIn (off := 96) (tgt := 156) C.1 C.2.1 dX11_told_60 (by rw [c66]; decide) (by rw [c66]; decide) (by rw [c66]; decide) (by decide) ?_
            refine lv_aload_n C.1 C.2.1 dX11_told_156 rfl (lv_at hl 1 rfl) ?_
            refine mw_getr C Z hP (30) 7 (63) (by decide) sx_30 rfl rfl (by decide) inX11 tw_3_6 dX11_told_157 ?_
            refine lv_aload_n C.1 C.2.1 dX11_told_160 rfl (lv_at hl 1 rfl) ?_
            refine mw_getr C Z hP (30) 0 (0) (by decide) sx_30 rfl rfl (by decide) inX11 tw_2_239 dX11_told_161 ?_
            refine lv_aload_n C.1 C.2.1 dX11_told_164 rfl (lv_at hl 0 rfl) ?_
            refine mw_cVi (As := [.ref (mw_a E 0), .ref (mw_a E (6 + q))]) (rest := []) C Z hP hS (63) (cX_costOf l E σ (0) (by omega) (6 + q) (by omega) z hru) vb_X4_costOf tw_3_125 ⟨rfl, rfl⟩ ⟨Nat.le_of_ble_eq_true rfl, Nat.le_of_ble_eq_true rfl⟩ (by decide) sx_63 rfl rfl rfl hl.1 rfl (Nat.le_of_ble_eq_true rfl) dX11_told_165 ⟨Nat.zero_le _, Nat.zero_le _⟩ (fun r67 u68 H locs q69 hP hS => ?_)
            obtain ⟨e71, f70⟩ := q69
            subst e71
            exact mw_iret C hr hlk Z hP hS dX11_told_168 (⟨by unfold toldF; rw [if_neg (fun y => y.elim (fun y => y (by rw [c66]; decide)) (fun y => y.2 hhas)), c66, nI_clamp (by omega)]; rfl, ((xQs.rf σ).fs f70)⟩)
          by_cases c72 : ww = 15
          · refine lv_tableIn (off := 109) (tgt := 169) C.1 C.2.1 dX11_told_60 (by rw [c72]; decide) (by rw [c72]; decide) (by rw [c72]; decide) (by decide) ?_
            refine lv_aload_n C.1 C.2.1 dX11_told_169 rfl (lv_at hl 1 rfl) ?_
            refine mw_getr C Z hP (30) 7 (63) (by decide) sx_30 rfl rfl (by decide) inX11 tw_3_6 dX11_told_170 ?_
            refine lv_aload_n C.1 C.2.1 dX11_told_173 rfl (lv_at hl 1 rfl) ?_
            refine mw_getr C Z hP (30) 0 (0) (by decide) sx_30 rfl rfl (by decide) inX11 tw_2_239 dX11_told_174 ?_
            refine lv_aload_n C.1 C.2.1 dX11_told_177 rfl (lv_at hl 0 rfl) ?_
            refine mw_cVi (As := [.ref (mw_a E 0), .ref (mw_a E (6 + q))]) (rest := []) C Z hP hS (63) (cX_gainOf l E σ (0) (by omega) (6 + q) (by omega) z hru) vb_X4_gainOf tw_3_138 ⟨rfl, rfl⟩ ⟨Nat.le_of_ble_eq_true rfl, Nat.le_of_ble_eq_true rfl⟩ (by decide) sx_63 rfl rfl rfl hl.1 rfl (Nat.le_of_ble_eq_true rfl) dX11_told_178 ⟨Nat.zero_le _, Nat.zero_le _⟩ (fun r73 u74 H locs q75 hP hS => ?_)
            obtain ⟨e77, f76⟩ := q75
            subst e77
            exact mw_iret C hr hlk Z hP hS dX11_told_181 (⟨by unfold toldF; rw [if_neg (fun y => y.elim (fun y => y (by rw [c72]; decide)) (fun y => y.2 hhas)), c72, nI_clamp (by omega)]; rfl, ((xQs.rf σ).fs f76)⟩)
          refine lv_tableOut (tgt := 182) C.1 C.2.1 dX11_told_60 (by have z0 := (not_congr (ni_eq _ _)).mp c43; have y0 : (10 : Int32).toInt = 10 := rfl; have z1 := (not_congr (ni_eq _ _)).mp c49; have y1 : (11 : Int32).toInt = 11 := rfl; have z2 := (not_congr (ni_eq _ _)).mp c55; have y2 : (12 : Int32).toInt = 12 := rfl; have z3 := (not_congr (ni_eq _ _)).mp c61; have y3 : (13 : Int32).toInt = 13 := rfl; have z4 := (not_congr (ni_eq _ _)).mp c66; have y4 : (14 : Int32).toInt = 14 := rfl; have z5 := (not_congr (ni_eq _ _)).mp c72; have y5 : (15 : Int32).toInt = 15 := rfl; omega) (by decide) ?_
          refine lv_ldc (own := RX11) C.1 C.2.1 C.2.2.2.1 (C.2.2.2.2 _ tw_3_80) dX11_told_182 ?_
          exact mw_iret C hr hlk Z hP hS dX11_told_184 (⟨by unfold toldF; rw [if_pos (Or.inl (fun y => by simp only [ni_lt, ni_le, ni_eq] at c1 c6 c42 c43 c49 c55 c61 c66 c72; have q0 : (0 : Int32).toInt = 0 := rfl; have q4 : (4 : Int32).toInt = 4 := rfl; have q5 : (5 : Int32).toInt = 5 := rfl; have q9 : (9 : Int32).toInt = 9 := rfl; have q10 : (10 : Int32).toInt = 10 := rfl; have q11 : (11 : Int32).toInt = 11 := rfl; have q12 : (12 : Int32).toInt = 12 := rfl; have q13 : (13 : Int32).toInt = 13 := rfl; have q14 : (14 : Int32).toInt = 14 := rfl; have q15 : (15 : Int32).toInt = 15 := rfl; omega))], (xQs.rf σ)⟩)
        · have hw0 : 5 ≤ ww.toInt := by have y := (not_congr (ni_lt _ _)).mp c6; have q : (5 : Int32).toInt = 5 := rfl; omega
          have hw4 : ww.toInt ≤ 9 := by have y := (not_congr (ni_lt _ _)).mp c42; have q : (9 : Int32).toInt = 9 := rfl; omega
          have hk5 : 5 ≤ ww.toNatClampNeg := by show 5 ≤ ww.toInt.toNat; omega
          obtain ⟨k, hk, ek0⟩ := nI_ofI (k := 9) (by omega) (hw4)
          subst ek0
          rw [nI_clamp (by omega)] at hk5
          refine lv_aload_n C.1 C.2.1 dX11_told_53 rfl (lv_at hl 0 rfl) ?_
          refine lv_iload_n C.1 C.2.1 dX11_told_54 rfl (lv_at hl 3 rfl) ?_
          refine mw_cVi (As := [.int (nI k)]) (rest := []) C Z hP hS (6 + q) (cX_readingC l E σ (6 + q) (by omega) k (by omega)) vb_X1_reading tw_3_57 ⟨rfl, rfl⟩ ⟨Nat.le_of_ble_eq_true rfl, Nat.le_of_ble_eq_true rfl⟩ (by omega) (sx_cu (by omega) (by omega)) rfl rfl rfl hl.1 rfl (Nat.le_of_ble_eq_true rfl) dX11_told_55 ⟨Nat.zero_le _, Nat.zero_le _⟩ (fun r78 u79 H locs q80 hP hS => ?_)
          obtain ⟨rfl, q80u⟩ := q80
          rw [q80u] at hP; clear q80u
          exact mw_iret C hr hlk Z hP hS dX11_told_58 (⟨by unfold toldF; rw [if_neg (fun y => y.elim (fun y => y ⟨by rw [nI_toInt (by omega)]; omega, by rw [nI_toInt (by omega)]; omega⟩) (fun y => y.2 hhas)), nI_clamp (by omega), nI_clamp (by omega)]; exact cuRd_td z _ _ ⟨hk5, by omega⟩, (xQs.rf σ)⟩)
    · have c5 := bI_0.mp c5
      refine lv_ldc (own := RX11) C.1 C.2.1 C.2.2.2.1 (C.2.2.2.2 _ tw_3_80) dX11_told_29 ?_
      exact mw_iret C hr hlk Z hP hS dX11_told_31 (⟨by unfold toldF; rw [if_pos ((Classical.em (0 ≤ ww.toInt ∧ ww.toInt ≤ 15)).elim (fun y => Or.inr ⟨by simp only [ni_lt, ni_le, ni_eq] at c1; have q0 : (0 : Int32).toInt = 0 := rfl; have q4 : (4 : Int32).toInt = 4 := rfl; omega, c5⟩) Or.inl)], (xQs.rf σ)⟩)
  · refine lv_iload_n C.1 C.2.1 dX11_told_4 rfl (lv_at hl 2 rfl) ?_
    refine lv_iconst (v := 4) C.1 C.2.1 dX11_told_5 (by decide) ?_
    refine lv_icmp_gt (tgt := 18) C.1 C.2.1 dX11_told_6 (by decide) (fun c81 => ?_) (fun c81 => ?_)
    · refine lv_aload_n C.1 C.2.1 dX11_told_18 rfl (lv_at hl 0 rfl) ?_
      refine mw_getr C Z hP (30) 0 (0) (by decide) sx_30 rfl rfl (by decide) inX11 tw_2_239 dX11_told_19 ?_
      refine lv_iload_n C.1 C.2.1 dX11_told_22 rfl (lv_at hl 1 rfl) ?_
      refine mw_cVi (As := [.int oo]) (rest := []) C Z hP hS (0) (cX_hasS l E σ 0 (by decide) n hn h8 oo) vb_X6_has tw_3_53 ⟨rfl, rfl⟩ ⟨Nat.le_of_ble_eq_true rfl, Nat.le_of_ble_eq_true rfl⟩ (by decide) sx_0 rfl rfl rfl hl.1 rfl (Nat.le_of_ble_eq_true rfl) dX11_told_23 ⟨Nat.zero_le _, Nat.zero_le _⟩ (fun r82 u83 H locs q84 hP hS => ?_)
      obtain ⟨rfl, q84u⟩ := q84
      rw [q84u] at hP; clear q84u
      refine lv_if_ne (tgt := 32) C.1 C.2.1 dX11_told_26 (by decide) (fun c85 => ?_) (fun c85 => ?_)
      · have c85 := bI_n.mp c85
        have hhas := c85
        obtain ⟨q, hq8, eq0⟩ := nI_ofI (k := 8) hhas.1 (by omega)
        have hq : q < n := by have y := hhas.2; rw [eq0, nI_toInt (by omega)] at y; omega
        subst eq0
        refine lv_aload_n C.1 C.2.1 dX11_told_32 rfl (lv_at hl 0 rfl) ?_
        refine mw_getr C Z hP (30) 0 (0) (by decide) sx_30 rfl rfl (by decide) inX11 tw_2_239 dX11_told_33 ?_
        refine mw_getr C Z hP (0) 7 (3) (by decide) sx_0 rfl rfl (by decide) inX6 tw_1_96 dX11_told_36 ?_
        refine lv_iload_n C.1 C.2.1 dX11_told_39 rfl (lv_at hl 1 rfl) ?_
        refine mw_aald C Z hP (3) (q) (by decide) sx_3 (by decide) rfl (Nat.lt_of_lt_of_le (by decide : 8 < 961) (Nat.le_of_ble_eq_true rfl)) rfl (by omega) dX11_told_40 ?_
        refine lv_astore_n (lv' := [(3, .ref (mw_a E (6 + q))), (0, .ref (mw_a E 30)), (1, .int (nI q)), (2, .int ww)]) C.1 C.2.1 dX11_told_41 rfl hl (by decide) rfl (fun ls hl => ?_)
        refine lv_iload_n C.1 C.2.1 dX11_told_42 rfl (lv_at hl 3 rfl) ?_
        refine lv_iconst (v := 5) C.1 C.2.1 dX11_told_43 (by decide) ?_
        refine lv_icmp_lt (tgt := 59) C.1 C.2.1 dX11_told_44 (by decide) (fun c86 => ?_) (fun c86 => ?_)
        · refine lv_iload_n C.1 C.2.1 dX11_told_59 rfl (lv_at hl 3 rfl) ?_
          by_cases c87 : ww = 10
          · refine lv_tableIn (off := 40) (tgt := 100) C.1 C.2.1 dX11_told_60 (by rw [c87]; decide) (by rw [c87]; decide) (by rw [c87]; decide) (by decide) ?_
            refine lv_aload_n C.1 C.2.1 dX11_told_100 rfl (lv_at hl 1 rfl) ?_
            refine mw_getr C Z hP (30) 7 (63) (by decide) sx_30 rfl rfl (by decide) inX11 tw_3_6 dX11_told_101 ?_
            refine lv_aload_n C.1 C.2.1 dX11_told_104 rfl (lv_at hl 1 rfl) ?_
            refine mw_getr C Z hP (30) 0 (0) (by decide) sx_30 rfl rfl (by decide) inX11 tw_2_239 dX11_told_105 ?_
            refine lv_aload_n C.1 C.2.1 dX11_told_108 rfl (lv_at hl 0 rfl) ?_
            refine mw_cVi (As := [.ref (mw_a E 0), .ref (mw_a E (6 + q))]) (rest := []) C Z hP hS (63) (cX_eatsOf l E σ (0) (by omega) (6 + q) (by omega) z hru) vb_X4_eatsOf tw_3_81 ⟨rfl, rfl⟩ ⟨Nat.le_of_ble_eq_true rfl, Nat.le_of_ble_eq_true rfl⟩ (by decide) sx_63 rfl rfl rfl hl.1 rfl (Nat.le_of_ble_eq_true rfl) dX11_told_109 ⟨Nat.zero_le _, Nat.zero_le _⟩ (fun r88 u89 H locs q90 hP hS => ?_)
            obtain ⟨e92, f91⟩ := q90
            subst e92
            exact mw_iret C hr hlk Z hP hS dX11_told_112 (⟨by unfold toldF; rw [if_neg (fun y => y.elim (fun y => y (by rw [c87]; decide)) (fun y => y.2 hhas)), c87, nI_clamp (by omega)]; rfl, ((xQs.rf σ).fs f91)⟩)
          by_cases c93 : ww = 11
          · refine lv_tableIn (off := 53) (tgt := 113) C.1 C.2.1 dX11_told_60 (by rw [c93]; decide) (by rw [c93]; decide) (by rw [c93]; decide) (by decide) ?_
            refine lv_aload_n C.1 C.2.1 dX11_told_113 rfl (lv_at hl 1 rfl) ?_
            refine mw_getr C Z hP (30) 7 (63) (by decide) sx_30 rfl rfl (by decide) inX11 tw_3_6 dX11_told_114 ?_
            refine lv_aload_n C.1 C.2.1 dX11_told_117 rfl (lv_at hl 1 rfl) ?_
            refine mw_getr C Z hP (30) 0 (0) (by decide) sx_30 rfl rfl (by decide) inX11 tw_2_239 dX11_told_118 ?_
            refine lv_aload_n C.1 C.2.1 dX11_told_121 rfl (lv_at hl 0 rfl) ?_
            refine mw_cVi (As := [.ref (mw_a E 0), .ref (mw_a E (6 + q))]) (rest := []) C Z hP hS (63) (cX_triesOf l E σ (0) (by omega) (6 + q) (by omega) z hru) vb_X4_triesOf tw_3_113 ⟨rfl, rfl⟩ ⟨Nat.le_of_ble_eq_true rfl, Nat.le_of_ble_eq_true rfl⟩ (by decide) sx_63 rfl rfl rfl hl.1 rfl (Nat.le_of_ble_eq_true rfl) dX11_told_122 ⟨Nat.zero_le _, Nat.zero_le _⟩ (fun r94 u95 H locs q96 hP hS => ?_)
            obtain ⟨e98, f97⟩ := q96
            subst e98
            exact mw_iret C hr hlk Z hP hS dX11_told_125 (⟨by unfold toldF; rw [if_neg (fun y => y.elim (fun y => y (by rw [c93]; decide)) (fun y => y.2 hhas)), c93, nI_clamp (by omega)]; rfl, ((xQs.rf σ).fs f97)⟩)
          by_cases c99 : ww = 12
          · refine lv_tableIn (off := 66) (tgt := 126) C.1 C.2.1 dX11_told_60 (by rw [c99]; decide) (by rw [c99]; decide) (by rw [c99]; decide) (by decide) ?_
            refine lv_aload_n C.1 C.2.1 dX11_told_126 rfl (lv_at hl 1 rfl) ?_
            refine mw_getr C Z hP (30) 7 (63) (by decide) sx_30 rfl rfl (by decide) inX11 tw_3_6 dX11_told_127 ?_
            refine lv_aload_n C.1 C.2.1 dX11_told_130 rfl (lv_at hl 1 rfl) ?_
            refine mw_getr C Z hP (30) 0 (0) (by decide) sx_30 rfl rfl (by decide) inX11 tw_2_239 dX11_told_131 ?_
            refine lv_aload_n C.1 C.2.1 dX11_told_134 rfl (lv_at hl 0 rfl) ?_
            refine mw_cVi (As := [.ref (mw_a E 0), .ref (mw_a E (6 + q))]) (rest := []) C Z hP hS (63) (cX_spendsOf l E σ (0) (by omega) (6 + q) (by omega) z hru) vb_X4_spendsOf tw_3_117 ⟨rfl, rfl⟩ ⟨Nat.le_of_ble_eq_true rfl, Nat.le_of_ble_eq_true rfl⟩ (by decide) sx_63 rfl rfl rfl hl.1 rfl (Nat.le_of_ble_eq_true rfl) dX11_told_135 ⟨Nat.zero_le _, Nat.zero_le _⟩ (fun r100 u101 H locs q102 hP hS => ?_)
            obtain ⟨e104, f103⟩ := q102
            subst e104
            exact mw_iret C hr hlk Z hP hS dX11_told_138 (⟨by unfold toldF; rw [if_neg (fun y => y.elim (fun y => y (by rw [c99]; decide)) (fun y => y.2 hhas)), c99, nI_clamp (by omega)]; rfl, ((xQs.rf σ).fs f103)⟩)
          by_cases c105 : ww = 13
          · refine lv_tableIn (off := 79) (tgt := 139) C.1 C.2.1 dX11_told_60 (by rw [c105]; decide) (by rw [c105]; decide) (by rw [c105]; decide) (by decide) ?_
            refine lv_aload_n C.1 C.2.1 dX11_told_139 rfl (lv_at hl 1 rfl) ?_
            refine mw_getr C Z hP (30) 0 (0) (by decide) sx_30 rfl rfl (by decide) inX11 tw_2_239 dX11_told_140 ?_
            refine lv_aload_n C.1 C.2.1 dX11_told_143 rfl (lv_at hl 0 rfl) ?_
            refine mw_cVi (As := [.ref (mw_a E (6 + q))]) (rest := []) C Z hP hS (0) (cX_isThere l E σ (0) (by omega) (6 + q) (by omega)) vb_X6_isThere tw_3_121 ⟨rfl, rfl⟩ ⟨Nat.le_of_ble_eq_true rfl, Nat.le_of_ble_eq_true rfl⟩ (by decide) sx_0 rfl rfl rfl hl.1 rfl (Nat.le_of_ble_eq_true rfl) dX11_told_144 ⟨Nat.zero_le _, Nat.zero_le _⟩ (fun r106 u107 H locs q108 hP hS => ?_)
            obtain ⟨rfl, q108u⟩ := q108
            rw [q108u] at hP; clear q108u
            refine lv_if_eq (tgt := 154) C.1 C.2.1 dX11_told_147 (by decide) (fun c109 => ?_) (fun c109 => ?_)
            · have c109 := bI_0.mp c109
              refine lv_iconst (v := 0) C.1 C.2.1 dX11_told_154 (by decide) ?_
              exact mw_iret C hr hlk Z hP hS dX11_told_155 (⟨by unfold toldF; rw [if_neg (fun y => y.elim (fun y => y (by rw [c105]; decide)) (fun y => y.2 hhas)), c105, nI_clamp (by omega)]; exact (bI_f c109).symm, (xQs.rf σ)⟩)
            · have c109 := bI_n.mp c109
              refine lv_iconst (v := 1) C.1 C.2.1 dX11_told_150 (by decide) ?_
              refine lv_goto (tgt := 155) C.1 C.2.1 dX11_told_151 (by decide) ?_
              exact mw_iret C hr hlk Z hP hS dX11_told_155 (⟨by unfold toldF; rw [if_neg (fun y => y.elim (fun y => y (by rw [c105]; decide)) (fun y => y.2 hhas)), c105, nI_clamp (by omega)]; exact (bI_t c109).symm, (xQs.rf σ)⟩)
          by_cases c110 : ww = 14
          · refine lv_tableIn (off := 96) (tgt := 156) C.1 C.2.1 dX11_told_60 (by rw [c110]; decide) (by rw [c110]; decide) (by rw [c110]; decide) (by decide) ?_
            refine lv_aload_n C.1 C.2.1 dX11_told_156 rfl (lv_at hl 1 rfl) ?_
            refine mw_getr C Z hP (30) 7 (63) (by decide) sx_30 rfl rfl (by decide) inX11 tw_3_6 dX11_told_157 ?_
            refine lv_aload_n C.1 C.2.1 dX11_told_160 rfl (lv_at hl 1 rfl) ?_
            refine mw_getr C Z hP (30) 0 (0) (by decide) sx_30 rfl rfl (by decide) inX11 tw_2_239 dX11_told_161 ?_
            refine lv_aload_n C.1 C.2.1 dX11_told_164 rfl (lv_at hl 0 rfl) ?_
            refine mw_cVi (As := [.ref (mw_a E 0), .ref (mw_a E (6 + q))]) (rest := []) C Z hP hS (63) (cX_costOf l E σ (0) (by omega) (6 + q) (by omega) z hru) vb_X4_costOf tw_3_125 ⟨rfl, rfl⟩ ⟨Nat.le_of_ble_eq_true rfl, Nat.le_of_ble_eq_true rfl⟩ (by decide) sx_63 rfl rfl rfl hl.1 rfl (Nat.le_of_ble_eq_true rfl) dX11_told_165 ⟨Nat.zero_le _, Nat.zero_le _⟩ (fun r111 u112 H locs q113 hP hS => ?_)
            obtain ⟨e115, f114⟩ := q113
            subst e115
            exact mw_iret C hr hlk Z hP hS dX11_told_168 (⟨by unfold toldF; rw [if_neg (fun y => y.elim (fun y => y (by rw [c110]; decide)) (fun y => y.2 hhas)), c110, nI_clamp (by omega)]; rfl, ((xQs.rf σ).fs f114)⟩)
          by_cases c116 : ww = 15
          · refine lv_tableIn (off := 109) (tgt := 169) C.1 C.2.1 dX11_told_60 (by rw [c116]; decide) (by rw [c116]; decide) (by rw [c116]; decide) (by decide) ?_
            refine lv_aload_n C.1 C.2.1 dX11_told_169 rfl (lv_at hl 1 rfl) ?_
            refine mw_getr C Z hP (30) 7 (63) (by decide) sx_30 rfl rfl (by decide) inX11 tw_3_6 dX11_told_170 ?_
            refine lv_aload_n C.1 C.2.1 dX11_told_173 rfl (lv_at hl 1 rfl) ?_
            refine mw_getr C Z hP (30) 0 (0) (by decide) sx_30 rfl rfl (by decide) inX11 tw_2_239 dX11_told_174 ?_
            refine lv_aload_n C.1 C.2.1 dX11_told_177 rfl (lv_at hl 0 rfl) ?_
            refine mw_cVi (As := [.ref (mw_a E 0), .ref (mw_a E (6 + q))]) (rest := []) C Z hP hS (63) (cX_gainOf l E σ (0) (by omega) (6 + q) (by omega) z hru) vb_X4_gainOf tw_3_138 ⟨rfl, rfl⟩ ⟨Nat.le_of_ble_eq_true rfl, Nat.le_of_ble_eq_true rfl⟩ (by decide) sx_63 rfl rfl rfl hl.1 rfl (Nat.le_of_ble_eq_true rfl) dX11_told_178 ⟨Nat.zero_le _, Nat.zero_le _⟩ (fun r117 u118 H locs q119 hP hS => ?_)
            obtain ⟨e121, f120⟩ := q119
            subst e121
            exact mw_iret C hr hlk Z hP hS dX11_told_181 (⟨by unfold toldF; rw [if_neg (fun y => y.elim (fun y => y (by rw [c116]; decide)) (fun y => y.2 hhas)), c116, nI_clamp (by omega)]; rfl, ((xQs.rf σ).fs f120)⟩)
          refine lv_tableOut (tgt := 182) C.1 C.2.1 dX11_told_60 (by have z0 := (not_congr (ni_eq _ _)).mp c87; have y0 : (10 : Int32).toInt = 10 := rfl; have z1 := (not_congr (ni_eq _ _)).mp c93; have y1 : (11 : Int32).toInt = 11 := rfl; have z2 := (not_congr (ni_eq _ _)).mp c99; have y2 : (12 : Int32).toInt = 12 := rfl; have z3 := (not_congr (ni_eq _ _)).mp c105; have y3 : (13 : Int32).toInt = 13 := rfl; have z4 := (not_congr (ni_eq _ _)).mp c110; have y4 : (14 : Int32).toInt = 14 := rfl; have z5 := (not_congr (ni_eq _ _)).mp c116; have y5 : (15 : Int32).toInt = 15 := rfl; omega) (by decide) ?_
          refine lv_ldc (own := RX11) C.1 C.2.1 C.2.2.2.1 (C.2.2.2.2 _ tw_3_80) dX11_told_182 ?_
          exact mw_iret C hr hlk Z hP hS dX11_told_184 (⟨by unfold toldF; rw [if_pos (Or.inl (fun y => by simp only [ni_lt, ni_le, ni_eq] at c1 c81 c86 c87 c93 c99 c105 c110 c116; have q0 : (0 : Int32).toInt = 0 := rfl; have q4 : (4 : Int32).toInt = 4 := rfl; have q5 : (5 : Int32).toInt = 5 := rfl; have q9 : (9 : Int32).toInt = 9 := rfl; have q10 : (10 : Int32).toInt = 10 := rfl; have q11 : (11 : Int32).toInt = 11 := rfl; have q12 : (12 : Int32).toInt = 12 := rfl; have q13 : (13 : Int32).toInt = 13 := rfl; have q14 : (14 : Int32).toInt = 14 := rfl; have q15 : (15 : Int32).toInt = 15 := rfl; omega))], (xQs.rf σ)⟩)
        · refine lv_iload_n C.1 C.2.1 dX11_told_47 rfl (lv_at hl 3 rfl) ?_
          refine lv_bipush (v := 9) C.1 C.2.1 dX11_told_48 (by decide) ?_
          refine lv_icmp_gt (tgt := 59) C.1 C.2.1 dX11_told_50 (by decide) (fun c122 => ?_) (fun c122 => ?_)
          · refine lv_iload_n C.1 C.2.1 dX11_told_59 rfl (lv_at hl 3 rfl) ?_
            by_cases c123 : ww = 10
            · refine lv_tableIn (off := 40) (tgt := 100) C.1 C.2.1 dX11_told_60 (by rw [c123]; decide) (by rw [c123]; decide) (by rw [c123]; decide) (by decide) ?_
              refine lv_aload_n C.1 C.2.1 dX11_told_100 rfl (lv_at hl 1 rfl) ?_
              refine mw_getr C Z hP (30) 7 (63) (by decide) sx_30 rfl rfl (by decide) inX11 tw_3_6 dX11_told_101 ?_
              refine lv_aload_n C.1 C.2.1 dX11_told_104 rfl (lv_at hl 1 rfl) ?_
              refine mw_getr C Z hP (30) 0 (0) (by decide) sx_30 rfl rfl (by decide) inX11 tw_2_239 dX11_told_105 ?_
              refine lv_aload_n C.1 C.2.1 dX11_told_108 rfl (lv_at hl 0 rfl) ?_
              refine mw_cVi (As := [.ref (mw_a E 0), .ref (mw_a E (6 + q))]) (rest := []) C Z hP hS (63) (cX_eatsOf l E σ (0) (by omega) (6 + q) (by omega) z hru) vb_X4_eatsOf tw_3_81 ⟨rfl, rfl⟩ ⟨Nat.le_of_ble_eq_true rfl, Nat.le_of_ble_eq_true rfl⟩ (by decide) sx_63 rfl rfl rfl hl.1 rfl (Nat.le_of_ble_eq_true rfl) dX11_told_109 ⟨Nat.zero_le _, Nat.zero_le _⟩ (fun r124 u125 H locs q126 hP hS => ?_)
              obtain ⟨e128, f127⟩ := q126
              subst e128
              exact mw_iret C hr hlk Z hP hS dX11_told_112 (⟨by unfold toldF; rw [if_neg (fun y => y.elim (fun y => y (by rw [c123]; decide)) (fun y => y.2 hhas)), c123, nI_clamp (by omega)]; rfl, ((xQs.rf σ).fs f127)⟩)
            by_cases c129 : ww = 11
            · refine lv_tableIn (off := 53) (tgt := 113) C.1 C.2.1 dX11_told_60 (by rw [c129]; decide) (by rw [c129]; decide) (by rw [c129]; decide) (by decide) ?_
              refine lv_aload_n C.1 C.2.1 dX11_told_113 rfl (lv_at hl 1 rfl) ?_
              refine mw_getr C Z hP (30) 7 (63) (by decide) sx_30 rfl rfl (by decide) inX11 tw_3_6 dX11_told_114 ?_
              refine lv_aload_n C.1 C.2.1 dX11_told_117 rfl (lv_at hl 1 rfl) ?_
              refine mw_getr C Z hP (30) 0 (0) (by decide) sx_30 rfl rfl (by decide) inX11 tw_2_239 dX11_told_118 ?_
              refine lv_aload_n C.1 C.2.1 dX11_told_121 rfl (lv_at hl 0 rfl) ?_
              refine mw_cVi (As := [.ref (mw_a E 0), .ref (mw_a E (6 + q))]) (rest := []) C Z hP hS (63) (cX_triesOf l E σ (0) (by omega) (6 + q) (by omega) z hru) vb_X4_triesOf tw_3_113 ⟨rfl, rfl⟩ ⟨Nat.le_of_ble_eq_true rfl, Nat.le_of_ble_eq_true rfl⟩ (by decide) sx_63 rfl rfl rfl hl.1 rfl (Nat.le_of_ble_eq_true rfl) dX11_told_122 ⟨Nat.zero_le _, Nat.zero_le _⟩ (fun r130 u131 H locs q132 hP hS => ?_)
              obtain ⟨e134, f133⟩ := q132
              subst e134
              exact mw_iret C hr hlk Z hP hS dX11_told_125 (⟨by unfold toldF; rw [if_neg (fun y => y.elim (fun y => y (by rw [c129]; decide)) (fun y => y.2 hhas)), c129, nI_clamp (by omega)]; rfl, ((xQs.rf σ).fs f133)⟩)
            by_cases c135 : ww = 12
            · refine lv_tableIn (off := 66) (tgt := 126) C.1 C.2.1 dX11_told_60 (by rw [c135]; decide) (by rw [c135]; decide) (by rw [c135]; decide) (by decide) ?_
              refine lv_aload_n C.1 C.2.1 dX11_told_126 rfl (lv_at hl 1 rfl) ?_
              refine mw_getr C Z hP (30) 7 (63) (by decide) sx_30 rfl rfl (by decide) inX11 tw_3_6 dX11_told_127 ?_
              refine lv_aload_n C.1 C.2.1 dX11_told_130 rfl (lv_at hl 1 rfl) ?_
              refine mw_getr C Z hP (30) 0 (0) (by decide) sx_30 rfl rfl (by decide) inX11 tw_2_239 dX11_told_131 ?_
              refine lv_aload_n C.1 C.2.1 dX11_told_134 rfl (lv_at hl 0 rfl) ?_
              refine mw_cVi (As := [.ref (mw_a E 0), .ref (mw_a E (6 + q))]) (rest := []) C Z hP hS (63) (cX_spendsOf l E σ (0) (by omega) (6 + q) (by omega) z hru) vb_X4_spendsOf tw_3_117 ⟨rfl, rfl⟩ ⟨Nat.le_of_ble_eq_true rfl, Nat.le_of_ble_eq_true rfl⟩ (by decide) sx_63 rfl rfl rfl hl.1 rfl (Nat.le_of_ble_eq_true rfl) dX11_told_135 ⟨Nat.zero_le _, Nat.zero_le _⟩ (fun r136 u137 H locs q138 hP hS => ?_)
              obtain ⟨e140, f139⟩ := q138
              subst e140
              exact mw_iret C hr hlk Z hP hS dX11_told_138 (⟨by unfold toldF; rw [if_neg (fun y => y.elim (fun y => y (by rw [c135]; decide)) (fun y => y.2 hhas)), c135, nI_clamp (by omega)]; rfl, ((xQs.rf σ).fs f139)⟩)
            by_cases c141 : ww = 13
            · refine lv_tableIn (off := 79) (tgt := 139) C.1 C.2.1 dX11_told_60 (by rw [c141]; decide) (by rw [c141]; decide) (by rw [c141]; decide) (by decide) ?_
              refine lv_aload_n C.1 C.2.1 dX11_told_139 rfl (lv_at hl 1 rfl) ?_
              refine mw_getr C Z hP (30) 0 (0) (by decide) sx_30 rfl rfl (by decide) inX11 tw_2_239 dX11_told_140 ?_
              refine lv_aload_n C.1 C.2.1 dX11_told_143 rfl (lv_at hl 0 rfl) ?_
              refine mw_cVi (As := [.ref (mw_a E (6 + q))]) (rest := []) C Z hP hS (0) (cX_isThere l E σ (0) (by omega) (6 + q) (by omega)) vb_X6_isThere tw_3_121 ⟨rfl, rfl⟩ ⟨Nat.le_of_ble_eq_true rfl, Nat.le_of_ble_eq_true rfl⟩ (by decide) sx_0 rfl rfl rfl hl.1 rfl (Nat.le_of_ble_eq_true rfl) dX11_told_144 ⟨Nat.zero_le _, Nat.zero_le _⟩ (fun r142 u143 H locs q144 hP hS => ?_)
              obtain ⟨rfl, q144u⟩ := q144
              rw [q144u] at hP; clear q144u
              refine lv_if_eq (tgt := 154) C.1 C.2.1 dX11_told_147 (by decide) (fun c145 => ?_) (fun c145 => ?_)
              · have c145 := bI_0.mp c145
                refine lv_iconst (v := 0) C.1 C.2.1 dX11_told_154 (by decide) ?_
                exact mw_iret C hr hlk Z hP hS dX11_told_155 (⟨by unfold toldF; rw [if_neg (fun y => y.elim (fun y => y (by rw [c141]; decide)) (fun y => y.2 hhas)), c141, nI_clamp (by omega)]; exact (bI_f c145).symm, (xQs.rf σ)⟩)
              · have c145 := bI_n.mp c145
                refine lv_iconst (v := 1) C.1 C.2.1 dX11_told_150 (by decide) ?_
                refine lv_goto (tgt := 155) C.1 C.2.1 dX11_told_151 (by decide) ?_
                exact mw_iret C hr hlk Z hP hS dX11_told_155 (⟨by unfold toldF; rw [if_neg (fun y => y.elim (fun y => y (by rw [c141]; decide)) (fun y => y.2 hhas)), c141, nI_clamp (by omega)]; exact (bI_t c145).symm, (xQs.rf σ)⟩)
            by_cases c146 : ww = 14
            · refine lv_tableIn (off := 96) (tgt := 156) C.1 C.2.1 dX11_told_60 (by rw [c146]; decide) (by rw [c146]; decide) (by rw [c146]; decide) (by decide) ?_
              refine lv_aload_n C.1 C.2.1 dX11_told_156 rfl (lv_at hl 1 rfl) ?_
              refine mw_getr C Z hP (30) 7 (63) (by decide) sx_30 rfl rfl (by decide) inX11 tw_3_6 dX11_told_157 ?_
              refine lv_aload_n C.1 C.2.1 dX11_told_160 rfl (lv_at hl 1 rfl) ?_
              refine mw_getr C Z hP (30) 0 (0) (by decide) sx_30 rfl rfl (by decide) inX11 tw_2_239 dX11_told_161 ?_
              refine lv_aload_n C.1 C.2.1 dX11_told_164 rfl (lv_at hl 0 rfl) ?_
              refine mw_cVi (As := [.ref (mw_a E 0), .ref (mw_a E (6 + q))]) (rest := []) C Z hP hS (63) (cX_costOf l E σ (0) (by omega) (6 + q) (by omega) z hru) vb_X4_costOf tw_3_125 ⟨rfl, rfl⟩ ⟨Nat.le_of_ble_eq_true rfl, Nat.le_of_ble_eq_true rfl⟩ (by decide) sx_63 rfl rfl rfl hl.1 rfl (Nat.le_of_ble_eq_true rfl) dX11_told_165 ⟨Nat.zero_le _, Nat.zero_le _⟩ (fun r147 u148 H locs q149 hP hS => ?_)
              obtain ⟨e151, f150⟩ := q149
              subst e151
              exact mw_iret C hr hlk Z hP hS dX11_told_168 (⟨by unfold toldF; rw [if_neg (fun y => y.elim (fun y => y (by rw [c146]; decide)) (fun y => y.2 hhas)), c146, nI_clamp (by omega)]; rfl, ((xQs.rf σ).fs f150)⟩)
            by_cases c152 : ww = 15
            · refine lv_tableIn (off := 109) (tgt := 169) C.1 C.2.1 dX11_told_60 (by rw [c152]; decide) (by rw [c152]; decide) (by rw [c152]; decide) (by decide) ?_
              refine lv_aload_n C.1 C.2.1 dX11_told_169 rfl (lv_at hl 1 rfl) ?_
              refine mw_getr C Z hP (30) 7 (63) (by decide) sx_30 rfl rfl (by decide) inX11 tw_3_6 dX11_told_170 ?_
              refine lv_aload_n C.1 C.2.1 dX11_told_173 rfl (lv_at hl 1 rfl) ?_
              refine mw_getr C Z hP (30) 0 (0) (by decide) sx_30 rfl rfl (by decide) inX11 tw_2_239 dX11_told_174 ?_
              refine lv_aload_n C.1 C.2.1 dX11_told_177 rfl (lv_at hl 0 rfl) ?_
              refine mw_cVi (As := [.ref (mw_a E 0), .ref (mw_a E (6 + q))]) (rest := []) C Z hP hS (63) (cX_gainOf l E σ (0) (by omega) (6 + q) (by omega) z hru) vb_X4_gainOf tw_3_138 ⟨rfl, rfl⟩ ⟨Nat.le_of_ble_eq_true rfl, Nat.le_of_ble_eq_true rfl⟩ (by decide) sx_63 rfl rfl rfl hl.1 rfl (Nat.le_of_ble_eq_true rfl) dX11_told_178 ⟨Nat.zero_le _, Nat.zero_le _⟩ (fun r153 u154 H locs q155 hP hS => ?_)
              obtain ⟨e157, f156⟩ := q155
              subst e157
              exact mw_iret C hr hlk Z hP hS dX11_told_181 (⟨by unfold toldF; rw [if_neg (fun y => y.elim (fun y => y (by rw [c152]; decide)) (fun y => y.2 hhas)), c152, nI_clamp (by omega)]; rfl, ((xQs.rf σ).fs f156)⟩)
            refine lv_tableOut (tgt := 182) C.1 C.2.1 dX11_told_60 (by have z0 := (not_congr (ni_eq _ _)).mp c123; have y0 : (10 : Int32).toInt = 10 := rfl; have z1 := (not_congr (ni_eq _ _)).mp c129; have y1 : (11 : Int32).toInt = 11 := rfl; have z2 := (not_congr (ni_eq _ _)).mp c135; have y2 : (12 : Int32).toInt = 12 := rfl; have z3 := (not_congr (ni_eq _ _)).mp c141; have y3 : (13 : Int32).toInt = 13 := rfl; have z4 := (not_congr (ni_eq _ _)).mp c146; have y4 : (14 : Int32).toInt = 14 := rfl; have z5 := (not_congr (ni_eq _ _)).mp c152; have y5 : (15 : Int32).toInt = 15 := rfl; omega) (by decide) ?_
            refine lv_ldc (own := RX11) C.1 C.2.1 C.2.2.2.1 (C.2.2.2.2 _ tw_3_80) dX11_told_182 ?_
            exact mw_iret C hr hlk Z hP hS dX11_told_184 (⟨by unfold toldF; rw [if_pos (Or.inl (fun y => by simp only [ni_lt, ni_le, ni_eq] at c1 c81 c86 c122 c123 c129 c135 c141 c146 c152; have q0 : (0 : Int32).toInt = 0 := rfl; have q4 : (4 : Int32).toInt = 4 := rfl; have q5 : (5 : Int32).toInt = 5 := rfl; have q9 : (9 : Int32).toInt = 9 := rfl; have q10 : (10 : Int32).toInt = 10 := rfl; have q11 : (11 : Int32).toInt = 11 := rfl; have q12 : (12 : Int32).toInt = 12 := rfl; have q13 : (13 : Int32).toInt = 13 := rfl; have q14 : (14 : Int32).toInt = 14 := rfl; have q15 : (15 : Int32).toInt = 15 := rfl; omega))], (xQs.rf σ)⟩)
          · have hw0 : 5 ≤ ww.toInt := by have y := (not_congr (ni_lt _ _)).mp c86; have q : (5 : Int32).toInt = 5 := rfl; omega
            have hw4 : ww.toInt ≤ 9 := by have y := (not_congr (ni_lt _ _)).mp c122; have q : (9 : Int32).toInt = 9 := rfl; omega
            have hk5 : 5 ≤ ww.toNatClampNeg := by show 5 ≤ ww.toInt.toNat; omega
            obtain ⟨k, hk, ek0⟩ := nI_ofI (k := 9) (by omega) (hw4)
            subst ek0
            rw [nI_clamp (by omega)] at hk5
            refine lv_aload_n C.1 C.2.1 dX11_told_53 rfl (lv_at hl 0 rfl) ?_
            refine lv_iload_n C.1 C.2.1 dX11_told_54 rfl (lv_at hl 3 rfl) ?_
            refine mw_cVi (As := [.int (nI k)]) (rest := []) C Z hP hS (6 + q) (cX_readingC l E σ (6 + q) (by omega) k (by omega)) vb_X1_reading tw_3_57 ⟨rfl, rfl⟩ ⟨Nat.le_of_ble_eq_true rfl, Nat.le_of_ble_eq_true rfl⟩ (by omega) (sx_cu (by omega) (by omega)) rfl rfl rfl hl.1 rfl (Nat.le_of_ble_eq_true rfl) dX11_told_55 ⟨Nat.zero_le _, Nat.zero_le _⟩ (fun r158 u159 H locs q160 hP hS => ?_)
            obtain ⟨rfl, q160u⟩ := q160
            rw [q160u] at hP; clear q160u
            exact mw_iret C hr hlk Z hP hS dX11_told_58 (⟨by unfold toldF; rw [if_neg (fun y => y.elim (fun y => y ⟨by rw [nI_toInt (by omega)]; omega, by rw [nI_toInt (by omega)]; omega⟩) (fun y => y.2 hhas)), nI_clamp (by omega), nI_clamp (by omega)]; exact cuRd_td z _ _ ⟨hk5, by omega⟩, (xQs.rf σ)⟩)
      · have c85 := bI_0.mp c85
        refine lv_ldc (own := RX11) C.1 C.2.1 C.2.2.2.1 (C.2.2.2.2 _ tw_3_80) dX11_told_29 ?_
        exact mw_iret C hr hlk Z hP hS dX11_told_31 (⟨by unfold toldF; rw [if_pos ((Classical.em (0 ≤ ww.toInt ∧ ww.toInt ≤ 15)).elim (fun y => Or.inr ⟨by simp only [ni_lt, ni_le, ni_eq] at c1 c81; have q0 : (0 : Int32).toInt = 0 := rfl; have q4 : (4 : Int32).toInt = 4 := rfl; omega, c85⟩) Or.inl)], (xQs.rf σ)⟩)
    · have hw0 : 0 ≤ ww.toInt := by have y := (not_congr (ni_lt _ _)).mp c1; have q := zero32; omega
      have hw4 : ww.toInt ≤ 4 := by have y := (not_congr (ni_lt _ _)).mp c81; have q : (4 : Int32).toInt = 4 := rfl; omega
      obtain ⟨k, hk, ek0⟩ := nI_ofI (k := 4) (hw0) (hw4)
      subst ek0
      refine lv_aload_n C.1 C.2.1 dX11_told_9 rfl (lv_at hl 0 rfl) ?_
      refine mw_getr C Z hP (30) 0 (0) (by decide) sx_30 rfl rfl (by decide) inX11 tw_2_239 dX11_told_10 ?_
      refine lv_iload_n C.1 C.2.1 dX11_told_13 rfl (lv_at hl 2 rfl) ?_
      refine mw_cVi (As := [.int (nI k)]) (rest := []) C Z hP hS (0) (cX_readingS l E σ 0 (by decide) k (by omega)) vb_X6_reading tw_3_45 ⟨rfl, rfl⟩ ⟨Nat.le_of_ble_eq_true rfl, Nat.le_of_ble_eq_true rfl⟩ (by decide) sx_0 rfl rfl rfl hl.1 rfl (Nat.le_of_ble_eq_true rfl) dX11_told_14 ⟨Nat.zero_le _, Nat.zero_le _⟩ (fun r161 u162 H locs q163 hP hS => ?_)
      obtain ⟨rfl, q163u⟩ := q163
      rw [q163u] at hP; clear q163u
      exact mw_iret C hr hlk Z hP hS dX11_told_17 (⟨by unfold toldF tdF; rw [if_neg (fun y => by rw [nI_toInt (by omega)] at y; omega), nI_clamp (by omega), if_pos (by omega), stRd_at _ (by omega)], (xQs.rf σ)⟩)
