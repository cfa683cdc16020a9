/-! THE CLASS: THOUGHTS OF WHAT WOULD BE -/
def xTi (σ : mw_M) (D : Nat → Prop) (n : Nat) (u : mw_M) : Prop := xQs σ u ∧ (∀ j, j < 5 → ¬ D j → u.1 1 j = σ.1 0 j) ∧ u.1 1 5 = σ.1 0 5 ∧ u.1 1 6 = nI n ∧ ∀ p f, p < n → f < 5 → u.1 (14 + p) f = σ.1 (6 + p) f
theorem xBec.ti {σ u : mw_M} {n : Nat} (D : Nat → Prop) (h : xBec σ 1 0 n u) (hn : σ.1 0 6 = nI n) : xTi σ D n u := by
  obtain ⟨h1, h2, h3, h4⟩ := h
  refine ⟨⟨fun k hk => h3 k hk.1 (fun y => hk.2.1 y), fun k _ => by rw [h4]⟩, fun j hj _ => h1 j (by omega), h1 5 (by decide), (h1 6 (by decide)).trans hn, fun p f hp hf => ?_⟩
  have := h2 p f hp hf
  exact this
theorem xTi.fs {σ u v : mw_M} {D : Nat → Prop} {n : Nat} (h : xTi σ D n u) (f : xFs u v) : xTi σ D n v := by
  obtain ⟨h1, h2, h3, h4, h5⟩ := h
  refine ⟨h1.fs f, ?_⟩
  rw [f.1]
  exact ⟨h2, h3, h4, h5⟩
theorem xTi.of {σ u : mw_M} {D : Nat → Prop} {n : Nat} (h : xTi σ D n u) (hn : n ≤ 8) (f m : Int32) : xTi σ D n (ofM u f m) := by
  obtain ⟨h1, h2, h3, h4, h5⟩ := h
  have e := (of_ne u f m).1
  refine ⟨h1.of f m, fun j hj hd => ?_, ?_, ?_, fun p g hp hg => ?_⟩
  · rw [e 1 (by decide)]; exact h2 j hj hd
  · rw [e 1 (by decide)]; exact h3
  · rw [e 1 (by decide)]; exact h4
  · rw [e (14 + p) (by omega)]; exact h5 p g hp hg
theorem xTi.bg {σ u : mw_M} {D : Nat → Prop} {n : Nat} (h : xTi σ D n u) (hn : n ≤ 8) : xTi σ D n (bgM u) := by
  obtain ⟨h1, h2, h3, h4, h5⟩ := h
  have e := (bg_at u).2.2.2.1
  refine ⟨h1.bg, fun j hj hd => ?_, ?_, ?_, fun p g hp hg => ?_⟩
  · rw [e 1 (by decide)]; exact h2 j hj hd
  · rw [e 1 (by decide)]; exact h3
  · rw [e 1 (by decide)]; exact h4
  · rw [e (14 + p) (by omega)]; exact h5 p g hp hg
theorem xTi.si {σ u : mw_M} {D : Nat → Prop} {n : Nat} (h : xTi σ D n u) {k : Nat} (hd : D k) (hk : k < 5) (v : Int32) : xTi σ D n (mw_si u 1 k v) := by
  obtain ⟨h1, h2, h3, h4, h5⟩ := h
  refine ⟨⟨fun q hq => (mw_npF hq.1).trans (h1.1 q hq), h1.2⟩, fun j hj hd2 => (mw_nf (fun e : j = k => hd2 (by rw [e]; exact hd))).trans (h2 j hj hd2), (mw_nf (by omega)).trans h3, (mw_nf (by omega)).trans h4, fun p g hp hg => (mw_np (by omega)).trans (h5 p g hp hg)⟩
theorem xTi.ru {σ u : mw_M} {D : Nat → Prop} {n : Nat} {z : zP} (h : xTi σ D n u) (hr : xRu σ 0 z) : xRu u 1 z := by
  obtain ⟨t, tc, h1, h2, h3, h4, h5⟩ := hr
  exact ⟨t, tc, h.2.2.1.trans h1, by rw [h.1.1 37 (by decide)]; exact h2, h3, h4, h.1.tx h5⟩
theorem xTi.gain {σ u : mw_M} {D : Nat → Prop} {n : Nat} (h : xTi σ D n u) (z : zP) (S : Nat → Int32) (hS : ∀ j, j < 5 → u.1 1 j = S j) : sumP (fun p => gainP z (u.1 1) (cuX u 1 p)) n = allGain z S (cuX σ 0) n := by
  unfold allGain
  refine sumP_cg (fun p hp => cg_gain hS (fun f hf => ?_))
  exact h.2.2.2.2 p f hp (by omega)
def xBt (σ : mw_M) (D : Nat → Prop) (n : Nat) (B : Int32 × Int32) (u : mw_M) : Prop := xTi σ D n u ∧ (u.1 64 0, u.1 64 1) = B ∧ (u.1 64 2 = 0 ↔ u.1 64 0 = -1)
theorem xBt.next {σ u v : mw_M} {D : Nat → Prop} {n : Nat} {B : Int32 × Int32} (hn : n ≤ 8) (h : xTi σ D n v) (hb : (u.1 64 0, u.1 64 1) = B ∧ (u.1 64 2 = 0 ↔ u.1 64 0 = -1)) (he : v.1 64 = u.1 64) (f m : Int32) (hf : ¬ f = -1) : xBt σ D n (stB B f m) (ofM v f m) := by
  rw [← he] at hb
  exact ⟨h.of hn f m, of_B f m hf hb.2 hb.1⟩
theorem upd_at (S : Nat → Int32) (k : Nat) (v : Int32) : upd S k v k = v := pk_us

theorem th_one {σ u : mw_M} {k : Nat} {v : Int32} (h : ∀ j, j < 5 → ¬ (fun q => q = k) j → u.1 1 j = σ.1 0 j) : ∀ j, j < 5 → (mw_si u 1 k v).1 1 j = upd (σ.1 0) k v j := by
  intro j hj
  by_cases e : j = k
  · subst e
    rw [upd_at]
    exact mw_sf
  · rw [pk_un e]
    exact (mw_nf e).trans (h j hj e)

set_option maxHeartbeats 4000000 in
set_option maxRecDepth 100000 in
theorem cX_bestOf0 (l : Launch) (E : mw_E) (σ : mw_M) (n : Nat) (hn : σ.1 0 6 = nI n) (h8 : n ≤ 8) (z : zP) (hru : xRu σ 0 z) (w : Int32) : mw_Ci shX 75 gX l yX11_bestOf cX11_bestOf 6 (some .int) (rmF 7 202) E [.ref (mw_a E 30), .int 0, .int 1, .int 40, .int w] σ (fun r u => r = (if w = 0 then (bestP z (σ.1 0) (cuX σ 0) n 0 1 40).1 else (bestP z (σ.1 0) (cuX σ 0) n 0 1 40).2) ∧ xQs σ u) := by
  refine mw_of (by decide) gX_ok (Nat.le_of_ble_eq_true rfl) ?_
  intro p_ e_ s_ m_ below meth c_ C hr hlk Z hP ls hl
  have C : CallFix p_ m_ c_ cX11_bestOf 6 s_ _ lw_good RX11 := C
  have hl : lv_has ls 6 [(0, .ref (mw_a E 30)), (1, .int 0), (2, .int 1), (3, .int 40), (4, .int w)] := hl
  have hS : va_S (mw_A 75 E) s_.heap s_.heap [] := va_S.rf
  refine lv_aload_n C.1 C.2.1 dX11_bestOf_0 rfl (lv_at hl 0 rfl) ?_
  refine mw_getr C Z hP (30) 1 (1) (by decide) sx_30 rfl rfl (by decide) inX11 tw_3_0 dX11_bestOf_1 ?_
  refine lv_aload_n C.1 C.2.1 dX11_bestOf_4 rfl (lv_at hl 0 rfl) ?_
  refine mw_getr C Z hP (30) 0 (0) (by decide) sx_30 rfl rfl (by decide) inX11 tw_2_239 dX11_bestOf_5 ?_
  refine mw_cVv (As := [.ref (mw_a E 0)]) (rest := []) C Z hP hS (1) (cX_becomeS l E σ 1 0 (by decide) (by decide) (by decide) n hn h8) vb_X6_become tw_4_6 ⟨rfl, rfl⟩ ⟨Nat.le_of_ble_eq_true rfl, Nat.le_of_ble_eq_true rfl⟩ (by decide) sx_1 rfl rfl rfl hl.1 rfl (Nat.le_of_ble_eq_true rfl) dX11_bestOf_8 ⟨Nat.zero_le _, Nat.zero_le _⟩ (fun u2 H locs q3 hP hS => ?_)
  have ti4 := q3.ti (fun q => q = 0) hn
  refine lv_aload_n C.1 C.2.1 dX11_bestOf_11 rfl (lv_at hl 0 rfl) ?_
  refine mw_getr C Z hP (30) 8 (64) (by decide) sx_30 rfl rfl (by decide) inX11 tw_3_7 dX11_bestOf_12 ?_
  refine mw_cVv (As := []) (rest := []) C Z hP hS (64) (cX_begin l E u2 ) vb_X0_begin tw_4_14 ⟨rfl, rfl⟩ ⟨Nat.le_of_ble_eq_true rfl, Nat.le_of_ble_eq_true rfl⟩ (by decide) sx_64 rfl rfl rfl hl.1 rfl (Nat.le_of_ble_eq_true rfl) dX11_bestOf_15 ⟨Nat.zero_le _, Nat.zero_le _⟩ (fun u6 H locs q7 hP hS => ?_)
  subst q7
  refine lv_iload_n C.1 C.2.1 dX11_bestOf_18 rfl (lv_at hl 2 rfl) ?_
  refine lv_istore (lv' := [(5, .int 1), (0, .ref (mw_a E 30)), (1, .int 0), (2, .int 1), (3, .int 40), (4, .int w)]) C.1 C.2.1 dX11_bestOf_19 hl (by decide) rfl (fun ls hl => ?_)
  have lpa : ∀ (N : Nat) (j : Nat) (ςa : mw_M) (H : Heap) (locs : List Loc), 40 + 1 ≤ j + N → (j ≤ 40) → xBt σ (fun q => q = 0) n (bsF (fun i => nI (1 + i)) (fun i => allGain z (upd (σ.1 0) 0 (nI (1 + i))) (cuX σ 0) n) j) ςa → va_P (mw_D E) vwCl (mw_ws shX 75 E ςa) H → va_S (mw_A 75 E) s_.heap H locs → ∀ (ls : Array Slot), lv_has ls 6 [(0, .ref (mw_a E 30)), (1, .int 0), (2, .int 1), (3, .int 40), (4, .int w), (5, .int (nI (1 + j)))] → xWi p_ l e_ (rmF 7 202) s_ m_ [.ref (mw_a E 30), .int 0, .int 1, .int 40, .int w] below meth c_ E (fun r u => r = (if w = 0 then (bestP z (σ.1 0) (cuX σ 0) n 0 1 40).1 else (bestP z (σ.1 0) (cuX σ 0) n 0 1 40).2) ∧ xQs σ u) H locs (F0 m_ 21 ls []) := by
    intro N
    induction N with
    | zero => intros; exfalso; omega
    | succ N iha =>
      intro j ςa H locs hNa hj fra hP hS ls hl
      refine lv_iload C.1 C.2.1 dX11_bestOf_21 (lv_at hl 5 rfl) ?_
      refine lv_iload_n C.1 C.2.1 dX11_bestOf_23 rfl (lv_at hl 3 rfl) ?_
      refine lv_icmp_gt (tgt := 63) C.1 C.2.1 dX11_bestOf_24 (by decide) (fun c8 => ?_) (fun c8 => ?_)
      · have c8 := (nI_ltI (a := 40) (by decide) (by omega)).mp c8
        refine lv_aload_n C.1 C.2.1 dX11_bestOf_63 rfl (lv_at hl 0 rfl) ?_
        refine mw_getr C Z hP (30) 8 (64) (by decide) sx_30 rfl rfl (by decide) inX11 tw_3_7 dX11_bestOf_64 ?_
        refine lv_iload C.1 C.2.1 dX11_bestOf_67 (lv_at hl 4 rfl) ?_
        refine mw_cVi (As := [.int w]) (rest := []) C Z hP hS (64) (cX_answer l E ςa w) vb_X0_answer tw_4_18 ⟨rfl, rfl⟩ ⟨Nat.le_of_ble_eq_true rfl, Nat.le_of_ble_eq_true rfl⟩ (by decide) sx_64 rfl rfl rfl hl.1 rfl (Nat.le_of_ble_eq_true rfl) dX11_bestOf_69 ⟨Nat.zero_le _, Nat.zero_le _⟩ (fun r9 u10 H locs q11 hP hS => ?_)
        obtain ⟨rfl, q11u⟩ := q11
        rw [q11u] at hP; clear q11u
        exact mw_iret C hr hlk Z hP hS dX11_bestOf_72 (⟨by have e := fra.2.1; rw [show j = 40 by omega] at e; unfold bestP; rw [← e], fra.1.1⟩)
      · have c8 := (not_congr (nI_ltI (a := 40) (by decide) (by omega))).mp c8
        refine lv_aload_n C.1 C.2.1 dX11_bestOf_27 rfl (lv_at hl 0 rfl) ?_
        refine mw_getr C Z hP (30) 1 (1) (by decide) sx_30 rfl rfl (by decide) inX11 tw_3_0 dX11_bestOf_28 ?_
        refine lv_iload_n C.1 C.2.1 dX11_bestOf_31 rfl (lv_at hl 1 rfl) ?_
        refine lv_iload C.1 C.2.1 dX11_bestOf_32 (lv_at hl 5 rfl) ?_
        refine mw_cVv (As := [.int 0, .int (nI (1 + j))]) (rest := []) C Z hP hS (1) (cX_layS l E ςa 1 (by decide) 0 (by decide) (nI (1 + j))) vb_X6_lay tw_3_49 ⟨rfl, rfl⟩ ⟨Nat.le_of_ble_eq_true rfl, Nat.le_of_ble_eq_true rfl⟩ (by decide) sx_1 rfl rfl rfl hl.1 rfl (Nat.le_of_ble_eq_true rfl) dX11_bestOf_34 ⟨Nat.zero_le _, Nat.zero_le _⟩ (fun u13 H locs q14 hP hS => ?_)
        rw [slyM_at _ _ _ (by decide)] at q14
        subst q14
        refine lv_aload_n C.1 C.2.1 dX11_bestOf_37 rfl (lv_at hl 0 rfl) ?_
        refine mw_getr C Z hP (30) 8 (64) (by decide) sx_30 rfl rfl (by decide) inX11 tw_3_7 dX11_bestOf_38 ?_
        refine lv_iload C.1 C.2.1 dX11_bestOf_41 (lv_at hl 5 rfl) ?_
        refine lv_aload_n C.1 C.2.1 dX11_bestOf_43 rfl (lv_at hl 0 rfl) ?_
        refine mw_getr C Z hP (30) 7 (63) (by decide) sx_30 rfl rfl (by decide) inX11 tw_3_6 dX11_bestOf_44 ?_
        refine lv_aload_n C.1 C.2.1 dX11_bestOf_47 rfl (lv_at hl 0 rfl) ?_
        refine mw_getr C Z hP (30) 1 (1) (by decide) sx_30 rfl rfl (by decide) inX11 tw_3_0 dX11_bestOf_48 ?_
        refine mw_cVi (As := [.ref (mw_a E 1)]) (rest := [.int (nI (1 + j)), .ref (mw_a E 64)]) C Z hP hS (63) (cX_allGain0 l E (mw_si ςa 1 0 (nI (1 + j))) 1 (by decide) n (fra.1.si rfl (by decide) _).2.2.2.1 h8 z ((fra.1.si rfl (by decide) _).ru hru)) vb_X4_allGainOf tw_3_158 ⟨rfl, rfl⟩ ⟨Nat.le_of_ble_eq_true rfl, Nat.le_of_ble_eq_true rfl⟩ (by decide) sx_63 rfl rfl rfl hl.1 rfl (Nat.le_of_ble_eq_true rfl) dX11_bestOf_51 ⟨Nat.zero_le _, Nat.zero_le _⟩ (fun r15 u16 H locs q17 hP hS => ?_)
        obtain ⟨e19, f18⟩ := q17
        rw [(fra.1.si rfl (by decide) _).gain z (upd (σ.1 0) 0 (nI (1 + j))) (th_one fra.1.2.1)] at e19
        subst e19
        refine mw_cVv (As := [.int (nI (1 + j)), .int (allGain z (upd (σ.1 0) 0 (nI (1 + j))) (cuX σ 0) n)]) (rest := []) C Z hP hS (64) (cX_offer l E u16 (nI (1 + j)) (allGain z (upd (σ.1 0) 0 (nI (1 + j))) (cuX σ 0) n)) vb_X0_offer tw_3_188 ⟨rfl, rfl⟩ ⟨Nat.le_of_ble_eq_true rfl, Nat.le_of_ble_eq_true rfl⟩ (by decide) sx_64 rfl rfl rfl hl.1 rfl (Nat.le_of_ble_eq_true rfl) dX11_bestOf_54 ⟨Nat.zero_le _, Nat.zero_le _⟩ (fun u21 H locs q22 hP hS => ?_)
        subst q22
        refine lv_iinc (v := nI (1 + j + 1)) (lv' := [(5, .int (nI (1 + j + 1))), (0, .ref (mw_a E 30)), (1, .int 0), (2, .int 1), (3, .int 40), (4, .int w)]) C.1 C.2.1 dX11_bestOf_57 hl (k := 5) rfl (nI_1 _) (by decide) rfl (fun ls hl => ?_)
        refine lv_goto (tgt := 21) C.1 C.2.1 dX11_bestOf_60 (by decide) ?_
        exact iha (j + 1) (ofM u16 (nI (1 + j)) (allGain z (upd (σ.1 0) 0 (nI (1 + j))) (cuX σ 0) n)) _ _ (by omega) (by omega) (xBt.next h8 ((fra.1.si rfl (by decide) _).fs f18) fra.2 (by rw [f18.1]; rfl) _ _ (nI_nm1 (by omega))) hP hS ls (lv_sub hl [1, 2, 3, 4, 5, 0] rfl)
  exact lpa (41) 0 (bgM u2 ) _ _ (by omega) (by omega) ⟨(ti4.bg h8), rfl, ⟨fun _ => rfl, fun _ => rfl⟩⟩ hP hS ls (lv_sub hl [1, 2, 3, 4, 5, 0] rfl)

set_option maxHeartbeats 4000000 in
set_option maxRecDepth 100000 in
theorem cX_bestOf1 (l : Launch) (E : mw_E) (σ : mw_M) (n : Nat) (hn : σ.1 0 6 = nI n) (h8 : n ≤ 8) (z : zP) (hru : xRu σ 0 z) (w : Int32) : mw_Ci shX 75 gX l yX11_bestOf cX11_bestOf 6 (some .int) (rmF 7 202) E [.ref (mw_a E 30), .int 1, .int 1, .int 6, .int w] σ (fun r u => r = (if w = 0 then (bestP z (σ.1 0) (cuX σ 0) n 1 1 6).1 else (bestP z (σ.1 0) (cuX σ 0) n 1 1 6).2) ∧ xQs σ u) := by
  refine mw_of (by decide) gX_ok (Nat.le_of_ble_eq_true rfl) ?_
  intro p_ e_ s_ m_ below meth c_ C hr hlk Z hP ls hl
  have C : CallFix p_ m_ c_ cX11_bestOf 6 s_ _ lw_good RX11 := C
  have hl : lv_has ls 6 [(0, .ref (mw_a E 30)), (1, .int 1), (2, .int 1), (3, .int 6), (4, .int w)] := hl
  have hS : va_S (mw_A 75 E) s_.heap s_.heap [] := va_S.rf
  refine lv_aload_n C.1 C.2.1 dX11_bestOf_0 rfl (lv_at hl 0 rfl) ?_
  refine mw_getr C Z hP (30) 1 (1) (by decide) sx_30 rfl rfl (by decide) inX11 tw_3_0 dX11_bestOf_1 ?_
  refine lv_aload_n C.1 C.2.1 dX11_bestOf_4 rfl (lv_at hl 0 rfl) ?_
  refine mw_getr C Z hP (30) 0 (0) (by decide) sx_30 rfl rfl (by decide) inX11 tw_2_239 dX11_bestOf_5 ?_
  refine mw_cVv (As := [.ref (mw_a E 0)]) (rest := []) C Z hP hS (1) (cX_becomeS l E σ 1 0 (by decide) (by decide) (by decide) n hn h8) vb_X6_become tw_4_6 ⟨rfl, rfl⟩ ⟨Nat.le_of_ble_eq_true rfl, Nat.le_of_ble_eq_true rfl⟩ (by decide) sx_1 rfl rfl rfl hl.1 rfl (Nat.le_of_ble_eq_true rfl) dX11_bestOf_8 ⟨Nat.zero_le _, Nat.zero_le _⟩ (fun u2 H locs q3 hP hS => ?_)
  have ti4 := q3.ti (fun q => q = 1) hn
  refine lv_aload_n C.1 C.2.1 dX11_bestOf_11 rfl (lv_at hl 0 rfl) ?_
  refine mw_getr C Z hP (30) 8 (64) (by decide) sx_30 rfl rfl (by decide) inX11 tw_3_7 dX11_bestOf_12 ?_
  refine mw_cVv (As := []) (rest := []) C Z hP hS (64) (cX_begin l E u2 ) vb_X0_begin tw_4_14 ⟨rfl, rfl⟩ ⟨Nat.le_of_ble_eq_true rfl, Nat.le_of_ble_eq_true rfl⟩ (by decide) sx_64 rfl rfl rfl hl.1 rfl (Nat.le_of_ble_eq_true rfl) dX11_bestOf_15 ⟨Nat.zero_le _, Nat.zero_le _⟩ (fun u6 H locs q7 hP hS => ?_)
  subst q7
  refine lv_iload_n C.1 C.2.1 dX11_bestOf_18 rfl (lv_at hl 2 rfl) ?_
  refine lv_istore (lv' := [(5, .int 1), (0, .ref (mw_a E 30)), (1, .int 1), (2, .int 1), (3, .int 6), (4, .int w)]) C.1 C.2.1 dX11_bestOf_19 hl (by decide) rfl (fun ls hl => ?_)
  have lpa : ∀ (N : Nat) (j : Nat) (ςa : mw_M) (H : Heap) (locs : List Loc), 6 + 1 ≤ j + N → (j ≤ 6) → xBt σ (fun q => q = 1) n (bsF (fun i => nI (1 + i)) (fun i => allGain z (upd (σ.1 0) 1 (nI (1 + i))) (cuX σ 0) n) j) ςa → va_P (mw_D E) vwCl (mw_ws shX 75 E ςa) H → va_S (mw_A 75 E) s_.heap H locs → ∀ (ls : Array Slot), lv_has ls 6 [(0, .ref (mw_a E 30)), (1, .int 1), (2, .int 1), (3, .int 6), (4, .int w), (5, .int (nI (1 + j)))] → xWi p_ l e_ (rmF 7 202) s_ m_ [.ref (mw_a E 30), .int 1, .int 1, .int 6, .int w] below meth c_ E (fun r u => r = (if w = 0 then (bestP z (σ.1 0) (cuX σ 0) n 1 1 6).1 else (bestP z (σ.1 0) (cuX σ 0) n 1 1 6).2) ∧ xQs σ u) H locs (F0 m_ 21 ls []) := by
    intro N
    induction N with
    | zero => intros; exfalso; omega
    | succ N iha =>
      intro j ςa H locs hNa hj fra hP hS ls hl
      refine lv_iload C.1 C.2.1 dX11_bestOf_21 (lv_at hl 5 rfl) ?_
      refine lv_iload_n C.1 C.2.1 dX11_bestOf_23 rfl (lv_at hl 3 rfl) ?_
      refine lv_icmp_gt (tgt := 63) C.1 C.2.1 dX11_bestOf_24 (by decide) (fun c8 => ?_) (fun c8 => ?_)
      · have c8 := (nI_ltI (a := 6) (by decide) (by omega)).mp c8
        refine lv_aload_n C.1 C.2.1 dX11_bestOf_63 rfl (lv_at hl 0 rfl) ?_
        refine mw_getr C Z hP (30) 8 (64) (by decide) sx_30 rfl rfl (by decide) inX11 tw_3_7 dX11_bestOf_64 ?_
        refine lv_iload C.1 C.2.1 dX11_bestOf_67 (lv_at hl 4 rfl) ?_
        refine mw_cVi (As := [.int w]) (rest := []) C Z hP hS (64) (cX_answer l E ςa w) vb_X0_answer tw_4_18 ⟨rfl, rfl⟩ ⟨Nat.le_of_ble_eq_true rfl, Nat.le_of_ble_eq_true rfl⟩ (by decide) sx_64 rfl rfl rfl hl.1 rfl (Nat.le_of_ble_eq_true rfl) dX11_bestOf_69 ⟨Nat.zero_le _, Nat.zero_le _⟩ (fun r9 u10 H locs q11 hP hS => ?_)
        obtain ⟨rfl, q11u⟩ := q11
        rw [q11u] at hP; clear q11u
        exact mw_iret C hr hlk Z hP hS dX11_bestOf_72 (⟨by have e := fra.2.1; rw [show j = 6 by omega] at e; unfold bestP; rw [← e], fra.1.1⟩)
      · have c8 := (not_congr (nI_ltI (a := 6) (by decide) (by omega))).mp c8
        refine lv_aload_n C.1 C.2.1 dX11_bestOf_27 rfl (lv_at hl 0 rfl) ?_
        refine mw_getr C Z hP (30) 1 (1) (by decide) sx_30 rfl rfl (by decide) inX11 tw_3_0 dX11_bestOf_28 ?_
        refine lv_iload_n C.1 C.2.1 dX11_bestOf_31 rfl (lv_at hl 1 rfl) ?_
        refine lv_iload C.1 C.2.1 dX11_bestOf_32 (lv_at hl 5 rfl) ?_
        refine mw_cVv (As := [.int 1, .int (nI (1 + j))]) (rest := []) C Z hP hS (1) (cX_layS l E ςa 1 (by decide) 1 (by decide) (nI (1 + j))) vb_X6_lay tw_3_49 ⟨rfl, rfl⟩ ⟨Nat.le_of_ble_eq_true rfl, Nat.le_of_ble_eq_true rfl⟩ (by decide) sx_1 rfl rfl rfl hl.1 rfl (Nat.le_of_ble_eq_true rfl) dX11_bestOf_34 ⟨Nat.zero_le _, Nat.zero_le _⟩ (fun u13 H locs q14 hP hS => ?_)
        rw [slyM_at _ _ _ (by decide)] at q14
        subst q14
        refine lv_aload_n C.1 C.2.1 dX11_bestOf_37 rfl (lv_at hl 0 rfl) ?_
        refine mw_getr C Z hP (30) 8 (64) (by decide) sx_30 rfl rfl (by decide) inX11 tw_3_7 dX11_bestOf_38 ?_
        refine lv_iload C.1 C.2.1 dX11_bestOf_41 (lv_at hl 5 rfl) ?_
        refine lv_aload_n C.1 C.2.1 dX11_bestOf_43 rfl (lv_at hl 0 rfl) ?_
        refine mw_getr C Z hP (30) 7 (63) (by decide) sx_30 rfl rfl (by decide) inX11 tw_3_6 dX11_bestOf_44 ?_
        refine lv_aload_n C.1 C.2.1 dX11_bestOf_47 rfl (lv_at hl 0 rfl) ?_
        refine mw_getr C Z hP (30) 1 (1) (by decide) sx_30 rfl rfl (by decide) inX11 tw_3_0 dX11_bestOf_48 ?_
        refine mw_cVi (As := [.ref (mw_a E 1)]) (rest := [.int (nI (1 + j)), .ref (mw_a E 64)]) C Z hP hS (63) (cX_allGain0 l E (mw_si ςa 1 1 (nI (1 + j))) 1 (by decide) n (fra.1.si rfl (by decide) _).2.2.2.1 h8 z ((fra.1.si rfl (by decide) _).ru hru)) vb_X4_allGainOf tw_3_158 ⟨rfl, rfl⟩ ⟨Nat.le_of_ble_eq_true rfl, Nat.le_of_ble_eq_true rfl⟩ (by decide) sx_63 rfl rfl rfl hl.1 rfl (Nat.le_of_ble_eq_true rfl) dX11_bestOf_51 ⟨Nat.zero_le _, Nat.zero_le _⟩ (fun r15 u16 H locs q17 hP hS => ?_)
        obtain ⟨e19, f18⟩ := q17
        rw [(fra.1.si rfl (by decide) _).gain z (upd (σ.1 0) 1 (nI (1 + j))) (th_one fra.1.2.1)] at e19
        subst e19
        refine mw_cVv (As := [.int (nI (1 + j)), .int (allGain z (upd (σ.1 0) 1 (nI (1 + j))) (cuX σ 0) n)]) (rest := []) C Z hP hS (64) (cX_offer l E u16 (nI (1 + j)) (allGain z (upd (σ.1 0) 1 (nI (1 + j))) (cuX σ 0) n)) vb_X0_offer tw_3_188 ⟨rfl, rfl⟩ ⟨Nat.le_of_ble_eq_true rfl, Nat.le_of_ble_eq_true rfl⟩ (by decide) sx_64 rfl rfl rfl hl.1 rfl (Nat.le_of_ble_eq_true rfl) dX11_bestOf_54 ⟨Nat.zero_le _, Nat.zero_le _⟩ (fun u21 H locs q22 hP hS => ?_)
        subst q22
        refine lv_iinc (v := nI (1 + j + 1)) (lv' := [(5, .int (nI (1 + j + 1))), (0, .ref (mw_a E 30)), (1, .int 1), (2, .int 1), (3, .int 6), (4, .int w)]) C.1 C.2.1 dX11_bestOf_57 hl (k := 5) rfl (nI_1 _) (by decide) rfl (fun ls hl => ?_)
        refine lv_goto (tgt := 21) C.1 C.2.1 dX11_bestOf_60 (by decide) ?_
        exact iha (j + 1) (ofM u16 (nI (1 + j)) (allGain z (upd (σ.1 0) 1 (nI (1 + j))) (cuX σ 0) n)) _ _ (by omega) (by omega) (xBt.next h8 ((fra.1.si rfl (by decide) _).fs f18) fra.2 (by rw [f18.1]; rfl) _ _ (nI_nm1 (by omega))) hP hS ls (lv_sub hl [1, 2, 3, 4, 5, 0] rfl)
  exact lpa (7) 0 (bgM u2 ) _ _ (by omega) (by omega) ⟨(ti4.bg h8), rfl, ⟨fun _ => rfl, fun _ => rfl⟩⟩ hP hS ls (lv_sub hl [1, 2, 3, 4, 5, 0] rfl)

set_option maxHeartbeats 4000000 in
set_option maxRecDepth 100000 in
theorem cX_bestOf2 (l : Launch) (E : mw_E) (σ : mw_M) (n : Nat) (hn : σ.1 0 6 = nI n) (h8 : n ≤ 8) (z : zP) (hru : xRu σ 0 z) (w : Int32) : mw_Ci shX 75 gX l yX11_bestOf cX11_bestOf 6 (some .int) (rmF 7 202) E [.ref (mw_a E 30), .int 2, .int 0, .int 1, .int w] σ (fun r u => r = (if w = 0 then (bestP z (σ.1 0) (cuX σ 0) n 2 0 2).1 else (bestP z (σ.1 0) (cuX σ 0) n 2 0 2).2) ∧ xQs σ u) := by
  refine mw_of (by decide) gX_ok (Nat.le_of_ble_eq_true rfl) ?_
  intro p_ e_ s_ m_ below meth c_ C hr hlk Z hP ls hl
  have C : CallFix p_ m_ c_ cX11_bestOf 6 s_ _ lw_good RX11 := C
  have hl : lv_has ls 6 [(0, .ref (mw_a E 30)), (1, .int 2), (2, .int 0), (3, .int 1), (4, .int w)] := hl
  have hS : va_S (mw_A 75 E) s_.heap s_.heap [] := va_S.rf
  refine lv_aload_n C.1 C.2.1 dX11_bestOf_0 rfl (lv_at hl 0 rfl) ?_
  refine mw_getr C Z hP (30) 1 (1) (by decide) sx_30 rfl rfl (by decide) inX11 tw_3_0 dX11_bestOf_1 ?_
  refine lv_aload_n C.1 C.2.1 dX11_bestOf_4 rfl (lv_at hl 0 rfl) ?_
  refine mw_getr C Z hP (30) 0 (0) (by decide) sx_30 rfl rfl (by decide) inX11 tw_2_239 dX11_bestOf_5 ?_
  refine mw_cVv (As := [.ref (mw_a E 0)]) (rest := []) C Z hP hS (1) (cX_becomeS l E σ 1 0 (by decide) (by decide) (by decide) n hn h8) vb_X6_become tw_4_6 ⟨rfl, rfl⟩ ⟨Nat.le_of_ble_eq_true rfl, Nat.le_of_ble_eq_true rfl⟩ (by decide) sx_1 rfl rfl rfl hl.1 rfl (Nat.le_of_ble_eq_true rfl) dX11_bestOf_8 ⟨Nat.zero_le _, Nat.zero_le _⟩ (fun u2 H locs q3 hP hS => ?_)
  have ti4 := q3.ti (fun q => q = 2) hn
  refine lv_aload_n C.1 C.2.1 dX11_bestOf_11 rfl (lv_at hl 0 rfl) ?_
  refine mw_getr C Z hP (30) 8 (64) (by decide) sx_30 rfl rfl (by decide) inX11 tw_3_7 dX11_bestOf_12 ?_
  refine mw_cVv (As := []) (rest := []) C Z hP hS (64) (cX_begin l E u2 ) vb_X0_begin tw_4_14 ⟨rfl, rfl⟩ ⟨Nat.le_of_ble_eq_true rfl, Nat.le_of_ble_eq_true rfl⟩ (by decide) sx_64 rfl rfl rfl hl.1 rfl (Nat.le_of_ble_eq_true rfl) dX11_bestOf_15 ⟨Nat.zero_le _, Nat.zero_le _⟩ (fun u6 H locs q7 hP hS => ?_)
  subst q7
  refine lv_iload_n C.1 C.2.1 dX11_bestOf_18 rfl (lv_at hl 2 rfl) ?_
  refine lv_istore (lv' := [(5, .int 0), (0, .ref (mw_a E 30)), (1, .int 2), (2, .int 0), (3, .int 1), (4, .int w)]) C.1 C.2.1 dX11_bestOf_19 hl (by decide) rfl (fun ls hl => ?_)
  have lpa : ∀ (N : Nat) (j : Nat) (ςa : mw_M) (H : Heap) (locs : List Loc), 2 + 1 ≤ j + N → (j ≤ 2) → xBt σ (fun q => q = 2) n (bsF (fun i => nI (0 + i)) (fun i => allGain z (upd (σ.1 0) 2 (nI (0 + i))) (cuX σ 0) n) j) ςa → va_P (mw_D E) vwCl (mw_ws shX 75 E ςa) H → va_S (mw_A 75 E) s_.heap H locs → ∀ (ls : Array Slot), lv_has ls 6 [(0, .ref (mw_a E 30)), (1, .int 2), (2, .int 0), (3, .int 1), (4, .int w), (5, .int (nI (0 + j)))] → xWi p_ l e_ (rmF 7 202) s_ m_ [.ref (mw_a E 30), .int 2, .int 0, .int 1, .int w] below meth c_ E (fun r u => r = (if w = 0 then (bestP z (σ.1 0) (cuX σ 0) n 2 0 2).1 else (bestP z (σ.1 0) (cuX σ 0) n 2 0 2).2) ∧ xQs σ u) H locs (F0 m_ 21 ls []) := by
    intro N
    induction N with
    | zero => intros; exfalso; omega
    | succ N iha =>
      intro j ςa H locs hNa hj fra hP hS ls hl
      refine lv_iload C.1 C.2.1 dX11_bestOf_21 (lv_at hl 5 rfl) ?_
      refine lv_iload_n C.1 C.2.1 dX11_bestOf_23 rfl (lv_at hl 3 rfl) ?_
      refine lv_icmp_gt (tgt := 63) C.1 C.2.1 dX11_bestOf_24 (by decide) (fun c8 => ?_) (fun c8 => ?_)
      · have c8 := (nI_ltI (a := 1) (by decide) (by omega)).mp c8
        refine lv_aload_n C.1 C.2.1 dX11_bestOf_63 rfl (lv_at hl 0 rfl) ?_
        refine mw_getr C Z hP (30) 8 (64) (by decide) sx_30 rfl rfl (by decide) inX11 tw_3_7 dX11_bestOf_64 ?_
        refine lv_iload C.1 C.2.1 dX11_bestOf_67 (lv_at hl 4 rfl) ?_
        refine mw_cVi (As := [.int w]) (rest := []) C Z hP hS (64) (cX_answer l E ςa w) vb_X0_answer tw_4_18 ⟨rfl, rfl⟩ ⟨Nat.le_of_ble_eq_true rfl, Nat.le_of_ble_eq_true rfl⟩ (by decide) sx_64 rfl rfl rfl hl.1 rfl (Nat.le_of_ble_eq_true rfl) dX11_bestOf_69 ⟨Nat.zero_le _, Nat.zero_le _⟩ (fun r9 u10 H locs q11 hP hS => ?_)
        obtain ⟨rfl, q11u⟩ := q11
        rw [q11u] at hP; clear q11u
        exact mw_iret C hr hlk Z hP hS dX11_bestOf_72 (⟨by have e := fra.2.1; rw [show j = 2 by omega] at e; unfold bestP; rw [← e], fra.1.1⟩)
      · have c8 := (not_congr (nI_ltI (a := 1) (by decide) (by omega))).mp c8
        refine lv_aload_n C.1 C.2.1 dX11_bestOf_27 rfl (lv_at hl 0 rfl) ?_
        refine mw_getr C Z hP (30) 1 (1) (by decide) sx_30 rfl rfl (by decide) inX11 tw_3_0 dX11_bestOf_28 ?_
        refine lv_iload_n C.1 C.2.1 dX11_bestOf_31 rfl (lv_at hl 1 rfl) ?_
        refine lv_iload C.1 C.2.1 dX11_bestOf_32 (lv_at hl 5 rfl) ?_
        refine mw_cVv (As := [.int 2, .int (nI (0 + j))]) (rest := []) C Z hP hS (1) (cX_layS l E ςa 1 (by decide) 2 (by decide) (nI (0 + j))) vb_X6_lay tw_3_49 ⟨rfl, rfl⟩ ⟨Nat.le_of_ble_eq_true rfl, Nat.le_of_ble_eq_true rfl⟩ (by decide) sx_1 rfl rfl rfl hl.1 rfl (Nat.le_of_ble_eq_true rfl) dX11_bestOf_34 ⟨Nat.zero_le _, Nat.zero_le _⟩ (fun u13 H locs q14 hP hS => ?_)
        rw [slyM_at _ _ _ (by decide)] at q14
        subst q14
        refine lv_aload_n C.1 C.2.1 dX11_bestOf_37 rfl (lv_at hl 0 rfl) ?_
        refine mw_getr C Z hP (30) 8 (64) (by decide) sx_30 rfl rfl (by decide) inX11 tw_3_7 dX11_bestOf_38 ?_
        refine lv_iload C.1 C.2.1 dX11_bestOf_41 (lv_at hl 5 rfl) ?_
        refine lv_aload_n C.1 C.2.1 dX11_bestOf_43 rfl (lv_at hl 0 rfl) ?_
        refine mw_getr C Z hP (30) 7 (63) (by decide) sx_30 rfl rfl (by decide) inX11 tw_3_6 dX11_bestOf_44 ?_
        refine lv_aload_n C.1 C.2.1 dX11_bestOf_47 rfl (lv_at hl 0 rfl) ?_
        refine mw_getr C Z hP (30) 1 (1) (by decide) sx_30 rfl rfl (by decide) inX11 tw_3_0 dX11_bestOf_48 ?_
        refine mw_cVi (As := [.ref (mw_a E 1)]) (rest := [.int (nI (0 + j)), .ref (mw_a E 64)]) C Z hP hS (63) (cX_allGain0 l E (mw_si ςa 1 2 (nI (0 + j))) 1 (by decide) n (fra.1.si rfl (by decide) _).2.2.2.1 h8 z ((fra.1.si rfl (by decide) _).ru hru)) vb_X4_allGainOf tw_3_158 ⟨rfl, rfl⟩ ⟨Nat.le_of_ble_eq_true rfl, Nat.le_of_ble_eq_true rfl⟩ (by decide) sx_63 rfl rfl rfl hl.1 rfl (Nat.le_of_ble_eq_true rfl) dX11_bestOf_51 ⟨Nat.zero_le _, Nat.zero_le _⟩ (fun r15 u16 H locs q17 hP hS => ?_)
        obtain ⟨e19, f18⟩ := q17
        rw [(fra.1.si rfl (by decide) _).gain z (upd (σ.1 0) 2 (nI (0 + j))) (th_one fra.1.2.1)] at e19
        subst e19
        refine mw_cVv (As := [.int (nI (0 + j)), .int (allGain z (upd (σ.1 0) 2 (nI (0 + j))) (cuX σ 0) n)]) (rest := []) C Z hP hS (64) (cX_offer l E u16 (nI (0 + j)) (allGain z (upd (σ.1 0) 2 (nI (0 + j))) (cuX σ 0) n)) vb_X0_offer tw_3_188 ⟨rfl, rfl⟩ ⟨Nat.le_of_ble_eq_true rfl, Nat.le_of_ble_eq_true rfl⟩ (by decide) sx_64 rfl rfl rfl hl.1 rfl (Nat.le_of_ble_eq_true rfl) dX11_bestOf_54 ⟨Nat.zero_le _, Nat.zero_le _⟩ (fun u21 H locs q22 hP hS => ?_)
        subst q22
        refine lv_iinc (v := nI (0 + j + 1)) (lv' := [(5, .int (nI (0 + j + 1))), (0, .ref (mw_a E 30)), (1, .int 2), (2, .int 0), (3, .int 1), (4, .int w)]) C.1 C.2.1 dX11_bestOf_57 hl (k := 5) rfl (nI_1 _) (by decide) rfl (fun ls hl => ?_)
        refine lv_goto (tgt := 21) C.1 C.2.1 dX11_bestOf_60 (by decide) ?_
        exact iha (j + 1) (ofM u16 (nI (0 + j)) (allGain z (upd (σ.1 0) 2 (nI (0 + j))) (cuX σ 0) n)) _ _ (by omega) (by omega) (xBt.next h8 ((fra.1.si rfl (by decide) _).fs f18) fra.2 (by rw [f18.1]; rfl) _ _ (nI_nm1 (by omega))) hP hS ls (lv_sub hl [1, 2, 3, 4, 5, 0] rfl)
  exact lpa (3) 0 (bgM u2 ) _ _ (by omega) (by omega) ⟨(ti4.bg h8), rfl, ⟨fun _ => rfl, fun _ => rfl⟩⟩ hP hS ls (lv_sub hl [1, 2, 3, 4, 5, 0] rfl)

set_option maxHeartbeats 4000000 in
set_option maxRecDepth 100000 in
theorem cX_cubes (l : Launch) (E : mw_E) (σ : mw_M) (n : Nat) (hn : σ.1 0 6 = nI n) (h8 : n ≤ 8) (z : zP) (hru : xRu σ 0 z) (w : Int32) : mw_Ci shX 75 gX l yX11_cubes cX11_cubes 2 (some .int) (rmF 8 227) E [.ref (mw_a E 30), .int w] σ (fun r u => r = bestF z (σ.1 0) (cuX σ 0) n 0 1 40 w ∧ xQs σ u) := by
  refine mw_of (by decide) gX_ok (Nat.le_of_ble_eq_true rfl) ?_
  intro p_ e_ s_ m_ below meth c_ C hr hlk Z hP ls hl
  have C : CallFix p_ m_ c_ cX11_cubes 2 s_ _ lw_good RX11 := C
  have hl : lv_has ls 2 [(0, .ref (mw_a E 30)), (1, .int w)] := hl
  have hS : va_S (mw_A 75 E) s_.heap s_.heap [] := va_S.rf
  refine lv_iload_n C.1 C.2.1 dX11_cubes_0 rfl (lv_at hl 1 rfl) ?_
  refine mw_cSi (As := [.int w]) (rest := []) C Z hP hS (cX_is01 l E σ w) sb_X11_isZeroOrOne tw_3_202 ⟨rfl, rfl⟩ ⟨Nat.le_of_ble_eq_true rfl, Nat.le_of_ble_eq_true rfl⟩ rfl hl.1 rfl (Nat.le_of_ble_eq_true rfl) dX11_cubes_1 ⟨Nat.zero_le _, Nat.zero_le _⟩ (fun r1 u2 H locs q3 hP hS => ?_)
  obtain ⟨rfl, q3u⟩ := q3
  rw [q3u] at hP; clear q3u
  refine lv_if_eq (tgt := 19) C.1 C.2.1 dX11_cubes_4 (by decide) (fun c4 => ?_) (fun c4 => ?_)
  · have c4 := bI_0.mp c4
    refine lv_ldc (own := RX11) C.1 C.2.1 C.2.2.2.1 (C.2.2.2.2 _ tw_3_80) dX11_cubes_19 ?_
    exact mw_iret C hr hlk Z hP hS dX11_cubes_21 (⟨by unfold bestF; rw [if_pos c4], (xQs.rf σ)⟩)
  · have c4 := bI_n.mp c4
    refine lv_aload_n C.1 C.2.1 dX11_cubes_7 rfl (lv_at hl 0 rfl) ?_
    refine lv_iconst (v := 0) C.1 C.2.1 dX11_cubes_8 (by decide) ?_
    refine lv_iconst (v := 1) C.1 C.2.1 dX11_cubes_9 (by decide) ?_
    refine lv_bipush (v := 40) C.1 C.2.1 dX11_cubes_10 (by decide) ?_
    refine lv_iload_n C.1 C.2.1 dX11_cubes_12 rfl (lv_at hl 1 rfl) ?_
    refine mw_cVi (As := [.int 0, .int 1, .int 40, .int w]) (rest := []) C Z hP hS (30) (cX_bestOf0 l E σ n hn h8 z hru w) vb_X11_bestOf tw_4_2 ⟨rfl, rfl⟩ ⟨Nat.le_of_ble_eq_true rfl, Nat.le_of_ble_eq_true rfl⟩ (by decide) sx_30 rfl rfl rfl hl.1 rfl (Nat.le_of_ble_eq_true rfl) dX11_cubes_13 ⟨Nat.zero_le _, Nat.zero_le _⟩ (fun r5 u6 H locs q7 hP hS => ?_)
    obtain ⟨e9, f8⟩ := q7
    subst e9
    refine lv_goto (tgt := 21) C.1 C.2.1 dX11_cubes_16 (by decide) ?_
    exact mw_iret C hr hlk Z hP hS dX11_cubes_21 (⟨by unfold bestF; rw [if_neg (Decidable.not_not.mpr c4)], f8⟩)

set_option maxHeartbeats 4000000 in
set_option maxRecDepth 100000 in
theorem cX_shelf (l : Launch) (E : mw_E) (σ : mw_M) (n : Nat) (hn : σ.1 0 6 = nI n) (h8 : n ≤ 8) (z : zP) (hru : xRu σ 0 z) (w : Int32) : mw_Ci shX 75 gX l yX11_shelf cX11_shelf 2 (some .int) (rmF 8 227) E [.ref (mw_a E 30), .int w] σ (fun r u => r = bestF z (σ.1 0) (cuX σ 0) n 1 1 6 w ∧ xQs σ u) := by
  refine mw_of (by decide) gX_ok (Nat.le_of_ble_eq_true rfl) ?_
  intro p_ e_ s_ m_ below meth c_ C hr hlk Z hP ls hl
  have C : CallFix p_ m_ c_ cX11_shelf 2 s_ _ lw_good RX11 := C
  have hl : lv_has ls 2 [(0, .ref (mw_a E 30)), (1, .int w)] := hl
  have hS : va_S (mw_A 75 E) s_.heap s_.heap [] := va_S.rf
  refine lv_iload_n C.1 C.2.1 dX11_shelf_0 rfl (lv_at hl 1 rfl) ?_
  refine mw_cSi (As := [.int w]) (rest := []) C Z hP hS (cX_is01 l E σ w) sb_X11_isZeroOrOne tw_3_202 ⟨rfl, rfl⟩ ⟨Nat.le_of_ble_eq_true rfl, Nat.le_of_ble_eq_true rfl⟩ rfl hl.1 rfl (Nat.le_of_ble_eq_true rfl) dX11_shelf_1 ⟨Nat.zero_le _, Nat.zero_le _⟩ (fun r1 u2 H locs q3 hP hS => ?_)
  obtain ⟨rfl, q3u⟩ := q3
  rw [q3u] at hP; clear q3u
  refine lv_if_eq (tgt := 19) C.1 C.2.1 dX11_shelf_4 (by decide) (fun c4 => ?_) (fun c4 => ?_)
  · have c4 := bI_0.mp c4
    refine lv_ldc (own := RX11) C.1 C.2.1 C.2.2.2.1 (C.2.2.2.2 _ tw_3_80) dX11_shelf_19 ?_
    exact mw_iret C hr hlk Z hP hS dX11_shelf_21 (⟨by unfold bestF; rw [if_pos c4], (xQs.rf σ)⟩)
  · have c4 := bI_n.mp c4
    refine lv_aload_n C.1 C.2.1 dX11_shelf_7 rfl (lv_at hl 0 rfl) ?_
    refine lv_iconst (v := 1) C.1 C.2.1 dX11_shelf_8 (by decide) ?_
    refine lv_iconst (v := 1) C.1 C.2.1 dX11_shelf_9 (by decide) ?_
    refine lv_bipush (v := 6) C.1 C.2.1 dX11_shelf_10 (by decide) ?_
    refine lv_iload_n C.1 C.2.1 dX11_shelf_12 rfl (lv_at hl 1 rfl) ?_
    refine mw_cVi (As := [.int 1, .int 1, .int 6, .int w]) (rest := []) C Z hP hS (30) (cX_bestOf1 l E σ n hn h8 z hru w) vb_X11_bestOf tw_4_2 ⟨rfl, rfl⟩ ⟨Nat.le_of_ble_eq_true rfl, Nat.le_of_ble_eq_true rfl⟩ (by decide) sx_30 rfl rfl rfl hl.1 rfl (Nat.le_of_ble_eq_true rfl) dX11_shelf_13 ⟨Nat.zero_le _, Nat.zero_le _⟩ (fun r5 u6 H locs q7 hP hS => ?_)
    obtain ⟨e9, f8⟩ := q7
    subst e9
    refine lv_goto (tgt := 21) C.1 C.2.1 dX11_shelf_16 (by decide) ?_
    exact mw_iret C hr hlk Z hP hS dX11_shelf_21 (⟨by unfold bestF; rw [if_neg (Decidable.not_not.mpr c4)], f8⟩)

set_option maxHeartbeats 4000000 in
set_option maxRecDepth 100000 in
theorem cX_apron (l : Launch) (E : mw_E) (σ : mw_M) (n : Nat) (hn : σ.1 0 6 = nI n) (h8 : n ≤ 8) (z : zP) (hru : xRu σ 0 z) (w : Int32) : mw_Ci shX 75 gX l yX11_apron cX11_apron 2 (some .int) (rmF 8 227) E [.ref (mw_a E 30), .int w] σ (fun r u => r = bestF z (σ.1 0) (cuX σ 0) n 2 0 2 w ∧ xQs σ u) := by
  refine mw_of (by decide) gX_ok (Nat.le_of_ble_eq_true rfl) ?_
  intro p_ e_ s_ m_ below meth c_ C hr hlk Z hP ls hl
  have C : CallFix p_ m_ c_ cX11_apron 2 s_ _ lw_good RX11 := C
  have hl : lv_has ls 2 [(0, .ref (mw_a E 30)), (1, .int w)] := hl
  have hS : va_S (mw_A 75 E) s_.heap s_.heap [] := va_S.rf
  refine lv_iload_n C.1 C.2.1 dX11_apron_0 rfl (lv_at hl 1 rfl) ?_
  refine mw_cSi (As := [.int w]) (rest := []) C Z hP hS (cX_is01 l E σ w) sb_X11_isZeroOrOne tw_3_202 ⟨rfl, rfl⟩ ⟨Nat.le_of_ble_eq_true rfl, Nat.le_of_ble_eq_true rfl⟩ rfl hl.1 rfl (Nat.le_of_ble_eq_true rfl) dX11_apron_1 ⟨Nat.zero_le _, Nat.zero_le _⟩ (fun r1 u2 H locs q3 hP hS => ?_)
  obtain ⟨rfl, q3u⟩ := q3
  rw [q3u] at hP; clear q3u
  refine lv_if_eq (tgt := 18) C.1 C.2.1 dX11_apron_4 (by decide) (fun c4 => ?_) (fun c4 => ?_)
  · have c4 := bI_0.mp c4
    refine lv_ldc (own := RX11) C.1 C.2.1 C.2.2.2.1 (C.2.2.2.2 _ tw_3_80) dX11_apron_18 ?_
    exact mw_iret C hr hlk Z hP hS dX11_apron_20 (⟨by unfold bestF; rw [if_pos c4], (xQs.rf σ)⟩)
  · have c4 := bI_n.mp c4
    refine lv_aload_n C.1 C.2.1 dX11_apron_7 rfl (lv_at hl 0 rfl) ?_
    refine lv_iconst (v := 2) C.1 C.2.1 dX11_apron_8 (by decide) ?_
    refine lv_iconst (v := 0) C.1 C.2.1 dX11_apron_9 (by decide) ?_
    refine lv_iconst (v := 1) C.1 C.2.1 dX11_apron_10 (by decide) ?_
    refine lv_iload_n C.1 C.2.1 dX11_apron_11 rfl (lv_at hl 1 rfl) ?_
    refine mw_cVi (As := [.int 2, .int 0, .int 1, .int w]) (rest := []) C Z hP hS (30) (cX_bestOf2 l E σ n hn h8 z hru w) vb_X11_bestOf tw_4_2 ⟨rfl, rfl⟩ ⟨Nat.le_of_ble_eq_true rfl, Nat.le_of_ble_eq_true rfl⟩ (by decide) sx_30 rfl rfl rfl hl.1 rfl (Nat.le_of_ble_eq_true rfl) dX11_apron_12 ⟨Nat.zero_le _, Nat.zero_le _⟩ (fun r5 u6 H locs q7 hP hS => ?_)
    obtain ⟨e9, f8⟩ := q7
    subst e9
    refine lv_goto (tgt := 20) C.1 C.2.1 dX11_apron_15 (by decide) ?_
    exact mw_iret C hr hlk Z hP hS dX11_apron_20 (⟨by unfold bestF; rw [if_neg (Decidable.not_not.mpr c4)], f8⟩)

set_option maxHeartbeats 4000000 in
set_option maxRecDepth 100000 in
theorem cX_stand (l : Launch) (E : mw_E) (σ : mw_M) (n : Nat) (hn : σ.1 0 6 = nI n) (h8 : n ≤ 8) (z : zP) (hru : xRu σ 0 z) (qq w : Int32) : mw_Ci shX 75 gX l yX11_stand cX11_stand 4 (some .int) (rmF 7 202) E [.ref (mw_a E 30), .int qq, .int w] σ (fun r u => r = standF z (σ.1 0) (cuX σ 0) n qq w ∧ xQs σ u) := by
  refine mw_of (by decide) gX_ok (Nat.le_of_ble_eq_true rfl) ?_
  intro p_ e_ s_ m_ below meth c_ C hr hlk Z hP ls hl
  have C : CallFix p_ m_ c_ cX11_stand 4 s_ _ lw_good RX11 := C
  have hl : lv_has ls 4 [(0, .ref (mw_a E 30)), (1, .int qq), (2, .int w)] := hl
  have hS : va_S (mw_A 75 E) s_.heap s_.heap [] := va_S.rf
  refine lv_iload_n C.1 C.2.1 dX11_stand_0 rfl (lv_at hl 1 rfl) ?_
  refine lv_iconst (v := 0) C.1 C.2.1 dX11_stand_1 (by decide) ?_
  refine lv_bipush (v := 10) C.1 C.2.1 dX11_stand_2 (by decide) ?_
  refine mw_cSi (As := [.int qq, .int 0, .int 10]) (rest := []) C Z hP hS (cX_isWithin2 l E σ qq (0 : Int32) (10 : Int32) (0 ≤ qq.toInt ∧ qq.toInt ≤ 10) Iff.rfl) sb_X11_isWithin tw_3_42 ⟨rfl, rfl⟩ ⟨Nat.le_of_ble_eq_true rfl, Nat.le_of_ble_eq_true rfl⟩ rfl hl.1 rfl (Nat.le_of_ble_eq_true rfl) dX11_stand_4 ⟨Nat.zero_le _, Nat.zero_le _⟩ (fun r1 u2 H locs q3 hP hS => ?_)
  obtain ⟨rfl, q3u⟩ := q3
  rw [q3u] at hP; clear q3u
  refine lv_if_eq (tgt := 17) C.1 C.2.1 dX11_stand_7 (by decide) (fun c4 => ?_) (fun c4 => ?_)
  · have c4 := bI_0.mp c4
    refine lv_ldc (own := RX11) C.1 C.2.1 C.2.2.2.1 (C.2.2.2.2 _ tw_3_80) dX11_stand_17 ?_
    exact mw_iret C hr hlk Z hP hS dX11_stand_19 (⟨by unfold standF; rw [if_pos (Or.inl c4)], (xQs.rf σ)⟩)
  · have c4 := bI_n.mp c4
    refine lv_iload_n C.1 C.2.1 dX11_stand_10 rfl (lv_at hl 2 rfl) ?_
    refine mw_cSi (As := [.int w]) (rest := []) C Z hP hS (cX_is01 l E σ w) sb_X11_isZeroOrOne tw_3_202 ⟨rfl, rfl⟩ ⟨Nat.le_of_ble_eq_true rfl, Nat.le_of_ble_eq_true rfl⟩ rfl hl.1 rfl (Nat.le_of_ble_eq_true rfl) dX11_stand_11 ⟨Nat.zero_le _, Nat.zero_le _⟩ (fun r5 u6 H locs q7 hP hS => ?_)
    obtain ⟨rfl, q7u⟩ := q7
    rw [q7u] at hP; clear q7u
    refine lv_if_ne (tgt := 20) C.1 C.2.1 dX11_stand_14 (by decide) (fun c8 => ?_) (fun c8 => ?_)
    · have c8 := bI_n.mp c8
      have hrq := c4
      have hrw := c8
      obtain ⟨q, hq, eq0⟩ := nI_ofI (k := 10) hrq.1 hrq.2
      subst eq0
      refine lv_aload_n C.1 C.2.1 dX11_stand_20 rfl (lv_at hl 0 rfl) ?_
      refine mw_getr C Z hP (30) 1 (1) (by decide) sx_30 rfl rfl (by decide) inX11 tw_3_0 dX11_stand_21 ?_
      refine lv_aload_n C.1 C.2.1 dX11_stand_24 rfl (lv_at hl 0 rfl) ?_
      refine mw_getr C Z hP (30) 0 (0) (by decide) sx_30 rfl rfl (by decide) inX11 tw_2_239 dX11_stand_25 ?_
      refine mw_cVv (As := [.ref (mw_a E 0)]) (rest := []) C Z hP hS (1) (cX_becomeS l E σ 1 0 (by decide) (by decide) (by decide) n hn h8) vb_X6_become tw_4_6 ⟨rfl, rfl⟩ ⟨Nat.le_of_ble_eq_true rfl, Nat.le_of_ble_eq_true rfl⟩ (by decide) sx_1 rfl rfl rfl hl.1 rfl (Nat.le_of_ble_eq_true rfl) dX11_stand_28 ⟨Nat.zero_le _, Nat.zero_le _⟩ (fun u10 H locs q11 hP hS => ?_)
      have ti12 := q11.ti (fun q => q = 3) hn
      refine lv_aload_n C.1 C.2.1 dX11_stand_31 rfl (lv_at hl 0 rfl) ?_
      refine mw_getr C Z hP (30) 8 (64) (by decide) sx_30 rfl rfl (by decide) inX11 tw_3_7 dX11_stand_32 ?_
      refine mw_cVv (As := []) (rest := []) C Z hP hS (64) (cX_begin l E u10 ) vb_X0_begin tw_4_14 ⟨rfl, rfl⟩ ⟨Nat.le_of_ble_eq_true rfl, Nat.le_of_ble_eq_true rfl⟩ (by decide) sx_64 rfl rfl rfl hl.1 rfl (Nat.le_of_ble_eq_true rfl) dX11_stand_35 ⟨Nat.zero_le _, Nat.zero_le _⟩ (fun u14 H locs q15 hP hS => ?_)
      subst q15
      refine lv_iconst (v := 0) C.1 C.2.1 dX11_stand_38 (by decide) ?_
      refine lv_istore_n (lv' := [(3, .int 0), (0, .ref (mw_a E 30)), (1, .int (nI q)), (2, .int w)]) C.1 C.2.1 dX11_stand_39 rfl hl (by decide) rfl (fun ls hl => ?_)
      have lpa : ∀ (N : Nat) (j : Nat) (ςa : mw_M) (H : Heap) (locs : List Loc), (11 - q) + 1 ≤ j + N → (j ≤ 11 - q) → xBt σ (fun q => q = 3) n (bsF nI (fun h => allGain z (upd (σ.1 0) 3 (standV q h)) (cuX σ 0) n) j) ςa → va_P (mw_D E) vwCl (mw_ws shX 75 E ςa) H → va_S (mw_A 75 E) s_.heap H locs → ∀ (ls : Array Slot), lv_has ls 4 [(0, .ref (mw_a E 30)), (1, .int (nI q)), (2, .int w), (3, .int (nI j))] → xWi p_ l e_ (rmF 7 202) s_ m_ [.ref (mw_a E 30), .int (nI q), .int w] below meth c_ E (fun r u => r = standF z (σ.1 0) (cuX σ 0) n (nI q) w ∧ xQs σ u) H locs (F0 m_ 40 ls []) := by
        intro N
        induction N with
        | zero => intros; exfalso; omega
        | succ N iha =>
          intro j ςa H locs hNa hj fra hP hS ls hl
          refine lv_iload_n C.1 C.2.1 dX11_stand_40 rfl (lv_at hl 3 rfl) ?_
          refine lv_bipush (v := 10) C.1 C.2.1 dX11_stand_41 (by decide) ?_
          refine lv_iload_n C.1 C.2.1 dX11_stand_43 rfl (lv_at hl 1 rfl) ?_
          refine lv_isub C.1 C.2.1 dX11_stand_44 ?_
          refine mw_top (y := nI (10 - q)) (pk_sub (a := 10) (by omega)) ?_
          refine lv_icmp_gt (tgt := 87) C.1 C.2.1 dX11_stand_45 (by decide) (fun c16 => ?_) (fun c16 => ?_)
          · have c16 := (nI_ltI (by omega) (by omega)).mp c16
            refine lv_aload_n C.1 C.2.1 dX11_stand_87 rfl (lv_at hl 0 rfl) ?_
            refine mw_getr C Z hP (30) 8 (64) (by decide) sx_30 rfl rfl (by decide) inX11 tw_3_7 dX11_stand_88 ?_
            refine lv_iload_n C.1 C.2.1 dX11_stand_91 rfl (lv_at hl 2 rfl) ?_
            refine mw_cVi (As := [.int w]) (rest := []) C Z hP hS (64) (cX_answer l E ςa w) vb_X0_answer tw_4_18 ⟨rfl, rfl⟩ ⟨Nat.le_of_ble_eq_true rfl, Nat.le_of_ble_eq_true rfl⟩ (by decide) sx_64 rfl rfl rfl hl.1 rfl (Nat.le_of_ble_eq_true rfl) dX11_stand_92 ⟨Nat.zero_le _, Nat.zero_le _⟩ (fun r17 u18 H locs q19 hP hS => ?_)
            obtain ⟨rfl, q19u⟩ := q19
            rw [q19u] at hP; clear q19u
            have e2 : standF z (σ.1 0) (cuX σ 0) n (nI q) w = if w = 0 then (standP z (σ.1 0) (cuX σ 0) n q).1 else (standP z (σ.1 0) (cuX σ 0) n q).2 := by unfold standF; rw [if_neg (fun y => y.elim (fun y => y hrq) (fun y => y hrw)), nI_clamp (by omega)]
            exact mw_iret C hr hlk Z hP hS dX11_stand_95 (⟨by have e := fra.2.1; rw [show j = 11 - q by omega] at e; rw [e2]; unfold standP; rw [← e], fra.1.1⟩)
          · have c16 := (not_congr (nI_ltI (by omega) (by omega))).mp c16
            refine lv_aload_n C.1 C.2.1 dX11_stand_48 rfl (lv_at hl 0 rfl) ?_
            refine mw_getr C Z hP (30) 1 (1) (by decide) sx_30 rfl rfl (by decide) inX11 tw_3_0 dX11_stand_49 ?_
            refine lv_iconst (v := 1) C.1 C.2.1 dX11_stand_52 (by decide) ?_
            refine lv_iload_n C.1 C.2.1 dX11_stand_53 rfl (lv_at hl 1 rfl) ?_
            refine lv_ishl C.1 C.2.1 dX11_stand_54 ?_
            refine lv_iconst (v := 1) C.1 C.2.1 dX11_stand_55 (by decide) ?_
            refine lv_isub C.1 C.2.1 dX11_stand_56 ?_
            refine lv_iload_n C.1 C.2.1 dX11_stand_57 rfl (lv_at hl 3 rfl) ?_
            refine lv_ishl C.1 C.2.1 dX11_stand_58 ?_
            refine mw_top (y := standV q j) (rfl) ?_
            refine mw_puti C Z hP hS (1) 3 (by decide) sx_1 rfl rfl (by decide) inX6 tyX6 tyX6_ok nmX6 rfl tw_1_86 rfl rfl dX11_stand_59 (fun H locs hP hS => ?_)
            refine lv_aload_n C.1 C.2.1 dX11_stand_62 rfl (lv_at hl 0 rfl) ?_
            refine mw_getr C Z hP (30) 8 (64) (by decide) sx_30 rfl rfl (by decide) inX11 tw_3_7 dX11_stand_63 ?_
            refine lv_iload_n C.1 C.2.1 dX11_stand_66 rfl (lv_at hl 3 rfl) ?_
            refine lv_aload_n C.1 C.2.1 dX11_stand_67 rfl (lv_at hl 0 rfl) ?_
            refine mw_getr C Z hP (30) 7 (63) (by decide) sx_30 rfl rfl (by decide) inX11 tw_3_6 dX11_stand_68 ?_
            refine lv_aload_n C.1 C.2.1 dX11_stand_71 rfl (lv_at hl 0 rfl) ?_
            refine mw_getr C Z hP (30) 1 (1) (by decide) sx_30 rfl rfl (by decide) inX11 tw_3_0 dX11_stand_72 ?_
            refine mw_cVi (As := [.ref (mw_a E 1)]) (rest := [.int (nI j), .ref (mw_a E 64)]) C Z hP hS (63) (cX_allGain0 l E (mw_si ςa 1 3 (standV q j)) 1 (by decide) n (fra.1.si rfl (by decide) _).2.2.2.1 h8 z ((fra.1.si rfl (by decide) _).ru hru)) vb_X4_allGainOf tw_3_158 ⟨rfl, rfl⟩ ⟨Nat.le_of_ble_eq_true rfl, Nat.le_of_ble_eq_true rfl⟩ (by decide) sx_63 rfl rfl rfl hl.1 rfl (Nat.le_of_ble_eq_true rfl) dX11_stand_75 ⟨Nat.zero_le _, Nat.zero_le _⟩ (fun r20 u21 H locs q22 hP hS => ?_)
            obtain ⟨e24, f23⟩ := q22
            rw [(fra.1.si rfl (by decide) _).gain z (upd (σ.1 0) 3 (standV q j)) (th_one fra.1.2.1)] at e24
            subst e24
            refine mw_cVv (As := [.int (nI j), .int (allGain z (upd (σ.1 0) 3 (standV q j)) (cuX σ 0) n)]) (rest := []) C Z hP hS (64) (cX_offer l E u21 (nI j) (allGain z (upd (σ.1 0) 3 (standV q j)) (cuX σ 0) n)) vb_X0_offer tw_3_188 ⟨rfl, rfl⟩ ⟨Nat.le_of_ble_eq_true rfl, Nat.le_of_ble_eq_true rfl⟩ (by decide) sx_64 rfl rfl rfl hl.1 rfl (Nat.le_of_ble_eq_true rfl) dX11_stand_78 ⟨Nat.zero_le _, Nat.zero_le _⟩ (fun u26 H locs q27 hP hS => ?_)
            subst q27
            refine lv_iinc (v := nI (j + 1)) (lv' := [(3, .int (nI (j + 1))), (0, .ref (mw_a E 30)), (1, .int (nI q)), (2, .int w)]) C.1 C.2.1 dX11_stand_81 hl (k := 3) rfl (nI_1 _) (by decide) rfl (fun ls hl => ?_)
            refine lv_goto (tgt := 40) C.1 C.2.1 dX11_stand_84 (by decide) ?_
            exact iha (j + 1) (ofM u21 (nI j) (allGain z (upd (σ.1 0) 3 (standV q j)) (cuX σ 0) n)) _ _ (by omega) (by omega) (xBt.next h8 ((fra.1.si rfl (by decide) _).fs f23) fra.2 (by rw [f23.1]; rfl) _ _ (nI_nm1 (by omega))) hP hS ls (lv_sub hl [1, 2, 3, 0] rfl)
      exact lpa (11 - q + 1) 0 (bgM u10 ) _ _ (by omega) (by omega) ⟨(ti12.bg h8), rfl, ⟨fun _ => rfl, fun _ => rfl⟩⟩ hP hS ls (lv_sub hl [1, 2, 3, 0] rfl)
    · have c8 := bI_0.mp c8
      refine lv_ldc (own := RX11) C.1 C.2.1 C.2.2.2.1 (C.2.2.2.2 _ tw_3_80) dX11_stand_17 ?_
      exact mw_iret C hr hlk Z hP hS dX11_stand_19 (⟨by unfold standF; rw [if_pos (Or.inr c8)], (xQs.rf σ)⟩)

theorem set_k {c s g : Nat} (hc : c < 40) (hs : s < 6) (hg : g < 2) : setC (12 * c + 2 * s + g) = nI (1 + c) ∧ setS (12 * c + 2 * s + g) = nI (1 + s) ∧ setG (12 * c + 2 * s + g) = nI g := by
  refine ⟨?_, ?_, ?_⟩
  · unfold setC; rw [show (12 * c + 2 * s + g) / 12 = c by omega]
  · unfold setS; rw [show (12 * c + 2 * s + g) / 2 % 6 = s by omega]
  · unfold setG; rw [show (12 * c + 2 * s + g) % 2 = g by omega]
theorem set_v {c s g : Nat} (hc : c < 40) (hs : s < 6) (hg : g < 2) : nI (100 * (1 + c) + 10 * (1 + s) + g) = 100 * setC (12 * c + 2 * s + g) + 10 * setS (12 * c + 2 * s + g) + setG (12 * c + 2 * s + g) := by
  obtain ⟨h1, h2, h3⟩ := set_k hc hs hg
  rw [h1, h2, h3, show (100 : Int32) = nI 100 from rfl, show (10 : Int32) = nI 10 from rfl, pk_mul, pk_mul, nI_add, nI_add]
theorem th_set {σ u : mw_M} {c s g : Nat} {k : Nat} (hk : k = 12 * c + 2 * s + g) (hc : c < 40) (hs : s < 6) (hg : g < 2) (h : ∀ j, j < 5 → ¬ (fun q => q ≤ 2) j → u.1 1 j = σ.1 0 j) (h0 : u.1 1 0 = nI (1 + c)) (h1 : u.1 1 1 = nI (1 + s)) : ∀ j, j < 5 → (mw_si u 1 2 (nI g)).1 1 j = setB (σ.1 0) k j := by
  subst hk
  intro j hj
  obtain ⟨e1, e2, e3⟩ := set_k hc hs hg
  unfold setB
  rw [e1, e2, e3]
  match j, hj with
  | 0, _ => exact (mw_nf (by decide)).trans (h0.trans (by rw [pk_un (by decide), pk_un (by decide), pk_us]))
  | 1, _ => exact (mw_nf (by decide)).trans (h1.trans (by rw [pk_un (by decide), pk_us]))
  | 2, _ => exact mw_sf.trans (by rw [pk_us])
  | 3, _ => exact (mw_nf (by decide)).trans ((h 3 (by decide) (by decide)).trans (by rw [pk_un (by decide), pk_un (by decide), pk_un (by decide)]))
  | 4, _ => exact (mw_nf (by decide)).trans ((h 4 (by decide) (by decide)).trans (by rw [pk_un (by decide), pk_un (by decide), pk_un (by decide)]))
def xBx (σ : mw_M) (n : Nat) (B : Int32 × Int32) (a b : Option Nat) (u : mw_M) : Prop := xBt σ (fun q => q ≤ 2) n B u ∧ (∀ c, a = some c → u.1 1 0 = nI (1 + c)) ∧ ∀ s, b = some s → u.1 1 1 = nI (1 + s)
theorem xBt.si {σ u : mw_M} {D : Nat → Prop} {n : Nat} {B : Int32 × Int32} (h : xBt σ D n B u) {k : Nat} (hd : D k) (hk : k < 5) (v : Int32) : xBt σ D n B (mw_si u 1 k v) := ⟨h.1.si hd hk v, h.2⟩
theorem of_1 (u : mw_M) (f m : Int32) : (ofM u f m).1 1 = u.1 1 := (of_ne u f m).1 1 (by decide)

set_option maxHeartbeats 4000000 in
set_option maxRecDepth 100000 in
theorem cX_setting (l : Launch) (E : mw_E) (σ : mw_M) (n : Nat) (hn : σ.1 0 6 = nI n) (h8 : n ≤ 8) (z : zP) (hru : xRu σ 0 z) (w : Int32) : mw_Ci shX 75 gX l yX11_setting cX11_setting 5 (some .int) (rmF 7 202) E [.ref (mw_a E 30), .int w] σ (fun r u => r = setF z (σ.1 0) (cuX σ 0) n w ∧ xQs σ u) := by
  refine mw_of (by decide) gX_ok (Nat.le_of_ble_eq_true rfl) ?_
  intro p_ e_ s_ m_ below meth c_ C hr hlk Z hP ls hl
  have C : CallFix p_ m_ c_ cX11_setting 5 s_ _ lw_good RX11 := C
  have hl : lv_has ls 5 [(0, .ref (mw_a E 30)), (1, .int w)] := hl
  have hS : va_S (mw_A 75 E) s_.heap s_.heap [] := va_S.rf
  refine lv_iload_n C.1 C.2.1 dX11_setting_0 rfl (lv_at hl 1 rfl) ?_
  refine mw_cSi (As := [.int w]) (rest := []) C Z hP hS (cX_is01 l E σ w) sb_X11_isZeroOrOne tw_3_202 ⟨rfl, rfl⟩ ⟨Nat.le_of_ble_eq_true rfl, Nat.le_of_ble_eq_true rfl⟩ rfl hl.1 rfl (Nat.le_of_ble_eq_true rfl) dX11_setting_1 ⟨Nat.zero_le _, Nat.zero_le _⟩ (fun r1 u2 H locs q3 hP hS => ?_)
  obtain ⟨rfl, q3u⟩ := q3
  rw [q3u] at hP; clear q3u
  refine lv_if_ne (tgt := 10) C.1 C.2.1 dX11_setting_4 (by decide) (fun c4 => ?_) (fun c4 => ?_)
  · have c4 := bI_n.mp c4
    have hrw := c4
    refine lv_aload_n C.1 C.2.1 dX11_setting_10 rfl (lv_at hl 0 rfl) ?_
    refine mw_getr C Z hP (30) 1 (1) (by decide) sx_30 rfl rfl (by decide) inX11 tw_3_0 dX11_setting_11 ?_
    refine lv_aload_n C.1 C.2.1 dX11_setting_14 rfl (lv_at hl 0 rfl) ?_
    refine mw_getr C Z hP (30) 0 (0) (by decide) sx_30 rfl rfl (by decide) inX11 tw_2_239 dX11_setting_15 ?_
    refine mw_cVv (As := [.ref (mw_a E 0)]) (rest := []) C Z hP hS (1) (cX_becomeS l E σ 1 0 (by decide) (by decide) (by decide) n hn h8) vb_X6_become tw_4_6 ⟨rfl, rfl⟩ ⟨Nat.le_of_ble_eq_true rfl, Nat.le_of_ble_eq_true rfl⟩ (by decide) sx_1 rfl rfl rfl hl.1 rfl (Nat.le_of_ble_eq_true rfl) dX11_setting_18 ⟨Nat.zero_le _, Nat.zero_le _⟩ (fun u6 H locs q7 hP hS => ?_)
    have ti8 := q7.ti (fun q => q ≤ 2) hn
    refine lv_aload_n C.1 C.2.1 dX11_setting_21 rfl (lv_at hl 0 rfl) ?_
    refine mw_getr C Z hP (30) 8 (64) (by decide) sx_30 rfl rfl (by decide) inX11 tw_3_7 dX11_setting_22 ?_
    refine mw_cVv (As := []) (rest := []) C Z hP hS (64) (cX_begin l E u6 ) vb_X0_begin tw_4_14 ⟨rfl, rfl⟩ ⟨Nat.le_of_ble_eq_true rfl, Nat.le_of_ble_eq_true rfl⟩ (by decide) sx_64 rfl rfl rfl hl.1 rfl (Nat.le_of_ble_eq_true rfl) dX11_setting_25 ⟨Nat.zero_le _, Nat.zero_le _⟩ (fun u10 H locs q11 hP hS => ?_)
    subst q11
    refine lv_iconst (v := 1) C.1 C.2.1 dX11_setting_28 (by decide) ?_
    refine lv_istore_n (lv' := [(2, .int 1), (0, .ref (mw_a E 30)), (1, .int w)]) C.1 C.2.1 dX11_setting_29 rfl hl (by decide) rfl (fun ls hl => ?_)
    have lpa : ∀ (N : Nat) (c : Nat) (ςa : mw_M) (H : Heap) (locs : List Loc), 41 ≤ c + N → (c ≤ 40) → xBx σ n (setP z (σ.1 0) (cuX σ 0) n (12 * c)) none none ςa → va_P (mw_D E) vwCl (mw_ws shX 75 E ςa) H → va_S (mw_A 75 E) s_.heap H locs → ∀ (ls : Array Slot), lv_has ls 5 [(0, .ref (mw_a E 30)), (1, .int w), (2, .int (nI (1 + c)))] → xWi p_ l e_ (rmF 7 202) s_ m_ [.ref (mw_a E 30), .int w] below meth c_ E (fun r u => r = setF z (σ.1 0) (cuX σ 0) n w ∧ xQs σ u) H locs (F0 m_ 30 ls []) := by
      intro N
      induction N with
      | zero => intros; exfalso; omega
      | succ N iha =>
        intro c ςa H locs hNa hc fra hP hS ls hl
        refine lv_iload_n C.1 C.2.1 dX11_setting_30 rfl (lv_at hl 2 rfl) ?_
        refine lv_bipush (v := 40) C.1 C.2.1 dX11_setting_31 (by decide) ?_
        refine lv_icmp_gt (tgt := 126) C.1 C.2.1 dX11_setting_33 (by decide) (fun c12 => ?_) (fun c12 => ?_)
        · have c12 := (nI_ltI (a := 40) (by decide) (by omega)).mp c12
          refine lv_aload_n C.1 C.2.1 dX11_setting_126 rfl (lv_at hl 0 rfl) ?_
          refine mw_getr C Z hP (30) 8 (64) (by decide) sx_30 rfl rfl (by decide) inX11 tw_3_7 dX11_setting_127 ?_
          refine lv_iload_n C.1 C.2.1 dX11_setting_130 rfl (lv_at hl 1 rfl) ?_
          refine mw_cVi (As := [.int w]) (rest := []) C Z hP hS (64) (cX_answer l E ςa w) vb_X0_answer tw_4_18 ⟨rfl, rfl⟩ ⟨Nat.le_of_ble_eq_true rfl, Nat.le_of_ble_eq_true rfl⟩ (by decide) sx_64 rfl rfl rfl hl.1 rfl (Nat.le_of_ble_eq_true rfl) dX11_setting_131 ⟨Nat.zero_le _, Nat.zero_le _⟩ (fun r13 u14 H locs q15 hP hS => ?_)
          obtain ⟨rfl, q15u⟩ := q15
          rw [q15u] at hP; clear q15u
          have e2 : setF z (σ.1 0) (cuX σ 0) n w = if w = 0 then (setP z (σ.1 0) (cuX σ 0) n 480).1 else (setP z (σ.1 0) (cuX σ 0) n 480).2 := by unfold setF; rw [if_neg (Decidable.not_not.mpr hrw)]
          exact mw_iret C hr hlk Z hP hS dX11_setting_134 (⟨by have e := fra.1.2.1; rw [show 12 * c = 480 by omega] at e; rw [e2, ← e], fra.1.1.1⟩)
        · have c12 := (not_congr (nI_ltI (a := 40) (by decide) (by omega))).mp c12
          refine lv_aload_n C.1 C.2.1 dX11_setting_36 rfl (lv_at hl 0 rfl) ?_
          refine mw_getr C Z hP (30) 1 (1) (by decide) sx_30 rfl rfl (by decide) inX11 tw_3_0 dX11_setting_37 ?_
          refine lv_iload_n C.1 C.2.1 dX11_setting_40 rfl (lv_at hl 2 rfl) ?_
          refine mw_puti C Z hP hS (1) 0 (by decide) sx_1 rfl rfl (by decide) inX6 tyX6 tyX6_ok nmX6 rfl tw_1_76 rfl rfl dX11_setting_41 (fun H locs hP hS => ?_)
          refine lv_iconst (v := 1) C.1 C.2.1 dX11_setting_44 (by decide) ?_
          refine lv_istore_n (lv' := [(3, .int 1), (0, .ref (mw_a E 30)), (1, .int w), (2, .int (nI (1 + c)))]) C.1 C.2.1 dX11_setting_45 rfl hl (by decide) rfl (fun ls hl => ?_)
          have lpb : ∀ (N : Nat) (so : Nat) (ςb : mw_M) (H : Heap) (locs : List Loc), 7 ≤ so + N → (so ≤ 6) → xBx σ n (setP z (σ.1 0) (cuX σ 0) n (12 * c + 2 * so)) (some c) none ςb → va_P (mw_D E) vwCl (mw_ws shX 75 E ςb) H → va_S (mw_A 75 E) s_.heap H locs → ∀ (ls : Array Slot), lv_has ls 5 [(0, .ref (mw_a E 30)), (1, .int w), (2, .int (nI (1 + c))), (3, .int (nI (1 + so)))] → xWi p_ l e_ (rmF 7 202) s_ m_ [.ref (mw_a E 30), .int w] below meth c_ E (fun r u => r = setF z (σ.1 0) (cuX σ 0) n w ∧ xQs σ u) H locs (F0 m_ 46 ls []) := by
            intro N
            induction N with
            | zero => intros; exfalso; omega
            | succ N ihb =>
              intro so ςb H locs hNb hso frb hP hS ls hl
              refine lv_iload_n C.1 C.2.1 dX11_setting_46 rfl (lv_at hl 3 rfl) ?_
              refine lv_bipush (v := 6) C.1 C.2.1 dX11_setting_47 (by decide) ?_
              refine lv_icmp_gt (tgt := 120) C.1 C.2.1 dX11_setting_49 (by decide) (fun c16 => ?_) (fun c16 => ?_)
              · have c16 := (nI_ltI (a := 6) (by decide) (by omega)).mp c16
                refine lv_iinc (v := nI (1 + c + 1)) (lv' := [(2, .int (nI (1 + c + 1))), (0, .ref (mw_a E 30)), (1, .int w), (3, .int (nI (1 + so)))]) C.1 C.2.1 dX11_setting_120 hl (k := 2) rfl (nI_1 _) (by decide) rfl (fun ls hl => ?_)
                refine lv_goto (tgt := 30) C.1 C.2.1 dX11_setting_123 (by decide) ?_
                exact iha (c + 1) ςb _ _ (by omega) (by omega) ⟨by rw [show 12 * (c + 1) = 12 * c + 2 * so by omega]; exact frb.1, fun _ y => (by cases y), fun _ y => (by cases y)⟩ hP hS ls (lv_sub hl [1, 2, 0] rfl)
              · have c16 := (not_congr (nI_ltI (a := 6) (by decide) (by omega))).mp c16
                refine lv_aload_n C.1 C.2.1 dX11_setting_52 rfl (lv_at hl 0 rfl) ?_
                refine mw_getr C Z hP (30) 1 (1) (by decide) sx_30 rfl rfl (by decide) inX11 tw_3_0 dX11_setting_53 ?_
                refine lv_iload_n C.1 C.2.1 dX11_setting_56 rfl (lv_at hl 3 rfl) ?_
                refine mw_puti C Z hP hS (1) 1 (by decide) sx_1 rfl rfl (by decide) inX6 tyX6 tyX6_ok nmX6 rfl tw_1_80 rfl rfl dX11_setting_57 (fun H locs hP hS => ?_)
                refine lv_iconst (v := 0) C.1 C.2.1 dX11_setting_60 (by decide) ?_
                refine lv_istore (lv' := [(4, .int 0), (0, .ref (mw_a E 30)), (1, .int w), (2, .int (nI (1 + c))), (3, .int (nI (1 + so)))]) C.1 C.2.1 dX11_setting_61 hl (by decide) rfl (fun ls hl => ?_)
                have lpg : ∀ (N : Nat) (gi : Nat) (ςg : mw_M) (H : Heap) (locs : List Loc), 3 ≤ gi + N → (gi ≤ 2) → xBx σ n (setP z (σ.1 0) (cuX σ 0) n (12 * c + 2 * so + gi)) (some c) (some so) ςg → va_P (mw_D E) vwCl (mw_ws shX 75 E ςg) H → va_S (mw_A 75 E) s_.heap H locs → ∀ (ls : Array Slot), lv_has ls 5 [(0, .ref (mw_a E 30)), (1, .int w), (2, .int (nI (1 + c))), (3, .int (nI (1 + so))), (4, .int (nI gi))] → xWi p_ l e_ (rmF 7 202) s_ m_ [.ref (mw_a E 30), .int w] below meth c_ E (fun r u => r = setF z (σ.1 0) (cuX σ 0) n w ∧ xQs σ u) H locs (F0 m_ 63 ls []) := by
                  intro N
                  induction N with
                  | zero => intros; exfalso; omega
                  | succ N ihg =>
                    intro gi ςg H locs hNg hgi frg hP hS ls hl
                    refine lv_iload C.1 C.2.1 dX11_setting_63 (lv_at hl 4 rfl) ?_
                    refine lv_iconst (v := 1) C.1 C.2.1 dX11_setting_65 (by decide) ?_
                    refine lv_icmp_gt (tgt := 114) C.1 C.2.1 dX11_setting_66 (by decide) (fun c17 => ?_) (fun c17 => ?_)
                    · have c17 := (nI_ltI (a := 1) (by decide) (by omega)).mp c17
                      refine lv_iinc (v := nI (1 + so + 1)) (lv' := [(3, .int (nI (1 + so + 1))), (0, .ref (mw_a E 30)), (1, .int w), (2, .int (nI (1 + c))), (4, .int (nI gi))]) C.1 C.2.1 dX11_setting_114 hl (k := 3) rfl (nI_1 _) (by decide) rfl (fun ls hl => ?_)
                      refine lv_goto (tgt := 46) C.1 C.2.1 dX11_setting_117 (by decide) ?_
                      exact ihb (so + 1) ςg _ _ (by omega) (by omega) ⟨by rw [show 12 * c + 2 * (so + 1) = 12 * c + 2 * so + gi by omega]; exact frg.1, frg.2.1, fun _ y => (by cases y)⟩ hP hS ls (lv_sub hl [1, 2, 3, 0] rfl)
                    · have c17 := (not_congr (nI_ltI (a := 1) (by decide) (by omega))).mp c17
                      refine lv_aload_n C.1 C.2.1 dX11_setting_69 rfl (lv_at hl 0 rfl) ?_
                      refine mw_getr C Z hP (30) 1 (1) (by decide) sx_30 rfl rfl (by decide) inX11 tw_3_0 dX11_setting_70 ?_
                      refine lv_iload C.1 C.2.1 dX11_setting_73 (lv_at hl 4 rfl) ?_
                      refine mw_puti C Z hP hS (1) 2 (by decide) sx_1 rfl rfl (by decide) inX6 tyX6 tyX6_ok nmX6 rfl tw_1_84 rfl rfl dX11_setting_75 (fun H locs hP hS => ?_)
                      refine lv_aload_n C.1 C.2.1 dX11_setting_78 rfl (lv_at hl 0 rfl) ?_
                      refine mw_getr C Z hP (30) 8 (64) (by decide) sx_30 rfl rfl (by decide) inX11 tw_3_7 dX11_setting_79 ?_
                      refine lv_bipush (v := 100) C.1 C.2.1 dX11_setting_82 (by decide) ?_
                      refine lv_iload_n C.1 C.2.1 dX11_setting_84 rfl (lv_at hl 2 rfl) ?_
                      refine lv_imul C.1 C.2.1 dX11_setting_85 ?_
                      refine mw_top (y := nI (100 * (1 + c))) (pk_mul 100 (1 + c)) ?_
                      refine lv_bipush (v := 10) C.1 C.2.1 dX11_setting_86 (by decide) ?_
                      refine lv_iload_n C.1 C.2.1 dX11_setting_88 rfl (lv_at hl 3 rfl) ?_
                      refine lv_imul C.1 C.2.1 dX11_setting_89 ?_
                      refine mw_top (y := nI (10 * (1 + so))) (pk_mul 10 (1 + so)) ?_
                      refine lv_iadd C.1 C.2.1 dX11_setting_90 ?_
                      refine mw_top (y := nI (100 * (1 + c) + 10 * (1 + so))) (nI_add _ _) ?_
                      refine lv_iload C.1 C.2.1 dX11_setting_91 (lv_at hl 4 rfl) ?_
                      refine lv_iadd C.1 C.2.1 dX11_setting_93 ?_
                      refine mw_top (y := nI (100 * (1 + c) + 10 * (1 + so) + gi)) (nI_add _ _) ?_
                      refine lv_aload_n C.1 C.2.1 dX11_setting_94 rfl (lv_at hl 0 rfl) ?_
                      refine mw_getr C Z hP (30) 7 (63) (by decide) sx_30 rfl rfl (by decide) inX11 tw_3_6 dX11_setting_95 ?_
                      refine lv_aload_n C.1 C.2.1 dX11_setting_98 rfl (lv_at hl 0 rfl) ?_
                      refine mw_getr C Z hP (30) 1 (1) (by decide) sx_30 rfl rfl (by decide) inX11 tw_3_0 dX11_setting_99 ?_
                      refine mw_cVi (As := [.ref (mw_a E 1)]) (rest := [.int (nI (100 * (1 + c) + 10 * (1 + so) + gi)), .ref (mw_a E 64)]) C Z hP hS (63) (cX_allGain0 l E (mw_si ςg 1 2 (nI gi)) 1 (by decide) n (frg.1.1.si (by decide) (by decide) _).2.2.2.1 h8 z ((frg.1.1.si (by decide) (by decide) _).ru hru)) vb_X4_allGainOf tw_3_158 ⟨rfl, rfl⟩ ⟨Nat.le_of_ble_eq_true rfl, Nat.le_of_ble_eq_true rfl⟩ (by decide) sx_63 rfl rfl rfl hl.1 rfl (Nat.le_of_ble_eq_true rfl) dX11_setting_102 ⟨Nat.zero_le _, Nat.zero_le _⟩ (fun r18 u19 H locs q20 hP hS => ?_)
                      obtain ⟨e22, f21⟩ := q20
                      rw [(frg.1.1.si (by decide) (by decide) _).gain z (setB (σ.1 0) (12 * c + 2 * so + gi)) (th_set rfl (by omega) (by omega) (by omega) frg.1.1.2.1 (frg.2.1 c rfl) (frg.2.2 so rfl))] at e22
                      subst e22
                      refine mw_cVv (As := [.int (nI (100 * (1 + c) + 10 * (1 + so) + gi)), .int (allGain z (setB (σ.1 0) (12 * c + 2 * so + gi)) (cuX σ 0) n)]) (rest := []) C Z hP hS (64) (cX_offer l E u19 (nI (100 * (1 + c) + 10 * (1 + so) + gi)) (allGain z (setB (σ.1 0) (12 * c + 2 * so + gi)) (cuX σ 0) n)) vb_X0_offer tw_3_188 ⟨rfl, rfl⟩ ⟨Nat.le_of_ble_eq_true rfl, Nat.le_of_ble_eq_true rfl⟩ (by decide) sx_64 rfl rfl rfl hl.1 rfl (Nat.le_of_ble_eq_true rfl) dX11_setting_105 ⟨Nat.zero_le _, Nat.zero_le _⟩ (fun u24 H locs q25 hP hS => ?_)
                      subst q25
                      refine lv_iinc (v := nI (gi + 1)) (lv' := [(4, .int (nI (gi + 1))), (0, .ref (mw_a E 30)), (1, .int w), (2, .int (nI (1 + c))), (3, .int (nI (1 + so)))]) C.1 C.2.1 dX11_setting_108 hl (k := 4) rfl (nI_1 _) (by decide) rfl (fun ls hl => ?_)
                      refine lv_goto (tgt := 63) C.1 C.2.1 dX11_setting_111 (by decide) ?_
                      exact ihg (gi + 1) (ofM u19 (nI (100 * (1 + c) + 10 * (1 + so) + gi)) (allGain z (setB (σ.1 0) (12 * c + 2 * so + gi)) (cuX σ 0) n)) _ _ (by omega) (by omega) ⟨(by have y := xBt.next h8 ((frg.1.1.si (by decide) (by decide) _).fs f21) frg.1.2 (by rw [f21.1]; rfl) (nI (100 * (1 + c) + 10 * (1 + so) + gi)) (allGain z (setB (σ.1 0) (12 * c + 2 * so + gi)) (cuX σ 0) n) (nI_nm1 (by omega)); rw [set_v (by omega) (by omega) (by omega)] at y ⊢; exact y), fun q y => by rw [of_1, f21.1]; exact (mw_nf (by decide)).trans (frg.2.1 q y), fun q y => by rw [of_1, f21.1]; exact (mw_nf (by decide)).trans (frg.2.2 q y)⟩ hP hS ls (lv_sub hl [1, 2, 3, 4, 0] rfl)
                exact lpg (3) 0 (mw_si ςb 1 1 (nI (1 + so))) _ _ (by omega) (by omega) ⟨frb.1.si (by decide) (by decide) _, fun q y => (mw_nf (by decide)).trans (frb.2.1 q y), fun _ y => by cases y; exact mw_sf⟩ hP hS ls (lv_sub hl [1, 2, 3, 4, 0] rfl)
          exact lpb (7) 0 (mw_si ςa 1 0 (nI (1 + c))) _ _ (by omega) (by omega) ⟨fra.1.si (by decide) (by decide) _, fun _ y => by cases y; exact mw_sf, fun _ y => (by cases y)⟩ hP hS ls (lv_sub hl [1, 2, 3, 0] rfl)
    exact lpa (41) 0 (bgM u6 ) _ _ (by omega) (by omega) ⟨⟨(ti8.bg h8), rfl, ⟨fun _ => rfl, fun _ => rfl⟩⟩, fun _ y => (by cases y), fun _ y => (by cases y)⟩ hP hS ls (lv_sub hl [1, 2, 0] rfl)
  · have c4 := bI_0.mp c4
    refine lv_ldc (own := RX11) C.1 C.2.1 C.2.2.2.1 (C.2.2.2.2 _ tw_3_80) dX11_setting_7 ?_
    exact mw_iret C hr hlk Z hP hS dX11_setting_9 (⟨by unfold setF; rw [if_pos c4], (xQs.rf σ)⟩)

set_option maxHeartbeats 4000000 in
set_option maxRecDepth 100000 in
theorem cX_lost (l : Launch) (E : mw_E) (σ : mw_M) (n : Nat) (hn : σ.1 0 6 = nI n) (h8 : n ≤ 8) (z : zP) (hru : xRu σ 0 z) (vv : Int32) : mw_Ci shX 75 gX l yX11_lost cX11_lost 4 (some .int) (rmF 6 179) E [.ref (mw_a E 30), .int vv] σ (fun r u => r = lostF z (σ.1 0) (cuX σ 0) n vv ∧ xQs σ u) := by
  refine mw_of (by decide) gX_ok (Nat.le_of_ble_eq_true rfl) ?_
  intro p_ e_ s_ m_ below meth c_ C hr hlk Z hP ls hl
  have C : CallFix p_ m_ c_ cX11_lost 4 s_ _ lw_good RX11 := C
  have hl : lv_has ls 4 [(0, .ref (mw_a E 30)), (1, .int vv)] := hl
  have hS : va_S (mw_A 75 E) s_.heap s_.heap [] := va_S.rf
  refine lv_aload_n C.1 C.2.1 dX11_lost_0 rfl (lv_at hl 0 rfl) ?_
  refine mw_getr C Z hP (30) 0 (0) (by decide) sx_30 rfl rfl (by decide) inX11 tw_2_239 dX11_lost_1 ?_
  refine lv_iload_n C.1 C.2.1 dX11_lost_4 rfl (lv_at hl 1 rfl) ?_
  refine mw_cVi (As := [.int vv]) (rest := []) C Z hP hS (0) (cX_hasS l E σ 0 (by decide) n hn h8 vv) vb_X6_has tw_3_53 ⟨rfl, rfl⟩ ⟨Nat.le_of_ble_eq_true rfl, Nat.le_of_ble_eq_true rfl⟩ (by decide) sx_0 rfl rfl rfl hl.1 rfl (Nat.le_of_ble_eq_true rfl) dX11_lost_5 ⟨Nat.zero_le _, Nat.zero_le _⟩ (fun r1 u2 H locs q3 hP hS => ?_)
  obtain ⟨rfl, q3u⟩ := q3
  rw [q3u] at hP; clear q3u
  refine lv_if_ne (tgt := 14) C.1 C.2.1 dX11_lost_8 (by decide) (fun c4 => ?_) (fun c4 => ?_)
  · have c4 := bI_n.mp c4
    have hhas := c4
    obtain ⟨q, hq8, eq0⟩ := nI_ofI (k := 8) hhas.1 (by omega)
    have hq : q < n := by have y := hhas.2; rw [eq0, nI_toInt (by omega)] at y; omega
    subst eq0
    refine lv_aload_n C.1 C.2.1 dX11_lost_14 rfl (lv_at hl 0 rfl) ?_
    refine mw_getr C Z hP (30) 1 (1) (by decide) sx_30 rfl rfl (by decide) inX11 tw_3_0 dX11_lost_15 ?_
    refine lv_aload_n C.1 C.2.1 dX11_lost_18 rfl (lv_at hl 0 rfl) ?_
    refine mw_getr C Z hP (30) 0 (0) (by decide) sx_30 rfl rfl (by decide) inX11 tw_2_239 dX11_lost_19 ?_
    refine mw_cVv (As := [.ref (mw_a E 0)]) (rest := []) C Z hP hS (1) (cX_becomeS l E σ 1 0 (by decide) (by decide) (by decide) n hn h8) vb_X6_become tw_4_6 ⟨rfl, rfl⟩ ⟨Nat.le_of_ble_eq_true rfl, Nat.le_of_ble_eq_true rfl⟩ (by decide) sx_1 rfl rfl rfl hl.1 rfl (Nat.le_of_ble_eq_true rfl) dX11_lost_22 ⟨Nat.zero_le _, Nat.zero_le _⟩ (fun u6 H locs q7 hP hS => ?_)
    have ti8 := q7.ti (fun q => q = 0) hn
    refine lv_iconst (v := -1) C.1 C.2.1 dX11_lost_25 (by decide) ?_
    refine lv_istore_n (lv' := [(2, .int (-1)), (0, .ref (mw_a E 30)), (1, .int (nI q))]) C.1 C.2.1 dX11_lost_26 rfl hl (by decide) rfl (fun ls hl => ?_)
    refine lv_bipush (v := 40) C.1 C.2.1 dX11_lost_27 (by decide) ?_
    refine lv_istore_n (lv' := [(3, .int 40), (2, .int (-1)), (0, .ref (mw_a E 30)), (1, .int (nI q))]) C.1 C.2.1 dX11_lost_29 rfl hl (by decide) rfl (fun ls hl => ?_)
    have lpa : ∀ (N : Nat) (j : Nat) (x : Int32) (ςa : mw_M) (H : Heap) (locs : List Loc), j + 1 ≤ N → (j ≤ 40) → (loF (fun c => gainP z (upd (σ.1 0) 0 (nI c)) (cuX σ 0 q)) 40 (-1) = loF (fun c => gainP z (upd (σ.1 0) 0 (nI c)) (cuX σ 0 q)) j x) → xTi σ (fun q => q = 0) n ςa → va_P (mw_D E) vwCl (mw_ws shX 75 E ςa) H → va_S (mw_A 75 E) s_.heap H locs → ∀ (ls : Array Slot), lv_has ls 4 [(0, .ref (mw_a E 30)), (1, .int (nI q)), (2, .int x), (3, .int (nI j))] → xWi p_ l e_ (rmF 6 179) s_ m_ [.ref (mw_a E 30), .int (nI q)] below meth c_ E (fun r u => r = lostF z (σ.1 0) (cuX σ 0) n (nI q) ∧ xQs σ u) H locs (F0 m_ 30 ls []) := by
      intro N
      induction N with
      | zero => intros; exfalso; omega
      | succ N iha =>
        intro j x ςa H locs hNa hj ex fra hP hS ls hl
        refine lv_iload_n C.1 C.2.1 dX11_lost_30 rfl (lv_at hl 3 rfl) ?_
        refine lv_iconst (v := 1) C.1 C.2.1 dX11_lost_31 (by decide) ?_
        refine lv_icmp_lt (tgt := 76) C.1 C.2.1 dX11_lost_32 (by decide) (fun c9 => ?_) (fun c9 => ?_)
        · have c9 := (nI_ltI (b := 1) (by omega) (by decide)).mp c9
          refine lv_iload_n C.1 C.2.1 dX11_lost_76 rfl (lv_at hl 2 rfl) ?_
          have e2 : lostF z (σ.1 0) (cuX σ 0) n (nI q) = loF (fun c => gainP z (upd (σ.1 0) 0 (nI c)) (cuX σ 0 q)) 40 (-1) := by unfold lostF; rw [if_neg (Decidable.not_not.mpr hhas), nI_clamp (by omega)]
          exact mw_iret C hr hlk Z hP hS dX11_lost_77 (⟨by rw [e2, ex, show j = 0 by omega]; rfl, fra.1⟩)
        · have c9 := (not_congr (nI_ltI (b := 1) (by omega) (by decide))).mp c9
          obtain ⟨jj, ejj⟩ : ∃ jj, j = jj + 1 := ⟨j - 1, by omega⟩
          subst ejj
          have hl : lv_has ls 4 [(0, .ref (mw_a E 30)), (1, .int (nI q)), (2, .int x), (3, .int (nI (jj + 1)))] := hl
          refine lv_aload_n C.1 C.2.1 dX11_lost_35 rfl (lv_at hl 0 rfl) ?_
          refine mw_getr C Z hP (30) 1 (1) (by decide) sx_30 rfl rfl (by decide) inX11 tw_3_0 dX11_lost_36 ?_
          refine lv_iload_n C.1 C.2.1 dX11_lost_39 rfl (lv_at hl 3 rfl) ?_
          refine mw_puti C Z hP hS (1) 0 (by decide) sx_1 rfl rfl (by decide) inX6 tyX6 tyX6_ok nmX6 rfl tw_1_76 rfl rfl dX11_lost_40 (fun H locs hP hS => ?_)
          refine lv_aload_n C.1 C.2.1 dX11_lost_43 rfl (lv_at hl 0 rfl) ?_
          refine mw_getr C Z hP (30) 7 (63) (by decide) sx_30 rfl rfl (by decide) inX11 tw_3_6 dX11_lost_44 ?_
          refine lv_aload_n C.1 C.2.1 dX11_lost_47 rfl (lv_at hl 0 rfl) ?_
          refine mw_getr C Z hP (30) 1 (1) (by decide) sx_30 rfl rfl (by decide) inX11 tw_3_0 dX11_lost_48 ?_
          refine lv_aload_n C.1 C.2.1 dX11_lost_51 rfl (lv_at hl 0 rfl) ?_
          refine mw_getr C Z hP (30) 1 (1) (by decide) sx_30 rfl rfl (by decide) inX11 tw_3_0 dX11_lost_52 ?_
          refine mw_getr C Z hP (1) 7 (4) (by decide) sx_1 rfl rfl (by decide) inX6 tw_1_96 dX11_lost_55 ?_
          refine lv_iload_n C.1 C.2.1 dX11_lost_58 rfl (lv_at hl 1 rfl) ?_
          refine mw_aald C Z hP (4) (q) (by decide) sx_4 (by decide) rfl (Nat.lt_of_lt_of_le (by decide : 8 < 961) (Nat.le_of_ble_eq_true rfl)) rfl (by omega) dX11_lost_59 ?_
          refine mw_cVi (As := [.ref (mw_a E 1), .ref (mw_a E (14 + q))]) (rest := []) C Z hP hS (63) (cX_gainOf l E (mw_si ςa 1 0 (nI (jj + 1))) 1 (by decide) (14 + q) (by omega) z ((fra.si rfl (by decide) _).ru hru)) vb_X4_gainOf tw_3_138 ⟨rfl, rfl⟩ ⟨Nat.le_of_ble_eq_true rfl, Nat.le_of_ble_eq_true rfl⟩ (by decide) sx_63 rfl rfl rfl hl.1 rfl (Nat.le_of_ble_eq_true rfl) dX11_lost_60 ⟨Nat.zero_le _, Nat.zero_le _⟩ (fun r10 u11 H locs q12 hP hS => ?_)
          obtain ⟨e14, f13⟩ := q12
          rw [cg_gain (st2 := upd (σ.1 0) 0 (nI (jj + 1))) (cu2 := cuX σ 0 q) (th_one fra.2.1) (fun f hf => (fra.si rfl (by decide) _).2.2.2.2 q f hq (by omega))] at e14
          subst e14
          refine lv_if_lt (tgt := 68) C.1 C.2.1 dX11_lost_63 (by decide) (fun c15 => ?_) (fun c15 => ?_)
          · refine lv_iload_n C.1 C.2.1 dX11_lost_68 rfl (lv_at hl 3 rfl) ?_
            refine lv_istore_n (lv' := [(2, .int (nI (jj + 1))), (0, .ref (mw_a E 30)), (1, .int (nI q)), (3, .int (nI (jj + 1)))]) C.1 C.2.1 dX11_lost_69 rfl hl (by decide) rfl (fun ls hl => ?_)
            refine lv_iinc (v := nI jj) (lv' := [(3, .int (nI jj)), (2, .int (nI (jj + 1))), (0, .ref (mw_a E 30)), (1, .int (nI q))]) C.1 C.2.1 dX11_lost_70 hl (k := 3) rfl ((im1 _).trans (nI_pred _)) (by decide) rfl (fun ls hl => ?_)
            refine lv_goto (tgt := 30) C.1 C.2.1 dX11_lost_73 (by decide) ?_
            exact iha jj (nI (jj + 1)) u11 _ _ (by omega) (by omega) (by rw [ex]; show (if _ then _ else _) = _; rw [if_neg (Int32.not_le.mpr c15)]) ((fra.si rfl (by decide) _).fs f13) hP hS ls (lv_sub hl [2, 3, 1, 0] rfl)
          · refine lv_iload_n C.1 C.2.1 dX11_lost_66 rfl (lv_at hl 2 rfl) ?_
            have e2 : lostF z (σ.1 0) (cuX σ 0) n (nI q) = loF (fun c => gainP z (upd (σ.1 0) 0 (nI c)) (cuX σ 0 q)) 40 (-1) := by unfold lostF; rw [if_neg (Decidable.not_not.mpr hhas), nI_clamp (by omega)]
            exact mw_iret C hr hlk Z hP hS dX11_lost_67 (⟨by rw [e2, ex]; show _ = (if _ then _ else _); rw [if_pos (Int32.not_lt.mp c15)], ((fra.si rfl (by decide) _).fs f13).1⟩)
    exact lpa (41) 40 (-1) u6 _ _ (by omega) (by omega) (rfl) ti8 hP hS ls (lv_sub hl [2, 3, 1, 0] rfl)
  · have c4 := bI_0.mp c4
    refine lv_bipush (v := -2) C.1 C.2.1 dX11_lost_11 (by decide) ?_
    exact mw_iret C hr hlk Z hP hS dX11_lost_13 (⟨by unfold lostF; rw [if_pos c4], (xQs.rf σ)⟩)
