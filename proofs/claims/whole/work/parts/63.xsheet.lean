/-! THE CLASS: FILM AND SHEETS -/
def shbM (σ : mw_M) (k : Nat) (so n : Int32) : mw_M := ((mw_si (mw_si σ (67 + k) 0 so) (67 + k) 1 (wI n 0 40)).1, va_up σ.2.1 (71 + k) (zF (σ.2.1 (71 + k)) 0 40), σ.2.2)
theorem xShb_eq {σ u : mw_M} {k : Nat} {so n : Int32} (h : xShb σ k so n 40 u) : u = shbM σ k so n := Prod.ext h.1 (Prod.ext h.2.2 h.2.1)
theorem shb_ne {σ : mw_M} {k q : Nat} {so n : Int32} (h : q ≠ 67 + k) : (shbM σ k so n).1 q = σ.1 q := (mw_npF h).trans (mw_npF h)
theorem shb_at {σ : mw_M} {k : Nat} {so n : Int32} : (shbM σ k so n).1 (67 + k) 0 = so ∧ (shbM σ k so n).1 (67 + k) 1 = wI n 0 40 := ⟨(mw_nf (by decide)).trans mw_sf, mw_sf⟩
theorem xQs.si {σ u : mw_M} (h : xQs σ u) (k f : Nat) (v : Int32) : xQs (mw_si σ k f v) (mw_si u k f v) := by
  refine ⟨fun q hq => ?_, h.2⟩
  show va_up u.1 k (va_up (u.1 k) f v) q = va_up σ.1 k (va_up (σ.1 k) f v) q
  by_cases e : q = k
  · subst e; rw [va_up_self, va_up_self, h.1 q hq]
  · rw [va_up_ne _ _ e, va_up_ne _ _ e]; exact h.1 q hq
theorem xQs.sa {σ u : mw_M} (h : xQs σ u) {k : Nat} (hk : k < 57 ∨ 63 ≤ k) (i : Nat) (v : Int32) : xQs (mw_sa σ k i v) (mw_sa u k i v) := by
  refine ⟨h.1, fun q hq => ?_⟩
  show va_up u.2.1 k (upd (u.2.1 k) i v) q = va_up σ.2.1 k (upd (σ.2.1 k) i v) q
  by_cases e : q = k
  · subst e; rw [va_up_self, va_up_self, h.2 q hq]
  · rw [va_up_ne _ _ e, va_up_ne _ _ e]; exact h.2 q hq
theorem xQs.shb {σ u : mw_M} (h : xQs σ u) {k : Nat} (hk : k < 4) (so n : Int32) : xQs (shbM σ k so n) (shbM u k so n) := by
  refine ⟨(((h.si (67 + k) 0 so).si (67 + k) 1 (wI n 0 40))).1, fun q hq => ?_⟩
  show va_up u.2.1 (71 + k) (zF (u.2.1 (71 + k)) 0 40) q = va_up σ.2.1 (71 + k) (zF (σ.2.1 (71 + k)) 0 40) q
  rw [h.2 (71 + k) (by omega)]
  by_cases e : q = 71 + k
  · subst e; rw [va_up_self, va_up_self]
  · rw [va_up_ne _ _ e, va_up_ne _ _ e]; exact h.2 q hq
theorem xTi.shb {σ u : mw_M} {D : Nat → Prop} {n k : Nat} (h : xTi σ D n u) (hn : n ≤ 8) (hk : k < 4) (so m : Int32) : xTi (shbM σ k so m) D n (shbM u k so m) := by
  obtain ⟨h1, h2, h3, h4, h5⟩ := h
  refine ⟨h1.shb hk so m, fun j hj hd => ?_, ?_, ?_, fun p f hp hf => ?_⟩
  · rw [shb_ne (by omega), shb_ne (by omega)]; exact h2 j hj hd
  · rw [shb_ne (by omega), shb_ne (by omega)]; exact h3
  · rw [shb_ne (by omega)]; exact h4
  · rw [shb_ne (by omega), shb_ne (by omega)]; exact h5 p f hp hf
theorem xTi.sa {σ u : mw_M} {D : Nat → Prop} {n : Nat} (h : xTi σ D n u) {k : Nat} (hk : k < 57 ∨ 63 ≤ k) (i : Nat) (v : Int32) : xTi (mw_sa σ k i v) D n (mw_sa u k i v) := ⟨h.1.sa hk i v, h.2⟩
def filM (σ : mw_M) (s m : Nat) (cl : Nat → Int32) (j : Nat) : mw_M := ((shbM σ s 0 (nI m)).1, va_up (shbM σ s 0 (nI m)).2.1 (71 + s) (cpA cl ((shbM σ s 0 (nI m)).2.1 (71 + s)) j), σ.2.2)
theorem filM_0 (σ : mw_M) (s m : Nat) (cl : Nat → Int32) : filM σ s m cl 0 = shbM σ s 0 (nI m) := by
  unfold filM
  rw [cpA_0, up_self]
  rfl
theorem filM_s (σ : mw_M) (s m : Nat) (cl : Nat → Int32) (j : Nat) : mw_sa (filM σ s m cl j) (71 + s) j (cl j) = filM σ s m cl (j + 1) := by
  refine Prod.ext rfl (Prod.ext ?_ rfl)
  show va_up (va_up _ (71 + s) _) (71 + s) (upd (va_up _ (71 + s) _ (71 + s)) j (cl j)) = va_up _ (71 + s) _
  rw [va_up_self, bx_uu, cpA_s]
theorem filM_ne {σ : mw_M} {s m j q : Nat} {cl : Nat → Int32} (h : q ≠ 67 + s) : (filM σ s m cl j).1 q = σ.1 q := shb_ne h
theorem filM_ru {σ : mw_M} {s m j : Nat} {cl : Nat → Int32} {z : zP} (hs : s < 4) (h : xRu σ 0 z) : xRu (filM σ s m cl j) 0 z := by
  obtain ⟨t, tc, h1, h2, h3, h4, h5⟩ := h
  have ht := h5.1
  refine ⟨t, tc, by rw [filM_ne (by omega)]; exact h1, by rw [filM_ne (by omega)]; exact h2, h3, h4, ?_⟩
  have ea : ∀ q, q < 57 → (filM σ s m cl j).2.1 q = σ.2.1 q := fun q hq => by
    show va_up (va_up σ.2.1 (71 + s) _) (71 + s) _ q = _
    rw [va_up_ne _ _ (by omega), va_up_ne _ _ (by omega)]
  unfold xTx xSeg at *
  rw [ea (51 + t) (by omega), ea (45 + t) (by omega)]
  exact h5
theorem i8_id : ∀ k : Fin 100, (nI k.val).toInt8.toInt32 = nI k.val := by decide
theorem i8_e (z : zP) (st cu : Nat → Int32) : narF 0 (eatsP z st cu) = eatsP z st cu := by
  obtain ⟨k, h1, h2⟩ := eats_rng z st cu
  rw [h2]
  exact i8_id ⟨k, by omega⟩
theorem wI_40 {m : Nat} (h : m ≤ 40) : wI (nI m) 0 40 = nI m := wI_in (b := 40) rfl h (by decide)

theorem fil_st {σ u : mw_M} {s m j : Nat} {cl : Nat → Int32} {v : Int32} (hs : s < 4) (h : ∀ i, i < 5 → ¬ (fun q => q = 0) i → u.1 1 i = (filM σ s m cl j).1 0 i) : ∀ i, i < 5 → (mw_si u 1 0 v).1 1 i = upd (σ.1 0) 0 v i := by
  intro i hi
  rw [filM_ne (by omega)] at h
  exact th_one (k := 0) h i hi

set_option maxHeartbeats 4000000 in
set_option maxRecDepth 100000 in
theorem cX_film (l : Launch) (E : mw_E) (σ : mw_M) (n : Nat) (hn : σ.1 0 6 = nI n) (h8 : n ≤ 8) (z : zP) (hru : xRu σ 0 z) (ss oo m1 : Int32) : mw_Ci shX 75 gX l yX11_film cX11_film 5 (some .int) (rmF 5 155) E [.ref (mw_a E 30), .int ss, .int oo, .int m1] σ (fun r u => (¬ ((0 ≤ ss.toInt ∧ ss.toInt ≤ 3) ∧ (0 ≤ oo.toInt ∧ oo.toInt < n) ∧ (0 ≤ m1.toInt ∧ m1.toInt ≤ 40)) → r = -2 ∧ xQs σ u) ∧ ((0 ≤ ss.toInt ∧ ss.toInt ≤ 3) ∧ (0 ≤ oo.toInt ∧ oo.toInt < n) ∧ (0 ≤ m1.toInt ∧ m1.toInt ≤ 40) → r = m1 ∧ xQs (filM σ ss.toNatClampNeg m1.toNatClampNeg (fun k => eatsP z (upd (σ.1 0) 0 (nI (k + 1))) (cuX σ 0 oo.toNatClampNeg)) m1.toNatClampNeg) u)) := by
  refine mw_of (by decide) gX_ok (Nat.le_of_ble_eq_true rfl) ?_
  intro p_ e_ s_ m_ below meth c_ C hr hlk Z hP ls hl
  have C : CallFix p_ m_ c_ cX11_film 5 s_ _ lw_good RX11 := C
  have hl : lv_has ls 5 [(0, .ref (mw_a E 30)), (1, .int ss), (2, .int oo), (3, .int m1)] := hl
  have hS : va_S (mw_A 75 E) s_.heap s_.heap [] := va_S.rf
  refine lv_iload_n C.1 C.2.1 dX11_film_0 rfl (lv_at hl 1 rfl) ?_
  refine mw_cSi (As := [.int ss]) (rest := []) C Z hP hS (cX_isSheet l E σ ss) sb_X11_isSheet tw_4_50 ⟨rfl, rfl⟩ ⟨Nat.le_of_ble_eq_true rfl, Nat.le_of_ble_eq_true rfl⟩ rfl hl.1 rfl (Nat.le_of_ble_eq_true rfl) dX11_film_1 ⟨Nat.zero_le _, Nat.zero_le _⟩ (fun r1 u2 H locs q3 hP hS => ?_)
  obtain ⟨rfl, q3u⟩ := q3
  rw [q3u] at hP; clear q3u
  refine lv_if_eq (tgt := 28) C.1 C.2.1 dX11_film_4 (by decide) (fun c4 => ?_) (fun c4 => ?_)
  · have c4 := bI_0.mp c4
    refine lv_bipush (v := -2) C.1 C.2.1 dX11_film_28 (by decide) ?_
    exact mw_iret C hr hlk Z hP hS dX11_film_30 (⟨fun _ => ⟨rfl, (xQs.rf σ)⟩, fun y => absurd (y.1) c4⟩)
  · have c4 := bI_n.mp c4
    have hrs := c4
    obtain ⟨s, hs3, es0⟩ := nI_ofI (k := 3) hrs.1 hrs.2
    have hs : s < 4 := by omega
    subst es0
    have es : (nI s).toNatClampNeg = s := nI_clamp (by omega)
    refine lv_aload_n C.1 C.2.1 dX11_film_7 rfl (lv_at hl 0 rfl) ?_
    refine mw_getr C Z hP (30) 0 (0) (by decide) sx_30 rfl rfl (by decide) inX11 tw_2_239 dX11_film_8 ?_
    refine lv_iload_n C.1 C.2.1 dX11_film_11 rfl (lv_at hl 2 rfl) ?_
    refine mw_cVi (As := [.int oo]) (rest := []) C Z hP hS (0) (cX_hasS l E σ 0 (by decide) n hn h8 oo) vb_X6_has tw_3_53 ⟨rfl, rfl⟩ ⟨Nat.le_of_ble_eq_true rfl, Nat.le_of_ble_eq_true rfl⟩ (by decide) sx_0 rfl rfl rfl hl.1 rfl (Nat.le_of_ble_eq_true rfl) dX11_film_12 ⟨Nat.zero_le _, Nat.zero_le _⟩ (fun r5 u6 H locs q7 hP hS => ?_)
    obtain ⟨rfl, q7u⟩ := q7
    rw [q7u] at hP; clear q7u
    refine lv_if_eq (tgt := 28) C.1 C.2.1 dX11_film_15 (by decide) (fun c8 => ?_) (fun c8 => ?_)
    · have c8 := bI_0.mp c8
      refine lv_bipush (v := -2) C.1 C.2.1 dX11_film_28 (by decide) ?_
      exact mw_iret C hr hlk Z hP hS dX11_film_30 (⟨fun _ => ⟨rfl, (xQs.rf σ)⟩, fun y => absurd (y.2.1) c8⟩)
    · have c8 := bI_n.mp c8
      have hhas := c8
      obtain ⟨q, hq8, eq0⟩ := nI_ofI (k := 8) hhas.1 (by omega)
      have hqn : q < n := by have y := hhas.2; rw [eq0, nI_toInt (by omega)] at y; omega
      have hq : q < 8 := by omega
      subst eq0
      have eq : (nI q).toNatClampNeg = q := nI_clamp (by omega)
      refine lv_iload_n C.1 C.2.1 dX11_film_18 rfl (lv_at hl 3 rfl) ?_
      refine lv_iconst (v := 0) C.1 C.2.1 dX11_film_19 (by decide) ?_
      refine lv_bipush (v := 40) C.1 C.2.1 dX11_film_20 (by decide) ?_
      refine mw_cSi (As := [.int m1, .int 0, .int 40]) (rest := []) C Z hP hS (cX_isWithin2 l E σ m1 (0 : Int32) (40 : Int32) (0 ≤ m1.toInt ∧ m1.toInt ≤ 40) Iff.rfl) sb_X11_isWithin tw_3_42 ⟨rfl, rfl⟩ ⟨Nat.le_of_ble_eq_true rfl, Nat.le_of_ble_eq_true rfl⟩ rfl hl.1 rfl (Nat.le_of_ble_eq_true rfl) dX11_film_22 ⟨Nat.zero_le _, Nat.zero_le _⟩ (fun r9 u10 H locs q11 hP hS => ?_)
      obtain ⟨rfl, q11u⟩ := q11
      rw [q11u] at hP; clear q11u
      refine lv_if_ne (tgt := 31) C.1 C.2.1 dX11_film_25 (by decide) (fun c12 => ?_) (fun c12 => ?_)
      · have c12 := bI_n.mp c12
        have hrm := c12
        obtain ⟨m, hm4, em0⟩ := nI_ofI (k := 40) hrm.1 hrm.2
        subst em0
        have em : (nI m).toNatClampNeg = m := nI_clamp (by omega)
        refine lv_aload_n C.1 C.2.1 dX11_film_31 rfl (lv_at hl 0 rfl) ?_
        refine mw_getr C Z hP (30) 1 (1) (by decide) sx_30 rfl rfl (by decide) inX11 tw_3_0 dX11_film_32 ?_
        refine lv_aload_n C.1 C.2.1 dX11_film_35 rfl (lv_at hl 0 rfl) ?_
        refine mw_getr C Z hP (30) 0 (0) (by decide) sx_30 rfl rfl (by decide) inX11 tw_2_239 dX11_film_36 ?_
        refine mw_cVv (As := [.ref (mw_a E 0)]) (rest := []) C Z hP hS (1) (cX_becomeS l E σ 1 0 (by decide) (by decide) (by decide) n hn h8) vb_X6_become tw_4_6 ⟨rfl, rfl⟩ ⟨Nat.le_of_ble_eq_true rfl, Nat.le_of_ble_eq_true rfl⟩ (by decide) sx_1 rfl rfl rfl hl.1 rfl (Nat.le_of_ble_eq_true rfl) dX11_film_39 ⟨Nat.zero_le _, Nat.zero_le _⟩ (fun u14 H locs q15 hP hS => ?_)
        have ti16 := q15.ti (fun q => q = 0) hn
        refine lv_aload_n C.1 C.2.1 dX11_film_42 rfl (lv_at hl 0 rfl) ?_
        refine mw_getr C Z hP (30) 10 (66) (by decide) sx_30 rfl rfl (by decide) inX11 tw_3_9 dX11_film_43 ?_
        refine lv_iload_n C.1 C.2.1 dX11_film_46 rfl (lv_at hl 1 rfl) ?_
        refine mw_aald C Z hP (66) (s) (by decide) sx_66 (by decide) rfl (Nat.lt_of_lt_of_le (by decide : 4 < 961) (Nat.le_of_ble_eq_true rfl)) rfl (by omega) dX11_film_47 ?_
        refine lv_iconst (v := 0) C.1 C.2.1 dX11_film_48 (by decide) ?_
        refine lv_iload_n C.1 C.2.1 dX11_film_49 rfl (lv_at hl 3 rfl) ?_
        refine mw_cVv (As := [.int 0, .int (nI m)]) (rest := []) C Z hP hS (67 + s) (cX_becomeH l E u14 s (by omega) (0 : Int32) (nI m)) vb_X5_become tw_4_77 ⟨rfl, rfl⟩ ⟨Nat.le_of_ble_eq_true rfl, Nat.le_of_ble_eq_true rfl⟩ (by omega) (sx_sh (by omega)) rfl rfl rfl hl.1 rfl (Nat.le_of_ble_eq_true rfl) dX11_film_50 ⟨Nat.zero_le _, Nat.zero_le _⟩ (fun u18 H locs q19 hP hS => ?_)
        have q19 := xShb_eq q19
        subst q19
        refine lv_iconst (v := 0) C.1 C.2.1 dX11_film_53 (by decide) ?_
        refine lv_istore (lv' := [(4, .int 0), (0, .ref (mw_a E 30)), (1, .int (nI s)), (2, .int (nI q)), (3, .int (nI m))]) C.1 C.2.1 dX11_film_54 hl (by decide) rfl (fun ls hl => ?_)
        have lpa : ∀ (N : Nat) (j : Nat) (ςa : mw_M) (H : Heap) (locs : List Loc), m + 1 ≤ j + N → (j ≤ m) → xTi (filM σ s m (fun k => eatsP z (upd (σ.1 0) 0 (nI (k + 1))) (cuX σ 0 q)) j) (fun q => q = 0) n ςa → va_P (mw_D E) vwCl (mw_ws shX 75 E ςa) H → va_S (mw_A 75 E) s_.heap H locs → ∀ (ls : Array Slot), lv_has ls 5 [(0, .ref (mw_a E 30)), (1, .int (nI s)), (2, .int (nI q)), (3, .int (nI m)), (4, .int (nI j))] → xWi p_ l e_ (rmF 5 155) s_ m_ [.ref (mw_a E 30), .int (nI s), .int (nI q), .int (nI m)] below meth c_ E (fun r u => (¬ ((0 ≤ (nI s).toInt ∧ (nI s).toInt ≤ 3) ∧ (0 ≤ (nI q).toInt ∧ (nI q).toInt < n) ∧ (0 ≤ (nI m).toInt ∧ (nI m).toInt ≤ 40)) → r = -2 ∧ xQs σ u) ∧ ((0 ≤ (nI s).toInt ∧ (nI s).toInt ≤ 3) ∧ (0 ≤ (nI q).toInt ∧ (nI q).toInt < n) ∧ (0 ≤ (nI m).toInt ∧ (nI m).toInt ≤ 40) → r = (nI m) ∧ xQs (filM σ (nI s).toNatClampNeg (nI m).toNatClampNeg (fun k => eatsP z (upd (σ.1 0) 0 (nI (k + 1))) (cuX σ 0 (nI q).toNatClampNeg)) (nI m).toNatClampNeg) u)) H locs (F0 m_ 56 ls []) := by
          intro N
          induction N with
          | zero => intros; exfalso; omega
          | succ N iha =>
            intro j ςa H locs hNa hj fra hP hS ls hl
            refine lv_iload C.1 C.2.1 dX11_film_56 (lv_at hl 4 rfl) ?_
            refine lv_iload_n C.1 C.2.1 dX11_film_58 rfl (lv_at hl 3 rfl) ?_
            refine lv_icmp_ge (tgt := 110) C.1 C.2.1 dX11_film_59 (by decide) (fun c20 => ?_) (fun c20 => ?_)
            · have c20 := (nI_leI (by omega) (by omega)).mp c20
              refine lv_iload_n C.1 C.2.1 dX11_film_110 rfl (lv_at hl 3 rfl) ?_
              have ej : j = m := by omega
              exact mw_iret C hr hlk Z hP hS dX11_film_111 (⟨fun y => absurd ⟨hrs, hhas, hrm⟩ y, fun _ => ⟨rfl, by rw [es, eq, em]; exact ej ▸ fra.1⟩⟩)
            · have c20 : _ := (not_congr (nI_leI (by omega) (by omega))).mp c20
              refine lv_aload_n C.1 C.2.1 dX11_film_62 rfl (lv_at hl 0 rfl) ?_
              refine mw_getr C Z hP (30) 1 (1) (by decide) sx_30 rfl rfl (by decide) inX11 tw_3_0 dX11_film_63 ?_
              refine lv_iload C.1 C.2.1 dX11_film_66 (lv_at hl 4 rfl) ?_
              refine lv_iconst (v := 1) C.1 C.2.1 dX11_film_68 (by decide) ?_
              refine lv_iadd C.1 C.2.1 dX11_film_69 ?_
              refine mw_top (y := nI (j + 1)) (nI_1 _) ?_
              refine mw_puti C Z hP hS (1) 0 (by decide) sx_1 rfl rfl (by decide) inX6 tyX6 tyX6_ok nmX6 rfl tw_1_76 rfl rfl dX11_film_70 (fun H locs hP hS => ?_)
              refine lv_aload_n C.1 C.2.1 dX11_film_73 rfl (lv_at hl 0 rfl) ?_
              refine mw_getr C Z hP (30) 10 (66) (by decide) sx_30 rfl rfl (by decide) inX11 tw_3_9 dX11_film_74 ?_
              refine lv_iload_n C.1 C.2.1 dX11_film_77 rfl (lv_at hl 1 rfl) ?_
              refine mw_aald C Z hP (66) (s) (by decide) sx_66 (by decide) rfl (Nat.lt_of_lt_of_le (by decide : 4 < 961) (Nat.le_of_ble_eq_true rfl)) rfl (by omega) dX11_film_78 ?_
              refine lv_iload C.1 C.2.1 dX11_film_79 (lv_at hl 4 rfl) ?_
              refine lv_aload_n C.1 C.2.1 dX11_film_81 rfl (lv_at hl 0 rfl) ?_
              refine mw_getr C Z hP (30) 7 (63) (by decide) sx_30 rfl rfl (by decide) inX11 tw_3_6 dX11_film_82 ?_
              refine lv_aload_n C.1 C.2.1 dX11_film_85 rfl (lv_at hl 0 rfl) ?_
              refine mw_getr C Z hP (30) 1 (1) (by decide) sx_30 rfl rfl (by decide) inX11 tw_3_0 dX11_film_86 ?_
              refine lv_aload_n C.1 C.2.1 dX11_film_89 rfl (lv_at hl 0 rfl) ?_
              refine mw_getr C Z hP (30) 1 (1) (by decide) sx_30 rfl rfl (by decide) inX11 tw_3_0 dX11_film_90 ?_
              refine mw_getr C Z hP (1) 7 (4) (by decide) sx_1 rfl rfl (by decide) inX6 tw_1_96 dX11_film_93 ?_
              refine lv_iload_n C.1 C.2.1 dX11_film_96 rfl (lv_at hl 2 rfl) ?_
              refine mw_aald C Z hP (4) (q) (by decide) sx_4 (by decide) rfl (Nat.lt_of_lt_of_le (by decide : 8 < 961) (Nat.le_of_ble_eq_true rfl)) rfl (by omega) dX11_film_97 ?_
              refine mw_cVi (As := [.ref (mw_a E 1), .ref (mw_a E (14 + q))]) (rest := [.int (nI j), .ref (mw_a E (67 + s))]) C Z hP hS (63) (cX_eatsOf l E (mw_si ςa 1 0 (nI (j + 1))) 1 (by decide) (14 + q) (by omega) z ((fra.si rfl (by decide) _).ru (filM_ru hs hru))) vb_X4_eatsOf tw_3_81 ⟨rfl, rfl⟩ ⟨Nat.le_of_ble_eq_true rfl, Nat.le_of_ble_eq_true rfl⟩ (by decide) sx_63 rfl rfl rfl hl.1 rfl (Nat.le_of_ble_eq_true rfl) dX11_film_98 ⟨Nat.zero_le _, Nat.zero_le _⟩ (fun r21 u22 H locs q23 hP hS => ?_)
              obtain ⟨e25, f24⟩ := q23
              rw [cg_eats (st2 := upd (σ.1 0) 0 (nI (j + 1))) (cu2 := cuX σ 0 q) (fil_st hs fra.2.1) (fun f hf => ((fra.si rfl (by decide) _).2.2.2.2 q f hqn (by omega)).trans (congrFun (filM_ne (by omega)) _))] at e25
              subst e25
              refine mw_cVv (As := [.int (nI j), .int (eatsP z (upd (σ.1 0) 0 (nI (j + 1))) (cuX σ 0 q))]) (rest := []) C Z hP hS (67 + s) (cX_put l E u22 s (by omega) m ((congrFun (((fra.si rfl (by decide) _).fs f24).1.1 (67 + s) (by refine ⟨?_, ?_, ?_⟩ <;> omega)) 1).trans (shb_at.2.trans (wI_40 hm4))) hm4 j (by omega) (eatsP z (upd (σ.1 0) 0 (nI (j + 1))) (cuX σ 0 q))) vb_X5_put tw_4_82 ⟨rfl, rfl⟩ ⟨Nat.le_of_ble_eq_true rfl, Nat.le_of_ble_eq_true rfl⟩ (by omega) (sx_sh (by omega)) rfl rfl rfl hl.1 rfl (Nat.le_of_ble_eq_true rfl) dX11_film_101 ⟨Nat.zero_le _, Nat.zero_le _⟩ (fun u27 H locs q28 hP hS => ?_)
              rw [show u22.1 (67 + s) 0 = 0 from (congrFun (((fra.si rfl (by decide) _).fs f24).1.1 (67 + s) (by refine ⟨?_, ?_, ?_⟩ <;> omega)) 0).trans shb_at.1, i8_e] at q28
              subst q28
              refine lv_iinc (v := nI (j + 1)) (lv' := [(4, .int (nI (j + 1))), (0, .ref (mw_a E 30)), (1, .int (nI s)), (2, .int (nI q)), (3, .int (nI m))]) C.1 C.2.1 dX11_film_104 hl (k := 4) rfl (nI_1 _) (by decide) rfl (fun ls hl => ?_)
              refine lv_goto (tgt := 56) C.1 C.2.1 dX11_film_107 (by decide) ?_
              exact iha (j + 1) (mw_sa u22 (71 + s) j (eatsP z (upd (σ.1 0) 0 (nI (j + 1))) (cuX σ 0 q))) _ _ (by omega) (by omega) (by rw [← filM_s]; exact (((fra.si rfl (by decide) _).fs f24).sa (k := 71 + s) (by omega) j (eatsP z (upd (σ.1 0) 0 (nI (j + 1))) (cuX σ 0 q)))) hP hS ls (lv_sub hl [1, 2, 3, 4, 0] rfl)
        exact lpa (m + 1) 0 (shbM u14 s (0 : Int32) (nI m)) _ _ (by omega) (by omega) (by rw [filM_0]; exact (ti16.shb h8 hs _ _)) hP hS ls (lv_sub hl [1, 2, 3, 4, 0] rfl)
      · have c12 := bI_0.mp c12
        refine lv_bipush (v := -2) C.1 C.2.1 dX11_film_28 (by decide) ?_
        exact mw_iret C hr hlk Z hP hS dX11_film_30 (⟨fun _ => ⟨rfl, (xQs.rf σ)⟩, fun y => absurd (y.2.2) c12⟩)

def sheetR (s so n : Int32) : Int32 := if ¬ (0 ≤ s.toInt ∧ s.toInt ≤ 3) ∨ ¬ (-1 ≤ so.toInt ∧ so.toInt ≤ 2) ∨ (0 ≤ so ∧ 40 < n) then -2 else if 0 ≤ so ∧ n < 0 then -14 else 1

set_option maxHeartbeats 4000000 in
set_option maxRecDepth 100000 in
theorem cX_sheet (l : Launch) (E : mw_E) (σ : mw_M) (ss so nn : Int32) : mw_Ci shX 75 gX l yX11_sheet cX11_sheet 4 (some .int) (rmF 4 129) E [.ref (mw_a E 30), .int ss, .int so, .int nn] σ (fun r u => r = sheetR ss so nn ∧ (sheetR ss so nn = 1 → xQs (shbM σ ss.toNatClampNeg so (if so = -1 then 0 else nn)) u) ∧ (¬ sheetR ss so nn = 1 → xQs σ u)) := by
  refine mw_of (by decide) gX_ok (Nat.le_of_ble_eq_true rfl) ?_
  intro p_ e_ s_ m_ below meth c_ C hr hlk Z hP ls hl
  have C : CallFix p_ m_ c_ cX11_sheet 4 s_ _ lw_good RX11 := C
  have hl : lv_has ls 4 [(0, .ref (mw_a E 30)), (1, .int ss), (2, .int so), (3, .int nn)] := hl
  have hS : va_S (mw_A 75 E) s_.heap s_.heap [] := va_S.rf
  refine lv_iload_n C.1 C.2.1 dX11_sheet_0 rfl (lv_at hl 1 rfl) ?_
  refine mw_cSi (As := [.int ss]) (rest := []) C Z hP hS (cX_isSheet l E σ ss) sb_X11_isSheet tw_4_50 ⟨rfl, rfl⟩ ⟨Nat.le_of_ble_eq_true rfl, Nat.le_of_ble_eq_true rfl⟩ rfl hl.1 rfl (Nat.le_of_ble_eq_true rfl) dX11_sheet_1 ⟨Nat.zero_le _, Nat.zero_le _⟩ (fun r1 u2 H locs q3 hP hS => ?_)
  obtain ⟨rfl, q3u⟩ := q3
  rw [q3u] at hP; clear q3u
  refine lv_if_eq (tgt := 16) C.1 C.2.1 dX11_sheet_4 (by decide) (fun c4 => ?_) (fun c4 => ?_)
  · have c4 := bI_0.mp c4
    refine lv_bipush (v := -2) C.1 C.2.1 dX11_sheet_16 (by decide) ?_
    have er : sheetR ss so nn = -2 := by unfold sheetR; rw [if_pos (Or.inl c4)]
    exact mw_iret C hr hlk Z hP hS dX11_sheet_18 (⟨er.symm, fun y => absurd (er.symm.trans y) (by decide), fun _ => (xQs.rf σ)⟩)
  · have c4 := bI_n.mp c4
    have hrs := c4
    obtain ⟨s, hs3, es0⟩ := nI_ofI (k := 3) hrs.1 hrs.2
    have hs : s < 4 := by omega
    subst es0
    have es : (nI s).toNatClampNeg = s := nI_clamp (by omega)
    refine lv_iload_n C.1 C.2.1 dX11_sheet_7 rfl (lv_at hl 2 rfl) ?_
    refine lv_iconst (v := -1) C.1 C.2.1 dX11_sheet_8 (by decide) ?_
    refine lv_iconst (v := 2) C.1 C.2.1 dX11_sheet_9 (by decide) ?_
    refine mw_cSi (As := [.int so, .int (-1), .int 2]) (rest := []) C Z hP hS (cX_isWithin2 l E σ so (-1 : Int32) (2 : Int32) (-1 ≤ so.toInt ∧ so.toInt ≤ 2) Iff.rfl) sb_X11_isWithin tw_3_42 ⟨rfl, rfl⟩ ⟨Nat.le_of_ble_eq_true rfl, Nat.le_of_ble_eq_true rfl⟩ rfl hl.1 rfl (Nat.le_of_ble_eq_true rfl) dX11_sheet_10 ⟨Nat.zero_le _, Nat.zero_le _⟩ (fun r5 u6 H locs q7 hP hS => ?_)
    obtain ⟨rfl, q7u⟩ := q7
    rw [q7u] at hP; clear q7u
    refine lv_if_ne (tgt := 19) C.1 C.2.1 dX11_sheet_13 (by decide) (fun c8 => ?_) (fun c8 => ?_)
    · have c8 := bI_n.mp c8
      have hrso := c8
      refine lv_iload_n C.1 C.2.1 dX11_sheet_19 rfl (lv_at hl 2 rfl) ?_
      refine lv_iconst (v := -1) C.1 C.2.1 dX11_sheet_20 (by decide) ?_
      refine lv_icmp_ne (tgt := 37) C.1 C.2.1 dX11_sheet_21 (by decide) (fun c9 => ?_) (fun c9 => ?_)
      · have hso0 : 0 ≤ so := by rw [ni_le]; have z0 := zero32; have z1 : (-1 : Int32).toInt = -1 := rfl; have y := (not_congr (ni_eq _ _)).mp c9; have := hrso.1; omega
        refine lv_iload_n C.1 C.2.1 dX11_sheet_37 rfl (lv_at hl 3 rfl) ?_
        refine lv_bipush (v := 40) C.1 C.2.1 dX11_sheet_38 (by decide) ?_
        refine lv_icmp_le (tgt := 46) C.1 C.2.1 dX11_sheet_40 (by decide) (fun c10 => ?_) (fun c10 => ?_)
        · refine lv_iload_n C.1 C.2.1 dX11_sheet_46 rfl (lv_at hl 3 rfl) ?_
          refine lv_if_ge (tgt := 53) C.1 C.2.1 dX11_sheet_47 (by decide) (fun c11 => ?_) (fun c11 => ?_)
          · refine lv_aload_n C.1 C.2.1 dX11_sheet_53 rfl (lv_at hl 0 rfl) ?_
            refine mw_getr C Z hP (30) 10 (66) (by decide) sx_30 rfl rfl (by decide) inX11 tw_3_9 dX11_sheet_54 ?_
            refine lv_iload_n C.1 C.2.1 dX11_sheet_57 rfl (lv_at hl 1 rfl) ?_
            refine mw_aald C Z hP (66) (s) (by decide) sx_66 (by decide) rfl (Nat.lt_of_lt_of_le (by decide : 4 < 961) (Nat.le_of_ble_eq_true rfl)) rfl (by omega) dX11_sheet_58 ?_
            refine lv_iload_n C.1 C.2.1 dX11_sheet_59 rfl (lv_at hl 2 rfl) ?_
            refine lv_iload_n C.1 C.2.1 dX11_sheet_60 rfl (lv_at hl 3 rfl) ?_
            refine mw_cVv (As := [.int so, .int nn]) (rest := []) C Z hP hS (67 + s) (cX_becomeH l E σ s (by omega) so nn) vb_X5_become tw_4_77 ⟨rfl, rfl⟩ ⟨Nat.le_of_ble_eq_true rfl, Nat.le_of_ble_eq_true rfl⟩ (by omega) (sx_sh (by omega)) rfl rfl rfl hl.1 rfl (Nat.le_of_ble_eq_true rfl) dX11_sheet_61 ⟨Nat.zero_le _, Nat.zero_le _⟩ (fun u13 H locs q14 hP hS => ?_)
            have q14 := xShb_eq q14
            subst q14
            refine lv_iconst (v := 1) C.1 C.2.1 dX11_sheet_64 (by decide) ?_
            have er : sheetR (nI s) so nn = 1 := by unfold sheetR; rw [if_neg (fun y => y.elim (fun y => y hrs) (fun y => y.elim (fun y => y hrso) (fun y => Int32.not_lt.mpr c10 y.2))), if_neg (fun y => Int32.not_lt.mpr c11 y.2)]
            exact mw_iret C hr hlk Z hP hS dX11_sheet_65 (⟨er.symm, fun _ => by rw [es, if_neg c9]; exact xQs.rf _, fun y => absurd er y⟩)
          · refine lv_bipush (v := -14) C.1 C.2.1 dX11_sheet_50 (by decide) ?_
            have er : sheetR (nI s) so nn = -14 := by unfold sheetR; rw [if_neg (fun y => y.elim (fun y => y hrs) (fun y => y.elim (fun y => y hrso) (fun y => Int32.not_lt.mpr c10 y.2))), if_pos ⟨hso0, Int32.not_le.mp c11⟩]
            exact mw_iret C hr hlk Z hP hS dX11_sheet_52 (⟨er.symm, fun y => absurd (er.symm.trans y) (by decide), fun _ => (xQs.rf σ)⟩)
        · refine lv_bipush (v := -2) C.1 C.2.1 dX11_sheet_43 (by decide) ?_
          have er : sheetR (nI s) so nn = -2 := by unfold sheetR; rw [if_pos (Or.inr (Or.inr ⟨hso0, Int32.not_le.mp c10⟩))]
          exact mw_iret C hr hlk Z hP hS dX11_sheet_45 (⟨er.symm, fun y => absurd (er.symm.trans y) (by decide), fun _ => (xQs.rf σ)⟩)
      · refine lv_aload_n C.1 C.2.1 dX11_sheet_24 rfl (lv_at hl 0 rfl) ?_
        refine mw_getr C Z hP (30) 10 (66) (by decide) sx_30 rfl rfl (by decide) inX11 tw_3_9 dX11_sheet_25 ?_
        refine lv_iload_n C.1 C.2.1 dX11_sheet_28 rfl (lv_at hl 1 rfl) ?_
        refine mw_aald C Z hP (66) (s) (by decide) sx_66 (by decide) rfl (Nat.lt_of_lt_of_le (by decide : 4 < 961) (Nat.le_of_ble_eq_true rfl)) rfl (by omega) dX11_sheet_29 ?_
        refine lv_iconst (v := -1) C.1 C.2.1 dX11_sheet_30 (by decide) ?_
        refine lv_iconst (v := 0) C.1 C.2.1 dX11_sheet_31 (by decide) ?_
        refine mw_cVv (As := [.int (-1), .int 0]) (rest := []) C Z hP hS (67 + s) (cX_becomeH l E σ s (by omega) (-1 : Int32) (0 : Int32)) vb_X5_become tw_4_77 ⟨rfl, rfl⟩ ⟨Nat.le_of_ble_eq_true rfl, Nat.le_of_ble_eq_true rfl⟩ (by omega) (sx_sh (by omega)) rfl rfl rfl hl.1 rfl (Nat.le_of_ble_eq_true rfl) dX11_sheet_32 ⟨Nat.zero_le _, Nat.zero_le _⟩ (fun u16 H locs q17 hP hS => ?_)
        have q17 := xShb_eq q17
        subst q17
        refine lv_iconst (v := 1) C.1 C.2.1 dX11_sheet_35 (by decide) ?_
        have er : sheetR (nI s) so nn = 1 := by unfold sheetR; rw [if_neg (fun y => y.elim (fun y => y hrs) (fun y => y.elim (fun y => y hrso) (fun y => by rw [c9] at y; exact absurd y.1 (by decide)))), if_neg (fun y => by rw [c9] at y; exact absurd y.1 (by decide))]
        exact mw_iret C hr hlk Z hP hS dX11_sheet_36 (⟨er.symm, fun _ => by rw [es, if_pos c9, c9]; exact xQs.rf _, fun y => absurd er y⟩)
    · have c8 := bI_0.mp c8
      refine lv_bipush (v := -2) C.1 C.2.1 dX11_sheet_16 (by decide) ?_
      have er : sheetR (nI s) so nn = -2 := by unfold sheetR; rw [if_pos (Or.inr (Or.inl c8))]
      exact mw_iret C hr hlk Z hP hS dX11_sheet_18 (⟨er.symm, fun y => absurd (er.symm.trans y) (by decide), fun _ => (xQs.rf σ)⟩)

def cellR (σ : mw_M) (ss ii : Int32) : Int32 := if ¬ (0 ≤ ss.toInt ∧ ss.toInt ≤ 3) then -2 else if σ.1 (67 + ss.toNatClampNeg) 0 = -1 then -11 else if ¬ (0 ≤ ii.toInt ∧ ii.toInt < (σ.1 (67 + ss.toNatClampNeg) 1).toInt) then -12 else 1

set_option maxHeartbeats 4000000 in
set_option maxRecDepth 100000 in
theorem cX_cell (l : Launch) (E : mw_E) (σ : mw_M) (hsh : xShs σ) (ss ii vv : Int32) : mw_Ci shX 75 gX l yX11_cell cX11_cell 5 (some .int) (rmF 3 108) E [.ref (mw_a E 30), .int ss, .int ii, .int vv] σ (fun r u => r = cellR σ ss ii ∧ (cellR σ ss ii = 1 → xQs (mw_sa σ (71 + ss.toNatClampNeg) ii.toNatClampNeg (narF (σ.1 (67 + ss.toNatClampNeg) 0) vv)) u) ∧ (¬ cellR σ ss ii = 1 → xQs σ u)) := by
  refine mw_of (by decide) gX_ok (Nat.le_of_ble_eq_true rfl) ?_
  intro p_ e_ s_ m_ below meth c_ C hr hlk Z hP ls hl
  have C : CallFix p_ m_ c_ cX11_cell 5 s_ _ lw_good RX11 := C
  have hl : lv_has ls 5 [(0, .ref (mw_a E 30)), (1, .int ss), (2, .int ii), (3, .int vv)] := hl
  have hS : va_S (mw_A 75 E) s_.heap s_.heap [] := va_S.rf
  refine lv_iload_n C.1 C.2.1 dX11_cell_0 rfl (lv_at hl 1 rfl) ?_
  refine mw_cSi (As := [.int ss]) (rest := []) C Z hP hS (cX_isSheet l E σ ss) sb_X11_isSheet tw_4_50 ⟨rfl, rfl⟩ ⟨Nat.le_of_ble_eq_true rfl, Nat.le_of_ble_eq_true rfl⟩ rfl hl.1 rfl (Nat.le_of_ble_eq_true rfl) dX11_cell_1 ⟨Nat.zero_le _, Nat.zero_le _⟩ (fun r1 u2 H locs q3 hP hS => ?_)
  obtain ⟨rfl, q3u⟩ := q3
  rw [q3u] at hP; clear q3u
  refine lv_if_ne (tgt := 10) C.1 C.2.1 dX11_cell_4 (by decide) (fun c4 => ?_) (fun c4 => ?_)
  · have c4 := bI_n.mp c4
    have hrs := c4
    obtain ⟨s, hs3, es0⟩ := nI_ofI (k := 3) hrs.1 hrs.2
    have hs : s < 4 := by omega
    subst es0
    have es : (nI s).toNatClampNeg = s := nI_clamp (by omega)
    obtain ⟨m, hm4, hm⟩ := hsh s hs
    refine lv_aload_n C.1 C.2.1 dX11_cell_10 rfl (lv_at hl 0 rfl) ?_
    refine mw_getr C Z hP (30) 10 (66) (by decide) sx_30 rfl rfl (by decide) inX11 tw_3_9 dX11_cell_11 ?_
    refine lv_iload_n C.1 C.2.1 dX11_cell_14 rfl (lv_at hl 1 rfl) ?_
    refine mw_aald C Z hP (66) (s) (by decide) sx_66 (by decide) rfl (Nat.lt_of_lt_of_le (by decide : 4 < 961) (Nat.le_of_ble_eq_true rfl)) rfl (by omega) dX11_cell_15 ?_
    refine lv_astore (lv' := [(4, .ref (mw_a E (67 + s))), (0, .ref (mw_a E 30)), (1, .int (nI s)), (2, .int ii), (3, .int vv)]) C.1 C.2.1 dX11_cell_16 hl (by decide) rfl (fun ls hl => ?_)
    refine lv_aload C.1 C.2.1 dX11_cell_18 (lv_at hl 0 rfl) ?_
    refine mw_cVi (As := []) (rest := []) C Z hP hS (67 + s) (cX_missing l E σ s (by omega)) vb_X5_isMissing tw_4_53 ⟨rfl, rfl⟩ ⟨Nat.le_of_ble_eq_true rfl, Nat.le_of_ble_eq_true rfl⟩ (by omega) (sx_sh (by omega)) rfl rfl rfl hl.1 rfl (Nat.le_of_ble_eq_true rfl) dX11_cell_20 ⟨Nat.zero_le _, Nat.zero_le _⟩ (fun r5 u6 H locs q7 hP hS => ?_)
    obtain ⟨rfl, q7u⟩ := q7
    rw [q7u] at hP; clear q7u
    refine lv_if_eq (tgt := 29) C.1 C.2.1 dX11_cell_23 (by decide) (fun c8 => ?_) (fun c8 => ?_)
    · have c8 := bI_0.mp c8
      refine lv_aload C.1 C.2.1 dX11_cell_29 (lv_at hl 0 rfl) ?_
      refine lv_iload_n C.1 C.2.1 dX11_cell_31 rfl (lv_at hl 3 rfl) ?_
      refine lv_iconst (v := 1) C.1 C.2.1 dX11_cell_32 (by decide) ?_
      refine mw_cVi (As := [.int ii, .int 1]) (rest := []) C Z hP hS (67 + s) (cX_holds l E σ s (by omega) m hm hm4 ii (1 : Int32)) vb_X5_holds tw_4_133 ⟨rfl, rfl⟩ ⟨Nat.le_of_ble_eq_true rfl, Nat.le_of_ble_eq_true rfl⟩ (by omega) (sx_sh (by omega)) rfl rfl rfl hl.1 rfl (Nat.le_of_ble_eq_true rfl) dX11_cell_33 ⟨Nat.zero_le _, Nat.zero_le _⟩ (fun r9 u10 H locs q11 hP hS => ?_)
      obtain ⟨rfl, q11u⟩ := q11
      rw [q11u] at hP; clear q11u
      refine lv_if_ne (tgt := 42) C.1 C.2.1 dX11_cell_36 (by decide) (fun c12 => ?_) (fun c12 => ?_)
      · have c12 := bI_n.mp c12
        have hho := c12
        obtain ⟨q, hq4, eq0⟩ := nI_ofI (k := 40) hho.2.1 (by omega)
        have hqm : q < m := by have y := hho.2.2.2; rw [eq0, nI_toInt (by omega)] at y; have : (1 : Int32).toInt = 1 := rfl; omega
        subst eq0
        refine lv_aload C.1 C.2.1 dX11_cell_42 (lv_at hl 0 rfl) ?_
        refine lv_iload_n C.1 C.2.1 dX11_cell_44 rfl (lv_at hl 3 rfl) ?_
        refine lv_iload_n C.1 C.2.1 dX11_cell_45 rfl (lv_at hl 4 rfl) ?_
        refine mw_cVv (As := [.int (nI q), .int vv]) (rest := []) C Z hP hS (67 + s) (cX_put l E σ s (by omega) m hm hm4 q (by omega) vv) vb_X5_put tw_4_82 ⟨rfl, rfl⟩ ⟨Nat.le_of_ble_eq_true rfl, Nat.le_of_ble_eq_true rfl⟩ (by omega) (sx_sh (by omega)) rfl rfl rfl hl.1 rfl (Nat.le_of_ble_eq_true rfl) dX11_cell_46 ⟨Nat.zero_le _, Nat.zero_le _⟩ (fun u14 H locs q15 hP hS => ?_)
        subst q15
        refine lv_iconst (v := 1) C.1 C.2.1 dX11_cell_49 (by decide) ?_
        have er : cellR σ (nI s) (nI q) = 1 := by unfold cellR; rw [if_neg (Decidable.not_not.mpr hrs), es, if_neg c8, if_neg (Decidable.not_not.mpr ⟨by rw [nI_toInt (by omega)]; omega, by rw [hm, nI_toInt (by omega), nI_toInt (by omega)]; omega⟩)]
        exact mw_iret C hr hlk Z hP hS dX11_cell_50 (⟨er.symm, fun _ => by rw [es, nI_clamp (n := q) (by omega)]; exact xQs.rf _, fun y => absurd er y⟩)
      · have c12 := bI_0.mp c12
        refine lv_bipush (v := -12) C.1 C.2.1 dX11_cell_39 (by decide) ?_
        have er : cellR σ (nI s) ii = -12 := by unfold cellR; rw [if_neg (Decidable.not_not.mpr hrs), es, if_neg c8, if_pos (fun y => c12 (by rw [hm, nI_toInt (by omega)] at y; have : (1 : Int32).toInt = 1 := rfl; omega))]
        exact mw_iret C hr hlk Z hP hS dX11_cell_41 (⟨er.symm, fun y => absurd (er.symm.trans y) (by decide), fun _ => (xQs.rf σ)⟩)
    · have c8 := bI_n.mp c8
      refine lv_bipush (v := -11) C.1 C.2.1 dX11_cell_26 (by decide) ?_
      have er : cellR σ (nI s) ii = -11 := by unfold cellR; rw [if_neg (Decidable.not_not.mpr hrs), es, if_pos c8]
      exact mw_iret C hr hlk Z hP hS dX11_cell_28 (⟨er.symm, fun y => absurd (er.symm.trans y) (by decide), fun _ => (xQs.rf σ)⟩)
  · have c4 := bI_0.mp c4
    refine lv_bipush (v := -2) C.1 C.2.1 dX11_cell_7 (by decide) ?_
    have er : cellR σ ss ii = -2 := by unfold cellR; rw [if_pos c4]
    exact mw_iret C hr hlk Z hP hS dX11_cell_9 (⟨er.symm, fun y => absurd (er.symm.trans y) (by decide), fun _ => (xQs.rf σ)⟩)
