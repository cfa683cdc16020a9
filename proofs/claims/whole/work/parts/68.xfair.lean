/-! THE CLASS: FAIR, BUYSONE -/
def upU (s t : Nat → Nat) : Nat → Nat
  | 0 => 0
  | n + 1 => upU s t n * t n + s n * prF t n
theorem upU_le {s t : Nat → Nat} : ∀ n, (∀ p, p < n → s p ≤ 999 ∧ t p ≤ 99) → 99 * upU s t n ≤ n * (999 * 99 ^ n)
  | 0, _ => Nat.le_of_eq rfl
  | n + 1, h => by
    show 99 * (upU s t n * t n + s n * prF t n) ≤ _
    have h1 := upU_le n (fun p hp => h p (by omega))
    have h2 := prF_le (t := t) n (fun p hp => (h p (by omega)).2)
    obtain ⟨h3, h4⟩ := h n (by omega)
    have h5 : 99 * upU s t n * t n ≤ n * (999 * 99 ^ n) * 99 := Nat.mul_le_mul h1 h4
    have h6 : s n * prF t n ≤ 999 * 99 ^ n := Nat.mul_le_mul h3 h2
    rw [Nat.mul_add, ← Nat.mul_assoc, Nat.pow_succ]
    have e1 : (n + 1) * (999 * (99 ^ n * 99)) = n * (999 * 99 ^ n) * 99 + 99 * (999 * 99 ^ n) := by
      rw [Nat.add_mul, Nat.one_mul, ← Nat.mul_assoc 999, ← Nat.mul_assoc n, Nat.mul_comm (999 * 99 ^ n) 99]
    rw [e1]
    exact Nat.add_le_add h5 (Nat.mul_le_mul_left 99 h6)
theorem upU_63 (z : zP) (st : Nat → Int32) (cu : Nat → Nat → Int32) {n : Nat} (h : n ≤ 8) : upU (sbP z st cu) (tbP z st cu) n < 2 ^ 63 := by
  have h1 := upU_le (s := sbP z st cu) (t := tbP z st cu) n (fun p _ => ⟨sbP_rng z st cu p, (tbP_rng z st cu p).2⟩)
  have h2 : 99 ^ n ≤ 99 ^ 8 := Nat.pow_le_pow_right (by decide) h
  have h3 : n * (999 * 99 ^ n) ≤ 8 * (999 * 99 ^ 8) := Nat.mul_le_mul h (Nat.mul_le_mul_left 999 h2)
  have h4 : 8 * (999 * 99 ^ 8) < 99 * 2 ^ 63 := Nat.lt_of_succ_le (Nat.le_of_ble_eq_true rfl)
  omega
/-- a over b is U over P in lowest terms -/
def low (a b U P : Nat) : Prop := a * P = U * b ∧ Nat.gcd a b = 1 ∧ 0 < b
theorem low.split {a b U P : Nat} (h : low a b U P) (hp : 0 < P) : ∃ k, 0 < k ∧ U = a * k ∧ P = b * k := by
  obtain ⟨h1, h2, h3⟩ := h
  have hd : b ∣ P := by
    have : b ∣ a * P := ⟨U, by rw [h1, Nat.mul_comm]⟩
    exact Nat.Coprime.dvd_of_dvd_mul_left (Nat.Coprime.symm h2) this
  obtain ⟨k, hk⟩ := hd
  refine ⟨k, ?_, ?_, hk⟩
  · rcases Nat.eq_zero_or_pos k with z | z
    · rw [z, Nat.mul_zero] at hk; omega
    · exact z
  · rw [hk, ← Nat.mul_assoc, Nat.mul_right_comm] at h1
    exact (Nat.eq_of_mul_eq_mul_right h3 h1).symm
theorem low.le {a b U P : Nat} (h : low a b U P) (hp : 0 < P) : a ≤ U ∧ b ≤ P := by
  obtain ⟨k, h1, h2, h3⟩ := h.split hp
  rw [h2, h3]
  exact ⟨Nat.le_mul_of_pos_right a h1, Nat.le_mul_of_pos_right b h1⟩
theorem low_of {A B U P : Nat} (h : A * P = U * B) (hb : 0 < B) : low (A / Nat.gcd A B) (B / Nat.gcd A B) U P := by
  have hg := Nat.gcd_pos_of_pos_right A hb
  have ha : A = A / Nat.gcd A B * Nat.gcd A B := (Nat.div_mul_cancel (Nat.gcd_dvd_left A B)).symm
  have hb2 : B = B / Nat.gcd A B * Nat.gcd A B := (Nat.div_mul_cancel (Nat.gcd_dvd_right A B)).symm
  refine ⟨?_, Nat.gcd_div_gcd_div_gcd_of_pos_right hb, Nat.div_pos (Nat.gcd_le_right A hb) hg⟩
  refine Nat.eq_of_mul_eq_mul_right hg ?_
  rw [Nat.mul_right_comm, ← ha, Nat.mul_assoc, ← hb2]
  exact h
theorem low.plus {a b U P s t : Nat} (h : low a b U P) (ht : 0 < t) : low ((a * t + s * b) / Nat.gcd (a * t + s * b) (b * t)) (b * t / Nat.gcd (a * t + s * b) (b * t)) (U * t + s * P) (P * t) := by
  refine low_of ?_ (Nat.mul_pos h.2.2 ht)
  have h1 := h.1
  have e1 : (a * t + s * b) * (P * t) = (a * P) * (t * t) + s * b * (P * t) := by
    rw [Nat.add_mul]
    congr 1
    rw [Nat.mul_mul_mul_comm]
  have e2 : (U * t + s * P) * (b * t) = (U * b) * (t * t) + s * b * (P * t) := by
    rw [Nat.add_mul]
    congr 1
    · rw [Nat.mul_mul_mul_comm]
    · rw [Nat.mul_mul_mul_comm, Nat.mul_mul_mul_comm s b]
  rw [e1, e2, h1]
theorem low.times {a b U P s t : Nat} (h : low a b U P) (ht : 0 < t) : low (a * s / Nat.gcd (a * s) (b * t)) (b * t / Nat.gcd (a * s) (b * t)) (U * s) (P * t) := by
  refine low_of ?_ (Nat.mul_pos h.2.2 ht)
  rw [Nat.mul_mul_mul_comm, h.1, Nat.mul_mul_mul_comm]
theorem low_uniq {a b U P A L : Nat} (h : low a b U P) (hp : 0 < P) (hl : 0 < L) (e : A * P = U * L) : a = A / Nat.gcd A L ∧ b = L / Nat.gcd A L := by
  have h2 : low a b A L := by
    refine ⟨?_, h.2⟩
    refine Nat.eq_of_mul_eq_mul_right hp ?_
    rw [Nat.mul_right_comm, h.1, Nat.mul_right_comm A b P, e, Nat.mul_right_comm]
  obtain ⟨k, k0, k1, k2⟩ := h2.split hl
  rw [k1, k2, Nat.gcd_mul_right, h.2.1, Nat.one_mul, Nat.mul_div_cancel _ k0, Nat.mul_div_cancel _ k0]
  exact ⟨rfl, rfl⟩
theorem abF_up {s t : Nat → Nat} {L : Nat} : ∀ n, (∀ p, p < n → 0 < t p ∧ t p ∣ L) → abF s t L n * prF t n = upU s t n * L
  | 0, _ => by show 0 * 1 = 0 * L; rw [Nat.zero_mul, Nat.zero_mul]
  | n + 1, h => by
    have ih := abF_up (s := s) n (fun p hp => h p (by omega))
    obtain ⟨h0, k, hk⟩ := h n (by omega)
    show (abF s t L n + s n * (L / t n)) * (prF t n * t n) = (upU s t n * t n + s n * prF t n) * L
    have e : L / t n = k := by rw [hk]; exact Nat.mul_div_cancel_left k h0
    rw [e, Nat.add_mul, Nat.add_mul, ← Nat.mul_assoc, ih, Nat.mul_right_comm]
    congr 1
    rw [Nat.mul_mul_mul_comm, hk, Nat.mul_comm k (t n)]
theorem low_fair (z : zP) (st : Nat → Int32) (cu : Nat → Nat → Int32) {n a b : Nat} (h : low a b (upU (sbP z st cu) (tbP z st cu) n) (prF (tbP z st cu) n)) : a = fairA z st cu n / Nat.gcd (fairA z st cu n) (fairL z st cu n) ∧ b = fairL z st cu n / Nat.gcd (fairA z st cu n) (fairL z st cu n) :=
  low_uniq h (prF_pos n (fun p _ => (tbP_rng z st cu p).1)) (lcF_pos n (fun p _ => (tbP_rng z st cu p).1)) (abF_up n (fun p hp => ⟨(tbP_rng z st cu p).1, lcF_dvd n (fun p _ => (tbP_rng z st cu p).1) p hp⟩))
theorem low_one {a b U P : Nat} (h : low a b U P) (hp : 0 < P) : (b - a) / Nat.gcd (b - a) b = (P - U) / Nat.gcd (P - U) P ∧ b / Nat.gcd (b - a) b = P / Nat.gcd (P - U) P := by
  obtain ⟨k, k0, k1, k2⟩ := h.split hp
  rw [k1, k2, ← Nat.sub_mul, Nat.gcd_mul_right, Nat.mul_div_mul_right _ _ k0, Nat.mul_div_mul_right _ _ k0]
  exact ⟨rfl, rfl⟩
theorem low.ab {a b U P : Nat} (h : low a b U P) (hp : 0 < P) (hu : U ≤ P) : a ≤ b := by
  obtain ⟨k, k0, k1, k2⟩ := h.split hp
  rw [k1, k2] at hu
  exact Nat.le_of_mul_le_mul_right hu k0
theorem trth_no {z : zP} {st cu : Nat → Int32} (h : trthP z st cu ≤ 0) : ¬ buysP z st cu := by
  unfold trthP at h
  intro hb
  rw [if_pos hb.1] at h
  exact Int32.not_lt.mpr h hb.2
theorem trth_yes {z : zP} {st cu : Nat → Int32} (h : ¬ trthP z st cu ≤ 0) : buysP z st cu ∧ trthP z st cu = nI (tnP z st cu) := by
  unfold trthP at h ⊢
  by_cases hb : thereP st cu
  · rw [if_pos hb] at h ⊢
    exact ⟨⟨hb, Int32.not_le.mp h⟩, (tnP_eq z st cu).1⟩
  · rw [if_neg hb] at h
    exact absurd (by decide) h
theorem low0 : low (0 / Nat.gcd 0 1) (1 / Nat.gcd 0 1) 0 1 := ⟨rfl, rfl, by decide⟩
theorem low1 : low (1 / Nat.gcd 1 1) (1 / Nat.gcd 1 1) 1 1 := ⟨rfl, rfl, by decide⟩

set_option maxHeartbeats 4000000 in
set_option maxRecDepth 100000 in
theorem cX_fair (l : Launch) (E : mw_E) (σ : mw_M) (n : Nat) (hn : σ.1 0 6 = nI n) (h8 : n ≤ 8) (z : zP) (hru : xRu σ 0 z) (w : Int32) : mw_Cl shX 75 gX l yX11_fair cX11_fair 5 (some .long) (rmF 6 177) E [.ref (mw_a E 30), .int w] σ (fun r u => r = fairF z (σ.1 0) (cuX σ 0) n w ∧ xQs σ u) := by
  refine mw_of (by decide) gX_ok (Nat.le_of_ble_eq_true rfl) ?_
  intro p_ e_ s_ m_ below meth c_ C hr hlk Z hP ls hl
  have C : CallFix p_ m_ c_ cX11_fair 5 s_ _ lw_good RX11 := C
  have hl : lv_has ls 5 [(0, .ref (mw_a E 30)), (1, .int w)] := hl
  have hS : va_S (mw_A 75 E) s_.heap s_.heap [] := va_S.rf
  refine lv_iload_n C.1 C.2.1 dX11_fair_0 rfl (lv_at hl 1 rfl) ?_
  refine mw_cSi (As := [.int w]) (rest := []) C Z hP hS (cX_is01 l E σ w) sb_X11_isZeroOrOne tw_3_202 ⟨rfl, rfl⟩ ⟨Nat.le_of_ble_eq_true rfl, Nat.le_of_ble_eq_true rfl⟩ rfl hl.1 rfl (Nat.le_of_ble_eq_true rfl) dX11_fair_1 ⟨Nat.zero_le _, Nat.zero_le _⟩ (fun r1 u2 H locs q3 hP hS => ?_)
  obtain ⟨rfl, q3u⟩ := q3
  rw [q3u] at hP; clear q3u
  refine lv_if_ne (tgt := 11) C.1 C.2.1 dX11_fair_4 (by decide) (fun c4 => ?_) (fun c4 => ?_)
  · have c4 := bI_n.mp c4
    have hw01 := c4
    refine lv_aload_n C.1 C.2.1 dX11_fair_11 rfl (lv_at hl 0 rfl) ?_
    refine mw_getr C Z hP (30) 9 (65) (by decide) sx_30 rfl rfl (by decide) inX11 tw_3_8 dX11_fair_12 ?_
    refine lv_lconst (v := 0) C.1 C.2.1 dX11_fair_15 (by decide) ?_
    refine lv_lconst (v := 1) C.1 C.2.1 dX11_fair_16 (by decide) ?_
    refine mw_cVv (As := [.long (0), .long (1)]) (rest := []) C Z hP hS (65) (cX_layF l E σ 0 1 (by decide) (by decide)) vb_X2_lay tw_3_206 ⟨rfl, rfl⟩ ⟨Nat.le_of_ble_eq_true rfl, Nat.le_of_ble_eq_true rfl⟩ (by decide) sx_65 rfl rfl rfl hl.1 rfl (Nat.le_of_ble_eq_true rfl) dX11_fair_17 ⟨Nat.zero_le _, Nat.zero_le _⟩ (fun u6 H locs q7 hP hS => ?_)
    subst q7
    refine lv_iconst (v := 0) C.1 C.2.1 dX11_fair_20 (by decide) ?_
    refine lv_istore_n (lv' := [(2, .int 0), (0, .ref (mw_a E 30)), (1, .int w)]) C.1 C.2.1 dX11_fair_21 rfl hl (by decide) rfl (fun ls hl => ?_)
    have lpa : ∀ (N : Nat) (j : Nat) (a : Nat) (b : Nat) (ςa : mw_M) (H : Heap) (locs : List Loc), n + 1 ≤ j + N → (j ≤ n) → (low a b (upU (sbP z (σ.1 0) (cuX σ 0)) (tbP z (σ.1 0) (cuX σ 0)) j) (prF (tbP z (σ.1 0) (cuX σ 0)) j)) → (ςa.2.2 65 0 = lN a) → (ςa.2.2 65 1 = lN b) → xQs σ ςa → va_P (mw_D E) vwCl (mw_ws shX 75 E ςa) H → va_S (mw_A 75 E) s_.heap H locs → ∀ (ls : Array Slot), lv_has ls 5 [(0, .ref (mw_a E 30)), (1, .int w), (2, .int (nI j))] → xWl p_ l e_ (rmF 6 177) s_ m_ [.ref (mw_a E 30), .int w] below meth c_ E (fun r u => r = fairF z (σ.1 0) (cuX σ 0) n w ∧ xQs σ u) H locs (F0 m_ 22 ls []) := by
      intro N
      induction N with
      | zero => intros; exfalso; omega
      | succ N iha =>
        intro j a b ςa H locs hNa hj hlow h0 h1 fra hP hS ls hl
        refine lv_iload_n C.1 C.2.1 dX11_fair_22 rfl (lv_at hl 2 rfl) ?_
        refine lv_aload_n C.1 C.2.1 dX11_fair_23 rfl (lv_at hl 0 rfl) ?_
        refine mw_getr C Z hP (30) 0 (0) (by decide) sx_30 rfl rfl (by decide) inX11 tw_2_239 dX11_fair_24 ?_
        refine mw_geti C Z hP (0) 6 (by decide) sx_0 rfl rfl (by decide) inX6 tw_1_93 dX11_fair_27 ?_
        refine mw_top (y := nI n) ((congrFun (fra.1 0 (by decide)) _).trans hn) ?_
        refine lv_icmp_ge (tgt := 97) C.1 C.2.1 dX11_fair_30 (by decide) (fun c8 => ?_) (fun c8 => ?_)
        · have c8 := (nI_leI (by omega) (by omega)).mp c8
          rw [show j = n by omega] at hlow
          refine lv_aload_n C.1 C.2.1 dX11_fair_97 rfl (lv_at hl 0 rfl) ?_
          refine mw_getr C Z hP (30) 9 (65) (by decide) sx_30 rfl rfl (by decide) inX11 tw_3_8 dX11_fair_98 ?_
          refine lv_iload_n C.1 C.2.1 dX11_fair_101 rfl (lv_at hl 1 rfl) ?_
          refine mw_cVl (As := [.int w]) (rest := []) C Z hP hS (65) (cX_part l E ςa w) vb_X2_part tw_3_222 ⟨rfl, rfl⟩ ⟨Nat.le_of_ble_eq_true rfl, Nat.le_of_ble_eq_true rfl⟩ (by decide) sx_65 rfl rfl rfl hl.1 rfl (Nat.le_of_ble_eq_true rfl) dX11_fair_102 ⟨Nat.zero_le _, Nat.zero_le _⟩ (fun r9 u10 H locs q11 hP hS => ?_)
          obtain ⟨rfl, q11u⟩ := q11
          rw [q11u] at hP; clear q11u
          have hlf := low_fair z (σ.1 0) (cuX σ 0) hlow
          exact mw_lret C hr hlk Z hP hS dX11_fair_105 (⟨by unfold fairF; rw [if_neg (c := ¬ (0 ≤ w.toInt ∧ w.toInt ≤ 1)) (fun y => y hw01), ← hlf.1, ← hlf.2, ← h0, ← h1], fra⟩)
        · have c8 : _ := (not_congr (nI_leI (by omega) (by omega))).mp c8
          refine lv_iload_n C.1 C.2.1 dX11_fair_33 rfl (lv_at hl 2 rfl) ?_
          refine lv_bipush (v := 8) C.1 C.2.1 dX11_fair_34 (by decide) ?_
          refine lv_icmp_ge (tgt := 97) C.1 C.2.1 dX11_fair_36 (by decide) (fun c12 => ?_) (fun c12 => ?_)
          · exact absurd ((nI_leI (a := 8) (by decide) (by omega)).mp c12) (by omega)
          · refine lv_aload_n C.1 C.2.1 dX11_fair_39 rfl (lv_at hl 0 rfl) ?_
            refine mw_getr C Z hP (30) 0 (0) (by decide) sx_30 rfl rfl (by decide) inX11 tw_2_239 dX11_fair_40 ?_
            refine mw_getr C Z hP (0) 7 (3) (by decide) sx_0 rfl rfl (by decide) inX6 tw_1_96 dX11_fair_43 ?_
            refine lv_iload_n C.1 C.2.1 dX11_fair_46 rfl (lv_at hl 2 rfl) ?_
            refine mw_aald C Z hP (3) (j) (by decide) sx_3 (by decide) rfl (Nat.lt_of_lt_of_le (by decide : 8 < 961) (Nat.le_of_ble_eq_true rfl)) rfl (by omega) dX11_fair_47 ?_
            refine lv_astore_n (lv' := [(3, .ref (mw_a E (6 + j))), (0, .ref (mw_a E 30)), (1, .int w), (2, .int (nI j))]) C.1 C.2.1 dX11_fair_48 rfl hl (by decide) rfl (fun ls hl => ?_)
            refine lv_aload_n C.1 C.2.1 dX11_fair_49 rfl (lv_at hl 1 rfl) ?_
            refine mw_getr C Z hP (30) 7 (63) (by decide) sx_30 rfl rfl (by decide) inX11 tw_3_6 dX11_fair_50 ?_
            refine lv_aload_n C.1 C.2.1 dX11_fair_53 rfl (lv_at hl 1 rfl) ?_
            refine mw_getr C Z hP (30) 0 (0) (by decide) sx_30 rfl rfl (by decide) inX11 tw_2_239 dX11_fair_54 ?_
            refine lv_aload_n C.1 C.2.1 dX11_fair_57 rfl (lv_at hl 0 rfl) ?_
            refine mw_cVi (As := [.ref (mw_a E 0), .ref (mw_a E (6 + j))]) (rest := []) C Z hP hS (63) (cX_triesIfThere l E ςa (0) (by omega) (6 + j) (by omega) z (fra.ru (by decide) hru)) vb_X4_triesIfThere tw_3_213 ⟨rfl, rfl⟩ ⟨Nat.le_of_ble_eq_true rfl, Nat.le_of_ble_eq_true rfl⟩ (by decide) sx_63 rfl rfl rfl hl.1 rfl (Nat.le_of_ble_eq_true rfl) dX11_fair_58 ⟨Nat.zero_le _, Nat.zero_le _⟩ (fun r13 u14 H locs q15 hP hS => ?_)
            obtain ⟨e17, f16⟩ := q15
            rw [fra.1 0 (by decide), fra.1 (6 + j) (by refine ⟨?_, ?_, ?_⟩ <;> omega)] at e17
            subst e17
            refine lv_istore (lv' := [(4, .int (trthP z (σ.1 0) (σ.1 (6 + j)))), (3, .ref (mw_a E (6 + j))), (0, .ref (mw_a E 30)), (1, .int w), (2, .int (nI j))]) C.1 C.2.1 dX11_fair_61 hl (by decide) rfl (fun ls hl => ?_)
            refine lv_iload C.1 C.2.1 dX11_fair_63 (lv_at hl 0 rfl) ?_
            refine lv_if_le (tgt := 91) C.1 C.2.1 dX11_fair_65 (by decide) (fun c18 => ?_) (fun c18 => ?_)
            · have hbn := tbP_f (cu := cuX σ 0) (p := j) (trth_no c18)
              refine lv_iinc (v := nI (j + 1)) (lv' := [(2, .int (nI (j + 1))), (4, .int (trthP z (σ.1 0) (σ.1 (6 + j)))), (3, .ref (mw_a E (6 + j))), (0, .ref (mw_a E 30)), (1, .int w)]) C.1 C.2.1 dX11_fair_91 hl (k := 4) rfl (nI_1 _) (by decide) rfl (fun ls hl => ?_)
              refine lv_goto (tgt := 22) C.1 C.2.1 dX11_fair_94 (by decide) ?_
              exact iha (j + 1) a b u14 _ _ (by omega) (by omega) (by show low a b (_ * tbP z (σ.1 0) (cuX σ 0) j + sbP z (σ.1 0) (cuX σ 0) j * _) (_ * tbP z (σ.1 0) (cuX σ 0) j); rw [hbn.1, hbn.2.1, Nat.zero_mul, Nat.mul_one, Nat.mul_one]; exact hlow) ((congrFun (congrFun f16.2.1 65) 0).trans h0) ((congrFun (congrFun f16.2.1 65) 1).trans h1) (fra.fs f16) hP hS ls (lv_sub hl [3, 4, 0] rfl)
            · obtain ⟨hby, etr⟩ := trth_yes c18
              have hby : buysP z (σ.1 0) (cuX σ 0 j) := hby
              rw [etr] at hl
              have ht := tbP_t (cu := cuX σ 0) (p := j) hby
              have htp : 0 < tnP z (σ.1 0) (σ.1 (6 + j)) := buysP_pos hby
              have hpp := prF_63 z (σ.1 0) (cuX σ 0) (n := j) (by omega)
              have hpq := prF_63 z (σ.1 0) (cuX σ 0) (n := j + 1) (by omega)
              have hle := hlow.le hpp.2.1
              have htl := (tnP_eq z (σ.1 0) (σ.1 (6 + j))).2
              have eP : prF (tbP z (σ.1 0) (cuX σ 0)) (j + 1) = prF (tbP z (σ.1 0) (cuX σ 0)) j * tnP z (σ.1 0) (σ.1 (6 + j)) := by
                show _ * tbP z (σ.1 0) (cuX σ 0) j = _
                rw [ht.1]
              rw [eP] at hpq
              have hB : b * tnP z (σ.1 0) (σ.1 (6 + j)) < 2 ^ 63 := Nat.lt_of_le_of_lt (Nat.mul_le_mul_right _ hle.2) hpq.1
              have eU : upU (sbP z (σ.1 0) (cuX σ 0)) (tbP z (σ.1 0) (cuX σ 0)) (j + 1) = upU (sbP z (σ.1 0) (cuX σ 0)) (tbP z (σ.1 0) (cuX σ 0)) j * tnP z (σ.1 0) (σ.1 (6 + j)) + snP z (σ.1 0) (σ.1 (6 + j)) * prF (tbP z (σ.1 0) (cuX σ 0)) j := by
                show _ * tbP z (σ.1 0) (cuX σ 0) j + sbP z (σ.1 0) (cuX σ 0) j * _ = _
                rw [ht.1, ht.2.1]
              have hA : a * tnP z (σ.1 0) (σ.1 (6 + j)) + snP z (σ.1 0) (σ.1 (6 + j)) * b < 2 ^ 63 := Nat.lt_of_le_of_lt (Nat.add_le_add (Nat.mul_le_mul_right _ hle.1) (Nat.mul_le_mul_left _ hle.2)) (by rw [← eU]; exact upU_63 z (σ.1 0) (cuX σ 0) (by omega))
              have hsl := (snP_eq z (σ.1 0) (σ.1 (6 + j))).2
              refine lv_aload_n C.1 C.2.1 dX11_fair_68 rfl (lv_at hl 2 rfl) ?_
              refine mw_getr C Z hP (30) 9 (65) (by decide) sx_30 rfl rfl (by decide) inX11 tw_3_8 dX11_fair_69 ?_
              refine lv_aload_n C.1 C.2.1 dX11_fair_72 rfl (lv_at hl 2 rfl) ?_
              refine mw_getr C Z hP (30) 7 (63) (by decide) sx_30 rfl rfl (by decide) inX11 tw_3_6 dX11_fair_73 ?_
              refine lv_aload_n C.1 C.2.1 dX11_fair_76 rfl (lv_at hl 2 rfl) ?_
              refine mw_getr C Z hP (30) 0 (0) (by decide) sx_30 rfl rfl (by decide) inX11 tw_2_239 dX11_fair_77 ?_
              refine lv_aload_n C.1 C.2.1 dX11_fair_80 rfl (lv_at hl 1 rfl) ?_
              refine mw_cVi (As := [.ref (mw_a E 0), .ref (mw_a E (6 + j))]) (rest := [.ref (mw_a E 65)]) C Z hP hS (63) (cX_spendsOf l E u14 (0) (by omega) (6 + j) (by omega) z ((fra.fs f16).ru (by decide) hru)) vb_X4_spendsOf tw_3_117 ⟨rfl, rfl⟩ ⟨Nat.le_of_ble_eq_true rfl, Nat.le_of_ble_eq_true rfl⟩ (by decide) sx_63 rfl rfl rfl hl.1 rfl (Nat.le_of_ble_eq_true rfl) dX11_fair_81 ⟨Nat.zero_le _, Nat.zero_le _⟩ (fun r19 u20 H locs q21 hP hS => ?_)
              obtain ⟨e23, f22⟩ := q21
              rw [(fra.fs f16).1 0 (by decide), (fra.fs f16).1 (6 + j) (by refine ⟨?_, ?_, ?_⟩ <;> omega)] at e23
              subst e23
              refine mw_top (y := nI (snP z (σ.1 0) (σ.1 (6 + j)))) ((snP_eq z (σ.1 0) (σ.1 (6 + j))).1) ?_
              refine lv_i2l C.1 C.2.1 dX11_fair_84 rfl ?_
              refine mw_topl (y := lN (snP z (σ.1 0) (σ.1 (6 + j)))) (nI_l (by omega)) ?_
              refine lv_iload C.1 C.2.1 dX11_fair_85 (lv_at hl 0 rfl) ?_
              refine lv_i2l C.1 C.2.1 dX11_fair_87 rfl ?_
              refine mw_topl (y := lN (tnP z (σ.1 0) (σ.1 (6 + j)))) (nI_l (by omega)) ?_
              refine mw_cVv (As := [.long (lN (snP z (σ.1 0) (σ.1 (6 + j)))), .long (lN (tnP z (σ.1 0) (σ.1 (6 + j))))]) (rest := []) C Z hP hS (65) (cX_plusF l E u20 a b (snP z (σ.1 0) (σ.1 (6 + j))) (tnP z (σ.1 0) (σ.1 (6 + j))) ((congrFun (congrFun (f22.2.1.trans f16.2.1) 65) 0).trans h0) ((congrFun (congrFun (f22.2.1.trans f16.2.1) 65) 1).trans h1) hA hB) vb_X2_plus tw_3_217 ⟨rfl, rfl⟩ ⟨Nat.le_of_ble_eq_true rfl, Nat.le_of_ble_eq_true rfl⟩ (by decide) sx_65 rfl rfl rfl hl.1 rfl (Nat.le_of_ble_eq_true rfl) dX11_fair_88 ⟨Nat.zero_le _, Nat.zero_le _⟩ (fun u25 H locs q26 hP hS => ?_)
              subst q26
              refine lv_iinc (v := nI (j + 1)) (lv' := [(2, .int (nI (j + 1))), (4, .int (nI (tnP z (σ.1 0) (σ.1 (6 + j))))), (3, .ref (mw_a E (6 + j))), (0, .ref (mw_a E 30)), (1, .int w)]) C.1 C.2.1 dX11_fair_91 hl (k := 4) rfl (nI_1 _) (by decide) rfl (fun ls hl => ?_)
              refine lv_goto (tgt := 22) C.1 C.2.1 dX11_fair_94 (by decide) ?_
              exact iha (j + 1) ((a * (tnP z (σ.1 0) (σ.1 (6 + j))) + (snP z (σ.1 0) (σ.1 (6 + j))) * b) / Nat.gcd (a * (tnP z (σ.1 0) (σ.1 (6 + j))) + (snP z (σ.1 0) (σ.1 (6 + j))) * b) (b * (tnP z (σ.1 0) (σ.1 (6 + j))))) (b * (tnP z (σ.1 0) (σ.1 (6 + j))) / Nat.gcd (a * (tnP z (σ.1 0) (σ.1 (6 + j))) + (snP z (σ.1 0) (σ.1 (6 + j))) * b) (b * (tnP z (σ.1 0) (σ.1 (6 + j))))) (fraM u20 (a * (tnP z (σ.1 0) (σ.1 (6 + j))) + (snP z (σ.1 0) (σ.1 (6 + j))) * b) (b * (tnP z (σ.1 0) (σ.1 (6 + j))))) _ _ (by omega) (by omega) (by rw [eU, eP]; exact hlow.plus htp) (rfl) (rfl) (((fra.fs f16).fs f22).fra _ _) hP hS ls (lv_sub hl [3, 4, 0] rfl)
    exact lpa (n + 1) 0 (0 / Nat.gcd 0 1) (1 / Nat.gcd 0 1) (fraM σ 0 1) _ _ (by omega) (by omega) (low0) (rfl) (rfl) ((xQs.rf σ).fra _ _) hP hS ls (lv_sub hl [1, 2, 0] rfl)
  · have c4 := bI_0.mp c4
    refine lv_ldc2 (own := RX11) C.1 C.2.1 C.2.2.2.1 (C.2.2.2.2 _ tw_3_205) dX11_fair_7 ?_
    exact mw_lret C hr hlk Z hP hS dX11_fair_10 (⟨by unfold fairF; rw [if_pos c4], (xQs.rf σ)⟩)

set_option maxHeartbeats 4000000 in
set_option maxRecDepth 100000 in
theorem cX_buysOne (l : Launch) (E : mw_E) (σ : mw_M) (n : Nat) (hn : σ.1 0 6 = nI n) (h8 : n ≤ 8) (z : zP) (hru : xRu σ 0 z) (w : Int32) : mw_Cl shX 75 gX l yX11_buysOne cX11_buysOne 4 (some .long) (rmF 6 177) E [.ref (mw_a E 30), .int w] σ (fun r u => r = oneF z (σ.1 0) (cuX σ 0) n w ∧ xQs σ u) := by
  refine mw_of (by decide) gX_ok (Nat.le_of_ble_eq_true rfl) ?_
  intro p_ e_ s_ m_ below meth c_ C hr hlk Z hP ls hl
  have C : CallFix p_ m_ c_ cX11_buysOne 4 s_ _ lw_good RX11 := C
  have hl : lv_has ls 4 [(0, .ref (mw_a E 30)), (1, .int w)] := hl
  have hS : va_S (mw_A 75 E) s_.heap s_.heap [] := va_S.rf
  refine lv_iload_n C.1 C.2.1 dX11_buysOne_0 rfl (lv_at hl 1 rfl) ?_
  refine mw_cSi (As := [.int w]) (rest := []) C Z hP hS (cX_is01 l E σ w) sb_X11_isZeroOrOne tw_3_202 ⟨rfl, rfl⟩ ⟨Nat.le_of_ble_eq_true rfl, Nat.le_of_ble_eq_true rfl⟩ rfl hl.1 rfl (Nat.le_of_ble_eq_true rfl) dX11_buysOne_1 ⟨Nat.zero_le _, Nat.zero_le _⟩ (fun r1 u2 H locs q3 hP hS => ?_)
  obtain ⟨rfl, q3u⟩ := q3
  rw [q3u] at hP; clear q3u
  refine lv_if_ne (tgt := 11) C.1 C.2.1 dX11_buysOne_4 (by decide) (fun c4 => ?_) (fun c4 => ?_)
  · have c4 := bI_n.mp c4
    have hw01 := c4
    refine lv_aload_n C.1 C.2.1 dX11_buysOne_11 rfl (lv_at hl 0 rfl) ?_
    refine mw_getr C Z hP (30) 9 (65) (by decide) sx_30 rfl rfl (by decide) inX11 tw_3_8 dX11_buysOne_12 ?_
    refine lv_lconst (v := 1) C.1 C.2.1 dX11_buysOne_15 (by decide) ?_
    refine lv_lconst (v := 1) C.1 C.2.1 dX11_buysOne_16 (by decide) ?_
    refine mw_cVv (As := [.long (1), .long (1)]) (rest := []) C Z hP hS (65) (cX_layF l E σ 1 1 (by decide) (by decide)) vb_X2_lay tw_3_206 ⟨rfl, rfl⟩ ⟨Nat.le_of_ble_eq_true rfl, Nat.le_of_ble_eq_true rfl⟩ (by decide) sx_65 rfl rfl rfl hl.1 rfl (Nat.le_of_ble_eq_true rfl) dX11_buysOne_17 ⟨Nat.zero_le _, Nat.zero_le _⟩ (fun u6 H locs q7 hP hS => ?_)
    subst q7
    refine lv_iconst (v := 0) C.1 C.2.1 dX11_buysOne_20 (by decide) ?_
    refine lv_istore_n (lv' := [(2, .int 0), (0, .ref (mw_a E 30)), (1, .int w)]) C.1 C.2.1 dX11_buysOne_21 rfl hl (by decide) rfl (fun ls hl => ?_)
    have lpa : ∀ (N : Nat) (j : Nat) (a : Nat) (b : Nat) (ςa : mw_M) (H : Heap) (locs : List Loc), n + 1 ≤ j + N → (j ≤ n) → (low a b (prF (t1P z (σ.1 0) (cuX σ 0)) j) (prF (tbP z (σ.1 0) (cuX σ 0)) j)) → (ςa.2.2 65 0 = lN a) → (ςa.2.2 65 1 = lN b) → xQs σ ςa → va_P (mw_D E) vwCl (mw_ws shX 75 E ςa) H → va_S (mw_A 75 E) s_.heap H locs → ∀ (ls : Array Slot), lv_has ls 4 [(0, .ref (mw_a E 30)), (1, .int w), (2, .int (nI j))] → xWl p_ l e_ (rmF 6 177) s_ m_ [.ref (mw_a E 30), .int w] below meth c_ E (fun r u => r = oneF z (σ.1 0) (cuX σ 0) n w ∧ xQs σ u) H locs (F0 m_ 22 ls []) := by
      intro N
      induction N with
      | zero => intros; exfalso; omega
      | succ N iha =>
        intro j a b ςa H locs hNa hj hlow h0 h1 fra hP hS ls hl
        refine lv_iload_n C.1 C.2.1 dX11_buysOne_22 rfl (lv_at hl 2 rfl) ?_
        refine lv_aload_n C.1 C.2.1 dX11_buysOne_23 rfl (lv_at hl 0 rfl) ?_
        refine mw_getr C Z hP (30) 0 (0) (by decide) sx_30 rfl rfl (by decide) inX11 tw_2_239 dX11_buysOne_24 ?_
        refine mw_geti C Z hP (0) 6 (by decide) sx_0 rfl rfl (by decide) inX6 tw_1_93 dX11_buysOne_27 ?_
        refine mw_top (y := nI n) ((congrFun (fra.1 0 (by decide)) _).trans hn) ?_
        refine lv_icmp_ge (tgt := 83) C.1 C.2.1 dX11_buysOne_30 (by decide) (fun c8 => ?_) (fun c8 => ?_)
        · have c8 := (nI_leI (by omega) (by omega)).mp c8
          rw [show j = n by omega] at hlow
          have hpn := prF_63 z (σ.1 0) (cuX σ 0) (n := n) h8
          have hab := hlow.ab hpn.2.1 hpn.2.2
          have hle := hlow.le hpn.2.1
          have hpl := hpn.1
          refine lv_aload_n C.1 C.2.1 dX11_buysOne_83 rfl (lv_at hl 0 rfl) ?_
          refine mw_getr C Z hP (30) 9 (65) (by decide) sx_30 rfl rfl (by decide) inX11 tw_3_8 dX11_buysOne_84 ?_
          refine lv_aload_n C.1 C.2.1 dX11_buysOne_87 rfl (lv_at hl 0 rfl) ?_
          refine mw_getr C Z hP (30) 9 (65) (by decide) sx_30 rfl rfl (by decide) inX11 tw_3_8 dX11_buysOne_88 ?_
          refine mw_getl C Z hP (65) 1 (by decide) sx_65 rfl rfl (by decide) inX2 tw_1_235 dX11_buysOne_91 ?_
          refine mw_topl (y := lN b) (h1) ?_
          refine lv_aload_n C.1 C.2.1 dX11_buysOne_94 rfl (lv_at hl 0 rfl) ?_
          refine mw_getr C Z hP (30) 9 (65) (by decide) sx_30 rfl rfl (by decide) inX11 tw_3_8 dX11_buysOne_95 ?_
          refine mw_getl C Z hP (65) 0 (by decide) sx_65 rfl rfl (by decide) inX2 tw_1_233 dX11_buysOne_98 ?_
          refine mw_topl (y := lN a) (h0) ?_
          refine lv_lsub C.1 C.2.1 dX11_buysOne_101 ?_
          refine mw_topl (y := lN (b - a)) (lN_sub hab) ?_
          refine lv_aload_n C.1 C.2.1 dX11_buysOne_102 rfl (lv_at hl 0 rfl) ?_
          refine mw_getr C Z hP (30) 9 (65) (by decide) sx_30 rfl rfl (by decide) inX11 tw_3_8 dX11_buysOne_103 ?_
          refine mw_getl C Z hP (65) 1 (by decide) sx_65 rfl rfl (by decide) inX2 tw_1_235 dX11_buysOne_106 ?_
          refine mw_topl (y := lN b) (h1) ?_
          refine mw_cVv (As := [.long (lN (b - a)), .long (lN b)]) (rest := []) C Z hP hS (65) (cX_layF l E ςa (b - a) b (by omega) (by omega)) vb_X2_lay tw_3_206 ⟨rfl, rfl⟩ ⟨Nat.le_of_ble_eq_true rfl, Nat.le_of_ble_eq_true rfl⟩ (by decide) sx_65 rfl rfl rfl hl.1 rfl (Nat.le_of_ble_eq_true rfl) dX11_buysOne_109 ⟨Nat.zero_le _, Nat.zero_le _⟩ (fun u10 H locs q11 hP hS => ?_)
          subst q11
          refine lv_aload_n C.1 C.2.1 dX11_buysOne_112 rfl (lv_at hl 0 rfl) ?_
          refine mw_getr C Z hP (30) 9 (65) (by decide) sx_30 rfl rfl (by decide) inX11 tw_3_8 dX11_buysOne_113 ?_
          refine lv_iload_n C.1 C.2.1 dX11_buysOne_116 rfl (lv_at hl 1 rfl) ?_
          refine mw_cVl (As := [.int w]) (rest := []) C Z hP hS (65) (cX_part l E (fraM ςa (b - a) b) w) vb_X2_part tw_3_222 ⟨rfl, rfl⟩ ⟨Nat.le_of_ble_eq_true rfl, Nat.le_of_ble_eq_true rfl⟩ (by decide) sx_65 rfl rfl rfl hl.1 rfl (Nat.le_of_ble_eq_true rfl) dX11_buysOne_117 ⟨Nat.zero_le _, Nat.zero_le _⟩ (fun r12 u13 H locs q14 hP hS => ?_)
          obtain ⟨rfl, q14u⟩ := q14
          rw [q14u] at hP; clear q14u
          have hlo := low_one hlow hpn.2.1
          exact mw_lret C hr hlk Z hP hS dX11_buysOne_120 (⟨by unfold oneF; rw [if_neg (c := ¬ (0 ≤ w.toInt ∧ w.toInt ≤ 1)) (fun y => y hw01), ← hlo.1, ← hlo.2]; rfl, fra.fra _ _⟩)
        · have c8 : _ := (not_congr (nI_leI (by omega) (by omega))).mp c8
          refine lv_iload_n C.1 C.2.1 dX11_buysOne_33 rfl (lv_at hl 2 rfl) ?_
          refine lv_bipush (v := 8) C.1 C.2.1 dX11_buysOne_34 (by decide) ?_
          refine lv_icmp_ge (tgt := 83) C.1 C.2.1 dX11_buysOne_36 (by decide) (fun c15 => ?_) (fun c15 => ?_)
          · exact absurd ((nI_leI (a := 8) (by decide) (by omega)).mp c15) (by omega)
          · refine lv_aload_n C.1 C.2.1 dX11_buysOne_39 rfl (lv_at hl 0 rfl) ?_
            refine mw_getr C Z hP (30) 7 (63) (by decide) sx_30 rfl rfl (by decide) inX11 tw_3_6 dX11_buysOne_40 ?_
            refine lv_aload_n C.1 C.2.1 dX11_buysOne_43 rfl (lv_at hl 0 rfl) ?_
            refine mw_getr C Z hP (30) 0 (0) (by decide) sx_30 rfl rfl (by decide) inX11 tw_2_239 dX11_buysOne_44 ?_
            refine lv_aload_n C.1 C.2.1 dX11_buysOne_47 rfl (lv_at hl 0 rfl) ?_
            refine mw_getr C Z hP (30) 0 (0) (by decide) sx_30 rfl rfl (by decide) inX11 tw_2_239 dX11_buysOne_48 ?_
            refine mw_getr C Z hP (0) 7 (3) (by decide) sx_0 rfl rfl (by decide) inX6 tw_1_96 dX11_buysOne_51 ?_
            refine lv_iload_n C.1 C.2.1 dX11_buysOne_54 rfl (lv_at hl 2 rfl) ?_
            refine mw_aald C Z hP (3) (j) (by decide) sx_3 (by decide) rfl (Nat.lt_of_lt_of_le (by decide : 8 < 961) (Nat.le_of_ble_eq_true rfl)) rfl (by omega) dX11_buysOne_55 ?_
            refine mw_cVi (As := [.ref (mw_a E 0), .ref (mw_a E (6 + j))]) (rest := []) C Z hP hS (63) (cX_triesIfThere l E ςa (0) (by omega) (6 + j) (by omega) z (fra.ru (by decide) hru)) vb_X4_triesIfThere tw_3_213 ⟨rfl, rfl⟩ ⟨Nat.le_of_ble_eq_true rfl, Nat.le_of_ble_eq_true rfl⟩ (by decide) sx_63 rfl rfl rfl hl.1 rfl (Nat.le_of_ble_eq_true rfl) dX11_buysOne_56 ⟨Nat.zero_le _, Nat.zero_le _⟩ (fun r16 u17 H locs q18 hP hS => ?_)
            obtain ⟨e20, f19⟩ := q18
            rw [fra.1 0 (by decide), fra.1 (6 + j) (by refine ⟨?_, ?_, ?_⟩ <;> omega)] at e20
            subst e20
            refine lv_istore_n (lv' := [(3, .int (trthP z (σ.1 0) (σ.1 (6 + j)))), (0, .ref (mw_a E 30)), (1, .int w), (2, .int (nI j))]) C.1 C.2.1 dX11_buysOne_59 rfl hl (by decide) rfl (fun ls hl => ?_)
            refine lv_iload_n C.1 C.2.1 dX11_buysOne_60 rfl (lv_at hl 0 rfl) ?_
            refine lv_if_le (tgt := 77) C.1 C.2.1 dX11_buysOne_61 (by decide) (fun c21 => ?_) (fun c21 => ?_)
            · have hbn := tbP_f (cu := cuX σ 0) (p := j) (trth_no c21)
              refine lv_iinc (v := nI (j + 1)) (lv' := [(2, .int (nI (j + 1))), (3, .int (trthP z (σ.1 0) (σ.1 (6 + j)))), (0, .ref (mw_a E 30)), (1, .int w)]) C.1 C.2.1 dX11_buysOne_77 hl (k := 3) rfl (nI_1 _) (by decide) rfl (fun ls hl => ?_)
              refine lv_goto (tgt := 22) C.1 C.2.1 dX11_buysOne_80 (by decide) ?_
              exact iha (j + 1) a b u17 _ _ (by omega) (by omega) (by show low a b (_ * t1P z (σ.1 0) (cuX σ 0) j) (_ * tbP z (σ.1 0) (cuX σ 0) j); rw [hbn.1, hbn.2.2, Nat.mul_one, Nat.mul_one]; exact hlow) ((congrFun (congrFun f19.2.1 65) 0).trans h0) ((congrFun (congrFun f19.2.1 65) 1).trans h1) (fra.fs f19) hP hS ls (lv_sub hl [2, 3, 0] rfl)
            · obtain ⟨hby, etr⟩ := trth_yes c21
              have hby : buysP z (σ.1 0) (cuX σ 0 j) := hby
              rw [etr] at hl
              have ht := tbP_t (cu := cuX σ 0) (p := j) hby
              have htp : 0 < tnP z (σ.1 0) (σ.1 (6 + j)) := buysP_pos hby
              have hpp := prF_63 z (σ.1 0) (cuX σ 0) (n := j) (by omega)
              have hpq := prF_63 z (σ.1 0) (cuX σ 0) (n := j + 1) (by omega)
              have hle := hlow.le hpp.2.1
              have htl := (tnP_eq z (σ.1 0) (σ.1 (6 + j))).2
              have eP : prF (tbP z (σ.1 0) (cuX σ 0)) (j + 1) = prF (tbP z (σ.1 0) (cuX σ 0)) j * tnP z (σ.1 0) (σ.1 (6 + j)) := by
                show _ * tbP z (σ.1 0) (cuX σ 0) j = _
                rw [ht.1]
              rw [eP] at hpq
              have hB : b * tnP z (σ.1 0) (σ.1 (6 + j)) < 2 ^ 63 := Nat.lt_of_le_of_lt (Nat.mul_le_mul_right _ hle.2) hpq.1
              have eU : prF (t1P z (σ.1 0) (cuX σ 0)) (j + 1) = prF (t1P z (σ.1 0) (cuX σ 0)) j * (tnP z (σ.1 0) (σ.1 (6 + j)) - 1) := by
                show _ * t1P z (σ.1 0) (cuX σ 0) j = _
                rw [ht.2.2]
              have hA : a * (tnP z (σ.1 0) (σ.1 (6 + j)) - 1) < 2 ^ 63 := Nat.lt_of_le_of_lt (Nat.mul_le_mul_right _ hle.1) (by rw [← eU]; exact Nat.lt_of_le_of_lt hpq.2.2 hpq.1)
              refine lv_aload_n C.1 C.2.1 dX11_buysOne_64 rfl (lv_at hl 1 rfl) ?_
              refine mw_getr C Z hP (30) 9 (65) (by decide) sx_30 rfl rfl (by decide) inX11 tw_3_8 dX11_buysOne_65 ?_
              refine lv_iload_n C.1 C.2.1 dX11_buysOne_68 rfl (lv_at hl 0 rfl) ?_
              refine lv_iconst (v := 1) C.1 C.2.1 dX11_buysOne_69 (by decide) ?_
              refine lv_isub C.1 C.2.1 dX11_buysOne_70 ?_
              refine mw_top (y := nI (tnP z (σ.1 0) (σ.1 (6 + j)) - 1)) (pk_sub (b := 1) (by omega)) ?_
              refine lv_i2l C.1 C.2.1 dX11_buysOne_71 rfl ?_
              refine mw_topl (y := lN (tnP z (σ.1 0) (σ.1 (6 + j)) - 1)) (nI_l (by omega)) ?_
              refine lv_iload_n C.1 C.2.1 dX11_buysOne_72 rfl (lv_at hl 0 rfl) ?_
              refine lv_i2l C.1 C.2.1 dX11_buysOne_73 rfl ?_
              refine mw_topl (y := lN (tnP z (σ.1 0) (σ.1 (6 + j)))) (nI_l (by omega)) ?_
              refine mw_cVv (As := [.long (lN (tnP z (σ.1 0) (σ.1 (6 + j)) - 1)), .long (lN (tnP z (σ.1 0) (σ.1 (6 + j))))]) (rest := []) C Z hP hS (65) (cX_timesF l E u17 a b (tnP z (σ.1 0) (σ.1 (6 + j)) - 1) (tnP z (σ.1 0) (σ.1 (6 + j))) ((congrFun (congrFun f19.2.1 65) 0).trans h0) ((congrFun (congrFun f19.2.1 65) 1).trans h1) hA hB) vb_X2_times tw_3_230 ⟨rfl, rfl⟩ ⟨Nat.le_of_ble_eq_true rfl, Nat.le_of_ble_eq_true rfl⟩ (by decide) sx_65 rfl rfl rfl hl.1 rfl (Nat.le_of_ble_eq_true rfl) dX11_buysOne_74 ⟨Nat.zero_le _, Nat.zero_le _⟩ (fun u23 H locs q24 hP hS => ?_)
              subst q24
              refine lv_iinc (v := nI (j + 1)) (lv' := [(2, .int (nI (j + 1))), (3, .int (nI (tnP z (σ.1 0) (σ.1 (6 + j))))), (0, .ref (mw_a E 30)), (1, .int w)]) C.1 C.2.1 dX11_buysOne_77 hl (k := 3) rfl (nI_1 _) (by decide) rfl (fun ls hl => ?_)
              refine lv_goto (tgt := 22) C.1 C.2.1 dX11_buysOne_80 (by decide) ?_
              exact iha (j + 1) ((a * (tnP z (σ.1 0) (σ.1 (6 + j)) - 1)) / Nat.gcd (a * (tnP z (σ.1 0) (σ.1 (6 + j)) - 1)) (b * (tnP z (σ.1 0) (σ.1 (6 + j))))) (b * (tnP z (σ.1 0) (σ.1 (6 + j))) / Nat.gcd (a * (tnP z (σ.1 0) (σ.1 (6 + j)) - 1)) (b * (tnP z (σ.1 0) (σ.1 (6 + j))))) (fraM u17 (a * (tnP z (σ.1 0) (σ.1 (6 + j)) - 1)) (b * (tnP z (σ.1 0) (σ.1 (6 + j))))) _ _ (by omega) (by omega) (by rw [eU, eP]; exact hlow.times htp) (rfl) (rfl) ((fra.fs f19).fra _ _) hP hS ls (lv_sub hl [2, 3, 0] rfl)
    exact lpa (n + 1) 0 (1 / Nat.gcd 1 1) (1 / Nat.gcd 1 1) (fraM σ 1 1) _ _ (by omega) (by omega) (low1) (rfl) (rfl) ((xQs.rf σ).fra _ _) hP hS ls (lv_sub hl [1, 2, 0] rfl)
  · have c4 := bI_0.mp c4
    refine lv_ldc2 (own := RX11) C.1 C.2.1 C.2.2.2.1 (C.2.2.2.2 _ tw_3_205) dX11_buysOne_7 ?_
    exact mw_lret C hr hlk Z hP hS dX11_buysOne_10 (⟨by unfold oneF; rw [if_pos c4], (xQs.rf σ)⟩)
