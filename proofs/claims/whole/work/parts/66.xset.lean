/-! THE CLASS: TAKEN, SET, FEED, FORCE, IMAGE, BACK, SELL -/
theorem under_ov : ∀ w : Fin 6, (xTs 2).2.getD w.val 0 = overF (nI w.val) := by decide
theorem set_lo : ∀ w : Fin 8, (xTs 0).2.getD w.val 0 = leastF (nI w.val) := by decide
theorem set_hi : ∀ w : Fin 8, (xTs 1).2.getD w.val 0 = mostF (nI w.val) := by decide

theorem ov_rng {w : Nat} (h : w ≤ 5) : overF (nI w) = -1 ∨ ∃ v : Nat, v ≤ 5 ∧ overF (nI w) = nI v := by
  have : ∀ w : Fin 6, overF (nI w.val) = -1 ∨ overF (nI w.val) = nI 0 ∨ overF (nI w.val) = nI 1 ∨ overF (nI w.val) = nI 2 := by decide
  rcases this ⟨w, by omega⟩ with e | e | e | e
  · exact Or.inl e
  · exact Or.inr ⟨0, by decide, e⟩
  · exact Or.inr ⟨1, by decide, e⟩
  · exact Or.inr ⟨2, by decide, e⟩
theorem ov_D {w : Nat} (h : w ≤ 5) : upD (overF (nI w)) + 1 ≤ upD (nI w) := (by decide : ∀ w : Fin 6, upD (overF (nI w.val)) + 1 ≤ upD (nI w.val)) ⟨w, by omega⟩
theorem ov_1 {w : Nat} (h : w ≤ 5) : 1 ≤ upD (nI w) := (by decide : ∀ w : Fin 6, 1 ≤ upD (nI w.val)) ⟨w, by omega⟩
theorem upF_m (d : Nat) (k : Int32) : upF d (-1) k = -1 := by
  cases d
  · rfl
  · show (if _ then _ else _) = _
    rw [if_pos rfl]
theorem upF_k (d : Nat) (k : Int32) : upF d k k = k := by
  cases d
  · rfl
  · show (if _ then _ else _) = _
    split
    · rfl
    · rw [if_pos rfl]

set_option maxHeartbeats 4000000 in
set_option maxRecDepth 100000 in
theorem cX_isUnder (l : Launch) (E : mw_E) (σ : mw_M) (x k : Int32) (w0 : Nat) (hw0 : w0 ≤ 5) (ex : x = nI w0) (hk0 : 0 ≤ k.toInt) : mw_Ci shX 75 gX l yX11_isUnder cX11_isUnder 4 (some .boolean) (rmF 1 64) E [.int x, .int k] σ (fun r u => r = bI (upF 4 x k = k) ∧ u = σ) := by
  refine mw_of (by decide) gX_ok (Nat.le_of_ble_eq_true rfl) ?_
  intro p_ e_ s_ m_ below meth c_ C hr hlk Z hP ls hl
  have C : CallFix p_ m_ c_ cX11_isUnder 4 s_ _ lw_good RX11 := C
  have hl : lv_has ls 4 [(0, .int x), (1, .int k)] := hl
  have hS : va_S (mw_A 75 E) s_.heap s_.heap [] := va_S.rf
  refine lv_iload_n C.1 C.2.1 dX11_isUnder_0 rfl (lv_at hl 0 rfl) ?_
  refine lv_istore_n (lv' := [(2, .int x), (0, .int x), (1, .int k)]) C.1 C.2.1 dX11_isUnder_1 rfl hl (by decide) rfl (fun ls hl => ?_)
  refine lv_iconst (v := 0) C.1 C.2.1 dX11_isUnder_2 (by decide) ?_
  refine lv_istore_n (lv' := [(3, .int 0), (2, .int x), (0, .int x), (1, .int k)]) C.1 C.2.1 dX11_isUnder_3 rfl hl (by decide) rfl (fun ls hl => ?_)
  have lpa : ∀ (N : Nat) (t : Nat) (d : Nat) (y : Int32) (H : Heap) (locs : List Loc), 7 ≤ t + N → (d + t = 4) → (y = -1 ∨ ∃ w : Nat, w ≤ 5 ∧ y = nI w) → (upD y ≤ d) → (upF 4 x k = k ↔ upF d y k = k) → va_P (mw_D E) vwCl (mw_ws shX 75 E σ) H → va_S (mw_A 75 E) s_.heap H locs → ∀ (ls : Array Slot), lv_has ls 4 [(0, .int x), (1, .int k), (2, .int y), (3, .int (nI t))] → xWi p_ l e_ (rmF 1 64) s_ m_ [.int x, .int k] below meth c_ E (fun r u => r = bI (upF 4 x k = k) ∧ u = σ) H locs (F0 m_ 4 ls []) := by
    intro N
    induction N with
    | zero => intros; exfalso; omega
    | succ N iha =>
      intro t d y H locs hNa ht hy hd hup hP hS ls hl
      refine lv_iload_n C.1 C.2.1 dX11_isUnder_4 rfl (lv_at hl 3 rfl) ?_
      refine xw_gets C Z hS 2 (by decide) tw_4_153 dX11_isUnder_5 ?_
      refine xw_tlen C Z hS 2 (by decide) (v := 6) rfl dX11_isUnder_8 ?_
      refine lv_icmp_ge (tgt := 43) C.1 C.2.1 dX11_isUnder_9 (by decide) (fun c1 => ?_) (fun c1 => ?_)
      · refine lv_iconst (v := 0) C.1 C.2.1 dX11_isUnder_43 (by decide) ?_
        exact absurd ((nI_leI (a := 6) (by decide) (by omega)).mp c1) (by omega)
      · refine lv_iload_n C.1 C.2.1 dX11_isUnder_12 rfl (lv_at hl 2 rfl) ?_
        refine lv_if_lt (tgt := 43) C.1 C.2.1 dX11_isUnder_13 (by decide) (fun c2 => ?_) (fun c2 => ?_)
        · refine lv_iconst (v := 0) C.1 C.2.1 dX11_isUnder_43 (by decide) ?_
          have em : y = -1 := by
            rcases hy with e | ⟨w, hw, e⟩
            · exact e
            · rw [e] at c2; exact absurd c2 (nI_pos (by omega))
          exact mw_zret C hr hlk Z hP hS rfl dX11_isUnder_44 (⟨(bI_f (fun q => by have q := hup.mp q; rw [em, upF_m] at q; have := hk0; rw [← q] at this; exact absurd this (by decide))).symm, rfl⟩)
        · refine lv_iload_n C.1 C.2.1 dX11_isUnder_16 rfl (lv_at hl 2 rfl) ?_
          refine xw_gets C Z hS 2 (by decide) tw_4_153 dX11_isUnder_17 ?_
          refine xw_tlen C Z hS 2 (by decide) (v := 6) rfl dX11_isUnder_20 ?_
          refine lv_icmp_ge (tgt := 43) C.1 C.2.1 dX11_isUnder_21 (by decide) (fun c3 => ?_) (fun c3 => ?_)
          · refine lv_iconst (v := 0) C.1 C.2.1 dX11_isUnder_43 (by decide) ?_
            rcases hy with e | ⟨w, hw, e⟩
            · rw [e] at c2; exact absurd (by decide) c2
            · rw [e] at c3; exact absurd ((nI_leI (a := 6) (by decide) (by omega)).mp c3) (by omega)
          · refine lv_iload_n C.1 C.2.1 dX11_isUnder_24 rfl (lv_at hl 2 rfl) ?_
            refine lv_iload_n C.1 C.2.1 dX11_isUnder_25 rfl (lv_at hl 1 rfl) ?_
            refine lv_icmp_ne (tgt := 31) C.1 C.2.1 dX11_isUnder_26 (by decide) (fun c4 => ?_) (fun c4 => ?_)
            · obtain ⟨w, hw, ey⟩ : ∃ w : Nat, w ≤ 5 ∧ y = nI w := hy.resolve_left (fun e => by rw [e] at c2; exact absurd (by decide) c2)
              subst ey
              obtain ⟨dd, ed⟩ : ∃ dd, d = dd + 1 := ⟨d - 1, by have := ov_1 hw; omega⟩
              subst ed
              refine xw_gets C Z hS 2 (by decide) tw_4_153 dX11_isUnder_31 ?_
              refine lv_iload_n C.1 C.2.1 dX11_isUnder_34 rfl (lv_at hl 2 rfl) ?_
              refine xw_tld C Z hS 2 (w) (by decide) rfl (by show _ < 6; exact (by omega)) (by decide) dX11_isUnder_35 ?_
              refine mw_top (y := overF (nI w)) (under_ov ⟨w, by omega⟩) ?_
              refine lv_istore_n (lv' := [(2, .int (overF (nI w))), (0, .int x), (1, .int k), (3, .int (nI t))]) C.1 C.2.1 dX11_isUnder_36 rfl hl (by decide) rfl (fun ls hl => ?_)
              refine lv_iinc (v := nI (t + 1)) (lv' := [(3, .int (nI (t + 1))), (2, .int (overF (nI w))), (0, .int x), (1, .int k)]) C.1 C.2.1 dX11_isUnder_37 hl (k := 3) rfl (nI_1 _) (by decide) rfl (fun ls hl => ?_)
              refine lv_goto (tgt := 4) C.1 C.2.1 dX11_isUnder_40 (by decide) ?_
              exact iha (t + 1) dd (overF (nI w)) _ _ (by omega) (by omega) (ov_rng hw) (by have := ov_D hw; omega) (hup.trans (by show (if _ then _ else _) = k ↔ _; rw [if_neg (nI_nm1 (by omega)), if_neg c4])) hP hS ls (lv_sub hl [2, 3, 1, 0] rfl)
            · refine lv_iconst (v := 1) C.1 C.2.1 dX11_isUnder_29 (by decide) ?_
              exact mw_zret C hr hlk Z hP hS rfl dX11_isUnder_30 (⟨(bI_t (hup.mpr (by rw [c4]; exact upF_k d k))).symm, rfl⟩)
  exact lpa (7) 0 4 x _ _ (by omega) (by omega) (Or.inr ⟨w0, hw0, ex⟩) (by rw [ex]; exact (by decide : ∀ w : Fin 6, upD (nI w.val) ≤ 4) ⟨w0, by omega⟩) (Iff.rfl) hP hS ls (lv_sub hl [2, 3, 1, 0] rfl)

set_option maxHeartbeats 4000000 in
set_option maxRecDepth 100000 in
theorem cX_taken (l : Launch) (E : mw_E) (σ : mw_M) (n : Nat) (hn : σ.1 0 6 = nI n) (h8 : n ≤ 8) (hks : ∀ p, p < n → 0 ≤ (cuX σ 0 p 0).toInt ∧ (cuX σ 0 p 0).toInt ≤ 5) (oo kk : Int32) : mw_Ci shX 75 gX l yX11_taken cX11_taken 4 (some .int) (rmF 2 87) E [.ref (mw_a E 30), .int oo, .int kk] σ (fun r u => r = takenF (cuX σ 0) n oo kk ∧ xQs σ u) := by
  refine mw_of (by decide) gX_ok (Nat.le_of_ble_eq_true rfl) ?_
  intro p_ e_ s_ m_ below meth c_ C hr hlk Z hP ls hl
  have C : CallFix p_ m_ c_ cX11_taken 4 s_ _ lw_good RX11 := C
  have hl : lv_has ls 4 [(0, .ref (mw_a E 30)), (1, .int oo), (2, .int kk)] := hl
  have hS : va_S (mw_A 75 E) s_.heap s_.heap [] := va_S.rf
  refine lv_iload_n C.1 C.2.1 dX11_taken_0 rfl (lv_at hl 2 rfl) ?_
  refine lv_iconst (v := 0) C.1 C.2.1 dX11_taken_1 (by decide) ?_
  refine lv_iconst (v := 5) C.1 C.2.1 dX11_taken_2 (by decide) ?_
  refine mw_cSi (As := [.int kk, .int 0, .int 5]) (rest := []) C Z hP hS (cX_isWithin2 l E σ kk (0 : Int32) (5 : Int32) (0 ≤ kk.toInt ∧ kk.toInt ≤ 5) Iff.rfl) sb_X11_isWithin tw_3_42 ⟨rfl, rfl⟩ ⟨Nat.le_of_ble_eq_true rfl, Nat.le_of_ble_eq_true rfl⟩ rfl hl.1 rfl (Nat.le_of_ble_eq_true rfl) dX11_taken_3 ⟨Nat.zero_le _, Nat.zero_le _⟩ (fun r1 u2 H locs q3 hP hS => ?_)
  obtain ⟨rfl, q3u⟩ := q3
  rw [q3u] at hP; clear q3u
  refine lv_if_ne (tgt := 12) C.1 C.2.1 dX11_taken_6 (by decide) (fun c4 => ?_) (fun c4 => ?_)
  · have c4 := bI_n.mp c4
    have hrk := c4
    refine lv_aload_n C.1 C.2.1 dX11_taken_12 rfl (lv_at hl 0 rfl) ?_
    refine mw_getr C Z hP (30) 0 (0) (by decide) sx_30 rfl rfl (by decide) inX11 tw_2_239 dX11_taken_13 ?_
    refine lv_iload_n C.1 C.2.1 dX11_taken_16 rfl (lv_at hl 1 rfl) ?_
    refine mw_cVi (As := [.int oo]) (rest := []) C Z hP hS (0) (cX_hasS l E σ 0 (by decide) n hn h8 oo) vb_X6_has tw_3_53 ⟨rfl, rfl⟩ ⟨Nat.le_of_ble_eq_true rfl, Nat.le_of_ble_eq_true rfl⟩ (by decide) sx_0 rfl rfl rfl hl.1 rfl (Nat.le_of_ble_eq_true rfl) dX11_taken_17 ⟨Nat.zero_le _, Nat.zero_le _⟩ (fun r5 u6 H locs q7 hP hS => ?_)
    obtain ⟨rfl, q7u⟩ := q7
    rw [q7u] at hP; clear q7u
    refine lv_if_ne (tgt := 26) C.1 C.2.1 dX11_taken_20 (by decide) (fun c8 => ?_) (fun c8 => ?_)
    · have c8 := bI_n.mp c8
      have hhas := c8
      obtain ⟨q, hq8, eq0⟩ := nI_ofI (k := 8) hhas.1 (by omega)
      have hqn : q < n := by have y := hhas.2; rw [eq0, nI_toInt (by omega)] at y; omega
      have hq : q < 8 := by omega
      subst eq0
      have eq : (nI q).toNatClampNeg = q := nI_clamp (by omega)
      obtain ⟨w0, hw0, ew0⟩ := nI_ofI (k := 5) (hks q hqn).1 (hks q hqn).2
      refine lv_aload_n C.1 C.2.1 dX11_taken_26 rfl (lv_at hl 0 rfl) ?_
      refine mw_getr C Z hP (30) 0 (0) (by decide) sx_30 rfl rfl (by decide) inX11 tw_2_239 dX11_taken_27 ?_
      refine mw_getr C Z hP (0) 7 (3) (by decide) sx_0 rfl rfl (by decide) inX6 tw_1_96 dX11_taken_30 ?_
      refine lv_iload_n C.1 C.2.1 dX11_taken_33 rfl (lv_at hl 1 rfl) ?_
      refine mw_aald C Z hP (3) (q) (by decide) sx_3 (by decide) rfl (Nat.lt_of_lt_of_le (by decide : 8 < 961) (Nat.le_of_ble_eq_true rfl)) rfl (by omega) dX11_taken_34 ?_
      refine lv_astore_n (lv' := [(3, .ref (mw_a E (6 + q))), (0, .ref (mw_a E 30)), (1, .int (nI q)), (2, .int kk)]) C.1 C.2.1 dX11_taken_35 rfl hl (by decide) rfl (fun ls hl => ?_)
      refine lv_aload_n C.1 C.2.1 dX11_taken_36 rfl (lv_at hl 0 rfl) ?_
      refine mw_geti C Z hP (6 + q) 0 (by omega) (sx_cu (by omega) (by omega)) rfl rfl (by decide) inX1 tw_1_45 dX11_taken_37 ?_
      refine lv_iload_n C.1 C.2.1 dX11_taken_40 rfl (lv_at hl 3 rfl) ?_
      refine mw_cSi (As := [.int (σ.1 (6 + q) 0), .int kk]) (rest := []) C Z hP hS (cX_isUnder l E σ (σ.1 (6 + q) 0) kk w0 hw0 ew0 hrk.1) sb_X11_isUnder tw_4_150 ⟨rfl, rfl⟩ ⟨Nat.le_of_ble_eq_true rfl, Nat.le_of_ble_eq_true rfl⟩ rfl hl.1 rfl (Nat.le_of_ble_eq_true rfl) dX11_taken_41 ⟨Nat.zero_le _, Nat.zero_le _⟩ (fun r9 u10 H locs q11 hP hS => ?_)
      obtain ⟨rfl, q11u⟩ := q11
      rw [q11u] at hP; clear q11u
      refine lv_if_eq (tgt := 54) C.1 C.2.1 dX11_taken_44 (by decide) (fun c12 => ?_) (fun c12 => ?_)
      · have c12 := bI_0.mp c12
        refine lv_bipush (v := -13) C.1 C.2.1 dX11_taken_54 (by decide) ?_
        exact mw_iret C hr hlk Z hP hS dX11_taken_56 (⟨by unfold takenF; rw [if_neg (Decidable.not_not.mpr hrk), if_neg (Decidable.not_not.mpr hhas), eq, if_neg c12], (xQs.rf σ)⟩)
      · have c12 := bI_n.mp c12
        refine lv_aload_n C.1 C.2.1 dX11_taken_47 rfl (lv_at hl 0 rfl) ?_
        refine mw_geti C Z hP (6 + q) 1 (by omega) (sx_cu (by omega) (by omega)) rfl rfl (by decide) inX1 tw_1_49 dX11_taken_48 ?_
        refine lv_goto (tgt := 56) C.1 C.2.1 dX11_taken_51 (by decide) ?_
        exact mw_iret C hr hlk Z hP hS dX11_taken_56 (⟨by unfold takenF; rw [if_neg (Decidable.not_not.mpr hrk), if_neg (Decidable.not_not.mpr hhas), eq, if_pos c12], (xQs.rf σ)⟩)
    · have c8 := bI_0.mp c8
      refine lv_bipush (v := -11) C.1 C.2.1 dX11_taken_23 (by decide) ?_
      exact mw_iret C hr hlk Z hP hS dX11_taken_25 (⟨by unfold takenF; rw [if_neg (Decidable.not_not.mpr hrk), if_pos c8], (xQs.rf σ)⟩)
  · have c4 := bI_0.mp c4
    refine lv_bipush (v := -2) C.1 C.2.1 dX11_taken_9 (by decide) ?_
    exact mw_iret C hr hlk Z hP hS dX11_taken_11 (⟨by unfold takenF; rw [if_pos c4], (xQs.rf σ)⟩)

def xsetM (σ : mw_M) (k p : Nat) (v : Int32) : mw_M := if k < 5 then mw_si σ 0 k v else mw_si σ (6 + p) (k - 4) v
def xsetW (σ : mw_M) (k p : Nat) : Int32 := if k < 5 then σ.1 0 k else σ.1 (6 + p) (k - 4)
theorem layM_at (σ : mw_M) (cp : Nat) {k : Nat} (v : Int32) (h : 5 ≤ k ∧ k ≤ 7) : layM σ cp k v = mw_si σ cp (k - 4) v := by
  have : k = 5 ∨ k = 6 ∨ k = 7 := by omega
  rcases this with rfl | rfl | rfl <;> rfl
theorem cuRd_at (c : Nat → Int32) {k : Nat} (h : 5 ≤ k ∧ k ≤ 7) : cuRd c k = c (k - 4) := by
  have : k = 5 ∨ k = 6 ∨ k = 7 := by omega
  rcases this with rfl | rfl | rfl <;> rfl

set_option maxHeartbeats 4000000 in
set_option maxRecDepth 100000 in
theorem cX_set (l : Launch) (E : mw_E) (σ : mw_M) (n : Nat) (hn : σ.1 0 6 = nI n) (h8 : n ≤ 8) (ww oo vv : Int32) : mw_Ci shX 75 gX l yX11_set cX11_set 5 (some .int) (rmF 2 86) E [.ref (mw_a E 30), .int ww, .int oo, .int vv] σ (fun r u => (¬ setOK n ww oo vv → r = -2 ∧ u = σ) ∧ (setOK n ww oo vv → r = xsetW σ ww.toNatClampNeg oo.toNatClampNeg ∧ u = xsetM σ ww.toNatClampNeg oo.toNatClampNeg vv)) := by
  refine mw_of (by decide) gX_ok (Nat.le_of_ble_eq_true rfl) ?_
  intro p_ e_ s_ m_ below meth c_ C hr hlk Z hP ls hl
  have C : CallFix p_ m_ c_ cX11_set 5 s_ _ lw_good RX11 := C
  have hl : lv_has ls 5 [(0, .ref (mw_a E 30)), (1, .int ww), (2, .int oo), (3, .int vv)] := hl
  have hS : va_S (mw_A 75 E) s_.heap s_.heap [] := va_S.rf
  refine lv_iload_n C.1 C.2.1 dX11_set_0 rfl (lv_at hl 1 rfl) ?_
  refine lv_if_lt (tgt := 27) C.1 C.2.1 dX11_set_1 (by decide) (fun c1 => ?_) (fun c1 => ?_)
  · refine lv_bipush (v := -2) C.1 C.2.1 dX11_set_27 (by decide) ?_
    exact mw_iret C hr hlk Z hP hS dX11_set_29 (⟨fun _ => ⟨rfl, rfl⟩, fun y => absurd y (fun y => by have z := (ni_lt _ _).mp c1; have q := zero32; have := y.1.1; omega)⟩)
  · refine lv_iload_n C.1 C.2.1 dX11_set_4 rfl (lv_at hl 1 rfl) ?_
    refine lv_bipush (v := 7) C.1 C.2.1 dX11_set_5 (by decide) ?_
    refine lv_icmp_gt (tgt := 27) C.1 C.2.1 dX11_set_7 (by decide) (fun c2 => ?_) (fun c2 => ?_)
    · refine lv_bipush (v := -2) C.1 C.2.1 dX11_set_27 (by decide) ?_
      exact mw_iret C hr hlk Z hP hS dX11_set_29 (⟨fun _ => ⟨rfl, rfl⟩, fun y => absurd y (fun y => by have z := (ni_lt _ _).mp c2; have q : (7 : Int32).toInt = 7 := rfl; have := y.1.2; omega)⟩)
    · have hw0 : 0 ≤ ww.toInt := by have y := (not_congr (ni_lt _ _)).mp c1; have q := zero32; omega
      have hw7 : ww.toInt ≤ 7 := by have y := (not_congr (ni_lt _ _)).mp c2; have q : (7 : Int32).toInt = 7 := rfl; omega
      obtain ⟨k, hk, ek0⟩ := nI_ofI (k := 7) (hw0) (hw7)
      subst ek0
      refine lv_iload_n C.1 C.2.1 dX11_set_10 rfl (lv_at hl 3 rfl) ?_
      refine xw_gets C Z hS 0 (by decide) tw_3_38 dX11_set_11 ?_
      refine lv_iload_n C.1 C.2.1 dX11_set_14 rfl (lv_at hl 1 rfl) ?_
      refine xw_tld C Z hS 0 (k) (by decide) rfl (by show _ < 8; exact (by omega)) (by decide) dX11_set_15 ?_
      refine mw_top (y := leastF (nI k)) (set_lo ⟨k, by omega⟩) ?_
      refine xw_gets C Z hS 1 (by decide) tw_3_40 dX11_set_16 ?_
      refine lv_iload_n C.1 C.2.1 dX11_set_19 rfl (lv_at hl 1 rfl) ?_
      refine xw_tld C Z hS 1 (k) (by decide) rfl (by show _ < 8; exact (by omega)) (by decide) dX11_set_20 ?_
      refine mw_top (y := mostF (nI k)) (set_hi ⟨k, by omega⟩) ?_
      refine mw_cSi (As := [.int vv, .int (leastF (nI k)), .int (mostF (nI k))]) (rest := []) C Z hP hS (cX_isWithin2 l E σ vv (leastF (nI k)) (mostF (nI k)) ((leastF (nI k)).toInt ≤ vv.toInt ∧ vv.toInt ≤ (mostF (nI k)).toInt) Iff.rfl) sb_X11_isWithin tw_3_42 ⟨rfl, rfl⟩ ⟨Nat.le_of_ble_eq_true rfl, Nat.le_of_ble_eq_true rfl⟩ rfl hl.1 rfl (Nat.le_of_ble_eq_true rfl) dX11_set_21 ⟨Nat.zero_le _, Nat.zero_le _⟩ (fun r3 u4 H locs q5 hP hS => ?_)
      obtain ⟨rfl, q5u⟩ := q5
      rw [q5u] at hP; clear q5u
      refine lv_if_ne (tgt := 30) C.1 C.2.1 dX11_set_24 (by decide) (fun c6 => ?_) (fun c6 => ?_)
      · have c6 := bI_n.mp c6
        have hrv := c6
        refine lv_iload_n C.1 C.2.1 dX11_set_30 rfl (lv_at hl 1 rfl) ?_
        refine lv_iconst (v := 4) C.1 C.2.1 dX11_set_31 (by decide) ?_
        refine lv_icmp_gt (tgt := 57) C.1 C.2.1 dX11_set_32 (by decide) (fun c7 => ?_) (fun c7 => ?_)
        · have c7 := (nI_ltI (a := 4) (by decide) (by omega)).mp c7
          refine lv_aload_n C.1 C.2.1 dX11_set_57 rfl (lv_at hl 0 rfl) ?_
          refine mw_getr C Z hP (30) 0 (0) (by decide) sx_30 rfl rfl (by decide) inX11 tw_2_239 dX11_set_58 ?_
          refine lv_iload_n C.1 C.2.1 dX11_set_61 rfl (lv_at hl 2 rfl) ?_
          refine mw_cVi (As := [.int oo]) (rest := []) C Z hP hS (0) (cX_hasS l E σ 0 (by decide) n hn h8 oo) vb_X6_has tw_3_53 ⟨rfl, rfl⟩ ⟨Nat.le_of_ble_eq_true rfl, Nat.le_of_ble_eq_true rfl⟩ (by decide) sx_0 rfl rfl rfl hl.1 rfl (Nat.le_of_ble_eq_true rfl) dX11_set_62 ⟨Nat.zero_le _, Nat.zero_le _⟩ (fun r8 u9 H locs q10 hP hS => ?_)
          obtain ⟨rfl, q10u⟩ := q10
          rw [q10u] at hP; clear q10u
          refine lv_if_ne (tgt := 71) C.1 C.2.1 dX11_set_65 (by decide) (fun c11 => ?_) (fun c11 => ?_)
          · have c11 := bI_n.mp c11
            have hhas := c11
            obtain ⟨q, hq8, eq0⟩ := nI_ofI (k := 8) hhas.1 (by omega)
            have hqn : q < n := by have y := hhas.2; rw [eq0, nI_toInt (by omega)] at y; omega
            have hq : q < 8 := by omega
            subst eq0
            have eq : (nI q).toNatClampNeg = q := nI_clamp (by omega)
            refine lv_aload_n C.1 C.2.1 dX11_set_71 rfl (lv_at hl 0 rfl) ?_
            refine mw_getr C Z hP (30) 0 (0) (by decide) sx_30 rfl rfl (by decide) inX11 tw_2_239 dX11_set_72 ?_
            refine mw_getr C Z hP (0) 7 (3) (by decide) sx_0 rfl rfl (by decide) inX6 tw_1_96 dX11_set_75 ?_
            refine lv_iload_n C.1 C.2.1 dX11_set_78 rfl (lv_at hl 2 rfl) ?_
            refine mw_aald C Z hP (3) (q) (by decide) sx_3 (by decide) rfl (Nat.lt_of_lt_of_le (by decide : 8 < 961) (Nat.le_of_ble_eq_true rfl)) rfl (by omega) dX11_set_79 ?_
            refine lv_iload_n C.1 C.2.1 dX11_set_80 rfl (lv_at hl 1 rfl) ?_
            refine mw_cVi (As := [.int (nI k)]) (rest := []) C Z hP hS (6 + q) (cX_readingC l E σ (6 + q) (by omega) k (by omega)) vb_X1_reading tw_3_57 ⟨rfl, rfl⟩ ⟨Nat.le_of_ble_eq_true rfl, Nat.le_of_ble_eq_true rfl⟩ (by omega) (sx_cu (by omega) (by omega)) rfl rfl rfl hl.1 rfl (Nat.le_of_ble_eq_true rfl) dX11_set_81 ⟨Nat.zero_le _, Nat.zero_le _⟩ (fun r12 u13 H locs q14 hP hS => ?_)
            obtain ⟨rfl, q14u⟩ := q14
            rw [q14u] at hP; clear q14u
            refine lv_istore (lv' := [(4, .int (cuRd (σ.1 (6 + q)) k)), (0, .ref (mw_a E 30)), (1, .int (nI k)), (2, .int (nI q)), (3, .int vv)]) C.1 C.2.1 dX11_set_84 hl (by decide) rfl (fun ls hl => ?_)
            refine lv_aload_n C.1 C.2.1 dX11_set_86 rfl (lv_at hl 1 rfl) ?_
            refine mw_getr C Z hP (30) 0 (0) (by decide) sx_30 rfl rfl (by decide) inX11 tw_2_239 dX11_set_87 ?_
            refine mw_getr C Z hP (0) 7 (3) (by decide) sx_0 rfl rfl (by decide) inX6 tw_1_96 dX11_set_90 ?_
            refine lv_iload_n C.1 C.2.1 dX11_set_93 rfl (lv_at hl 3 rfl) ?_
            refine mw_aald C Z hP (3) (q) (by decide) sx_3 (by decide) rfl (Nat.lt_of_lt_of_le (by decide : 8 < 961) (Nat.le_of_ble_eq_true rfl)) rfl (by omega) dX11_set_94 ?_
            refine lv_iload_n C.1 C.2.1 dX11_set_95 rfl (lv_at hl 2 rfl) ?_
            refine lv_iload_n C.1 C.2.1 dX11_set_96 rfl (lv_at hl 4 rfl) ?_
            refine mw_cVv (As := [.int (nI k), .int vv]) (rest := []) C Z hP hS (6 + q) (cX_layC l E σ (6 + q) (by omega) k (by omega) vv) vb_X1_lay tw_3_61 ⟨rfl, rfl⟩ ⟨Nat.le_of_ble_eq_true rfl, Nat.le_of_ble_eq_true rfl⟩ (by omega) (sx_cu (by omega) (by omega)) rfl rfl rfl hl.1 rfl (Nat.le_of_ble_eq_true rfl) dX11_set_97 ⟨Nat.zero_le _, Nat.zero_le _⟩ (fun u16 H locs q17 hP hS => ?_)
            rw [layM_at _ _ _ (by omega)] at q17
            subst q17
            refine lv_iload C.1 C.2.1 dX11_set_100 (lv_at hl 0 rfl) ?_
            have hok : setOK n (nI k) (nI q) vv := ⟨⟨by rw [nI_toInt (by omega)]; omega, by rw [nI_toInt (by omega)]; omega⟩, fun y => hhas, hrv⟩
            exact mw_iret C hr hlk Z hP hS dX11_set_102 (⟨fun y => absurd hok y, fun _ => ⟨by unfold xsetW; rw [nI_clamp (by omega), if_neg (by omega), eq, cuRd_at _ (by omega)], by unfold xsetM; rw [nI_clamp (by omega), if_neg (by omega), eq]⟩⟩)
          · have c11 := bI_0.mp c11
            refine lv_bipush (v := -2) C.1 C.2.1 dX11_set_68 (by decide) ?_
            exact mw_iret C hr hlk Z hP hS dX11_set_70 (⟨fun _ => ⟨rfl, rfl⟩, fun y => absurd y (fun y => c11 (y.2.1 (by rw [nI_toInt (by omega)]; omega)))⟩)
        · have c7 := (not_congr (nI_ltI (a := 4) (by decide) (by omega))).mp c7
          refine lv_aload_n C.1 C.2.1 dX11_set_35 rfl (lv_at hl 0 rfl) ?_
          refine mw_getr C Z hP (30) 0 (0) (by decide) sx_30 rfl rfl (by decide) inX11 tw_2_239 dX11_set_36 ?_
          refine lv_iload_n C.1 C.2.1 dX11_set_39 rfl (lv_at hl 1 rfl) ?_
          refine mw_cVi (As := [.int (nI k)]) (rest := []) C Z hP hS (0) (cX_readingS l E σ 0 (by decide) k (by omega)) vb_X6_reading tw_3_45 ⟨rfl, rfl⟩ ⟨Nat.le_of_ble_eq_true rfl, Nat.le_of_ble_eq_true rfl⟩ (by decide) sx_0 rfl rfl rfl hl.1 rfl (Nat.le_of_ble_eq_true rfl) dX11_set_40 ⟨Nat.zero_le _, Nat.zero_le _⟩ (fun r18 u19 H locs q20 hP hS => ?_)
          obtain ⟨rfl, q20u⟩ := q20
          rw [q20u] at hP; clear q20u
          refine lv_istore (lv' := [(4, .int (stRd (σ.1 0) k)), (0, .ref (mw_a E 30)), (1, .int (nI k)), (2, .int oo), (3, .int vv)]) C.1 C.2.1 dX11_set_43 hl (by decide) rfl (fun ls hl => ?_)
          refine lv_aload_n C.1 C.2.1 dX11_set_45 rfl (lv_at hl 1 rfl) ?_
          refine mw_getr C Z hP (30) 0 (0) (by decide) sx_30 rfl rfl (by decide) inX11 tw_2_239 dX11_set_46 ?_
          refine lv_iload_n C.1 C.2.1 dX11_set_49 rfl (lv_at hl 2 rfl) ?_
          refine lv_iload_n C.1 C.2.1 dX11_set_50 rfl (lv_at hl 4 rfl) ?_
          refine mw_cVv (As := [.int (nI k), .int vv]) (rest := []) C Z hP hS (0) (cX_layS l E σ 0 (by decide) k (by omega) vv) vb_X6_lay tw_3_49 ⟨rfl, rfl⟩ ⟨Nat.le_of_ble_eq_true rfl, Nat.le_of_ble_eq_true rfl⟩ (by decide) sx_0 rfl rfl rfl hl.1 rfl (Nat.le_of_ble_eq_true rfl) dX11_set_51 ⟨Nat.zero_le _, Nat.zero_le _⟩ (fun u22 H locs q23 hP hS => ?_)
          rw [slyM_at _ _ _ (by omega)] at q23
          subst q23
          refine lv_iload C.1 C.2.1 dX11_set_54 (lv_at hl 0 rfl) ?_
          have hok : setOK n (nI k) oo vv := ⟨⟨by rw [nI_toInt (by omega)]; omega, by rw [nI_toInt (by omega)]; omega⟩, fun y => absurd y (by rw [nI_toInt (by omega)]; omega), hrv⟩
          exact mw_iret C hr hlk Z hP hS dX11_set_56 (⟨fun y => absurd hok y, fun _ => ⟨by unfold xsetW; rw [nI_clamp (by omega), if_pos (by omega), stRd_at _ (by omega)], by unfold xsetM; rw [nI_clamp (by omega), if_pos (by omega)]⟩⟩)
      · have c6 := bI_0.mp c6
        refine lv_bipush (v := -2) C.1 C.2.1 dX11_set_27 (by decide) ?_
        exact mw_iret C hr hlk Z hP hS dX11_set_29 (⟨fun _ => ⟨rfl, rfl⟩, fun y => absurd y (fun y => c6 y.2.2)⟩)

set_option maxHeartbeats 4000000 in
set_option maxRecDepth 100000 in
theorem cX_feed (l : Launch) (E : mw_E) (σ : mw_M) (n : Nat) (hn : σ.1 31 1 = nI n) (h6 : n ≤ 160) (vv : Int32) : mw_Ci shX 75 gX l yX11_feed cX11_feed 2 (some .int) (rmF 2 86) E [.ref (mw_a E 30), .int vv] σ (fun r u => (¬ feedOK vv → r = -2 ∧ u = σ) ∧ (feedOK vv ∧ n = 160 → r = -4 ∧ u = σ) ∧ (feedOK vv ∧ n < 160 → r = nI (n + 1) ∧ u = mw_si (mw_sa σ 32 n vv) 31 1 (nI (n + 1)))) := by
  refine mw_of (by decide) gX_ok (Nat.le_of_ble_eq_true rfl) ?_
  intro p_ e_ s_ m_ below meth c_ C hr hlk Z hP ls hl
  have C : CallFix p_ m_ c_ cX11_feed 2 s_ _ lw_good RX11 := C
  have hl : lv_has ls 2 [(0, .ref (mw_a E 30)), (1, .int vv)] := hl
  have hS : va_S (mw_A 75 E) s_.heap s_.heap [] := va_S.rf
  refine lv_iload_n C.1 C.2.1 dX11_feed_0 rfl (lv_at hl 1 rfl) ?_
  refine lv_iconst (v := 0) C.1 C.2.1 dX11_feed_1 (by decide) ?_
  refine lv_sipush (v := 255) C.1 C.2.1 dX11_feed_2 (by decide) ?_
  refine mw_cSi (As := [.int vv, .int 0, .int 255]) (rest := []) C Z hP hS (cX_isWithin2 l E σ vv (0 : Int32) (255 : Int32) (0 ≤ vv.toInt ∧ vv.toInt ≤ 255) Iff.rfl) sb_X11_isWithin tw_3_42 ⟨rfl, rfl⟩ ⟨Nat.le_of_ble_eq_true rfl, Nat.le_of_ble_eq_true rfl⟩ rfl hl.1 rfl (Nat.le_of_ble_eq_true rfl) dX11_feed_5 ⟨Nat.zero_le _, Nat.zero_le _⟩ (fun r1 u2 H locs q3 hP hS => ?_)
  obtain ⟨rfl, q3u⟩ := q3
  rw [q3u] at hP; clear q3u
  refine lv_if_ne (tgt := 14) C.1 C.2.1 dX11_feed_8 (by decide) (fun c4 => ?_) (fun c4 => ?_)
  · have c4 := bI_n.mp c4
    refine lv_aload_n C.1 C.2.1 dX11_feed_14 rfl (lv_at hl 0 rfl) ?_
    refine mw_getr C Z hP (30) 4 (31) (by decide) sx_30 rfl rfl (by decide) inX11 tw_3_3 dX11_feed_15 ?_
    refine lv_iload_n C.1 C.2.1 dX11_feed_18 rfl (lv_at hl 1 rfl) ?_
    refine mw_cVi (As := [.int vv]) (rest := []) C Z hP hS (31) (cX_take l E σ n hn h6 vv) vb_X7_take tw_2_70 ⟨rfl, rfl⟩ ⟨Nat.le_of_ble_eq_true rfl, Nat.le_of_ble_eq_true rfl⟩ (by decide) sx_31 rfl rfl rfl hl.1 rfl (Nat.le_of_ble_eq_true rfl) dX11_feed_19 ⟨Nat.zero_le _, Nat.zero_le _⟩ (fun r5 u6 H locs q7 hP hS => ?_)
    by_cases hlt : n < 160
    · obtain ⟨z8, z9⟩ := q7.1 hlt
      subst z8; subst z9
      refine lv_if_eq (tgt := 35) C.1 C.2.1 dX11_feed_22 (by decide) (fun c12 => ?_) (fun c12 => ?_)
      · exact absurd c12 (by decide)
      · refine lv_aload_n C.1 C.2.1 dX11_feed_25 rfl (lv_at hl 0 rfl) ?_
        refine mw_getr C Z hP (30) 4 (31) (by decide) sx_30 rfl rfl (by decide) inX11 tw_3_3 dX11_feed_26 ?_
        refine mw_geti C Z hP (31) 1 (by decide) sx_31 rfl rfl (by decide) inX7 tw_1_124 dX11_feed_29 ?_
        refine mw_top (y := nI (n + 1)) (mw_sf) ?_
        refine lv_goto (tgt := 37) C.1 C.2.1 dX11_feed_32 (by decide) ?_
        exact mw_iret C hr hlk Z hP hS dX11_feed_37 (⟨fun y => absurd c4 y, fun y => absurd y.2 (by omega), fun _ => ⟨rfl, rfl⟩⟩)
    · obtain ⟨z10, z11⟩ := q7.2 (by omega)
      subst z10; rw [z11] at hP; clear z11
      refine lv_if_eq (tgt := 35) C.1 C.2.1 dX11_feed_22 (by decide) (fun c13 => ?_) (fun c13 => ?_)
      · refine lv_bipush (v := -4) C.1 C.2.1 dX11_feed_35 (by decide) ?_
        exact mw_iret C hr hlk Z hP hS dX11_feed_37 (⟨fun y => absurd c4 y, fun _ => ⟨rfl, rfl⟩, fun y => absurd y.2 hlt⟩)
      · exact absurd c13 (by decide)
  · have c4 := bI_0.mp c4
    refine lv_bipush (v := -2) C.1 C.2.1 dX11_feed_11 (by decide) ?_
    exact mw_iret C hr hlk Z hP hS dX11_feed_13 (⟨fun _ => ⟨rfl, rfl⟩, fun y => absurd y.1 c4, fun y => absurd y.1 c4⟩)

set_option maxHeartbeats 4000000 in
set_option maxRecDepth 100000 in
theorem cX_force (l : Launch) (E : mw_E) (σ : mw_M) (tc : Nat) (htc : σ.1 37 1 = nI tc) (h6 : tc ≤ 6) (vv : Int32) : mw_Ci shX 75 gX l yX11_force cX11_force 3 (some .int) (rmF 2 85) E [.ref (mw_a E 30), .int vv] σ (fun r u => (¬ (0 ≤ vv.toInt ∧ vv.toInt < tc) → r = -2 ∧ u = σ) ∧ ((0 ≤ vv.toInt ∧ vv.toInt < tc) → r = σ.1 0 5 ∧ u = mw_si σ 0 5 vv)) := by
  refine mw_of (by decide) gX_ok (Nat.le_of_ble_eq_true rfl) ?_
  intro p_ e_ s_ m_ below meth c_ C hr hlk Z hP ls hl
  have C : CallFix p_ m_ c_ cX11_force 3 s_ _ lw_good RX11 := C
  have hl : lv_has ls 3 [(0, .ref (mw_a E 30)), (1, .int vv)] := hl
  have hS : va_S (mw_A 75 E) s_.heap s_.heap [] := va_S.rf
  refine lv_aload_n C.1 C.2.1 dX11_force_0 rfl (lv_at hl 0 rfl) ?_
  refine mw_getr C Z hP (30) 6 (37) (by decide) sx_30 rfl rfl (by decide) inX11 tw_3_5 dX11_force_1 ?_
  refine lv_iload_n C.1 C.2.1 dX11_force_4 rfl (lv_at hl 1 rfl) ?_
  refine mw_cVi (As := [.int vv]) (rest := []) C Z hP hS (37) (cX_hasT l E σ tc htc h6 vv) vb_X9_has tw_3_153 ⟨rfl, rfl⟩ ⟨Nat.le_of_ble_eq_true rfl, Nat.le_of_ble_eq_true rfl⟩ (by decide) sx_37 rfl rfl rfl hl.1 rfl (Nat.le_of_ble_eq_true rfl) dX11_force_5 ⟨Nat.zero_le _, Nat.zero_le _⟩ (fun r1 u2 H locs q3 hP hS => ?_)
  obtain ⟨rfl, q3u⟩ := q3
  rw [q3u] at hP; clear q3u
  refine lv_if_ne (tgt := 14) C.1 C.2.1 dX11_force_8 (by decide) (fun c4 => ?_) (fun c4 => ?_)
  · have c4 := bI_n.mp c4
    refine lv_aload_n C.1 C.2.1 dX11_force_14 rfl (lv_at hl 0 rfl) ?_
    refine mw_getr C Z hP (30) 0 (0) (by decide) sx_30 rfl rfl (by decide) inX11 tw_2_239 dX11_force_15 ?_
    refine mw_geti C Z hP (0) 5 (by decide) sx_0 rfl rfl (by decide) inX6 tw_1_91 dX11_force_18 ?_
    refine lv_istore_n (lv' := [(2, .int (σ.1 0 5)), (0, .ref (mw_a E 30)), (1, .int vv)]) C.1 C.2.1 dX11_force_21 rfl hl (by decide) rfl (fun ls hl => ?_)
    refine lv_aload_n C.1 C.2.1 dX11_force_22 rfl (lv_at hl 1 rfl) ?_
    refine mw_getr C Z hP (30) 0 (0) (by decide) sx_30 rfl rfl (by decide) inX11 tw_2_239 dX11_force_23 ?_
    refine lv_iload_n C.1 C.2.1 dX11_force_26 rfl (lv_at hl 2 rfl) ?_
    refine mw_puti C Z hP hS (0) 5 (by decide) sx_0 rfl rfl (by decide) inX6 tyX6 tyX6_ok nmX6 rfl tw_1_91 rfl rfl dX11_force_27 (fun H locs hP hS => ?_)
    refine lv_iload_n C.1 C.2.1 dX11_force_30 rfl (lv_at hl 0 rfl) ?_
    exact mw_iret C hr hlk Z hP hS dX11_force_31 (⟨fun y => absurd c4 y, fun _ => ⟨rfl, rfl⟩⟩)
  · have c4 := bI_0.mp c4
    refine lv_bipush (v := -2) C.1 C.2.1 dX11_force_11 (by decide) ?_
    exact mw_iret C hr hlk Z hP hS dX11_force_13 (⟨fun _ => ⟨rfl, rfl⟩, fun y => absurd y c4⟩)

set_option maxHeartbeats 4000000 in
set_option maxRecDepth 100000 in
theorem cX_image (l : Launch) (E : mw_E) (σ : mw_M) (n : Nat) (hn : σ.1 0 6 = nI n) (h8 : n ≤ 8) : mw_Ci shX 75 gX l yX11_image cX11_image 1 (some .int) (rmF 3 107) E [.ref (mw_a E 30)] σ (fun r u => r = nI n ∧ ∃ v, xBec σ 2 0 n v ∧ u = mw_si v 30 3 1) := by
  refine mw_of (by decide) gX_ok (Nat.le_of_ble_eq_true rfl) ?_
  intro p_ e_ s_ m_ below meth c_ C hr hlk Z hP ls hl
  have C : CallFix p_ m_ c_ cX11_image 1 s_ _ lw_good RX11 := C
  have hl : lv_has ls 1 [(0, .ref (mw_a E 30))] := hl
  have hS : va_S (mw_A 75 E) s_.heap s_.heap [] := va_S.rf
  refine lv_aload_n C.1 C.2.1 dX11_image_0 rfl (lv_at hl 0 rfl) ?_
  refine mw_getr C Z hP (30) 2 (2) (by decide) sx_30 rfl rfl (by decide) inX11 tw_3_1 dX11_image_1 ?_
  refine lv_aload_n C.1 C.2.1 dX11_image_4 rfl (lv_at hl 0 rfl) ?_
  refine mw_getr C Z hP (30) 0 (0) (by decide) sx_30 rfl rfl (by decide) inX11 tw_2_239 dX11_image_5 ?_
  refine mw_cVv (As := [.ref (mw_a E 0)]) (rest := []) C Z hP hS (2) (cX_becomeS l E σ 2 0 (by decide) (by decide) (by decide) n hn h8) vb_X6_become tw_4_6 ⟨rfl, rfl⟩ ⟨Nat.le_of_ble_eq_true rfl, Nat.le_of_ble_eq_true rfl⟩ (by decide) sx_2 rfl rfl rfl hl.1 rfl (Nat.le_of_ble_eq_true rfl) dX11_image_8 ⟨Nat.zero_le _, Nat.zero_le _⟩ (fun u2 H locs q3 hP hS => ?_)
  refine lv_aload_n C.1 C.2.1 dX11_image_11 rfl (lv_at hl 0 rfl) ?_
  refine lv_iconst (v := 1) C.1 C.2.1 dX11_image_12 (by decide) ?_
  refine mw_puti C Z hP hS (30) 3 (by decide) sx_30 rfl rfl (by decide) inX11 tyX11 tyX11_ok nmX11 rfl tw_3_2 rfl rfl dX11_image_13 (fun H locs hP hS => ?_)
  refine lv_aload_n C.1 C.2.1 dX11_image_16 rfl (lv_at hl 0 rfl) ?_
  refine mw_getr C Z hP (30) 2 (2) (by decide) sx_30 rfl rfl (by decide) inX11 tw_3_1 dX11_image_17 ?_
  refine mw_geti C Z hP (2) 6 (by decide) sx_2 rfl rfl (by decide) inX6 tw_1_93 dX11_image_20 ?_
  refine mw_top (y := nI n) ((mw_nf (by decide)).trans (((q3.1 6 (by decide)).trans hn))) ?_
  exact mw_iret C hr hlk Z hP hS dX11_image_23 (⟨rfl, _, q3, rfl⟩)

set_option maxHeartbeats 4000000 in
set_option maxRecDepth 100000 in
theorem cX_back (l : Launch) (E : mw_E) (σ : mw_M) (n : Nat) (hn : σ.1 2 6 = nI n) (h8 : n ≤ 8) : mw_Ci shX 75 gX l yX11_back cX11_back 1 (some .int) (rmF 3 107) E [.ref (mw_a E 30)] σ (fun r u => (σ.1 30 3 = 0 → r = -3 ∧ u = σ) ∧ (¬ σ.1 30 3 = 0 → r = nI n ∧ xBec σ 0 2 n u)) := by
  refine mw_of (by decide) gX_ok (Nat.le_of_ble_eq_true rfl) ?_
  intro p_ e_ s_ m_ below meth c_ C hr hlk Z hP ls hl
  have C : CallFix p_ m_ c_ cX11_back 1 s_ _ lw_good RX11 := C
  have hl : lv_has ls 1 [(0, .ref (mw_a E 30))] := hl
  have hS : va_S (mw_A 75 E) s_.heap s_.heap [] := va_S.rf
  refine lv_aload_n C.1 C.2.1 dX11_back_0 rfl (lv_at hl 0 rfl) ?_
  refine mw_geti C Z hP (30) 3 (by decide) sx_30 rfl rfl (by decide) inX11 tw_3_2 dX11_back_1 ?_
  refine lv_if_ne (tgt := 10) C.1 C.2.1 dX11_back_4 (by decide) (fun c1 => ?_) (fun c1 => ?_)
  · refine lv_aload_n C.1 C.2.1 dX11_back_10 rfl (lv_at hl 0 rfl) ?_
    refine mw_getr C Z hP (30) 0 (0) (by decide) sx_30 rfl rfl (by decide) inX11 tw_2_239 dX11_back_11 ?_
    refine lv_aload_n C.1 C.2.1 dX11_back_14 rfl (lv_at hl 0 rfl) ?_
    refine mw_getr C Z hP (30) 2 (2) (by decide) sx_30 rfl rfl (by decide) inX11 tw_3_1 dX11_back_15 ?_
    refine mw_cVv (As := [.ref (mw_a E 2)]) (rest := []) C Z hP hS (0) (cX_becomeS l E σ 0 2 (by decide) (by decide) (by decide) n hn h8) vb_X6_become tw_4_6 ⟨rfl, rfl⟩ ⟨Nat.le_of_ble_eq_true rfl, Nat.le_of_ble_eq_true rfl⟩ (by decide) sx_0 rfl rfl rfl hl.1 rfl (Nat.le_of_ble_eq_true rfl) dX11_back_18 ⟨Nat.zero_le _, Nat.zero_le _⟩ (fun u3 H locs q4 hP hS => ?_)
    refine lv_aload_n C.1 C.2.1 dX11_back_21 rfl (lv_at hl 0 rfl) ?_
    refine mw_getr C Z hP (30) 0 (0) (by decide) sx_30 rfl rfl (by decide) inX11 tw_2_239 dX11_back_22 ?_
    refine mw_geti C Z hP (0) 6 (by decide) sx_0 rfl rfl (by decide) inX6 tw_1_93 dX11_back_25 ?_
    refine mw_top (y := nI n) (((q4.1 6 (by decide)).trans hn)) ?_
    exact mw_iret C hr hlk Z hP hS dX11_back_28 (⟨fun y => absurd y c1, fun _ => ⟨rfl, q4⟩⟩)
  · refine lv_bipush (v := -3) C.1 C.2.1 dX11_back_7 (by decide) ?_
    exact mw_iret C hr hlk Z hP hS dX11_back_9 (⟨fun _ => ⟨rfl, rfl⟩, fun y => absurd c1 y⟩)

set_option maxHeartbeats 4000000 in
set_option maxRecDepth 100000 in
theorem cX_sell (l : Launch) (E : mw_E) (σ : mw_M) (n : Nat) (hn : σ.1 0 6 = nI n) (h8 : n ≤ 8) (z : zP) (hru : xRu σ 0 z) (seed : Int32) : mw_Ci shX 75 gX l yX11_sell cX11_sell 2 (some .int) (rmF 6 183) E [.ref (mw_a E 30), .int seed] σ (fun r u => r = sdS z (σ.1 0) (cuX σ 0) seed n ∧ xDr σ 0 z seed n u) := by
  refine mw_of (by decide) gX_ok (Nat.le_of_ble_eq_true rfl) ?_
  intro p_ e_ s_ m_ below meth c_ C hr hlk Z hP ls hl
  have C : CallFix p_ m_ c_ cX11_sell 2 s_ _ lw_good RX11 := C
  have hl : lv_has ls 2 [(0, .ref (mw_a E 30)), (1, .int seed)] := hl
  have hS : va_S (mw_A 75 E) s_.heap s_.heap [] := va_S.rf
  refine lv_aload_n C.1 C.2.1 dX11_sell_0 rfl (lv_at hl 0 rfl) ?_
  refine mw_getr C Z hP (30) 7 (63) (by decide) sx_30 rfl rfl (by decide) inX11 tw_3_6 dX11_sell_1 ?_
  refine lv_aload_n C.1 C.2.1 dX11_sell_4 rfl (lv_at hl 0 rfl) ?_
  refine mw_getr C Z hP (30) 0 (0) (by decide) sx_30 rfl rfl (by decide) inX11 tw_2_239 dX11_sell_5 ?_
  refine lv_iload_n C.1 C.2.1 dX11_sell_8 rfl (lv_at hl 1 rfl) ?_
  refine lv_iconst (v := 1) C.1 C.2.1 dX11_sell_9 (by decide) ?_
  refine mw_cVi (As := [.ref (mw_a E 0), .int seed, .int 1]) (rest := []) C Z hP hS (63) (cX_drawn1 l E σ 0 (by decide) n hn h8 z hru seed) vb_X4_drawn tw_4_94 ⟨rfl, rfl⟩ ⟨Nat.le_of_ble_eq_true rfl, Nat.le_of_ble_eq_true rfl⟩ (by decide) sx_63 rfl rfl rfl hl.1 rfl (Nat.le_of_ble_eq_true rfl) dX11_sell_10 ⟨Nat.zero_le _, Nat.zero_le _⟩ (fun r1 u2 H locs q3 hP hS => ?_)
  obtain ⟨e5, f4⟩ := q3
  subst e5
  exact mw_iret C hr hlk Z hP hS dX11_sell_13 (⟨rfl, f4⟩)
