/-! THE REFERENCE: A PART, A TEXT -/
set_option maxHeartbeats 4000000 in
set_option maxRecDepth 100000 in
theorem cM_part (l : Launch) (E : mw_E) (σ : mw_M) (t n : Nat) (bs : Nat → Int32) (k p : Nat) (ts : List (Nat × Nat)) (key : Nat) (hkey : key < 12) (h : mPS σ t n bs k p ts 0) : mw_Ci shM 13 gM l yX12_part cX12_part 3 (some .int) (rmF 40 883) E [.ref (mw_a E 0), .int (bI (k = key))] σ (fun r u => mOK σ u t n bs 0 r (gPart key ((k, p) :: ts))) := by
  refine mw_of (by decide) gM_ok (Nat.le_of_ble_eq_true rfl) ?_
  intro p_ e_ s_ m_ below meth c_ C hr hlk Z hP ls hl
  have C : CallFix p_ m_ c_ cX12_part 3 s_ _ lw_good RX12 := C
  have hl : lv_has ls 3 [(0, .ref (mw_a E 0)), (1, .int (bI (k = key)))] := hl
  have hS : va_S (mw_A 13 E) s_.heap s_.heap [] := va_S.rf
  refine lv_iload_n C.1 C.2.1 dX12_part_0 rfl (lv_at hl 1 rfl) ?_
  refine lv_if_ne (tgt := 8) C.1 C.2.1 dX12_part_1 (by decide) (fun c1 => ?_) (fun c1 => ?_)
  · have c1 := bI_n.mp c1
    refine lv_aload_n C.1 C.2.1 dX12_part_8 rfl (lv_at hl 0 rfl) ?_
    refine mw_geti C Z hP (0) 24 (by decide) rfl rfl rfl (by decide) inX12 tw_4_188 dX12_part_9 ?_
    refine mw_top (y := 0) (h.2.1) ?_
    refine lv_if_ne (tgt := 19) C.1 C.2.1 dX12_part_12 (by decide) (fun c2 => ?_) (fun c2 => ?_)
    · exact absurd c2 (by decide)
    · refine lv_aload_n C.1 C.2.1 dX12_part_15 rfl (lv_at hl 0 rfl) ?_
      refine mw_cVv (As := []) (rest := []) C Z hP hS (0) (cM_nextP l E σ t n bs k p ts 0 h (by omega) (by omega)) vb_X12_next tw_5_64 ⟨rfl, rfl⟩ ⟨Nat.le_of_ble_eq_true rfl, Nat.le_of_ble_eq_true rfl⟩ (by decide) rfl rfl rfl rfl hl.1 rfl (Nat.le_of_ble_eq_true rfl) dX12_part_16 ⟨Nat.zero_le _, Nat.zero_le _⟩ (fun u4 H locs q5 hP hS => ?_)
      obtain ⟨⟨k6, p7, ts8, e9, h10⟩, f11⟩ := q5
      refine lv_aload_n C.1 C.2.1 dX12_part_19 rfl (lv_at hl 0 rfl) ?_
      refine mw_geti C Z hP (0) 24 (by decide) rfl rfl rfl (by decide) inX12 tw_4_188 dX12_part_20 ?_
      refine mw_top (y := 0) (h10.2.1) ?_
      refine lv_if_eq (tgt := 30) C.1 C.2.1 dX12_part_23 (by decide) (fun c12 => ?_) (fun c12 => ?_)
      · refine lv_aload_n C.1 C.2.1 dX12_part_30 rfl (lv_at hl 0 rfl) ?_
        refine mw_cVi (As := []) (rest := []) C Z hP hS (0) (cM_either0 l E u4 t n bs k6 p7 ts8 h10) vb_X12_either0 tw_5_93 ⟨rfl, rfl⟩ ⟨Nat.le_of_ble_eq_true rfl, Nat.le_of_ble_eq_true rfl⟩ (by decide) rfl rfl rfl rfl hl.1 rfl (Nat.le_of_ble_eq_true rfl) dX12_part_31 ⟨Nat.zero_le _, Nat.zero_le _⟩ (fun r13 u14 H locs q15 hP hS => ?_)
        rcases hg16 : ((gD 5).2.2) ((k6, p7) :: ts8) with zz17 | qq18
        · obtain ⟨cs20, ts21⟩ := zz17
          rw [hg16] at q15
          obtain ⟨f19, ⟨k22, p23, ts24, e25, h26⟩, v27⟩ := q15
          have v27 := ((mFp.rf σ).tr f11).evv v27
          refine lv_istore_n (lv' := [(2, .int r13), (0, .ref (mw_a E 0)), (1, .int (bI (k = key)))]) C.1 C.2.1 dX12_part_34 rfl hl (by decide) rfl (fun ls hl => ?_)
          refine lv_aload_n C.1 C.2.1 dX12_part_35 rfl (lv_at hl 1 rfl) ?_
          refine lv_bipush (v := 59) C.1 C.2.1 dX12_part_36 (by decide) ?_
          refine mw_cVi (As := [.int 59]) (rest := []) C Z hP hS (0) (cM_isSignP l E u14 t n bs k22 p23 ts24 0 h26 2 (by decide)) vb_X12_isSign tw_5_141 ⟨rfl, rfl⟩ ⟨Nat.le_of_ble_eq_true rfl, Nat.le_of_ble_eq_true rfl⟩ (by decide) rfl rfl rfl rfl hl.1 rfl (Nat.le_of_ble_eq_true rfl) dX12_part_38 ⟨Nat.zero_le _, Nat.zero_le _⟩ (fun r29 u30 H locs q31 hP hS => ?_)
          obtain ⟨rfl, q31u⟩ := q31
          rw [q31u] at hP; clear q31u
          refine lv_if_ne (tgt := 48) C.1 C.2.1 dX12_part_41 (by decide) (fun c32 => ?_) (fun c32 => ?_)
          · have c32 := bI_n.mp c32
            refine lv_aload_n C.1 C.2.1 dX12_part_48 rfl (lv_at hl 1 rfl) ?_
            refine mw_geti C Z hP (0) 24 (by decide) rfl rfl rfl (by decide) inX12 tw_4_188 dX12_part_49 ?_
            refine mw_top (y := 0) (h26.2.1) ?_
            refine lv_if_ne (tgt := 59) C.1 C.2.1 dX12_part_52 (by decide) (fun c33 => ?_) (fun c33 => ?_)
            · exact absurd c33 (by decide)
            · refine lv_aload_n C.1 C.2.1 dX12_part_55 rfl (lv_at hl 1 rfl) ?_
              refine mw_cVv (As := []) (rest := []) C Z hP hS (0) (cM_nextP l E u14 t n bs k22 p23 ts24 0 h26 (by omega) (by omega)) vb_X12_next tw_5_64 ⟨rfl, rfl⟩ ⟨Nat.le_of_ble_eq_true rfl, Nat.le_of_ble_eq_true rfl⟩ (by decide) rfl rfl rfl rfl hl.1 rfl (Nat.le_of_ble_eq_true rfl) dX12_part_56 ⟨Nat.zero_le _, Nat.zero_le _⟩ (fun u35 H locs q36 hP hS => ?_)
              obtain ⟨⟨k37, p38, ts39, e40, h41⟩, f42⟩ := q36
              refine lv_iload_n C.1 C.2.1 dX12_part_59 rfl (lv_at hl 0 rfl) ?_
              exact mw_iret C hr hlk Z hP hS dX12_part_60 (⟨((((mFp.rf σ).tr f11).tr f19).tr f42), by rw [gPart_I c1 (by rw [e9, ← e25]; exact hg16) (by omega : k22 = 14)]; exact ⟨⟨k37, p38, ts39, e40, h41⟩, v27⟩⟩)
          · have c32 := bI_0.mp c32
            refine lv_aload_n C.1 C.2.1 dX12_part_44 rfl (lv_at hl 1 rfl) ?_
            refine mw_cVv (As := []) (rest := []) C Z hP hS (0) (cM_failP l E u14 t n bs k22 p23 ts24 0 h26) vb_X12_fail tw_5_89 ⟨rfl, rfl⟩ ⟨Nat.le_of_ble_eq_true rfl, Nat.le_of_ble_eq_true rfl⟩ (by decide) rfl rfl rfl rfl hl.1 rfl (Nat.le_of_ble_eq_true rfl) dX12_part_45 ⟨Nat.zero_le _, Nat.zero_le _⟩ (fun u44 H locs q45 hP hS => ?_)
            obtain ⟨hb46, f47⟩ := q45
            refine lv_aload_n C.1 C.2.1 dX12_part_48 rfl (lv_at hl 1 rfl) ?_
            refine mw_geti C Z hP (0) 24 (by decide) rfl rfl rfl (by decide) inX12 tw_4_188 dX12_part_49 ?_
            refine mw_top (y := 1) (hb46.1) ?_
            refine lv_if_ne (tgt := 59) C.1 C.2.1 dX12_part_52 (by decide) (fun c48 => ?_) (fun c48 => ?_)
            · refine lv_iload_n C.1 C.2.1 dX12_part_59 rfl (lv_at hl 0 rfl) ?_
              exact mw_iret C hr hlk Z hP hS dX12_part_60 (⟨((((mFp.rf σ).tr f11).tr f19).tr f47), by rw [gPart_X c1 (by rw [e9, ← e25]; exact hg16) (by omega : ¬ k22 = 14)]; exact hb46⟩)
            · exact absurd c48 (by decide)
        · rw [hg16] at q15
          obtain ⟨f19, hb28⟩ := q15
          refine lv_istore_n (lv' := [(2, .int r13), (0, .ref (mw_a E 0)), (1, .int (bI (k = key)))]) C.1 C.2.1 dX12_part_34 rfl hl (by decide) rfl (fun ls hl => ?_)
          refine lv_aload_n C.1 C.2.1 dX12_part_35 rfl (lv_at hl 1 rfl) ?_
          refine lv_bipush (v := 59) C.1 C.2.1 dX12_part_36 (by decide) ?_
          refine mw_cVi (As := [.int 59]) (rest := []) C Z hP hS (0) (cM_isSignB l E u14 59 hb28.1) vb_X12_isSign tw_5_141 ⟨rfl, rfl⟩ ⟨Nat.le_of_ble_eq_true rfl, Nat.le_of_ble_eq_true rfl⟩ (by decide) rfl rfl rfl rfl hl.1 rfl (Nat.le_of_ble_eq_true rfl) dX12_part_38 ⟨Nat.zero_le _, Nat.zero_le _⟩ (fun r49 u50 H locs q51 hP hS => ?_)
          obtain ⟨rfl, q51u⟩ := q51
          rw [q51u] at hP; clear q51u
          refine lv_if_ne (tgt := 48) C.1 C.2.1 dX12_part_41 (by decide) (fun c52 => ?_) (fun c52 => ?_)
          · exact absurd c52 (by decide)
          · refine lv_aload_n C.1 C.2.1 dX12_part_44 rfl (lv_at hl 1 rfl) ?_
            refine mw_cVv (As := []) (rest := []) C Z hP hS (0) (cM_failB l E u14 hb28.1) vb_X12_fail tw_5_89 ⟨rfl, rfl⟩ ⟨Nat.le_of_ble_eq_true rfl, Nat.le_of_ble_eq_true rfl⟩ (by decide) rfl rfl rfl rfl hl.1 rfl (Nat.le_of_ble_eq_true rfl) dX12_part_45 ⟨Nat.zero_le _, Nat.zero_le _⟩ (fun u54 H locs q55 hP hS => ?_)
            rw [q55] at hP; clear q55
            refine lv_aload_n C.1 C.2.1 dX12_part_48 rfl (lv_at hl 1 rfl) ?_
            refine mw_geti C Z hP (0) 24 (by decide) rfl rfl rfl (by decide) inX12 tw_4_188 dX12_part_49 ?_
            refine mw_top (y := 1) (hb28.1) ?_
            refine lv_if_ne (tgt := 59) C.1 C.2.1 dX12_part_52 (by decide) (fun c56 => ?_) (fun c56 => ?_)
            · refine lv_iload_n C.1 C.2.1 dX12_part_59 rfl (lv_at hl 0 rfl) ?_
              exact mw_iret C hr hlk Z hP hS dX12_part_60 (⟨(((mFp.rf σ).tr f11).tr f19), by rw [gPart_F c1 (by rw [e9]; exact hg16)]; exact hb28⟩)
            · exact absurd c56 (by decide)
      · exact absurd c12 (by decide)
  · have c1 := bI_0.mp c1
    refine lv_aload_n C.1 C.2.1 dX12_part_4 rfl (lv_at hl 0 rfl) ?_
    refine mw_cVv (As := []) (rest := []) C Z hP hS (0) (cM_failP l E σ t n bs k p ts 0 h) vb_X12_fail tw_5_89 ⟨rfl, rfl⟩ ⟨Nat.le_of_ble_eq_true rfl, Nat.le_of_ble_eq_true rfl⟩ (by decide) rfl rfl rfl rfl hl.1 rfl (Nat.le_of_ble_eq_true rfl) dX12_part_5 ⟨Nat.zero_le _, Nat.zero_le _⟩ (fun u58 H locs q59 hP hS => ?_)
    obtain ⟨hb60, f61⟩ := q59
    refine lv_aload_n C.1 C.2.1 dX12_part_8 rfl (lv_at hl 0 rfl) ?_
    refine mw_geti C Z hP (0) 24 (by decide) rfl rfl rfl (by decide) inX12 tw_4_188 dX12_part_9 ?_
    refine mw_top (y := 1) (hb60.1) ?_
    refine lv_if_ne (tgt := 19) C.1 C.2.1 dX12_part_12 (by decide) (fun c62 => ?_) (fun c62 => ?_)
    · refine lv_aload_n C.1 C.2.1 dX12_part_19 rfl (lv_at hl 0 rfl) ?_
      refine mw_geti C Z hP (0) 24 (by decide) rfl rfl rfl (by decide) inX12 tw_4_188 dX12_part_20 ?_
      refine mw_top (y := 1) (hb60.1) ?_
      refine lv_if_eq (tgt := 30) C.1 C.2.1 dX12_part_23 (by decide) (fun c63 => ?_) (fun c63 => ?_)
      · exact absurd c63 (by decide)
      · refine lv_iconst (v := 0) C.1 C.2.1 dX12_part_26 (by decide) ?_
        refine lv_goto (tgt := 34) C.1 C.2.1 dX12_part_27 (by decide) ?_
        refine lv_istore_n (lv' := [(2, .int 0), (0, .ref (mw_a E 0)), (1, .int (bI (k = key)))]) C.1 C.2.1 dX12_part_34 rfl hl (by decide) rfl (fun ls hl => ?_)
        refine lv_aload_n C.1 C.2.1 dX12_part_35 rfl (lv_at hl 1 rfl) ?_
        refine lv_bipush (v := 59) C.1 C.2.1 dX12_part_36 (by decide) ?_
        refine mw_cVi (As := [.int 59]) (rest := []) C Z hP hS (0) (cM_isSignB l E u58 59 hb60.1) vb_X12_isSign tw_5_141 ⟨rfl, rfl⟩ ⟨Nat.le_of_ble_eq_true rfl, Nat.le_of_ble_eq_true rfl⟩ (by decide) rfl rfl rfl rfl hl.1 rfl (Nat.le_of_ble_eq_true rfl) dX12_part_38 ⟨Nat.zero_le _, Nat.zero_le _⟩ (fun r64 u65 H locs q66 hP hS => ?_)
        obtain ⟨rfl, q66u⟩ := q66
        rw [q66u] at hP; clear q66u
        refine lv_if_ne (tgt := 48) C.1 C.2.1 dX12_part_41 (by decide) (fun c67 => ?_) (fun c67 => ?_)
        · exact absurd c67 (by decide)
        · refine lv_aload_n C.1 C.2.1 dX12_part_44 rfl (lv_at hl 1 rfl) ?_
          refine mw_cVv (As := []) (rest := []) C Z hP hS (0) (cM_failB l E u58 hb60.1) vb_X12_fail tw_5_89 ⟨rfl, rfl⟩ ⟨Nat.le_of_ble_eq_true rfl, Nat.le_of_ble_eq_true rfl⟩ (by decide) rfl rfl rfl rfl hl.1 rfl (Nat.le_of_ble_eq_true rfl) dX12_part_45 ⟨Nat.zero_le _, Nat.zero_le _⟩ (fun u69 H locs q70 hP hS => ?_)
          rw [q70] at hP; clear q70
          refine lv_aload_n C.1 C.2.1 dX12_part_48 rfl (lv_at hl 1 rfl) ?_
          refine mw_geti C Z hP (0) 24 (by decide) rfl rfl rfl (by decide) inX12 tw_4_188 dX12_part_49 ?_
          refine mw_top (y := 1) (hb60.1) ?_
          refine lv_if_ne (tgt := 59) C.1 C.2.1 dX12_part_52 (by decide) (fun c71 => ?_) (fun c71 => ?_)
          · refine lv_iload_n C.1 C.2.1 dX12_part_59 rfl (lv_at hl 0 rfl) ?_
            exact mw_iret C hr hlk Z hP hS dX12_part_60 (⟨((mFp.rf σ).tr f61), by rw [gPart_k c1]; exact hb60⟩)
          · exact absurd c71 (by decide)
    · exact absurd c62 (by decide)

def mFq (σ u : mw_M) : Prop := u.2.1 = σ.2.1 ∧ ∀ f, f < 17 ∨ 25 < f → u.1 0 f = σ.1 0 f
theorem mFq.rf (σ : mw_M) : mFq σ σ := ⟨rfl, fun _ _ => rfl⟩
theorem mFq.tr {a b d : mw_M} (h1 : mFq a b) (h2 : mFq b d) : mFq a d := ⟨h2.1.trans h1.1, fun f hf => (h2.2 f hf).trans (h1.2 f hf)⟩
theorem mFp.q {a b : mw_M} (h : mFp a b) : mFq a b := ⟨h.1, fun f hf => h.2 f (by omega)⟩
theorem mFq.si {σ u : mw_M} (h : mFq σ u) {k : Nat} (hk : 17 ≤ k ∧ k ≤ 25) (v : Int32) : mFq σ (mw_si u 0 k v) := by
  refine ⟨h.1, fun f hf => ?_⟩
  show va_up u.1 0 (va_up (u.1 0) k v) 0 f = _
  rw [va_up_self, va_up_ne _ _ (by omega)]
  exact h.2 f hf
theorem mFq.evv {σ u : mw_M} (h : mFq σ u) {cs : List Nat} {v : Int32} (hv : ruV (mEv u) cs v) : ruV (mEv σ) cs v := by
  have e : ∀ (cs : List Nat) (st : List Int32), ruF (mEv u) cs st = ruF (mEv σ) cs st := by
    intro cs
    induction cs with
    | nil => intro st; rfl
    | cons k cs ih =>
      intro st
      show ruF (mEv u) cs (stF (mEv u) k st) = ruF (mEv σ) cs (stF (mEv σ) k st)
      have : stF (mEv u) k st = stF (mEv σ) k st := by
        unfold stF
        by_cases hk : k ≤ 5
        · rw [if_pos hk, if_pos hk]
          have : mEv u k = mEv σ k := h.2 (11 + k) (by omega)
          rw [this]
        · rw [if_neg hk, if_neg hk]
      rw [this, ih]
  exact fun st => (e cs st).symm.trans (hv st)
/-- the text t: n bytes bs -/
def mTt (σ : mw_M) (t n : Nat) (bs : Nat → Int32) : Prop := σ.2.1 2 t = nI n ∧ t < 6 ∧ n ≤ 160 ∧ ∀ j, j < n → σ.2.1 1 (160 * t + j) = bs j ∧ 0 ≤ (bs j).toInt
/-- one of the three parts -/
def ptF (z : List Nat × List Nat × List Nat) (w : Nat) : List Nat := if w = 0 then z.1 else if w = 1 then z.2.1 else z.2.2
def mRd (σ u : mw_M) (w : Nat) (r : Int32) (res : (List Nat × List Nat × List Nat) ⊕ Nat) : Prop := mFq σ u ∧ (match res with
  | .inl z => u.1 0 24 = 0 ∧ ruV (mEv σ) (ptF z w) r
  | .inr q => mBd u q)
theorem gText_1 {ts : List (Nat × Nat)} {q : Nat} (h : gPart 6 ts = .inr q) : gText ts = .inr q := by unfold gText; rw [h]
theorem gText_2 {ts ts1 : List (Nat × Nat)} {a : List Nat} {q : Nat} (h : gPart 6 ts = .inl (a, ts1)) (h2 : gPart 7 ts1 = .inr q) : gText ts = .inr q := by unfold gText; rw [h]; dsimp only; rw [h2]
theorem gText_3 {ts ts1 ts2 : List (Nat × Nat)} {a b : List Nat} {q : Nat} (h : gPart 6 ts = .inl (a, ts1)) (h2 : gPart 7 ts1 = .inl (b, ts2)) (h3 : gPart 8 ts2 = .inr q) : gText ts = .inr q := by unfold gText; rw [h]; dsimp only; rw [h2]; dsimp only; rw [h3]
theorem gText_4 {ts ts1 ts2 ts3 : List (Nat × Nat)} {a b d : List Nat} {k p : Nat} (h : gPart 6 ts = .inl (a, ts1)) (h2 : gPart 7 ts1 = .inl (b, ts2)) (h3 : gPart 8 ts2 = .inl (d, (k, p) :: ts3)) (hk : k = 21) : gText ts = .inl (a, b, d) := by unfold gText; rw [h]; dsimp only; rw [h2]; dsimp only; rw [h3]; dsimp only; rw [if_pos hk]
theorem gText_5 {ts ts1 ts2 ts3 : List (Nat × Nat)} {a b d : List Nat} {k p : Nat} (h : gPart 6 ts = .inl (a, ts1)) (h2 : gPart 7 ts1 = .inl (b, ts2)) (h3 : gPart 8 ts2 = .inl (d, (k, p) :: ts3)) (hk : ¬ k = 21) : gText ts = .inr p := by unfold gText; rw [h]; dsimp only; rw [h2]; dsimp only; rw [h3]; dsimp only; rw [if_neg hk]

set_option maxHeartbeats 4000000 in
set_option maxRecDepth 100000 in
theorem cM_read0 (l : Launch) (E : mw_E) (σ : mw_M) (t n : Nat) (bs : Nat → Int32) (hTt : mTt σ t n bs) : mw_Ci shM 13 gM l yX12_read cX12_read 6 (some .int) (rmF 41 905) E [.ref (mw_a E 0), .int (nI t), .int 0] σ (fun r u => mRd σ u 0 r (gText (tkA bs n 0))) := by
  refine mw_of (by decide) gM_ok (Nat.le_of_ble_eq_true rfl) ?_
  intro p_ e_ s_ m_ below meth c_ C hr hlk Z hP ls hl
  have C : CallFix p_ m_ c_ cX12_read 6 s_ _ lw_good RX12 := C
  have hl : lv_has ls 6 [(0, .ref (mw_a E 0)), (1, .int (nI t)), (2, .int 0)] := hl
  have hS : va_S (mw_A 13 E) s_.heap s_.heap [] := va_S.rf
  obtain ⟨hsz, ht, hn, hbs⟩ := hTt
  refine lv_aload_n C.1 C.2.1 dX12_read_0 rfl (lv_at hl 0 rfl) ?_
  refine lv_sipush (v := 160) C.1 C.2.1 dX12_read_1 (by decide) ?_
  refine lv_iload_n C.1 C.2.1 dX12_read_4 rfl (lv_at hl 1 rfl) ?_
  refine lv_imul C.1 C.2.1 dX12_read_5 ?_
  refine mw_top (y := nI (160 * t)) (pk_mul 160 t) ?_
  refine mw_puti C Z hP hS (0) 17 (by decide) rfl rfl rfl (by decide) inX12 tyX12 tyX12_ok nmX12 rfl tw_4_181 rfl rfl dX12_read_6 (fun H locs hP hS => ?_)
  refine lv_aload_n C.1 C.2.1 dX12_read_9 rfl (lv_at hl 0 rfl) ?_
  refine lv_aload_n C.1 C.2.1 dX12_read_10 rfl (lv_at hl 0 rfl) ?_
  refine mw_getr C Z hP (0) 2 (2) (by decide) rfl rfl rfl (by decide) inX12 tw_4_166 dX12_read_11 ?_
  refine lv_iload_n C.1 C.2.1 dX12_read_14 rfl (lv_at hl 1 rfl) ?_
  refine mw_iald C Z hP (2) (t) (by decide) rfl (Nat.lt_of_lt_of_le (by decide : 6 < 961) (Nat.le_of_ble_eq_true rfl)) rfl (by omega) dX12_read_15 ?_
  refine mw_top (y := σ.2.1 2 t) (rfl) ?_
  refine mw_top (y := nI n) hsz ?_
  refine mw_puti C Z hP hS (0) 18 (by decide) rfl rfl rfl (by decide) inX12 tyX12 tyX12_ok nmX12 rfl tw_4_182 rfl rfl dX12_read_16 (fun H locs hP hS => ?_)
  refine lv_aload_n C.1 C.2.1 dX12_read_19 rfl (lv_at hl 0 rfl) ?_
  refine lv_iconst (v := 0) C.1 C.2.1 dX12_read_20 (by decide) ?_
  refine mw_puti C Z hP hS (0) 19 (by decide) rfl rfl rfl (by decide) inX12 tyX12 tyX12_ok nmX12 rfl tw_4_183 rfl rfl dX12_read_21 (fun H locs hP hS => ?_)
  refine lv_aload_n C.1 C.2.1 dX12_read_24 rfl (lv_at hl 0 rfl) ?_
  refine lv_iconst (v := 0) C.1 C.2.1 dX12_read_25 (by decide) ?_
  refine mw_puti C Z hP hS (0) 23 (by decide) rfl rfl rfl (by decide) inX12 tyX12 tyX12_ok nmX12 rfl tw_4_187 rfl rfl dX12_read_26 (fun H locs hP hS => ?_)
  refine lv_aload_n C.1 C.2.1 dX12_read_29 rfl (lv_at hl 0 rfl) ?_
  refine lv_iconst (v := 0) C.1 C.2.1 dX12_read_30 (by decide) ?_
  refine mw_puti C Z hP hS (0) 24 (by decide) rfl rfl rfl (by decide) inX12 tyX12 tyX12_ok nmX12 rfl tw_4_188 rfl rfl dX12_read_31 (fun H locs hP hS => ?_)
  refine lv_aload_n C.1 C.2.1 dX12_read_34 rfl (lv_at hl 0 rfl) ?_
  have hT0 : mTx (mw_si (mw_si (mw_si (mw_si (mw_si σ 0 17 (nI (160 * t))) 0 18 (nI n)) 0 19 0) 0 23 0) 0 24 0) t n bs := ⟨rfl, rfl, ht, hn, hbs⟩
  refine mw_cVv (As := []) (rest := []) C Z hP hS (0) (cM_next l E (mw_si (mw_si (mw_si (mw_si (mw_si σ 0 17 (nI (160 * t))) 0 18 (nI n)) 0 19 0) 0 23 0) 0 24 0) t n 0 bs hT0 rfl (Nat.zero_le n)) vb_X12_next tw_5_64 ⟨rfl, rfl⟩ ⟨Nat.le_of_ble_eq_true rfl, Nat.le_of_ble_eq_true rfl⟩ (by decide) rfl rfl rfl rfl hl.1 rfl (Nat.le_of_ble_eq_true rfl) dX12_read_35 ⟨Nat.zero_le _, Nat.zero_le _⟩ (fun u2 H locs q3 hP hS => ?_)
  obtain ⟨hl0, hf0⟩ := q3
  obtain ⟨k, p, ts, e0, hk0⟩ := mLx_tk hn hl0
  have h : mPS u2 t n bs k p ts 0 := ⟨hf0.tx hT0, (hf0.2 24 (by omega)).trans rfl, (hf0.2 23 (by omega)).trans rfl, hk0⟩
  have fq : mFq σ u2 := (((((mFq.rf σ).si (by decide) _).si (by decide) _).si (by decide) _).si (by decide) _).si (by decide) _ |>.tr hf0.p.q
  refine lv_aload_n C.1 C.2.1 dX12_read_38 rfl (lv_at hl 0 rfl) ?_
  refine lv_aload_n C.1 C.2.1 dX12_read_39 rfl (lv_at hl 0 rfl) ?_
  refine lv_bipush (v := 101) C.1 C.2.1 dX12_read_40 (by decide) ?_
  refine lv_bipush (v := 97) C.1 C.2.1 dX12_read_42 (by decide) ?_
  refine lv_bipush (v := 116) C.1 C.2.1 dX12_read_44 (by decide) ?_
  refine lv_bipush (v := 115) C.1 C.2.1 dX12_read_46 (by decide) ?_
  refine lv_iconst (v := 0) C.1 C.2.1 dX12_read_48 (by decide) ?_
  refine lv_iconst (v := 0) C.1 C.2.1 dX12_read_49 (by decide) ?_
  refine lv_iconst (v := 0) C.1 C.2.1 dX12_read_50 (by decide) ?_
  refine lv_iconst (v := 0) C.1 C.2.1 dX12_read_51 (by decide) ?_
  refine mw_cVi (As := [.int 101, .int 97, .int 116, .int 115, .int 0, .int 0, .int 0, .int 0]) (rest := [.ref (mw_a E 0)]) C Z hP hS (0) (cM_isWordP l E u2 t n bs k p ts 0 h 6 (by decide)) vb_X12_isWord tw_5_77 ⟨rfl, rfl⟩ ⟨Nat.le_of_ble_eq_true rfl, Nat.le_of_ble_eq_true rfl⟩ (by decide) rfl rfl rfl rfl hl.1 rfl (Nat.le_of_ble_eq_true rfl) dX12_read_52 ⟨Nat.zero_le _, Nat.zero_le _⟩ (fun r4 u5 H locs q6 hP hS => ?_)
  obtain ⟨rfl, q6u⟩ := q6
  rw [q6u] at hP; clear q6u
  refine mw_cVi (As := [.int (bI (k = 6))]) (rest := []) C Z hP hS (0) (cM_part l E u2 t n bs k p ts 6 (by decide) h) vb_X12_part tw_5_85 ⟨rfl, rfl⟩ ⟨Nat.le_of_ble_eq_true rfl, Nat.le_of_ble_eq_true rfl⟩ (by decide) rfl rfl rfl rfl hl.1 rfl (Nat.le_of_ble_eq_true rfl) dX12_read_55 ⟨Nat.zero_le _, Nat.zero_le _⟩ (fun r7 u8 H locs q9 hP hS => ?_)
  rcases hg10 : gPart 6 ((k, p) :: ts) with zz11 | qq12
  · obtain ⟨cs14, ts15⟩ := zz11
    rw [hg10] at q9
    obtain ⟨f13, ⟨k16, p17, ts18, e19, h20⟩, v21⟩ := q9
    have v21 := (mFp.rf u2).evv v21
    refine lv_istore_n (lv' := [(3, .int r7), (0, .ref (mw_a E 0)), (1, .int (nI t)), (2, .int 0)]) C.1 C.2.1 dX12_read_58 rfl hl (by decide) rfl (fun ls hl => ?_)
    refine lv_aload_n C.1 C.2.1 dX12_read_59 rfl (lv_at hl 1 rfl) ?_
    refine mw_geti C Z hP (0) 24 (by decide) rfl rfl rfl (by decide) inX12 tw_4_188 dX12_read_60 ?_
    refine mw_top (y := 0) (h20.2.1) ?_
    refine lv_if_eq (tgt := 70) C.1 C.2.1 dX12_read_63 (by decide) (fun c23 => ?_) (fun c23 => ?_)
    · refine lv_aload_n C.1 C.2.1 dX12_read_70 rfl (lv_at hl 1 rfl) ?_
      refine lv_aload_n C.1 C.2.1 dX12_read_71 rfl (lv_at hl 1 rfl) ?_
      refine lv_bipush (v := 111) C.1 C.2.1 dX12_read_72 (by decide) ?_
      refine lv_bipush (v := 100) C.1 C.2.1 dX12_read_74 (by decide) ?_
      refine lv_bipush (v := 100) C.1 C.2.1 dX12_read_76 (by decide) ?_
      refine lv_bipush (v := 115) C.1 C.2.1 dX12_read_78 (by decide) ?_
      refine lv_iconst (v := 0) C.1 C.2.1 dX12_read_80 (by decide) ?_
      refine lv_iconst (v := 0) C.1 C.2.1 dX12_read_81 (by decide) ?_
      refine lv_iconst (v := 0) C.1 C.2.1 dX12_read_82 (by decide) ?_
      refine lv_iconst (v := 0) C.1 C.2.1 dX12_read_83 (by decide) ?_
      refine mw_cVi (As := [.int 111, .int 100, .int 100, .int 115, .int 0, .int 0, .int 0, .int 0]) (rest := [.ref (mw_a E 0)]) C Z hP hS (0) (cM_isWordP l E u8 t n bs k16 p17 ts18 0 h20 7 (by decide)) vb_X12_isWord tw_5_77 ⟨rfl, rfl⟩ ⟨Nat.le_of_ble_eq_true rfl, Nat.le_of_ble_eq_true rfl⟩ (by decide) rfl rfl rfl rfl hl.1 rfl (Nat.le_of_ble_eq_true rfl) dX12_read_84 ⟨Nat.zero_le _, Nat.zero_le _⟩ (fun r24 u25 H locs q26 hP hS => ?_)
      obtain ⟨rfl, q26u⟩ := q26
      rw [q26u] at hP; clear q26u
      refine mw_cVi (As := [.int (bI (k16 = 7))]) (rest := []) C Z hP hS (0) (cM_part l E u8 t n bs k16 p17 ts18 7 (by decide) h20) vb_X12_part tw_5_85 ⟨rfl, rfl⟩ ⟨Nat.le_of_ble_eq_true rfl, Nat.le_of_ble_eq_true rfl⟩ (by decide) rfl rfl rfl rfl hl.1 rfl (Nat.le_of_ble_eq_true rfl) dX12_read_87 ⟨Nat.zero_le _, Nat.zero_le _⟩ (fun r27 u28 H locs q29 hP hS => ?_)
      rcases hg30 : gPart 7 ((k16, p17) :: ts18) with zz31 | qq32
      · obtain ⟨cs34, ts35⟩ := zz31
        rw [hg30] at q29
        obtain ⟨f33, ⟨k36, p37, ts38, e39, h40⟩, v41⟩ := q29
        have v41 := ((mFp.rf u2).tr f13).evv v41
        refine lv_istore (lv' := [(4, .int r27), (3, .int r7), (0, .ref (mw_a E 0)), (1, .int (nI t)), (2, .int 0)]) C.1 C.2.1 dX12_read_90 hl (by decide) rfl (fun ls hl => ?_)
        refine lv_aload_n C.1 C.2.1 dX12_read_92 rfl (lv_at hl 2 rfl) ?_
        refine mw_geti C Z hP (0) 24 (by decide) rfl rfl rfl (by decide) inX12 tw_4_188 dX12_read_93 ?_
        refine mw_top (y := 0) (h40.2.1) ?_
        refine lv_if_eq (tgt := 103) C.1 C.2.1 dX12_read_96 (by decide) (fun c43 => ?_) (fun c43 => ?_)
        · refine lv_aload_n C.1 C.2.1 dX12_read_103 rfl (lv_at hl 2 rfl) ?_
          refine lv_aload_n C.1 C.2.1 dX12_read_104 rfl (lv_at hl 2 rfl) ?_
          refine lv_bipush (v := 115) C.1 C.2.1 dX12_read_105 (by decide) ?_
          refine lv_bipush (v := 112) C.1 C.2.1 dX12_read_107 (by decide) ?_
          refine lv_bipush (v := 101) C.1 C.2.1 dX12_read_109 (by decide) ?_
          refine lv_bipush (v := 110) C.1 C.2.1 dX12_read_111 (by decide) ?_
          refine lv_bipush (v := 100) C.1 C.2.1 dX12_read_113 (by decide) ?_
          refine lv_bipush (v := 115) C.1 C.2.1 dX12_read_115 (by decide) ?_
          refine lv_iconst (v := 0) C.1 C.2.1 dX12_read_117 (by decide) ?_
          refine lv_iconst (v := 0) C.1 C.2.1 dX12_read_118 (by decide) ?_
          refine mw_cVi (As := [.int 115, .int 112, .int 101, .int 110, .int 100, .int 115, .int 0, .int 0]) (rest := [.ref (mw_a E 0)]) C Z hP hS (0) (cM_isWordP l E u28 t n bs k36 p37 ts38 0 h40 8 (by decide)) vb_X12_isWord tw_5_77 ⟨rfl, rfl⟩ ⟨Nat.le_of_ble_eq_true rfl, Nat.le_of_ble_eq_true rfl⟩ (by decide) rfl rfl rfl rfl hl.1 rfl (Nat.le_of_ble_eq_true rfl) dX12_read_119 ⟨Nat.zero_le _, Nat.zero_le _⟩ (fun r44 u45 H locs q46 hP hS => ?_)
          obtain ⟨rfl, q46u⟩ := q46
          rw [q46u] at hP; clear q46u
          refine mw_cVi (As := [.int (bI (k36 = 8))]) (rest := []) C Z hP hS (0) (cM_part l E u28 t n bs k36 p37 ts38 8 (by decide) h40) vb_X12_part tw_5_85 ⟨rfl, rfl⟩ ⟨Nat.le_of_ble_eq_true rfl, Nat.le_of_ble_eq_true rfl⟩ (by decide) rfl rfl rfl rfl hl.1 rfl (Nat.le_of_ble_eq_true rfl) dX12_read_122 ⟨Nat.zero_le _, Nat.zero_le _⟩ (fun r47 u48 H locs q49 hP hS => ?_)
          rcases hg50 : gPart 8 ((k36, p37) :: ts38) with zz51 | qq52
          · obtain ⟨cs54, ts55⟩ := zz51
            rw [hg50] at q49
            obtain ⟨f53, ⟨k56, p57, ts58, e59, h60⟩, v61⟩ := q49
            have v61 := (((mFp.rf u2).tr f13).tr f33).evv v61
            refine lv_istore (lv' := [(5, .int r47), (4, .int r27), (3, .int r7), (0, .ref (mw_a E 0)), (1, .int (nI t)), (2, .int 0)]) C.1 C.2.1 dX12_read_125 hl (by decide) rfl (fun ls hl => ?_)
            refine lv_aload_n C.1 C.2.1 dX12_read_127 rfl (lv_at hl 3 rfl) ?_
            refine mw_geti C Z hP (0) 24 (by decide) rfl rfl rfl (by decide) inX12 tw_4_188 dX12_read_128 ?_
            refine mw_top (y := 0) (h60.2.1) ?_
            refine lv_if_ne (tgt := 145) C.1 C.2.1 dX12_read_131 (by decide) (fun c63 => ?_) (fun c63 => ?_)
            · exact absurd c63 (by decide)
            · refine lv_aload_n C.1 C.2.1 dX12_read_134 rfl (lv_at hl 3 rfl) ?_
              refine mw_geti C Z hP (0) 20 (by decide) rfl rfl rfl (by decide) inX12 tw_4_184 dX12_read_135 ?_
              refine lv_if_eq (tgt := 145) C.1 C.2.1 dX12_read_138 (by decide) (fun c64 => ?_) (fun c64 => ?_)
              · refine lv_iload_n C.1 C.2.1 dX12_read_145 rfl (lv_at hl 5 rfl) ?_
                refine lv_if_ne (tgt := 153) C.1 C.2.1 dX12_read_146 (by decide) (fun c65 => ?_) (fun c65 => ?_)
                · exact absurd c65 (by decide)
                · refine lv_iload_n C.1 C.2.1 dX12_read_149 rfl (lv_at hl 2 rfl) ?_
                  refine lv_goto (tgt := 165) C.1 C.2.1 dX12_read_150 (by decide) ?_
                  exact mw_iret C hr hlk Z hP hS dX12_read_165 (⟨fq.tr (mFp.q ((((mFp.rf u2).tr f13).tr f33).tr f53)), by rw [gText_4 (by rw [e0]; exact hg10) (by rw [e19]; exact hg30) (by rw [e39, ← e59]; exact hg50) (h60.2.2.2.1.2.2.1.mp c64)]; exact ⟨h60.2.1, fq.evv v21⟩⟩)
              · refine lv_aload_n C.1 C.2.1 dX12_read_141 rfl (lv_at hl 3 rfl) ?_
                refine mw_cVv (As := []) (rest := []) C Z hP hS (0) (cM_failP l E u48 t n bs k56 p57 ts58 0 h60) vb_X12_fail tw_5_89 ⟨rfl, rfl⟩ ⟨Nat.le_of_ble_eq_true rfl, Nat.le_of_ble_eq_true rfl⟩ (by decide) rfl rfl rfl rfl hl.1 rfl (Nat.le_of_ble_eq_true rfl) dX12_read_142 ⟨Nat.zero_le _, Nat.zero_le _⟩ (fun u67 H locs q68 hP hS => ?_)
                obtain ⟨hb69, f70⟩ := q68
                refine lv_iload_n C.1 C.2.1 dX12_read_145 rfl (lv_at hl 5 rfl) ?_
                refine lv_if_ne (tgt := 153) C.1 C.2.1 dX12_read_146 (by decide) (fun c71 => ?_) (fun c71 => ?_)
                · exact absurd c71 (by decide)
                · refine lv_iload_n C.1 C.2.1 dX12_read_149 rfl (lv_at hl 2 rfl) ?_
                  refine lv_goto (tgt := 165) C.1 C.2.1 dX12_read_150 (by decide) ?_
                  exact mw_iret C hr hlk Z hP hS dX12_read_165 (⟨fq.tr (mFp.q (((((mFp.rf u2).tr f13).tr f33).tr f53).tr f70)), by rw [gText_5 (by rw [e0]; exact hg10) (by rw [e19]; exact hg30) (by rw [e39, ← e59]; exact hg50) (fun y => c64 (h60.2.2.2.1.2.2.1.mpr y))]; exact hb69⟩)
          · rw [hg50] at q49
            obtain ⟨f53, hb62⟩ := q49
            refine lv_istore (lv' := [(5, .int r47), (4, .int r27), (3, .int r7), (0, .ref (mw_a E 0)), (1, .int (nI t)), (2, .int 0)]) C.1 C.2.1 dX12_read_125 hl (by decide) rfl (fun ls hl => ?_)
            refine lv_aload_n C.1 C.2.1 dX12_read_127 rfl (lv_at hl 3 rfl) ?_
            refine mw_geti C Z hP (0) 24 (by decide) rfl rfl rfl (by decide) inX12 tw_4_188 dX12_read_128 ?_
            refine mw_top (y := 1) (hb62.1) ?_
            refine lv_if_ne (tgt := 145) C.1 C.2.1 dX12_read_131 (by decide) (fun c72 => ?_) (fun c72 => ?_)
            · refine lv_iload_n C.1 C.2.1 dX12_read_145 rfl (lv_at hl 5 rfl) ?_
              refine lv_if_ne (tgt := 153) C.1 C.2.1 dX12_read_146 (by decide) (fun c73 => ?_) (fun c73 => ?_)
              · exact absurd c73 (by decide)
              · refine lv_iload_n C.1 C.2.1 dX12_read_149 rfl (lv_at hl 2 rfl) ?_
                refine lv_goto (tgt := 165) C.1 C.2.1 dX12_read_150 (by decide) ?_
                exact mw_iret C hr hlk Z hP hS dX12_read_165 (⟨fq.tr (mFp.q ((((mFp.rf u2).tr f13).tr f33).tr f53)), by rw [gText_3 (by rw [e0]; exact hg10) (by rw [e19]; exact hg30) (by rw [e39]; exact hg50)]; exact hb62⟩)
            · exact absurd c72 (by decide)
        · exact absurd c43 (by decide)
      · rw [hg30] at q29
        obtain ⟨f33, hb42⟩ := q29
        refine lv_istore (lv' := [(4, .int r27), (3, .int r7), (0, .ref (mw_a E 0)), (1, .int (nI t)), (2, .int 0)]) C.1 C.2.1 dX12_read_90 hl (by decide) rfl (fun ls hl => ?_)
        refine lv_aload_n C.1 C.2.1 dX12_read_92 rfl (lv_at hl 2 rfl) ?_
        refine mw_geti C Z hP (0) 24 (by decide) rfl rfl rfl (by decide) inX12 tw_4_188 dX12_read_93 ?_
        refine mw_top (y := 1) (hb42.1) ?_
        refine lv_if_eq (tgt := 103) C.1 C.2.1 dX12_read_96 (by decide) (fun c74 => ?_) (fun c74 => ?_)
        · exact absurd c74 (by decide)
        · refine lv_iconst (v := 0) C.1 C.2.1 dX12_read_99 (by decide) ?_
          refine lv_goto (tgt := 125) C.1 C.2.1 dX12_read_100 (by decide) ?_
          refine lv_istore (lv' := [(5, .int 0), (4, .int r27), (3, .int r7), (0, .ref (mw_a E 0)), (1, .int (nI t)), (2, .int 0)]) C.1 C.2.1 dX12_read_125 hl (by decide) rfl (fun ls hl => ?_)
          refine lv_aload_n C.1 C.2.1 dX12_read_127 rfl (lv_at hl 3 rfl) ?_
          refine mw_geti C Z hP (0) 24 (by decide) rfl rfl rfl (by decide) inX12 tw_4_188 dX12_read_128 ?_
          refine mw_top (y := 1) (hb42.1) ?_
          refine lv_if_ne (tgt := 145) C.1 C.2.1 dX12_read_131 (by decide) (fun c75 => ?_) (fun c75 => ?_)
          · refine lv_iload_n C.1 C.2.1 dX12_read_145 rfl (lv_at hl 5 rfl) ?_
            refine lv_if_ne (tgt := 153) C.1 C.2.1 dX12_read_146 (by decide) (fun c76 => ?_) (fun c76 => ?_)
            · exact absurd c76 (by decide)
            · refine lv_iload_n C.1 C.2.1 dX12_read_149 rfl (lv_at hl 2 rfl) ?_
              refine lv_goto (tgt := 165) C.1 C.2.1 dX12_read_150 (by decide) ?_
              exact mw_iret C hr hlk Z hP hS dX12_read_165 (⟨fq.tr (mFp.q (((mFp.rf u2).tr f13).tr f33)), by rw [gText_2 (by rw [e0]; exact hg10) (by rw [e19]; exact hg30)]; exact hb42⟩)
          · exact absurd c75 (by decide)
    · exact absurd c23 (by decide)
  · rw [hg10] at q9
    obtain ⟨f13, hb22⟩ := q9
    refine lv_istore_n (lv' := [(3, .int r7), (0, .ref (mw_a E 0)), (1, .int (nI t)), (2, .int 0)]) C.1 C.2.1 dX12_read_58 rfl hl (by decide) rfl (fun ls hl => ?_)
    refine lv_aload_n C.1 C.2.1 dX12_read_59 rfl (lv_at hl 1 rfl) ?_
    refine mw_geti C Z hP (0) 24 (by decide) rfl rfl rfl (by decide) inX12 tw_4_188 dX12_read_60 ?_
    refine mw_top (y := 1) (hb22.1) ?_
    refine lv_if_eq (tgt := 70) C.1 C.2.1 dX12_read_63 (by decide) (fun c77 => ?_) (fun c77 => ?_)
    · exact absurd c77 (by decide)
    · refine lv_iconst (v := 0) C.1 C.2.1 dX12_read_66 (by decide) ?_
      refine lv_goto (tgt := 90) C.1 C.2.1 dX12_read_67 (by decide) ?_
      refine lv_istore (lv' := [(4, .int 0), (3, .int r7), (0, .ref (mw_a E 0)), (1, .int (nI t)), (2, .int 0)]) C.1 C.2.1 dX12_read_90 hl (by decide) rfl (fun ls hl => ?_)
      refine lv_aload_n C.1 C.2.1 dX12_read_92 rfl (lv_at hl 2 rfl) ?_
      refine mw_geti C Z hP (0) 24 (by decide) rfl rfl rfl (by decide) inX12 tw_4_188 dX12_read_93 ?_
      refine mw_top (y := 1) (hb22.1) ?_
      refine lv_if_eq (tgt := 103) C.1 C.2.1 dX12_read_96 (by decide) (fun c78 => ?_) (fun c78 => ?_)
      · exact absurd c78 (by decide)
      · refine lv_iconst (v := 0) C.1 C.2.1 dX12_read_99 (by decide) ?_
        refine lv_goto (tgt := 125) C.1 C.2.1 dX12_read_100 (by decide) ?_
        refine lv_istore (lv' := [(5, .int 0), (4, .int 0), (3, .int r7), (0, .ref (mw_a E 0)), (1, .int (nI t)), (2, .int 0)]) C.1 C.2.1 dX12_read_125 hl (by decide) rfl (fun ls hl => ?_)
        refine lv_aload_n C.1 C.2.1 dX12_read_127 rfl (lv_at hl 3 rfl) ?_
        refine mw_geti C Z hP (0) 24 (by decide) rfl rfl rfl (by decide) inX12 tw_4_188 dX12_read_128 ?_
        refine mw_top (y := 1) (hb22.1) ?_
        refine lv_if_ne (tgt := 145) C.1 C.2.1 dX12_read_131 (by decide) (fun c79 => ?_) (fun c79 => ?_)
        · refine lv_iload_n C.1 C.2.1 dX12_read_145 rfl (lv_at hl 5 rfl) ?_
          refine lv_if_ne (tgt := 153) C.1 C.2.1 dX12_read_146 (by decide) (fun c80 => ?_) (fun c80 => ?_)
          · exact absurd c80 (by decide)
          · refine lv_iload_n C.1 C.2.1 dX12_read_149 rfl (lv_at hl 2 rfl) ?_
            refine lv_goto (tgt := 165) C.1 C.2.1 dX12_read_150 (by decide) ?_
            exact mw_iret C hr hlk Z hP hS dX12_read_165 (⟨fq.tr (mFp.q ((mFp.rf u2).tr f13)), by rw [gText_1 (by rw [e0]; exact hg10)]; exact hb22⟩)
        · exact absurd c79 (by decide)

set_option maxHeartbeats 4000000 in
set_option maxRecDepth 100000 in
theorem cM_read1 (l : Launch) (E : mw_E) (σ : mw_M) (t n : Nat) (bs : Nat → Int32) (hTt : mTt σ t n bs) : mw_Ci shM 13 gM l yX12_read cX12_read 6 (some .int) (rmF 41 905) E [.ref (mw_a E 0), .int (nI t), .int 1] σ (fun r u => mRd σ u 1 r (gText (tkA bs n 0))) := by
  refine mw_of (by decide) gM_ok (Nat.le_of_ble_eq_true rfl) ?_
  intro p_ e_ s_ m_ below meth c_ C hr hlk Z hP ls hl
  have C : CallFix p_ m_ c_ cX12_read 6 s_ _ lw_good RX12 := C
  have hl : lv_has ls 6 [(0, .ref (mw_a E 0)), (1, .int (nI t)), (2, .int 1)] := hl
  have hS : va_S (mw_A 13 E) s_.heap s_.heap [] := va_S.rf
  obtain ⟨hsz, ht, hn, hbs⟩ := hTt
  refine lv_aload_n C.1 C.2.1 dX12_read_0 rfl (lv_at hl 0 rfl) ?_
  refine lv_sipush (v := 160) C.1 C.2.1 dX12_read_1 (by decide) ?_
  refine lv_iload_n C.1 C.2.1 dX12_read_4 rfl (lv_at hl 1 rfl) ?_
  refine lv_imul C.1 C.2.1 dX12_read_5 ?_
  refine mw_top (y := nI (160 * t)) (pk_mul 160 t) ?_
  refine mw_puti C Z hP hS (0) 17 (by decide) rfl rfl rfl (by decide) inX12 tyX12 tyX12_ok nmX12 rfl tw_4_181 rfl rfl dX12_read_6 (fun H locs hP hS => ?_)
  refine lv_aload_n C.1 C.2.1 dX12_read_9 rfl (lv_at hl 0 rfl) ?_
  refine lv_aload_n C.1 C.2.1 dX12_read_10 rfl (lv_at hl 0 rfl) ?_
  refine mw_getr C Z hP (0) 2 (2) (by decide) rfl rfl rfl (by decide) inX12 tw_4_166 dX12_read_11 ?_
  refine lv_iload_n C.1 C.2.1 dX12_read_14 rfl (lv_at hl 1 rfl) ?_
  refine mw_iald C Z hP (2) (t) (by decide) rfl (Nat.lt_of_lt_of_le (by decide : 6 < 961) (Nat.le_of_ble_eq_true rfl)) rfl (by omega) dX12_read_15 ?_
  refine mw_top (y := σ.2.1 2 t) (rfl) ?_
  refine mw_top (y := nI n) hsz ?_
  refine mw_puti C Z hP hS (0) 18 (by decide) rfl rfl rfl (by decide) inX12 tyX12 tyX12_ok nmX12 rfl tw_4_182 rfl rfl dX12_read_16 (fun H locs hP hS => ?_)
  refine lv_aload_n C.1 C.2.1 dX12_read_19 rfl (lv_at hl 0 rfl) ?_
  refine lv_iconst (v := 0) C.1 C.2.1 dX12_read_20 (by decide) ?_
  refine mw_puti C Z hP hS (0) 19 (by decide) rfl rfl rfl (by decide) inX12 tyX12 tyX12_ok nmX12 rfl tw_4_183 rfl rfl dX12_read_21 (fun H locs hP hS => ?_)
  refine lv_aload_n C.1 C.2.1 dX12_read_24 rfl (lv_at hl 0 rfl) ?_
  refine lv_iconst (v := 0) C.1 C.2.1 dX12_read_25 (by decide) ?_
  refine mw_puti C Z hP hS (0) 23 (by decide) rfl rfl rfl (by decide) inX12 tyX12 tyX12_ok nmX12 rfl tw_4_187 rfl rfl dX12_read_26 (fun H locs hP hS => ?_)
  refine lv_aload_n C.1 C.2.1 dX12_read_29 rfl (lv_at hl 0 rfl) ?_
  refine lv_iconst (v := 0) C.1 C.2.1 dX12_read_30 (by decide) ?_
  refine mw_puti C Z hP hS (0) 24 (by decide) rfl rfl rfl (by decide) inX12 tyX12 tyX12_ok nmX12 rfl tw_4_188 rfl rfl dX12_read_31 (fun H locs hP hS => ?_)
  refine lv_aload_n C.1 C.2.1 dX12_read_34 rfl (lv_at hl 0 rfl) ?_
  have hT0 : mTx (mw_si (mw_si (mw_si (mw_si (mw_si σ 0 17 (nI (160 * t))) 0 18 (nI n)) 0 19 0) 0 23 0) 0 24 0) t n bs := ⟨rfl, rfl, ht, hn, hbs⟩
  refine mw_cVv (As := []) (rest := []) C Z hP hS (0) (cM_next l E (mw_si (mw_si (mw_si (mw_si (mw_si σ 0 17 (nI (160 * t))) 0 18 (nI n)) 0 19 0) 0 23 0) 0 24 0) t n 0 bs hT0 rfl (Nat.zero_le n)) vb_X12_next tw_5_64 ⟨rfl, rfl⟩ ⟨Nat.le_of_ble_eq_true rfl, Nat.le_of_ble_eq_true rfl⟩ (by decide) rfl rfl rfl rfl hl.1 rfl (Nat.le_of_ble_eq_true rfl) dX12_read_35 ⟨Nat.zero_le _, Nat.zero_le _⟩ (fun u2 H locs q3 hP hS => ?_)
  obtain ⟨hl0, hf0⟩ := q3
  obtain ⟨k, p, ts, e0, hk0⟩ := mLx_tk hn hl0
  have h : mPS u2 t n bs k p ts 0 := ⟨hf0.tx hT0, (hf0.2 24 (by omega)).trans rfl, (hf0.2 23 (by omega)).trans rfl, hk0⟩
  have fq : mFq σ u2 := (((((mFq.rf σ).si (by decide) _).si (by decide) _).si (by decide) _).si (by decide) _).si (by decide) _ |>.tr hf0.p.q
  refine lv_aload_n C.1 C.2.1 dX12_read_38 rfl (lv_at hl 0 rfl) ?_
  refine lv_aload_n C.1 C.2.1 dX12_read_39 rfl (lv_at hl 0 rfl) ?_
  refine lv_bipush (v := 101) C.1 C.2.1 dX12_read_40 (by decide) ?_
  refine lv_bipush (v := 97) C.1 C.2.1 dX12_read_42 (by decide) ?_
  refine lv_bipush (v := 116) C.1 C.2.1 dX12_read_44 (by decide) ?_
  refine lv_bipush (v := 115) C.1 C.2.1 dX12_read_46 (by decide) ?_
  refine lv_iconst (v := 0) C.1 C.2.1 dX12_read_48 (by decide) ?_
  refine lv_iconst (v := 0) C.1 C.2.1 dX12_read_49 (by decide) ?_
  refine lv_iconst (v := 0) C.1 C.2.1 dX12_read_50 (by decide) ?_
  refine lv_iconst (v := 0) C.1 C.2.1 dX12_read_51 (by decide) ?_
  refine mw_cVi (As := [.int 101, .int 97, .int 116, .int 115, .int 0, .int 0, .int 0, .int 0]) (rest := [.ref (mw_a E 0)]) C Z hP hS (0) (cM_isWordP l E u2 t n bs k p ts 0 h 6 (by decide)) vb_X12_isWord tw_5_77 ⟨rfl, rfl⟩ ⟨Nat.le_of_ble_eq_true rfl, Nat.le_of_ble_eq_true rfl⟩ (by decide) rfl rfl rfl rfl hl.1 rfl (Nat.le_of_ble_eq_true rfl) dX12_read_52 ⟨Nat.zero_le _, Nat.zero_le _⟩ (fun r4 u5 H locs q6 hP hS => ?_)
  obtain ⟨rfl, q6u⟩ := q6
  rw [q6u] at hP; clear q6u
  refine mw_cVi (As := [.int (bI (k = 6))]) (rest := []) C Z hP hS (0) (cM_part l E u2 t n bs k p ts 6 (by decide) h) vb_X12_part tw_5_85 ⟨rfl, rfl⟩ ⟨Nat.le_of_ble_eq_true rfl, Nat.le_of_ble_eq_true rfl⟩ (by decide) rfl rfl rfl rfl hl.1 rfl (Nat.le_of_ble_eq_true rfl) dX12_read_55 ⟨Nat.zero_le _, Nat.zero_le _⟩ (fun r7 u8 H locs q9 hP hS => ?_)
  rcases hg10 : gPart 6 ((k, p) :: ts) with zz11 | qq12
  · obtain ⟨cs14, ts15⟩ := zz11
    rw [hg10] at q9
    obtain ⟨f13, ⟨k16, p17, ts18, e19, h20⟩, v21⟩ := q9
    have v21 := (mFp.rf u2).evv v21
    refine lv_istore_n (lv' := [(3, .int r7), (0, .ref (mw_a E 0)), (1, .int (nI t)), (2, .int 1)]) C.1 C.2.1 dX12_read_58 rfl hl (by decide) rfl (fun ls hl => ?_)
    refine lv_aload_n C.1 C.2.1 dX12_read_59 rfl (lv_at hl 1 rfl) ?_
    refine mw_geti C Z hP (0) 24 (by decide) rfl rfl rfl (by decide) inX12 tw_4_188 dX12_read_60 ?_
    refine mw_top (y := 0) (h20.2.1) ?_
    refine lv_if_eq (tgt := 70) C.1 C.2.1 dX12_read_63 (by decide) (fun c23 => ?_) (fun c23 => ?_)
    · refine lv_aload_n C.1 C.2.1 dX12_read_70 rfl (lv_at hl 1 rfl) ?_
      refine lv_aload_n C.1 C.2.1 dX12_read_71 rfl (lv_at hl 1 rfl) ?_
      refine lv_bipush (v := 111) C.1 C.2.1 dX12_read_72 (by decide) ?_
      refine lv_bipush (v := 100) C.1 C.2.1 dX12_read_74 (by decide) ?_
      refine lv_bipush (v := 100) C.1 C.2.1 dX12_read_76 (by decide) ?_
      refine lv_bipush (v := 115) C.1 C.2.1 dX12_read_78 (by decide) ?_
      refine lv_iconst (v := 0) C.1 C.2.1 dX12_read_80 (by decide) ?_
      refine lv_iconst (v := 0) C.1 C.2.1 dX12_read_81 (by decide) ?_
      refine lv_iconst (v := 0) C.1 C.2.1 dX12_read_82 (by decide) ?_
      refine lv_iconst (v := 0) C.1 C.2.1 dX12_read_83 (by decide) ?_
      refine mw_cVi (As := [.int 111, .int 100, .int 100, .int 115, .int 0, .int 0, .int 0, .int 0]) (rest := [.ref (mw_a E 0)]) C Z hP hS (0) (cM_isWordP l E u8 t n bs k16 p17 ts18 0 h20 7 (by decide)) vb_X12_isWord tw_5_77 ⟨rfl, rfl⟩ ⟨Nat.le_of_ble_eq_true rfl, Nat.le_of_ble_eq_true rfl⟩ (by decide) rfl rfl rfl rfl hl.1 rfl (Nat.le_of_ble_eq_true rfl) dX12_read_84 ⟨Nat.zero_le _, Nat.zero_le _⟩ (fun r24 u25 H locs q26 hP hS => ?_)
      obtain ⟨rfl, q26u⟩ := q26
      rw [q26u] at hP; clear q26u
      refine mw_cVi (As := [.int (bI (k16 = 7))]) (rest := []) C Z hP hS (0) (cM_part l E u8 t n bs k16 p17 ts18 7 (by decide) h20) vb_X12_part tw_5_85 ⟨rfl, rfl⟩ ⟨Nat.le_of_ble_eq_true rfl, Nat.le_of_ble_eq_true rfl⟩ (by decide) rfl rfl rfl rfl hl.1 rfl (Nat.le_of_ble_eq_true rfl) dX12_read_87 ⟨Nat.zero_le _, Nat.zero_le _⟩ (fun r27 u28 H locs q29 hP hS => ?_)
      rcases hg30 : gPart 7 ((k16, p17) :: ts18) with zz31 | qq32
      · obtain ⟨cs34, ts35⟩ := zz31
        rw [hg30] at q29
        obtain ⟨f33, ⟨k36, p37, ts38, e39, h40⟩, v41⟩ := q29
        have v41 := ((mFp.rf u2).tr f13).evv v41
        refine lv_istore (lv' := [(4, .int r27), (3, .int r7), (0, .ref (mw_a E 0)), (1, .int (nI t)), (2, .int 1)]) C.1 C.2.1 dX12_read_90 hl (by decide) rfl (fun ls hl => ?_)
        refine lv_aload_n C.1 C.2.1 dX12_read_92 rfl (lv_at hl 2 rfl) ?_
        refine mw_geti C Z hP (0) 24 (by decide) rfl rfl rfl (by decide) inX12 tw_4_188 dX12_read_93 ?_
        refine mw_top (y := 0) (h40.2.1) ?_
        refine lv_if_eq (tgt := 103) C.1 C.2.1 dX12_read_96 (by decide) (fun c43 => ?_) (fun c43 => ?_)
        · refine lv_aload_n C.1 C.2.1 dX12_read_103 rfl (lv_at hl 2 rfl) ?_
          refine lv_aload_n C.1 C.2.1 dX12_read_104 rfl (lv_at hl 2 rfl) ?_
          refine lv_bipush (v := 115) C.1 C.2.1 dX12_read_105 (by decide) ?_
          refine lv_bipush (v := 112) C.1 C.2.1 dX12_read_107 (by decide) ?_
          refine lv_bipush (v := 101) C.1 C.2.1 dX12_read_109 (by decide) ?_
          refine lv_bipush (v := 110) C.1 C.2.1 dX12_read_111 (by decide) ?_
          refine lv_bipush (v := 100) C.1 C.2.1 dX12_read_113 (by decide) ?_
          refine lv_bipush (v := 115) C.1 C.2.1 dX12_read_115 (by decide) ?_
          refine lv_iconst (v := 0) C.1 C.2.1 dX12_read_117 (by decide) ?_
          refine lv_iconst (v := 0) C.1 C.2.1 dX12_read_118 (by decide) ?_
          refine mw_cVi (As := [.int 115, .int 112, .int 101, .int 110, .int 100, .int 115, .int 0, .int 0]) (rest := [.ref (mw_a E 0)]) C Z hP hS (0) (cM_isWordP l E u28 t n bs k36 p37 ts38 0 h40 8 (by decide)) vb_X12_isWord tw_5_77 ⟨rfl, rfl⟩ ⟨Nat.le_of_ble_eq_true rfl, Nat.le_of_ble_eq_true rfl⟩ (by decide) rfl rfl rfl rfl hl.1 rfl (Nat.le_of_ble_eq_true rfl) dX12_read_119 ⟨Nat.zero_le _, Nat.zero_le _⟩ (fun r44 u45 H locs q46 hP hS => ?_)
          obtain ⟨rfl, q46u⟩ := q46
          rw [q46u] at hP; clear q46u
          refine mw_cVi (As := [.int (bI (k36 = 8))]) (rest := []) C Z hP hS (0) (cM_part l E u28 t n bs k36 p37 ts38 8 (by decide) h40) vb_X12_part tw_5_85 ⟨rfl, rfl⟩ ⟨Nat.le_of_ble_eq_true rfl, Nat.le_of_ble_eq_true rfl⟩ (by decide) rfl rfl rfl rfl hl.1 rfl (Nat.le_of_ble_eq_true rfl) dX12_read_122 ⟨Nat.zero_le _, Nat.zero_le _⟩ (fun r47 u48 H locs q49 hP hS => ?_)
          rcases hg50 : gPart 8 ((k36, p37) :: ts38) with zz51 | qq52
          · obtain ⟨cs54, ts55⟩ := zz51
            rw [hg50] at q49
            obtain ⟨f53, ⟨k56, p57, ts58, e59, h60⟩, v61⟩ := q49
            have v61 := (((mFp.rf u2).tr f13).tr f33).evv v61
            refine lv_istore (lv' := [(5, .int r47), (4, .int r27), (3, .int r7), (0, .ref (mw_a E 0)), (1, .int (nI t)), (2, .int 1)]) C.1 C.2.1 dX12_read_125 hl (by decide) rfl (fun ls hl => ?_)
            refine lv_aload_n C.1 C.2.1 dX12_read_127 rfl (lv_at hl 3 rfl) ?_
            refine mw_geti C Z hP (0) 24 (by decide) rfl rfl rfl (by decide) inX12 tw_4_188 dX12_read_128 ?_
            refine mw_top (y := 0) (h60.2.1) ?_
            refine lv_if_ne (tgt := 145) C.1 C.2.1 dX12_read_131 (by decide) (fun c63 => ?_) (fun c63 => ?_)
            · exact absurd c63 (by decide)
            · refine lv_aload_n C.1 C.2.1 dX12_read_134 rfl (lv_at hl 3 rfl) ?_
              refine mw_geti C Z hP (0) 20 (by decide) rfl rfl rfl (by decide) inX12 tw_4_184 dX12_read_135 ?_
              refine lv_if_eq (tgt := 145) C.1 C.2.1 dX12_read_138 (by decide) (fun c64 => ?_) (fun c64 => ?_)
              · refine lv_iload_n C.1 C.2.1 dX12_read_145 rfl (lv_at hl 5 rfl) ?_
                refine lv_if_ne (tgt := 153) C.1 C.2.1 dX12_read_146 (by decide) (fun c65 => ?_) (fun c65 => ?_)
                · refine lv_iload_n C.1 C.2.1 dX12_read_153 rfl (lv_at hl 5 rfl) ?_
                  refine lv_iconst (v := 1) C.1 C.2.1 dX12_read_154 (by decide) ?_
                  refine lv_icmp_ne (tgt := 163) C.1 C.2.1 dX12_read_155 (by decide) (fun c66 => ?_) (fun c66 => ?_)
                  · exact absurd c66 (by decide)
                  · refine lv_iload C.1 C.2.1 dX12_read_158 (lv_at hl 1 rfl) ?_
                    refine lv_goto (tgt := 165) C.1 C.2.1 dX12_read_160 (by decide) ?_
                    exact mw_iret C hr hlk Z hP hS dX12_read_165 (⟨fq.tr (mFp.q ((((mFp.rf u2).tr f13).tr f33).tr f53)), by rw [gText_4 (by rw [e0]; exact hg10) (by rw [e19]; exact hg30) (by rw [e39, ← e59]; exact hg50) (h60.2.2.2.1.2.2.1.mp c64)]; exact ⟨h60.2.1, fq.evv v41⟩⟩)
                · exact absurd c65 (by decide)
              · refine lv_aload_n C.1 C.2.1 dX12_read_141 rfl (lv_at hl 3 rfl) ?_
                refine mw_cVv (As := []) (rest := []) C Z hP hS (0) (cM_failP l E u48 t n bs k56 p57 ts58 0 h60) vb_X12_fail tw_5_89 ⟨rfl, rfl⟩ ⟨Nat.le_of_ble_eq_true rfl, Nat.le_of_ble_eq_true rfl⟩ (by decide) rfl rfl rfl rfl hl.1 rfl (Nat.le_of_ble_eq_true rfl) dX12_read_142 ⟨Nat.zero_le _, Nat.zero_le _⟩ (fun u68 H locs q69 hP hS => ?_)
                obtain ⟨hb70, f71⟩ := q69
                refine lv_iload_n C.1 C.2.1 dX12_read_145 rfl (lv_at hl 5 rfl) ?_
                refine lv_if_ne (tgt := 153) C.1 C.2.1 dX12_read_146 (by decide) (fun c72 => ?_) (fun c72 => ?_)
                · refine lv_iload_n C.1 C.2.1 dX12_read_153 rfl (lv_at hl 5 rfl) ?_
                  refine lv_iconst (v := 1) C.1 C.2.1 dX12_read_154 (by decide) ?_
                  refine lv_icmp_ne (tgt := 163) C.1 C.2.1 dX12_read_155 (by decide) (fun c73 => ?_) (fun c73 => ?_)
                  · exact absurd c73 (by decide)
                  · refine lv_iload C.1 C.2.1 dX12_read_158 (lv_at hl 1 rfl) ?_
                    refine lv_goto (tgt := 165) C.1 C.2.1 dX12_read_160 (by decide) ?_
                    exact mw_iret C hr hlk Z hP hS dX12_read_165 (⟨fq.tr (mFp.q (((((mFp.rf u2).tr f13).tr f33).tr f53).tr f71)), by rw [gText_5 (by rw [e0]; exact hg10) (by rw [e19]; exact hg30) (by rw [e39, ← e59]; exact hg50) (fun y => c64 (h60.2.2.2.1.2.2.1.mpr y))]; exact hb70⟩)
                · exact absurd c72 (by decide)
          · rw [hg50] at q49
            obtain ⟨f53, hb62⟩ := q49
            refine lv_istore (lv' := [(5, .int r47), (4, .int r27), (3, .int r7), (0, .ref (mw_a E 0)), (1, .int (nI t)), (2, .int 1)]) C.1 C.2.1 dX12_read_125 hl (by decide) rfl (fun ls hl => ?_)
            refine lv_aload_n C.1 C.2.1 dX12_read_127 rfl (lv_at hl 3 rfl) ?_
            refine mw_geti C Z hP (0) 24 (by decide) rfl rfl rfl (by decide) inX12 tw_4_188 dX12_read_128 ?_
            refine mw_top (y := 1) (hb62.1) ?_
            refine lv_if_ne (tgt := 145) C.1 C.2.1 dX12_read_131 (by decide) (fun c74 => ?_) (fun c74 => ?_)
            · refine lv_iload_n C.1 C.2.1 dX12_read_145 rfl (lv_at hl 5 rfl) ?_
              refine lv_if_ne (tgt := 153) C.1 C.2.1 dX12_read_146 (by decide) (fun c75 => ?_) (fun c75 => ?_)
              · refine lv_iload_n C.1 C.2.1 dX12_read_153 rfl (lv_at hl 5 rfl) ?_
                refine lv_iconst (v := 1) C.1 C.2.1 dX12_read_154 (by decide) ?_
                refine lv_icmp_ne (tgt := 163) C.1 C.2.1 dX12_read_155 (by decide) (fun c76 => ?_) (fun c76 => ?_)
                · exact absurd c76 (by decide)
                · refine lv_iload C.1 C.2.1 dX12_read_158 (lv_at hl 1 rfl) ?_
                  refine lv_goto (tgt := 165) C.1 C.2.1 dX12_read_160 (by decide) ?_
                  exact mw_iret C hr hlk Z hP hS dX12_read_165 (⟨fq.tr (mFp.q ((((mFp.rf u2).tr f13).tr f33).tr f53)), by rw [gText_3 (by rw [e0]; exact hg10) (by rw [e19]; exact hg30) (by rw [e39]; exact hg50)]; exact hb62⟩)
              · exact absurd c75 (by decide)
            · exact absurd c74 (by decide)
        · exact absurd c43 (by decide)
      · rw [hg30] at q29
        obtain ⟨f33, hb42⟩ := q29
        refine lv_istore (lv' := [(4, .int r27), (3, .int r7), (0, .ref (mw_a E 0)), (1, .int (nI t)), (2, .int 1)]) C.1 C.2.1 dX12_read_90 hl (by decide) rfl (fun ls hl => ?_)
        refine lv_aload_n C.1 C.2.1 dX12_read_92 rfl (lv_at hl 2 rfl) ?_
        refine mw_geti C Z hP (0) 24 (by decide) rfl rfl rfl (by decide) inX12 tw_4_188 dX12_read_93 ?_
        refine mw_top (y := 1) (hb42.1) ?_
        refine lv_if_eq (tgt := 103) C.1 C.2.1 dX12_read_96 (by decide) (fun c77 => ?_) (fun c77 => ?_)
        · exact absurd c77 (by decide)
        · refine lv_iconst (v := 0) C.1 C.2.1 dX12_read_99 (by decide) ?_
          refine lv_goto (tgt := 125) C.1 C.2.1 dX12_read_100 (by decide) ?_
          refine lv_istore (lv' := [(5, .int 0), (4, .int r27), (3, .int r7), (0, .ref (mw_a E 0)), (1, .int (nI t)), (2, .int 1)]) C.1 C.2.1 dX12_read_125 hl (by decide) rfl (fun ls hl => ?_)
          refine lv_aload_n C.1 C.2.1 dX12_read_127 rfl (lv_at hl 3 rfl) ?_
          refine mw_geti C Z hP (0) 24 (by decide) rfl rfl rfl (by decide) inX12 tw_4_188 dX12_read_128 ?_
          refine mw_top (y := 1) (hb42.1) ?_
          refine lv_if_ne (tgt := 145) C.1 C.2.1 dX12_read_131 (by decide) (fun c78 => ?_) (fun c78 => ?_)
          · refine lv_iload_n C.1 C.2.1 dX12_read_145 rfl (lv_at hl 5 rfl) ?_
            refine lv_if_ne (tgt := 153) C.1 C.2.1 dX12_read_146 (by decide) (fun c79 => ?_) (fun c79 => ?_)
            · refine lv_iload_n C.1 C.2.1 dX12_read_153 rfl (lv_at hl 5 rfl) ?_
              refine lv_iconst (v := 1) C.1 C.2.1 dX12_read_154 (by decide) ?_
              refine lv_icmp_ne (tgt := 163) C.1 C.2.1 dX12_read_155 (by decide) (fun c80 => ?_) (fun c80 => ?_)
              · exact absurd c80 (by decide)
              · refine lv_iload C.1 C.2.1 dX12_read_158 (lv_at hl 1 rfl) ?_
                refine lv_goto (tgt := 165) C.1 C.2.1 dX12_read_160 (by decide) ?_
                exact mw_iret C hr hlk Z hP hS dX12_read_165 (⟨fq.tr (mFp.q (((mFp.rf u2).tr f13).tr f33)), by rw [gText_2 (by rw [e0]; exact hg10) (by rw [e19]; exact hg30)]; exact hb42⟩)
            · exact absurd c79 (by decide)
          · exact absurd c78 (by decide)
    · exact absurd c23 (by decide)
  · rw [hg10] at q9
    obtain ⟨f13, hb22⟩ := q9
    refine lv_istore_n (lv' := [(3, .int r7), (0, .ref (mw_a E 0)), (1, .int (nI t)), (2, .int 1)]) C.1 C.2.1 dX12_read_58 rfl hl (by decide) rfl (fun ls hl => ?_)
    refine lv_aload_n C.1 C.2.1 dX12_read_59 rfl (lv_at hl 1 rfl) ?_
    refine mw_geti C Z hP (0) 24 (by decide) rfl rfl rfl (by decide) inX12 tw_4_188 dX12_read_60 ?_
    refine mw_top (y := 1) (hb22.1) ?_
    refine lv_if_eq (tgt := 70) C.1 C.2.1 dX12_read_63 (by decide) (fun c81 => ?_) (fun c81 => ?_)
    · exact absurd c81 (by decide)
    · refine lv_iconst (v := 0) C.1 C.2.1 dX12_read_66 (by decide) ?_
      refine lv_goto (tgt := 90) C.1 C.2.1 dX12_read_67 (by decide) ?_
      refine lv_istore (lv' := [(4, .int 0), (3, .int r7), (0, .ref (mw_a E 0)), (1, .int (nI t)), (2, .int 1)]) C.1 C.2.1 dX12_read_90 hl (by decide) rfl (fun ls hl => ?_)
      refine lv_aload_n C.1 C.2.1 dX12_read_92 rfl (lv_at hl 2 rfl) ?_
      refine mw_geti C Z hP (0) 24 (by decide) rfl rfl rfl (by decide) inX12 tw_4_188 dX12_read_93 ?_
      refine mw_top (y := 1) (hb22.1) ?_
      refine lv_if_eq (tgt := 103) C.1 C.2.1 dX12_read_96 (by decide) (fun c82 => ?_) (fun c82 => ?_)
      · exact absurd c82 (by decide)
      · refine lv_iconst (v := 0) C.1 C.2.1 dX12_read_99 (by decide) ?_
        refine lv_goto (tgt := 125) C.1 C.2.1 dX12_read_100 (by decide) ?_
        refine lv_istore (lv' := [(5, .int 0), (4, .int 0), (3, .int r7), (0, .ref (mw_a E 0)), (1, .int (nI t)), (2, .int 1)]) C.1 C.2.1 dX12_read_125 hl (by decide) rfl (fun ls hl => ?_)
        refine lv_aload_n C.1 C.2.1 dX12_read_127 rfl (lv_at hl 3 rfl) ?_
        refine mw_geti C Z hP (0) 24 (by decide) rfl rfl rfl (by decide) inX12 tw_4_188 dX12_read_128 ?_
        refine mw_top (y := 1) (hb22.1) ?_
        refine lv_if_ne (tgt := 145) C.1 C.2.1 dX12_read_131 (by decide) (fun c83 => ?_) (fun c83 => ?_)
        · refine lv_iload_n C.1 C.2.1 dX12_read_145 rfl (lv_at hl 5 rfl) ?_
          refine lv_if_ne (tgt := 153) C.1 C.2.1 dX12_read_146 (by decide) (fun c84 => ?_) (fun c84 => ?_)
          · refine lv_iload_n C.1 C.2.1 dX12_read_153 rfl (lv_at hl 5 rfl) ?_
            refine lv_iconst (v := 1) C.1 C.2.1 dX12_read_154 (by decide) ?_
            refine lv_icmp_ne (tgt := 163) C.1 C.2.1 dX12_read_155 (by decide) (fun c85 => ?_) (fun c85 => ?_)
            · exact absurd c85 (by decide)
            · refine lv_iload C.1 C.2.1 dX12_read_158 (lv_at hl 1 rfl) ?_
              refine lv_goto (tgt := 165) C.1 C.2.1 dX12_read_160 (by decide) ?_
              exact mw_iret C hr hlk Z hP hS dX12_read_165 (⟨fq.tr (mFp.q ((mFp.rf u2).tr f13)), by rw [gText_1 (by rw [e0]; exact hg10)]; exact hb22⟩)
          · exact absurd c84 (by decide)
        · exact absurd c83 (by decide)

set_option maxHeartbeats 4000000 in
set_option maxRecDepth 100000 in
theorem cM_read2 (l : Launch) (E : mw_E) (σ : mw_M) (t n : Nat) (bs : Nat → Int32) (hTt : mTt σ t n bs) : mw_Ci shM 13 gM l yX12_read cX12_read 6 (some .int) (rmF 41 905) E [.ref (mw_a E 0), .int (nI t), .int 2] σ (fun r u => mRd σ u 2 r (gText (tkA bs n 0))) := by
  refine mw_of (by decide) gM_ok (Nat.le_of_ble_eq_true rfl) ?_
  intro p_ e_ s_ m_ below meth c_ C hr hlk Z hP ls hl
  have C : CallFix p_ m_ c_ cX12_read 6 s_ _ lw_good RX12 := C
  have hl : lv_has ls 6 [(0, .ref (mw_a E 0)), (1, .int (nI t)), (2, .int 2)] := hl
  have hS : va_S (mw_A 13 E) s_.heap s_.heap [] := va_S.rf
  obtain ⟨hsz, ht, hn, hbs⟩ := hTt
  refine lv_aload_n C.1 C.2.1 dX12_read_0 rfl (lv_at hl 0 rfl) ?_
  refine lv_sipush (v := 160) C.1 C.2.1 dX12_read_1 (by decide) ?_
  refine lv_iload_n C.1 C.2.1 dX12_read_4 rfl (lv_at hl 1 rfl) ?_
  refine lv_imul C.1 C.2.1 dX12_read_5 ?_
  refine mw_top (y := nI (160 * t)) (pk_mul 160 t) ?_
  refine mw_puti C Z hP hS (0) 17 (by decide) rfl rfl rfl (by decide) inX12 tyX12 tyX12_ok nmX12 rfl tw_4_181 rfl rfl dX12_read_6 (fun H locs hP hS => ?_)
  refine lv_aload_n C.1 C.2.1 dX12_read_9 rfl (lv_at hl 0 rfl) ?_
  refine lv_aload_n C.1 C.2.1 dX12_read_10 rfl (lv_at hl 0 rfl) ?_
  refine mw_getr C Z hP (0) 2 (2) (by decide) rfl rfl rfl (by decide) inX12 tw_4_166 dX12_read_11 ?_
  refine lv_iload_n C.1 C.2.1 dX12_read_14 rfl (lv_at hl 1 rfl) ?_
  refine mw_iald C Z hP (2) (t) (by decide) rfl (Nat.lt_of_lt_of_le (by decide : 6 < 961) (Nat.le_of_ble_eq_true rfl)) rfl (by omega) dX12_read_15 ?_
  refine mw_top (y := σ.2.1 2 t) (rfl) ?_
  refine mw_top (y := nI n) hsz ?_
  refine mw_puti C Z hP hS (0) 18 (by decide) rfl rfl rfl (by decide) inX12 tyX12 tyX12_ok nmX12 rfl tw_4_182 rfl rfl dX12_read_16 (fun H locs hP hS => ?_)
  refine lv_aload_n C.1 C.2.1 dX12_read_19 rfl (lv_at hl 0 rfl) ?_
  refine lv_iconst (v := 0) C.1 C.2.1 dX12_read_20 (by decide) ?_
  refine mw_puti C Z hP hS (0) 19 (by decide) rfl rfl rfl (by decide) inX12 tyX12 tyX12_ok nmX12 rfl tw_4_183 rfl rfl dX12_read_21 (fun H locs hP hS => ?_)
  refine lv_aload_n C.1 C.2.1 dX12_read_24 rfl (lv_at hl 0 rfl) ?_
  refine lv_iconst (v := 0) C.1 C.2.1 dX12_read_25 (by decide) ?_
  refine mw_puti C Z hP hS (0) 23 (by decide) rfl rfl rfl (by decide) inX12 tyX12 tyX12_ok nmX12 rfl tw_4_187 rfl rfl dX12_read_26 (fun H locs hP hS => ?_)
  refine lv_aload_n C.1 C.2.1 dX12_read_29 rfl (lv_at hl 0 rfl) ?_
  refine lv_iconst (v := 0) C.1 C.2.1 dX12_read_30 (by decide) ?_
  refine mw_puti C Z hP hS (0) 24 (by decide) rfl rfl rfl (by decide) inX12 tyX12 tyX12_ok nmX12 rfl tw_4_188 rfl rfl dX12_read_31 (fun H locs hP hS => ?_)
  refine lv_aload_n C.1 C.2.1 dX12_read_34 rfl (lv_at hl 0 rfl) ?_
  have hT0 : mTx (mw_si (mw_si (mw_si (mw_si (mw_si σ 0 17 (nI (160 * t))) 0 18 (nI n)) 0 19 0) 0 23 0) 0 24 0) t n bs := ⟨rfl, rfl, ht, hn, hbs⟩
  refine mw_cVv (As := []) (rest := []) C Z hP hS (0) (cM_next l E (mw_si (mw_si (mw_si (mw_si (mw_si σ 0 17 (nI (160 * t))) 0 18 (nI n)) 0 19 0) 0 23 0) 0 24 0) t n 0 bs hT0 rfl (Nat.zero_le n)) vb_X12_next tw_5_64 ⟨rfl, rfl⟩ ⟨Nat.le_of_ble_eq_true rfl, Nat.le_of_ble_eq_true rfl⟩ (by decide) rfl rfl rfl rfl hl.1 rfl (Nat.le_of_ble_eq_true rfl) dX12_read_35 ⟨Nat.zero_le _, Nat.zero_le _⟩ (fun u2 H locs q3 hP hS => ?_)
  obtain ⟨hl0, hf0⟩ := q3
  obtain ⟨k, p, ts, e0, hk0⟩ := mLx_tk hn hl0
  have h : mPS u2 t n bs k p ts 0 := ⟨hf0.tx hT0, (hf0.2 24 (by omega)).trans rfl, (hf0.2 23 (by omega)).trans rfl, hk0⟩
  have fq : mFq σ u2 := (((((mFq.rf σ).si (by decide) _).si (by decide) _).si (by decide) _).si (by decide) _).si (by decide) _ |>.tr hf0.p.q
  refine lv_aload_n C.1 C.2.1 dX12_read_38 rfl (lv_at hl 0 rfl) ?_
  refine lv_aload_n C.1 C.2.1 dX12_read_39 rfl (lv_at hl 0 rfl) ?_
  refine lv_bipush (v := 101) C.1 C.2.1 dX12_read_40 (by decide) ?_
  refine lv_bipush (v := 97) C.1 C.2.1 dX12_read_42 (by decide) ?_
  refine lv_bipush (v := 116) C.1 C.2.1 dX12_read_44 (by decide) ?_
  refine lv_bipush (v := 115) C.1 C.2.1 dX12_read_46 (by decide) ?_
  refine lv_iconst (v := 0) C.1 C.2.1 dX12_read_48 (by decide) ?_
  refine lv_iconst (v := 0) C.1 C.2.1 dX12_read_49 (by decide) ?_
  refine lv_iconst (v := 0) C.1 C.2.1 dX12_read_50 (by decide) ?_
  refine lv_iconst (v := 0) C.1 C.2.1 dX12_read_51 (by decide) ?_
  refine mw_cVi (As := [.int 101, .int 97, .int 116, .int 115, .int 0, .int 0, .int 0, .int 0]) (rest := [.ref (mw_a E 0)]) C Z hP hS (0) (cM_isWordP l E u2 t n bs k p ts 0 h 6 (by decide)) vb_X12_isWord tw_5_77 ⟨rfl, rfl⟩ ⟨Nat.le_of_ble_eq_true rfl, Nat.le_of_ble_eq_true rfl⟩ (by decide) rfl rfl rfl rfl hl.1 rfl (Nat.le_of_ble_eq_true rfl) dX12_read_52 ⟨Nat.zero_le _, Nat.zero_le _⟩ (fun r4 u5 H locs q6 hP hS => ?_)
  obtain ⟨rfl, q6u⟩ := q6
  rw [q6u] at hP; clear q6u
  refine mw_cVi (As := [.int (bI (k = 6))]) (rest := []) C Z hP hS (0) (cM_part l E u2 t n bs k p ts 6 (by decide) h) vb_X12_part tw_5_85 ⟨rfl, rfl⟩ ⟨Nat.le_of_ble_eq_true rfl, Nat.le_of_ble_eq_true rfl⟩ (by decide) rfl rfl rfl rfl hl.1 rfl (Nat.le_of_ble_eq_true rfl) dX12_read_55 ⟨Nat.zero_le _, Nat.zero_le _⟩ (fun r7 u8 H locs q9 hP hS => ?_)
  rcases hg10 : gPart 6 ((k, p) :: ts) with zz11 | qq12
  · obtain ⟨cs14, ts15⟩ := zz11
    rw [hg10] at q9
    obtain ⟨f13, ⟨k16, p17, ts18, e19, h20⟩, v21⟩ := q9
    have v21 := (mFp.rf u2).evv v21
    refine lv_istore_n (lv' := [(3, .int r7), (0, .ref (mw_a E 0)), (1, .int (nI t)), (2, .int 2)]) C.1 C.2.1 dX12_read_58 rfl hl (by decide) rfl (fun ls hl => ?_)
    refine lv_aload_n C.1 C.2.1 dX12_read_59 rfl (lv_at hl 1 rfl) ?_
    refine mw_geti C Z hP (0) 24 (by decide) rfl rfl rfl (by decide) inX12 tw_4_188 dX12_read_60 ?_
    refine mw_top (y := 0) (h20.2.1) ?_
    refine lv_if_eq (tgt := 70) C.1 C.2.1 dX12_read_63 (by decide) (fun c23 => ?_) (fun c23 => ?_)
    · refine lv_aload_n C.1 C.2.1 dX12_read_70 rfl (lv_at hl 1 rfl) ?_
      refine lv_aload_n C.1 C.2.1 dX12_read_71 rfl (lv_at hl 1 rfl) ?_
      refine lv_bipush (v := 111) C.1 C.2.1 dX12_read_72 (by decide) ?_
      refine lv_bipush (v := 100) C.1 C.2.1 dX12_read_74 (by decide) ?_
      refine lv_bipush (v := 100) C.1 C.2.1 dX12_read_76 (by decide) ?_
      refine lv_bipush (v := 115) C.1 C.2.1 dX12_read_78 (by decide) ?_
      refine lv_iconst (v := 0) C.1 C.2.1 dX12_read_80 (by decide) ?_
      refine lv_iconst (v := 0) C.1 C.2.1 dX12_read_81 (by decide) ?_
      refine lv_iconst (v := 0) C.1 C.2.1 dX12_read_82 (by decide) ?_
      refine lv_iconst (v := 0) C.1 C.2.1 dX12_read_83 (by decide) ?_
      refine mw_cVi (As := [.int 111, .int 100, .int 100, .int 115, .int 0, .int 0, .int 0, .int 0]) (rest := [.ref (mw_a E 0)]) C Z hP hS (0) (cM_isWordP l E u8 t n bs k16 p17 ts18 0 h20 7 (by decide)) vb_X12_isWord tw_5_77 ⟨rfl, rfl⟩ ⟨Nat.le_of_ble_eq_true rfl, Nat.le_of_ble_eq_true rfl⟩ (by decide) rfl rfl rfl rfl hl.1 rfl (Nat.le_of_ble_eq_true rfl) dX12_read_84 ⟨Nat.zero_le _, Nat.zero_le _⟩ (fun r24 u25 H locs q26 hP hS => ?_)
      obtain ⟨rfl, q26u⟩ := q26
      rw [q26u] at hP; clear q26u
      refine mw_cVi (As := [.int (bI (k16 = 7))]) (rest := []) C Z hP hS (0) (cM_part l E u8 t n bs k16 p17 ts18 7 (by decide) h20) vb_X12_part tw_5_85 ⟨rfl, rfl⟩ ⟨Nat.le_of_ble_eq_true rfl, Nat.le_of_ble_eq_true rfl⟩ (by decide) rfl rfl rfl rfl hl.1 rfl (Nat.le_of_ble_eq_true rfl) dX12_read_87 ⟨Nat.zero_le _, Nat.zero_le _⟩ (fun r27 u28 H locs q29 hP hS => ?_)
      rcases hg30 : gPart 7 ((k16, p17) :: ts18) with zz31 | qq32
      · obtain ⟨cs34, ts35⟩ := zz31
        rw [hg30] at q29
        obtain ⟨f33, ⟨k36, p37, ts38, e39, h40⟩, v41⟩ := q29
        have v41 := ((mFp.rf u2).tr f13).evv v41
        refine lv_istore (lv' := [(4, .int r27), (3, .int r7), (0, .ref (mw_a E 0)), (1, .int (nI t)), (2, .int 2)]) C.1 C.2.1 dX12_read_90 hl (by decide) rfl (fun ls hl => ?_)
        refine lv_aload_n C.1 C.2.1 dX12_read_92 rfl (lv_at hl 2 rfl) ?_
        refine mw_geti C Z hP (0) 24 (by decide) rfl rfl rfl (by decide) inX12 tw_4_188 dX12_read_93 ?_
        refine mw_top (y := 0) (h40.2.1) ?_
        refine lv_if_eq (tgt := 103) C.1 C.2.1 dX12_read_96 (by decide) (fun c43 => ?_) (fun c43 => ?_)
        · refine lv_aload_n C.1 C.2.1 dX12_read_103 rfl (lv_at hl 2 rfl) ?_
          refine lv_aload_n C.1 C.2.1 dX12_read_104 rfl (lv_at hl 2 rfl) ?_
          refine lv_bipush (v := 115) C.1 C.2.1 dX12_read_105 (by decide) ?_
          refine lv_bipush (v := 112) C.1 C.2.1 dX12_read_107 (by decide) ?_
          refine lv_bipush (v := 101) C.1 C.2.1 dX12_read_109 (by decide) ?_
          refine lv_bipush (v := 110) C.1 C.2.1 dX12_read_111 (by decide) ?_
          refine lv_bipush (v := 100) C.1 C.2.1 dX12_read_113 (by decide) ?_
          refine lv_bipush (v := 115) C.1 C.2.1 dX12_read_115 (by decide) ?_
          refine lv_iconst (v := 0) C.1 C.2.1 dX12_read_117 (by decide) ?_
          refine lv_iconst (v := 0) C.1 C.2.1 dX12_read_118 (by decide) ?_
          refine mw_cVi (As := [.int 115, .int 112, .int 101, .int 110, .int 100, .int 115, .int 0, .int 0]) (rest := [.ref (mw_a E 0)]) C Z hP hS (0) (cM_isWordP l E u28 t n bs k36 p37 ts38 0 h40 8 (by decide)) vb_X12_isWord tw_5_77 ⟨rfl, rfl⟩ ⟨Nat.le_of_ble_eq_true rfl, Nat.le_of_ble_eq_true rfl⟩ (by decide) rfl rfl rfl rfl hl.1 rfl (Nat.le_of_ble_eq_true rfl) dX12_read_119 ⟨Nat.zero_le _, Nat.zero_le _⟩ (fun r44 u45 H locs q46 hP hS => ?_)
          obtain ⟨rfl, q46u⟩ := q46
          rw [q46u] at hP; clear q46u
          refine mw_cVi (As := [.int (bI (k36 = 8))]) (rest := []) C Z hP hS (0) (cM_part l E u28 t n bs k36 p37 ts38 8 (by decide) h40) vb_X12_part tw_5_85 ⟨rfl, rfl⟩ ⟨Nat.le_of_ble_eq_true rfl, Nat.le_of_ble_eq_true rfl⟩ (by decide) rfl rfl rfl rfl hl.1 rfl (Nat.le_of_ble_eq_true rfl) dX12_read_122 ⟨Nat.zero_le _, Nat.zero_le _⟩ (fun r47 u48 H locs q49 hP hS => ?_)
          rcases hg50 : gPart 8 ((k36, p37) :: ts38) with zz51 | qq52
          · obtain ⟨cs54, ts55⟩ := zz51
            rw [hg50] at q49
            obtain ⟨f53, ⟨k56, p57, ts58, e59, h60⟩, v61⟩ := q49
            have v61 := (((mFp.rf u2).tr f13).tr f33).evv v61
            refine lv_istore (lv' := [(5, .int r47), (4, .int r27), (3, .int r7), (0, .ref (mw_a E 0)), (1, .int (nI t)), (2, .int 2)]) C.1 C.2.1 dX12_read_125 hl (by decide) rfl (fun ls hl => ?_)
            refine lv_aload_n C.1 C.2.1 dX12_read_127 rfl (lv_at hl 3 rfl) ?_
            refine mw_geti C Z hP (0) 24 (by decide) rfl rfl rfl (by decide) inX12 tw_4_188 dX12_read_128 ?_
            refine mw_top (y := 0) (h60.2.1) ?_
            refine lv_if_ne (tgt := 145) C.1 C.2.1 dX12_read_131 (by decide) (fun c63 => ?_) (fun c63 => ?_)
            · exact absurd c63 (by decide)
            · refine lv_aload_n C.1 C.2.1 dX12_read_134 rfl (lv_at hl 3 rfl) ?_
              refine mw_geti C Z hP (0) 20 (by decide) rfl rfl rfl (by decide) inX12 tw_4_184 dX12_read_135 ?_
              refine lv_if_eq (tgt := 145) C.1 C.2.1 dX12_read_138 (by decide) (fun c64 => ?_) (fun c64 => ?_)
              · refine lv_iload_n C.1 C.2.1 dX12_read_145 rfl (lv_at hl 5 rfl) ?_
                refine lv_if_ne (tgt := 153) C.1 C.2.1 dX12_read_146 (by decide) (fun c65 => ?_) (fun c65 => ?_)
                · refine lv_iload_n C.1 C.2.1 dX12_read_153 rfl (lv_at hl 5 rfl) ?_
                  refine lv_iconst (v := 1) C.1 C.2.1 dX12_read_154 (by decide) ?_
                  refine lv_icmp_ne (tgt := 163) C.1 C.2.1 dX12_read_155 (by decide) (fun c66 => ?_) (fun c66 => ?_)
                  · refine lv_iload C.1 C.2.1 dX12_read_163 (lv_at hl 0 rfl) ?_
                    exact mw_iret C hr hlk Z hP hS dX12_read_165 (⟨fq.tr (mFp.q ((((mFp.rf u2).tr f13).tr f33).tr f53)), by rw [gText_4 (by rw [e0]; exact hg10) (by rw [e19]; exact hg30) (by rw [e39, ← e59]; exact hg50) (h60.2.2.2.1.2.2.1.mp c64)]; exact ⟨h60.2.1, fq.evv v61⟩⟩)
                  · exact absurd c66 (by decide)
                · exact absurd c65 (by decide)
              · refine lv_aload_n C.1 C.2.1 dX12_read_141 rfl (lv_at hl 3 rfl) ?_
                refine mw_cVv (As := []) (rest := []) C Z hP hS (0) (cM_failP l E u48 t n bs k56 p57 ts58 0 h60) vb_X12_fail tw_5_89 ⟨rfl, rfl⟩ ⟨Nat.le_of_ble_eq_true rfl, Nat.le_of_ble_eq_true rfl⟩ (by decide) rfl rfl rfl rfl hl.1 rfl (Nat.le_of_ble_eq_true rfl) dX12_read_142 ⟨Nat.zero_le _, Nat.zero_le _⟩ (fun u68 H locs q69 hP hS => ?_)
                obtain ⟨hb70, f71⟩ := q69
                refine lv_iload_n C.1 C.2.1 dX12_read_145 rfl (lv_at hl 5 rfl) ?_
                refine lv_if_ne (tgt := 153) C.1 C.2.1 dX12_read_146 (by decide) (fun c72 => ?_) (fun c72 => ?_)
                · refine lv_iload_n C.1 C.2.1 dX12_read_153 rfl (lv_at hl 5 rfl) ?_
                  refine lv_iconst (v := 1) C.1 C.2.1 dX12_read_154 (by decide) ?_
                  refine lv_icmp_ne (tgt := 163) C.1 C.2.1 dX12_read_155 (by decide) (fun c73 => ?_) (fun c73 => ?_)
                  · refine lv_iload C.1 C.2.1 dX12_read_163 (lv_at hl 0 rfl) ?_
                    exact mw_iret C hr hlk Z hP hS dX12_read_165 (⟨fq.tr (mFp.q (((((mFp.rf u2).tr f13).tr f33).tr f53).tr f71)), by rw [gText_5 (by rw [e0]; exact hg10) (by rw [e19]; exact hg30) (by rw [e39, ← e59]; exact hg50) (fun y => c64 (h60.2.2.2.1.2.2.1.mpr y))]; exact hb70⟩)
                  · exact absurd c73 (by decide)
                · exact absurd c72 (by decide)
          · rw [hg50] at q49
            obtain ⟨f53, hb62⟩ := q49
            refine lv_istore (lv' := [(5, .int r47), (4, .int r27), (3, .int r7), (0, .ref (mw_a E 0)), (1, .int (nI t)), (2, .int 2)]) C.1 C.2.1 dX12_read_125 hl (by decide) rfl (fun ls hl => ?_)
            refine lv_aload_n C.1 C.2.1 dX12_read_127 rfl (lv_at hl 3 rfl) ?_
            refine mw_geti C Z hP (0) 24 (by decide) rfl rfl rfl (by decide) inX12 tw_4_188 dX12_read_128 ?_
            refine mw_top (y := 1) (hb62.1) ?_
            refine lv_if_ne (tgt := 145) C.1 C.2.1 dX12_read_131 (by decide) (fun c74 => ?_) (fun c74 => ?_)
            · refine lv_iload_n C.1 C.2.1 dX12_read_145 rfl (lv_at hl 5 rfl) ?_
              refine lv_if_ne (tgt := 153) C.1 C.2.1 dX12_read_146 (by decide) (fun c75 => ?_) (fun c75 => ?_)
              · refine lv_iload_n C.1 C.2.1 dX12_read_153 rfl (lv_at hl 5 rfl) ?_
                refine lv_iconst (v := 1) C.1 C.2.1 dX12_read_154 (by decide) ?_
                refine lv_icmp_ne (tgt := 163) C.1 C.2.1 dX12_read_155 (by decide) (fun c76 => ?_) (fun c76 => ?_)
                · refine lv_iload C.1 C.2.1 dX12_read_163 (lv_at hl 0 rfl) ?_
                  exact mw_iret C hr hlk Z hP hS dX12_read_165 (⟨fq.tr (mFp.q ((((mFp.rf u2).tr f13).tr f33).tr f53)), by rw [gText_3 (by rw [e0]; exact hg10) (by rw [e19]; exact hg30) (by rw [e39]; exact hg50)]; exact hb62⟩)
                · exact absurd c76 (by decide)
              · exact absurd c75 (by decide)
            · exact absurd c74 (by decide)
        · exact absurd c43 (by decide)
      · rw [hg30] at q29
        obtain ⟨f33, hb42⟩ := q29
        refine lv_istore (lv' := [(4, .int r27), (3, .int r7), (0, .ref (mw_a E 0)), (1, .int (nI t)), (2, .int 2)]) C.1 C.2.1 dX12_read_90 hl (by decide) rfl (fun ls hl => ?_)
        refine lv_aload_n C.1 C.2.1 dX12_read_92 rfl (lv_at hl 2 rfl) ?_
        refine mw_geti C Z hP (0) 24 (by decide) rfl rfl rfl (by decide) inX12 tw_4_188 dX12_read_93 ?_
        refine mw_top (y := 1) (hb42.1) ?_
        refine lv_if_eq (tgt := 103) C.1 C.2.1 dX12_read_96 (by decide) (fun c77 => ?_) (fun c77 => ?_)
        · exact absurd c77 (by decide)
        · refine lv_iconst (v := 0) C.1 C.2.1 dX12_read_99 (by decide) ?_
          refine lv_goto (tgt := 125) C.1 C.2.1 dX12_read_100 (by decide) ?_
          refine lv_istore (lv' := [(5, .int 0), (4, .int r27), (3, .int r7), (0, .ref (mw_a E 0)), (1, .int (nI t)), (2, .int 2)]) C.1 C.2.1 dX12_read_125 hl (by decide) rfl (fun ls hl => ?_)
          refine lv_aload_n C.1 C.2.1 dX12_read_127 rfl (lv_at hl 3 rfl) ?_
          refine mw_geti C Z hP (0) 24 (by decide) rfl rfl rfl (by decide) inX12 tw_4_188 dX12_read_128 ?_
          refine mw_top (y := 1) (hb42.1) ?_
          refine lv_if_ne (tgt := 145) C.1 C.2.1 dX12_read_131 (by decide) (fun c78 => ?_) (fun c78 => ?_)
          · refine lv_iload_n C.1 C.2.1 dX12_read_145 rfl (lv_at hl 5 rfl) ?_
            refine lv_if_ne (tgt := 153) C.1 C.2.1 dX12_read_146 (by decide) (fun c79 => ?_) (fun c79 => ?_)
            · refine lv_iload_n C.1 C.2.1 dX12_read_153 rfl (lv_at hl 5 rfl) ?_
              refine lv_iconst (v := 1) C.1 C.2.1 dX12_read_154 (by decide) ?_
              refine lv_icmp_ne (tgt := 163) C.1 C.2.1 dX12_read_155 (by decide) (fun c80 => ?_) (fun c80 => ?_)
              · refine lv_iload C.1 C.2.1 dX12_read_163 (lv_at hl 0 rfl) ?_
                exact mw_iret C hr hlk Z hP hS dX12_read_165 (⟨fq.tr (mFp.q (((mFp.rf u2).tr f13).tr f33)), by rw [gText_2 (by rw [e0]; exact hg10) (by rw [e19]; exact hg30)]; exact hb42⟩)
              · exact absurd c80 (by decide)
            · exact absurd c79 (by decide)
          · exact absurd c78 (by decide)
    · exact absurd c23 (by decide)
  · rw [hg10] at q9
    obtain ⟨f13, hb22⟩ := q9
    refine lv_istore_n (lv' := [(3, .int r7), (0, .ref (mw_a E 0)), (1, .int (nI t)), (2, .int 2)]) C.1 C.2.1 dX12_read_58 rfl hl (by decide) rfl (fun ls hl => ?_)
    refine lv_aload_n C.1 C.2.1 dX12_read_59 rfl (lv_at hl 1 rfl) ?_
    refine mw_geti C Z hP (0) 24 (by decide) rfl rfl rfl (by decide) inX12 tw_4_188 dX12_read_60 ?_
    refine mw_top (y := 1) (hb22.1) ?_
    refine lv_if_eq (tgt := 70) C.1 C.2.1 dX12_read_63 (by decide) (fun c81 => ?_) (fun c81 => ?_)
    · exact absurd c81 (by decide)
    · refine lv_iconst (v := 0) C.1 C.2.1 dX12_read_66 (by decide) ?_
      refine lv_goto (tgt := 90) C.1 C.2.1 dX12_read_67 (by decide) ?_
      refine lv_istore (lv' := [(4, .int 0), (3, .int r7), (0, .ref (mw_a E 0)), (1, .int (nI t)), (2, .int 2)]) C.1 C.2.1 dX12_read_90 hl (by decide) rfl (fun ls hl => ?_)
      refine lv_aload_n C.1 C.2.1 dX12_read_92 rfl (lv_at hl 2 rfl) ?_
      refine mw_geti C Z hP (0) 24 (by decide) rfl rfl rfl (by decide) inX12 tw_4_188 dX12_read_93 ?_
      refine mw_top (y := 1) (hb22.1) ?_
      refine lv_if_eq (tgt := 103) C.1 C.2.1 dX12_read_96 (by decide) (fun c82 => ?_) (fun c82 => ?_)
      · exact absurd c82 (by decide)
      · refine lv_iconst (v := 0) C.1 C.2.1 dX12_read_99 (by decide) ?_
        refine lv_goto (tgt := 125) C.1 C.2.1 dX12_read_100 (by decide) ?_
        refine lv_istore (lv' := [(5, .int 0), (4, .int 0), (3, .int r7), (0, .ref (mw_a E 0)), (1, .int (nI t)), (2, .int 2)]) C.1 C.2.1 dX12_read_125 hl (by decide) rfl (fun ls hl => ?_)
        refine lv_aload_n C.1 C.2.1 dX12_read_127 rfl (lv_at hl 3 rfl) ?_
        refine mw_geti C Z hP (0) 24 (by decide) rfl rfl rfl (by decide) inX12 tw_4_188 dX12_read_128 ?_
        refine mw_top (y := 1) (hb22.1) ?_
        refine lv_if_ne (tgt := 145) C.1 C.2.1 dX12_read_131 (by decide) (fun c83 => ?_) (fun c83 => ?_)
        · refine lv_iload_n C.1 C.2.1 dX12_read_145 rfl (lv_at hl 5 rfl) ?_
          refine lv_if_ne (tgt := 153) C.1 C.2.1 dX12_read_146 (by decide) (fun c84 => ?_) (fun c84 => ?_)
          · refine lv_iload_n C.1 C.2.1 dX12_read_153 rfl (lv_at hl 5 rfl) ?_
            refine lv_iconst (v := 1) C.1 C.2.1 dX12_read_154 (by decide) ?_
            refine lv_icmp_ne (tgt := 163) C.1 C.2.1 dX12_read_155 (by decide) (fun c85 => ?_) (fun c85 => ?_)
            · refine lv_iload C.1 C.2.1 dX12_read_163 (lv_at hl 0 rfl) ?_
              exact mw_iret C hr hlk Z hP hS dX12_read_165 (⟨fq.tr (mFp.q ((mFp.rf u2).tr f13)), by rw [gText_1 (by rw [e0]; exact hg10)]; exact hb22⟩)
            · exact absurd c85 (by decide)
          · exact absurd c84 (by decide)
        · exact absurd c83 (by decide)
