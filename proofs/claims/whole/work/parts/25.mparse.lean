/-! THE REFERENCE'S PARSER, ON THE TOKENS -/
theorem mw_Ci.imp {sh : Nat → mw_Sh} {N : Nat} {G : mw_E → State → Prop} {l : Launch} {y : MethodName} {cc : ByteArray} {nL : Nat} {rt : Option FieldType} {rm : Room} {E : mw_E} {av : List Value} {σ : mw_M} {post post2 : Int32 → mw_M → Prop} (h : mw_Ci sh N G l y cc nL rt rm E av σ post) (hp : ∀ r u, post r u → post2 r u) : mw_Ci sh N G l y cc nL rt rm E av σ post2 :=
  MetFree.mono h (fun _ _ z => z) (fun _ _ _ _ _ z => z) (fun a s o t _ hq => by
    obtain ⟨⟨⟨r, u, h1, h2, h3⟩, hF⟩, h4⟩ := hq
    exact ⟨⟨⟨r, u, h1, hp r u h2, h3⟩, hF⟩, h4⟩)
theorem mw_Cv.imp {sh : Nat → mw_Sh} {N : Nat} {G : mw_E → State → Prop} {l : Launch} {y : MethodName} {cc : ByteArray} {nL : Nat} {rt : Option FieldType} {rm : Room} {E : mw_E} {av : List Value} {σ : mw_M} {post post2 : mw_M → Prop} (h : mw_Cv sh N G l y cc nL rt rm E av σ post) (hp : ∀ u, post u → post2 u) : mw_Cv sh N G l y cc nL rt rm E av σ post2 :=
  MetFree.mono h (fun _ _ z => z) (fun _ _ _ _ _ z => z) (fun a s o t _ hq => by
    obtain ⟨⟨⟨u, h1, h2, h3⟩, hF⟩, h4⟩ := hq
    exact ⟨⟨⟨u, h1, hp u h2, h3⟩, hF⟩, h4⟩)
def mFp (σ u : mw_M) : Prop := u.2.1 = σ.2.1 ∧ ∀ f, f < 19 ∨ 25 < f → u.1 0 f = σ.1 0 f
theorem mFp.rf (σ : mw_M) : mFp σ σ := ⟨rfl, fun _ _ => rfl⟩
theorem mFp.tr {a b d : mw_M} (h1 : mFp a b) (h2 : mFp b d) : mFp a d := ⟨h2.1.trans h1.1, fun f hf => (h2.2 f hf).trans (h1.2 f hf)⟩
theorem mFr.p {a b : mw_M} (h : mFr a b) : mFp a b := ⟨h.1, fun f hf => h.2 f (by omega)⟩
theorem mFp.si {σ u : mw_M} (h : mFp σ u) {k : Nat} (hk : 19 ≤ k ∧ k ≤ 25) (v : Int32) : mFp σ (mw_si u 0 k v) := by
  refine ⟨h.1, fun f hf => ?_⟩
  show va_up u.1 0 (va_up (u.1 0) k v) 0 f = _
  rw [va_up_self, va_up_ne _ _ (by omega)]
  exact h.2 f hf
theorem mFp.tx {σ u : mw_M} {t n : Nat} {bs : Nat → Int32} (h : mFp σ u) (hT : mTx σ t n bs) : mTx u t n bs := by
  obtain ⟨h1, h2, h3, h4, h5⟩ := hT
  refine ⟨(h.2 17 (by omega)).trans h1, (h.2 18 (by omega)).trans h2, h3, h4, fun j hj => ?_⟩
  rw [h.1]
  exact h5 j hj
def mBd (u : mw_M) (q : Nat) : Prop := u.1 0 24 = 1 ∧ u.1 0 25 = nI q
def mPS (σ : mw_M) (t n : Nat) (bs : Nat → Int32) (k p : Nat) (ts : List (Nat × Nat)) (o : Nat) : Prop := mTx σ t n bs ∧ σ.1 0 24 = 0 ∧ σ.1 0 23 = nI o ∧ mTk σ n bs k p ts
def mPL (σ : mw_M) (t n : Nat) (bs : Nat → Int32) (ts : List (Nat × Nat)) (o : Nat) : Prop := ∃ k p ts2, ts = (k, p) :: ts2 ∧ mPS σ t n bs k p ts2 o
def mEv (σ : mw_M) : Nat → Int32 := fun k => σ.1 0 (11 + k)
theorem mFp.ev {σ u : mw_M} (h : mFp σ u) {cs : List Nat} {v : Int32} (hv : ruV (mEv u) cs v) (hc : ∀ k, k ∈ cs → k ≤ 5 ∨ 6 ≤ k) : ruV (mEv σ) cs v := by
  have e : ∀ (cs : List Nat) (st : List Int32), ruF (mEv u) cs st = ruF (mEv σ) cs st := by
    intro cs
    induction cs with
    | nil => intro st; rfl
    | cons k cs ih =>
      intro st
      show ruF (mEv u) cs (stF (mEv u) k st) = ruF (mEv σ) cs (stF (mEv σ) k st)
      have : stF (mEv u) k st = stF (mEv σ) k st := by
        unfold stF
        by_cases hk : k ≤ 5
        · rw [if_pos hk, if_pos hk]
          have : mEv u k = mEv σ k := h.2 (11 + k) (by omega)
          rw [this]
        · rw [if_neg hk, if_neg hk]
      rw [this, ih]
  exact fun st => (e cs st).symm.trans (hv st)
theorem mFp.evv {σ u : mw_M} (h : mFp σ u) {cs : List Nat} {v : Int32} (hv : ruV (mEv u) cs v) : ruV (mEv σ) cs v := h.ev hv (fun k _ => by omega)
/-- what a reading leaves: the tokens behind it and its value, or the fault -/
def mOK (σ u : mw_M) (t n : Nat) (bs : Nat → Int32) (o : Nat) (r : Int32) (res : gR) : Prop := mFp σ u ∧ (match res with
  | .inl (cs, ts) => mPL u t n bs ts o ∧ ruV (mEv σ) cs r
  | .inr q => mBd u q)
def mFl (σ : mw_M) : mw_M := if σ.1 0 24 = 0 then mw_si (mw_si σ 0 24 1) 0 25 (σ.1 0 21) else σ

set_option maxHeartbeats 4000000 in
set_option maxRecDepth 100000 in
theorem cM_fail (l : Launch) (E : mw_E) (σ : mw_M) : mw_Cv shM 13 gM l yX12_fail cX12_fail 1 none (rmF 0 0) E [.ref (mw_a E 0)] σ (fun u => u = mFl σ) := by
  refine mw_of (by decide) gM_ok (Nat.le_of_ble_eq_true rfl) ?_
  intro p_ e_ s_ m_ below meth c_ C hr hlk Z hP ls hl
  have C : CallFix p_ m_ c_ cX12_fail 1 s_ _ lw_good RX12 := C
  have hl : lv_has ls 1 [(0, .ref (mw_a E 0))] := hl
  have hS : va_S (mw_A 13 E) s_.heap s_.heap [] := va_S.rf
  refine lv_aload_n C.1 C.2.1 dX12_fail_0 rfl (lv_at hl 0 rfl) ?_
  refine mw_geti C Z hP (0) 24 (by decide) rfl rfl rfl (by decide) inX12 tw_4_188 dX12_fail_1 ?_
  refine lv_if_ne (tgt := 20) C.1 C.2.1 dX12_fail_4 (by decide) (fun c1 => ?_) (fun c1 => ?_)
  · exact mw_vret C hr hlk Z hP hS dX12_fail_20 (by unfold mFl; rw [if_neg c1])
  · refine lv_aload_n C.1 C.2.1 dX12_fail_7 rfl (lv_at hl 0 rfl) ?_
    refine lv_iconst (v := 1) C.1 C.2.1 dX12_fail_8 (by decide) ?_
    refine mw_puti C Z hP hS (0) 24 (by decide) rfl rfl rfl (by decide) inX12 tyX12 tyX12_ok nmX12 rfl tw_4_188 rfl rfl dX12_fail_9 (fun H locs hP hS => ?_)
    refine lv_aload_n C.1 C.2.1 dX12_fail_12 rfl (lv_at hl 0 rfl) ?_
    refine lv_aload_n C.1 C.2.1 dX12_fail_13 rfl (lv_at hl 0 rfl) ?_
    refine mw_geti C Z hP (0) 21 (by decide) rfl rfl rfl (by decide) inX12 tw_4_185 dX12_fail_14 ?_
    refine mw_top (y := σ.1 0 21) (rfl) ?_
    refine mw_puti C Z hP hS (0) 25 (by decide) rfl rfl rfl (by decide) inX12 tyX12 tyX12_ok nmX12 rfl tw_4_189 rfl rfl dX12_fail_17 (fun H locs hP hS => ?_)
    exact mw_vret C hr hlk Z hP hS dX12_fail_20 (by unfold mFl; rw [if_pos c1])

set_option maxHeartbeats 4000000 in
set_option maxRecDepth 100000 in
theorem cM_isLetter (l : Launch) (E : mw_E) (σ : mw_M) (t n q ee k : Nat) (bs : Nat → Int32) (x : Int32) (hT : mTx σ t n bs) (h21 : σ.1 0 21 = nI q) (h19 : σ.1 0 19 = nI ee) (hq : q ≤ n) (he : ee ≤ n) (hk : k < 8) : mw_Ci shM 13 gM l yX12_isLetter cX12_isLetter 3 (some .boolean) (rmF 1 21) E [.ref (mw_a E 0), .int (nI k), .int x] σ (fun r u => r = bI (leP bs n q ee k x) ∧ u = σ) := by
  refine mw_of (by decide) gM_ok (Nat.le_of_ble_eq_true rfl) ?_
  intro p_ e_ s_ m_ below meth c_ C hr hlk Z hP ls hl
  have C : CallFix p_ m_ c_ cX12_isLetter 3 s_ _ lw_good RX12 := C
  have hl : lv_has ls 3 [(0, .ref (mw_a E 0)), (1, .int (nI k)), (2, .int x)] := hl
  have hS : va_S (mw_A 13 E) s_.heap s_.heap [] := va_S.rf
  have h4 := hT.2.2.2.1
  refine lv_aload_n C.1 C.2.1 dX12_isLetter_0 rfl (lv_at hl 0 rfl) ?_
  refine mw_geti C Z hP (0) 21 (by decide) rfl rfl rfl (by decide) inX12 tw_4_185 dX12_isLetter_1 ?_
  refine mw_top (y := nI q) (h21) ?_
  refine lv_iload_n C.1 C.2.1 dX12_isLetter_4 rfl (lv_at hl 1 rfl) ?_
  refine lv_iadd C.1 C.2.1 dX12_isLetter_5 ?_
  refine mw_top (y := nI (q + k)) (nI_add _ _) ?_
  refine lv_aload_n C.1 C.2.1 dX12_isLetter_6 rfl (lv_at hl 0 rfl) ?_
  refine mw_geti C Z hP (0) 19 (by decide) rfl rfl rfl (by decide) inX12 tw_4_183 dX12_isLetter_7 ?_
  refine mw_top (y := nI ee) (h19) ?_
  refine lv_icmp_ge (tgt := 35) C.1 C.2.1 dX12_isLetter_10 (by decide) (fun c1 => ?_) (fun c1 => ?_)
  · refine lv_iload_n C.1 C.2.1 dX12_isLetter_35 rfl (lv_at hl 2 rfl) ?_
    refine lv_if_ne (tgt := 43) C.1 C.2.1 dX12_isLetter_36 (by decide) (fun c2 => ?_) (fun c2 => ?_)
    · refine lv_iconst (v := 0) C.1 C.2.1 dX12_isLetter_43 (by decide) ?_
      have z : ¬ q + k < ee := by have z := (nI_leI (by omega) (by omega)).mp c1; omega
      exact mw_zret C hr hlk Z hP hS rfl dX12_isLetter_44 (⟨(bI_f (fun y => y.elim (fun y => z y.1) (fun y => c2 y.2))).symm, rfl⟩)
    · refine lv_iconst (v := 1) C.1 C.2.1 dX12_isLetter_39 (by decide) ?_
      refine lv_goto (tgt := 44) C.1 C.2.1 dX12_isLetter_40 (by decide) ?_
      have z : ¬ q + k < ee := by have z := (nI_leI (by omega) (by omega)).mp c1; omega
      exact mw_zret C hr hlk Z hP hS rfl dX12_isLetter_44 (⟨(bI_t (Or.inr ⟨z, c2⟩)).symm, rfl⟩)
  · refine lv_aload_n C.1 C.2.1 dX12_isLetter_13 rfl (lv_at hl 0 rfl) ?_
    refine lv_aload_n C.1 C.2.1 dX12_isLetter_14 rfl (lv_at hl 0 rfl) ?_
    refine mw_geti C Z hP (0) 21 (by decide) rfl rfl rfl (by decide) inX12 tw_4_185 dX12_isLetter_15 ?_
    refine mw_top (y := nI q) (h21) ?_
    refine lv_iload_n C.1 C.2.1 dX12_isLetter_18 rfl (lv_at hl 1 rfl) ?_
    refine lv_iadd C.1 C.2.1 dX12_isLetter_19 ?_
    refine mw_top (y := nI (q + k)) (nI_add _ _) ?_
    refine mw_cVi (As := [.int (nI (q + k))]) (rest := []) C Z hP hS (0) (cM_byteAt l E σ t n (q + k) bs hT (by omega)) vb_X12_byteAt tw_5_68 ⟨rfl, rfl⟩ ⟨Nat.le_of_ble_eq_true rfl, Nat.le_of_ble_eq_true rfl⟩ (by decide) rfl rfl rfl rfl hl.1 rfl (Nat.le_of_ble_eq_true rfl) dX12_isLetter_20 ⟨Nat.zero_le _, Nat.zero_le _⟩ (fun r3 u4 H locs q5 hP hS => ?_)
    obtain ⟨rfl, q5u⟩ := q5
    rw [q5u] at hP; clear q5u
    refine lv_iload_n C.1 C.2.1 dX12_isLetter_23 rfl (lv_at hl 2 rfl) ?_
    refine lv_icmp_ne (tgt := 31) C.1 C.2.1 dX12_isLetter_24 (by decide) (fun c6 => ?_) (fun c6 => ?_)
    · refine lv_iconst (v := 0) C.1 C.2.1 dX12_isLetter_31 (by decide) ?_
      refine lv_goto (tgt := 44) C.1 C.2.1 dX12_isLetter_32 (by decide) ?_
      have z : q + k < ee := by have z := (not_congr (nI_leI (by omega) (by omega))).mp c1; omega
      exact mw_zret C hr hlk Z hP hS rfl dX12_isLetter_44 (⟨(bI_f (fun y => y.elim (fun y => c6 y.2) (fun y => y.1 z))).symm, rfl⟩)
    · refine lv_iconst (v := 1) C.1 C.2.1 dX12_isLetter_27 (by decide) ?_
      refine lv_goto (tgt := 44) C.1 C.2.1 dX12_isLetter_28 (by decide) ?_
      have z : q + k < ee := by have z := (not_congr (nI_leI (by omega) (by omega))).mp c1; omega
      exact mw_zret C hr hlk Z hP hS rfl dX12_isLetter_44 (⟨(bI_t (Or.inl ⟨z, c6⟩)).symm, rfl⟩)

set_option maxHeartbeats 4000000 in
set_option maxRecDepth 100000 in
theorem cM_isWord (l : Launch) (E : mw_E) (σ : mw_M) (t n q ee : Nat) (bs : Nat → Int32) (x0 x1 x2 x3 x4 x5 x6 x7 : Int32) (hT : mTx σ t n bs) (h21 : σ.1 0 21 = nI q) (h19 : σ.1 0 19 = nI ee) (hq : q ≤ n) (he : ee ≤ n) : mw_Ci shM 13 gM l yX12_isWord cX12_isWord 9 (some .boolean) (rmF 2 43) E [.ref (mw_a E 0), .int x0, .int x1, .int x2, .int x3, .int x4, .int x5, .int x6, .int x7] σ (fun r u => r = bI (σ.1 0 24 = 0 ∧ σ.1 0 20 = 1 ∧ ee ≤ q + 8 ∧ leP bs n q ee 0 x0 ∧ leP bs n q ee 1 x1 ∧ leP bs n q ee 2 x2 ∧ leP bs n q ee 3 x3 ∧ leP bs n q ee 4 x4 ∧ leP bs n q ee 5 x5 ∧ leP bs n q ee 6 x6 ∧ leP bs n q ee 7 x7) ∧ u = σ) := by
  refine mw_of (by decide) gM_ok (Nat.le_of_ble_eq_true rfl) ?_
  intro p_ e_ s_ m_ below meth c_ C hr hlk Z hP ls hl
  have C : CallFix p_ m_ c_ cX12_isWord 9 s_ _ lw_good RX12 := C
  have hl : lv_has ls 9 [(0, .ref (mw_a E 0)), (1, .int x0), (2, .int x1), (3, .int x2), (4, .int x3), (5, .int x4), (6, .int x5), (7, .int x6), (8, .int x7)] := hl
  have hS : va_S (mw_A 13 E) s_.heap s_.heap [] := va_S.rf
  have h4 := hT.2.2.2.1
  refine lv_aload_n C.1 C.2.1 dX12_isWord_0 rfl (lv_at hl 0 rfl) ?_
  refine mw_geti C Z hP (0) 24 (by decide) rfl rfl rfl (by decide) inX12 tw_4_188 dX12_isWord_1 ?_
  refine lv_if_ne (tgt := 112) C.1 C.2.1 dX12_isWord_4 (by decide) (fun c1 => ?_) (fun c1 => ?_)
  · refine lv_iconst (v := 0) C.1 C.2.1 dX12_isWord_112 (by decide) ?_
    exact mw_zret C hr hlk Z hP hS rfl dX12_isWord_113 (⟨(bI_f (fun y => c1 y.1)).symm, rfl⟩)
  · refine lv_aload_n C.1 C.2.1 dX12_isWord_7 rfl (lv_at hl 0 rfl) ?_
    refine mw_geti C Z hP (0) 20 (by decide) rfl rfl rfl (by decide) inX12 tw_4_184 dX12_isWord_8 ?_
    refine lv_iconst (v := 1) C.1 C.2.1 dX12_isWord_11 (by decide) ?_
    refine lv_icmp_ne (tgt := 112) C.1 C.2.1 dX12_isWord_12 (by decide) (fun c2 => ?_) (fun c2 => ?_)
    · refine lv_iconst (v := 0) C.1 C.2.1 dX12_isWord_112 (by decide) ?_
      exact mw_zret C hr hlk Z hP hS rfl dX12_isWord_113 (⟨(bI_f (fun y => c2 y.2.1)).symm, rfl⟩)
    · refine lv_aload_n C.1 C.2.1 dX12_isWord_15 rfl (lv_at hl 0 rfl) ?_
      refine mw_geti C Z hP (0) 19 (by decide) rfl rfl rfl (by decide) inX12 tw_4_183 dX12_isWord_16 ?_
      refine mw_top (y := nI ee) (h19) ?_
      refine lv_aload_n C.1 C.2.1 dX12_isWord_19 rfl (lv_at hl 0 rfl) ?_
      refine mw_geti C Z hP (0) 21 (by decide) rfl rfl rfl (by decide) inX12 tw_4_185 dX12_isWord_20 ?_
      refine mw_top (y := nI q) (h21) ?_
      refine lv_bipush (v := 8) C.1 C.2.1 dX12_isWord_23 (by decide) ?_
      refine lv_iadd C.1 C.2.1 dX12_isWord_25 ?_
      refine mw_top (y := nI (q + 8)) (nI_add _ 8) ?_
      refine lv_icmp_gt (tgt := 112) C.1 C.2.1 dX12_isWord_26 (by decide) (fun c3 => ?_) (fun c3 => ?_)
      · refine lv_iconst (v := 0) C.1 C.2.1 dX12_isWord_112 (by decide) ?_
        exact mw_zret C hr hlk Z hP hS rfl dX12_isWord_113 (⟨(bI_f (fun y => by have z := (nI_ltI (by omega) (by omega)).mp c3; have := y.2.2.1; omega)).symm, rfl⟩)
      · refine lv_aload_n C.1 C.2.1 dX12_isWord_29 rfl (lv_at hl 0 rfl) ?_
        refine lv_iconst (v := 0) C.1 C.2.1 dX12_isWord_30 (by decide) ?_
        refine lv_iload_n C.1 C.2.1 dX12_isWord_31 rfl (lv_at hl 1 rfl) ?_
        refine mw_cVi (As := [.int 0, .int x0]) (rest := []) C Z hP hS (0) (cM_isLetter l E σ t n q ee 0 bs x0 hT h21 h19 hq he (by decide)) vb_X12_isLetter tw_5_81 ⟨rfl, rfl⟩ ⟨Nat.le_of_ble_eq_true rfl, Nat.le_of_ble_eq_true rfl⟩ (by decide) rfl rfl rfl rfl hl.1 rfl (Nat.le_of_ble_eq_true rfl) dX12_isWord_32 ⟨Nat.zero_le _, Nat.zero_le _⟩ (fun r4 u5 H locs q6 hP hS => ?_)
        obtain ⟨rfl, q6u⟩ := q6
        rw [q6u] at hP; clear q6u
        refine lv_if_eq (tgt := 112) C.1 C.2.1 dX12_isWord_35 (by decide) (fun c7 => ?_) (fun c7 => ?_)
        · have c7 := bI_0.mp c7
          refine lv_iconst (v := 0) C.1 C.2.1 dX12_isWord_112 (by decide) ?_
          exact mw_zret C hr hlk Z hP hS rfl dX12_isWord_113 (⟨(bI_f (fun y => c7 (y.2.2.2.1))).symm, rfl⟩)
        · have c7 := bI_n.mp c7
          refine lv_aload_n C.1 C.2.1 dX12_isWord_38 rfl (lv_at hl 0 rfl) ?_
          refine lv_iconst (v := 1) C.1 C.2.1 dX12_isWord_39 (by decide) ?_
          refine lv_iload_n C.1 C.2.1 dX12_isWord_40 rfl (lv_at hl 2 rfl) ?_
          refine mw_cVi (As := [.int 1, .int x1]) (rest := []) C Z hP hS (0) (cM_isLetter l E σ t n q ee 1 bs x1 hT h21 h19 hq he (by decide)) vb_X12_isLetter tw_5_81 ⟨rfl, rfl⟩ ⟨Nat.le_of_ble_eq_true rfl, Nat.le_of_ble_eq_true rfl⟩ (by decide) rfl rfl rfl rfl hl.1 rfl (Nat.le_of_ble_eq_true rfl) dX12_isWord_41 ⟨Nat.zero_le _, Nat.zero_le _⟩ (fun r8 u9 H locs q10 hP hS => ?_)
          obtain ⟨rfl, q10u⟩ := q10
          rw [q10u] at hP; clear q10u
          refine lv_if_eq (tgt := 112) C.1 C.2.1 dX12_isWord_44 (by decide) (fun c11 => ?_) (fun c11 => ?_)
          · have c11 := bI_0.mp c11
            refine lv_iconst (v := 0) C.1 C.2.1 dX12_isWord_112 (by decide) ?_
            exact mw_zret C hr hlk Z hP hS rfl dX12_isWord_113 (⟨(bI_f (fun y => c11 (y.2.2.2.2.1))).symm, rfl⟩)
          · have c11 := bI_n.mp c11
            refine lv_aload_n C.1 C.2.1 dX12_isWord_47 rfl (lv_at hl 0 rfl) ?_
            refine lv_iconst (v := 2) C.1 C.2.1 dX12_isWord_48 (by decide) ?_
            refine lv_iload_n C.1 C.2.1 dX12_isWord_49 rfl (lv_at hl 3 rfl) ?_
            refine mw_cVi (As := [.int 2, .int x2]) (rest := []) C Z hP hS (0) (cM_isLetter l E σ t n q ee 2 bs x2 hT h21 h19 hq he (by decide)) vb_X12_isLetter tw_5_81 ⟨rfl, rfl⟩ ⟨Nat.le_of_ble_eq_true rfl, Nat.le_of_ble_eq_true rfl⟩ (by decide) rfl rfl rfl rfl hl.1 rfl (Nat.le_of_ble_eq_true rfl) dX12_isWord_50 ⟨Nat.zero_le _, Nat.zero_le _⟩ (fun r12 u13 H locs q14 hP hS => ?_)
            obtain ⟨rfl, q14u⟩ := q14
            rw [q14u] at hP; clear q14u
            refine lv_if_eq (tgt := 112) C.1 C.2.1 dX12_isWord_53 (by decide) (fun c15 => ?_) (fun c15 => ?_)
            · have c15 := bI_0.mp c15
              refine lv_iconst (v := 0) C.1 C.2.1 dX12_isWord_112 (by decide) ?_
              exact mw_zret C hr hlk Z hP hS rfl dX12_isWord_113 (⟨(bI_f (fun y => c15 (y.2.2.2.2.2.1))).symm, rfl⟩)
            · have c15 := bI_n.mp c15
              refine lv_aload_n C.1 C.2.1 dX12_isWord_56 rfl (lv_at hl 0 rfl) ?_
              refine lv_iconst (v := 3) C.1 C.2.1 dX12_isWord_57 (by decide) ?_
              refine lv_iload C.1 C.2.1 dX12_isWord_58 (lv_at hl 4 rfl) ?_
              refine mw_cVi (As := [.int 3, .int x3]) (rest := []) C Z hP hS (0) (cM_isLetter l E σ t n q ee 3 bs x3 hT h21 h19 hq he (by decide)) vb_X12_isLetter tw_5_81 ⟨rfl, rfl⟩ ⟨Nat.le_of_ble_eq_true rfl, Nat.le_of_ble_eq_true rfl⟩ (by decide) rfl rfl rfl rfl hl.1 rfl (Nat.le_of_ble_eq_true rfl) dX12_isWord_60 ⟨Nat.zero_le _, Nat.zero_le _⟩ (fun r16 u17 H locs q18 hP hS => ?_)
              obtain ⟨rfl, q18u⟩ := q18
              rw [q18u] at hP; clear q18u
              refine lv_if_eq (tgt := 112) C.1 C.2.1 dX12_isWord_63 (by decide) (fun c19 => ?_) (fun c19 => ?_)
              · have c19 := bI_0.mp c19
                refine lv_iconst (v := 0) C.1 C.2.1 dX12_isWord_112 (by decide) ?_
                exact mw_zret C hr hlk Z hP hS rfl dX12_isWord_113 (⟨(bI_f (fun y => c19 (y.2.2.2.2.2.2.1))).symm, rfl⟩)
              · have c19 := bI_n.mp c19
                refine lv_aload_n C.1 C.2.1 dX12_isWord_66 rfl (lv_at hl 0 rfl) ?_
                refine lv_iconst (v := 4) C.1 C.2.1 dX12_isWord_67 (by decide) ?_
                refine lv_iload C.1 C.2.1 dX12_isWord_68 (lv_at hl 5 rfl) ?_
                refine mw_cVi (As := [.int 4, .int x4]) (rest := []) C Z hP hS (0) (cM_isLetter l E σ t n q ee 4 bs x4 hT h21 h19 hq he (by decide)) vb_X12_isLetter tw_5_81 ⟨rfl, rfl⟩ ⟨Nat.le_of_ble_eq_true rfl, Nat.le_of_ble_eq_true rfl⟩ (by decide) rfl rfl rfl rfl hl.1 rfl (Nat.le_of_ble_eq_true rfl) dX12_isWord_70 ⟨Nat.zero_le _, Nat.zero_le _⟩ (fun r20 u21 H locs q22 hP hS => ?_)
                obtain ⟨rfl, q22u⟩ := q22
                rw [q22u] at hP; clear q22u
                refine lv_if_eq (tgt := 112) C.1 C.2.1 dX12_isWord_73 (by decide) (fun c23 => ?_) (fun c23 => ?_)
                · have c23 := bI_0.mp c23
                  refine lv_iconst (v := 0) C.1 C.2.1 dX12_isWord_112 (by decide) ?_
                  exact mw_zret C hr hlk Z hP hS rfl dX12_isWord_113 (⟨(bI_f (fun y => c23 (y.2.2.2.2.2.2.2.1))).symm, rfl⟩)
                · have c23 := bI_n.mp c23
                  refine lv_aload_n C.1 C.2.1 dX12_isWord_76 rfl (lv_at hl 0 rfl) ?_
                  refine lv_iconst (v := 5) C.1 C.2.1 dX12_isWord_77 (by decide) ?_
                  refine lv_iload C.1 C.2.1 dX12_isWord_78 (lv_at hl 6 rfl) ?_
                  refine mw_cVi (As := [.int 5, .int x5]) (rest := []) C Z hP hS (0) (cM_isLetter l E σ t n q ee 5 bs x5 hT h21 h19 hq he (by decide)) vb_X12_isLetter tw_5_81 ⟨rfl, rfl⟩ ⟨Nat.le_of_ble_eq_true rfl, Nat.le_of_ble_eq_true rfl⟩ (by decide) rfl rfl rfl rfl hl.1 rfl (Nat.le_of_ble_eq_true rfl) dX12_isWord_80 ⟨Nat.zero_le _, Nat.zero_le _⟩ (fun r24 u25 H locs q26 hP hS => ?_)
                  obtain ⟨rfl, q26u⟩ := q26
                  rw [q26u] at hP; clear q26u
                  refine lv_if_eq (tgt := 112) C.1 C.2.1 dX12_isWord_83 (by decide) (fun c27 => ?_) (fun c27 => ?_)
                  · have c27 := bI_0.mp c27
                    refine lv_iconst (v := 0) C.1 C.2.1 dX12_isWord_112 (by decide) ?_
                    exact mw_zret C hr hlk Z hP hS rfl dX12_isWord_113 (⟨(bI_f (fun y => c27 (y.2.2.2.2.2.2.2.2.1))).symm, rfl⟩)
                  · have c27 := bI_n.mp c27
                    refine lv_aload_n C.1 C.2.1 dX12_isWord_86 rfl (lv_at hl 0 rfl) ?_
                    refine lv_bipush (v := 6) C.1 C.2.1 dX12_isWord_87 (by decide) ?_
                    refine lv_iload C.1 C.2.1 dX12_isWord_89 (lv_at hl 7 rfl) ?_
                    refine mw_cVi (As := [.int 6, .int x6]) (rest := []) C Z hP hS (0) (cM_isLetter l E σ t n q ee 6 bs x6 hT h21 h19 hq he (by decide)) vb_X12_isLetter tw_5_81 ⟨rfl, rfl⟩ ⟨Nat.le_of_ble_eq_true rfl, Nat.le_of_ble_eq_true rfl⟩ (by decide) rfl rfl rfl rfl hl.1 rfl (Nat.le_of_ble_eq_true rfl) dX12_isWord_91 ⟨Nat.zero_le _, Nat.zero_le _⟩ (fun r28 u29 H locs q30 hP hS => ?_)
                    obtain ⟨rfl, q30u⟩ := q30
                    rw [q30u] at hP; clear q30u
                    refine lv_if_eq (tgt := 112) C.1 C.2.1 dX12_isWord_94 (by decide) (fun c31 => ?_) (fun c31 => ?_)
                    · have c31 := bI_0.mp c31
                      refine lv_iconst (v := 0) C.1 C.2.1 dX12_isWord_112 (by decide) ?_
                      exact mw_zret C hr hlk Z hP hS rfl dX12_isWord_113 (⟨(bI_f (fun y => c31 (y.2.2.2.2.2.2.2.2.2.1))).symm, rfl⟩)
                    · have c31 := bI_n.mp c31
                      refine lv_aload_n C.1 C.2.1 dX12_isWord_97 rfl (lv_at hl 0 rfl) ?_
                      refine lv_bipush (v := 7) C.1 C.2.1 dX12_isWord_98 (by decide) ?_
                      refine lv_iload C.1 C.2.1 dX12_isWord_100 (lv_at hl 8 rfl) ?_
                      refine mw_cVi (As := [.int 7, .int x7]) (rest := []) C Z hP hS (0) (cM_isLetter l E σ t n q ee 7 bs x7 hT h21 h19 hq he (by decide)) vb_X12_isLetter tw_5_81 ⟨rfl, rfl⟩ ⟨Nat.le_of_ble_eq_true rfl, Nat.le_of_ble_eq_true rfl⟩ (by decide) rfl rfl rfl rfl hl.1 rfl (Nat.le_of_ble_eq_true rfl) dX12_isWord_102 ⟨Nat.zero_le _, Nat.zero_le _⟩ (fun r32 u33 H locs q34 hP hS => ?_)
                      obtain ⟨rfl, q34u⟩ := q34
                      rw [q34u] at hP; clear q34u
                      refine lv_if_eq (tgt := 112) C.1 C.2.1 dX12_isWord_105 (by decide) (fun c35 => ?_) (fun c35 => ?_)
                      · have c35 := bI_0.mp c35
                        refine lv_iconst (v := 0) C.1 C.2.1 dX12_isWord_112 (by decide) ?_
                        exact mw_zret C hr hlk Z hP hS rfl dX12_isWord_113 (⟨(bI_f (fun y => c35 (y.2.2.2.2.2.2.2.2.2.2))).symm, rfl⟩)
                      · have c35 := bI_n.mp c35
                        refine lv_iconst (v := 1) C.1 C.2.1 dX12_isWord_108 (by decide) ?_
                        refine lv_goto (tgt := 113) C.1 C.2.1 dX12_isWord_109 (by decide) ?_
                        have z : ee ≤ q + 8 := by have z := c3; rw [nI_ltI (by omega) (by omega)] at z; omega
                        exact mw_zret C hr hlk Z hP hS rfl dX12_isWord_113 (⟨(bI_t ⟨c1, c2, z, c7, c11, c15, c19, c23, c27, c31, c35⟩).symm, rfl⟩)

set_option maxHeartbeats 4000000 in
set_option maxRecDepth 100000 in
theorem cM_isSign (l : Launch) (E : mw_E) (σ : mw_M) (x : Int32) : mw_Ci shM 13 gM l yX12_isSign cX12_isSign 2 (some .boolean) (rmF 0 0) E [.ref (mw_a E 0), .int x] σ (fun r u => r = bI (σ.1 0 24 = 0 ∧ σ.1 0 20 = 3 ∧ σ.2.2 0 22 = x.toInt64) ∧ u = σ) := by
  refine mw_of (by decide) gM_ok (Nat.le_of_ble_eq_true rfl) ?_
  intro p_ e_ s_ m_ below meth c_ C hr hlk Z hP ls hl
  have C : CallFix p_ m_ c_ cX12_isSign 2 s_ _ lw_good RX12 := C
  have hl : lv_has ls 2 [(0, .ref (mw_a E 0)), (1, .int x)] := hl
  have hS : va_S (mw_A 13 E) s_.heap s_.heap [] := va_S.rf
  refine lv_aload_n C.1 C.2.1 dX12_isSign_0 rfl (lv_at hl 0 rfl) ?_
  refine mw_geti C Z hP (0) 24 (by decide) rfl rfl rfl (by decide) inX12 tw_4_188 dX12_isSign_1 ?_
  refine lv_if_ne (tgt := 29) C.1 C.2.1 dX12_isSign_4 (by decide) (fun c1 => ?_) (fun c1 => ?_)
  · refine lv_iconst (v := 0) C.1 C.2.1 dX12_isSign_29 (by decide) ?_
    exact mw_zret C hr hlk Z hP hS rfl dX12_isSign_30 (⟨(bI_f (fun y => c1 (y.1))).symm, rfl⟩)
  · refine lv_aload_n C.1 C.2.1 dX12_isSign_7 rfl (lv_at hl 0 rfl) ?_
    refine mw_geti C Z hP (0) 20 (by decide) rfl rfl rfl (by decide) inX12 tw_4_184 dX12_isSign_8 ?_
    refine lv_iconst (v := 3) C.1 C.2.1 dX12_isSign_11 (by decide) ?_
    refine lv_icmp_ne (tgt := 29) C.1 C.2.1 dX12_isSign_12 (by decide) (fun c2 => ?_) (fun c2 => ?_)
    · refine lv_iconst (v := 0) C.1 C.2.1 dX12_isSign_29 (by decide) ?_
      exact mw_zret C hr hlk Z hP hS rfl dX12_isSign_30 (⟨(bI_f (fun y => c2 (y.2.1))).symm, rfl⟩)
    · refine lv_aload_n C.1 C.2.1 dX12_isSign_15 rfl (lv_at hl 0 rfl) ?_
      refine mw_getl C Z hP (0) 22 (by decide) rfl rfl rfl (by decide) inX12 tw_4_186 dX12_isSign_16 ?_
      refine lv_iload_n C.1 C.2.1 dX12_isSign_19 rfl (lv_at hl 1 rfl) ?_
      refine lv_i2l C.1 C.2.1 dX12_isSign_20 rfl ?_
      refine W.lcmp C.1 C.2.1 dX12_isSign_21 ?_
      refine lv_if_ne (tgt := 29) C.1 C.2.1 dX12_isSign_22 (by decide) (fun c3 => ?_) (fun c3 => ?_)
      · have c3 := (not_congr (lg_cmp_eq _ _)).mp c3
        refine lv_iconst (v := 0) C.1 C.2.1 dX12_isSign_29 (by decide) ?_
        exact mw_zret C hr hlk Z hP hS rfl dX12_isSign_30 (⟨(bI_f (fun y => c3 (y.2.2))).symm, rfl⟩)
      · have c3 := (lg_cmp_eq _ _).mp c3
        refine lv_iconst (v := 1) C.1 C.2.1 dX12_isSign_25 (by decide) ?_
        refine lv_goto (tgt := 30) C.1 C.2.1 dX12_isSign_26 (by decide) ?_
        exact mw_zret C hr hlk Z hP hS rfl dX12_isSign_30 (⟨(bI_t ⟨c1, c2, c3⟩).symm, rfl⟩)

theorem cM_isSignP (l : Launch) (E : mw_E) (σ : mw_M) (t n : Nat) (bs : Nat → Int32) (k p : Nat) (ts : List (Nat × Nat)) (o : Nat) (h : mPS σ t n bs k p ts o) (j : Nat) (hj : j < 8) : mw_Ci shM 13 gM l yX12_isSign cX12_isSign 2 (some .boolean) (rmF 0 0) E [.ref (mw_a E 0), .int (signsF.getD j 0)] σ (fun r u => r = bI (k = 12 + j) ∧ u = σ) :=
  (cM_isSign l E σ (signsF.getD j 0)).imp (fun r u q => ⟨q.1.trans (bI_congr ⟨fun z => (h.2.2.2.2.2.1 j hj).mp z.2, fun z => ⟨h.2.1, (h.2.2.2.2.2.1 j hj).mpr z⟩⟩), q.2⟩)
theorem cM_isSignB (l : Launch) (E : mw_E) (σ : mw_M) (x : Int32) (h : σ.1 0 24 = 1) : mw_Ci shM 13 gM l yX12_isSign cX12_isSign 2 (some .boolean) (rmF 0 0) E [.ref (mw_a E 0), .int x] σ (fun r u => r = 0 ∧ u = σ) :=
  (cM_isSign l E σ x).imp (fun r u q => ⟨q.1.trans (bI_f (fun z => by rw [h] at z; exact absurd z.1 (by decide))), q.2⟩)
theorem cM_isWordP (l : Launch) (E : mw_E) (σ : mw_M) (t n : Nat) (bs : Nat → Int32) (k p : Nat) (ts : List (Nat × Nat)) (o : Nat) (h : mPS σ t n bs k p ts o) (i : Nat) (hi : i < 12) : mw_Ci shM 13 gM l yX12_isWord cX12_isWord 9 (some .boolean) (rmF 2 43) E [.ref (mw_a E 0), .int ((wordsF.getD i []).getD 0 0), .int ((wordsF.getD i []).getD 1 0), .int ((wordsF.getD i []).getD 2 0), .int ((wordsF.getD i []).getD 3 0), .int ((wordsF.getD i []).getD 4 0), .int ((wordsF.getD i []).getD 5 0), .int ((wordsF.getD i []).getD 6 0), .int ((wordsF.getD i []).getD 7 0)] σ (fun r u => r = bI (k = i) ∧ u = σ) := by
  obtain ⟨hT, h24, h23, ⟨hp, h21, -⟩, ⟨e, he, h19, -, hw⟩, -⟩ := h
  refine (cM_isWord l E σ t n p e bs ((wordsF.getD i []).getD 0 0) ((wordsF.getD i []).getD 1 0) ((wordsF.getD i []).getD 2 0) ((wordsF.getD i []).getD 3 0) ((wordsF.getD i []).getD 4 0) ((wordsF.getD i []).getD 5 0) ((wordsF.getD i []).getD 6 0) ((wordsF.getD i []).getD 7 0) hT h21 h19 hp he).imp (fun r u q => ⟨q.1.trans (bI_congr ?_), q.2⟩)
  rw [← hw i hi]
  refine ⟨fun z => ⟨z.2.1, z.2.2.1, fun k hk => ?_⟩, fun z => ⟨h24, z.1, z.2.1, z.2.2 0 (by decide), z.2.2 1 (by decide), z.2.2 2 (by decide), z.2.2 3 (by decide), z.2.2 4 (by decide), z.2.2 5 (by decide), z.2.2 6 (by decide), z.2.2 7 (by decide)⟩⟩
  have z := z.2.2.2
  match k, hk with
  | 0, _ => exact z.1
  | 1, _ => exact z.2.1
  | 2, _ => exact z.2.2.1
  | 3, _ => exact z.2.2.2.1
  | 4, _ => exact z.2.2.2.2.1
  | 5, _ => exact z.2.2.2.2.2.1
  | 6, _ => exact z.2.2.2.2.2.2.1
  | 7, _ => exact z.2.2.2.2.2.2.2
theorem cM_nextP (l : Launch) (E : mw_E) (σ : mw_M) (t n : Nat) (bs : Nat → Int32) (k p : Nat) (ts : List (Nat × Nat)) (o : Nat) (h : mPS σ t n bs k p ts o) (h1 : k ≠ 21) (h2 : k ≠ 22) : mw_Cv shM 13 gM l yX12_next cX12_next 3 none (rmF 1 30) E [.ref (mw_a E 0)] σ (fun u => mPL u t n bs ts o ∧ mFp σ u) := by
  obtain ⟨hT, h24, h23, -, ⟨e, he, h19, hts, -⟩, -⟩ := h
  refine (cM_next l E σ t n e bs hT h19 he).imp (fun u q => ?_)
  obtain ⟨hl, hf⟩ := q
  obtain ⟨k2, p2, ts2, e2, hk⟩ := mLx_tk hT.2.2.2.1 hl
  exact ⟨⟨k2, p2, ts2, (hts h1 h2).trans e2, hf.tx hT, (hf.2 24 (by omega)).trans h24, (hf.2 23 (by omega)).trans h23, hk⟩, hf.p⟩
theorem cM_failP (l : Launch) (E : mw_E) (σ : mw_M) (t n : Nat) (bs : Nat → Int32) (k p : Nat) (ts : List (Nat × Nat)) (o : Nat) (h : mPS σ t n bs k p ts o) : mw_Cv shM 13 gM l yX12_fail cX12_fail 1 none (rmF 0 0) E [.ref (mw_a E 0)] σ (fun u => mBd u p ∧ mFp σ u) := by
  obtain ⟨hT, h24, h23, ⟨hp, h21, -⟩, -⟩ := h
  refine (cM_fail l E σ).imp (fun u q => ?_)
  unfold mFl at q
  rw [if_pos h24] at q
  subst q
  exact ⟨⟨rfl, h21⟩, ((mFp.rf σ).si (by decide) _).si (by decide) _⟩
theorem cM_failB (l : Launch) (E : mw_E) (σ : mw_M) (h : σ.1 0 24 = 1) : mw_Cv shM 13 gM l yX12_fail cX12_fail 1 none (rmF 0 0) E [.ref (mw_a E 0)] σ (fun u => u = σ) := by
  refine (cM_fail l E σ).imp (fun u q => ?_)
  unfold mFl at q
  rw [if_neg (by rw [h]; decide)] at q
  exact q

set_option maxHeartbeats 4000000 in
set_option maxRecDepth 100000 in
theorem cM_isWordB (l : Launch) (E : mw_E) (σ : mw_M) (hb : σ.1 0 24 = 1) (x0 x1 x2 x3 x4 x5 x6 x7 : Int32) : mw_Ci shM 13 gM l yX12_isWord cX12_isWord 9 (some .boolean) (rmF 2 43) E [.ref (mw_a E 0), .int x0, .int x1, .int x2, .int x3, .int x4, .int x5, .int x6, .int x7] σ (fun r u => r = 0 ∧ u = σ) := by
  refine mw_of (by decide) gM_ok (Nat.le_of_ble_eq_true rfl) ?_
  intro p_ e_ s_ m_ below meth c_ C hr hlk Z hP ls hl
  have C : CallFix p_ m_ c_ cX12_isWord 9 s_ _ lw_good RX12 := C
  have hl : lv_has ls 9 [(0, .ref (mw_a E 0)), (1, .int x0), (2, .int x1), (3, .int x2), (4, .int x3), (5, .int x4), (6, .int x5), (7, .int x6), (8, .int x7)] := hl
  have hS : va_S (mw_A 13 E) s_.heap s_.heap [] := va_S.rf
  refine lv_aload_n C.1 C.2.1 dX12_isWord_0 rfl (lv_at hl 0 rfl) ?_
  refine mw_geti C Z hP (0) 24 (by decide) rfl rfl rfl (by decide) inX12 tw_4_188 dX12_isWord_1 ?_
  refine mw_top (y := 1) (hb) ?_
  refine lv_if_ne (tgt := 112) C.1 C.2.1 dX12_isWord_4 (by decide) (fun c1 => ?_) (fun c1 => ?_)
  · refine lv_iconst (v := 0) C.1 C.2.1 dX12_isWord_112 (by decide) ?_
    exact mw_zret C hr hlk Z hP hS rfl dX12_isWord_113 (⟨rfl, rfl⟩)
  · exact absurd c1 (by decide)
