/-! THE CLASS'S READER: FAIL, PASS; what is never read past -/
theorem lv_1 {c : Nat} : lvF c = 1 ↔ gAnd c = true := by
  unfold lvF gAnd
  simp only [beq_iff_eq]
  repeat' split
  all_goals first | (subst_vars; decide) | (constructor <;> intro y <;> first | (exact absurd y (by decide)) | omega)
theorem lv_2 {c : Nat} : lvF c = 2 ↔ (c = 18 ∨ c = 19) := by
  unfold lvF
  repeat' split
  all_goals first | (subst_vars; decide) | (constructor <;> intro y <;> first | (exact absurd y (by decide)) | omega | assumption | rfl)
theorem lv_3 {c : Nat} : lvF c = 3 ↔ gAdd c = true := by
  unfold lvF gAdd
  simp only [beq_iff_eq, Bool.or_eq_true]
  repeat' split
  all_goals first | (subst_vars; decide) | (constructor <;> intro y <;> first | (exact absurd y (by decide)) | omega | assumption | rfl)
theorem lv_4 {c : Nat} : lvF c = 4 ↔ gTim c = true := by
  unfold lvF gTim
  simp only [beq_iff_eq]
  repeat' split
  all_goals first | (subst_vars; decide) | (constructor <;> intro y <;> first | (exact absurd y (by decide)) | omega | assumption | rfl)
theorem lv_21 {c : Nat} {v : Int32} (h : lvF c = v) (hv : v ≠ -1) : c ≠ 21 := fun y => by subst y; exact hv h.symm
def eL (ts : List (Nat × Nat)) : Prop := ∃ pre n, ts = pre ++ [(21, n)]
theorem eL.ne {ts : List (Nat × Nat)} (h : eL ts) : ts ≠ [] := by
  obtain ⟨pre, n, rfl⟩ := h
  simp
theorem eL.tl {c p : Nat} {t : List (Nat × Nat)} (h : eL ((c, p) :: t)) (hc : c ≠ 21) : eL t := by
  obtain ⟨pre, n, e⟩ := h
  cases pre with
  | nil => cases e; exact absurd rfl hc
  | cons k pre2 =>
    rw [List.cons_append] at e
    exact ⟨pre2, n, (List.cons.inj e).2⟩
def gE (x : List (Nat × Nat) → gR) : Prop := ∀ ts cs ts2, eL ts → x ts = .inl (cs, ts2) → eL ts2
theorem gLoop_eL {ops : Nat → Bool} {x : List (Nat × Nat) → gR} (ho : ∀ c, ops c = true → c ≠ 21) (hx : gE x) : ∀ f cs ts cs2 ts2, eL ts → gLoop ops x f cs ts = .inl (cs2, ts2) → eL ts2
  | 0, cs, ts, cs2, ts2, he, h => by
    unfold gLoop at h
    cases h
    exact he
  | f + 1, cs, [], cs2, ts2, he, h => by
    unfold gLoop at h
    cases h
    exact he
  | f + 1, cs, (c, p) :: ts, cs2, ts2, he, h => by
    unfold gLoop at h
    by_cases hc : ops c = true
    · rw [if_pos hc] at h
      cases hq : x ts with
      | inr q => rw [hq] at h; cases h
      | inl z =>
        obtain ⟨cs3, ts3⟩ := z
        rw [hq] at h
        exact gLoop_eL ho hx f _ _ _ _ (hx ts cs3 ts3 (he.tl (ho c hc)) hq) h
    · rw [if_neg hc] at h
      cases h
      exact he
theorem gLevel_eL {ops : Nat → Bool} {x : List (Nat × Nat) → gR} (ho : ∀ c, ops c = true → c ≠ 21) (hx : gE x) : gE (gLevel ops x) := by
  intro ts cs ts2 he h
  unfold gLevel at h
  cases hq : x ts with
  | inr q => rw [hq] at h; cases h
  | inl z =>
    obtain ⟨cs3, ts3⟩ := z
    rw [hq] at h
    exact gLoop_eL ho hx _ _ _ _ _ (hx ts cs3 ts3 he hq) h
theorem gCmp_eL {x : List (Nat × Nat) → gR} (hx : gE x) : gE (gCmp x) := by
  intro ts cs ts2 he h
  unfold gCmp at h
  cases hq : x ts with
  | inr q => rw [hq] at h; cases h
  | inl z =>
    obtain ⟨cs3, ts3⟩ := z
    have h1 := hx ts cs3 ts3 he hq
    rw [hq] at h
    cases ts3 with
    | nil => cases h; exact h1
    | cons k ts4 =>
      obtain ⟨c, p⟩ := k
      dsimp only at h
      by_cases ho : c = 18 ∨ c = 19
      · rw [if_pos ho] at h
        cases hq2 : x ts4 with
        | inr q => rw [hq2] at h; cases h
        | inl z =>
          obtain ⟨cs5, ts5⟩ := z
          rw [hq2] at h
          cases h
          exact hx ts4 cs5 ts2 (h1.tl (by omega)) hq2
      · rw [if_neg ho] at h
        cases h
        exact h1
theorem gNot_eL {y : Option (List (Nat × Nat) → gR)} {x : List (Nat × Nat) → gR} (hy : ∀ f, y = some f → gE f) (hx : gE x) : gE (gNot y x) := by
  intro ts cs ts2 he h
  cases ts with
  | nil => cases h
  | cons k ts1 =>
    obtain ⟨c, p⟩ := k
    unfold gNot at h
    dsimp only at h
    by_cases ho : c = 11
    · rw [if_pos ho] at h
      cases y with
      | none => cases h
      | some f =>
        dsimp only at h
        cases hq : f ts1 with
        | inr q => rw [hq] at h; cases h
        | inl z =>
          obtain ⟨cs3, ts3⟩ := z
          rw [hq] at h
          cases h
          exact hy f rfl ts1 cs3 ts2 (he.tl (by omega)) hq
    · rw [if_neg ho] at h
      exact hx _ _ _ he h
theorem gAt_eL {y : Option ((List (Nat × Nat) → gR) × (List (Nat × Nat) → gR))} (hy : ∀ f, y = some f → gE f.1 ∧ gE f.2) : gE (gAt y) := by
  intro ts cs ts2 he h
  cases ts with
  | nil => cases h
  | cons k ts1 =>
    obtain ⟨c, p⟩ := k
    unfold gAt at h
    dsimp only at h
    by_cases h1 : c ≤ 5 ∨ 100 ≤ c
    · rw [if_pos h1] at h
      cases h
      exact he.tl (by omega)
    · rw [if_neg h1] at h
      by_cases h2 : c = 16
      · rw [if_pos h2] at h
        cases y with
        | none => cases h
        | some f =>
          dsimp only at h
          cases hq : f.1 ts1 with
          | inr q => rw [hq] at h; cases h
          | inl z =>
            obtain ⟨cs3, ts3⟩ := z
            rw [hq] at h
            cases h
            exact (hy f rfl).1 ts1 cs3 ts2 (he.tl (by omega)) hq
      · rw [if_neg h2] at h
        by_cases h3 : c = 12
        · rw [if_pos h3] at h
          cases y with
          | none => cases h
          | some f =>
            dsimp only at h
            cases hq : f.2 ts1 with
            | inr q => rw [hq] at h; cases h
            | inl z =>
              obtain ⟨cs3, ts3⟩ := z
              rw [hq] at h
              have h5 := (hy f rfl).2 ts1 cs3 ts3 (he.tl (by omega)) hq
              cases ts3 with
              | nil => cases h
              | cons k2 ts4 =>
                obtain ⟨c2, p2⟩ := k2
                dsimp only at h
                by_cases h4 : c2 = 13
                · rw [if_pos h4] at h
                  cases h
                  exact h5.tl (by omega)
                · rw [if_neg h4] at h
                  cases h
        · rw [if_neg h3] at h
          cases h
theorem op21 : (∀ c, gOr c = true → c ≠ 21) ∧ (∀ c, gAnd c = true → c ≠ 21) ∧ (∀ c, gAdd c = true → c ≠ 21) ∧ ∀ c, gTim c = true → c ≠ 21 := ⟨fun _ h => lv_21 (lv_0.mpr h) (by decide), fun _ h => lv_21 (lv_1.mpr h) (by decide), fun _ h => lv_21 (lv_3.mpr h) (by decide), fun _ h => lv_21 (lv_4.mpr h) (by decide)⟩
theorem gD_eL : ∀ d, gE (gD d).1 ∧ gE (gD d).2.1 ∧ gE (gD d).2.2
  | 0 => by
    have ha : gE (gAt none) := gAt_eL (fun f h => by cases h)
    have hn : gE (gNot none (gCmp (gS (gAt none)))) := gNot_eL (fun f h => by cases h) (gCmp_eL (gLevel_eL op21.2.2.1 (gLevel_eL op21.2.2.2 ha)))
    exact ⟨ha, hn, gLevel_eL op21.1 (gLevel_eL op21.2.1 hn)⟩
  | d + 1 => by
    obtain ⟨h1, h2, h3⟩ := gD_eL d
    have ha : gE (gAt (some ((gD d).1, (gD d).2.2))) := gAt_eL (fun f h => by cases h; exact ⟨h1, h3⟩)
    have hn : gE (gNot (some (gD d).2.1) (gCmp (gS (gAt (some ((gD d).1, (gD d).2.2)))))) := gNot_eL (fun f h => by cases h; exact h2) (gCmp_eL (gLevel_eL op21.2.2.1 (gLevel_eL op21.2.2.2 ha)))
    exact ⟨ha, hn, gLevel_eL op21.1 (gLevel_eL op21.2.1 hn)⟩
theorem tkF_eL (bs : Nat → Int32) (n : Nat) : ∀ f h, eL (tkF bs n f h)
  | 0, h => ⟨[], n, rfl⟩
  | f + 1, h => by
    unfold tkF
    split
    · exact ⟨[], n, rfl⟩
    · split
      · exact tkF_eL bs n f (h + 1)
      · obtain ⟨pre, m, e⟩ := tkF_eL bs n f (enF bs n h)
        exact ⟨(coF bs n h, h) :: pre, m, by rw [e]; rfl⟩

set_option maxHeartbeats 4000000 in
set_option maxRecDepth 100000 in
theorem cX_failG (l : Launch) (E : mw_E) (σ : mw_M) (T : List (Nat × Nat)) (j : Nat) (hj : j < 6) (a : Nat) (ts : List (Nat × Nat)) (cs : List Nat) (B : Nat) (hB : B ≤ 161) (h : xPo σ T j a ts cs B) : mw_Cv shX 75 gX l yX3_fail cX3_fail 1 none (rmF 2 85) E [.ref (mw_a E 33)] σ (fun u => u = mw_si σ 33 2 (nI (hdP ts))) := by
  refine mw_of (by decide) gX_ok (Nat.le_of_ble_eq_true rfl) ?_
  intro p_ e_ s_ m_ below meth c_ C hr hlk Z hP ls hl
  have C : CallFix p_ m_ c_ cX3_fail 1 s_ _ lw_good RX3 := C
  have hl : lv_has ls 1 [(0, .ref (mw_a E 33))] := hl
  have hS : va_S (mw_A 75 E) s_.heap s_.heap [] := va_S.rf
  refine lv_aload_n C.1 C.2.1 dX3_fail_0 rfl (lv_at hl 0 rfl) ?_
  refine mw_geti C Z hP (33) 2 (by decide) sx_33 rfl rfl (by decide) inX3 tw_1_155 dX3_fail_1 ?_
  refine mw_top (y := -1) (h.2.2.2.2.1) ?_
  refine lv_iconst (v := -1) C.1 C.2.1 dX3_fail_4 (by decide) ?_
  refine lv_icmp_ne (tgt := 23) C.1 C.2.1 dX3_fail_5 (by decide) (fun c1 => ?_) (fun c1 => ?_)
  · exact absurd c1 (by decide)
  · refine lv_aload_n C.1 C.2.1 dX3_fail_8 rfl (lv_at hl 0 rfl) ?_
    refine lv_aload_n C.1 C.2.1 dX3_fail_9 rfl (lv_at hl 0 rfl) ?_
    refine mw_getr C Z hP (33) 0 (34) (by decide) sx_33 rfl rfl (by decide) inX3 tw_1_153 dX3_fail_10 ?_
    refine lv_aload_n C.1 C.2.1 dX3_fail_13 rfl (lv_at hl 0 rfl) ?_
    refine mw_geti C Z hP (33) 1 (by decide) sx_33 rfl rfl (by decide) inX3 tw_1_154 dX3_fail_14 ?_
    refine mw_top (y := nI a) (h.2.2.2.1) ?_
    refine mw_cVi (As := [.int (nI a)]) (rest := [.ref (mw_a E 33)]) C Z hP hS (34) (cX_placeAt l E σ T.length h.1.2.1 h.1.1 a (by have y1 := h.1.1; have y2 := h.2.2.1; omega)) vb_X10_placeAt tw_2_212 ⟨rfl, rfl⟩ ⟨Nat.le_of_ble_eq_true rfl, Nat.le_of_ble_eq_true rfl⟩ (by decide) sx_34 rfl rfl rfl hl.1 rfl (Nat.le_of_ble_eq_true rfl) dX3_fail_17 ⟨Nat.zero_le _, Nat.zero_le _⟩ (fun r2 u3 H locs q4 hP hS => ?_)
    rw [(h.1.tok a).2, h.2.1] at q4
    obtain ⟨rfl, q4u⟩ := q4
    rw [q4u] at hP; clear q4u
    refine mw_puti C Z hP hS (33) 2 (by decide) sx_33 rfl rfl (by decide) inX3 tyX3 tyX3_ok nmX3 rfl tw_1_155 rfl rfl dX3_fail_20 (fun H locs hP hS => ?_)
    exact mw_vret C hr hlk Z hP hS dX3_fail_23 (rfl)

set_option maxHeartbeats 4000000 in
set_option maxRecDepth 100000 in
theorem cX_failB (l : Launch) (E : mw_E) (σ : mw_M) (T : List (Nat × Nat)) (j : Nat) (hj : j < 6) (q : Nat) (h : xPb σ T j q) : mw_Cv shX 75 gX l yX3_fail cX3_fail 1 none (rmF 2 85) E [.ref (mw_a E 33)] σ (fun u => u = σ) := by
  refine mw_of (by decide) gX_ok (Nat.le_of_ble_eq_true rfl) ?_
  intro p_ e_ s_ m_ below meth c_ C hr hlk Z hP ls hl
  have C : CallFix p_ m_ c_ cX3_fail 1 s_ _ lw_good RX3 := C
  have hl : lv_has ls 1 [(0, .ref (mw_a E 33))] := hl
  have hS : va_S (mw_A 75 E) s_.heap s_.heap [] := va_S.rf
  refine lv_aload_n C.1 C.2.1 dX3_fail_0 rfl (lv_at hl 0 rfl) ?_
  refine mw_geti C Z hP (33) 2 (by decide) sx_33 rfl rfl (by decide) inX3 tw_1_155 dX3_fail_1 ?_
  refine mw_top (y := nI q) (h.2.2.1.1) ?_
  refine lv_iconst (v := -1) C.1 C.2.1 dX3_fail_4 (by decide) ?_
  refine lv_icmp_ne (tgt := 23) C.1 C.2.1 dX3_fail_5 (by decide) (fun c1 => ?_) (fun c1 => ?_)
  · exact mw_vret C hr hlk Z hP hS dX3_fail_23 (rfl)
  · exact absurd c1 (nI_nm1 (by have y := h.2.2.1.2; omega))

set_option maxHeartbeats 4000000 in
set_option maxRecDepth 100000 in
theorem cX_passG (l : Launch) (E : mw_E) (σ : mw_M) (T : List (Nat × Nat)) (j : Nat) (hj : j < 6) (a : Nat) (ts : List (Nat × Nat)) (cs : List Nat) (B : Nat) (hB : B ≤ 161) (h : xPo σ T j a ts cs B) (c : Nat) (hc : c < 100) : mw_Cv shX 75 gX l yX3_pass cX3_pass 2 none (rmF 3 105) E [.ref (mw_a E 33), .int (nI c)] σ (fun u => (hdC ts = c → u = mw_si σ 33 1 (nI (a + 1))) ∧ (¬ hdC ts = c → u = mw_si σ 33 2 (nI (hdP ts)))) := by
  refine mw_of (by decide) gX_ok (Nat.le_of_ble_eq_true rfl) ?_
  intro p_ e_ s_ m_ below meth c_ C hr hlk Z hP ls hl
  have C : CallFix p_ m_ c_ cX3_pass 2 s_ _ lw_good RX3 := C
  have hl : lv_has ls 2 [(0, .ref (mw_a E 33)), (1, .int (nI c))] := hl
  have hS : va_S (mw_A 75 E) s_.heap s_.heap [] := va_S.rf
  refine lv_aload_n C.1 C.2.1 dX3_pass_0 rfl (lv_at hl 0 rfl) ?_
  refine mw_geti C Z hP (33) 2 (by decide) sx_33 rfl rfl (by decide) inX3 tw_1_155 dX3_pass_1 ?_
  refine mw_top (y := -1) (h.2.2.2.2.1) ?_
  refine lv_iconst (v := -1) C.1 C.2.1 dX3_pass_4 (by decide) ?_
  refine lv_icmp_ne (tgt := 36) C.1 C.2.1 dX3_pass_5 (by decide) (fun c1 => ?_) (fun c1 => ?_)
  · exact absurd c1 (by decide)
  · refine lv_aload_n C.1 C.2.1 dX3_pass_8 rfl (lv_at hl 0 rfl) ?_
    refine mw_getr C Z hP (33) 0 (34) (by decide) sx_33 rfl rfl (by decide) inX3 tw_1_153 dX3_pass_9 ?_
    refine lv_aload_n C.1 C.2.1 dX3_pass_12 rfl (lv_at hl 0 rfl) ?_
    refine mw_geti C Z hP (33) 1 (by decide) sx_33 rfl rfl (by decide) inX3 tw_1_154 dX3_pass_13 ?_
    refine mw_top (y := nI a) (h.2.2.2.1) ?_
    refine mw_cVi (As := [.int (nI a)]) (rest := []) C Z hP hS (34) (cX_tokenAt l E σ T.length h.1.2.1 h.1.1 a (by have y1 := h.1.1; have y2 := h.2.2.1; omega)) vb_X10_tokenAt tw_2_204 ⟨rfl, rfl⟩ ⟨Nat.le_of_ble_eq_true rfl, Nat.le_of_ble_eq_true rfl⟩ (by decide) sx_34 rfl rfl rfl hl.1 rfl (Nat.le_of_ble_eq_true rfl) dX3_pass_16 ⟨Nat.zero_le _, Nat.zero_le _⟩ (fun r2 u3 H locs q4 hP hS => ?_)
    rw [(h.1.tok a).1, h.2.1] at q4
    obtain ⟨rfl, q4u⟩ := q4
    rw [q4u] at hP; clear q4u
    refine lv_iload_n C.1 C.2.1 dX3_pass_19 rfl (lv_at hl 1 rfl) ?_
    refine lv_icmp_ne (tgt := 36) C.1 C.2.1 dX3_pass_20 (by decide) (fun c5 => ?_) (fun c5 => ?_)
    · have hcc : ¬ hdC ts = c := fun y => c5 (by rw [y])
      refine lv_aload_n C.1 C.2.1 dX3_pass_36 rfl (lv_at hl 0 rfl) ?_
      refine mw_cVv (As := []) (rest := []) C Z hP hS (33) (cX_failG l E σ T j hj a ts cs B (by omega) h) vb_X3_fail tw_2_208 ⟨rfl, rfl⟩ ⟨Nat.le_of_ble_eq_true rfl, Nat.le_of_ble_eq_true rfl⟩ (by decide) sx_33 rfl rfl rfl hl.1 rfl (Nat.le_of_ble_eq_true rfl) dX3_pass_37 ⟨Nat.zero_le _, Nat.zero_le _⟩ (fun u7 H locs q8 hP hS => ?_)
      subst q8
      exact mw_vret C hr hlk Z hP hS dX3_pass_40 (⟨fun z => absurd z hcc, fun _ => rfl⟩)
    · have hcc : hdC ts = c := nI_eqI (by have y := (h.1.lt a).1; rw [h.2.1] at y; omega) (by omega) c5
      refine lv_aload_n C.1 C.2.1 dX3_pass_23 rfl (lv_at hl 0 rfl) ?_
      refine lv_dup C.1 C.2.1 dX3_pass_24 rfl ?_
      refine mw_geti C Z hP (33) 1 (by decide) sx_33 rfl rfl (by decide) inX3 tw_1_154 dX3_pass_25 ?_
      refine mw_top (y := nI a) (h.2.2.2.1) ?_
      refine lv_iconst (v := 1) C.1 C.2.1 dX3_pass_28 (by decide) ?_
      refine lv_iadd C.1 C.2.1 dX3_pass_29 ?_
      refine mw_top (y := nI (a + 1)) (nI_1 _) ?_
      refine mw_puti C Z hP hS (33) 1 (by decide) sx_33 rfl rfl (by decide) inX3 tyX3 tyX3_ok nmX3 rfl tw_1_154 rfl rfl dX3_pass_30 (fun H locs hP hS => ?_)
      refine lv_goto (tgt := 40) C.1 C.2.1 dX3_pass_33 (by decide) ?_
      exact mw_vret C hr hlk Z hP hS dX3_pass_40 (⟨fun _ => rfl, fun z => absurd hcc z⟩)

set_option maxHeartbeats 4000000 in
set_option maxRecDepth 100000 in
theorem cX_passB (l : Launch) (E : mw_E) (σ : mw_M) (T : List (Nat × Nat)) (j : Nat) (hj : j < 6) (q : Nat) (h : xPb σ T j q) (c : Int32) : mw_Cv shX 75 gX l yX3_pass cX3_pass 2 none (rmF 3 105) E [.ref (mw_a E 33), .int c] σ (fun u => u = σ) := by
  refine mw_of (by decide) gX_ok (Nat.le_of_ble_eq_true rfl) ?_
  intro p_ e_ s_ m_ below meth c_ C hr hlk Z hP ls hl
  have C : CallFix p_ m_ c_ cX3_pass 2 s_ _ lw_good RX3 := C
  have hl : lv_has ls 2 [(0, .ref (mw_a E 33)), (1, .int c)] := hl
  have hS : va_S (mw_A 75 E) s_.heap s_.heap [] := va_S.rf
  refine lv_aload_n C.1 C.2.1 dX3_pass_0 rfl (lv_at hl 0 rfl) ?_
  refine mw_geti C Z hP (33) 2 (by decide) sx_33 rfl rfl (by decide) inX3 tw_1_155 dX3_pass_1 ?_
  refine mw_top (y := nI q) (h.2.2.1.1) ?_
  refine lv_iconst (v := -1) C.1 C.2.1 dX3_pass_4 (by decide) ?_
  refine lv_icmp_ne (tgt := 36) C.1 C.2.1 dX3_pass_5 (by decide) (fun c1 => ?_) (fun c1 => ?_)
  · refine lv_aload_n C.1 C.2.1 dX3_pass_36 rfl (lv_at hl 0 rfl) ?_
    refine mw_cVv (As := []) (rest := []) C Z hP hS (33) (cX_failB l E σ T j hj q h) vb_X3_fail tw_2_208 ⟨rfl, rfl⟩ ⟨Nat.le_of_ble_eq_true rfl, Nat.le_of_ble_eq_true rfl⟩ (by decide) sx_33 rfl rfl rfl hl.1 rfl (Nat.le_of_ble_eq_true rfl) dX3_pass_37 ⟨Nat.zero_le _, Nat.zero_le _⟩ (fun u3 H locs q4 hP hS => ?_)
    rw [q4] at hP; clear q4
    exact mw_vret C hr hlk Z hP hS dX3_pass_40 (rfl)
  · exact absurd c1 (nI_nm1 (by have y := h.2.2.1.2; omega))
