/-! SHEETS KEEP THE RELATION -/
def RS1 (σ τ : mw_M) (s : Nat) : Prop := ∃ m : Nat, m ≤ 40 ∧ σ.1 (67 + s) 1 = nI m ∧ ((σ.1 (67 + s) 0 = -1 ∧ τ.2.1 9 s = 0) ∨ ((∃ k : Nat, k ≤ 2 ∧ σ.1 (67 + s) 0 = nI k) ∧ τ.2.1 9 s = 1 ∧ τ.2.1 10 s = σ.1 (67 + s) 0 ∧ τ.2.1 11 s = nI m ∧ ∀ q, q < m → σ.2.1 (71 + s) q = τ.2.1 12 (40 * s + q)))
theorem RSh.up {σ u τ v : mw_M} {s : Nat} (h : RSh σ τ) (h1 : RS1 u v s) (hx : ∀ k, k ≠ s → u.1 (67 + k) = σ.1 (67 + k)) (hx2 : ∀ k, k ≠ s → u.2.1 (71 + k) = σ.2.1 (71 + k)) (h9 : ∀ k, k ≠ s → v.2.1 9 k = τ.2.1 9 k) (h10 : ∀ k, k ≠ s → v.2.1 10 k = τ.2.1 10 k) (h11 : ∀ k, k ≠ s → v.2.1 11 k = τ.2.1 11 k) (h12 : ∀ k, k ≠ s → ∀ q, q < 40 → v.2.1 12 (40 * k + q) = τ.2.1 12 (40 * k + q)) : RSh u v := by
  intro k hk
  by_cases e : k = s
  · subst e; exact h1
  · obtain ⟨m, m1, m2, m3⟩ := h k hk
    rw [hx k e, hx2 k e, h9 k e, h10 k e, h11 k e]
    refine ⟨m, m1, m2, m3.imp id (fun y => ⟨y.1, y.2.1, y.2.2.1, y.2.2.2.1, fun q hq => ?_⟩)⟩
    rw [h12 k e q (by omega)]
    exact y.2.2.2.2 q hq
/-- what changes sheets alone -/
theorem RR.sh {σ u τ v : mw_M} {n tc tn : Nat} {zz : Nat → zP} (h : RR σ τ n tc tn zz) (hx : ∀ k, ¬ (67 ≤ k ∧ k ≤ 70) → u.1 k = σ.1 k) (hx2 : ∀ k, ¬ (71 ≤ k ∧ k ≤ 74) → u.2.1 k = σ.2.1 k) (hm : ∀ k, k ≤ 8 → v.2.1 k = τ.2.1 k) (hf : ∀ f, f < 11 ∨ 25 < f → v.1 0 f = τ.1 0 f) (hS : RSh u v) : RR u v n tc tn zz := by
  obtain ⟨h1, h2, h3, h4, hk⟩ := h
  have h8 := h1.1.1
  have es : mSt v = mSt τ := by unfold mSt; rw [hm 4 (by decide)]
  have ec : mCu v = mCu τ := by unfold mCu; rw [hm 5 (by decide), hm 6 (by decide)]
  have e0 : ∀ p, p < 8 → cuX u 0 p = cuX σ 0 p := fun p hp => hx (6 + 8 * 0 + p) (by omega)
  refine ⟨⟨⟨h8, by rw [hx 0 (by decide)]; exact h1.1.2.1, by rw [hf 10 (by decide)]; exact h1.1.2.2⟩, by rw [hx 0 (by decide), es]; exact h1.2.1, fun p hp f hf => by rw [e0 p (by omega), ec]; exact h1.2.2.1 p hp f hf, by rw [hx 0 (by decide), hf 4 (by decide)]; exact h1.2.2.2.1, h1.2.2.2.2.cg (by rw [hx 0 (by decide)]) (fun p hp f _ => by rw [e0 p (by omega)])⟩, ⟨?_, fun t ht => ?_, ?_⟩, ?_, hS, ?_⟩
  · rw [hx 37 (by decide), hf 3 (by decide)]; exact h2.1
  · have hq := h2.2.1 t ht
    have h6 := hq.1
    unfold xTx xSeg at *
    rw [hx2 (51 + t) (by omega), hx2 (45 + t) (by omega)]
    exact hq
  · have := h2.2.2
    unfold mTs mTt at *
    rw [hm 1 (by decide), hm 2 (by decide)]
    exact this
  · unfold RTp
    rw [hx 31 (by decide), hx2 32 (by decide), hm 3 (by decide), hf 6 (by decide)]
    exact h3
  · unfold RKp
    rw [hx 2 (by decide), hx 30 (by decide), hm 7 (by decide), hm 8 (by decide), hm 5 (by decide), hf 28 (by decide), hf 29 (by decide)]
    refine ⟨hk.1, hk.2.imp id (fun y => ⟨y.1, ?_⟩)⟩
    obtain ⟨m, k1, k2, k3, k4, k5, k6, k7⟩ := y.2
    have e2 : ∀ p, p < m → cuX u 2 p = cuX σ 2 p := fun p hp => hx (6 + 8 * 2 + p) (by omega)
    refine ⟨m, k1, k2, k3, k4, fun p hp => ?_, k6, k7.cg rfl (fun p hp f _ => by rw [e2 p hp])⟩
    rw [e2 p hp]
    exact k5 p hp
theorem sheetX_at (X : Nat → Nat → Int32) (s : Nat) (so n : Int32) : (∀ k, k ≤ 8 → sheetX X s so n k = X k) ∧ sheetX X s so n 9 = upd (X 9) s (bI (0 ≤ so)) ∧ sheetX X s so n 10 = upd (X 10) s so ∧ sheetX X s so n 11 = upd (X 11) s n ∧ sheetX X s so n 12 = if 0 ≤ so then zF (X 12) (40 * s) n.toNatClampNeg else X 12 := by
  unfold sheetX
  refine ⟨fun k hk => ?_, ?_, ?_, ?_, ?_⟩
  · rw [va_up_ne _ _ (by omega), va_up_ne _ _ (by omega), va_up_ne _ _ (by omega), va_up_ne _ _ (by omega)]
  · rw [va_up_ne _ _ (by decide), va_up_ne _ _ (by decide), va_up_ne _ _ (by decide), va_up_self]
  · rw [va_up_ne _ _ (by decide), va_up_ne _ _ (by decide), va_up_self]
  · rw [va_up_ne _ _ (by decide), va_up_self]
  · rw [va_up_self]
theorem shb_a {σ : mw_M} {k q : Nat} {so n : Int32} (h : q ≠ 71 + k) : (shbM σ k so n).2.1 q = σ.2.1 q := by
  show va_up σ.2.1 (71 + k) (zF (σ.2.1 (71 + k)) 0 40) q = _
  exact va_up_ne _ _ h
theorem fil_a {σ : mw_M} {s m j q : Nat} {cl : Nat → Int32} (h : q ≠ 71 + s) : (filM σ s m cl j).2.1 q = σ.2.1 q := by
  show va_up (shbM σ s 0 (nI m)).2.1 (71 + s) _ q = _
  rw [va_up_ne _ _ h]
  exact shb_a h
theorem zF_in (g : Nat → Int32) {b i j : Nat} (h : b ≤ j ∧ j < b + i) : zF g b i j = 0 := if_pos h
theorem zF_out (g : Nat → Int32) {b i j : Nat} (h : ¬ (b ≤ j ∧ j < b + i)) : zF g b i j = g j := if_neg h
theorem op_sheet {σ τ u v : mw_M} {n tc tn : Nat} {zz : Nat → zP} {r r2 ss so nn : Int32} (h : RR σ τ n tc tn zz) (hx : r = sheetR ss so nn ∧ (sheetR ss so nn = 1 → xQs (shbM σ ss.toNatClampNeg so (if so = -1 then 0 else nn)) u) ∧ (¬ sheetR ss so nn = 1 → xQs σ u)) (hm : r2 = (sheetF τ.2.1 ss so nn).1 ∧ mAr τ (sheetF τ.2.1 ss so nn).2 v) : r = r2 ∧ RR u v n tc tn zz := by
  obtain ⟨x1, x2, x3⟩ := hx
  obtain ⟨y1, y2⟩ := hm
  unfold sheetR at x1 x2 x3
  unfold sheetF at y1 y2
  by_cases c1 : ¬ (0 ≤ ss.toInt ∧ ss.toInt ≤ 3) ∨ ¬ (-1 ≤ so.toInt ∧ so.toInt ≤ 2) ∨ (0 ≤ so ∧ 40 < nn)
  · rw [if_pos c1] at x1 x2 x3 y1 y2
    exact ⟨x1.trans y1.symm, h.q (x3 (by decide)) y2⟩
  · rw [if_neg c1] at x1 x2 x3 y1 y2
    by_cases c2 : 0 ≤ so ∧ nn < 0
    · rw [if_pos c2] at x1 x2 x3 y1 y2
      exact ⟨x1.trans y1.symm, h.q (x3 (by decide)) y2⟩
    · rw [if_neg c2] at x1 x2 x3 y1 y2
      refine ⟨x1.trans y1.symm, RR.q (σ := shbM σ ss.toNatClampNeg so (if so = -1 then 0 else nn)) (τ := v) ?_ (x2 rfl) (mFs.rf v)⟩
      have hs : 0 ≤ ss.toInt ∧ ss.toInt ≤ 3 := Decidable.not_not.mp (fun y => c1 (Or.inl y))
      have ho : -1 ≤ so.toInt ∧ so.toInt ≤ 2 := Decidable.not_not.mp (fun y => c1 (Or.inr (Or.inl y)))
      have hn : 0 ≤ so → 0 ≤ nn.toInt ∧ nn.toInt ≤ 40 := fun y => by
        have a1 : ¬ 40 < nn := fun z => c1 (Or.inr (Or.inr ⟨y, z⟩))
        have a2 : ¬ nn < 0 := fun z => c2 ⟨y, z⟩
        rw [ni_lt] at a1 a2
        have b1 : (40 : Int32).toInt = 40 := rfl
        have b2 : (0 : Int32).toInt = 0 := rfl
        omega
      have hs4 : ss.toNatClampNeg < 4 := lt_of_clamp ⟨hs.1, by omega⟩
      generalize ss.toNatClampNeg = s at hs4 y2 ⊢
      obtain ⟨g1, g2⟩ := y2
      have g1 : v.2.1 = sheetX τ.2.1 s so nn := g1
      obtain ⟨t0, t9, t10, t11, t12⟩ := sheetX_at τ.2.1 s so nn
      rw [← g1] at t0 t9 t10 t11 t12
      have h12 : ∀ k, k ≠ s → ∀ q, q < 40 → v.2.1 12 (40 * k + q) = τ.2.1 12 (40 * k + q) := fun k hk q hq => by
        rw [t12]
        by_cases c : 0 ≤ so
        · rw [if_pos c]
          have e40 : nn.toNatClampNeg ≤ 40 := by
            have := hn c
            show nn.toInt.toNat ≤ 40
            omega
          exact zF_out _ (by omega)
        · rw [if_neg c]
      refine h.sh (fun k hk => shb_ne (by omega)) (fun k hk => shb_a (by omega)) t0 g2 (RSh.up h.2.2.2.1 (s := s) ?_ (fun k hk => shb_ne (by omega)) (fun k hk => shb_a (by omega)) (fun k hk => by rw [t9]; exact pk_un hk) (fun k hk => by rw [t10]; exact pk_un hk) (fun k hk => by rw [t11]; exact pk_un hk) h12)
      unfold RS1
      rw [shb_at.1, shb_at.2, t9, t10, t11, upd_at, upd_at, upd_at]
      by_cases c : so = -1
      · subst c
        rw [if_pos rfl]
        exact ⟨0, by decide, by decide, Or.inl ⟨rfl, by decide⟩⟩
      · have em1 : (-1 : Int32).toInt = -1 := by decide
        have ho0 : 0 ≤ so.toInt := by
          by_cases y : so.toInt < 0
          · exact absurd (Int32.toInt_inj.mp (show so.toInt = (-1 : Int32).toInt by rw [em1]; omega)) c
          · exact Int.not_lt.mp y
        have ho1 : 0 ≤ so := (ni_le 0 so).mpr ho0
        rw [if_neg c]
        obtain ⟨m, m1, m2⟩ := nI_ofI (k := 40) (hn ho1).1 (hn ho1).2
        obtain ⟨k, k1, k2⟩ := nI_ofI (k := 2) ho0 ho.2
        refine ⟨m, m1, by rw [m2]; exact wI_40 m1, Or.inr ⟨⟨k, k1, k2⟩, bI_t ho1, rfl, m2, fun q hq => ?_⟩⟩
        rw [t12, if_pos ho1, m2, nI_clamp (by omega), zF_in _ (by omega)]
        show va_up σ.2.1 (71 + s) (zF (σ.2.1 (71 + s)) 0 40) (71 + s) q = 0
        rw [va_up_self, zF_in _ (by omega)]
theorem op_film {σ τ u v : mw_M} {n tc tn : Nat} {zz : Nat → zP} {r r2 ss oo m1 : Int32} (h : RR σ τ n tc tn zz) (z : zP) (hx : (¬ ((0 ≤ ss.toInt ∧ ss.toInt ≤ 3) ∧ (0 ≤ oo.toInt ∧ oo.toInt < n) ∧ (0 ≤ m1.toInt ∧ m1.toInt ≤ 40)) → r = -2 ∧ xQs σ u) ∧ ((0 ≤ ss.toInt ∧ ss.toInt ≤ 3) ∧ (0 ≤ oo.toInt ∧ oo.toInt < n) ∧ (0 ≤ m1.toInt ∧ m1.toInt ≤ 40) → r = m1 ∧ xQs (filM σ ss.toNatClampNeg m1.toNatClampNeg (fun k => eatsP z (upd (σ.1 0) 0 (nI (k + 1))) (cuX σ 0 oo.toNatClampNeg)) m1.toNatClampNeg) u)) (hm : r2 = (filmF z τ.2.1 (mSt τ) (mCu τ) n ss oo m1).1 ∧ mAr τ (filmF z τ.2.1 (mSt τ) (mCu τ) n ss oo m1).2 v) : r = r2 ∧ RR u v n tc tn zz := by
  obtain ⟨x1, x2⟩ := hx
  obtain ⟨y1, y2⟩ := hm
  unfold filmF at y1 y2
  by_cases c1 : ¬ (0 ≤ ss.toInt ∧ ss.toInt ≤ 3) ∨ ¬ (0 ≤ oo.toInt ∧ oo.toInt < n) ∨ ¬ (0 ≤ m1.toInt ∧ m1.toInt ≤ 40)
  · rw [if_pos c1] at y1 y2
    obtain ⟨a1, a2⟩ := x1 (fun y => c1.elim (fun w => w y.1) (fun w => w.elim (fun w => w y.2.1) (fun w => w y.2.2)))
    exact ⟨a1.trans y1.symm, h.q a2 y2⟩
  · rw [if_neg c1] at y1 y2
    have hs : 0 ≤ ss.toInt ∧ ss.toInt ≤ 3 := Decidable.not_not.mp (fun y => c1 (Or.inl y))
    have ho : 0 ≤ oo.toInt ∧ oo.toInt < n := Decidable.not_not.mp (fun y => c1 (Or.inr (Or.inl y)))
    have hn : 0 ≤ m1.toInt ∧ m1.toInt ≤ 40 := Decidable.not_not.mp (fun y => c1 (Or.inr (Or.inr y)))
    obtain ⟨a1, a2⟩ := x2 ⟨hs, ho, hn⟩
    refine ⟨a1.trans y1.symm, RR.q (τ := v) ?_ a2 (mFs.rf v)⟩
    have hs4 : ss.toNatClampNeg < 4 := lt_of_clamp ⟨hs.1, by omega⟩
    have hop : oo.toNatClampNeg < n := lt_of_clamp ho
    have hm40 : m1.toNatClampNeg ≤ 40 := by
      show m1.toInt.toNat ≤ 40
      omega
    clear a2 x1 x2 y1 a1
    generalize ss.toNatClampNeg = s at hs4 y2 ⊢
    generalize oo.toNatClampNeg = o at hop y2 ⊢
    generalize m1.toNatClampNeg = m at hm40 y2 ⊢
    obtain ⟨g1, g2⟩ := y2
    have g1 : v.2.1 = va_up (sheetX τ.2.1 s 0 (nI m)) 12 (cpB (filmE z (mSt τ) (mCu τ o)) (zF (τ.2.1 12) (40 * s) m) (40 * s) m) := g1
    obtain ⟨t0, t9, t10, t11, t12⟩ := sheetX_at τ.2.1 s 0 (nI m)
    have e0 : ∀ k, k ≠ 12 → v.2.1 k = sheetX τ.2.1 s 0 (nI m) k := fun k hk => by rw [g1, va_up_ne _ _ hk]
    have e12 : v.2.1 12 = cpB (filmE z (mSt τ) (mCu τ o)) (zF (τ.2.1 12) (40 * s) m) (40 * s) m := by rw [g1, va_up_self]
    have h12 : ∀ k, k ≠ s → ∀ q, q < 40 → v.2.1 12 (40 * k + q) = τ.2.1 12 (40 * k + q) := fun k hk q hq => by
      rw [e12]
      unfold cpB
      rw [if_neg (by omega)]
      exact zF_out _ (by omega)
    refine h.sh (fun k hk => filM_ne (by omega)) (fun k hk => fil_a (by omega)) (fun k hk => by rw [e0 k (by omega)]; exact t0 k hk) g2 (RSh.up h.2.2.2.1 (s := s) ?_ (fun k hk => filM_ne (by omega)) (fun k hk => fil_a (by omega)) (fun k hk => by rw [e0 9 (by decide), t9]; exact pk_un hk) (fun k hk => by rw [e0 10 (by decide), t10]; exact pk_un hk) (fun k hk => by rw [e0 11 (by decide), t11]; exact pk_un hk) h12)
    · unfold RS1
      rw [e0 9 (by decide), e0 10 (by decide), e0 11 (by decide), t9, t10, t11, upd_at, upd_at, upd_at]
      have q0 : (filM σ s m (fun k => eatsP z (upd (σ.1 0) 0 (nI (k + 1))) (cuX σ 0 o)) m).1 (67 + s) 0 = 0 := shb_at.1
      have q1 : (filM σ s m (fun k => eatsP z (upd (σ.1 0) 0 (nI (k + 1))) (cuX σ 0 o)) m).1 (67 + s) 1 = wI (nI m) 0 40 := shb_at.2
      rw [q0, q1]
      refine ⟨m, hm40, wI_40 hm40, Or.inr ⟨⟨0, by decide, rfl⟩, bI_t (by decide), rfl, rfl, fun q hq => ?_⟩⟩
      rw [e12]
      unfold cpB
      rw [if_pos (by omega), Nat.add_sub_cancel_left]
      show (va_up (shbM σ s 0 (nI m)).2.1 (71 + s) _ : Nat → Nat → Int32) (71 + s) q = _
      rw [va_up_self]
      unfold cpA
      rw [if_pos hq]
      exact eatsP_cg (h.1.2.1.up 0 _) (h.1.2.2.1 o hop) z
theorem RR.xs {σ τ : mw_M} {n tc tn : Nat} {zz : Nat → zP} (h : RR σ τ n tc tn zz) : xShs σ := fun s hs => by
  obtain ⟨m, m1, m2, -⟩ := h.2.2.2.1 s hs
  exact ⟨m, m1, m2⟩
theorem RR.ms {σ τ : mw_M} {n tc tn : Nat} {zz : Nat → zP} (h : RR σ τ n tc tn zz) : mShs τ.2.1 := fun s hs => by
  obtain ⟨m, m1, m2, m3⟩ := h.2.2.2.1 s hs
  exact m3.elim (fun y => Or.inl y.2) (fun y => Or.inr ⟨y.2.1, m, m1, y.2.2.2.1⟩)
/-- a sheet of both sides: missing on both, or there on both -/
theorem RR.s1 {σ τ : mw_M} {n tc tn : Nat} {zz : Nat → zP} (h : RR σ τ n tc tn zz) {s : Nat} (hs : s < 4) : (σ.1 (67 + s) 0 = -1 ∧ τ.2.1 9 s = 0) ∨ (¬ σ.1 (67 + s) 0 = -1 ∧ ¬ τ.2.1 9 s = 0 ∧ τ.2.1 10 s = σ.1 (67 + s) 0 ∧ ∃ m : Nat, m ≤ 40 ∧ σ.1 (67 + s) 1 = nI m ∧ τ.2.1 11 s = nI m ∧ ∀ q, q < m → σ.2.1 (71 + s) q = τ.2.1 12 (40 * s + q)) := by
  obtain ⟨m, m1, m2, m3⟩ := h.2.2.2.1 s hs
  refine m3.imp id (fun y => ⟨?_, ?_, y.2.2.1, m, m1, m2, y.2.2.2.1, y.2.2.2.2⟩)
  · obtain ⟨k, k1, k2⟩ := y.1
    rw [k2]
    exact nI_nm1 (by omega)
  · rw [y.2.1]; decide
theorem op_cell {σ τ u v : mw_M} {n tc tn : Nat} {zz : Nat → zP} {r r2 ss ii vv : Int32} (h : RR σ τ n tc tn zz) (hx : r = cellR σ ss ii ∧ (cellR σ ss ii = 1 → xQs (mw_sa σ (71 + ss.toNatClampNeg) ii.toNatClampNeg (narF (σ.1 (67 + ss.toNatClampNeg) 0) vv)) u) ∧ (¬ cellR σ ss ii = 1 → xQs σ u)) (hm : r2 = (cellF τ.2.1 ss ii vv).1 ∧ mAr τ (cellF τ.2.1 ss ii vv).2 v) : r = r2 ∧ RR u v n tc tn zz := by
  obtain ⟨x1, x2, x3⟩ := hx
  obtain ⟨y1, y2⟩ := hm
  unfold cellR at x1 x2 x3
  unfold cellF at y1 y2
  by_cases c1 : ¬ (0 ≤ ss.toInt ∧ ss.toInt ≤ 3)
  · rw [if_pos c1] at x1 x2 x3 y1 y2
    exact ⟨x1.trans y1.symm, h.q (x3 (by decide)) y2⟩
  · rw [if_neg c1] at x1 x2 x3 y1 y2
    have hs := Decidable.not_not.mp c1
    have hs4 : ss.toNatClampNeg < 4 := lt_of_clamp ⟨hs.1, by omega⟩
    generalize ss.toNatClampNeg = s at hs4 x1 x2 x3 y1 y2
    rcases h.s1 hs4 with ⟨d1, d2⟩ | ⟨d1, d2, d3, m, m1, m2, m3, m4⟩
    · rw [if_pos d1] at x1 x2 x3
      rw [if_pos d2] at y1 y2
      exact ⟨x1.trans y1.symm, h.q (x3 (by decide)) y2⟩
    · rw [if_neg d1, m2, nI_toInt (by omega)] at x1 x2 x3
      rw [if_neg d2, m3, nI_toInt (by omega), d3] at y1 y2
      by_cases c2 : ¬ (0 ≤ ii.toInt ∧ ii.toInt < (m : Int))
      · rw [if_pos c2] at x1 x2 x3 y1 y2
        exact ⟨x1.trans y1.symm, h.q (x3 (by decide)) y2⟩
      · rw [if_neg c2] at x1 x2 x3 y1 y2
        refine ⟨x1.trans y1.symm, RR.q (τ := v) ?_ (x2 rfl) (mFs.rf v)⟩
        have hi : ii.toNatClampNeg < m := lt_of_clamp (Decidable.not_not.mp c2)
        generalize ii.toNatClampNeg = i at hi x2 y2 ⊢
        generalize narF (σ.1 (67 + s) 0) vv = w at x2 y2 ⊢
        obtain ⟨g1, g2⟩ := y2
        have g1 : v.2.1 = va_up τ.2.1 12 (upd (τ.2.1 12) (40 * s + i) w) := g1
        have e0 : ∀ k, k ≠ 12 → v.2.1 k = τ.2.1 k := fun k hk => by rw [g1, va_up_ne _ _ hk]
        have e12 : v.2.1 12 = upd (τ.2.1 12) (40 * s + i) w := by rw [g1, va_up_self]
        refine h.sh (fun _ _ => rfl) (fun k hk => mw_sap (by omega)) (fun k hk => e0 k (by omega)) g2 (RSh.up h.2.2.2.1 (s := s) ?_ (fun _ _ => rfl) (fun k hk => mw_sap (by omega)) (fun k hk => by rw [e0 9 (by decide)]) (fun k hk => by rw [e0 10 (by decide)]) (fun k hk => by rw [e0 11 (by decide)]) (fun k hk q hq => by rw [e12]; exact pk_un (by omega)))
        obtain ⟨m', p1, p2, p3⟩ := h.2.2.2.1 s hs4
        have em : m' = m := nI_eqI (by omega) (by omega) (p2.symm.trans m2)
        subst em
        unfold RS1
        rw [e0 9 (by decide), e0 10 (by decide), e0 11 (by decide), e12]
        refine ⟨m', p1, p2, p3.imp id (fun y => ⟨y.1, y.2.1, y.2.2.1, y.2.2.2.1, fun q hq => ?_⟩)⟩
        by_cases e : q = i
        · subst e
          rw [mw_sa_at, upd_at]
        · rw [mw_san e, pk_un (by omega)]
          exact y.2.2.2.2 q hq
theorem op_copy {σ τ u v : mw_M} {n tc tn : Nat} {zz : Nat → zP} {r r2 ss i1 oo j1 n1 : Int32} (h : RR σ τ n tc tn zz) (hx : r = cpyR σ ss i1 oo j1 n1 ∧ (cpyG σ ss i1 oo j1 n1 → xQs (cpyM σ ss.toNatClampNeg i1.toNatClampNeg oo.toNatClampNeg j1.toNatClampNeg n1.toNatClampNeg) u) ∧ (¬ cpyG σ ss i1 oo j1 n1 → xQs σ u)) (hm : r2 = (cpyF τ.2.1 ss i1 oo j1 n1).1 ∧ mAr τ (cpyF τ.2.1 ss i1 oo j1 n1).2 v) : r = r2 ∧ RR u v n tc tn zz := by
  obtain ⟨x1, x2, x3⟩ := hx
  obtain ⟨y1, y2⟩ := hm
  unfold cpyR at x1
  unfold cpyG at x2 x3
  unfold cpyF at y1 y2
  by_cases c1 : ¬ (0 ≤ ss.toInt ∧ ss.toInt ≤ 3) ∨ ¬ (0 ≤ oo.toInt ∧ oo.toInt ≤ 3)
  · rw [if_pos c1] at x1 y1 y2
    exact ⟨x1.trans y1.symm, h.q (x3 (fun y => c1.elim (fun w => w y.1) (fun w => w y.2.1))) y2⟩
  · rw [if_neg c1] at x1 y1 y2
    have hs : 0 ≤ ss.toInt ∧ ss.toInt ≤ 3 := Decidable.not_not.mp (fun y => c1 (Or.inl y))
    have ho : 0 ≤ oo.toInt ∧ oo.toInt ≤ 3 := Decidable.not_not.mp (fun y => c1 (Or.inr y))
    have hs4 : ss.toNatClampNeg < 4 := lt_of_clamp ⟨hs.1, by omega⟩
    have ho4 : oo.toNatClampNeg < 4 := lt_of_clamp ⟨ho.1, by omega⟩
    generalize ss.toNatClampNeg = s at hs4 x1 x2 x3 y1 y2
    generalize oo.toNatClampNeg = o at ho4 x1 x2 x3 y1 y2
    rcases h.s1 hs4 with ⟨d1, d2⟩ | ⟨d1, d2, d3, m, m1, m2, m3, m4⟩
    · rw [if_pos (Or.inl d1)] at x1
      rw [if_pos (Or.inl d2)] at y1 y2
      exact ⟨x1.trans y1.symm, h.q (x3 (fun y => y.2.2.1 d1)) y2⟩
    · rcases h.s1 ho4 with ⟨f1, f2⟩ | ⟨f1, f2, f3, k, k1, k2, k3, k4⟩
      · rw [if_pos (Or.inr f1)] at x1
        rw [if_pos (Or.inr f2)] at y1 y2
        exact ⟨x1.trans y1.symm, h.q (x3 (fun y => y.2.2.2.1 f1)) y2⟩
      · rw [if_neg (fun y => y.elim d1 f1)] at x1
        rw [if_neg (fun y => y.elim d2 f2), d3, f3] at y1 y2
        by_cases c2 : ¬ σ.1 (67 + s) 0 = σ.1 (67 + o) 0
        · rw [if_pos c2] at x1 y1 y2
          exact ⟨x1.trans y1.symm, h.q (x3 (fun y => c2 y.2.2.2.2.1)) y2⟩
        · rw [if_neg c2] at x1 y1 y2
          have c2 := Decidable.not_not.mp c2
          unfold cpyOK at y1 y2
          rw [m2, k2, nI_toInt (by omega), nI_toInt (by omega)] at x1 x2 x3
          rw [m3, k3, nI_toInt (by omega), nI_toInt (by omega)] at y1 y2
          by_cases c3 : ¬ (0 ≤ n1.toInt ∧ 0 ≤ i1.toInt ∧ 0 ≤ j1.toInt ∧ i1.toInt ≤ (m : Int) - n1.toInt ∧ j1.toInt ≤ (k : Int) - n1.toInt)
          · rw [if_pos c3] at x1 y1 y2
            exact ⟨x1.trans y1.symm, h.q (x3 (fun y => c3 y.2.2.2.2.2)) y2⟩
          · rw [if_neg c3] at x1 y1 y2
            have c3 := Decidable.not_not.mp c3
            refine ⟨x1.trans y1.symm, RR.q (τ := v) ?_ (x2 ⟨hs, ho, d1, f1, c2, c3⟩) (mFs.rf v)⟩
            have hi : i1.toNatClampNeg + n1.toNatClampNeg ≤ m := by
              show i1.toInt.toNat + n1.toInt.toNat ≤ m
              omega
            have hj : j1.toNatClampNeg + n1.toNatClampNeg ≤ k := by
              show j1.toInt.toNat + n1.toInt.toNat ≤ k
              omega
            clear x1 x2 x3 y1
            generalize i1.toNatClampNeg = i at hi y2 ⊢
            generalize j1.toNatClampNeg = j at hj y2 ⊢
            generalize n1.toNatClampNeg = w at hi hj y2 ⊢
            obtain ⟨g1, g2⟩ := y2
            have g1 : v.2.1 = va_up τ.2.1 12 (cpB (fun q => τ.2.1 12 (40 * s + i + q)) (τ.2.1 12) (40 * o + j) w) := g1
            have e0 : ∀ k, k ≠ 12 → v.2.1 k = τ.2.1 k := fun k hk => by rw [g1, va_up_ne _ _ hk]
            have e12 : v.2.1 12 = cpB (fun q => τ.2.1 12 (40 * s + i + q)) (τ.2.1 12) (40 * o + j) w := by rw [g1, va_up_self]
            have x12 : ∀ q, q ≠ 71 + o → (cpyM σ s i o j w).2.1 q = σ.2.1 q := fun q hq => by
              show va_up σ.2.1 (71 + o) _ q = _
              exact va_up_ne _ _ hq
            have x12o : (cpyM σ s i o j w).2.1 (71 + o) = va_cpy (σ.2.1 (71 + s)) (σ.2.1 (71 + o)) i j w := by
              show va_up σ.2.1 (71 + o) _ (71 + o) = _
              exact va_up_self _ _ _
            refine h.sh (fun _ _ => rfl) (fun q hq => x12 q (by omega)) (fun k hk => e0 k (by omega)) g2 (RSh.up h.2.2.2.1 (s := o) ?_ (fun _ _ => rfl) (fun q hq => x12 _ (by omega)) (fun k hk => by rw [e0 9 (by decide)]) (fun k hk => by rw [e0 10 (by decide)]) (fun k hk => by rw [e0 11 (by decide)]) (fun a ha q hq => by rw [e12]; unfold cpB; rw [if_neg (by omega)]))
            obtain ⟨m', p1, p2, p3⟩ := h.2.2.2.1 o ho4
            have em : m' = k := nI_eqI (by omega) (by omega) (p2.symm.trans k2)
            subst em
            unfold RS1
            rw [e0 9 (by decide), e0 10 (by decide), e0 11 (by decide), e12, x12o]
            refine ⟨m', p1, p2, p3.imp id (fun y => ⟨y.1, y.2.1, y.2.2.1, y.2.2.2.1, fun q hq => ?_⟩)⟩
            unfold va_cpy cpB
            by_cases e : j ≤ q ∧ q < j + w
            · rw [if_pos e, if_pos (by omega)]
              have := m4 (i + (q - j)) (by omega)
              rw [this]
              show τ.2.1 12 (40 * s + (i + (q - j))) = τ.2.1 12 (40 * s + i + (40 * o + q - (40 * o + j)))
              rw [show 40 * s + (i + (q - j)) = 40 * s + i + (40 * o + q - (40 * o + j)) by omega]
            · rw [if_neg e, if_neg (by omega)]
              exact y.2.2.2.2 q hq
