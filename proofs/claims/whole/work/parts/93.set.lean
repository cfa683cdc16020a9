/-! SET, FEED KEEP THE RELATION -/
theorem op_set {σ τ : mw_M} {n tc tn : Nat} {zz : Nat → zP} (h : RR σ τ n tc tn zz) {ww oo vv : Int32} (hv : setOK n ww oo vv) (z : zP) : xsetW σ ww.toNatClampNeg oo.toNatClampNeg = toldF z (mSt τ) (mCu τ) n oo ww ∧ RR (xsetM σ ww.toNatClampNeg oo.toNatClampNeg vv) (setM τ ww.toNatClampNeg oo.toNatClampNeg vv) n tc tn zz := by
  obtain ⟨k, hk, ek⟩ := nI_ofI (k := 7) hv.1.1 hv.1.2
  subst ek
  have h8 := h.1.1.1
  rw [nI_clamp (by omega)]
  have ho : 5 ≤ k → oo.toNatClampNeg < n ∧ (0 ≤ oo.toInt ∧ oo.toInt < n) := fun y => ⟨lt_of_clamp (hv.2.1 (by rw [nI_toInt (by omega)]; omega)), hv.2.1 (by rw [nI_toInt (by omega)]; omega)⟩
  obtain ⟨hlo, hhi⟩ := hv.2.2
  generalize hpe : oo.toNatClampNeg = p at ho ⊢
  have h0 := h
  obtain ⟨⟨⟨a, b, c⟩, d, e, f, g⟩, h2⟩ := h
  by_cases h5 : k < 5
  · refine ⟨?_, ?_⟩
    · unfold xsetW toldF tdF
      rw [if_pos h5, if_neg (fun y => y.elim (fun y => y ⟨by rw [nI_toInt (by omega)]; omega, by rw [nI_toInt (by omega)]; omega⟩) (fun y => by have := y.1; rw [nI_toInt (by omega)] at this; omega)), nI_clamp (by omega), if_pos h5]
      exact d k h5
    · unfold xsetM setM
      rw [if_pos h5, if_pos h5]
      refine RR.now h0 (fun q hq _ => mw_npF hq) (fun _ _ => rfl) (fun q h4 _ _ => mw_sap h4) (fun _ _ => by rw [mw_sap (by decide)]) (fun _ _ => rfl) (Nat.le_refl n) ⟨⟨a, (mw_nf (by omega)).trans b, c⟩, fun j hj => ?_, fun p hp q hq => ?_, ?_, ⟨?_, fun p hp => ?_⟩⟩
      · show _ = (mw_sa τ 4 k vv).2.1 4 j
        by_cases ej : j = k
        · subst ej
          rw [mw_sf]
          exact (mw_sa_at _ _ _ _).symm
        · rw [mw_nf ej, mw_san ej]
          exact d j hj
      · show (mw_si σ 0 k vv).1 (6 + 8 * 0 + p) q = _
        rw [mw_np (by omega)]
        unfold mCu
        rw [mw_sap (by decide), mw_sap (by decide)]
        exact e p hp q hq
      · rw [mw_nf (by omega)]; exact f
      · by_cases e3 : k = 3
        · subst e3
          rw [mw_sf]
          have m1 : (leastF (nI 3)).toInt = 0 := rfl
          have m2 : (mostF (nI 3)).toInt = 1023 := rfl
          exact nI_ofI (by omega) (by omega)
        · rw [mw_nf (fun y => e3 y.symm)]; exact g.1
      · show (∃ q : Nat, q ≤ 5 ∧ (mw_si σ 0 k vv).1 (6 + 8 * 0 + p) 0 = nI q) ∧ (∃ q : Nat, q ≤ 9 ∧ (mw_si σ 0 k vv).1 (6 + 8 * 0 + p) 2 = nI q) ∧ 0 ≤ ((mw_si σ 0 k vv).1 (6 + 8 * 0 + p) 4).toInt ∧ ((mw_si σ 0 k vv).1 (6 + 8 * 0 + p) 4).toInt ≤ 999
        rw [mw_npF (by omega)]
        exact g.2 p hp
  · obtain ⟨hp, hoo⟩ := ho (by omega)
    refine ⟨?_, ?_⟩
    · unfold xsetW toldF tdF
      rw [if_neg h5, if_neg (fun y => y.elim (fun y => y ⟨by rw [nI_toInt (by omega)]; omega, by rw [nI_toInt (by omega)]; omega⟩) (fun y => y.2 hoo)), nI_clamp (by omega), if_neg h5, if_pos (by omega), hpe, ← e p hp (k - 4) (by omega)]
    · unfold xsetM setM
      rw [if_neg h5, if_neg h5]
      refine RR.now h0 (fun q hq hq2 => mw_npF (by omega)) (fun _ _ => rfl) (fun q _ _ h6 => mw_sap h6) (fun _ _ => by rw [mw_sap (by decide)]) (fun _ _ => rfl) (Nat.le_refl n) ⟨⟨a, (mw_np (by omega)).trans b, c⟩, fun j hj => ?_, fun q hq j hj => ?_, ?_, ⟨?_, fun q hq => ?_⟩⟩
      · rw [mw_np (by omega)]
        show _ = (mw_sa τ 6 (4 * p + (k - 5)) vv).2.1 4 j
        rw [mw_sap (by decide)]
        exact d j hj
      · show (mw_si σ (6 + p) (k - 4) vv).1 (6 + 8 * 0 + q) j = _
        unfold mCu
        by_cases e0 : j = 0
        · subst e0
          rw [mw_nf (by omega), if_pos rfl, mw_sap (by decide)]
          exact e q hq 0 (by decide)
        · rw [if_neg e0]
          by_cases eq : q = p ∧ j = k - 4
          · obtain ⟨rfl, rfl⟩ := eq
            rw [show 6 + 8 * 0 + q = 6 + q by omega, mw_sf, show k - 4 - 1 = k - 5 by omega]
            exact (mw_sa_at _ _ _ _).symm
          · rw [mw_san (by omega)]
            have hh := e q hq j hj
            unfold mCu at hh
            rw [if_neg e0] at hh
            rw [← hh]
            by_cases e1 : q = p
            · rw [mw_nf (fun y => eq ⟨e1, y⟩)]
            · rw [mw_np (by omega)]
      · rw [mw_np (by omega)]; exact f
      · rw [mw_np (by omega)]; exact g.1
      · show (∃ i : Nat, i ≤ 5 ∧ (mw_si σ (6 + p) (k - 4) vv).1 (6 + 8 * 0 + q) 0 = nI i) ∧ (∃ i : Nat, i ≤ 9 ∧ (mw_si σ (6 + p) (k - 4) vv).1 (6 + 8 * 0 + q) 2 = nI i) ∧ 0 ≤ ((mw_si σ (6 + p) (k - 4) vv).1 (6 + 8 * 0 + q) 4).toInt ∧ ((mw_si σ (6 + p) (k - 4) vv).1 (6 + 8 * 0 + q) 4).toInt ≤ 999
        have hg := g.2 q hq
        rw [mw_nf (f := 0) (by omega), mw_nf (f := 4) (by omega)]
        refine ⟨hg.1, ?_, hg.2.2⟩
        by_cases e6 : q = p ∧ k = 6
        · obtain ⟨rfl, rfl⟩ := e6
          rw [show 6 + 8 * 0 + q = 6 + q by omega, mw_sf]
          have m1 : (leastF (nI 6)).toInt = 0 := rfl
          have m2 : (mostF (nI 6)).toInt = 9 := rfl
          exact nI_ofI (by omega) (by omega)
        · by_cases e1 : q = p
          · rw [mw_nf (by omega)]; exact hg.2.1
          · rw [mw_np (by omega)]; exact hg.2.1
/-- what changes the tape alone -/
theorem RR.tape {σ u τ v : mw_M} {n tc tn tn2 : Nat} {zz : Nat → zP} (h : RR σ τ n tc tn zz) (hx : ∀ k, k ≠ 31 → u.1 k = σ.1 k) (hx2 : ∀ k, k ≠ 32 → u.2.1 k = σ.2.1 k) (hm : ∀ k, k ≠ 3 → v.2.1 k = τ.2.1 k) (hf : ∀ f, f ≠ 6 → v.1 0 f = τ.1 0 f) (hT : RTp u v tn2) : RR u v n tc tn2 zz := by
  obtain ⟨h1, h2, h3, h4, hk⟩ := h
  have h8 := h1.1.1
  have es : mSt v = mSt τ := by unfold mSt; rw [hm 4 (by decide)]
  have ec : mCu v = mCu τ := by unfold mCu; rw [hm 5 (by decide), hm 6 (by decide)]
  have e0 : ∀ p, p < 8 → cuX u 0 p = cuX σ 0 p := fun p hp => hx (6 + 8 * 0 + p) (by omega)
  refine ⟨⟨⟨h8, by rw [hx 0 (by decide)]; exact h1.1.2.1, by rw [hf 10 (by decide)]; exact h1.1.2.2⟩, by rw [hx 0 (by decide), es]; exact h1.2.1, fun p hp f hf => by rw [e0 p (by omega), ec]; exact h1.2.2.1 p hp f hf, by rw [hx 0 (by decide), hf 4 (by decide)]; exact h1.2.2.2.1, h1.2.2.2.2.cg (by rw [hx 0 (by decide)]) (fun p hp f _ => by rw [e0 p (by omega)])⟩, ⟨?_, fun t ht => ?_, ?_⟩, hT, fun s hs => ?_, ?_⟩
  · rw [hx 37 (by decide), hf 3 (by decide)]; exact h2.1
  · have hq := h2.2.1 t ht
    have h6 := hq.1
    unfold xTx xSeg at *
    rw [hx2 (51 + t) (by omega), hx2 (45 + t) (by omega)]
    exact hq
  · have := h2.2.2
    unfold mTs mTt at *
    rw [hm 1 (by decide), hm 2 (by decide)]
    exact this
  · rw [hx (67 + s) (by omega), hx2 (71 + s) (by omega), hm 9 (by decide), hm 10 (by decide), hm 11 (by decide), hm 12 (by decide)]
    exact h4 s hs
  · unfold RKp
    rw [hx 2 (by decide), hx 30 (by decide), hm 7 (by decide), hm 8 (by decide), hm 5 (by decide), hf 28 (by decide), hf 29 (by decide)]
    refine ⟨hk.1, hk.2.imp id (fun y => ⟨y.1, ?_⟩)⟩
    obtain ⟨m, k1, k2, k3, k4, k5, k6, k7⟩ := y.2
    have e2 : ∀ p, p < m → cuX u 2 p = cuX σ 2 p := fun p hp => hx (6 + 8 * 2 + p) (by omega)
    refine ⟨m, k1, k2, k3, k4, fun p hp => ?_, k6, k7.cg rfl (fun p hp f _ => by rw [e2 p hp])⟩
    rw [e2 p hp]
    exact k5 p hp
theorem op_feed {σ τ : mw_M} {n tc tn : Nat} {zz : Nat → zP} (h : RR σ τ n tc tn zz) {vv : Int32} (hv : feedOK vv) (ht : tn < 160) : RR (mw_si (mw_sa σ 32 tn vv) 31 1 (nI (tn + 1))) (mw_si (mw_sa τ 3 tn vv) 0 6 (nI (tn + 1))) n tc (tn + 1) zz := by
  have h3 := h.2.2.1
  refine h.tape (fun k hk => mw_npF hk) (fun k hk => mw_sap hk) (fun k hk => mw_sap hk) (fun f hf => mw_nf hf) ⟨ht, mw_sf, mw_sf, fun j hj => ?_⟩
  show (mw_sa σ 32 tn vv).2.1 32 j = (mw_sa τ 3 tn vv).2.1 3 j ∧ ∃ k : Nat, k ≤ 255 ∧ (mw_sa σ 32 tn vv).2.1 32 j = nI k
  by_cases e : j = tn
  · subst e
    rw [mw_sa_at, mw_sa_at]
    exact ⟨rfl, nI_ofI hv.1 hv.2⟩
  · rw [mw_san e, mw_san e]
    exact h3.2.2.2 j (by omega)
