/-! OPERATIONS KEEP THE RELATION: WHAT CHANGES WHAT IS NOW -/
theorem RR.now {σ u τ v : mw_M} {n n2 tc tn : Nat} {zz : Nat → zP} (h : RR σ τ n tc tn zz) (hx : ∀ k, k ≠ 0 → ¬ (6 ≤ k ∧ k < 14) → u.1 k = σ.1 k) (hx2 : ∀ k, k < 57 ∨ 63 ≤ k → u.2.1 k = σ.2.1 k) (hm : ∀ k, k ≠ 4 → k ≠ 5 → k ≠ 6 → v.2.1 k = τ.2.1 k) (h5 : ∀ p, p < n → v.2.1 5 p = τ.2.1 5 p) (hf : ∀ f, f = 3 ∨ f = 6 ∨ f = 28 ∨ f = 29 → v.1 0 f = τ.1 0 f) (hn : n ≤ n2) (hN : RNo u v n2 tc) : RR u v n2 tc tn zz := by
  obtain ⟨h1, h2, h3, h4, hk⟩ := h
  refine ⟨hN, ⟨?_, fun t ht => ?_, ?_⟩, ?_, fun s hs => ?_, ?_⟩
  · rw [hx 37 (by decide) (by decide), hf 3 (by decide)]; exact h2.1
  · have hq := h2.2.1 t ht
    have h6 := hq.1
    unfold xTx xSeg at *
    rw [hx2 (51 + t) (by omega), hx2 (45 + t) (by omega)]
    exact hq
  · have := h2.2.2
    unfold mTs mTt at *
    rw [hm 1 (by decide) (by decide) (by decide), hm 2 (by decide) (by decide) (by decide)]
    exact this
  · unfold RTp
    rw [hx 31 (by decide) (by decide), hx2 32 (by decide), hm 3 (by decide) (by decide) (by decide), hf 6 (by decide)]
    exact h3
  · rw [hx (67 + s) (by omega) (by omega), hx2 (71 + s) (by omega), hm 9 (by decide) (by decide) (by decide), hm 10 (by decide) (by decide) (by decide), hm 11 (by decide) (by decide) (by decide), hm 12 (by decide) (by decide) (by decide)]
    exact h4 s hs
  · unfold RKp
    rw [hx 2 (by decide) (by decide), hx 30 (by decide) (by decide), hm 7 (by decide) (by decide) (by decide), hm 8 (by decide) (by decide) (by decide), hf 28 (by decide), hf 29 (by decide)]
    refine ⟨hk.1, hk.2.imp id (fun y => ⟨y.1, ?_⟩)⟩
    obtain ⟨m, k1, k2, k3, k4, k5, k6, k7⟩ := y.2
    have h8 := h1.1.1
    have ec : ∀ p, p < m → cuX u 2 p = cuX σ 2 p := fun p hp => hx (6 + 8 * 2 + p) (by omega) (by omega)
    refine ⟨m, by omega, k2, k3, k4, fun p hp => ?_, k6, k7.cg rfl (fun p hp f _ => by rw [ec p hp])⟩
    rw [ec p hp, h5 p (by omega)]
    exact k5 p hp
theorem op_force {σ τ : mw_M} {n tc tn : Nat} {zz : Nat → zP} (h : RR σ τ n tc tn zz) {vv : Int32} (hv : 0 ≤ vv.toInt ∧ vv.toInt < tc) : RR (mw_si σ 0 5 vv) (mw_si τ 0 4 vv) n tc tn zz := by
  obtain ⟨⟨⟨a, b, c⟩, d, e, f, g⟩, h2⟩ := h
  have h6 := h2.1.1.1.2
  obtain ⟨k, hk, ek⟩ := nI_ofI (k := 5) hv.1 (by omega)
  have ht : k < tc := by have := hv.2; rw [ek, nI_toInt (by omega)] at this; omega
  refine RR.now (n := n) ⟨⟨⟨a, b, c⟩, d, e, f, g⟩, h2⟩ (fun k hk _ => mw_npF hk) (fun _ _ => rfl) (fun _ _ _ _ => rfl) (fun _ _ => rfl) (fun f hf => mw_nf (by omega)) (Nat.le_refl n) ⟨⟨a, (mw_nf (by decide)).trans b, (mw_nf (by decide)).trans c⟩, fun j hj => (mw_nf (by omega)).trans (d j hj), fun p hp f hf => ?_, ⟨k, ht, by rw [mw_sf]; exact ek, by rw [mw_sf]; exact ek⟩, g.cg (mw_nf (by decide)) (fun p hp f _ => ?_)⟩
  · show (mw_si σ 0 5 vv).1 (6 + 8 * 0 + p) f = _
    rw [mw_np (by omega)]
    exact e p hp f hf
  · show (mw_si σ 0 5 vv).1 (6 + 8 * 0 + p) f = _
    rw [mw_np (by omega)]
