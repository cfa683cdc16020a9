/-! SELL KEEPS THE RELATION -/
theorem sdR_3 (z : zP) (st : Nat → Int32) (cu : Nat → Nat → Int32) (seed b : Int32) (rows : Nat → Int32) : ∀ (n p : Nat), p < n → sdR z st cu seed b rows n (4 * p + 3) = if sdB z st cu seed p then wI (rows (4 * p + 3) + b) 0 999 else rows (4 * p + 3)
  | 0, p, hp => absurd hp (Nat.not_lt_zero p)
  | n + 1, p, hp => by
    show (if _ then _ else _ : Nat → Int32) (4 * p + 3) = _
    by_cases e : p = n
    · subst e
      by_cases hb : sdB z st cu seed p
      · rw [if_pos hb, if_pos hb]; exact upd_at _ _ _
      · rw [if_neg hb, if_neg hb]; exact sdR_at z st cu seed b rows p _ (Or.inr (by omega))
    · have ih := sdR_3 z st cu seed b rows n p (by omega)
      by_cases hb : sdB z st cu seed n
      · rw [if_pos hb]
        exact (pk_un (by omega)).trans ih
      · rw [if_neg hb]; exact ih
theorem mn_wI {x : Int32} (h0 : 0 ≤ x.toInt) (h9 : x.toInt ≤ 999) : mnF (x + 1) 999 = wI (x + 1) 0 999 ∧ 0 ≤ (mnF (x + 1) 999).toInt ∧ (mnF (x + 1) 999).toInt ≤ 999 := by
  obtain ⟨k, hk, rfl⟩ := nI_ofI (k := 999) h0 h9
  have e1 : nI k + 1 = nI (k + 1) := nI_1 k
  rw [e1]
  have hl : ¬ nI (k + 1) < 0 := nI_pos (by omega)
  have e9 : (999 : Int32) = nI 999 := rfl
  unfold mnF wI
  rw [if_neg hl]
  refine ⟨rfl, ?_⟩
  split
  · decide
  · next y =>
    rw [e9, nI_ltI (by decide) (by omega)] at y
    rw [nI_toInt (by omega)]
    omega
theorem op_sell {σ τ u v : mw_M} {n tc tn : Nat} {zz : Nat → zP} (h : RR σ τ n tc tn zz) (z : zP) (seed : Int32) (hx : xDr σ 0 z seed n u) (hm : mAr τ (va_up τ.2.1 6 (sdR z (mSt τ) (mCu τ) seed 1 (τ.2.1 6) n)) v) : RR u v n tc tn zz := by
  have h0 := h
  obtain ⟨⟨⟨a, b, c⟩, d, e, f, g⟩, h2⟩ := h
  obtain ⟨x1, x2, -, x4⟩ := hx
  obtain ⟨m1, m2⟩ := hm
  have em : ∀ k, k ≠ 6 → v.2.1 k = τ.2.1 k := fun k hk => by rw [m1, va_up_ne _ _ hk]
  have e0 : u.1 0 = σ.1 0 := x1 0 (by omega)
  have es : mSt v = mSt τ := by unfold mSt; rw [em 4 (by decide)]
  have hu : ∀ p, p < n → ∀ q, q < 5 → cuX u 0 p q = if q = 4 ∧ sdB z (σ.1 0) (cuX σ 0) seed p then mnF (cuX σ 0 p 4 + 1) 999 else cuX σ 0 p q := fun p hp q _ => x2 p hp q
  have hr := g.2
  have hc : ∀ p, p < n → ∀ q, q < 5 → cuX u 0 p q = mCu v p q := fun p hp q hq => by
    rw [hu p hp q hq]
    unfold mCu
    by_cases q0 : q = 0
    · subst q0
      rw [if_neg (fun y => absurd y.1 (by decide)), if_pos rfl, em 5 (by decide)]
      exact e p hp 0 (by decide)
    · rw [if_neg q0, m1, va_up_self]
      by_cases q4 : q = 4
      · subst q4
        have e4 := e p hp 4 (by decide)
        unfold mCu at e4
        rw [if_neg (by decide)] at e4
        have e4 : cuX σ 0 p 4 = τ.2.1 6 (4 * p + 3) := e4
        rw [show 4 * p + (4 - 1) = 4 * p + 3 from rfl, sdR_3 z _ _ seed 1 _ n p hp]
        have hb := sdB_c2 d e z seed hp
        by_cases hs : sdB z (σ.1 0) (cuX σ 0) seed p
        · rw [if_pos ⟨rfl, hs⟩, if_pos (hb.mp hs), ← e4]
          exact (mn_wI (hr p hp).2.2.1 (hr p hp).2.2.2).1
        · rw [if_neg (fun y => hs y.2), if_neg (fun y => hs (hb.mpr y))]
          exact e4
      · rw [if_neg (fun y => q4 y.1), sdR_at z _ _ seed 1 _ n _ (Or.inl (by omega))]
        have ee := e p hp q hq
        unfold mCu at ee
        rw [if_neg q0] at ee
        exact ee
  refine RR.now h0 (fun k k0 k6 => x1 k (by omega)) x4 (fun k _ _ k6 => em k k6) (fun p _ => by rw [em 5 (by decide)]) (fun q hq => m2 q (by omega)) (Nat.le_refl n) ⟨⟨a, by rw [e0]; exact b, by rw [m2 10 (by omega)]; exact c⟩, by rw [e0, es]; exact d, hc, by rw [e0, m2 4 (by omega)]; exact f, ⟨by rw [e0]; exact g.1, fun p hp => ?_⟩⟩
  rw [hu p hp 0 (by decide), hu p hp 2 (by decide), hu p hp 4 (by decide), if_neg (fun y => absurd y.1 (by decide)), if_neg (fun y => absurd y.1 (by decide))]
  refine ⟨(hr p hp).1, (hr p hp).2.1, ?_⟩
  split
  · exact (mn_wI (hr p hp).2.2.1 (hr p hp).2.2.2).2
  · exact (hr p hp).2.2
