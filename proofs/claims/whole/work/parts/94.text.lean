/-! TEXT KEEPS THE RELATION -/
theorem op_text {σ τ u v : mw_M} {n tc tn : Nat} {zz : Nat → zP} {r r2 : Int32} (h : RR σ τ n tc tn zz) (ht : tc < 6) (hx : xTxQ σ u tc r (gText (tkA (σ.2.1 32) tn 0))) (hm : textQ τ v tc tn r2 (gText (tkA (τ.2.1 3) tn 0))) : r = r2 ∧ ∃ tc2 zz2, RR u v n tc2 0 zz2 := by
  obtain ⟨h1, h2, h3, h4, hk⟩ := h
  have h8 := h1.1.1
  rw [tkA_cg (bs := σ.2.1 32) (ds := τ.2.1 3) (fun j hj => (h3.2.2.2 j hj).1)] at hx
  obtain ⟨x1, x2, x3, x4⟩ := hx
  obtain ⟨m1, m2, m4⟩ := hm
  have em : ∀ k, k ≠ 1 → k ≠ 2 → v.2.1 k = τ.2.1 k := fun k k1 k2 => by rw [m1]; unfold textX; rw [va_up_ne _ _ k2, va_up_ne _ _ k1]
  have es : mSt v = mSt τ := by unfold mSt; rw [em 4 (by decide) (by decide)]
  have ec : mCu v = mCu τ := by unfold mCu; rw [em 5 (by decide) (by decide), em 6 (by decide) (by decide)]
  have e0 : u.1 0 = σ.1 0 := x2 0 (by decide) (by decide) (by decide) (by decide) (by omega)
  have e2 : u.1 2 = σ.1 2 := x2 2 (by decide) (by decide) (by decide) (by decide) (by omega)
  have e30 : u.1 30 = σ.1 30 := x2 30 (by decide) (by decide) (by decide) (by decide) (by omega)
  have ecu : ∀ p, p < 8 → cuX u 0 p = cuX σ 0 p := fun p hp => x2 (6 + 8 * 0 + p) (by omega) (by omega) (by omega) (by omega) (by omega)
  have ecv : ∀ p, p < 8 → cuX u 2 p = cuX σ 2 p := fun p hp => x2 (6 + 8 * 2 + p) (by omega) (by omega) (by omega) (by omega) (by omega)
  have hold : ∀ t, t < tc → xTx u t (zz t) := fun t htt => by
    have hq := h2.2.1 t htt
    unfold xTx xSeg at *
    rw [x3 (51 + t) (by omega) (by omega) (by omega) (by omega), x3 (45 + t) (by omega) (by omega) (by omega) (by omega)]
    exact hq
  have hmold : ∀ t, t < tc → ∃ (nb : Nat) (bs : Nat → Int32), mTt v t nb bs ∧ gText (tkA bs nb 0) = .inl (zz t) := fun t htt => by
    obtain ⟨nb, bs, q1, q2⟩ := h2.2.2 t htt
    refine ⟨nb, bs, ?_, q2⟩
    obtain ⟨a1, a2, a3, a4⟩ := q1
    unfold mTt
    rw [m1]
    unfold textX
    refine ⟨?_, a2, a3, fun j hj => ?_⟩
    · rw [va_up_self]
      exact (pk_un (by omega)).trans a1
    · rw [va_up_ne _ _ (by decide), va_up_self]
      unfold cpB
      rw [if_neg (by omega)]
      exact a4 j hj
  have hRT : RTp u v 0 := ⟨Nat.zero_le _, x1, m2, fun j hj => absurd hj (Nat.not_lt_zero j)⟩
  have hSh : RSh u v := fun s hs => by
    rw [x2 (67 + s) (by omega) (by omega) (by omega) (by omega) (by omega), x3 (71 + s) (by omega) (by omega) (by omega) (by omega), em 9 (by decide) (by decide), em 10 (by decide) (by decide), em 11 (by decide) (by decide), em 12 (by decide) (by decide)]
    exact h4 s hs
  have hKp : ∀ tc2, tc ≤ tc2 → v.1 0 28 = τ.1 0 28 → v.1 0 29 = τ.1 0 29 → RKp u v n tc2 := fun tc2 hle e28 e29 => by
    unfold RKp
    rw [e2, e30, em 7 (by decide) (by decide), em 8 (by decide) (by decide), em 5 (by decide) (by decide), e28, e29]
    refine ⟨hk.1, hk.2.imp id (fun y => ⟨y.1, ?_⟩)⟩
    obtain ⟨m, k1, k2, k3, k4, k5, ⟨t, t1, t2⟩, k7⟩ := y.2
    refine ⟨m, k1, k2, k3, k4, fun p hp => ?_, ⟨t, by omega, t2⟩, k7.cg rfl (fun p hp f _ => by rw [ecv p (by omega)])⟩
    rw [ecv p (by omega)]
    exact k5 p hp
  have hNo : ∀ tc2, tc ≤ tc2 → v.1 0 10 = τ.1 0 10 → v.1 0 4 = τ.1 0 4 → RNo u v n tc2 := fun tc2 hle e10 e4 => by
    obtain ⟨t, t1, t2⟩ := h1.2.2.2.1
    refine ⟨⟨h8, by rw [e0]; exact h1.1.2.1, by rw [e10]; exact h1.1.2.2⟩, by rw [e0, es]; exact h1.2.1, fun p hp f hf => by rw [ecu p (by omega), ec]; exact h1.2.2.1 p hp f hf, ⟨t, by omega, by rw [e0, e4]; exact t2⟩, h1.2.2.2.2.cg (by rw [e0]) (fun p hp f _ => by rw [ecu p (by omega)])⟩
  generalize hR : gText (tkA (τ.2.1 3) tn 0) = res at x4 m4
  cases res with
  | inl z =>
    obtain ⟨y1, y2, y3⟩ := x4
    obtain ⟨w1, w2, w3⟩ := m4
    refine ⟨by rw [y1, w1], tc + 1, fun t => if t = tc then z else zz t, hNo _ (Nat.le_succ _) (w3 10 (by omega) (by decide) (by decide)) (w3 4 (by omega) (by decide) (by decide)), ⟨⟨⟨by omega, by omega⟩, y2, w2⟩, fun t htt => ?_, fun t htt => ?_⟩, hRT, hSh, hKp _ (Nat.le_succ _) (w3 28 (by omega) (by decide) (by decide)) (w3 29 (by omega) (by decide) (by decide))⟩
    · dsimp only
      by_cases e : t = tc
      · subst e; rw [if_pos rfl]; exact y3
      · rw [if_neg e]; exact hold t (by omega)
    · dsimp only
      by_cases e : t = tc
      · subst e
        rw [if_pos rfl]
        refine ⟨tn, τ.2.1 3, ⟨?_, ht, h3.1, fun j hj => ⟨?_, ?_⟩⟩, hR⟩
        · rw [m1]; unfold textX; rw [va_up_self]; exact upd_at _ _ _
        · rw [m1]
          unfold textX
          rw [va_up_ne _ _ (by decide), va_up_self]
          unfold cpB
          rw [if_pos (by omega), Nat.add_sub_cancel_left]
        · obtain ⟨q1, k, q2, q3⟩ := h3.2.2.2 j hj
          rw [← q1, q3, nI_toInt (by omega)]
          omega
      · rw [if_neg e]; exact hmold t (by omega)
  | inr q =>
    obtain ⟨y1, y2⟩ := x4
    obtain ⟨w1, w3⟩ := m4
    exact ⟨by rw [y1, w1], tc, zz, hNo _ (Nat.le_refl _) (w3 10 (by omega) (by decide)) (w3 4 (by omega) (by decide)), ⟨⟨h2.1.1, y2, by rw [w3 3 (by omega) (by decide)]; exact h2.1.2.2⟩, hold, hmold⟩, hRT, hSh, hKp _ (Nat.le_refl _) (w3 28 (by omega) (by decide)) (w3 29 (by omega) (by decide))⟩
