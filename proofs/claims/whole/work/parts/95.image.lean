/-! IMAGE AND BACK KEEP THE RELATION -/
theorem copyX_at (X : Nat → Nat → Int32) {a b c d : Nat} (hbd : b ≠ d) : (∀ j, j < 5 → copyX X a b c d b j = X a j) ∧ (∀ j, j < 32 → copyX X a b c d d j = X c j) ∧ ∀ k, k ≠ b → k ≠ d → copyX X a b c d k = X k := by
  unfold copyX
  refine ⟨fun j hj => ?_, fun j hj => ?_, fun k k1 k2 => ?_⟩
  · rw [va_up_ne _ _ hbd, va_up_self]
    unfold cpA
    rw [if_pos hj]
  · rw [va_up_self]
    unfold cpA
    rw [if_pos hj]
  · rw [va_up_ne _ _ k2, va_up_ne _ _ k1]
/-- the parts that neither now nor what is kept touches -/
theorem RR.rest {σ u τ v : mw_M} {tc tn : Nat} {zz : Nat → zP} (h2 : RTx σ τ tc zz) (h3 : RTp σ τ tn) (h4 : RSh σ τ) (hx : ∀ k, 31 ≤ k → u.1 k = σ.1 k) (hx2 : u.2.1 = σ.2.1) (hm : ∀ k, k = 1 ∨ k = 2 ∨ k = 3 ∨ 9 ≤ k → v.2.1 k = τ.2.1 k) (hf : ∀ f, f = 3 ∨ f = 6 → v.1 0 f = τ.1 0 f) : RTx u v tc zz ∧ RTp u v tn ∧ RSh u v := by
  refine ⟨⟨?_, fun t ht => ?_, ?_⟩, ?_, fun s hs => ?_⟩
  · rw [hx 37 (by decide), hf 3 (by decide)]; exact h2.1
  · have hq := h2.2.1 t ht
    unfold xTx xSeg at *
    rw [hx2]
    exact hq
  · have := h2.2.2
    unfold mTs mTt at *
    rw [hm 1 (by decide), hm 2 (by decide)]
    exact this
  · unfold RTp
    rw [hx 31 (by decide), hx2, hm 3 (by decide), hf 6 (by decide)]
    exact h3
  · rw [hx (67 + s) (by omega), hx2, hm 9 (by decide), hm 10 (by decide), hm 11 (by decide), hm 12 (by decide)]
    exact h4 s hs
theorem op_image {σ τ w v : mw_M} {n tc tn : Nat} {zz : Nat → zP} (h : RR σ τ n tc tn zz) (hb : xBec σ 2 0 n w) (m1 : v.2.1 = copyX τ.2.1 4 7 6 8) (m2 : ∀ f, f ≠ 28 → f ≠ 29 → v.1 0 f = τ.1 0 f) (m3 : v.1 0 28 = τ.1 0 10) (m4 : v.1 0 29 = τ.1 0 4) : RR (mw_si w 30 3 1) v n tc tn zz := by
  obtain ⟨h1, h2, h3, h4, hk⟩ := h
  obtain ⟨b1, b2, b3, b4⟩ := hb
  have h8 := h1.1.1
  obtain ⟨x1, x2, x3⟩ := copyX_at τ.2.1 (a := 4) (b := 7) (c := 6) (d := 8) (by decide)
  rw [← m1] at x1 x2 x3
  have e0 : (mw_si w 30 3 1).1 0 = σ.1 0 := (mw_npF (by decide)).trans (b3 0 (by decide) (by omega))
  have ecu : ∀ p, p < 8 → cuX (mw_si w 30 3 1) 0 p = cuX σ 0 p := fun p hp => (mw_npF (by omega)).trans (b3 (6 + 8 * 0 + p) (by omega) (by omega))
  have es : mSt v = mSt τ := by unfold mSt; rw [x3 4 (by decide) (by decide)]
  have ec : mCu v = mCu τ := by unfold mCu; rw [x3 5 (by decide) (by decide), x3 6 (by decide) (by decide)]
  have k2 : ∀ f, f < 7 → (mw_si w 30 3 1).1 2 f = σ.1 0 f := fun f hf => (mw_np (by decide)).trans (b1 f hf)
  have kc : ∀ p, p < n → ∀ f, f < 5 → cuX (mw_si w 30 3 1) 2 p f = cuX σ 0 p f := fun p hp f hf => (mw_np (by omega)).trans (b2 p f hp hf)
  obtain ⟨r1, r2, r3⟩ := RR.rest (u := mw_si w 30 3 1) (v := v) h2 h3 h4 (fun k hk => (mw_npF (by omega)).trans (b3 k (by omega) (by omega))) (congrArg Prod.fst b4) (fun k hk => x3 k (by omega) (by omega)) (fun f hf => m2 f (by omega) (by omega))
  refine ⟨⟨⟨h8, by rw [e0]; exact h1.1.2.1, by rw [m2 10 (by decide) (by decide)]; exact h1.1.2.2⟩, by rw [e0, es]; exact h1.2.1, fun p hp f hf => by rw [ecu p (by omega), ec]; exact h1.2.2.1 p hp f hf, by rw [e0, m2 4 (by decide) (by decide)]; exact h1.2.2.2.1, h1.2.2.2.2.cg (by rw [e0]) (fun p hp f _ => by rw [ecu p (by omega)])⟩, r1, r2, r3, ⟨n, h8, by rw [k2 6 (by decide)]; exact h1.1.2.1⟩, Or.inr ⟨?_, n, Nat.le_refl n, by rw [k2 6 (by decide)]; exact h1.1.2.1, by rw [m3]; exact h1.1.2.2, fun j hj => ?_, fun p hp => ⟨?_, fun f hf => ?_⟩, ?_, h1.2.2.2.2.cg (k2 3 (by decide)) kc⟩⟩
  · rw [mw_sf]; decide
  · rw [k2 j (by omega)]
    show _ = v.2.1 7 j
    rw [x1 j hj]
    exact h1.2.1 j hj
  · rw [kc p hp 0 (by decide), x3 5 (by decide) (by decide)]
    exact h1.2.2.1 p hp 0 (by decide)
  · rw [kc p hp (f + 1) (by omega), x2 (4 * p + f) (by omega)]
    have hh := h1.2.2.1 p hp (f + 1) (by omega)
    unfold mCu at hh
    rw [if_neg (by omega), Nat.add_sub_cancel] at hh
    exact hh
  · rw [k2 5 (by decide), m4]
    exact h1.2.2.2.1
theorem op_back {σ τ u v : mw_M} {n tc tn m : Nat} {zz : Nat → zP} (h : RR σ τ n tc tn zz) (hn : ¬ σ.1 30 3 = 0) (hm8 : m ≤ 8) (hm : σ.1 2 6 = nI m) (hb : xBec σ 0 2 m u) (m1 : v.2.1 = copyX τ.2.1 7 4 8 6) (m2 : ∀ f, f ≠ 10 → f ≠ 4 → v.1 0 f = τ.1 0 f) (m3 : v.1 0 10 = τ.1 0 28) (m4 : v.1 0 4 = τ.1 0 29) : nI m = τ.1 0 28 ∧ RR u v m tc tn zz := by
  obtain ⟨h1, h2, h3, h4, hk⟩ := h
  obtain ⟨b1, b2, b3, b4⟩ := hb
  have h8 := h1.1.1
  obtain ⟨-, m', k1, k2, k3, k4, k5, k6, k7⟩ := hk.2.resolve_left (fun y => hn y.1)
  have em : m' = m := nI_eqI (by omega) (by omega) (k2.symm.trans hm)
  subst em
  obtain ⟨x1, x2, x3⟩ := copyX_at τ.2.1 (a := 7) (b := 4) (c := 8) (d := 6) (by decide)
  rw [← m1] at x1 x2 x3
  obtain ⟨r1, r2, r3⟩ := RR.rest (u := u) (v := v) h2 h3 h4 (fun k hk => b3 k (by omega) (by omega)) (congrArg Prod.fst b4) (fun k hk => x3 k (by omega) (by omega)) (fun f hf => m2 f (by omega) (by omega))
  have e2 : u.1 2 = σ.1 2 := b3 2 (by decide) (by omega)
  have e30 : u.1 30 = σ.1 30 := b3 30 (by decide) (by omega)
  have ec2 : ∀ p, p < 8 → cuX u 2 p = cuX σ 2 p := fun p hp => b3 (6 + 8 * 2 + p) (by omega) (by omega)
  have kc : ∀ p, p < m' → ∀ f, f < 5 → cuX u 0 p f = cuX σ 2 p f := fun p hp f hf => b2 p f hp hf
  refine ⟨k3.symm, ⟨⟨hm8, by rw [b1 6 (by decide)]; exact k2, by rw [m3]; exact k3⟩, fun j hj => ?_, fun p hp f hf => ?_, by rw [b1 5 (by decide), m4]; exact k6, k7.cg (b1 3 (by decide)) kc⟩, r1, r2, r3, ?_⟩
  · rw [b1 j (by omega)]
    show _ = v.2.1 4 j
    rw [x1 j hj]
    exact k4 j hj
  · rw [kc p hp f hf]
    unfold mCu
    by_cases e0 : f = 0
    · subst e0
      rw [if_pos rfl, x3 5 (by decide) (by decide)]
      exact (k5 p hp).1
    · obtain ⟨g, rfl⟩ : ∃ g, f = g + 1 := ⟨f - 1, by omega⟩
      rw [if_neg e0, Nat.add_sub_cancel, x2 (4 * p + g) (by omega)]
      exact (k5 p hp).2 g (by omega)
  · unfold RKp
    rw [e2, e30, x3 7 (by decide) (by decide), x3 8 (by decide) (by decide), x3 5 (by decide) (by decide), m2 28 (by decide) (by decide), m2 29 (by decide) (by decide)]
    refine ⟨hk.1, Or.inr ⟨hn, m', Nat.le_refl m', k2, k3, k4, fun p hp => ?_, k6, k7.cg rfl (fun p hp f _ => by rw [ec2 p (by omega)])⟩⟩
    rw [ec2 p (by omega)]
    exact k5 p hp
