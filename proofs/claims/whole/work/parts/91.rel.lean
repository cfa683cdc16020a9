/-! THE TWO MEMORIES SAY THE SAME -/
/-- what is laid down stays within its bounds -/
def RRg (st : Nat → Int32) (cu : Nat → Nat → Int32) (n : Nat) : Prop := (∃ k : Nat, k ≤ 1023 ∧ st 3 = nI k) ∧ ∀ p, p < n → (∃ k : Nat, k ≤ 5 ∧ cu p 0 = nI k) ∧ (∃ h : Nat, h ≤ 9 ∧ cu p 2 = nI h) ∧ 0 ≤ (cu p 4).toInt ∧ (cu p 4).toInt ≤ 999
def RSh (σ τ : mw_M) : Prop := ∀ s, s < 4 → ∃ m : Nat, m ≤ 40 ∧ σ.1 (67 + s) 1 = nI m ∧ ((σ.1 (67 + s) 0 = -1 ∧ τ.2.1 9 s = 0) ∨ ((∃ k : Nat, k ≤ 2 ∧ σ.1 (67 + s) 0 = nI k) ∧ τ.2.1 9 s = 1 ∧ τ.2.1 10 s = σ.1 (67 + s) 0 ∧ τ.2.1 11 s = nI m ∧ ∀ q, q < m → σ.2.1 (71 + s) q = τ.2.1 12 (40 * s + q)))
def RKp (σ τ : mw_M) (n tc : Nat) : Prop := (∃ m : Nat, m ≤ 8 ∧ σ.1 2 6 = nI m) ∧ ((σ.1 30 3 = 0 ∧ τ.1 0 28 = -1) ∨ (¬ σ.1 30 3 = 0 ∧ ∃ m : Nat, m ≤ n ∧ σ.1 2 6 = nI m ∧ τ.1 0 28 = nI m ∧ eS (σ.1 2) (fun j => τ.2.1 7 j) ∧ (∀ p, p < m → cuX σ 2 p 0 = τ.2.1 5 p ∧ ∀ f, f < 4 → cuX σ 2 p (f + 1) = τ.2.1 8 (4 * p + f)) ∧ (∃ t : Nat, t < tc ∧ σ.1 2 5 = nI t ∧ τ.1 0 29 = nI t) ∧ RRg (σ.1 2) (cuX σ 2) m))
def RTp (σ τ : mw_M) (tn : Nat) : Prop := tn ≤ 160 ∧ σ.1 31 1 = nI tn ∧ τ.1 0 6 = nI tn ∧ ∀ j, j < tn → σ.2.1 32 j = τ.2.1 3 j ∧ ∃ k : Nat, k ≤ 255 ∧ σ.2.1 32 j = nI k
def RTx (σ τ : mw_M) (tc : Nat) (zz : Nat → zP) : Prop := ((1 ≤ tc ∧ tc ≤ 6) ∧ σ.1 37 1 = nI tc ∧ τ.1 0 3 = nI tc) ∧ (∀ t, t < tc → xTx σ t (zz t)) ∧ mTs τ tc zz
def RNo (σ τ : mw_M) (n tc : Nat) : Prop := (n ≤ 8 ∧ σ.1 0 6 = nI n ∧ τ.1 0 10 = nI n) ∧ eS (σ.1 0) (mSt τ) ∧ eC (cuX σ 0) (mCu τ) n ∧ (∃ t : Nat, t < tc ∧ σ.1 0 5 = nI t ∧ τ.1 0 4 = nI t) ∧ RRg (σ.1 0) (cuX σ 0) n
def RR (σ τ : mw_M) (n tc tn : Nat) (zz : Nat → zP) : Prop := RNo σ τ n tc ∧ RTx σ τ tc zz ∧ RTp σ τ tn ∧ RSh σ τ ∧ RKp σ τ n tc
/-- what a world's views rest on -/
def xSame (σ u : mw_M) : Prop := (∀ k, xK k → u.1 k = σ.1 k) ∧ ∀ k, k < 57 ∨ 63 ≤ k → u.2.1 k = σ.2.1 k
theorem RRg.cg {st s2 : Nat → Int32} {cu c2 : Nat → Nat → Int32} {n : Nat} (h : RRg st cu n) (h3 : s2 3 = st 3) (hc : ∀ p, p < n → ∀ f, f < 5 → c2 p f = cu p f) : RRg s2 c2 n := by
  refine ⟨?_, fun p hp => ?_⟩
  · rw [h3]; exact h.1
  · rw [hc p hp 0 (by decide), hc p hp 2 (by decide), hc p hp 4 (by decide)]
    exact h.2 p hp
theorem RSh.q {σ u τ v : mw_M} (h : RSh σ τ) (hx : xQs σ u) (hm : v.2.1 = τ.2.1) : RSh u v := by
  intro s hs
  rw [hx.1 (67 + s) ⟨by omega, by omega, by omega⟩, hx.2 (71 + s) (by omega), hm]
  exact h s hs
theorem RKp.q {σ u τ v : mw_M} {n tc : Nat} (h : RKp σ τ n tc) (h8 : n ≤ 8) (hx : xQs σ u) (hm : v.2.1 = τ.2.1) (h28 : v.1 0 28 = τ.1 0 28) (h29 : v.1 0 29 = τ.1 0 29) : RKp u v n tc := by
  have e2 := hx.1 2 (by decide)
  have e30 := hx.1 30 (by decide)
  unfold RKp
  rw [e2, e30, hm, h28, h29]
  refine ⟨h.1, h.2.imp id (fun y => ⟨y.1, ?_⟩)⟩
  obtain ⟨m, h1, h2, h3, h4, h5, h6, h7⟩ := y.2
  have ec : ∀ p, p < m → cuX u 2 p = cuX σ 2 p := fun p hp => hx.1 (6 + 8 * 2 + p) ⟨by omega, by omega, by omega⟩
  refine ⟨m, h1, h2, h3, h4, fun p hp => ?_, h6, h7.cg rfl (fun p hp f _ => by rw [ec p hp])⟩
  rw [ec p hp]
  exact h5 p hp
theorem RTp.q {σ u τ v : mw_M} {tn : Nat} (h : RTp σ τ tn) (hx : xQs σ u) (hm : v.2.1 = τ.2.1) (h6 : v.1 0 6 = τ.1 0 6) : RTp u v tn := by
  unfold RTp
  rw [hx.1 31 (by decide), hx.2 32 (by decide), hm, h6]
  exact h
theorem RTx.q {σ u τ v : mw_M} {tc : Nat} {zz : Nat → zP} (h : RTx σ τ tc zz) (hx : xQs σ u) (hm : v.2.1 = τ.2.1) (h3 : v.1 0 3 = τ.1 0 3) : RTx u v tc zz := by
  refine ⟨?_, fun t ht => hx.tx (h.2.1 t ht), ?_⟩
  · rw [hx.1 37 (by decide), h3]; exact h.1
  · have := h.2.2
    unfold mTs mTt at *
    rw [hm]
    exact this
theorem RNo.q {σ u τ v : mw_M} {n tc : Nat} (h : RNo σ τ n tc) (hx : xQs σ u) (hm : v.2.1 = τ.2.1) (h10 : v.1 0 10 = τ.1 0 10) (h4 : v.1 0 4 = τ.1 0 4) : RNo u v n tc := by
  obtain ⟨⟨a, b, c⟩, d, e, f, g⟩ := h
  have e0 := hx.1 0 (by decide)
  have em : mSt v = mSt τ := by unfold mSt; rw [hm]
  have ec : mCu v = mCu τ := by unfold mCu; rw [hm]
  have eu : ∀ p, p < n → cuX u 0 p = cuX σ 0 p := fun p hp => hx.cu (by omega)
  refine ⟨⟨a, by rw [e0]; exact b, by rw [h10]; exact c⟩, by rw [e0, em]; exact d, fun p hp f hf => ?_, by rw [e0, h4]; exact f, g.cg (by rw [e0]) (fun p hp f _ => by rw [eu p hp])⟩
  rw [eu p hp, ec]
  exact e p hp f hf
/-- a question leaves it so -/
theorem RR.q {σ u τ v : mw_M} {n tc tn : Nat} {zz : Nat → zP} (h : RR σ τ n tc tn zz) (hx : xQs σ u) (hm : mFs τ v) : RR u v n tc tn zz :=
  ⟨h.1.q hx hm.1 (hm.2 10 (by omega)) (hm.2 4 (by omega)), h.2.1.q hx hm.1 (hm.2 3 (by omega)), h.2.2.1.q hx hm.1 (hm.2 6 (by omega)), h.2.2.2.1.q hx hm.1, h.2.2.2.2.q h.1.1.1 hx hm.1 (hm.2 28 (by omega)) (hm.2 29 (by omega))⟩
/-- the rule that is in force, the same on both sides -/
theorem RR.ru {σ τ : mw_M} {n tc tn : Nat} {zz : Nat → zP} (h : RR σ τ n tc tn zz) : ∃ z : zP, xRu σ 0 z ∧ mRu τ z := by
  obtain ⟨t, ht, e1, e2⟩ := h.1.2.2.2.1
  obtain ⟨nb, bs, h1, h2⟩ := h.2.1.2.2 t ht
  exact ⟨zz t, ⟨t, tc, e1, h.2.1.1.2.1, ht, h.2.1.1.1.2, h.2.1.2.1 t ht⟩, ⟨t, nb, bs, e2, h1, h2⟩⟩
