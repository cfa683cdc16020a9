/-! OPERATIONS KEEP THE RELATION: WHAT CHANGES WHAT IS NOW -/
theorem RR.now {σ u τ v : mw_M} {n n2 tc tn : Nat} {zz : Nat → zP} (h : RR σ τ n tc tn zz) (hx : ∀ k, k ≠ 0 → ¬ (6 ≤ k ∧ k < 14) → u.1 k = σ.1 k) (hx2 : ∀ k, k < 57 ∨ 63 ≤ k → u.2.1 k = σ.2.1 k) (hm : ∀ k, k ≠ 4 → k ≠ 5 → k ≠ 6 → v.2.1 k = τ.2.1 k) (h5 : ∀ p, p < n → v.2.1 5 p = τ.2.1 5 p) (hf : ∀ f, f = 3 ∨ f = 6 ∨ f = 28 ∨ f = 29 → v.1 0 f = τ.1 0 f) (hn : n ≤ n2) (hN : RNo u v n2 tc) : RR u v n2 tc tn zz := by
  obtain ⟨h1, h2, h3, h4, hk⟩ := h
  refine ⟨hN, ⟨?_, fun t ht => ?_, ?_⟩, ?_, fun s hs => ?_, ?_⟩
  · rw [hx 37 (by decide) (by decide), hf 3 (by decide)]; exact h2.1
  · have hq := h2.2.1 t ht
    have h6 := hq.1
    unfold xTx xSeg at *
    rw [hx2 (51 + t) (by omega), hx2 (45 + t) (by omega)]
    exact hq
  · have := h2.2.2
    unfold mTs mTt at *
    rw [hm 1 (by decide) (by decide) (by decide), hm 2 (by decide) (by decide) (by decide)]
    exact this
  · unfold RTp
    rw [hx 31 (by decide) (by decide), hx2 32 (by decide), hm 3 (by decide) (by decide) (by decide), hf 6 (by decide)]
    exact h3
  · rw [hx (67 + s) (by omega) (by omega), hx2 (71 + s) (by omega), hm 9 (by decide) (by decide) (by decide), hm 10 (by decide) (by decide) (by decide), hm 11 (by decide) (by decide) (by decide), hm 12 (by decide) (by decide) (by decide)]
    exact h4 s hs
  · unfold RKp
    rw [hx 2 (by decide) (by decide), hx 30 (by decide) (by decide), hm 7 (by decide) (by decide) (by decide), hm 8 (by decide) (by decide) (by decide), hf 28 (by decide), hf 29 (by decide)]
    refine ⟨hk.1, hk.2.imp id (fun y => ⟨y.1, ?_⟩)⟩
    obtain ⟨m, k1, k2, k3, k4, k5, k6, k7⟩ := y.2
    have h8 := h1.1.1
    have ec : ∀ p, p < m → cuX u 2 p = cuX σ 2 p := fun p hp => hx (6 + 8 * 2 + p) (by omega) (by omega)
    refine ⟨m, by omega, k2, k3, k4, fun p hp => ?_, k6, k7.cg rfl (fun p hp f _ => by rw [ec p hp])⟩
    rw [ec p hp, h5 p (by omega)]
    exact k5 p hp
theorem op_force {σ τ : mw_M} {n tc tn : Nat} {zz : Nat → zP} (h : RR σ τ n tc tn zz) {vv : Int32} (hv : 0 ≤ vv.toInt ∧ vv.toInt < tc) : RR (mw_si σ 0 5 vv) (mw_si τ 0 4 vv) n tc tn zz := by
  obtain ⟨⟨⟨a, b, c⟩, d, e, f, g⟩, h2⟩ := h
  have h6 := h2.1.1.1.2
  obtain ⟨k, hk, ek⟩ := nI_ofI (k := 5) hv.1 (by omega)
  have ht : k < tc := by have := hv.2; rw [ek, nI_toInt (by omega)] at this; omega
  refine RR.now (n := n) ⟨⟨⟨a, b, c⟩, d, e, f, g⟩, h2⟩ (fun k hk _ => mw_npF hk) (fun _ _ => rfl) (fun _ _ _ _ => rfl) (fun _ _ => rfl) (fun f hf => mw_nf (by omega)) (Nat.le_refl n) ⟨⟨a, (mw_nf (by decide)).trans b, (mw_nf (by decide)).trans c⟩, fun j hj => (mw_nf (by omega)).trans (d j hj), fun p hp f hf => ?_, ⟨k, ht, by rw [mw_sf]; exact ek, by rw [mw_sf]; exact ek⟩, g.cg (mw_nf (by decide)) (fun p hp f _ => ?_)⟩
  · show (mw_si σ 0 5 vv).1 (6 + 8 * 0 + p) f = _
    rw [mw_np (by omega)]
    exact e p hp f hf
  · show (mw_si σ 0 5 vv).1 (6 + 8 * 0 + p) f = _
    rw [mw_np (by omega)]
theorem comW_at (σ : mw_M) (cp : Nat) (k m h : Int32) : (comM σ cp k m h).1 cp 0 = k ∧ (comM σ cp k m h).1 cp 1 = m ∧ (comM σ cp k m h).1 cp 2 = h ∧ (comM σ cp k m h).1 cp 3 = 20 ∧ (comM σ cp k m h).1 cp 4 = 0 := by
  unfold comM
  exact ⟨(mw_nf (by decide)).trans ((mw_nf (by decide)).trans ((mw_nf (by decide)).trans ((mw_nf (by decide)).trans mw_sf))), (mw_nf (by decide)).trans ((mw_nf (by decide)).trans ((mw_nf (by decide)).trans mw_sf)), (mw_nf (by decide)).trans ((mw_nf (by decide)).trans mw_sf), (mw_nf (by decide)).trans mw_sf, mw_sf⟩
theorem comW_ne (σ : mw_M) {cp j : Nat} (k m h : Int32) (hj : j ≠ cp) : (comM σ cp k m h).1 j = σ.1 j := by
  unfold comM
  rw [mw_npF hj, mw_npF hj, mw_npF hj, mw_npF hj, mw_npF hj]
theorem cusM_at (τ : mw_M) (n : Nat) (k m h : Int32) : mCu (cusM τ n k m h) n 0 = k ∧ mCu (cusM τ n k m h) n 1 = m ∧ mCu (cusM τ n k m h) n 2 = h ∧ mCu (cusM τ n k m h) n 3 = 20 ∧ mCu (cusM τ n k m h) n 4 = 0 := by
  unfold mCu cusM
  refine ⟨?_, ?_, ?_, ?_, ?_⟩
  · show (mw_sa (mw_sa (mw_sa (mw_sa (mw_sa τ 5 n k) 6 (4 * n) m) 6 (4 * n + 1) h) 6 (4 * n + 2) 20) 6 (4 * n + 3) 0).2.1 5 n = k
    rw [mw_sap (by decide), mw_sap (by decide), mw_sap (by decide), mw_sap (by decide)]
    exact mw_sa_at _ _ _ _
  · show (mw_sa (mw_sa (mw_sa (mw_sa (mw_sa τ 5 n k) 6 (4 * n) m) 6 (4 * n + 1) h) 6 (4 * n + 2) 20) 6 (4 * n + 3) 0).2.1 6 (4 * n + 0) = m
    rw [mw_san (by omega), mw_san (by omega), mw_san (by omega)]
    exact mw_sa_at _ _ _ _
  · show (mw_sa (mw_sa (mw_sa (mw_sa (mw_sa τ 5 n k) 6 (4 * n) m) 6 (4 * n + 1) h) 6 (4 * n + 2) 20) 6 (4 * n + 3) 0).2.1 6 (4 * n + 1) = h
    rw [mw_san (by omega), mw_san (by omega)]
    exact mw_sa_at _ _ _ _
  · show (mw_sa (mw_sa (mw_sa (mw_sa (mw_sa τ 5 n k) 6 (4 * n) m) 6 (4 * n + 1) h) 6 (4 * n + 2) 20) 6 (4 * n + 3) 0).2.1 6 (4 * n + 2) = 20
    rw [mw_san (by omega)]
    exact mw_sa_at _ _ _ _
  · show (mw_sa (mw_sa (mw_sa (mw_sa (mw_sa τ 5 n k) 6 (4 * n) m) 6 (4 * n + 1) h) 6 (4 * n + 2) 20) 6 (4 * n + 3) 0).2.1 6 (4 * n + 3) = 0
    exact mw_sa_at _ _ _ _
theorem cusM_ne (τ : mw_M) {n p : Nat} (k m h : Int32) (hp : p < n) : (cusM τ n k m h).2.1 5 p = τ.2.1 5 p ∧ ∀ f, f < 5 → mCu (cusM τ n k m h) p f = mCu τ p f := by
  have e5 : (cusM τ n k m h).2.1 5 p = τ.2.1 5 p := by
    show (mw_sa (mw_sa (mw_sa (mw_sa (mw_sa τ 5 n k) 6 (4 * n) m) 6 (4 * n + 1) h) 6 (4 * n + 2) 20) 6 (4 * n + 3) 0).2.1 5 p = _
    rw [mw_sap (by decide), mw_sap (by decide), mw_sap (by decide), mw_sap (by decide), mw_san (by omega)]
  refine ⟨e5, fun f hf => ?_⟩
  unfold mCu
  split
  · exact e5
  · show (mw_sa (mw_sa (mw_sa (mw_sa (mw_sa τ 5 n k) 6 (4 * n) m) 6 (4 * n + 1) h) 6 (4 * n + 2) 20) 6 (4 * n + 3) 0).2.1 6 (4 * p + (f - 1)) = _
    rw [mw_san (by omega), mw_san (by omega), mw_san (by omega), mw_san (by omega), mw_sap (by decide)]
theorem op_customer {σ τ : mw_M} {n tc tn : Nat} {zz : Nat → zP} (h : RR σ τ n tc tn zz) {k m hh : Int32} (hv : cusOK k m hh) (hn : n < 8) : RR (xcuM σ n k m hh) (cusM τ n k m hh) (n + 1) tc tn zz := by
  have h0 := h
  obtain ⟨⟨⟨a, b, c⟩, d, e, f, g⟩, h2⟩ := h
  have e0 : ∀ j, j ≠ 6 → (xcuM σ n k m hh).1 0 j = σ.1 0 j := fun j hj => by
    unfold xcuM
    rw [mw_nf hj, comW_ne σ k m hh (by omega)]
  have ec : ∀ q, 6 ≤ q → q ≠ 6 + n → (xcuM σ n k m hh).1 q = σ.1 q := fun q h6 hq => by
    unfold xcuM
    rw [mw_npF (by omega), comW_ne σ k m hh hq]
  have en : ∀ j, (xcuM σ n k m hh).1 (6 + n) j = (comM σ (6 + n) k m hh).1 (6 + n) j := fun j => by
    unfold xcuM
    rw [mw_npF (by omega)]
  have em : ∀ q, q ≠ 4 → q ≠ 5 → q ≠ 6 → (cusM τ n k m hh).2.1 q = τ.2.1 q := fun q _ h5 h6 => by
    show (mw_sa (mw_sa (mw_sa (mw_sa (mw_sa τ 5 n k) 6 (4 * n) m) 6 (4 * n + 1) hh) 6 (4 * n + 2) 20) 6 (4 * n + 3) 0).2.1 q = _
    rw [mw_sap h6, mw_sap h6, mw_sap h6, mw_sap h6, mw_sap h5]
  have e4 : (cusM τ n k m hh).2.1 4 = τ.2.1 4 := by
    show (mw_sa (mw_sa (mw_sa (mw_sa (mw_sa τ 5 n k) 6 (4 * n) m) 6 (4 * n + 1) hh) 6 (4 * n + 2) 20) 6 (4 * n + 3) 0).2.1 4 = _
    rw [mw_sap (by decide), mw_sap (by decide), mw_sap (by decide), mw_sap (by decide), mw_sap (by decide)]
  have ef : ∀ q, q ≠ 10 → (cusM τ n k m hh).1 0 q = τ.1 0 q := fun q hq => mw_nf hq
  obtain ⟨c0, c1, c2, c3, c4⟩ := comW_at σ (6 + n) k m hh
  obtain ⟨d0, d1, d2, d3, d4⟩ := cusM_at τ n k m hh
  have key : ∀ q, q < 5 → (xcuM σ n k m hh).1 (6 + n) q = mCu (cusM τ n k m hh) n q := fun q hq => by
    rw [en]
    match q, hq with
    | 0, _ => rw [c0, d0]
    | 1, _ => rw [c1, d1]
    | 2, _ => rw [c2, d2]
    | 3, _ => rw [c3, d3]
    | 4, _ => rw [c4, d4]
  have hcu : ∀ p, p < n + 1 → ∀ q, q < 5 → cuX (xcuM σ n k m hh) 0 p q = mCu (cusM τ n k m hh) p q := fun p hp q hq => by
    show (xcuM σ n k m hh).1 (6 + 8 * 0 + p) q = _
    by_cases ep : p = n
    · subst ep
      rw [show 6 + 8 * 0 + p = 6 + p by omega]
      exact key q hq
    · rw [ec _ (by omega) (by omega), (cusM_ne τ k m hh (show p < n by omega)).2 q hq]
      exact e p (by omega) q hq
  refine RR.now h0 (fun q hq hq2 => ?_) (fun _ _ => rfl) em (fun p hp => (cusM_ne τ k m hh hp).1) (fun q hq => ef q (by omega)) (Nat.le_succ n) ⟨⟨hn, mw_sf, mw_sf⟩, fun j hj => ?_, hcu, ?_, ⟨?_, fun p hp => ?_⟩⟩
  · unfold xcuM
    rw [mw_npF hq, comW_ne σ k m hh (by omega)]
  · rw [e0 j (by omega)]
    show _ = (cusM τ n k m hh).2.1 4 j
    rw [e4]
    exact d j hj
  · rw [e0 5 (by decide), ef 4 (by decide)]; exact f
  · rw [e0 3 (by decide)]; exact g.1
  · by_cases ep : p = n
    · subst ep
      show (∃ q : Nat, q ≤ 5 ∧ (xcuM σ p k m hh).1 (6 + 8 * 0 + p) 0 = nI q) ∧ (∃ q : Nat, q ≤ 9 ∧ (xcuM σ p k m hh).1 (6 + 8 * 0 + p) 2 = nI q) ∧ 0 ≤ ((xcuM σ p k m hh).1 (6 + 8 * 0 + p) 4).toInt ∧ ((xcuM σ p k m hh).1 (6 + 8 * 0 + p) 4).toInt ≤ 999
      rw [show 6 + 8 * 0 + p = 6 + p by omega, en, en, en, c0, c2, c4]
      exact ⟨nI_ofI hv.1.1 hv.1.2, nI_ofI hv.2.2.1 hv.2.2.2, by decide, by decide⟩
    · show (∃ q : Nat, q ≤ 5 ∧ (xcuM σ n k m hh).1 (6 + 8 * 0 + p) 0 = nI q) ∧ (∃ q : Nat, q ≤ 9 ∧ (xcuM σ n k m hh).1 (6 + 8 * 0 + p) 2 = nI q) ∧ 0 ≤ ((xcuM σ n k m hh).1 (6 + 8 * 0 + p) 4).toInt ∧ ((xcuM σ n k m hh).1 (6 + 8 * 0 + p) 4).toInt ≤ 999
      rw [ec _ (by omega) (by omega)]
      exact g.2 p (by omega)
