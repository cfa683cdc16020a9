/-! THE RELATION AT THE START -/
theorem m0M_s : ∀ j : Fin 5, s0X.1 0 j.val = m0M.2.1 4 j.val := by decide +kernel
theorem m0M_9 : ∀ j : Fin 4, m0M.2.1 9 j.val = 0 := by decide +kernel
theorem m0M_b : ∀ j : Fin 56, m0M.2.1 1 (160 * 0 + j.val) = fr56.getD j.val 0 ∧ 0 ≤ (fr56.getD j.val 0).toInt := by decide +kernel
theorem m0M_f : m0M.1 0 10 = nI 0 ∧ m0M.1 0 4 = nI 0 ∧ m0M.1 0 3 = nI 1 ∧ m0M.1 0 6 = nI 0 ∧ m0M.1 0 28 = -1 ∧ m0M.2.1 2 0 = nI 56 := by decide +kernel
theorem s0X_f : s0X.1 0 6 = nI 0 ∧ s0X.1 0 5 = nI 0 ∧ s0X.1 0 3 = nI 1023 ∧ s0X.1 2 6 = nI 0 ∧ s0X.1 30 3 = 0 := by decide +kernel
theorem s0X_67 : ∀ s : Fin 4, s0X.1 (67 + s.val) 1 = nI 0 ∧ s0X.1 (67 + s.val) 0 = -1 := by decide +kernel
theorem RR_start0 {u τ ρ : mw_M} (h1 : u.1 31 1 = 0) (h2 : u.1 37 1 = nI 1) (h3 : xTx u 0 z0P) (e : ∀ k, k ≠ 31 → k ≠ 33 → k ≠ 34 → k ≠ 37 → k ≠ 39 → u.1 k = ρ.1 k) (hs : ∀ j : Fin 5, ρ.1 0 j.val = τ.2.1 4 j.val) (h9 : ∀ j : Fin 4, τ.2.1 9 j.val = 0) (hb : ∀ j : Fin 56, τ.2.1 1 (160 * 0 + j.val) = fr56.getD j.val 0 ∧ 0 ≤ (fr56.getD j.val 0).toInt) (hf : τ.1 0 10 = nI 0 ∧ τ.1 0 4 = nI 0 ∧ τ.1 0 3 = nI 1 ∧ τ.1 0 6 = nI 0 ∧ τ.1 0 28 = -1 ∧ τ.2.1 2 0 = nI 56) (hg : ρ.1 0 6 = nI 0 ∧ ρ.1 0 5 = nI 0 ∧ ρ.1 0 3 = nI 1023 ∧ ρ.1 2 6 = nI 0 ∧ ρ.1 30 3 = 0) (h67 : ∀ s : Fin 4, ρ.1 (67 + s.val) 1 = nI 0 ∧ ρ.1 (67 + s.val) 0 = -1) : RR u τ 0 1 0 (fun _ => z0P) := by
  have e0 := e 0 (by decide) (by decide) (by decide) (by decide) (by decide)
  have e2 := e 2 (by decide) (by decide) (by decide) (by decide) (by decide)
  have e30 := e 30 (by decide) (by decide) (by decide) (by decide) (by decide)
  obtain ⟨f1, f2, f3, f4, f5, f6⟩ := hf
  obtain ⟨g1, g2, g3, g4, g5⟩ := hg
  have hNo : RNo u τ 0 1 := ⟨⟨Nat.zero_le 8, by rw [e0]; exact g1, f1⟩, fun j hj => by rw [e0]; exact hs ⟨j, hj⟩, fun p hp => absurd hp (Nat.not_lt_zero p), ⟨0, Nat.one_pos, by rw [e0]; exact g2, f2⟩, ⟨⟨1023, Nat.le_refl 1023, by rw [e0]; exact g3⟩, fun p hp => absurd hp (Nat.not_lt_zero p)⟩⟩
  have hTx : RTx u τ 1 (fun _ => z0P) := by
    refine ⟨⟨⟨Nat.le_refl 1, by decide⟩, h2, f3⟩, fun t ht => ?_, fun t ht => ?_⟩
    · rw [show t = 0 by omega]; exact h3
    · rw [show t = 0 by omega]
      exact ⟨56, fun j => fr56.getD j 0, ⟨f6, by decide, by decide, fun j hj => hb ⟨j, hj⟩⟩, fr56_z⟩
  have hTp : RTp u τ 0 := ⟨Nat.zero_le _, h1, f4, fun j hj => absurd hj (Nat.not_lt_zero j)⟩
  have hSh : RSh u τ := fun s hs => by
    have es := e (67 + s) (by omega) (by omega) (by omega) (by omega) (by omega)
    obtain ⟨a1, a2⟩ := h67 ⟨s, hs⟩
    exact ⟨0, Nat.zero_le _, by rw [es]; exact a1, Or.inl ⟨by rw [es]; exact a2, h9 ⟨s, hs⟩⟩⟩
  exact ⟨hNo, hTx, hTp, hSh, ⟨0, Nat.zero_le _, by rw [e2]; exact g4⟩, Or.inl ⟨by rw [e30]; exact g5, f5⟩⟩
theorem RX_start {u : mw_M} (h : x0R u) : RX u m0M := ⟨0, 1, 0, fun _ => z0P, RR_start0 h.1 h.2.1 h.2.2.1 h.2.2.2.1 m0M_s m0M_9 m0M_b m0M_f s0X_f s0X_67⟩
