/-! THE GRAMMAR, CASE BY CASE -/
section GC
variable {c p c2 p2 q f0 : Nat} {ts ts1 ts2 : List (Nat × Nat)} {cs cs2 : List Nat} {ops : Nat → Bool} {x : List (Nat × Nat) → gR} {y : Option ((List (Nat × Nat) → gR) × (List (Nat × Nat) → gR))} {f : (List (Nat × Nat) → gR) × (List (Nat × Nat) → gR)} {z : Option (List (Nat × Nat) → gR)} {g : List (Nat × Nat) → gR}
theorem gAt_one (h : c ≤ 5 ∨ 100 ≤ c) : gAt y ((c, p) :: ts) = .inl ([c], ts) := by
  unfold gAt; dsimp only; rw [if_pos h]
theorem gAt_neg0 (h : c = 16) : gAt none ((c, p) :: ts) = .inr p := by
  subst h; unfold gAt; dsimp only; rw [if_neg (by decide), if_pos rfl]
theorem gAt_negI (h : c = 16) (hg : f.1 ts = .inl (cs, ts2)) : gAt (some f) ((c, p) :: ts) = .inl (cs ++ [20], ts2) := by
  subst h; unfold gAt; dsimp only; rw [if_neg (by decide), if_pos rfl, hg]
theorem gAt_negF (h : c = 16) (hg : f.1 ts = .inr q) : gAt (some f) ((c, p) :: ts) = .inr q := by
  subst h; unfold gAt; dsimp only; rw [if_neg (by decide), if_pos rfl, hg]
theorem gAt_par0 (h : c = 12) : gAt none ((c, p) :: ts) = .inr p := by
  subst h; unfold gAt; dsimp only; rw [if_neg (by decide), if_neg (by decide), if_pos rfl]
theorem gAt_parF (h : c = 12) (hg : f.2 ts = .inr q) : gAt (some f) ((c, p) :: ts) = .inr q := by
  subst h; unfold gAt; dsimp only; rw [if_neg (by decide), if_neg (by decide), if_pos rfl, hg]
theorem gAt_parI (h : c = 12) (hg : f.2 ts = .inl (cs, (c2, p2) :: ts2)) (h2 : c2 = 13) : gAt (some f) ((c, p) :: ts) = .inl (cs, ts2) := by
  subst h; unfold gAt; dsimp only; rw [if_neg (by decide), if_neg (by decide), if_pos rfl, hg]; dsimp only; rw [if_pos h2]
theorem gAt_parX (h : c = 12) (hg : f.2 ts = .inl (cs, (c2, p2) :: ts2)) (h2 : ¬ c2 = 13) : gAt (some f) ((c, p) :: ts) = .inr p2 := by
  subst h; unfold gAt; dsimp only; rw [if_neg (by decide), if_neg (by decide), if_pos rfl, hg]; dsimp only; rw [if_neg h2]
theorem gAt_bad (h : ¬ (c ≤ 5 ∨ 100 ≤ c)) (h2 : ¬ c = 16) (h3 : ¬ c = 12) : gAt y ((c, p) :: ts) = .inr p := by
  unfold gAt; dsimp only; rw [if_neg h, if_neg h2, if_neg h3]
theorem gNot_n (h : ¬ c = 11) : gNot z x ((c, p) :: ts) = x ((c, p) :: ts) := by
  unfold gNot; dsimp only; rw [if_neg h]
theorem gNot_0 (h : c = 11) : gNot none x ((c, p) :: ts) = .inr p := by
  unfold gNot; dsimp only; rw [if_pos h]
theorem gNot_I (h : c = 11) (hg : g ts = .inl (cs, ts2)) : gNot (some g) x ((c, p) :: ts) = .inl (cs ++ [11], ts2) := by
  unfold gNot; dsimp only; rw [if_pos h, hg]
theorem gNot_F (h : c = 11) (hg : g ts = .inr q) : gNot (some g) x ((c, p) :: ts) = .inr q := by
  unfold gNot; dsimp only; rw [if_pos h, hg]
theorem gCmp_F (hg : x ts = .inr q) : gCmp x ts = .inr q := by
  unfold gCmp; rw [hg]
theorem gCmp_1 (hg : x ts = .inl (cs, (c, p) :: ts1)) (h : ¬ (c = 18 ∨ c = 19)) : gCmp x ts = .inl (cs, (c, p) :: ts1) := by
  unfold gCmp; rw [hg]; dsimp only; rw [if_neg h]
theorem gCmp_2F (hg : x ts = .inl (cs, (c, p) :: ts1)) (h : c = 18 ∨ c = 19) (hg2 : x ts1 = .inr q) : gCmp x ts = .inr q := by
  unfold gCmp; rw [hg]; dsimp only; rw [if_pos h, hg2]
theorem gCmp_2I (hg : x ts = .inl (cs, (c, p) :: ts1)) (h : c = 18 ∨ c = 19) (hg2 : x ts1 = .inl (cs2, ts2)) : gCmp x ts = .inl (cs ++ cs2 ++ [c], ts2) := by
  unfold gCmp; rw [hg]; dsimp only; rw [if_pos h, hg2]
theorem gLoop_s (h : ops c = true) (hg : x ts = .inl (cs2, ts2)) : gLoop ops x (f0 + 1) cs ((c, p) :: ts) = gLoop ops x f0 (cs ++ cs2 ++ [c]) ts2 := by
  show (if ops c = true then _ else _) = _
  rw [if_pos h, hg]
theorem gLoop_f (h : ops c = true) (hg : x ts = .inr q) : gLoop ops x (f0 + 1) cs ((c, p) :: ts) = .inr q := by
  show (if ops c = true then _ else _) = _
  rw [if_pos h, hg]
theorem gLoop_e (h : ¬ ops c = true) : gLoop ops x (f0 + 1) cs ((c, p) :: ts) = .inl (cs, (c, p) :: ts) := by
  show (if ops c = true then _ else _) = _
  rw [if_neg h]
theorem gLevel_F (hg : x ts = .inr q) : gLevel ops x ts = .inr q := by unfold gLevel; rw [hg]
theorem gLevel_I (hg : x ts = .inl (cs, ts1)) : gLevel ops x ts = gLoop ops x ts1.length cs ts1 := by unfold gLevel; rw [hg]
theorem gPart_k (h : ¬ c = f0) : gPart f0 ((c, p) :: ts) = .inr p := by unfold gPart; dsimp only; rw [if_neg h]
theorem gPart_F (h : c = f0) (hg : (gD 5).2.2 ts = .inr q) : gPart f0 ((c, p) :: ts) = .inr q := by unfold gPart; dsimp only; rw [if_pos h, hg]
theorem gPart_I (h : c = f0) (hg : (gD 5).2.2 ts = .inl (cs, (c2, p2) :: ts2)) (h2 : c2 = 14) : gPart f0 ((c, p) :: ts) = .inl (cs, ts2) := by unfold gPart; dsimp only; rw [if_pos h, hg]; dsimp only; rw [if_pos h2]
theorem gPart_X (h : c = f0) (hg : (gD 5).2.2 ts = .inl (cs, (c2, p2) :: ts2)) (h2 : ¬ c2 = 14) : gPart f0 ((c, p) :: ts) = .inr p2 := by unfold gPart; dsimp only; rw [if_pos h, hg]; dsimp only; rw [if_neg h2]
end GC
