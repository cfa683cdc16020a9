/-! WHAT THE LEXER'S FIELDS SAY OF THE TOKEN AT HAND -/
theorem wcL_ge (bs : Nat → Int32) (n q e : Nat) : ∀ (ws : List (List Int32)) (k : Nat), (k ≤ wcL bs n q e k ws ∧ wcL bs n q e k ws < k + ws.length) ∨ wcL bs n q e k ws = 22
  | [], k => Or.inr rfl
  | w :: ws, k => by
    unfold wcL
    split
    · exact Or.inl ⟨Nat.le_refl k, by simp⟩
    · rcases wcL_ge bs n q e ws (k + 1) with h | h
      · refine Or.inl ⟨by omega, ?_⟩
        rw [List.length_cons]
        omega
      · exact Or.inr h
theorem mtF_inj {bs : Nat → Int32} {n q e : Nat} {w v : List Int32} (h1 : mtF bs n q e w) (h2 : mtF bs n q e v) : w = v := by
  have hl : w.length = v.length := by rw [← h1.1, ← h2.1]
  apply List.ext_getElem hl
  intro i hi hj
  have a := h1.2 i hi
  have b := h2.2 i hj
  rw [List.getD_eq_getElem?_getD, List.getElem?_eq_getElem hi] at a
  rw [List.getD_eq_getElem?_getD, List.getElem?_eq_getElem hj] at b
  exact a.symm.trans b
theorem wcL_iff {bs : Nat → Int32} {n q e : Nat} : ∀ (ws : List (List Int32)) (k i : Nat), ws.Nodup → k + ws.length ≤ 22 → i < ws.length → (wcL bs n q e k ws = k + i ↔ mtF bs n q e (ws.getD i []))
  | [], k, i, _, _, h => absurd h (by simp)
  | w :: ws, k, 0, hn, hk, h => by
    unfold wcL
    by_cases hm : mtB bs n q e w = true
    · rw [if_pos hm]
      exact ⟨fun _ => mtB_iff.mp hm, fun _ => rfl⟩
    · rw [if_neg hm]
      refine ⟨fun z => ?_, fun z => absurd (mtB_iff.mpr z) hm⟩
      rw [List.length_cons] at hk
      rcases wcL_ge bs n q e ws (k + 1) with h1 | h1 <;> omega
  | w :: ws, k, i + 1, hn, hk, h => by
    rw [List.length_cons] at hk h
    have hn2 := (List.nodup_cons.mp hn)
    have ih := wcL_iff (bs := bs) (n := n) (q := q) (e := e) ws (k + 1) i hn2.2 (by omega) (by omega)
    unfold wcL
    show _ ↔ mtF bs n q e (ws.getD i [])
    by_cases hm : mtB bs n q e w = true
    · rw [if_pos hm]
      refine ⟨fun z => by omega, fun z => ?_⟩
      have e1 := mtF_inj (mtB_iff.mp hm) z
      exact absurd (by rw [e1, List.getD_eq_getElem?_getD, List.getElem?_eq_getElem (by omega)]; exact List.getElem_mem _) hn2.1
    · rw [if_neg hm, show k + (i + 1) = k + 1 + i by omega]
      exact ih
theorem wcF_iff {bs : Nat → Int32} {n q e i : Nat} (hi : i < 12) : wcF bs n q e = i ↔ mtF bs n q e (wordsF.getD i []) := by
  have := wcL_iff (bs := bs) (n := n) (q := q) (e := e) wordsF 0 i (by decide) (by decide) hi
  rw [Nat.zero_add] at this
  exact this
theorem wcF_range (bs : Nat → Int32) (n q e : Nat) : wcF bs n q e < 12 ∨ wcF bs n q e = 22 := by
  rcases wcL_ge bs n q e wordsF 0 with h | h
  · exact Or.inl (by have := h.2; exact this)
  · exact Or.inr h
theorem scL_ge (b : Int32) : ∀ (xs : List Int32) (k : Nat), (k ≤ scL b k xs ∧ scL b k xs < k + xs.length) ∨ scL b k xs = 22
  | [], k => Or.inr rfl
  | w :: ws, k => by
    unfold scL
    split
    · exact Or.inl ⟨Nat.le_refl k, by simp⟩
    · rcases scL_ge b ws (k + 1) with h | h
      · refine Or.inl ⟨by omega, ?_⟩
        rw [List.length_cons]
        omega
      · exact Or.inr h
theorem scL_iff {b : Int32} : ∀ (xs : List Int32) (k i : Nat), xs.Nodup → k + xs.length ≤ 22 → i < xs.length → (scL b k xs = k + i ↔ b = xs.getD i 0)
  | [], k, i, _, _, h => absurd h (by simp)
  | w :: ws, k, 0, hn, hk, h => by
    unfold scL
    by_cases hm : b = w
    · rw [if_pos hm]
      exact ⟨fun _ => hm, fun _ => rfl⟩
    · rw [if_neg hm]
      refine ⟨fun z => ?_, fun z => absurd z hm⟩
      rw [List.length_cons] at hk
      rcases scL_ge b ws (k + 1) with h1 | h1 <;> omega
  | w :: ws, k, i + 1, hn, hk, h => by
    rw [List.length_cons] at hk h
    have hn2 := (List.nodup_cons.mp hn)
    have ih := scL_iff (b := b) ws (k + 1) i hn2.2 (by omega) (by omega)
    unfold scL
    show _ ↔ b = ws.getD i 0
    by_cases hm : b = w
    · rw [if_pos hm]
      refine ⟨fun z => by omega, fun z => ?_⟩
      exact absurd (by rw [← hm, z, List.getD_eq_getElem?_getD, List.getElem?_eq_getElem (by omega)]; exact List.getElem_mem _) hn2.1
    · rw [if_neg hm, show k + (i + 1) = k + 1 + i by omega]
      exact ih
theorem scF_iff {b : Int32} {i : Nat} (hi : i < 8) : scF b = 12 + i ↔ b = signsF.getD i 0 := scL_iff signsF 12 i (by decide) (by decide) hi
theorem scF_range (b : Int32) : (12 ≤ scF b ∧ scF b < 20) ∨ scF b = 22 := scL_ge b signsF 12
theorem wdF_sm (bs : Nat → Int32) (n : Nat) : ∀ f h i, h ≤ i → i < wdF bs n f h → 97 ≤ (byF bs n i).toInt ∧ (byF bs n i).toInt ≤ 122
  | 0, h, i, h1, h2 => by
    have : i < h := h2
    omega
  | f + 1, h, i, h1, h2 => by
    unfold wdF at h2
    by_cases q : 97 ≤ (byF bs n h).toInt ∧ (byF bs n h).toInt ≤ 122
    · rw [if_pos q] at h2
      rcases Nat.eq_or_lt_of_le h1 with rfl | h3
      · exact q
      · exact wdF_sm bs n f (h + 1) i h3 h2
    · rw [if_neg q] at h2
      omega
/-- a letter of the word at hand -/
abbrev leP (bs : Nat → Int32) (n q e k : Nat) (x : Int32) : Prop := (q + k < e ∧ byF bs n (q + k) = x) ∨ (¬ q + k < e ∧ x = 0)
theorem leP_mt {bs : Nat → Int32} {n q e : Nat} {w : List Int32} (hq : q ≤ e) (hs : ∀ i, q ≤ i → i < e → ¬ byF bs n i = 0) (hw : ∀ i, i < w.length → ¬ w.getD i 0 = 0) (hl : w.length < 8) : (e ≤ q + 8 ∧ ∀ k, k < 8 → leP bs n q e k (w.getD k 0)) ↔ mtF bs n q e w := by
  have out : ∀ i, w.length ≤ i → w.getD i 0 = 0 := fun i hi => by
    rw [List.getD_eq_getElem?_getD, List.getElem?_eq_none hi]
    rfl
  constructor
  · rintro ⟨h8, h⟩
    have hlen : e - q = w.length := by
      rcases Nat.lt_trichotomy (e - q) w.length with z | z | z
      · rcases h (e - q) (by omega) with y | y
        · omega
        · exact absurd y.2 (hw _ z)
      · exact z
      · rcases h w.length hl with y | y
        · exact absurd (by rw [y.2]; exact out _ (Nat.le_refl _)) (hs (q + w.length) (by omega) (by omega))
        · omega
    refine ⟨hlen, fun i hi => ?_⟩
    rcases h i (by omega) with y | y
    · exact y.2
    · omega
  · rintro ⟨hlen, h⟩
    refine ⟨by omega, fun k hk => ?_⟩
    by_cases z : k < w.length
    · exact Or.inl ⟨by omega, h k z⟩
    · exact Or.inr ⟨by omega, out k (by omega)⟩
theorem words_ok : ∀ i, i < 12 → (wordsF.getD i []).length < 8 ∧ ∀ k, k < (wordsF.getD i []).length → ¬ (wordsF.getD i []).getD k 0 = 0 := by decide +kernel
/-- all that the fields say of the token (c, p), ahead of ts -/
def mTk (σ : mw_M) (n : Nat) (bs : Nat → Int32) (c p : Nat) (ts : List (Nat × Nat)) : Prop :=
  (p ≤ n ∧ σ.1 0 21 = nI p ∧ (σ.1 0 20 = 0 ↔ c = 21) ∧ (σ.1 0 20 = 2 ↔ 100 ≤ c) ∧ (100 ≤ c → σ.2.2 0 22 = lN (c - 100) ∧ c - 100 < 10000)) ∧
  (∃ e, e ≤ n ∧ σ.1 0 19 = nI e ∧ (c ≠ 21 → c ≠ 22 → ts = tkA bs n e) ∧ ∀ i, i < 12 → ((σ.1 0 20 = 1 ∧ e ≤ p + 8 ∧ ∀ k, k < 8 → leP bs n p e k ((wordsF.getD i []).getD k 0)) ↔ c = i)) ∧
  (∀ j, j < 8 → ((σ.1 0 20 = 3 ∧ σ.2.2 0 22 = (signsF.getD j 0).toInt64) ↔ c = 12 + j)) ∧ (c < 12 → σ.1 0 20 = 1) ∧ (c < 20 ∨ c = 21 ∨ c = 22 ∨ 100 ≤ c)
theorem nvF_lt {bs : Nat → Int32} {n : Nat} : ∀ k q w, (∀ i, i < k → 48 ≤ (byF bs n (q + i)).toInt ∧ (byF bs n (q + i)).toInt ≤ 57) → nvF bs n k q w < (w + 1) * 10 ^ k
  | 0, q, w, _ => by simp [nvF]
  | k + 1, q, w, h => by
    have h0 := h 0 (by omega)
    rw [Nat.add_zero] at h0
    have := nvF_lt (bs := bs) (n := n) k (q + 1) (10 * w + ((byF bs n q).toInt - 48).toNat) (fun i hi => by
      have := h (i + 1) (by omega)
      rwa [show q + (i + 1) = q + 1 + i by omega] at this)
    show nvF bs n k (q + 1) _ < _
    refine Nat.lt_of_lt_of_le this ?_
    rw [Nat.pow_succ, ← Nat.mul_assoc, Nat.mul_right_comm]
    exact Nat.mul_le_mul_right _ (by omega)
theorem dgF_di (bs : Nat → Int32) (n : Nat) : ∀ f h i, h ≤ i → i < dgF bs n f h → 48 ≤ (byF bs n i).toInt ∧ (byF bs n i).toInt ≤ 57
  | 0, h, i, h1, h2 => by
    have : i < h := h2
    omega
  | f + 1, h, i, h1, h2 => by
    unfold dgF at h2
    by_cases q : 48 ≤ (byF bs n h).toInt ∧ (byF bs n h).toInt ≤ 57
    · rw [if_pos q] at h2
      rcases Nat.eq_or_lt_of_le h1 with rfl | h3
      · exact q
      · exact dgF_di bs n f (h + 1) i h3 h2
    · rw [if_neg q] at h2
      omega
theorem mLx_tk {σ : mw_M} {n : Nat} {bs : Nat → Int32} {ts : List (Nat × Nat)} (hn : n ≤ 160) (h : mLx σ n bs ts) : ∃ c p ts', ts = (c, p) :: ts' ∧ mTk σ n bs c p ts' := by
  obtain ⟨q, e, hq, he, h19, h21, hts, h⟩ := h
  rcases h with ⟨h1, h2⟩ | ⟨h1, hb, h⟩
  · have hqn : q = n := by omega
    subst hqn
    refine ⟨21, q, [], by rw [hts, tkA_end (Nat.le_refl q)], ⟨hq, h21, ?_, ?_, ?_⟩, ⟨e, he, h19, fun z => absurd rfl z, fun i hi => ?_⟩, fun j hj => ?_, ?_, Or.inr (Or.inl rfl)⟩
    · simp [h2]
    · rw [h2]; exact ⟨fun z => absurd z (by decide), fun z => absurd z (by decide)⟩
    · intro z; exact absurd z (by decide)
    · rw [h2]; exact ⟨fun z => absurd z.1 (by decide), fun z => by omega⟩
    · rw [h2]; exact ⟨fun z => absurd z.1 (by decide), fun z => by omega⟩
    · intro z; exact absurd z (by decide)
  · have hts2 : ts = (coF bs n q, q) :: tkA bs n (enF bs n q) := by rw [hts, tkA_tok hn h1 hb]
    refine ⟨coF bs n q, q, _, hts2, ?_⟩
    rcases h with ⟨hs, h20, hen⟩ | ⟨hs, hd, h20, h22, hen⟩ | ⟨hs, hd, hc, h20, h22, hen⟩ | ⟨hs, hd, hc, h20⟩
    · have hco : coF bs n q = wcF bs n q e := by
        rw [hen]
        unfold coF enF
        rw [if_pos hs, if_pos hs]
      have hen2 : e = wdF bs n 161 q := by rw [hen]; unfold enF; rw [if_pos hs]
      have hr := wcF_range bs n q e
      rw [hco]
      refine ⟨⟨hq, h21, ?_, ?_, ?_⟩, ⟨e, he, h19, fun _ _ => by rw [hen], fun i hi => ?_⟩, fun j hj => ?_, fun _ => h20, by omega⟩
      · rw [h20]; exact ⟨fun z => absurd z (by decide), fun z => by omega⟩
      · rw [h20]; exact ⟨fun z => absurd z (by decide), fun z => by omega⟩
      · intro z; omega
      · rw [wcF_iff hi, ← leP_mt (by rw [hen2]; exact wdF_ge bs n 161 q) (fun i h1 h2 z => by
          have := wdF_sm bs n 161 q i h1 (by rw [← hen2]; exact h2)
          rw [z] at this
          exact absurd this (by decide)) (words_ok i hi).2 (words_ok i hi).1]
        exact ⟨fun z => z.2, fun z => ⟨h20, z⟩⟩
      · rw [h20]; exact ⟨fun z => absurd z.1 (by decide), fun z => by omega⟩
    · have hen2 : e = dgF bs n 161 q := by rw [hen]; unfold enF; rw [if_neg hs, if_pos hd]
      have hco : coF bs n q = if 4 < e - q then 22 else 100 + nvF bs n (e - q) q 0 := by
        rw [hen2]
        unfold coF
        rw [if_neg hs, if_pos hd]
      rw [hco]
      by_cases h4 : 4 < e - q
      · rw [if_pos h4] at h20 ⊢
        refine ⟨⟨hq, h21, ?_, ?_, ?_⟩, ⟨e, he, h19, fun _ z => absurd rfl z, fun i hi => ?_⟩, fun j hj => ?_, ?_, by omega⟩
        · rw [h20]; exact ⟨fun z => absurd z (by decide), fun z => by omega⟩
        · rw [h20]; exact ⟨fun z => absurd z (by decide), fun z => by omega⟩
        · intro z; omega
        · rw [h20]; exact ⟨fun z => absurd z.1 (by decide), fun z => by omega⟩
        · rw [h20]; exact ⟨fun z => absurd z.1 (by decide), fun z => by omega⟩
        · intro z; omega
      · rw [if_neg h4] at h20 ⊢
        refine ⟨⟨hq, h21, ?_, ?_, ?_⟩, ⟨e, he, h19, fun _ _ => by rw [hen], fun i hi => ?_⟩, fun j hj => ?_, ?_, by omega⟩
        · rw [h20]; exact ⟨fun z => absurd z (by decide), fun z => by omega⟩
        · rw [h20]; exact ⟨fun z => by omega, fun z => rfl⟩
        · intro z
          rw [Nat.add_sub_cancel_left]
          refine ⟨h22 (by omega), ?_⟩
          have := nvF_lt (bs := bs) (n := n) (e - q) q 0 (fun i hi => dgF_di bs n 161 q (q + i) (by omega) (by rw [← hen2]; omega))
          have h5 : (0 + 1) * 10 ^ (e - q) ≤ 10000 := by
            rw [Nat.zero_add, Nat.one_mul]
            exact Nat.le_trans (Nat.pow_le_pow_right (by decide) (by omega : e - q ≤ 4)) (by decide)
          omega
        · rw [h20]; exact ⟨fun z => absurd z.1 (by decide), fun z => by omega⟩
        · rw [h20]; exact ⟨fun z => absurd z.1 (by decide), fun z => by omega⟩
        · intro z; omega
    · have hco : coF bs n q = scF (byF bs n q) := by unfold coF; rw [if_neg hs, if_neg hd]
      have hr := scF_range (byF bs n q)
      rw [hco]
      refine ⟨⟨hq, h21, ?_, ?_, ?_⟩, ⟨e, he, h19, fun _ _ => by rw [hen], fun i hi => ?_⟩, fun j hj => ?_, ?_, by omega⟩
      · rw [h20]; exact ⟨fun z => absurd z (by decide), fun z => by omega⟩
      · rw [h20]; exact ⟨fun z => absurd z (by decide), fun z => by omega⟩
      · intro z; omega
      · rw [h20]; exact ⟨fun z => absurd z.1 (by decide), fun z => by omega⟩
      · rw [scF_iff hj, h20, h22]
        refine ⟨fun z => ?_, fun z => ⟨rfl, by rw [z]⟩⟩
        have := z.2
        rw [nl_eq, nl_i, nl_i] at this
        rw [ni_eq]
        exact this
      · intro z; omega
    · have hco : coF bs n q = 22 := by unfold coF; rw [if_neg hs, if_neg hd]; exact hc
      rw [hco]
      refine ⟨⟨hq, h21, ?_, ?_, ?_⟩, ⟨e, he, h19, fun _ z => absurd rfl z, fun i hi => ?_⟩, fun j hj => ?_, ?_, by omega⟩
      · rw [h20]; exact ⟨fun z => absurd z (by decide), fun z => by omega⟩
      · rw [h20]; exact ⟨fun z => absurd z (by decide), fun z => by omega⟩
      · intro z; omega
      · rw [h20]; exact ⟨fun z => absurd z.1 (by decide), fun z => by omega⟩
      · rw [h20]; exact ⟨fun z => absurd z.1 (by decide), fun z => by omega⟩
      · intro z; omega
