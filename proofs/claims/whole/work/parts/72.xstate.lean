/-! THE CLASS'S READER: ITS STATES -/
def hdC (ts : List (Nat × Nat)) : Nat := (ts.headD (21, 0)).1
def hdP (ts : List (Nat × Nat)) : Nat := (ts.headD (21, 0)).2
def xTk (σ : mw_M) (T : List (Nat × Nat)) : Prop := T.length ≤ 161 ∧ σ.1 34 2 = nI T.length ∧ (∀ i, i < T.length → σ.2.1 35 i = nI (T.getD i (0, 0)).1 ∧ σ.2.1 36 i = nI (T.getD i (0, 0)).2) ∧ tkOK T ∧ ∀ k, k ∈ T → k.2 ≤ 160
def xSt (σ : mw_M) (j : Nat) (cs : List Nat) : Prop := σ.1 (39 + j) 3 = nI cs.length ∧ ∀ i, i < cs.length → σ.2.1 (45 + j) i = nI (cs.getD i 0)
/-- the reader goes well: at a, ts to come, cs laid down -/
def xPo (σ : mw_M) (T : List (Nat × Nat)) (j a : Nat) (ts : List (Nat × Nat)) (cs : List Nat) (B : Nat) : Prop := xTk σ T ∧ T.drop a = ts ∧ a ≤ T.length ∧ σ.1 33 1 = nI a ∧ σ.1 33 2 = -1 ∧ xSt σ j cs ∧ cs.length + ts.length ≤ B
/-- it has met a fault -/
def xPb (σ : mw_M) (T : List (Nat × Nat)) (j q : Nat) : Prop := xTk σ T ∧ (∃ a : Nat, a ≤ 1000 ∧ σ.1 33 1 = nI a) ∧ (σ.1 33 2 = nI q ∧ q ≤ 160) ∧ ∃ k : Nat, k ≤ 160 ∧ σ.1 (39 + j) 3 = nI k
def xPf (j : Nat) (σ u : mw_M) : Prop := (∀ k, k ≠ 33 → k ≠ 39 + j → u.1 k = σ.1 k) ∧ (∀ k, k ≠ 45 + j → u.2.1 k = σ.2.1 k) ∧ u.2.2 = σ.2.2
theorem xPf.rf (j : Nat) (σ : mw_M) : xPf j σ σ := ⟨fun _ _ _ => rfl, fun _ _ => rfl, rfl⟩
theorem xPf.tr {j : Nat} {a b c : mw_M} (h1 : xPf j a b) (h2 : xPf j b c) : xPf j a c := ⟨fun k k1 k2 => (h2.1 k k1 k2).trans (h1.1 k k1 k2), fun k k1 => (h2.2.1 k k1).trans (h1.2.1 k k1), h2.2.2.trans h1.2.2⟩
theorem xPf.rd {j : Nat} {σ u : mw_M} (h : xPf j σ u) (f : Nat) (v : Int32) : xPf j σ (mw_si u 33 f v) := ⟨fun k k1 k2 => (mw_npF k1).trans (h.1 k k1 k2), h.2.1, h.2.2⟩
theorem xPf.ad {j : Nat} {σ u : mw_M} (h : xPf j σ u) (k : Nat) (v w : Int32) : xPf j σ (mw_si (mw_sa u (45 + j) k v) (39 + j) 3 w) := ⟨fun k k1 k2 => (mw_npF k2).trans (h.1 k k1 k2), fun k k1 => (mw_sap k1).trans (h.2.1 k k1), h.2.2⟩
def xAf (T : List (Nat × Nat)) (j B : Nat) (cs : List Nat) (R : gR) (u : mw_M) : Prop := match R with
  | .inl z => ∃ a : Nat, xPo u T j a z.2 (cs ++ z.1) B
  | .inr q => xPb u T j q
theorem xAf.gd {T : List (Nat × Nat)} {j B a : Nat} {cs cs2 : List Nat} {ts2 : List (Nat × Nat)} {R : gR} {u : mw_M} (e : R = .inl (cs2, ts2)) (h : xPo u T j a ts2 (cs ++ cs2) B) : xAf T j B cs R u := by rw [e]; exact ⟨a, h⟩
theorem xAf.bd {T : List (Nat × Nat)} {j B q : Nat} {cs : List Nat} {R : gR} {u : mw_M} (e : R = .inr q) (h : xPb u T j q) : xAf T j B cs R u := by rw [e]; exact h
theorem drop_hd {T : List (Nat × Nat)} {a : Nat} (h : a < T.length) : T.drop a = T.getD a (0, 0) :: T.drop (a + 1) := by
  rw [List.drop_eq_getElem_cons h]
  simp [List.getD, h]
theorem xTk.tok {σ : mw_M} {T : List (Nat × Nat)} (h : xTk σ T) (a : Nat) : (if a < T.length then σ.2.1 35 a else 21) = nI (hdC (T.drop a)) ∧ (if a < T.length then σ.2.1 36 a else 0) = nI (hdP (T.drop a)) := by
  by_cases y : a < T.length
  · rw [if_pos y, if_pos y, drop_hd y]
    exact h.2.2.1 a y
  · rw [if_neg y, if_neg y, List.drop_eq_nil_of_le (by omega)]
    exact ⟨rfl, rfl⟩
theorem xTk.lt {σ : mw_M} {T : List (Nat × Nat)} (h : xTk σ T) (a : Nat) : hdC (T.drop a) < 20000 ∧ hdP (T.drop a) ≤ 160 := by
  by_cases y : a < T.length
  · rw [drop_hd y]
    have hm : T.getD a (0, 0) ∈ T := by simp [List.getD, y]
    exact ⟨h.2.2.2.1 _ hm, h.2.2.2.2 _ hm⟩
  · rw [List.drop_eq_nil_of_le (by omega)]
    exact ⟨by decide, by decide⟩
theorem xTk.mv {σ u : mw_M} {T : List (Nat × Nat)} (h : xTk σ T) (h1 : u.1 34 = σ.1 34) (h2 : u.2.1 35 = σ.2.1 35) (h3 : u.2.1 36 = σ.2.1 36) : xTk u T := by unfold xTk at *; rw [h1, h2, h3]; exact h
theorem xPf.tk {j : Nat} {σ u : mw_M} (h : xPf j σ u) (hj : j < 6) {T : List (Nat × Nat)} (ht : xTk σ T) : xTk u T := ht.mv (h.1 34 (by decide) (by omega)) (h.2.1 35 (by omega)) (h.2.1 36 (by omega))
theorem hdC_ne {ts : List (Nat × Nat)} (h : hdC ts ≠ 21) : ∃ p ts2, ts = (hdC ts, p) :: ts2 ∧ hdP ts = p ∧ ts.tail = ts2 := by
  cases ts with
  | nil => exact absurd rfl h
  | cons k t => exact ⟨k.2, t, rfl, rfl, rfl⟩
theorem tail_len {ts : List (Nat × Nat)} (h : hdC ts ≠ 21) : ts.tail.length + 1 = ts.length := by
  obtain ⟨p, t, e, -, -⟩ := hdC_ne h
  rw [e]; rfl
/-- a token passed by -/
theorem xPo.next {σ : mw_M} {T : List (Nat × Nat)} {j a B : Nat} {ts : List (Nat × Nat)} {cs : List Nat} (h : xPo σ T j a ts cs B) (hj : j < 6) (hc : hdC ts ≠ 21) : xPo (mw_si σ 33 1 (nI (a + 1))) T j (a + 1) ts.tail cs (B - 1) ∧ 1 ≤ B := by
  obtain ⟨h1, h2, h3, h4, h5, h6, h7⟩ := h
  have hl := tail_len hc
  have hd : ts.length = T.length - a := by rw [← h2, List.length_drop]
  refine ⟨⟨h1, ?_, by omega, mw_sf, (mw_nf (by decide)).trans h5, ⟨(mw_np (by omega)).trans h6.1, h6.2⟩, by omega⟩, by omega⟩
  rw [← h2, List.tail_drop]
theorem xPo.wk {σ : mw_M} {T : List (Nat × Nat)} {j a B C : Nat} {ts : List (Nat × Nat)} {cs : List Nat} (h : xPo σ T j a ts cs B) (hb : B ≤ C) : xPo σ T j a ts cs C := ⟨h.1, h.2.1, h.2.2.1, h.2.2.2.1, h.2.2.2.2.1, h.2.2.2.2.2.1, Nat.le_trans h.2.2.2.2.2.2 hb⟩
theorem xPo.fail {σ : mw_M} {T : List (Nat × Nat)} {j a B : Nat} {ts : List (Nat × Nat)} {cs : List Nat} (h : xPo σ T j a ts cs B) (hj : j < 6) (hB : cs.length ≤ 160) : xPb (mw_si σ 33 2 (nI (hdP ts))) T j (hdP ts) := by
  obtain ⟨h1, h2, h3, h4, h5, h6, h7⟩ := h
  exact ⟨h1, ⟨a, by have := h1.1; omega, (mw_nf (by decide)).trans h4⟩, ⟨mw_sf, by rw [← h2]; exact (h1.lt a).2⟩, cs.length, by omega, (mw_np (by omega)).trans h6.1⟩
/-- a step laid down -/
theorem xPo.add {σ : mw_M} {T : List (Nat × Nat)} {j a B : Nat} {ts : List (Nat × Nat)} {cs : List Nat} (h : xPo σ T j a ts cs B) (hj : j < 6) (c : Nat) : xPo (mw_si (mw_sa σ (45 + j) cs.length (nI c)) (39 + j) 3 (nI (cs.length + 1))) T j a ts (cs ++ [c]) (B + 1) := by
  obtain ⟨h1, h2, h3, h4, h5, h6, h7⟩ := h
  refine ⟨h1.mv (mw_npF (by omega)) (mw_sap (by omega)) (mw_sap (by omega)), h2, h3, (mw_np (by omega)).trans h4, (mw_np (by omega)).trans h5, ⟨?_, fun i hi => ?_⟩, by rw [List.length_append, List.length_singleton]; omega⟩
  · rw [List.length_append]; exact mw_sf
  · rw [List.length_append, List.length_singleton] at hi
    show (mw_sa σ (45 + j) cs.length (nI c)).2.1 (45 + j) i = _
    by_cases e : i = cs.length
    · subst e
      rw [getD_snoc]
      exact mw_sa_at _ _ _ _
    · rw [getD_app _ _ _ (by omega), mw_san e]
      exact h6.2 i (by omega)
theorem xPb.add {σ u : mw_M} {T : List (Nat × Nat)} {j q k : Nat} {v : Int32} (h : xPb σ T j q) (hj : j < 6) (hk6 : k ≤ 160) (hu : (k < 160 → u = mw_si (mw_sa σ (45 + j) k v) (39 + j) 3 (nI (k + 1))) ∧ (k = 160 → u = σ)) : xPb u T j q ∧ xPf j σ u := by
  rcases Nat.lt_or_ge k 160 with y | y
  · have e := hu.1 y
    subst e
    obtain ⟨h1, ⟨a, ha, ea⟩, ⟨h3, h4⟩, -⟩ := h
    exact ⟨⟨h1.mv (mw_npF (by omega)) (mw_sap (by omega)) (mw_sap (by omega)), ⟨a, ha, (mw_np (by omega)).trans ea⟩, ⟨(mw_np (by omega)).trans h3, h4⟩, k + 1, by omega, mw_sf⟩, (xPf.rf j σ).ad k v _⟩
  · have e := hu.2 (by omega)
    subst e
    exact ⟨h, xPf.rf j u⟩
/-! what the grammar's functions do, by the token ahead -/
theorem gAt_a {y : Option ((List (Nat × Nat) → gR) × (List (Nat × Nat) → gR))} {ts : List (Nat × Nat)} (h : hdC ts ≤ 5 ∨ 100 ≤ hdC ts) : gAt y ts = .inl ([hdC ts], ts.tail) := by
  obtain ⟨p, t, e, -, e2⟩ := hdC_ne (ts := ts) (by omega)
  rw [e2]
  generalize hdC ts = c at h e ⊢
  rw [e]
  show (if _ then _ else _) = _
  rw [if_pos h]
theorem gAt_x {y : Option ((List (Nat × Nat) → gR) × (List (Nat × Nat) → gR))} {ts : List (Nat × Nat)} (h : ¬ (hdC ts ≤ 5 ∨ 100 ≤ hdC ts)) (h16 : hdC ts = 16 → y = none) (h12 : hdC ts = 12 → y = none) : gAt y ts = .inr (hdP ts) := by
  cases ts with
  | nil => rfl
  | cons k t =>
    obtain ⟨c, p⟩ := k
    have e1 : hdC ((c, p) :: t) = c := rfl
    rw [e1] at h h16 h12
    show (if _ then _ else if _ then _ else if _ then _ else _) = (Sum.inr p : gR)
    rw [if_neg h]
    by_cases h6 : c = 16
    · rw [if_pos h6, h16 h6]
    · rw [if_neg h6]
      by_cases h2 : c = 12
      · rw [if_pos h2, h12 h2]
      · rw [if_neg h2]
theorem gAt_m {f : (List (Nat × Nat) → gR) × (List (Nat × Nat) → gR)} {ts : List (Nat × Nat)} (h : hdC ts = 16) : gAt (some f) ts = (match f.1 ts.tail with | .inr q => .inr q | .inl (cs, ts2) => .inl (cs ++ [20], ts2)) := by
  obtain ⟨p, t, e, -, e2⟩ := hdC_ne (ts := ts) (by omega)
  rw [e2]
  rw [h] at e
  rw [e]
  rfl
theorem gAt_p {f : (List (Nat × Nat) → gR) × (List (Nat × Nat) → gR)} {ts : List (Nat × Nat)} (h : hdC ts = 12) : gAt (some f) ts = (match f.2 ts.tail with | .inr q => .inr q | .inl (_, []) => .inr 0 | .inl (cs, (c2, p2) :: ts2) => if c2 = 13 then .inl (cs, ts2) else .inr p2) := by
  obtain ⟨p, t, e, -, e2⟩ := hdC_ne (ts := ts) (by omega)
  rw [e2]
  rw [h] at e
  rw [e]
  rfl
theorem gCl_t {cs : List Nat} {ts : List (Nat × Nat)} (c : Nat) (hc : c ≠ 21) (h : hdC ts = c) : (match (Sum.inl (cs, ts) : gR) with | .inr q => Sum.inr q | .inl (_, []) => .inr 0 | .inl (cs, (c2, p2) :: ts2) => if c2 = c then .inl (cs, ts2) else .inr p2 : gR) = .inl (cs, ts.tail) := by
  obtain ⟨p, t, e, -, e2⟩ := hdC_ne (ts := ts) (by omega)
  rw [e2]
  rw [h] at e
  rw [e]
  show (if _ then _ else _) = _
  rw [if_pos rfl]
theorem gCl_f {cs : List Nat} {ts : List (Nat × Nat)} (c : Nat) (h : ¬ hdC ts = c) : (match (Sum.inl (cs, ts) : gR) with | .inr q => Sum.inr q | .inl (_, []) => .inr 0 | .inl (cs, (c2, p2) :: ts2) => if c2 = c then .inl (cs, ts2) else .inr p2 : gR) = .inr (hdP ts) := by
  cases ts with
  | nil => rfl
  | cons k t =>
    obtain ⟨c2, p⟩ := k
    have h : ¬ c2 = c := h
    show (if _ then _ else _) = _
    rw [if_neg h]
    rfl
theorem gNot_t {f x : List (Nat × Nat) → gR} {ts : List (Nat × Nat)} (h : hdC ts = 11) : gNot (some f) x ts = (match f ts.tail with | .inr q => .inr q | .inl (cs, ts2) => .inl (cs ++ [11], ts2)) ∧ gNot none x ts = .inr (hdP ts) := by
  obtain ⟨p, t, e, e3, e2⟩ := hdC_ne (ts := ts) (by omega)
  rw [e2, e3]
  rw [h] at e
  rw [e]
  exact ⟨rfl, rfl⟩
theorem gNot_f {y : Option (List (Nat × Nat) → gR)} {x : List (Nat × Nat) → gR} {ts : List (Nat × Nat)} (hx : x [] = .inr 0) (h : ¬ hdC ts = 11) : gNot y x ts = x ts := by
  cases ts with
  | nil => exact hx.symm
  | cons k t =>
    obtain ⟨c, p⟩ := k
    have h : ¬ c = 11 := h
    show (if _ then _ else _) = _
    rw [if_neg h]
theorem gLoop_stop {ops : Nat → Bool} {x : List (Nat × Nat) → gR} {f : Nat} {cs : List Nat} {ts : List (Nat × Nat)} (h : ¬ ops (hdC ts) = true) : gLoop ops x f cs ts = .inl (cs, ts) := by
  cases f with
  | zero => rfl
  | succ f =>
    cases ts with
    | nil => rfl
    | cons k t =>
      obtain ⟨c, p⟩ := k
      have h : ¬ ops c = true := h
      show (if _ then _ else _) = _
      rw [if_neg h]
theorem gLoop_go {ops : Nat → Bool} {x : List (Nat × Nat) → gR} {f : Nat} {cs : List Nat} {ts : List (Nat × Nat)} (hc : hdC ts ≠ 21) (h : ops (hdC ts) = true) (hf : ts.length ≤ f) : ∃ f2, f = f2 + 1 ∧ gLoop ops x f cs ts = (match x ts.tail with | .inr q => .inr q | .inl (cs2, ts2) => gLoop ops x f2 (cs ++ cs2 ++ [hdC ts]) ts2) := by
  cases ts with
  | nil => exact absurd rfl hc
  | cons k t =>
    obtain ⟨c, p⟩ := k
    obtain ⟨f2, rfl⟩ : ∃ f2, f = f2 + 1 := ⟨f - 1, by rw [List.length_cons] at hf; omega⟩
    have h : ops c = true := h
    refine ⟨f2, rfl, ?_⟩
    show (if _ then _ else _) = _
    rw [if_pos h]
    rfl
theorem gCmp_stop {x : List (Nat × Nat) → gR} {ts ts1 : List (Nat × Nat)} {cs : List Nat} (e : x ts = .inl (cs, ts1)) (h : ¬ (hdC ts1 = 18 ∨ hdC ts1 = 19)) : gCmp x ts = .inl (cs, ts1) := by
  unfold gCmp
  rw [e]
  cases ts1 with
  | nil => rfl
  | cons k t =>
    obtain ⟨c, p⟩ := k
    have h : ¬ (c = 18 ∨ c = 19) := h
    show (if _ then _ else _) = _
    rw [if_neg h]
theorem gCmp_go {x : List (Nat × Nat) → gR} {ts ts1 : List (Nat × Nat)} {cs : List Nat} (e : x ts = .inl (cs, ts1)) (h : hdC ts1 = 18 ∨ hdC ts1 = 19) : gCmp x ts = (match x ts1.tail with | .inr q => .inr q | .inl (cs2, ts2) => .inl (cs ++ cs2 ++ [hdC ts1], ts2)) := by
  unfold gCmp
  rw [e]
  cases ts1 with
  | nil => exact absurd h (by decide)
  | cons k t =>
    obtain ⟨c, p⟩ := k
    have h : c = 18 ∨ c = 19 := h
    show (if _ then _ else _) = _
    rw [if_pos h]
    rfl
theorem gLevel_b {ops : Nat → Bool} {x : List (Nat × Nat) → gR} {ts : List (Nat × Nat)} {q : Nat} (e : x ts = .inr q) : gLevel ops x ts = .inr q := by unfold gLevel; rw [e]
theorem gLevel_g {ops : Nat → Bool} {x : List (Nat × Nat) → gR} {ts ts1 : List (Nat × Nat)} {cs : List Nat} (e : x ts = .inl (cs, ts1)) : gLevel ops x ts = gLoop ops x ts1.length cs ts1 := by unfold gLevel; rw [e]
theorem gCmp_b {x : List (Nat × Nat) → gR} {ts : List (Nat × Nat)} {q : Nat} (e : x ts = .inr q) : gCmp x ts = .inr q := by unfold gCmp; rw [e]
theorem lv_0 {c : Nat} : lvF c = 0 ↔ gOr c = true := by
  unfold lvF gOr
  simp only [beq_iff_eq]
  repeat' split
  all_goals first | (subst_vars; decide) | (constructor <;> intro y <;> first | (exact absurd y (by decide)) | omega)
