/-! STEPS: how high a stack they want -/
def hgt (c h : Nat) : Nat := if c ≤ 5 ∨ 100 ≤ c then h + 1 else if c = 11 ∨ c = 20 then h else h - 1
def okS (c h m : Nat) : Prop := ((c ≤ 5 ∨ 100 ≤ c) ∧ h < m ∧ c < 20000) ∨ ((c = 11 ∨ c = 20) ∧ 1 ≤ h) ∨ ((c = 9 ∨ c = 10 ∨ (15 ≤ c ∧ c ≤ 19)) ∧ 2 ≤ h)
def okH : List Nat → Nat → Nat → Prop
  | [], _, _ => True
  | c :: cs, h, m => okS c h m ∧ okH cs (hgt c h) m
def hgts : List Nat → Nat → Nat
  | [], h => h
  | c :: cs, h => hgts cs (hgt c h)
theorem okH_app {b : List Nat} {m : Nat} : ∀ {a : List Nat} {h : Nat}, okH (a ++ b) h m ↔ okH a h m ∧ okH b (hgts a h) m
  | [], h => by simp [okH, hgts]
  | c :: a, h => by
    show okS c h m ∧ okH (a ++ b) (hgt c h) m ↔ (okS c h m ∧ okH a (hgt c h) m) ∧ okH b (hgts a (hgt c h)) m
    rw [okH_app]
    exact and_assoc.symm
theorem hgts_app {b : List Nat} : ∀ {a : List Nat} {h : Nat}, hgts (a ++ b) h = hgts b (hgts a h)
  | [], h => rfl
  | c :: a, h => hgts_app (a := a) (h := hgt c h)
/-- an expression's steps: one value more, at most D on the way -/
def wE (cs : List Nat) (D : Nat) : Prop := ∀ h m, h + D ≤ m → okH cs h m ∧ hgts cs h = h + 1
theorem wE.mono {cs : List Nat} {D F : Nat} (h : wE cs D) (hd : D ≤ F) : wE cs F := fun a m ha => h a m (by omega)
theorem wE_one {c : Nat} (h : c ≤ 5 ∨ 100 ≤ c) (hc : c < 20000) : wE [c] 1 := fun a m ha => by
  refine ⟨⟨Or.inl ⟨h, by omega, hc⟩, trivial⟩, ?_⟩
  show hgt c a = a + 1
  unfold hgt
  rw [if_pos h]
theorem wE_un {cs : List Nat} {D c : Nat} (h : wE cs D) (hc : c = 11 ∨ c = 20) : wE (cs ++ [c]) D := fun a m ha => by
  obtain ⟨h1, h2⟩ := h a m ha
  refine ⟨okH_app.mpr ⟨h1, ?_⟩, ?_⟩
  · rw [h2]; exact ⟨Or.inr (Or.inl ⟨hc, by omega⟩), trivial⟩
  · rw [hgts_app, h2]
    show hgt c (a + 1) = a + 1
    unfold hgt
    rw [if_neg (by omega), if_pos hc]
theorem wE_bi {a b : List Nat} {D F c : Nat} (h : wE a D) (h2 : wE b F) (hc : c = 9 ∨ c = 10 ∨ (15 ≤ c ∧ c ≤ 19)) (hd : F + 1 ≤ D) : wE (a ++ b ++ [c]) D := fun k m hk => by
  obtain ⟨p1, p2⟩ := h k m hk
  obtain ⟨q1, q2⟩ := h2 (k + 1) m (by omega)
  have e : hgts (a ++ b) k = k + 2 := by rw [hgts_app, p2, q2]
  refine ⟨okH_app.mpr ⟨okH_app.mpr ⟨p1, by rw [p2]; exact q1⟩, ?_⟩, ?_⟩
  · rw [e]; exact ⟨Or.inr (Or.inr ⟨hc, by omega⟩), trivial⟩
  · rw [hgts_app, e]
    show hgt c (k + 2) = k + 1
    unfold hgt
    rw [if_neg (by omega), if_neg (by omega)]
    omega
def tkOK (ts : List (Nat × Nat)) : Prop := ∀ k, k ∈ ts → k.1 < 20000
theorem tkOK.suf {a b : List (Nat × Nat)} (h : tkOK b) (hs : a <:+ b) : tkOK a := fun k hk => h k (hs.subset hk)
theorem tkOK.tl {k : Nat × Nat} {ts : List (Nat × Nat)} (h : tkOK (k :: ts)) : tkOK ts := fun q hq => h q (List.mem_cons_of_mem _ hq)
def gW (x : List (Nat × Nat) → gR) (D : Nat) : Prop := ∀ ts cs ts2, tkOK ts → x ts = .inl (cs, ts2) → ts2 <:+ ts ∧ cs.length + ts2.length ≤ ts.length ∧ 1 ≤ cs.length ∧ wE cs D
theorem gW.mono {x : List (Nat × Nat) → gR} {D F : Nat} (h : gW x D) (hd : D ≤ F) : gW x F := fun ts cs ts2 ho e => by
  obtain ⟨h1, h2, h3, h4⟩ := h ts cs ts2 ho e
  exact ⟨h1, h2, h3, h4.mono hd⟩
theorem suf_cons {a b : List (Nat × Nat)} (k : Nat × Nat) (h : a <:+ b) : a <:+ k :: b := h.trans (List.suffix_cons k b)
theorem gLoop_w {ops : Nat → Bool} {x : List (Nat × Nat) → gR} {D : Nat} (hx : gW x D) (ho : ∀ c, ops c = true → c = 9 ∨ c = 10 ∨ (15 ≤ c ∧ c ≤ 19)) : ∀ f cs ts cs2 ts2, tkOK ts → wE cs (D + 1) → 1 ≤ cs.length → gLoop ops x f cs ts = .inl (cs2, ts2) → ts2 <:+ ts ∧ cs2.length + ts2.length ≤ cs.length + ts.length ∧ 1 ≤ cs2.length ∧ wE cs2 (D + 1)
  | 0, cs, ts, cs2, ts2, ht, hw, hl, h => by
    unfold gLoop at h
    cases h
    exact ⟨List.suffix_refl _, Nat.le_refl _, hl, hw⟩
  | f + 1, cs, [], cs2, ts2, ht, hw, hl, h => by
    unfold gLoop at h
    cases h
    exact ⟨List.suffix_refl _, Nat.le_refl _, hl, hw⟩
  | f + 1, cs, (c, p) :: ts, cs2, ts2, ht, hw, hl, h => by
    unfold gLoop at h
    by_cases hc : ops c = true
    · rw [if_pos hc] at h
      cases hq : x ts with
      | inr q => rw [hq] at h; cases h
      | inl z =>
        obtain ⟨cs3, ts3⟩ := z
        rw [hq] at h
        obtain ⟨a1, a2, a3, a4⟩ := hx ts cs3 ts3 ht.tl hq
        obtain ⟨b1, b2, b3, b4⟩ := gLoop_w hx ho f _ _ _ _ (ht.tl.suf a1) (wE_bi hw a4 (ho c hc) (Nat.le_refl _)) (by rw [List.length_append]; show 1 ≤ _ + 1; omega) h
        refine ⟨suf_cons _ (b1.trans a1), ?_, b3, b4⟩
        rw [List.length_append, List.length_append] at b2
        rw [List.length_cons]
        have : [c].length = 1 := rfl
        omega
    · rw [if_neg hc] at h
      cases h
      exact ⟨List.suffix_refl _, Nat.le_refl _, hl, hw⟩
theorem gLevel_w {ops : Nat → Bool} {x : List (Nat × Nat) → gR} {D : Nat} (hx : gW x D) (ho : ∀ c, ops c = true → c = 9 ∨ c = 10 ∨ (15 ≤ c ∧ c ≤ 19)) : gW (gLevel ops x) (D + 1) := by
  intro ts cs ts2 ht h
  unfold gLevel at h
  cases hq : x ts with
  | inr q => rw [hq] at h; cases h
  | inl z =>
    obtain ⟨cs3, ts3⟩ := z
    rw [hq] at h
    obtain ⟨a1, a2, a3, a4⟩ := hx ts cs3 ts3 ht hq
    obtain ⟨b1, b2, b3, b4⟩ := gLoop_w hx ho _ _ _ _ _ (ht.suf a1) (a4.mono (Nat.le_succ D)) a3 h
    exact ⟨b1.trans a1, by omega, b3, b4⟩
theorem gCmp_w {x : List (Nat × Nat) → gR} {D : Nat} (hx : gW x D) : gW (gCmp x) (D + 1) := by
  intro ts cs ts2 ht h
  unfold gCmp at h
  cases hq : x ts with
  | inr q => rw [hq] at h; cases h
  | inl z =>
    obtain ⟨cs3, ts3⟩ := z
    obtain ⟨a1, a2, a3, a4⟩ := hx ts cs3 ts3 ht hq
    rw [hq] at h
    cases ts3 with
    | nil => cases h; exact ⟨a1, a2, a3, a4.mono (Nat.le_succ D)⟩
    | cons k ts4 =>
      obtain ⟨c, p⟩ := k
      dsimp only at h
      by_cases ho : c = 18 ∨ c = 19
      · rw [if_pos ho] at h
        cases hq2 : x ts4 with
        | inr q => rw [hq2] at h; cases h
        | inl z =>
          obtain ⟨cs5, ts5⟩ := z
          rw [hq2] at h
          cases h
          obtain ⟨b1, b2, b3, b4⟩ := hx ts4 cs5 ts2 (ht.suf a1).tl hq2
          refine ⟨(suf_cons _ b1).trans a1, ?_, ?_, wE_bi (a4.mono (Nat.le_succ D)) b4 (by omega) (Nat.le_refl _)⟩
          · rw [List.length_append, List.length_append]
            rw [List.length_cons] at a2
            have : [c].length = 1 := rfl
            omega
          · rw [List.length_append]; show 1 ≤ _ + 1; omega
      · rw [if_neg ho] at h
        cases h
        exact ⟨a1, a2, a3, a4.mono (Nat.le_succ D)⟩
theorem gNot_w {y : Option (List (Nat × Nat) → gR)} {x : List (Nat × Nat) → gR} {D : Nat} (hy : ∀ f, y = some f → gW f D) (hx : gW x D) : gW (gNot y x) D := by
  intro ts cs ts2 ht h
  cases ts with
  | nil => cases h
  | cons k ts1 =>
    obtain ⟨c, p⟩ := k
    unfold gNot at h
    dsimp only at h
    by_cases ho : c = 11
    · rw [if_pos ho] at h
      cases y with
      | none => cases h
      | some f =>
        dsimp only at h
        cases hq : f ts1 with
        | inr q => rw [hq] at h; cases h
        | inl z =>
          obtain ⟨cs3, ts3⟩ := z
          rw [hq] at h
          cases h
          obtain ⟨a1, a2, a3, a4⟩ := hy f rfl ts1 cs3 ts2 ht.tl hq
          refine ⟨suf_cons _ a1, ?_, ?_, wE_un a4 (Or.inl rfl)⟩
          · rw [List.length_append, show ((c, p) :: ts1).length = ts1.length + 1 from rfl]
            have : [11].length = 1 := rfl
            omega
          · rw [List.length_append]; show 1 ≤ _ + 1; omega
    · rw [if_neg ho] at h
      exact hx _ _ _ ht h
theorem gAt_w {y : Option ((List (Nat × Nat) → gR) × (List (Nat × Nat) → gR))} {D : Nat} (hD : 1 ≤ D) (hy : ∀ f, y = some f → gW f.1 D ∧ gW f.2 D) : gW (gAt y) D := by
  intro ts cs ts2 ht h
  cases ts with
  | nil => cases h
  | cons k ts1 =>
    obtain ⟨c, p⟩ := k
    have hc := ht (c, p) (List.mem_cons_self ..)
    unfold gAt at h
    dsimp only at h
    rw [List.length_cons]
    by_cases h1 : c ≤ 5 ∨ 100 ≤ c
    · rw [if_pos h1] at h
      cases h
      exact ⟨List.suffix_cons _ _, by show 1 + _ ≤ _; omega, Nat.le_refl _, (wE_one h1 hc).mono hD⟩
    · rw [if_neg h1] at h
      by_cases h2 : c = 16
      · rw [if_pos h2] at h
        cases y with
        | none => cases h
        | some f =>
          dsimp only at h
          cases hq : f.1 ts1 with
          | inr q => rw [hq] at h; cases h
          | inl z =>
            obtain ⟨cs3, ts3⟩ := z
            rw [hq] at h
            cases h
            obtain ⟨a1, a2, a3, a4⟩ := (hy f rfl).1 ts1 cs3 ts2 ht.tl hq
            refine ⟨suf_cons _ a1, ?_, ?_, wE_un a4 (Or.inr rfl)⟩
            · rw [List.length_append]
              have : [20].length = 1 := rfl
              omega
            · rw [List.length_append]; show 1 ≤ _ + 1; omega
      · rw [if_neg h2] at h
        by_cases h3 : c = 12
        · rw [if_pos h3] at h
          cases y with
          | none => cases h
          | some f =>
            dsimp only at h
            cases hq : f.2 ts1 with
            | inr q => rw [hq] at h; cases h
            | inl z =>
              obtain ⟨cs3, ts3⟩ := z
              rw [hq] at h
              obtain ⟨a1, a2, a3, a4⟩ := (hy f rfl).2 ts1 cs3 ts3 ht.tl hq
              cases ts3 with
              | nil => cases h
              | cons k2 ts4 =>
                obtain ⟨c2, p2⟩ := k2
                dsimp only at h
                by_cases h4 : c2 = 13
                · rw [if_pos h4] at h
                  cases h
                  rw [List.length_cons] at a2
                  exact ⟨suf_cons _ ((List.suffix_cons _ _).trans a1), by omega, a3, a4⟩
                · rw [if_neg h4] at h
                  cases h
        · rw [if_neg h3] at h
          cases h
theorem ops_tim : ∀ c, gTim c = true → c = 9 ∨ c = 10 ∨ (15 ≤ c ∧ c ≤ 19) := by intro c h; simp [gTim] at h; omega
theorem ops_add : ∀ c, gAdd c = true → c = 9 ∨ c = 10 ∨ (15 ≤ c ∧ c ≤ 19) := by intro c h; simp [gAdd] at h; omega
theorem ops_and : ∀ c, gAnd c = true → c = 9 ∨ c = 10 ∨ (15 ≤ c ∧ c ≤ 19) := by intro c h; simp [gAnd] at h; omega
theorem ops_or : ∀ c, gOr c = true → c = 9 ∨ c = 10 ∨ (15 ≤ c ∧ c ≤ 19) := by intro c h; simp [gOr] at h; omega
theorem gD_w : ∀ d, gW (gD d).1 (1 + 5 * d) ∧ gW (gD d).2.1 (4 + 5 * d) ∧ gW (gD d).2.2 (6 + 5 * d)
  | 0 => by
    have ha : gW (gAt none) 1 := gAt_w (Nat.le_refl 1) (fun f h => by cases h)
    have hn : gW (gNot none (gCmp (gS (gAt none)))) 4 := gNot_w (fun f h => by cases h) (gCmp_w (gLevel_w (gLevel_w ha ops_tim) ops_add))
    exact ⟨ha, hn, gLevel_w (gLevel_w hn ops_and) ops_or⟩
  | d + 1 => by
    obtain ⟨h1, h2, h3⟩ := gD_w d
    have ha : gW (gAt (some ((gD d).1, (gD d).2.2))) (1 + 5 * (d + 1)) := gAt_w (by omega) (fun f h => by cases h; exact ⟨h1.mono (by omega), h3.mono (by omega)⟩)
    have hn : gW (gNot (some (gD d).2.1) (gCmp (gS (gAt (some ((gD d).1, (gD d).2.2)))))) (4 + 5 * (d + 1)) := gNot_w (fun f h => by cases h; exact h2.mono (by omega)) (by have := gCmp_w (gLevel_w (gLevel_w ha ops_tim) ops_add); exact this.mono (by omega))
    exact ⟨ha, hn, by have := gLevel_w (gLevel_w hn ops_and) ops_or; exact this.mono (by omega)⟩
theorem gPart_w {key : Nat} {ts : List (Nat × Nat)} {cs : List Nat} {ts2 : List (Nat × Nat)} (ht : tkOK ts) (h : gPart key ts = .inl (cs, ts2)) : ts2 <:+ ts ∧ cs.length + ts2.length + 2 ≤ ts.length ∧ wE cs 31 := by
  cases ts with
  | nil => cases h
  | cons k ts1 =>
    obtain ⟨c, p⟩ := k
    unfold gPart at h
    dsimp only at h
    by_cases hk : c = key
    · rw [if_pos hk] at h
      cases hq : (gD 5).2.2 ts1 with
      | inr q => rw [hq] at h; cases h
      | inl z =>
        obtain ⟨cs3, ts3⟩ := z
        rw [hq] at h
        obtain ⟨a1, a2, a3, a4⟩ := (gD_w 5).2.2 ts1 cs3 ts3 ht.tl hq
        cases ts3 with
        | nil => cases h
        | cons k2 ts4 =>
          obtain ⟨c2, p2⟩ := k2
          dsimp only at h
          by_cases h4 : c2 = 14
          · rw [if_pos h4] at h
            cases h
            rw [List.length_cons] at a2
            rw [List.length_cons]
            exact ⟨suf_cons _ ((List.suffix_cons _ _).trans a1), by omega, a4⟩
          · rw [if_neg h4] at h
            cases h
    · rw [if_neg hk] at h
      cases h
/-! THE STACK -/
def stk (f : Nat → Int32) (ms : List Int32) : Prop := ∀ i, i < ms.length → f i = ms.getD (ms.length - 1 - i) 0
theorem stk_nil (f : Nat → Int32) : stk f [] := fun i h => absurd h (Nat.not_lt_zero i)
theorem getD_cons_pos {v : Int32} {ms : List Int32} {k : Nat} (h : 0 < k) : (v :: ms).getD k 0 = ms.getD (k - 1) 0 := by
  obtain ⟨j, rfl⟩ : ∃ j, k = j + 1 := ⟨k - 1, by omega⟩
  rfl
theorem stk_push {f : Nat → Int32} {ms : List Int32} (v : Int32) (h : stk f ms) : stk (upd f ms.length v) (v :: ms) := by
  intro i hi
  rw [List.length_cons] at hi
  rw [List.length_cons]
  by_cases e : i = ms.length
  · subst e
    rw [pk_us, show ms.length + 1 - 1 - ms.length = 0 by omega]
    rfl
  · rw [pk_un e, getD_cons_pos (by omega), h i (by omega), show ms.length + 1 - 1 - i - 1 = ms.length - 1 - i by omega]
theorem stk_top {f : Nat → Int32} {ms : List Int32} {v : Int32} (h : stk f (v :: ms)) : f ms.length = v := by
  have := h ms.length (by rw [List.length_cons]; omega)
  rw [this, List.length_cons, show ms.length + 1 - 1 - ms.length = 0 by omega]
  rfl
theorem stk_tl {f : Nat → Int32} {ms : List Int32} {v : Int32} (h : stk f (v :: ms)) : stk f ms := by
  intro i hi
  have := h i (by rw [List.length_cons]; omega)
  rw [this, List.length_cons, getD_cons_pos (by omega), show ms.length + 1 - 1 - i - 1 = ms.length - 1 - i by omega]
/-! WHAT A TEXT HOLDS -/
def xSeg (σ : mw_M) (t b : Nat) (cs : List Nat) : Prop := (∀ i, i < cs.length → σ.2.1 (45 + t) (b + i) = nI (cs.getD i 0)) ∧ wE cs 31
def xTx (σ : mw_M) (t : Nat) (z : zP) : Prop := t < 6 ∧ σ.2.1 (51 + t) 0 = nI z.1.length ∧ σ.2.1 (51 + t) 1 = nI (z.1.length + z.2.1.length) ∧ σ.2.1 (51 + t) 2 = nI (z.1.length + z.2.1.length + z.2.2.length) ∧ z.1.length + z.2.1.length + z.2.2.length ≤ 160 ∧ xSeg σ t 0 z.1 ∧ xSeg σ t z.1.length z.2.1 ∧ xSeg σ t (z.1.length + z.2.1.length) z.2.2
/-- what telling leaves as it was: all but the texts' stacks -/
def xFs (σ u : mw_M) : Prop := u.1 = σ.1 ∧ u.2.2 = σ.2.2 ∧ ∀ k, k < 57 ∨ 63 ≤ k → u.2.1 k = σ.2.1 k
theorem xFs.rf (σ : mw_M) : xFs σ σ := ⟨rfl, rfl, fun _ _ => rfl⟩
theorem xFs.tr {a b c : mw_M} (h1 : xFs a b) (h2 : xFs b c) : xFs a c := ⟨h2.1.trans h1.1, h2.2.1.trans h1.2.1, fun k hk => (h2.2.2 k hk).trans (h1.2.2 k hk)⟩
theorem xFs.sa {σ u : mw_M} (h : xFs σ u) {t : Nat} (ht : t < 6) (i : Nat) (v : Int32) : xFs σ (mw_sa u (57 + t) i v) := ⟨h.1, h.2.1, fun k hk => by rw [mw_sap (by omega)]; exact h.2.2 k hk⟩
theorem xFs.tx {σ u : mw_M} {t : Nat} {z : zP} (h : xFs σ u) (hx : xTx σ t z) : xTx u t z := by
  have ht := hx.1
  unfold xTx xSeg at *
  rw [h.2.2 (51 + t) (by omega), h.2.2 (45 + t) (by omega)]
  exact hx
def xRu (σ : mw_M) (s : Nat) (z : zP) : Prop := ∃ t tc : Nat, σ.1 s 5 = nI t ∧ σ.1 37 1 = nI tc ∧ t < tc ∧ tc ≤ 6 ∧ xTx σ t z
theorem xFs.ru {σ u : mw_M} {s : Nat} {z : zP} (h : xFs σ u) (hr : xRu σ s z) : xRu u s z := by
  obtain ⟨t, tc, h1, h2, h3, h4, h5⟩ := hr
  exact ⟨t, tc, by rw [h.1]; exact h1, by rw [h.1]; exact h2, h3, h4, h.tx h5⟩
def xTl (σ : mw_M) (t : Nat) (ms : List Int32) (u : mw_M) : Prop := xFs σ u ∧ stk (u.2.1 (57 + t)) ms
theorem sa_self (u : mw_M) (k i : Nat) (v : Int32) : (mw_sa u k i v).2.1 k = upd (u.2.1 k) i v := va_up_self _ _ _
theorem ruF_cons (env : Nat → Int32) (c : Nat) (cs : List Nat) (ms : List Int32) : ruF env (c :: cs) ms = ruF env cs (stF env c ms) := rfl

set_option maxHeartbeats 4000000 in
set_option maxRecDepth 100000 in
theorem cX_tell0 (l : Launch) (E : mw_E) (σ : mw_M) (t : Nat) (z : zP) (hx : xTx σ t z) (s : Nat) (hs : s < 3) (cp : Nat) (hcp : 6 ≤ cp ∧ cp < 30) : mw_Ci shX 75 gX l yX8_tell cX8_tell 7 (some .int) (rmF 3 106) E [.ref (mw_a E (39 + t)), .int 0, .ref (mw_a E (s)), .ref (mw_a E (cp))] σ (fun r u => r = tellP z 0 (σ.1 s) (σ.1 cp) ∧ xFs σ u) := by
  refine mw_of (by decide) gX_ok (Nat.le_of_ble_eq_true rfl) ?_
  intro p_ e_ s_ m_ below meth c_ C hr hlk Z hP ls hl
  have C : CallFix p_ m_ c_ cX8_tell 7 s_ _ lw_good RX8 := C
  have hl : lv_has ls 7 [(0, .ref (mw_a E (39 + t))), (1, .int 0), (2, .ref (mw_a E (s))), (3, .ref (mw_a E (cp)))] := hl
  have hS : va_S (mw_A 75 E) s_.heap s_.heap [] := va_S.rf
  obtain ⟨ht, he0, he1, he2, hle, hs0, hs1, hs2⟩ := hx
  have hsg := hs0
  have hend : σ.2.1 (51 + t) 0 = nI (0 + z.1.length) := by rw [Nat.zero_add]; exact he0
  refine lv_iload_n C.1 C.2.1 dX8_tell_0 rfl (lv_at hl 1 rfl) ?_
  refine lv_if_lt (tgt := 9) C.1 C.2.1 dX8_tell_1 (by decide) (fun c1 => ?_) (fun c1 => ?_)
  · exact absurd c1 (by decide)
  · refine lv_iload_n C.1 C.2.1 dX8_tell_4 rfl (lv_at hl 1 rfl) ?_
    refine lv_iconst (v := 3) C.1 C.2.1 dX8_tell_5 (by decide) ?_
    refine lv_icmp_lt (tgt := 11) C.1 C.2.1 dX8_tell_6 (by decide) (fun c2 => ?_) (fun c2 => ?_)
    · refine lv_iconst (v := 0) C.1 C.2.1 dX8_tell_11 (by decide) ?_
      refine lv_istore (lv' := [(4, .int 0), (0, .ref (mw_a E (39 + t))), (1, .int 0), (2, .ref (mw_a E (s))), (3, .ref (mw_a E (cp)))]) C.1 C.2.1 dX8_tell_12 hl (by decide) rfl (fun ls hl => ?_)
      refine lv_iload_n C.1 C.2.1 dX8_tell_14 rfl (lv_at hl 2 rfl) ?_
      refine lv_if_ne (tgt := 22) C.1 C.2.1 dX8_tell_15 (by decide) (fun c3 => ?_) (fun c3 => ?_)
      · exact absurd c3 (by decide)
      · refine lv_iconst (v := 0) C.1 C.2.1 dX8_tell_18 (by decide) ?_
        refine lv_goto (tgt := 30) C.1 C.2.1 dX8_tell_19 (by decide) ?_
        refine lv_istore (lv' := [(5, .int 0), (4, .int 0), (0, .ref (mw_a E (39 + t))), (1, .int 0), (2, .ref (mw_a E (s))), (3, .ref (mw_a E (cp)))]) C.1 C.2.1 dX8_tell_30 hl (by decide) rfl (fun ls hl => ?_)
        have lpa : ∀ (N : Nat) (q : Nat) (rs : List Nat) (ms : List Int32) (ςa : mw_M) (H : Heap) (locs : List Loc), z.1.length + 1 ≤ q + N → (∀ i, i < rs.length → σ.2.1 (45 + t) (0 + q + i) = nI (rs.getD i 0)) → (q + rs.length = z.1.length) → (ruF (evP (σ.1 s) (σ.1 cp)) rs ms = ruF (evP (σ.1 s) (σ.1 cp)) z.1 []) → (okH rs ms.length 40) → (hgts rs ms.length = 1) → (ms.length ≤ 40) → xTl σ t ms ςa → va_P (mw_D E) vwCl (mw_ws shX 75 E ςa) H → va_S (mw_A 75 E) s_.heap H locs → ∀ (ls : Array Slot), lv_has ls 7 [(0, .ref (mw_a E (39 + t))), (1, .int 0), (2, .ref (mw_a E (s))), (3, .ref (mw_a E (cp))), (4, .int (nI ms.length)), (5, .int (nI (0 + q)))] → xWi p_ l e_ (rmF 3 106) s_ m_ [.ref (mw_a E (39 + t)), .int 0, .ref (mw_a E (s)), .ref (mw_a E (cp))] below meth c_ E (fun r u => r = tellP z 0 (σ.1 s) (σ.1 cp) ∧ xFs σ u) H locs (F0 m_ 32 ls []) := by
          intro N
          induction N with
          | zero => intros; exfalso; omega
          | succ N iha =>
            intro q rs ms ςa H locs hNa hseg hq hrun hok hfin h40 fra hP hS ls hl
            refine lv_iload C.1 C.2.1 dX8_tell_32 (lv_at hl 5 rfl) ?_
            refine lv_aload_n C.1 C.2.1 dX8_tell_34 rfl (lv_at hl 0 rfl) ?_
            refine mw_getr C Z hP (39 + t) 1 (51 + t) (by omega) (sx_tx (by omega)) rfl rfl (by decide) inX8 tw_1_177 dX8_tell_35 ?_
            refine lv_iload_n C.1 C.2.1 dX8_tell_38 rfl (lv_at hl 1 rfl) ?_
            refine mw_iald C Z hP (51 + t) (0) (by omega) (sx_te (by omega)) (Nat.lt_of_lt_of_le (by decide : 3 < 961) (Nat.le_of_ble_eq_true rfl)) rfl (by decide) dX8_tell_39 ?_
            refine mw_top (y := nI (0 + z.1.length)) ((congrFun (fra.1.2.2 _ (by omega)) _).trans hend) ?_
            refine lv_icmp_ge (tgt := 205) C.1 C.2.1 dX8_tell_40 (by decide) (fun c4 => ?_) (fun c4 => ?_)
            · have c4 := (nI_leI (by omega) (by omega)).mp c4
              refine lv_aload_n C.1 C.2.1 dX8_tell_205 rfl (lv_at hl 0 rfl) ?_
              refine mw_getr C Z hP (39 + t) 2 (57 + t) (by omega) (sx_tx (by omega)) rfl rfl (by decide) inX8 tw_1_178 dX8_tell_206 ?_
              refine lv_iconst (v := 0) C.1 C.2.1 dX8_tell_209 (by decide) ?_
              refine mw_iald C Z hP (57 + t) (0) (by omega) (sx_tk (by omega)) (Nat.lt_of_lt_of_le (by decide : 40 < 961) (Nat.le_of_ble_eq_true rfl)) rfl (by decide) dX8_tell_210 ?_
              refine lv_bipush (v := 99) C.1 C.2.1 dX8_tell_211 (by decide) ?_
              refine mw_cSiN (As := [.int (ςa.2.1 (57 + t) 0), .int 99]) (rest := []) C Z hP hS (cX_bounded l E ςa (ςa.2.1 (57 + t) 0) 99 (by decide)) sb_X11_bounded Z.2.2.1.2.2.2.2.2.1 ⟨rfl, rfl⟩ ⟨Nat.le_of_ble_eq_true rfl, Nat.le_of_ble_eq_true rfl⟩ rfl hl.1 rfl (Nat.le_of_ble_eq_true rfl) dX8_tell_213 ⟨Nat.zero_le _, Nat.zero_le _⟩ (fun r5 u6 H locs q7 hP hS => ?_)
              obtain ⟨rfl, q7u⟩ := q7
              rw [q7u] at hP; clear q7u
              have er : rs = [] := by cases rs with | nil => rfl | cons a b => rw [List.length_cons] at hq; omega
              subst er
              have hm1 : ms.length = 1 := hfin
              have ev : ςa.2.1 (57 + t) 0 = vaF (evP (σ.1 s) (σ.1 cp)) z.1 := by rw [fra.2 0 (by omega), hm1]; unfold vaF; rw [← hrun]; show ms.getD 0 0 = ms.headD 0; cases ms <;> rfl
              exact mw_iret C hr hlk Z hP hS dX8_tell_216 (⟨by unfold tellP ptF; rw [ev]; rfl, fra.1⟩)
            · have c4 : _ := (not_congr (nI_leI (by omega) (by omega))).mp c4
              obtain ⟨c, rs9, ers⟩ : ∃ c r, rs = c :: r := (by cases rs with | nil => exact absurd hq (by show ¬ q + 0 = _; omega) | cons a b => exact ⟨a, b, rfl⟩)
              subst ers
              have hc : okS c ms.length 40 := hok.1
              have hcb : c < 20000 := (by unfold okS at hc; omega)
              refine lv_iload C.1 C.2.1 dX8_tell_43 (lv_at hl 5 rfl) ?_
              refine lv_sipush (v := 160) C.1 C.2.1 dX8_tell_45 (by decide) ?_
              refine lv_icmp_ge (tgt := 205) C.1 C.2.1 dX8_tell_48 (by decide) (fun c8 => ?_) (fun c8 => ?_)
              · exact absurd ((nI_leI (a := 160) (by decide) (by omega)).mp c8) (by omega)
              · refine lv_aload_n C.1 C.2.1 dX8_tell_51 rfl (lv_at hl 0 rfl) ?_
                refine mw_getr C Z hP (39 + t) 0 (45 + t) (by omega) (sx_tx (by omega)) rfl rfl (by decide) inX8 tw_1_176 dX8_tell_52 ?_
                refine lv_iload C.1 C.2.1 dX8_tell_55 (lv_at hl 5 rfl) ?_
                refine mw_iald C Z hP (45 + t) (0 + q) (by omega) (sx_ts (by omega)) (Nat.lt_of_lt_of_le (by decide : 160 < 961) (Nat.le_of_ble_eq_true rfl)) rfl (by omega) dX8_tell_57 ?_
                refine mw_top (y := nI c) ((congrFun (fra.1.2.2 _ (by omega)) _).trans (hseg 0 (by rw [List.length_cons]; omega))) ?_
                refine lv_istore (lv' := [(6, .int (nI c)), (0, .ref (mw_a E (39 + t))), (1, .int 0), (2, .ref (mw_a E (s))), (3, .ref (mw_a E (cp))), (4, .int (nI ms.length)), (5, .int (nI (0 + q)))]) C.1 C.2.1 dX8_tell_58 hl (by decide) rfl (fun ls hl => ?_)
                refine lv_iload C.1 C.2.1 dX8_tell_60 (lv_at hl 0 rfl) ?_
                refine lv_iconst (v := 5) C.1 C.2.1 dX8_tell_62 (by decide) ?_
                refine lv_icmp_le (tgt := 73) C.1 C.2.1 dX8_tell_63 (by decide) (fun c9 => ?_) (fun c9 => ?_)
                · have hc5 : c ≤ 5 := (nI_leI (b := 5) (by omega) (by decide)).mp c9
                  refine lv_iload C.1 C.2.1 dX8_tell_73 (lv_at hl 5 rfl) ?_
                  refine lv_bipush (v := 40) C.1 C.2.1 dX8_tell_75 (by decide) ?_
                  refine lv_icmp_ge (tgt := 199) C.1 C.2.1 dX8_tell_77 (by decide) (fun c10 => ?_) (fun c10 => ?_)
                  · exact absurd ((nI_leI (a := 40) (by decide) (by unfold okS at hc; omega)).mp c10) (by unfold okS at hc; omega)
                  · have hlt40 : ms.length < 40 := by unfold okS at hc; omega
                    refine lv_aload_n C.1 C.2.1 dX8_tell_80 rfl (lv_at hl 1 rfl) ?_
                    refine mw_getr C Z hP (39 + t) 2 (57 + t) (by omega) (sx_tx (by omega)) rfl rfl (by decide) inX8 tw_1_178 dX8_tell_81 ?_
                    refine lv_iload C.1 C.2.1 dX8_tell_84 (lv_at hl 5 rfl) ?_
                    refine lv_iload C.1 C.2.1 dX8_tell_86 (lv_at hl 0 rfl) ?_
                    refine lv_bipush (v := 100) C.1 C.2.1 dX8_tell_88 (by decide) ?_
                    refine lv_icmp_lt (tgt := 101) C.1 C.2.1 dX8_tell_90 (by decide) (fun c11 => ?_) (fun c11 => ?_)
                    · have hc5 : c ≤ 5 := by have := (nI_ltI (b := 100) (by omega) (by decide)).mp c11; omega
                      refine lv_iload C.1 C.2.1 dX8_tell_101 (lv_at hl 0 rfl) ?_
                      refine lv_aload_n C.1 C.2.1 dX8_tell_103 rfl (lv_at hl 3 rfl) ?_
                      refine lv_aload_n C.1 C.2.1 dX8_tell_104 rfl (lv_at hl 4 rfl) ?_
                      refine mw_cSi (As := [.int (nI c), .ref (mw_a E (s)), .ref (mw_a E (cp))]) (rest := [.int (nI ms.length), .ref (mw_a E (57 + t))]) C Z hP hS (cX_named l E ςa c hc5 s hs cp hcp) sb_X8_named tw_3_97 ⟨rfl, rfl⟩ ⟨Nat.le_of_ble_eq_true rfl, Nat.le_of_ble_eq_true rfl⟩ rfl hl.1 rfl (Nat.le_of_ble_eq_true rfl) dX8_tell_105 ⟨Nat.zero_le _, Nat.zero_le _⟩ (fun r12 u13 H locs q14 hP hS => ?_)
                      rw [fra.1.1] at q14
                      obtain ⟨rfl, q14u⟩ := q14
                      rw [q14u] at hP; clear q14u
                      refine mw_iast C Z hP hS (57 + t) (ms.length) (by omega) (sx_tk (by omega)) (Nat.lt_of_lt_of_le (by decide : 40 < 961) (Nat.le_of_ble_eq_true rfl)) rfl (by omega) dX8_tell_108 (fun H locs hP hS => ?_)
                      refine lv_iinc (v := nI (ms.length + 1)) (lv' := [(4, .int (nI (ms.length + 1))), (6, .int (nI c)), (0, .ref (mw_a E (39 + t))), (1, .int 0), (2, .ref (mw_a E (s))), (3, .ref (mw_a E (cp))), (5, .int (nI (0 + q)))]) C.1 C.2.1 dX8_tell_109 hl (k := 5) rfl (nI_1 _) (by decide) rfl (fun ls hl => ?_)
                      refine lv_goto (tgt := 199) C.1 C.2.1 dX8_tell_112 (by decide) ?_
                      refine lv_iinc (v := nI (0 + q + 1)) (lv' := [(5, .int (nI (0 + q + 1))), (4, .int (nI (ms.length + 1))), (6, .int (nI c)), (0, .ref (mw_a E (39 + t))), (1, .int 0), (2, .ref (mw_a E (s))), (3, .ref (mw_a E (cp)))]) C.1 C.2.1 dX8_tell_199 hl (k := 6) rfl (nI_1 _) (by decide) rfl (fun ls hl => ?_)
                      refine lv_goto (tgt := 32) C.1 C.2.1 dX8_tell_202 (by decide) ?_
                      exact iha (q + 1) rs9 ((evP (σ.1 s) (σ.1 cp) c) :: ms) (mw_sa ςa (57 + t) (ms.length) (evP (σ.1 s) (σ.1 cp) c)) _ _ (by omega) (fun i hi => by have y := hseg (i + 1) (by rw [List.length_cons]; omega); rw [show 0 + q + (i + 1) = 0 + (q + 1) + i by omega] at y; exact y) (by rw [List.length_cons] at hq; omega) (by rw [← hrun, ruF_cons, show stF (evP (σ.1 s) (σ.1 cp)) c ms = (evP (σ.1 s) (σ.1 cp) c) :: ms by unfold stF; rw [if_pos hc5]]) (by have y := hok.2; unfold hgt at y; rw [if_pos (by omega)] at y; exact y) (by have y := hfin; unfold hgts hgt at y; rw [if_pos (by omega)] at y; exact y) (by rw [List.length_cons]; omega) ⟨fra.1.sa ht _ _, by rw [sa_self]; exact stk_push _ fra.2⟩ hP hS ls (lv_sub hl [3, 4, 5, 6, 1, 0] rfl)
                    · exfalso; have := (not_congr (nI_ltI (b := 100) (by omega) (by decide))).mp c11; omega
                · have hc5 : ¬ c ≤ 5 := (not_congr (nI_leI (b := 5) (by omega) (by decide))).mp c9
                  refine lv_iload C.1 C.2.1 dX8_tell_66 (lv_at hl 0 rfl) ?_
                  refine lv_bipush (v := 100) C.1 C.2.1 dX8_tell_68 (by decide) ?_
                  refine lv_icmp_lt (tgt := 115) C.1 C.2.1 dX8_tell_70 (by decide) (fun c15 => ?_) (fun c15 => ?_)
                  · have hc100 : ¬ 100 ≤ c := by have := (nI_ltI (b := 100) (by omega) (by decide)).mp c15; omega
                    refine lv_iload C.1 C.2.1 dX8_tell_115 (lv_at hl 0 rfl) ?_
                    refine lv_bipush (v := 11) C.1 C.2.1 dX8_tell_117 (by decide) ?_
                    refine lv_icmp_eq (tgt := 129) C.1 C.2.1 dX8_tell_119 (by decide) (fun c16 => ?_) (fun c16 => ?_)
                    · have hun : c = 11 ∨ c = 20 := Or.inl ((nI_eq (b := 11) (by omega) (by decide)).mp c16)
                      refine lv_iload C.1 C.2.1 dX8_tell_129 (lv_at hl 5 rfl) ?_
                      refine lv_if_le (tgt := 199) C.1 C.2.1 dX8_tell_131 (by decide) (fun c17 => ?_) (fun c17 => ?_)
                      · exact absurd ((nI_leI (b := 0) (by unfold okS at hc; omega) (by decide)).mp c17) (by unfold okS at hc; omega)
                      · obtain ⟨v, ms2, ems⟩ : ∃ v r, ms = v :: r := (by cases ms with | nil => exact absurd c17 (by decide) | cons a b => exact ⟨a, b, rfl⟩)
                        subst ems
                        have h40 : ms2.length + 1 ≤ 40 := h40
                        have hl : lv_has ls 7 [(6, .int (nI c)), (0, .ref (mw_a E (39 + t))), (1, .int 0), (2, .ref (mw_a E (s))), (3, .ref (mw_a E (cp))), (4, .int (nI (ms2.length + 1))), (5, .int (nI (0 + q)))] := hl
                        refine lv_aload_n C.1 C.2.1 dX8_tell_134 rfl (lv_at hl 1 rfl) ?_
                        refine mw_getr C Z hP (39 + t) 2 (57 + t) (by omega) (sx_tx (by omega)) rfl rfl (by decide) inX8 tw_1_178 dX8_tell_135 ?_
                        refine lv_iload C.1 C.2.1 dX8_tell_138 (lv_at hl 5 rfl) ?_
                        refine lv_iconst (v := 1) C.1 C.2.1 dX8_tell_140 (by decide) ?_
                        refine lv_isub C.1 C.2.1 dX8_tell_141 ?_
                        refine mw_top (y := nI (ms2.length)) (pk_sub (b := 1) (by omega)) ?_
                        refine lv_iload C.1 C.2.1 dX8_tell_142 (lv_at hl 0 rfl) ?_
                        refine lv_aload_n C.1 C.2.1 dX8_tell_144 rfl (lv_at hl 1 rfl) ?_
                        refine mw_getr C Z hP (39 + t) 2 (57 + t) (by omega) (sx_tx (by omega)) rfl rfl (by decide) inX8 tw_1_178 dX8_tell_145 ?_
                        refine lv_iload C.1 C.2.1 dX8_tell_148 (lv_at hl 5 rfl) ?_
                        refine lv_iconst (v := 1) C.1 C.2.1 dX8_tell_150 (by decide) ?_
                        refine lv_isub C.1 C.2.1 dX8_tell_151 ?_
                        refine mw_top (y := nI (ms2.length)) (pk_sub (b := 1) (by omega)) ?_
                        refine mw_iald C Z hP (57 + t) (ms2.length) (by omega) (sx_tk (by omega)) (Nat.lt_of_lt_of_le (by decide : 40 < 961) (Nat.le_of_ble_eq_true rfl)) rfl (by omega) dX8_tell_152 ?_
                        refine mw_top (y := v) (stk_top fra.2) ?_
                        refine mw_cSi (As := [.int (nI c), .int v]) (rest := [.int (nI (ms2.length)), .ref (mw_a E (57 + t))]) C Z hP hS (cX_turned l E ςa c (by omega) v) sb_X8_turned tw_3_100 ⟨rfl, rfl⟩ ⟨Nat.le_of_ble_eq_true rfl, Nat.le_of_ble_eq_true rfl⟩ rfl hl.1 rfl (Nat.le_of_ble_eq_true rfl) dX8_tell_153 ⟨Nat.zero_le _, Nat.zero_le _⟩ (fun r18 u19 H locs q20 hP hS => ?_)
                        obtain ⟨rfl, q20u⟩ := q20
                        rw [q20u] at hP; clear q20u
                        refine mw_iast C Z hP hS (57 + t) (ms2.length) (by omega) (sx_tk (by omega)) (Nat.lt_of_lt_of_le (by decide : 40 < 961) (Nat.le_of_ble_eq_true rfl)) rfl (by omega) dX8_tell_156 (fun H locs hP hS => ?_)
                        refine lv_goto (tgt := 199) C.1 C.2.1 dX8_tell_157 (by decide) ?_
                        refine lv_iinc (v := nI (0 + q + 1)) (lv' := [(5, .int (nI (0 + q + 1))), (6, .int (nI c)), (0, .ref (mw_a E (39 + t))), (1, .int 0), (2, .ref (mw_a E (s))), (3, .ref (mw_a E (cp))), (4, .int (nI (ms2.length + 1)))]) C.1 C.2.1 dX8_tell_199 hl (k := 6) rfl (nI_1 _) (by decide) rfl (fun ls hl => ?_)
                        refine lv_goto (tgt := 32) C.1 C.2.1 dX8_tell_202 (by decide) ?_
                        exact iha (q + 1) rs9 (turF c v :: ms2) (mw_sa ςa (57 + t) (ms2.length) (turF c v)) _ _ (by omega) (fun i hi => by have y := hseg (i + 1) (by rw [List.length_cons]; omega); rw [show 0 + q + (i + 1) = 0 + (q + 1) + i by omega] at y; exact y) (by rw [List.length_cons] at hq; omega) (by rw [← hrun, ruF_cons, show stF (evP (σ.1 s) (σ.1 cp)) c (v :: ms2) = turF c v :: ms2 by unfold stF turF; rcases hun with rfl | rfl <;> rfl]) (by have y := hok.2; unfold hgt at y; rw [if_neg (by omega), if_pos hun] at y; exact y) (by have y := hfin; unfold hgts hgt at y; rw [if_neg (by omega), if_pos hun] at y; exact y) (by rw [List.length_cons]; omega) ⟨fra.1.sa ht _ _, by rw [sa_self]; exact stk_push _ (stk_tl fra.2)⟩ hP hS ls (lv_sub hl [2, 3, 4, 5, 6, 0] rfl)
                    · have hn11 : ¬ c = 11 := (not_congr (nI_eq (b := 11) (by omega) (by decide))).mp c16
                      refine lv_iload C.1 C.2.1 dX8_tell_122 (lv_at hl 0 rfl) ?_
                      refine lv_bipush (v := 20) C.1 C.2.1 dX8_tell_124 (by decide) ?_
                      refine lv_icmp_ne (tgt := 160) C.1 C.2.1 dX8_tell_126 (by decide) (fun c21 => ?_) (fun c21 => ?_)
                      · have hn20 : ¬ c = 20 := (not_congr (nI_eq (b := 20) (by omega) (by decide))).mp c21
                        have hbi : c = 9 ∨ c = 10 ∨ (15 ≤ c ∧ c ≤ 19) := by unfold okS at hc; omega
                        refine lv_iload C.1 C.2.1 dX8_tell_160 (lv_at hl 5 rfl) ?_
                        refine lv_iconst (v := 1) C.1 C.2.1 dX8_tell_162 (by decide) ?_
                        refine lv_icmp_le (tgt := 199) C.1 C.2.1 dX8_tell_163 (by decide) (fun c22 => ?_) (fun c22 => ?_)
                        · exact absurd ((nI_leI (b := 1) (by unfold okS at hc; omega) (by decide)).mp c22) (by unfold okS at hc; omega)
                        · obtain ⟨vb, va, ms2, ems⟩ : ∃ v w r, ms = v :: w :: r := (by cases ms with | nil => exact absurd c22 (by decide) | cons a b => (cases b with | nil => exact absurd (show nI 1 ≤ 1 from by decide) c22 | cons a2 b2 => exact ⟨a, a2, b2, rfl⟩))
                          subst ems
                          have h40 : ms2.length + 1 + 1 ≤ 40 := h40
                          have hl : lv_has ls 7 [(6, .int (nI c)), (0, .ref (mw_a E (39 + t))), (1, .int 0), (2, .ref (mw_a E (s))), (3, .ref (mw_a E (cp))), (4, .int (nI (ms2.length + 1 + 1))), (5, .int (nI (0 + q)))] := hl
                          refine lv_iinc (v := nI (ms2.length + 1)) (lv' := [(4, .int (nI (ms2.length + 1))), (6, .int (nI c)), (0, .ref (mw_a E (39 + t))), (1, .int 0), (2, .ref (mw_a E (s))), (3, .ref (mw_a E (cp))), (5, .int (nI (0 + q)))]) C.1 C.2.1 dX8_tell_166 hl (k := 5) rfl (pk_m1 _) (by decide) rfl (fun ls hl => ?_)
                          refine lv_aload_n C.1 C.2.1 dX8_tell_169 rfl (lv_at hl 2 rfl) ?_
                          refine mw_getr C Z hP (39 + t) 2 (57 + t) (by omega) (sx_tx (by omega)) rfl rfl (by decide) inX8 tw_1_178 dX8_tell_170 ?_
                          refine lv_iload C.1 C.2.1 dX8_tell_173 (lv_at hl 0 rfl) ?_
                          refine lv_iconst (v := 1) C.1 C.2.1 dX8_tell_175 (by decide) ?_
                          refine lv_isub C.1 C.2.1 dX8_tell_176 ?_
                          refine mw_top (y := nI (ms2.length)) (pk_sub (b := 1) (by omega)) ?_
                          refine lv_iload C.1 C.2.1 dX8_tell_177 (lv_at hl 1 rfl) ?_
                          refine lv_aload_n C.1 C.2.1 dX8_tell_179 rfl (lv_at hl 2 rfl) ?_
                          refine mw_getr C Z hP (39 + t) 2 (57 + t) (by omega) (sx_tx (by omega)) rfl rfl (by decide) inX8 tw_1_178 dX8_tell_180 ?_
                          refine lv_iload C.1 C.2.1 dX8_tell_183 (lv_at hl 0 rfl) ?_
                          refine lv_iconst (v := 1) C.1 C.2.1 dX8_tell_185 (by decide) ?_
                          refine lv_isub C.1 C.2.1 dX8_tell_186 ?_
                          refine mw_top (y := nI (ms2.length)) (pk_sub (b := 1) (by omega)) ?_
                          refine mw_iald C Z hP (57 + t) (ms2.length) (by omega) (sx_tk (by omega)) (Nat.lt_of_lt_of_le (by decide : 40 < 961) (Nat.le_of_ble_eq_true rfl)) rfl (by omega) dX8_tell_187 ?_
                          refine mw_top (y := va) (stk_top (stk_tl fra.2)) ?_
                          refine lv_aload_n C.1 C.2.1 dX8_tell_188 rfl (lv_at hl 2 rfl) ?_
                          refine mw_getr C Z hP (39 + t) 2 (57 + t) (by omega) (sx_tx (by omega)) rfl rfl (by decide) inX8 tw_1_178 dX8_tell_189 ?_
                          refine lv_iload C.1 C.2.1 dX8_tell_192 (lv_at hl 0 rfl) ?_
                          refine mw_iald C Z hP (57 + t) (ms2.length + 1) (by omega) (sx_tk (by omega)) (Nat.lt_of_lt_of_le (by decide : 40 < 961) (Nat.le_of_ble_eq_true rfl)) rfl (by omega) dX8_tell_194 ?_
                          refine mw_top (y := vb) (stk_top fra.2) ?_
                          refine mw_cSi (As := [.int (nI c), .int va, .int vb]) (rest := [.int (nI (ms2.length)), .ref (mw_a E (57 + t))]) C Z hP hS (cX_joined l E ςa c hbi va vb) sb_X8_joined tw_3_103 ⟨rfl, rfl⟩ ⟨Nat.le_of_ble_eq_true rfl, Nat.le_of_ble_eq_true rfl⟩ rfl hl.1 rfl (Nat.le_of_ble_eq_true rfl) dX8_tell_195 ⟨Nat.zero_le _, Nat.zero_le _⟩ (fun r23 u24 H locs q25 hP hS => ?_)
                          obtain ⟨rfl, q25u⟩ := q25
                          rw [q25u] at hP; clear q25u
                          refine mw_iast C Z hP hS (57 + t) (ms2.length) (by omega) (sx_tk (by omega)) (Nat.lt_of_lt_of_le (by decide : 40 < 961) (Nat.le_of_ble_eq_true rfl)) rfl (by omega) dX8_tell_198 (fun H locs hP hS => ?_)
                          refine lv_iinc (v := nI (0 + q + 1)) (lv' := [(5, .int (nI (0 + q + 1))), (4, .int (nI (ms2.length + 1))), (6, .int (nI c)), (0, .ref (mw_a E (39 + t))), (1, .int 0), (2, .ref (mw_a E (s))), (3, .ref (mw_a E (cp)))]) C.1 C.2.1 dX8_tell_199 hl (k := 6) rfl (nI_1 _) (by decide) rfl (fun ls hl => ?_)
                          refine lv_goto (tgt := 32) C.1 C.2.1 dX8_tell_202 (by decide) ?_
                          exact iha (q + 1) rs9 (opF c va vb :: ms2) (mw_sa ςa (57 + t) (ms2.length) (opF c va vb)) _ _ (by omega) (fun i hi => by have y := hseg (i + 1) (by rw [List.length_cons]; omega); rw [show 0 + q + (i + 1) = 0 + (q + 1) + i by omega] at y; exact y) (by rw [List.length_cons] at hq; omega) (by rw [← hrun, ruF_cons, show stF (evP (σ.1 s) (σ.1 cp)) c (vb :: va :: ms2) = opF c va vb :: ms2 by unfold stF; rw [if_neg (by omega), if_neg (by omega), if_neg (by omega), if_neg (by omega)]]) (by have y := hok.2; unfold hgt at y; rw [if_neg (by omega), if_neg (by omega)] at y; exact y) (by have y := hfin; unfold hgts hgt at y; rw [if_neg (by omega), if_neg (by omega)] at y; exact y) (by rw [List.length_cons]; omega) ⟨fra.1.sa ht _ _, by rw [sa_self]; exact stk_push _ (stk_tl (stk_tl fra.2))⟩ hP hS ls (lv_sub hl [3, 4, 5, 6, 1, 0] rfl)
                      · have hun : c = 11 ∨ c = 20 := Or.inr ((nI_eq (b := 20) (by omega) (by decide)).mp c21)
                        refine lv_iload C.1 C.2.1 dX8_tell_129 (lv_at hl 5 rfl) ?_
                        refine lv_if_le (tgt := 199) C.1 C.2.1 dX8_tell_131 (by decide) (fun c26 => ?_) (fun c26 => ?_)
                        · exact absurd ((nI_leI (b := 0) (by unfold okS at hc; omega) (by decide)).mp c26) (by unfold okS at hc; omega)
                        · obtain ⟨v, ms2, ems⟩ : ∃ v r, ms = v :: r := (by cases ms with | nil => exact absurd c26 (by decide) | cons a b => exact ⟨a, b, rfl⟩)
                          subst ems
                          have h40 : ms2.length + 1 ≤ 40 := h40
                          have hl : lv_has ls 7 [(6, .int (nI c)), (0, .ref (mw_a E (39 + t))), (1, .int 0), (2, .ref (mw_a E (s))), (3, .ref (mw_a E (cp))), (4, .int (nI (ms2.length + 1))), (5, .int (nI (0 + q)))] := hl
                          refine lv_aload_n C.1 C.2.1 dX8_tell_134 rfl (lv_at hl 1 rfl) ?_
                          refine mw_getr C Z hP (39 + t) 2 (57 + t) (by omega) (sx_tx (by omega)) rfl rfl (by decide) inX8 tw_1_178 dX8_tell_135 ?_
                          refine lv_iload C.1 C.2.1 dX8_tell_138 (lv_at hl 5 rfl) ?_
                          refine lv_iconst (v := 1) C.1 C.2.1 dX8_tell_140 (by decide) ?_
                          refine lv_isub C.1 C.2.1 dX8_tell_141 ?_
                          refine mw_top (y := nI (ms2.length)) (pk_sub (b := 1) (by omega)) ?_
                          refine lv_iload C.1 C.2.1 dX8_tell_142 (lv_at hl 0 rfl) ?_
                          refine lv_aload_n C.1 C.2.1 dX8_tell_144 rfl (lv_at hl 1 rfl) ?_
                          refine mw_getr C Z hP (39 + t) 2 (57 + t) (by omega) (sx_tx (by omega)) rfl rfl (by decide) inX8 tw_1_178 dX8_tell_145 ?_
                          refine lv_iload C.1 C.2.1 dX8_tell_148 (lv_at hl 5 rfl) ?_
                          refine lv_iconst (v := 1) C.1 C.2.1 dX8_tell_150 (by decide) ?_
                          refine lv_isub C.1 C.2.1 dX8_tell_151 ?_
                          refine mw_top (y := nI (ms2.length)) (pk_sub (b := 1) (by omega)) ?_
                          refine mw_iald C Z hP (57 + t) (ms2.length) (by omega) (sx_tk (by omega)) (Nat.lt_of_lt_of_le (by decide : 40 < 961) (Nat.le_of_ble_eq_true rfl)) rfl (by omega) dX8_tell_152 ?_
                          refine mw_top (y := v) (stk_top fra.2) ?_
                          refine mw_cSi (As := [.int (nI c), .int v]) (rest := [.int (nI (ms2.length)), .ref (mw_a E (57 + t))]) C Z hP hS (cX_turned l E ςa c (by omega) v) sb_X8_turned tw_3_100 ⟨rfl, rfl⟩ ⟨Nat.le_of_ble_eq_true rfl, Nat.le_of_ble_eq_true rfl⟩ rfl hl.1 rfl (Nat.le_of_ble_eq_true rfl) dX8_tell_153 ⟨Nat.zero_le _, Nat.zero_le _⟩ (fun r27 u28 H locs q29 hP hS => ?_)
                          obtain ⟨rfl, q29u⟩ := q29
                          rw [q29u] at hP; clear q29u
                          refine mw_iast C Z hP hS (57 + t) (ms2.length) (by omega) (sx_tk (by omega)) (Nat.lt_of_lt_of_le (by decide : 40 < 961) (Nat.le_of_ble_eq_true rfl)) rfl (by omega) dX8_tell_156 (fun H locs hP hS => ?_)
                          refine lv_goto (tgt := 199) C.1 C.2.1 dX8_tell_157 (by decide) ?_
                          refine lv_iinc (v := nI (0 + q + 1)) (lv' := [(5, .int (nI (0 + q + 1))), (6, .int (nI c)), (0, .ref (mw_a E (39 + t))), (1, .int 0), (2, .ref (mw_a E (s))), (3, .ref (mw_a E (cp))), (4, .int (nI (ms2.length + 1)))]) C.1 C.2.1 dX8_tell_199 hl (k := 6) rfl (nI_1 _) (by decide) rfl (fun ls hl => ?_)
                          refine lv_goto (tgt := 32) C.1 C.2.1 dX8_tell_202 (by decide) ?_
                          exact iha (q + 1) rs9 (turF c v :: ms2) (mw_sa ςa (57 + t) (ms2.length) (turF c v)) _ _ (by omega) (fun i hi => by have y := hseg (i + 1) (by rw [List.length_cons]; omega); rw [show 0 + q + (i + 1) = 0 + (q + 1) + i by omega] at y; exact y) (by rw [List.length_cons] at hq; omega) (by rw [← hrun, ruF_cons, show stF (evP (σ.1 s) (σ.1 cp)) c (v :: ms2) = turF c v :: ms2 by unfold stF turF; rcases hun with rfl | rfl <;> rfl]) (by have y := hok.2; unfold hgt at y; rw [if_neg (by omega), if_pos hun] at y; exact y) (by have y := hfin; unfold hgts hgt at y; rw [if_neg (by omega), if_pos hun] at y; exact y) (by rw [List.length_cons]; omega) ⟨fra.1.sa ht _ _, by rw [sa_self]; exact stk_push _ (stk_tl fra.2)⟩ hP hS ls (lv_sub hl [2, 3, 4, 5, 6, 0] rfl)
                  · have hc100 : 100 ≤ c := by have := (not_congr (nI_ltI (b := 100) (by omega) (by decide))).mp c15; omega
                    refine lv_iload C.1 C.2.1 dX8_tell_73 (lv_at hl 5 rfl) ?_
                    refine lv_bipush (v := 40) C.1 C.2.1 dX8_tell_75 (by decide) ?_
                    refine lv_icmp_ge (tgt := 199) C.1 C.2.1 dX8_tell_77 (by decide) (fun c30 => ?_) (fun c30 => ?_)
                    · exact absurd ((nI_leI (a := 40) (by decide) (by unfold okS at hc; omega)).mp c30) (by unfold okS at hc; omega)
                    · have hlt40 : ms.length < 40 := by unfold okS at hc; omega
                      refine lv_aload_n C.1 C.2.1 dX8_tell_80 rfl (lv_at hl 1 rfl) ?_
                      refine mw_getr C Z hP (39 + t) 2 (57 + t) (by omega) (sx_tx (by omega)) rfl rfl (by decide) inX8 tw_1_178 dX8_tell_81 ?_
                      refine lv_iload C.1 C.2.1 dX8_tell_84 (lv_at hl 5 rfl) ?_
                      refine lv_iload C.1 C.2.1 dX8_tell_86 (lv_at hl 0 rfl) ?_
                      refine lv_bipush (v := 100) C.1 C.2.1 dX8_tell_88 (by decide) ?_
                      refine lv_icmp_lt (tgt := 101) C.1 C.2.1 dX8_tell_90 (by decide) (fun c31 => ?_) (fun c31 => ?_)
                      · exfalso; have := (nI_ltI (b := 100) (by omega) (by decide)).mp c31; omega
                      · have hc100 : 100 ≤ c := by have := (not_congr (nI_ltI (b := 100) (by omega) (by decide))).mp c31; omega
                        refine lv_iload C.1 C.2.1 dX8_tell_93 (lv_at hl 0 rfl) ?_
                        refine lv_bipush (v := 100) C.1 C.2.1 dX8_tell_95 (by decide) ?_
                        refine lv_isub C.1 C.2.1 dX8_tell_97 ?_
                        refine mw_top (y := nI (c - 100)) (pk_sub (b := 100) (by omega)) ?_
                        refine lv_goto (tgt := 108) C.1 C.2.1 dX8_tell_98 (by decide) ?_
                        refine mw_iast C Z hP hS (57 + t) (ms.length) (by omega) (sx_tk (by omega)) (Nat.lt_of_lt_of_le (by decide : 40 < 961) (Nat.le_of_ble_eq_true rfl)) rfl (by omega) dX8_tell_108 (fun H locs hP hS => ?_)
                        refine lv_iinc (v := nI (ms.length + 1)) (lv' := [(4, .int (nI (ms.length + 1))), (6, .int (nI c)), (0, .ref (mw_a E (39 + t))), (1, .int 0), (2, .ref (mw_a E (s))), (3, .ref (mw_a E (cp))), (5, .int (nI (0 + q)))]) C.1 C.2.1 dX8_tell_109 hl (k := 5) rfl (nI_1 _) (by decide) rfl (fun ls hl => ?_)
                        refine lv_goto (tgt := 199) C.1 C.2.1 dX8_tell_112 (by decide) ?_
                        refine lv_iinc (v := nI (0 + q + 1)) (lv' := [(5, .int (nI (0 + q + 1))), (4, .int (nI (ms.length + 1))), (6, .int (nI c)), (0, .ref (mw_a E (39 + t))), (1, .int 0), (2, .ref (mw_a E (s))), (3, .ref (mw_a E (cp)))]) C.1 C.2.1 dX8_tell_199 hl (k := 6) rfl (nI_1 _) (by decide) rfl (fun ls hl => ?_)
                        refine lv_goto (tgt := 32) C.1 C.2.1 dX8_tell_202 (by decide) ?_
                        exact iha (q + 1) rs9 ((nI (c - 100)) :: ms) (mw_sa ςa (57 + t) (ms.length) (nI (c - 100))) _ _ (by omega) (fun i hi => by have y := hseg (i + 1) (by rw [List.length_cons]; omega); rw [show 0 + q + (i + 1) = 0 + (q + 1) + i by omega] at y; exact y) (by rw [List.length_cons] at hq; omega) (by rw [← hrun, ruF_cons, show stF (evP (σ.1 s) (σ.1 cp)) c ms = (nI (c - 100)) :: ms by unfold stF; rw [if_neg (by omega), if_pos hc100]]) (by have y := hok.2; unfold hgt at y; rw [if_pos (by omega)] at y; exact y) (by have y := hfin; unfold hgts hgt at y; rw [if_pos (by omega)] at y; exact y) (by rw [List.length_cons]; omega) ⟨fra.1.sa ht _ _, by rw [sa_self]; exact stk_push _ fra.2⟩ hP hS ls (lv_sub hl [3, 4, 5, 6, 1, 0] rfl)
        exact lpa (z.1.length + 1) 0 (z.1) ([]) σ _ _ (by omega) (fun i hi => by rw [Nat.add_zero]; exact hsg.1 i hi) (by omega) (rfl) ((hsg.2 0 40 (by decide)).1) ((hsg.2 0 40 (by decide)).2) (by decide) ⟨xFs.rf σ, stk_nil _⟩ hP hS ls (lv_sub hl [2, 3, 4, 5, 1, 0] rfl)
    · exact absurd c2 (by decide)

set_option maxHeartbeats 4000000 in
set_option maxRecDepth 100000 in
theorem cX_tell1 (l : Launch) (E : mw_E) (σ : mw_M) (t : Nat) (z : zP) (hx : xTx σ t z) (s : Nat) (hs : s < 3) (cp : Nat) (hcp : 6 ≤ cp ∧ cp < 30) : mw_Ci shX 75 gX l yX8_tell cX8_tell 7 (some .int) (rmF 3 106) E [.ref (mw_a E (39 + t)), .int 1, .ref (mw_a E (s)), .ref (mw_a E (cp))] σ (fun r u => r = tellP z 1 (σ.1 s) (σ.1 cp) ∧ xFs σ u) := by
  refine mw_of (by decide) gX_ok (Nat.le_of_ble_eq_true rfl) ?_
  intro p_ e_ s_ m_ below meth c_ C hr hlk Z hP ls hl
  have C : CallFix p_ m_ c_ cX8_tell 7 s_ _ lw_good RX8 := C
  have hl : lv_has ls 7 [(0, .ref (mw_a E (39 + t))), (1, .int 1), (2, .ref (mw_a E (s))), (3, .ref (mw_a E (cp)))] := hl
  have hS : va_S (mw_A 75 E) s_.heap s_.heap [] := va_S.rf
  obtain ⟨ht, he0, he1, he2, hle, hs0, hs1, hs2⟩ := hx
  have hsg := hs1
  have hend : σ.2.1 (51 + t) 1 = nI (z.1.length + z.2.1.length) := he1
  refine lv_iload_n C.1 C.2.1 dX8_tell_0 rfl (lv_at hl 1 rfl) ?_
  refine lv_if_lt (tgt := 9) C.1 C.2.1 dX8_tell_1 (by decide) (fun c1 => ?_) (fun c1 => ?_)
  · exact absurd c1 (by decide)
  · refine lv_iload_n C.1 C.2.1 dX8_tell_4 rfl (lv_at hl 1 rfl) ?_
    refine lv_iconst (v := 3) C.1 C.2.1 dX8_tell_5 (by decide) ?_
    refine lv_icmp_lt (tgt := 11) C.1 C.2.1 dX8_tell_6 (by decide) (fun c2 => ?_) (fun c2 => ?_)
    · refine lv_iconst (v := 0) C.1 C.2.1 dX8_tell_11 (by decide) ?_
      refine lv_istore (lv' := [(4, .int 0), (0, .ref (mw_a E (39 + t))), (1, .int 1), (2, .ref (mw_a E (s))), (3, .ref (mw_a E (cp)))]) C.1 C.2.1 dX8_tell_12 hl (by decide) rfl (fun ls hl => ?_)
      refine lv_iload_n C.1 C.2.1 dX8_tell_14 rfl (lv_at hl 2 rfl) ?_
      refine lv_if_ne (tgt := 22) C.1 C.2.1 dX8_tell_15 (by decide) (fun c3 => ?_) (fun c3 => ?_)
      · refine lv_aload_n C.1 C.2.1 dX8_tell_22 rfl (lv_at hl 1 rfl) ?_
        refine mw_getr C Z hP (39 + t) 1 (51 + t) (by omega) (sx_tx (by omega)) rfl rfl (by decide) inX8 tw_1_177 dX8_tell_23 ?_
        refine lv_iload_n C.1 C.2.1 dX8_tell_26 rfl (lv_at hl 2 rfl) ?_
        refine lv_iconst (v := 1) C.1 C.2.1 dX8_tell_27 (by decide) ?_
        refine lv_isub C.1 C.2.1 dX8_tell_28 ?_
        refine mw_top (y := 0) (by decide) ?_
        refine mw_iald C Z hP (51 + t) (0) (by omega) (sx_te (by omega)) (Nat.lt_of_lt_of_le (by decide : 3 < 961) (Nat.le_of_ble_eq_true rfl)) rfl (by decide) dX8_tell_29 ?_
        refine mw_top (y := nI z.1.length) (he0) ?_
        refine lv_istore (lv' := [(5, .int (nI z.1.length)), (4, .int 0), (0, .ref (mw_a E (39 + t))), (1, .int 1), (2, .ref (mw_a E (s))), (3, .ref (mw_a E (cp)))]) C.1 C.2.1 dX8_tell_30 hl (by decide) rfl (fun ls hl => ?_)
        have lpa : ∀ (N : Nat) (q : Nat) (rs : List Nat) (ms : List Int32) (ςa : mw_M) (H : Heap) (locs : List Loc), z.2.1.length + 1 ≤ q + N → (∀ i, i < rs.length → σ.2.1 (45 + t) (z.1.length + q + i) = nI (rs.getD i 0)) → (q + rs.length = z.2.1.length) → (ruF (evP (σ.1 s) (σ.1 cp)) rs ms = ruF (evP (σ.1 s) (σ.1 cp)) z.2.1 []) → (okH rs ms.length 40) → (hgts rs ms.length = 1) → (ms.length ≤ 40) → xTl σ t ms ςa → va_P (mw_D E) vwCl (mw_ws shX 75 E ςa) H → va_S (mw_A 75 E) s_.heap H locs → ∀ (ls : Array Slot), lv_has ls 7 [(0, .ref (mw_a E (39 + t))), (1, .int 1), (2, .ref (mw_a E (s))), (3, .ref (mw_a E (cp))), (4, .int (nI ms.length)), (5, .int (nI (z.1.length + q)))] → xWi p_ l e_ (rmF 3 106) s_ m_ [.ref (mw_a E (39 + t)), .int 1, .ref (mw_a E (s)), .ref (mw_a E (cp))] below meth c_ E (fun r u => r = tellP z 1 (σ.1 s) (σ.1 cp) ∧ xFs σ u) H locs (F0 m_ 32 ls []) := by
          intro N
          induction N with
          | zero => intros; exfalso; omega
          | succ N iha =>
            intro q rs ms ςa H locs hNa hseg hq hrun hok hfin h40 fra hP hS ls hl
            refine lv_iload C.1 C.2.1 dX8_tell_32 (lv_at hl 5 rfl) ?_
            refine lv_aload_n C.1 C.2.1 dX8_tell_34 rfl (lv_at hl 0 rfl) ?_
            refine mw_getr C Z hP (39 + t) 1 (51 + t) (by omega) (sx_tx (by omega)) rfl rfl (by decide) inX8 tw_1_177 dX8_tell_35 ?_
            refine lv_iload_n C.1 C.2.1 dX8_tell_38 rfl (lv_at hl 1 rfl) ?_
            refine mw_iald C Z hP (51 + t) (1) (by omega) (sx_te (by omega)) (Nat.lt_of_lt_of_le (by decide : 3 < 961) (Nat.le_of_ble_eq_true rfl)) rfl (by decide) dX8_tell_39 ?_
            refine mw_top (y := nI (z.1.length + z.2.1.length)) ((congrFun (fra.1.2.2 _ (by omega)) _).trans hend) ?_
            refine lv_icmp_ge (tgt := 205) C.1 C.2.1 dX8_tell_40 (by decide) (fun c4 => ?_) (fun c4 => ?_)
            · have c4 := (nI_leI (by omega) (by omega)).mp c4
              refine lv_aload_n C.1 C.2.1 dX8_tell_205 rfl (lv_at hl 0 rfl) ?_
              refine mw_getr C Z hP (39 + t) 2 (57 + t) (by omega) (sx_tx (by omega)) rfl rfl (by decide) inX8 tw_1_178 dX8_tell_206 ?_
              refine lv_iconst (v := 0) C.1 C.2.1 dX8_tell_209 (by decide) ?_
              refine mw_iald C Z hP (57 + t) (0) (by omega) (sx_tk (by omega)) (Nat.lt_of_lt_of_le (by decide : 40 < 961) (Nat.le_of_ble_eq_true rfl)) rfl (by decide) dX8_tell_210 ?_
              refine lv_bipush (v := 99) C.1 C.2.1 dX8_tell_211 (by decide) ?_
              refine mw_cSiN (As := [.int (ςa.2.1 (57 + t) 0), .int 99]) (rest := []) C Z hP hS (cX_bounded l E ςa (ςa.2.1 (57 + t) 0) 99 (by decide)) sb_X11_bounded Z.2.2.1.2.2.2.2.2.1 ⟨rfl, rfl⟩ ⟨Nat.le_of_ble_eq_true rfl, Nat.le_of_ble_eq_true rfl⟩ rfl hl.1 rfl (Nat.le_of_ble_eq_true rfl) dX8_tell_213 ⟨Nat.zero_le _, Nat.zero_le _⟩ (fun r5 u6 H locs q7 hP hS => ?_)
              obtain ⟨rfl, q7u⟩ := q7
              rw [q7u] at hP; clear q7u
              have er : rs = [] := by cases rs with | nil => rfl | cons a b => rw [List.length_cons] at hq; omega
              subst er
              have hm1 : ms.length = 1 := hfin
              have ev : ςa.2.1 (57 + t) 0 = vaF (evP (σ.1 s) (σ.1 cp)) z.2.1 := by rw [fra.2 0 (by omega), hm1]; unfold vaF; rw [← hrun]; show ms.getD 0 0 = ms.headD 0; cases ms <;> rfl
              exact mw_iret C hr hlk Z hP hS dX8_tell_216 (⟨by unfold tellP ptF; rw [ev]; rfl, fra.1⟩)
            · have c4 : _ := (not_congr (nI_leI (by omega) (by omega))).mp c4
              obtain ⟨c, rs9, ers⟩ : ∃ c r, rs = c :: r := (by cases rs with | nil => exact absurd hq (by show ¬ q + 0 = _; omega) | cons a b => exact ⟨a, b, rfl⟩)
              subst ers
              have hc : okS c ms.length 40 := hok.1
              have hcb : c < 20000 := (by unfold okS at hc; omega)
              refine lv_iload C.1 C.2.1 dX8_tell_43 (lv_at hl 5 rfl) ?_
              refine lv_sipush (v := 160) C.1 C.2.1 dX8_tell_45 (by decide) ?_
              refine lv_icmp_ge (tgt := 205) C.1 C.2.1 dX8_tell_48 (by decide) (fun c8 => ?_) (fun c8 => ?_)
              · exact absurd ((nI_leI (a := 160) (by decide) (by omega)).mp c8) (by omega)
              · refine lv_aload_n C.1 C.2.1 dX8_tell_51 rfl (lv_at hl 0 rfl) ?_
                refine mw_getr C Z hP (39 + t) 0 (45 + t) (by omega) (sx_tx (by omega)) rfl rfl (by decide) inX8 tw_1_176 dX8_tell_52 ?_
                refine lv_iload C.1 C.2.1 dX8_tell_55 (lv_at hl 5 rfl) ?_
                refine mw_iald C Z hP (45 + t) (z.1.length + q) (by omega) (sx_ts (by omega)) (Nat.lt_of_lt_of_le (by decide : 160 < 961) (Nat.le_of_ble_eq_true rfl)) rfl (by omega) dX8_tell_57 ?_
                refine mw_top (y := nI c) ((congrFun (fra.1.2.2 _ (by omega)) _).trans (hseg 0 (by rw [List.length_cons]; omega))) ?_
                refine lv_istore (lv' := [(6, .int (nI c)), (0, .ref (mw_a E (39 + t))), (1, .int 1), (2, .ref (mw_a E (s))), (3, .ref (mw_a E (cp))), (4, .int (nI ms.length)), (5, .int (nI (z.1.length + q)))]) C.1 C.2.1 dX8_tell_58 hl (by decide) rfl (fun ls hl => ?_)
                refine lv_iload C.1 C.2.1 dX8_tell_60 (lv_at hl 0 rfl) ?_
                refine lv_iconst (v := 5) C.1 C.2.1 dX8_tell_62 (by decide) ?_
                refine lv_icmp_le (tgt := 73) C.1 C.2.1 dX8_tell_63 (by decide) (fun c9 => ?_) (fun c9 => ?_)
                · have hc5 : c ≤ 5 := (nI_leI (b := 5) (by omega) (by decide)).mp c9
                  refine lv_iload C.1 C.2.1 dX8_tell_73 (lv_at hl 5 rfl) ?_
                  refine lv_bipush (v := 40) C.1 C.2.1 dX8_tell_75 (by decide) ?_
                  refine lv_icmp_ge (tgt := 199) C.1 C.2.1 dX8_tell_77 (by decide) (fun c10 => ?_) (fun c10 => ?_)
                  · exact absurd ((nI_leI (a := 40) (by decide) (by unfold okS at hc; omega)).mp c10) (by unfold okS at hc; omega)
                  · have hlt40 : ms.length < 40 := by unfold okS at hc; omega
                    refine lv_aload_n C.1 C.2.1 dX8_tell_80 rfl (lv_at hl 1 rfl) ?_
                    refine mw_getr C Z hP (39 + t) 2 (57 + t) (by omega) (sx_tx (by omega)) rfl rfl (by decide) inX8 tw_1_178 dX8_tell_81 ?_
                    refine lv_iload C.1 C.2.1 dX8_tell_84 (lv_at hl 5 rfl) ?_
                    refine lv_iload C.1 C.2.1 dX8_tell_86 (lv_at hl 0 rfl) ?_
                    refine lv_bipush (v := 100) C.1 C.2.1 dX8_tell_88 (by decide) ?_
                    refine lv_icmp_lt (tgt := 101) C.1 C.2.1 dX8_tell_90 (by decide) (fun c11 => ?_) (fun c11 => ?_)
                    · have hc5 : c ≤ 5 := by have := (nI_ltI (b := 100) (by omega) (by decide)).mp c11; omega
                      refine lv_iload C.1 C.2.1 dX8_tell_101 (lv_at hl 0 rfl) ?_
                      refine lv_aload_n C.1 C.2.1 dX8_tell_103 rfl (lv_at hl 3 rfl) ?_
                      refine lv_aload_n C.1 C.2.1 dX8_tell_104 rfl (lv_at hl 4 rfl) ?_
                      refine mw_cSi (As := [.int (nI c), .ref (mw_a E (s)), .ref (mw_a E (cp))]) (rest := [.int (nI ms.length), .ref (mw_a E (57 + t))]) C Z hP hS (cX_named l E ςa c hc5 s hs cp hcp) sb_X8_named tw_3_97 ⟨rfl, rfl⟩ ⟨Nat.le_of_ble_eq_true rfl, Nat.le_of_ble_eq_true rfl⟩ rfl hl.1 rfl (Nat.le_of_ble_eq_true rfl) dX8_tell_105 ⟨Nat.zero_le _, Nat.zero_le _⟩ (fun r12 u13 H locs q14 hP hS => ?_)
                      rw [fra.1.1] at q14
                      obtain ⟨rfl, q14u⟩ := q14
                      rw [q14u] at hP; clear q14u
                      refine mw_iast C Z hP hS (57 + t) (ms.length) (by omega) (sx_tk (by omega)) (Nat.lt_of_lt_of_le (by decide : 40 < 961) (Nat.le_of_ble_eq_true rfl)) rfl (by omega) dX8_tell_108 (fun H locs hP hS => ?_)
                      refine lv_iinc (v := nI (ms.length + 1)) (lv' := [(4, .int (nI (ms.length + 1))), (6, .int (nI c)), (0, .ref (mw_a E (39 + t))), (1, .int 1), (2, .ref (mw_a E (s))), (3, .ref (mw_a E (cp))), (5, .int (nI (z.1.length + q)))]) C.1 C.2.1 dX8_tell_109 hl (k := 5) rfl (nI_1 _) (by decide) rfl (fun ls hl => ?_)
                      refine lv_goto (tgt := 199) C.1 C.2.1 dX8_tell_112 (by decide) ?_
                      refine lv_iinc (v := nI (z.1.length + q + 1)) (lv' := [(5, .int (nI (z.1.length + q + 1))), (4, .int (nI (ms.length + 1))), (6, .int (nI c)), (0, .ref (mw_a E (39 + t))), (1, .int 1), (2, .ref (mw_a E (s))), (3, .ref (mw_a E (cp)))]) C.1 C.2.1 dX8_tell_199 hl (k := 6) rfl (nI_1 _) (by decide) rfl (fun ls hl => ?_)
                      refine lv_goto (tgt := 32) C.1 C.2.1 dX8_tell_202 (by decide) ?_
                      exact iha (q + 1) rs9 ((evP (σ.1 s) (σ.1 cp) c) :: ms) (mw_sa ςa (57 + t) (ms.length) (evP (σ.1 s) (σ.1 cp) c)) _ _ (by omega) (fun i hi => by have y := hseg (i + 1) (by rw [List.length_cons]; omega); rw [show z.1.length + q + (i + 1) = z.1.length + (q + 1) + i by omega] at y; exact y) (by rw [List.length_cons] at hq; omega) (by rw [← hrun, ruF_cons, show stF (evP (σ.1 s) (σ.1 cp)) c ms = (evP (σ.1 s) (σ.1 cp) c) :: ms by unfold stF; rw [if_pos hc5]]) (by have y := hok.2; unfold hgt at y; rw [if_pos (by omega)] at y; exact y) (by have y := hfin; unfold hgts hgt at y; rw [if_pos (by omega)] at y; exact y) (by rw [List.length_cons]; omega) ⟨fra.1.sa ht _ _, by rw [sa_self]; exact stk_push _ fra.2⟩ hP hS ls (lv_sub hl [3, 4, 5, 6, 1, 0] rfl)
                    · exfalso; have := (not_congr (nI_ltI (b := 100) (by omega) (by decide))).mp c11; omega
                · have hc5 : ¬ c ≤ 5 := (not_congr (nI_leI (b := 5) (by omega) (by decide))).mp c9
                  refine lv_iload C.1 C.2.1 dX8_tell_66 (lv_at hl 0 rfl) ?_
                  refine lv_bipush (v := 100) C.1 C.2.1 dX8_tell_68 (by decide) ?_
                  refine lv_icmp_lt (tgt := 115) C.1 C.2.1 dX8_tell_70 (by decide) (fun c15 => ?_) (fun c15 => ?_)
                  · have hc100 : ¬ 100 ≤ c := by have := (nI_ltI (b := 100) (by omega) (by decide)).mp c15; omega
                    refine lv_iload C.1 C.2.1 dX8_tell_115 (lv_at hl 0 rfl) ?_
                    refine lv_bipush (v := 11) C.1 C.2.1 dX8_tell_117 (by decide) ?_
                    refine lv_icmp_eq (tgt := 129) C.1 C.2.1 dX8_tell_119 (by decide) (fun c16 => ?_) (fun c16 => ?_)
                    · have hun : c = 11 ∨ c = 20 := Or.inl ((nI_eq (b := 11) (by omega) (by decide)).mp c16)
                      refine lv_iload C.1 C.2.1 dX8_tell_129 (lv_at hl 5 rfl) ?_
                      refine lv_if_le (tgt := 199) C.1 C.2.1 dX8_tell_131 (by decide) (fun c17 => ?_) (fun c17 => ?_)
                      · exact absurd ((nI_leI (b := 0) (by unfold okS at hc; omega) (by decide)).mp c17) (by unfold okS at hc; omega)
                      · obtain ⟨v, ms2, ems⟩ : ∃ v r, ms = v :: r := (by cases ms with | nil => exact absurd c17 (by decide) | cons a b => exact ⟨a, b, rfl⟩)
                        subst ems
                        have h40 : ms2.length + 1 ≤ 40 := h40
                        have hl : lv_has ls 7 [(6, .int (nI c)), (0, .ref (mw_a E (39 + t))), (1, .int 1), (2, .ref (mw_a E (s))), (3, .ref (mw_a E (cp))), (4, .int (nI (ms2.length + 1))), (5, .int (nI (z.1.length + q)))] := hl
                        refine lv_aload_n C.1 C.2.1 dX8_tell_134 rfl (lv_at hl 1 rfl) ?_
                        refine mw_getr C Z hP (39 + t) 2 (57 + t) (by omega) (sx_tx (by omega)) rfl rfl (by decide) inX8 tw_1_178 dX8_tell_135 ?_
                        refine lv_iload C.1 C.2.1 dX8_tell_138 (lv_at hl 5 rfl) ?_
                        refine lv_iconst (v := 1) C.1 C.2.1 dX8_tell_140 (by decide) ?_
                        refine lv_isub C.1 C.2.1 dX8_tell_141 ?_
                        refine mw_top (y := nI (ms2.length)) (pk_sub (b := 1) (by omega)) ?_
                        refine lv_iload C.1 C.2.1 dX8_tell_142 (lv_at hl 0 rfl) ?_
                        refine lv_aload_n C.1 C.2.1 dX8_tell_144 rfl (lv_at hl 1 rfl) ?_
                        refine mw_getr C Z hP (39 + t) 2 (57 + t) (by omega) (sx_tx (by omega)) rfl rfl (by decide) inX8 tw_1_178 dX8_tell_145 ?_
                        refine lv_iload C.1 C.2.1 dX8_tell_148 (lv_at hl 5 rfl) ?_
                        refine lv_iconst (v := 1) C.1 C.2.1 dX8_tell_150 (by decide) ?_
                        refine lv_isub C.1 C.2.1 dX8_tell_151 ?_
                        refine mw_top (y := nI (ms2.length)) (pk_sub (b := 1) (by omega)) ?_
                        refine mw_iald C Z hP (57 + t) (ms2.length) (by omega) (sx_tk (by omega)) (Nat.lt_of_lt_of_le (by decide : 40 < 961) (Nat.le_of_ble_eq_true rfl)) rfl (by omega) dX8_tell_152 ?_
                        refine mw_top (y := v) (stk_top fra.2) ?_
                        refine mw_cSi (As := [.int (nI c), .int v]) (rest := [.int (nI (ms2.length)), .ref (mw_a E (57 + t))]) C Z hP hS (cX_turned l E ςa c (by omega) v) sb_X8_turned tw_3_100 ⟨rfl, rfl⟩ ⟨Nat.le_of_ble_eq_true rfl, Nat.le_of_ble_eq_true rfl⟩ rfl hl.1 rfl (Nat.le_of_ble_eq_true rfl) dX8_tell_153 ⟨Nat.zero_le _, Nat.zero_le _⟩ (fun r18 u19 H locs q20 hP hS => ?_)
                        obtain ⟨rfl, q20u⟩ := q20
                        rw [q20u] at hP; clear q20u
                        refine mw_iast C Z hP hS (57 + t) (ms2.length) (by omega) (sx_tk (by omega)) (Nat.lt_of_lt_of_le (by decide : 40 < 961) (Nat.le_of_ble_eq_true rfl)) rfl (by omega) dX8_tell_156 (fun H locs hP hS => ?_)
                        refine lv_goto (tgt := 199) C.1 C.2.1 dX8_tell_157 (by decide) ?_
                        refine lv_iinc (v := nI (z.1.length + q + 1)) (lv' := [(5, .int (nI (z.1.length + q + 1))), (6, .int (nI c)), (0, .ref (mw_a E (39 + t))), (1, .int 1), (2, .ref (mw_a E (s))), (3, .ref (mw_a E (cp))), (4, .int (nI (ms2.length + 1)))]) C.1 C.2.1 dX8_tell_199 hl (k := 6) rfl (nI_1 _) (by decide) rfl (fun ls hl => ?_)
                        refine lv_goto (tgt := 32) C.1 C.2.1 dX8_tell_202 (by decide) ?_
                        exact iha (q + 1) rs9 (turF c v :: ms2) (mw_sa ςa (57 + t) (ms2.length) (turF c v)) _ _ (by omega) (fun i hi => by have y := hseg (i + 1) (by rw [List.length_cons]; omega); rw [show z.1.length + q + (i + 1) = z.1.length + (q + 1) + i by omega] at y; exact y) (by rw [List.length_cons] at hq; omega) (by rw [← hrun, ruF_cons, show stF (evP (σ.1 s) (σ.1 cp)) c (v :: ms2) = turF c v :: ms2 by unfold stF turF; rcases hun with rfl | rfl <;> rfl]) (by have y := hok.2; unfold hgt at y; rw [if_neg (by omega), if_pos hun] at y; exact y) (by have y := hfin; unfold hgts hgt at y; rw [if_neg (by omega), if_pos hun] at y; exact y) (by rw [List.length_cons]; omega) ⟨fra.1.sa ht _ _, by rw [sa_self]; exact stk_push _ (stk_tl fra.2)⟩ hP hS ls (lv_sub hl [2, 3, 4, 5, 6, 0] rfl)
                    · have hn11 : ¬ c = 11 := (not_congr (nI_eq (b := 11) (by omega) (by decide))).mp c16
                      refine lv_iload C.1 C.2.1 dX8_tell_122 (lv_at hl 0 rfl) ?_
                      refine lv_bipush (v := 20) C.1 C.2.1 dX8_tell_124 (by decide) ?_
                      refine lv_icmp_ne (tgt := 160) C.1 C.2.1 dX8_tell_126 (by decide) (fun c21 => ?_) (fun c21 => ?_)
                      · have hn20 : ¬ c = 20 := (not_congr (nI_eq (b := 20) (by omega) (by decide))).mp c21
                        have hbi : c = 9 ∨ c = 10 ∨ (15 ≤ c ∧ c ≤ 19) := by unfold okS at hc; omega
                        refine lv_iload C.1 C.2.1 dX8_tell_160 (lv_at hl 5 rfl) ?_
                        refine lv_iconst (v := 1) C.1 C.2.1 dX8_tell_162 (by decide) ?_
                        refine lv_icmp_le (tgt := 199) C.1 C.2.1 dX8_tell_163 (by decide) (fun c22 => ?_) (fun c22 => ?_)
                        · exact absurd ((nI_leI (b := 1) (by unfold okS at hc; omega) (by decide)).mp c22) (by unfold okS at hc; omega)
                        · obtain ⟨vb, va, ms2, ems⟩ : ∃ v w r, ms = v :: w :: r := (by cases ms with | nil => exact absurd c22 (by decide) | cons a b => (cases b with | nil => exact absurd (show nI 1 ≤ 1 from by decide) c22 | cons a2 b2 => exact ⟨a, a2, b2, rfl⟩))
                          subst ems
                          have h40 : ms2.length + 1 + 1 ≤ 40 := h40
                          have hl : lv_has ls 7 [(6, .int (nI c)), (0, .ref (mw_a E (39 + t))), (1, .int 1), (2, .ref (mw_a E (s))), (3, .ref (mw_a E (cp))), (4, .int (nI (ms2.length + 1 + 1))), (5, .int (nI (z.1.length + q)))] := hl
                          refine lv_iinc (v := nI (ms2.length + 1)) (lv' := [(4, .int (nI (ms2.length + 1))), (6, .int (nI c)), (0, .ref (mw_a E (39 + t))), (1, .int 1), (2, .ref (mw_a E (s))), (3, .ref (mw_a E (cp))), (5, .int (nI (z.1.length + q)))]) C.1 C.2.1 dX8_tell_166 hl (k := 5) rfl (pk_m1 _) (by decide) rfl (fun ls hl => ?_)
                          refine lv_aload_n C.1 C.2.1 dX8_tell_169 rfl (lv_at hl 2 rfl) ?_
                          refine mw_getr C Z hP (39 + t) 2 (57 + t) (by omega) (sx_tx (by omega)) rfl rfl (by decide) inX8 tw_1_178 dX8_tell_170 ?_
                          refine lv_iload C.1 C.2.1 dX8_tell_173 (lv_at hl 0 rfl) ?_
                          refine lv_iconst (v := 1) C.1 C.2.1 dX8_tell_175 (by decide) ?_
                          refine lv_isub C.1 C.2.1 dX8_tell_176 ?_
                          refine mw_top (y := nI (ms2.length)) (pk_sub (b := 1) (by omega)) ?_
                          refine lv_iload C.1 C.2.1 dX8_tell_177 (lv_at hl 1 rfl) ?_
                          refine lv_aload_n C.1 C.2.1 dX8_tell_179 rfl (lv_at hl 2 rfl) ?_
                          refine mw_getr C Z hP (39 + t) 2 (57 + t) (by omega) (sx_tx (by omega)) rfl rfl (by decide) inX8 tw_1_178 dX8_tell_180 ?_
                          refine lv_iload C.1 C.2.1 dX8_tell_183 (lv_at hl 0 rfl) ?_
                          refine lv_iconst (v := 1) C.1 C.2.1 dX8_tell_185 (by decide) ?_
                          refine lv_isub C.1 C.2.1 dX8_tell_186 ?_
                          refine mw_top (y := nI (ms2.length)) (pk_sub (b := 1) (by omega)) ?_
                          refine mw_iald C Z hP (57 + t) (ms2.length) (by omega) (sx_tk (by omega)) (Nat.lt_of_lt_of_le (by decide : 40 < 961) (Nat.le_of_ble_eq_true rfl)) rfl (by omega) dX8_tell_187 ?_
                          refine mw_top (y := va) (stk_top (stk_tl fra.2)) ?_
                          refine lv_aload_n C.1 C.2.1 dX8_tell_188 rfl (lv_at hl 2 rfl) ?_
                          refine mw_getr C Z hP (39 + t) 2 (57 + t) (by omega) (sx_tx (by omega)) rfl rfl (by decide) inX8 tw_1_178 dX8_tell_189 ?_
                          refine lv_iload C.1 C.2.1 dX8_tell_192 (lv_at hl 0 rfl) ?_
                          refine mw_iald C Z hP (57 + t) (ms2.length + 1) (by omega) (sx_tk (by omega)) (Nat.lt_of_lt_of_le (by decide : 40 < 961) (Nat.le_of_ble_eq_true rfl)) rfl (by omega) dX8_tell_194 ?_
                          refine mw_top (y := vb) (stk_top fra.2) ?_
                          refine mw_cSi (As := [.int (nI c), .int va, .int vb]) (rest := [.int (nI (ms2.length)), .ref (mw_a E (57 + t))]) C Z hP hS (cX_joined l E ςa c hbi va vb) sb_X8_joined tw_3_103 ⟨rfl, rfl⟩ ⟨Nat.le_of_ble_eq_true rfl, Nat.le_of_ble_eq_true rfl⟩ rfl hl.1 rfl (Nat.le_of_ble_eq_true rfl) dX8_tell_195 ⟨Nat.zero_le _, Nat.zero_le _⟩ (fun r23 u24 H locs q25 hP hS => ?_)
                          obtain ⟨rfl, q25u⟩ := q25
                          rw [q25u] at hP; clear q25u
                          refine mw_iast C Z hP hS (57 + t) (ms2.length) (by omega) (sx_tk (by omega)) (Nat.lt_of_lt_of_le (by decide : 40 < 961) (Nat.le_of_ble_eq_true rfl)) rfl (by omega) dX8_tell_198 (fun H locs hP hS => ?_)
                          refine lv_iinc (v := nI (z.1.length + q + 1)) (lv' := [(5, .int (nI (z.1.length + q + 1))), (4, .int (nI (ms2.length + 1))), (6, .int (nI c)), (0, .ref (mw_a E (39 + t))), (1, .int 1), (2, .ref (mw_a E (s))), (3, .ref (mw_a E (cp)))]) C.1 C.2.1 dX8_tell_199 hl (k := 6) rfl (nI_1 _) (by decide) rfl (fun ls hl => ?_)
                          refine lv_goto (tgt := 32) C.1 C.2.1 dX8_tell_202 (by decide) ?_
                          exact iha (q + 1) rs9 (opF c va vb :: ms2) (mw_sa ςa (57 + t) (ms2.length) (opF c va vb)) _ _ (by omega) (fun i hi => by have y := hseg (i + 1) (by rw [List.length_cons]; omega); rw [show z.1.length + q + (i + 1) = z.1.length + (q + 1) + i by omega] at y; exact y) (by rw [List.length_cons] at hq; omega) (by rw [← hrun, ruF_cons, show stF (evP (σ.1 s) (σ.1 cp)) c (vb :: va :: ms2) = opF c va vb :: ms2 by unfold stF; rw [if_neg (by omega), if_neg (by omega), if_neg (by omega), if_neg (by omega)]]) (by have y := hok.2; unfold hgt at y; rw [if_neg (by omega), if_neg (by omega)] at y; exact y) (by have y := hfin; unfold hgts hgt at y; rw [if_neg (by omega), if_neg (by omega)] at y; exact y) (by rw [List.length_cons]; omega) ⟨fra.1.sa ht _ _, by rw [sa_self]; exact stk_push _ (stk_tl (stk_tl fra.2))⟩ hP hS ls (lv_sub hl [3, 4, 5, 6, 1, 0] rfl)
                      · have hun : c = 11 ∨ c = 20 := Or.inr ((nI_eq (b := 20) (by omega) (by decide)).mp c21)
                        refine lv_iload C.1 C.2.1 dX8_tell_129 (lv_at hl 5 rfl) ?_
                        refine lv_if_le (tgt := 199) C.1 C.2.1 dX8_tell_131 (by decide) (fun c26 => ?_) (fun c26 => ?_)
                        · exact absurd ((nI_leI (b := 0) (by unfold okS at hc; omega) (by decide)).mp c26) (by unfold okS at hc; omega)
                        · obtain ⟨v, ms2, ems⟩ : ∃ v r, ms = v :: r := (by cases ms with | nil => exact absurd c26 (by decide) | cons a b => exact ⟨a, b, rfl⟩)
                          subst ems
                          have h40 : ms2.length + 1 ≤ 40 := h40
                          have hl : lv_has ls 7 [(6, .int (nI c)), (0, .ref (mw_a E (39 + t))), (1, .int 1), (2, .ref (mw_a E (s))), (3, .ref (mw_a E (cp))), (4, .int (nI (ms2.length + 1))), (5, .int (nI (z.1.length + q)))] := hl
                          refine lv_aload_n C.1 C.2.1 dX8_tell_134 rfl (lv_at hl 1 rfl) ?_
                          refine mw_getr C Z hP (39 + t) 2 (57 + t) (by omega) (sx_tx (by omega)) rfl rfl (by decide) inX8 tw_1_178 dX8_tell_135 ?_
                          refine lv_iload C.1 C.2.1 dX8_tell_138 (lv_at hl 5 rfl) ?_
                          refine lv_iconst (v := 1) C.1 C.2.1 dX8_tell_140 (by decide) ?_
                          refine lv_isub C.1 C.2.1 dX8_tell_141 ?_
                          refine mw_top (y := nI (ms2.length)) (pk_sub (b := 1) (by omega)) ?_
                          refine lv_iload C.1 C.2.1 dX8_tell_142 (lv_at hl 0 rfl) ?_
                          refine lv_aload_n C.1 C.2.1 dX8_tell_144 rfl (lv_at hl 1 rfl) ?_
                          refine mw_getr C Z hP (39 + t) 2 (57 + t) (by omega) (sx_tx (by omega)) rfl rfl (by decide) inX8 tw_1_178 dX8_tell_145 ?_
                          refine lv_iload C.1 C.2.1 dX8_tell_148 (lv_at hl 5 rfl) ?_
                          refine lv_iconst (v := 1) C.1 C.2.1 dX8_tell_150 (by decide) ?_
                          refine lv_isub C.1 C.2.1 dX8_tell_151 ?_
                          refine mw_top (y := nI (ms2.length)) (pk_sub (b := 1) (by omega)) ?_
                          refine mw_iald C Z hP (57 + t) (ms2.length) (by omega) (sx_tk (by omega)) (Nat.lt_of_lt_of_le (by decide : 40 < 961) (Nat.le_of_ble_eq_true rfl)) rfl (by omega) dX8_tell_152 ?_
                          refine mw_top (y := v) (stk_top fra.2) ?_
                          refine mw_cSi (As := [.int (nI c), .int v]) (rest := [.int (nI (ms2.length)), .ref (mw_a E (57 + t))]) C Z hP hS (cX_turned l E ςa c (by omega) v) sb_X8_turned tw_3_100 ⟨rfl, rfl⟩ ⟨Nat.le_of_ble_eq_true rfl, Nat.le_of_ble_eq_true rfl⟩ rfl hl.1 rfl (Nat.le_of_ble_eq_true rfl) dX8_tell_153 ⟨Nat.zero_le _, Nat.zero_le _⟩ (fun r27 u28 H locs q29 hP hS => ?_)
                          obtain ⟨rfl, q29u⟩ := q29
                          rw [q29u] at hP; clear q29u
                          refine mw_iast C Z hP hS (57 + t) (ms2.length) (by omega) (sx_tk (by omega)) (Nat.lt_of_lt_of_le (by decide : 40 < 961) (Nat.le_of_ble_eq_true rfl)) rfl (by omega) dX8_tell_156 (fun H locs hP hS => ?_)
                          refine lv_goto (tgt := 199) C.1 C.2.1 dX8_tell_157 (by decide) ?_
                          refine lv_iinc (v := nI (z.1.length + q + 1)) (lv' := [(5, .int (nI (z.1.length + q + 1))), (6, .int (nI c)), (0, .ref (mw_a E (39 + t))), (1, .int 1), (2, .ref (mw_a E (s))), (3, .ref (mw_a E (cp))), (4, .int (nI (ms2.length + 1)))]) C.1 C.2.1 dX8_tell_199 hl (k := 6) rfl (nI_1 _) (by decide) rfl (fun ls hl => ?_)
                          refine lv_goto (tgt := 32) C.1 C.2.1 dX8_tell_202 (by decide) ?_
                          exact iha (q + 1) rs9 (turF c v :: ms2) (mw_sa ςa (57 + t) (ms2.length) (turF c v)) _ _ (by omega) (fun i hi => by have y := hseg (i + 1) (by rw [List.length_cons]; omega); rw [show z.1.length + q + (i + 1) = z.1.length + (q + 1) + i by omega] at y; exact y) (by rw [List.length_cons] at hq; omega) (by rw [← hrun, ruF_cons, show stF (evP (σ.1 s) (σ.1 cp)) c (v :: ms2) = turF c v :: ms2 by unfold stF turF; rcases hun with rfl | rfl <;> rfl]) (by have y := hok.2; unfold hgt at y; rw [if_neg (by omega), if_pos hun] at y; exact y) (by have y := hfin; unfold hgts hgt at y; rw [if_neg (by omega), if_pos hun] at y; exact y) (by rw [List.length_cons]; omega) ⟨fra.1.sa ht _ _, by rw [sa_self]; exact stk_push _ (stk_tl fra.2)⟩ hP hS ls (lv_sub hl [2, 3, 4, 5, 6, 0] rfl)
                  · have hc100 : 100 ≤ c := by have := (not_congr (nI_ltI (b := 100) (by omega) (by decide))).mp c15; omega
                    refine lv_iload C.1 C.2.1 dX8_tell_73 (lv_at hl 5 rfl) ?_
                    refine lv_bipush (v := 40) C.1 C.2.1 dX8_tell_75 (by decide) ?_
                    refine lv_icmp_ge (tgt := 199) C.1 C.2.1 dX8_tell_77 (by decide) (fun c30 => ?_) (fun c30 => ?_)
                    · exact absurd ((nI_leI (a := 40) (by decide) (by unfold okS at hc; omega)).mp c30) (by unfold okS at hc; omega)
                    · have hlt40 : ms.length < 40 := by unfold okS at hc; omega
                      refine lv_aload_n C.1 C.2.1 dX8_tell_80 rfl (lv_at hl 1 rfl) ?_
                      refine mw_getr C Z hP (39 + t) 2 (57 + t) (by omega) (sx_tx (by omega)) rfl rfl (by decide) inX8 tw_1_178 dX8_tell_81 ?_
                      refine lv_iload C.1 C.2.1 dX8_tell_84 (lv_at hl 5 rfl) ?_
                      refine lv_iload C.1 C.2.1 dX8_tell_86 (lv_at hl 0 rfl) ?_
                      refine lv_bipush (v := 100) C.1 C.2.1 dX8_tell_88 (by decide) ?_
                      refine lv_icmp_lt (tgt := 101) C.1 C.2.1 dX8_tell_90 (by decide) (fun c31 => ?_) (fun c31 => ?_)
                      · exfalso; have := (nI_ltI (b := 100) (by omega) (by decide)).mp c31; omega
                      · have hc100 : 100 ≤ c := by have := (not_congr (nI_ltI (b := 100) (by omega) (by decide))).mp c31; omega
                        refine lv_iload C.1 C.2.1 dX8_tell_93 (lv_at hl 0 rfl) ?_
                        refine lv_bipush (v := 100) C.1 C.2.1 dX8_tell_95 (by decide) ?_
                        refine lv_isub C.1 C.2.1 dX8_tell_97 ?_
                        refine mw_top (y := nI (c - 100)) (pk_sub (b := 100) (by omega)) ?_
                        refine lv_goto (tgt := 108) C.1 C.2.1 dX8_tell_98 (by decide) ?_
                        refine mw_iast C Z hP hS (57 + t) (ms.length) (by omega) (sx_tk (by omega)) (Nat.lt_of_lt_of_le (by decide : 40 < 961) (Nat.le_of_ble_eq_true rfl)) rfl (by omega) dX8_tell_108 (fun H locs hP hS => ?_)
                        refine lv_iinc (v := nI (ms.length + 1)) (lv' := [(4, .int (nI (ms.length + 1))), (6, .int (nI c)), (0, .ref (mw_a E (39 + t))), (1, .int 1), (2, .ref (mw_a E (s))), (3, .ref (mw_a E (cp))), (5, .int (nI (z.1.length + q)))]) C.1 C.2.1 dX8_tell_109 hl (k := 5) rfl (nI_1 _) (by decide) rfl (fun ls hl => ?_)
                        refine lv_goto (tgt := 199) C.1 C.2.1 dX8_tell_112 (by decide) ?_
                        refine lv_iinc (v := nI (z.1.length + q + 1)) (lv' := [(5, .int (nI (z.1.length + q + 1))), (4, .int (nI (ms.length + 1))), (6, .int (nI c)), (0, .ref (mw_a E (39 + t))), (1, .int 1), (2, .ref (mw_a E (s))), (3, .ref (mw_a E (cp)))]) C.1 C.2.1 dX8_tell_199 hl (k := 6) rfl (nI_1 _) (by decide) rfl (fun ls hl => ?_)
                        refine lv_goto (tgt := 32) C.1 C.2.1 dX8_tell_202 (by decide) ?_
                        exact iha (q + 1) rs9 ((nI (c - 100)) :: ms) (mw_sa ςa (57 + t) (ms.length) (nI (c - 100))) _ _ (by omega) (fun i hi => by have y := hseg (i + 1) (by rw [List.length_cons]; omega); rw [show z.1.length + q + (i + 1) = z.1.length + (q + 1) + i by omega] at y; exact y) (by rw [List.length_cons] at hq; omega) (by rw [← hrun, ruF_cons, show stF (evP (σ.1 s) (σ.1 cp)) c ms = (nI (c - 100)) :: ms by unfold stF; rw [if_neg (by omega), if_pos hc100]]) (by have y := hok.2; unfold hgt at y; rw [if_pos (by omega)] at y; exact y) (by have y := hfin; unfold hgts hgt at y; rw [if_pos (by omega)] at y; exact y) (by rw [List.length_cons]; omega) ⟨fra.1.sa ht _ _, by rw [sa_self]; exact stk_push _ fra.2⟩ hP hS ls (lv_sub hl [3, 4, 5, 6, 1, 0] rfl)
        exact lpa (z.2.1.length + 1) 0 (z.2.1) ([]) σ _ _ (by omega) (fun i hi => by rw [Nat.add_zero]; exact hsg.1 i hi) (by omega) (rfl) ((hsg.2 0 40 (by decide)).1) ((hsg.2 0 40 (by decide)).2) (by decide) ⟨xFs.rf σ, stk_nil _⟩ hP hS ls (lv_sub hl [2, 3, 4, 5, 1, 0] rfl)
      · exact absurd c3 (by decide)
    · exact absurd c2 (by decide)

set_option maxHeartbeats 4000000 in
set_option maxRecDepth 100000 in
theorem cX_tell2 (l : Launch) (E : mw_E) (σ : mw_M) (t : Nat) (z : zP) (hx : xTx σ t z) (s : Nat) (hs : s < 3) (cp : Nat) (hcp : 6 ≤ cp ∧ cp < 30) : mw_Ci shX 75 gX l yX8_tell cX8_tell 7 (some .int) (rmF 3 106) E [.ref (mw_a E (39 + t)), .int 2, .ref (mw_a E (s)), .ref (mw_a E (cp))] σ (fun r u => r = tellP z 2 (σ.1 s) (σ.1 cp) ∧ xFs σ u) := by
  refine mw_of (by decide) gX_ok (Nat.le_of_ble_eq_true rfl) ?_
  intro p_ e_ s_ m_ below meth c_ C hr hlk Z hP ls hl
  have C : CallFix p_ m_ c_ cX8_tell 7 s_ _ lw_good RX8 := C
  have hl : lv_has ls 7 [(0, .ref (mw_a E (39 + t))), (1, .int 2), (2, .ref (mw_a E (s))), (3, .ref (mw_a E (cp)))] := hl
  have hS : va_S (mw_A 75 E) s_.heap s_.heap [] := va_S.rf
  obtain ⟨ht, he0, he1, he2, hle, hs0, hs1, hs2⟩ := hx
  have hsg := hs2
  have hend : σ.2.1 (51 + t) 2 = nI ((z.1.length + z.2.1.length) + z.2.2.length) := he2
  refine lv_iload_n C.1 C.2.1 dX8_tell_0 rfl (lv_at hl 1 rfl) ?_
  refine lv_if_lt (tgt := 9) C.1 C.2.1 dX8_tell_1 (by decide) (fun c1 => ?_) (fun c1 => ?_)
  · exact absurd c1 (by decide)
  · refine lv_iload_n C.1 C.2.1 dX8_tell_4 rfl (lv_at hl 1 rfl) ?_
    refine lv_iconst (v := 3) C.1 C.2.1 dX8_tell_5 (by decide) ?_
    refine lv_icmp_lt (tgt := 11) C.1 C.2.1 dX8_tell_6 (by decide) (fun c2 => ?_) (fun c2 => ?_)
    · refine lv_iconst (v := 0) C.1 C.2.1 dX8_tell_11 (by decide) ?_
      refine lv_istore (lv' := [(4, .int 0), (0, .ref (mw_a E (39 + t))), (1, .int 2), (2, .ref (mw_a E (s))), (3, .ref (mw_a E (cp)))]) C.1 C.2.1 dX8_tell_12 hl (by decide) rfl (fun ls hl => ?_)
      refine lv_iload_n C.1 C.2.1 dX8_tell_14 rfl (lv_at hl 2 rfl) ?_
      refine lv_if_ne (tgt := 22) C.1 C.2.1 dX8_tell_15 (by decide) (fun c3 => ?_) (fun c3 => ?_)
      · refine lv_aload_n C.1 C.2.1 dX8_tell_22 rfl (lv_at hl 1 rfl) ?_
        refine mw_getr C Z hP (39 + t) 1 (51 + t) (by omega) (sx_tx (by omega)) rfl rfl (by decide) inX8 tw_1_177 dX8_tell_23 ?_
        refine lv_iload_n C.1 C.2.1 dX8_tell_26 rfl (lv_at hl 2 rfl) ?_
        refine lv_iconst (v := 1) C.1 C.2.1 dX8_tell_27 (by decide) ?_
        refine lv_isub C.1 C.2.1 dX8_tell_28 ?_
        refine mw_top (y := 1) (by decide) ?_
        refine mw_iald C Z hP (51 + t) (1) (by omega) (sx_te (by omega)) (Nat.lt_of_lt_of_le (by decide : 3 < 961) (Nat.le_of_ble_eq_true rfl)) rfl (by decide) dX8_tell_29 ?_
        refine mw_top (y := nI (z.1.length + z.2.1.length)) (he1) ?_
        refine lv_istore (lv' := [(5, .int (nI (z.1.length + z.2.1.length))), (4, .int 0), (0, .ref (mw_a E (39 + t))), (1, .int 2), (2, .ref (mw_a E (s))), (3, .ref (mw_a E (cp)))]) C.1 C.2.1 dX8_tell_30 hl (by decide) rfl (fun ls hl => ?_)
        have lpa : ∀ (N : Nat) (q : Nat) (rs : List Nat) (ms : List Int32) (ςa : mw_M) (H : Heap) (locs : List Loc), z.2.2.length + 1 ≤ q + N → (∀ i, i < rs.length → σ.2.1 (45 + t) ((z.1.length + z.2.1.length) + q + i) = nI (rs.getD i 0)) → (q + rs.length = z.2.2.length) → (ruF (evP (σ.1 s) (σ.1 cp)) rs ms = ruF (evP (σ.1 s) (σ.1 cp)) z.2.2 []) → (okH rs ms.length 40) → (hgts rs ms.length = 1) → (ms.length ≤ 40) → xTl σ t ms ςa → va_P (mw_D E) vwCl (mw_ws shX 75 E ςa) H → va_S (mw_A 75 E) s_.heap H locs → ∀ (ls : Array Slot), lv_has ls 7 [(0, .ref (mw_a E (39 + t))), (1, .int 2), (2, .ref (mw_a E (s))), (3, .ref (mw_a E (cp))), (4, .int (nI ms.length)), (5, .int (nI ((z.1.length + z.2.1.length) + q)))] → xWi p_ l e_ (rmF 3 106) s_ m_ [.ref (mw_a E (39 + t)), .int 2, .ref (mw_a E (s)), .ref (mw_a E (cp))] below meth c_ E (fun r u => r = tellP z 2 (σ.1 s) (σ.1 cp) ∧ xFs σ u) H locs (F0 m_ 32 ls []) := by
          intro N
          induction N with
          | zero => intros; exfalso; omega
          | succ N iha =>
            intro q rs ms ςa H locs hNa hseg hq hrun hok hfin h40 fra hP hS ls hl
            refine lv_iload C.1 C.2.1 dX8_tell_32 (lv_at hl 5 rfl) ?_
            refine lv_aload_n C.1 C.2.1 dX8_tell_34 rfl (lv_at hl 0 rfl) ?_
            refine mw_getr C Z hP (39 + t) 1 (51 + t) (by omega) (sx_tx (by omega)) rfl rfl (by decide) inX8 tw_1_177 dX8_tell_35 ?_
            refine lv_iload_n C.1 C.2.1 dX8_tell_38 rfl (lv_at hl 1 rfl) ?_
            refine mw_iald C Z hP (51 + t) (2) (by omega) (sx_te (by omega)) (Nat.lt_of_lt_of_le (by decide : 3 < 961) (Nat.le_of_ble_eq_true rfl)) rfl (by decide) dX8_tell_39 ?_
            refine mw_top (y := nI ((z.1.length + z.2.1.length) + z.2.2.length)) ((congrFun (fra.1.2.2 _ (by omega)) _).trans hend) ?_
            refine lv_icmp_ge (tgt := 205) C.1 C.2.1 dX8_tell_40 (by decide) (fun c4 => ?_) (fun c4 => ?_)
            · have c4 := (nI_leI (by omega) (by omega)).mp c4
              refine lv_aload_n C.1 C.2.1 dX8_tell_205 rfl (lv_at hl 0 rfl) ?_
              refine mw_getr C Z hP (39 + t) 2 (57 + t) (by omega) (sx_tx (by omega)) rfl rfl (by decide) inX8 tw_1_178 dX8_tell_206 ?_
              refine lv_iconst (v := 0) C.1 C.2.1 dX8_tell_209 (by decide) ?_
              refine mw_iald C Z hP (57 + t) (0) (by omega) (sx_tk (by omega)) (Nat.lt_of_lt_of_le (by decide : 40 < 961) (Nat.le_of_ble_eq_true rfl)) rfl (by decide) dX8_tell_210 ?_
              refine lv_bipush (v := 99) C.1 C.2.1 dX8_tell_211 (by decide) ?_
              refine mw_cSiN (As := [.int (ςa.2.1 (57 + t) 0), .int 99]) (rest := []) C Z hP hS (cX_bounded l E ςa (ςa.2.1 (57 + t) 0) 99 (by decide)) sb_X11_bounded Z.2.2.1.2.2.2.2.2.1 ⟨rfl, rfl⟩ ⟨Nat.le_of_ble_eq_true rfl, Nat.le_of_ble_eq_true rfl⟩ rfl hl.1 rfl (Nat.le_of_ble_eq_true rfl) dX8_tell_213 ⟨Nat.zero_le _, Nat.zero_le _⟩ (fun r5 u6 H locs q7 hP hS => ?_)
              obtain ⟨rfl, q7u⟩ := q7
              rw [q7u] at hP; clear q7u
              have er : rs = [] := by cases rs with | nil => rfl | cons a b => rw [List.length_cons] at hq; omega
              subst er
              have hm1 : ms.length = 1 := hfin
              have ev : ςa.2.1 (57 + t) 0 = vaF (evP (σ.1 s) (σ.1 cp)) z.2.2 := by rw [fra.2 0 (by omega), hm1]; unfold vaF; rw [← hrun]; show ms.getD 0 0 = ms.headD 0; cases ms <;> rfl
              exact mw_iret C hr hlk Z hP hS dX8_tell_216 (⟨by unfold tellP ptF; rw [ev]; rfl, fra.1⟩)
            · have c4 : _ := (not_congr (nI_leI (by omega) (by omega))).mp c4
              obtain ⟨c, rs9, ers⟩ : ∃ c r, rs = c :: r := (by cases rs with | nil => exact absurd hq (by show ¬ q + 0 = _; omega) | cons a b => exact ⟨a, b, rfl⟩)
              subst ers
              have hc : okS c ms.length 40 := hok.1
              have hcb : c < 20000 := (by unfold okS at hc; omega)
              refine lv_iload C.1 C.2.1 dX8_tell_43 (lv_at hl 5 rfl) ?_
              refine lv_sipush (v := 160) C.1 C.2.1 dX8_tell_45 (by decide) ?_
              refine lv_icmp_ge (tgt := 205) C.1 C.2.1 dX8_tell_48 (by decide) (fun c8 => ?_) (fun c8 => ?_)
              · exact absurd ((nI_leI (a := 160) (by decide) (by omega)).mp c8) (by omega)
              · refine lv_aload_n C.1 C.2.1 dX8_tell_51 rfl (lv_at hl 0 rfl) ?_
                refine mw_getr C Z hP (39 + t) 0 (45 + t) (by omega) (sx_tx (by omega)) rfl rfl (by decide) inX8 tw_1_176 dX8_tell_52 ?_
                refine lv_iload C.1 C.2.1 dX8_tell_55 (lv_at hl 5 rfl) ?_
                refine mw_iald C Z hP (45 + t) ((z.1.length + z.2.1.length) + q) (by omega) (sx_ts (by omega)) (Nat.lt_of_lt_of_le (by decide : 160 < 961) (Nat.le_of_ble_eq_true rfl)) rfl (by omega) dX8_tell_57 ?_
                refine mw_top (y := nI c) ((congrFun (fra.1.2.2 _ (by omega)) _).trans (hseg 0 (by rw [List.length_cons]; omega))) ?_
                refine lv_istore (lv' := [(6, .int (nI c)), (0, .ref (mw_a E (39 + t))), (1, .int 2), (2, .ref (mw_a E (s))), (3, .ref (mw_a E (cp))), (4, .int (nI ms.length)), (5, .int (nI ((z.1.length + z.2.1.length) + q)))]) C.1 C.2.1 dX8_tell_58 hl (by decide) rfl (fun ls hl => ?_)
                refine lv_iload C.1 C.2.1 dX8_tell_60 (lv_at hl 0 rfl) ?_
                refine lv_iconst (v := 5) C.1 C.2.1 dX8_tell_62 (by decide) ?_
                refine lv_icmp_le (tgt := 73) C.1 C.2.1 dX8_tell_63 (by decide) (fun c9 => ?_) (fun c9 => ?_)
                · have hc5 : c ≤ 5 := (nI_leI (b := 5) (by omega) (by decide)).mp c9
                  refine lv_iload C.1 C.2.1 dX8_tell_73 (lv_at hl 5 rfl) ?_
                  refine lv_bipush (v := 40) C.1 C.2.1 dX8_tell_75 (by decide) ?_
                  refine lv_icmp_ge (tgt := 199) C.1 C.2.1 dX8_tell_77 (by decide) (fun c10 => ?_) (fun c10 => ?_)
                  · exact absurd ((nI_leI (a := 40) (by decide) (by unfold okS at hc; omega)).mp c10) (by unfold okS at hc; omega)
                  · have hlt40 : ms.length < 40 := by unfold okS at hc; omega
                    refine lv_aload_n C.1 C.2.1 dX8_tell_80 rfl (lv_at hl 1 rfl) ?_
                    refine mw_getr C Z hP (39 + t) 2 (57 + t) (by omega) (sx_tx (by omega)) rfl rfl (by decide) inX8 tw_1_178 dX8_tell_81 ?_
                    refine lv_iload C.1 C.2.1 dX8_tell_84 (lv_at hl 5 rfl) ?_
                    refine lv_iload C.1 C.2.1 dX8_tell_86 (lv_at hl 0 rfl) ?_
                    refine lv_bipush (v := 100) C.1 C.2.1 dX8_tell_88 (by decide) ?_
                    refine lv_icmp_lt (tgt := 101) C.1 C.2.1 dX8_tell_90 (by decide) (fun c11 => ?_) (fun c11 => ?_)
                    · have hc5 : c ≤ 5 := by have := (nI_ltI (b := 100) (by omega) (by decide)).mp c11; omega
                      refine lv_iload C.1 C.2.1 dX8_tell_101 (lv_at hl 0 rfl) ?_
                      refine lv_aload_n C.1 C.2.1 dX8_tell_103 rfl (lv_at hl 3 rfl) ?_
                      refine lv_aload_n C.1 C.2.1 dX8_tell_104 rfl (lv_at hl 4 rfl) ?_
                      refine mw_cSi (As := [.int (nI c), .ref (mw_a E (s)), .ref (mw_a E (cp))]) (rest := [.int (nI ms.length), .ref (mw_a E (57 + t))]) C Z hP hS (cX_named l E ςa c hc5 s hs cp hcp) sb_X8_named tw_3_97 ⟨rfl, rfl⟩ ⟨Nat.le_of_ble_eq_true rfl, Nat.le_of_ble_eq_true rfl⟩ rfl hl.1 rfl (Nat.le_of_ble_eq_true rfl) dX8_tell_105 ⟨Nat.zero_le _, Nat.zero_le _⟩ (fun r12 u13 H locs q14 hP hS => ?_)
                      rw [fra.1.1] at q14
                      obtain ⟨rfl, q14u⟩ := q14
                      rw [q14u] at hP; clear q14u
                      refine mw_iast C Z hP hS (57 + t) (ms.length) (by omega) (sx_tk (by omega)) (Nat.lt_of_lt_of_le (by decide : 40 < 961) (Nat.le_of_ble_eq_true rfl)) rfl (by omega) dX8_tell_108 (fun H locs hP hS => ?_)
                      refine lv_iinc (v := nI (ms.length + 1)) (lv' := [(4, .int (nI (ms.length + 1))), (6, .int (nI c)), (0, .ref (mw_a E (39 + t))), (1, .int 2), (2, .ref (mw_a E (s))), (3, .ref (mw_a E (cp))), (5, .int (nI ((z.1.length + z.2.1.length) + q)))]) C.1 C.2.1 dX8_tell_109 hl (k := 5) rfl (nI_1 _) (by decide) rfl (fun ls hl => ?_)
                      refine lv_goto (tgt := 199) C.1 C.2.1 dX8_tell_112 (by decide) ?_
                      refine lv_iinc (v := nI ((z.1.length + z.2.1.length) + q + 1)) (lv' := [(5, .int (nI ((z.1.length + z.2.1.length) + q + 1))), (4, .int (nI (ms.length + 1))), (6, .int (nI c)), (0, .ref (mw_a E (39 + t))), (1, .int 2), (2, .ref (mw_a E (s))), (3, .ref (mw_a E (cp)))]) C.1 C.2.1 dX8_tell_199 hl (k := 6) rfl (nI_1 _) (by decide) rfl (fun ls hl => ?_)
                      refine lv_goto (tgt := 32) C.1 C.2.1 dX8_tell_202 (by decide) ?_
                      exact iha (q + 1) rs9 ((evP (σ.1 s) (σ.1 cp) c) :: ms) (mw_sa ςa (57 + t) (ms.length) (evP (σ.1 s) (σ.1 cp) c)) _ _ (by omega) (fun i hi => by have y := hseg (i + 1) (by rw [List.length_cons]; omega); rw [show (z.1.length + z.2.1.length) + q + (i + 1) = (z.1.length + z.2.1.length) + (q + 1) + i by omega] at y; exact y) (by rw [List.length_cons] at hq; omega) (by rw [← hrun, ruF_cons, show stF (evP (σ.1 s) (σ.1 cp)) c ms = (evP (σ.1 s) (σ.1 cp) c) :: ms by unfold stF; rw [if_pos hc5]]) (by have y := hok.2; unfold hgt at y; rw [if_pos (by omega)] at y; exact y) (by have y := hfin; unfold hgts hgt at y; rw [if_pos (by omega)] at y; exact y) (by rw [List.length_cons]; omega) ⟨fra.1.sa ht _ _, by rw [sa_self]; exact stk_push _ fra.2⟩ hP hS ls (lv_sub hl [3, 4, 5, 6, 1, 0] rfl)
                    · exfalso; have := (not_congr (nI_ltI (b := 100) (by omega) (by decide))).mp c11; omega
                · have hc5 : ¬ c ≤ 5 := (not_congr (nI_leI (b := 5) (by omega) (by decide))).mp c9
                  refine lv_iload C.1 C.2.1 dX8_tell_66 (lv_at hl 0 rfl) ?_
                  refine lv_bipush (v := 100) C.1 C.2.1 dX8_tell_68 (by decide) ?_
                  refine lv_icmp_lt (tgt := 115) C.1 C.2.1 dX8_tell_70 (by decide) (fun c15 => ?_) (fun c15 => ?_)
                  · have hc100 : ¬ 100 ≤ c := by have := (nI_ltI (b := 100) (by omega) (by decide)).mp c15; omega
                    refine lv_iload C.1 C.2.1 dX8_tell_115 (lv_at hl 0 rfl) ?_
                    refine lv_bipush (v := 11) C.1 C.2.1 dX8_tell_117 (by decide) ?_
                    refine lv_icmp_eq (tgt := 129) C.1 C.2.1 dX8_tell_119 (by decide) (fun c16 => ?_) (fun c16 => ?_)
                    · have hun : c = 11 ∨ c = 20 := Or.inl ((nI_eq (b := 11) (by omega) (by decide)).mp c16)
                      refine lv_iload C.1 C.2.1 dX8_tell_129 (lv_at hl 5 rfl) ?_
                      refine lv_if_le (tgt := 199) C.1 C.2.1 dX8_tell_131 (by decide) (fun c17 => ?_) (fun c17 => ?_)
                      · exact absurd ((nI_leI (b := 0) (by unfold okS at hc; omega) (by decide)).mp c17) (by unfold okS at hc; omega)
                      · obtain ⟨v, ms2, ems⟩ : ∃ v r, ms = v :: r := (by cases ms with | nil => exact absurd c17 (by decide) | cons a b => exact ⟨a, b, rfl⟩)
                        subst ems
                        have h40 : ms2.length + 1 ≤ 40 := h40
                        have hl : lv_has ls 7 [(6, .int (nI c)), (0, .ref (mw_a E (39 + t))), (1, .int 2), (2, .ref (mw_a E (s))), (3, .ref (mw_a E (cp))), (4, .int (nI (ms2.length + 1))), (5, .int (nI ((z.1.length + z.2.1.length) + q)))] := hl
                        refine lv_aload_n C.1 C.2.1 dX8_tell_134 rfl (lv_at hl 1 rfl) ?_
                        refine mw_getr C Z hP (39 + t) 2 (57 + t) (by omega) (sx_tx (by omega)) rfl rfl (by decide) inX8 tw_1_178 dX8_tell_135 ?_
                        refine lv_iload C.1 C.2.1 dX8_tell_138 (lv_at hl 5 rfl) ?_
                        refine lv_iconst (v := 1) C.1 C.2.1 dX8_tell_140 (by decide) ?_
                        refine lv_isub C.1 C.2.1 dX8_tell_141 ?_
                        refine mw_top (y := nI (ms2.length)) (pk_sub (b := 1) (by omega)) ?_
                        refine lv_iload C.1 C.2.1 dX8_tell_142 (lv_at hl 0 rfl) ?_
                        refine lv_aload_n C.1 C.2.1 dX8_tell_144 rfl (lv_at hl 1 rfl) ?_
                        refine mw_getr C Z hP (39 + t) 2 (57 + t) (by omega) (sx_tx (by omega)) rfl rfl (by decide) inX8 tw_1_178 dX8_tell_145 ?_
                        refine lv_iload C.1 C.2.1 dX8_tell_148 (lv_at hl 5 rfl) ?_
                        refine lv_iconst (v := 1) C.1 C.2.1 dX8_tell_150 (by decide) ?_
                        refine lv_isub C.1 C.2.1 dX8_tell_151 ?_
                        refine mw_top (y := nI (ms2.length)) (pk_sub (b := 1) (by omega)) ?_
                        refine mw_iald C Z hP (57 + t) (ms2.length) (by omega) (sx_tk (by omega)) (Nat.lt_of_lt_of_le (by decide : 40 < 961) (Nat.le_of_ble_eq_true rfl)) rfl (by omega) dX8_tell_152 ?_
                        refine mw_top (y := v) (stk_top fra.2) ?_
                        refine mw_cSi (As := [.int (nI c), .int v]) (rest := [.int (nI (ms2.length)), .ref (mw_a E (57 + t))]) C Z hP hS (cX_turned l E ςa c (by omega) v) sb_X8_turned tw_3_100 ⟨rfl, rfl⟩ ⟨Nat.le_of_ble_eq_true rfl, Nat.le_of_ble_eq_true rfl⟩ rfl hl.1 rfl (Nat.le_of_ble_eq_true rfl) dX8_tell_153 ⟨Nat.zero_le _, Nat.zero_le _⟩ (fun r18 u19 H locs q20 hP hS => ?_)
                        obtain ⟨rfl, q20u⟩ := q20
                        rw [q20u] at hP; clear q20u
                        refine mw_iast C Z hP hS (57 + t) (ms2.length) (by omega) (sx_tk (by omega)) (Nat.lt_of_lt_of_le (by decide : 40 < 961) (Nat.le_of_ble_eq_true rfl)) rfl (by omega) dX8_tell_156 (fun H locs hP hS => ?_)
                        refine lv_goto (tgt := 199) C.1 C.2.1 dX8_tell_157 (by decide) ?_
                        refine lv_iinc (v := nI ((z.1.length + z.2.1.length) + q + 1)) (lv' := [(5, .int (nI ((z.1.length + z.2.1.length) + q + 1))), (6, .int (nI c)), (0, .ref (mw_a E (39 + t))), (1, .int 2), (2, .ref (mw_a E (s))), (3, .ref (mw_a E (cp))), (4, .int (nI (ms2.length + 1)))]) C.1 C.2.1 dX8_tell_199 hl (k := 6) rfl (nI_1 _) (by decide) rfl (fun ls hl => ?_)
                        refine lv_goto (tgt := 32) C.1 C.2.1 dX8_tell_202 (by decide) ?_
                        exact iha (q + 1) rs9 (turF c v :: ms2) (mw_sa ςa (57 + t) (ms2.length) (turF c v)) _ _ (by omega) (fun i hi => by have y := hseg (i + 1) (by rw [List.length_cons]; omega); rw [show (z.1.length + z.2.1.length) + q + (i + 1) = (z.1.length + z.2.1.length) + (q + 1) + i by omega] at y; exact y) (by rw [List.length_cons] at hq; omega) (by rw [← hrun, ruF_cons, show stF (evP (σ.1 s) (σ.1 cp)) c (v :: ms2) = turF c v :: ms2 by unfold stF turF; rcases hun with rfl | rfl <;> rfl]) (by have y := hok.2; unfold hgt at y; rw [if_neg (by omega), if_pos hun] at y; exact y) (by have y := hfin; unfold hgts hgt at y; rw [if_neg (by omega), if_pos hun] at y; exact y) (by rw [List.length_cons]; omega) ⟨fra.1.sa ht _ _, by rw [sa_self]; exact stk_push _ (stk_tl fra.2)⟩ hP hS ls (lv_sub hl [2, 3, 4, 5, 6, 0] rfl)
                    · have hn11 : ¬ c = 11 := (not_congr (nI_eq (b := 11) (by omega) (by decide))).mp c16
                      refine lv_iload C.1 C.2.1 dX8_tell_122 (lv_at hl 0 rfl) ?_
                      refine lv_bipush (v := 20) C.1 C.2.1 dX8_tell_124 (by decide) ?_
                      refine lv_icmp_ne (tgt := 160) C.1 C.2.1 dX8_tell_126 (by decide) (fun c21 => ?_) (fun c21 => ?_)
                      · have hn20 : ¬ c = 20 := (not_congr (nI_eq (b := 20) (by omega) (by decide))).mp c21
                        have hbi : c = 9 ∨ c = 10 ∨ (15 ≤ c ∧ c ≤ 19) := by unfold okS at hc; omega
                        refine lv_iload C.1 C.2.1 dX8_tell_160 (lv_at hl 5 rfl) ?_
                        refine lv_iconst (v := 1) C.1 C.2.1 dX8_tell_162 (by decide) ?_
                        refine lv_icmp_le (tgt := 199) C.1 C.2.1 dX8_tell_163 (by decide) (fun c22 => ?_) (fun c22 => ?_)
                        · exact absurd ((nI_leI (b := 1) (by unfold okS at hc; omega) (by decide)).mp c22) (by unfold okS at hc; omega)
                        · obtain ⟨vb, va, ms2, ems⟩ : ∃ v w r, ms = v :: w :: r := (by cases ms with | nil => exact absurd c22 (by decide) | cons a b => (cases b with | nil => exact absurd (show nI 1 ≤ 1 from by decide) c22 | cons a2 b2 => exact ⟨a, a2, b2, rfl⟩))
                          subst ems
                          have h40 : ms2.length + 1 + 1 ≤ 40 := h40
                          have hl : lv_has ls 7 [(6, .int (nI c)), (0, .ref (mw_a E (39 + t))), (1, .int 2), (2, .ref (mw_a E (s))), (3, .ref (mw_a E (cp))), (4, .int (nI (ms2.length + 1 + 1))), (5, .int (nI ((z.1.length + z.2.1.length) + q)))] := hl
                          refine lv_iinc (v := nI (ms2.length + 1)) (lv' := [(4, .int (nI (ms2.length + 1))), (6, .int (nI c)), (0, .ref (mw_a E (39 + t))), (1, .int 2), (2, .ref (mw_a E (s))), (3, .ref (mw_a E (cp))), (5, .int (nI ((z.1.length + z.2.1.length) + q)))]) C.1 C.2.1 dX8_tell_166 hl (k := 5) rfl (pk_m1 _) (by decide) rfl (fun ls hl => ?_)
                          refine lv_aload_n C.1 C.2.1 dX8_tell_169 rfl (lv_at hl 2 rfl) ?_
                          refine mw_getr C Z hP (39 + t) 2 (57 + t) (by omega) (sx_tx (by omega)) rfl rfl (by decide) inX8 tw_1_178 dX8_tell_170 ?_
                          refine lv_iload C.1 C.2.1 dX8_tell_173 (lv_at hl 0 rfl) ?_
                          refine lv_iconst (v := 1) C.1 C.2.1 dX8_tell_175 (by decide) ?_
                          refine lv_isub C.1 C.2.1 dX8_tell_176 ?_
                          refine mw_top (y := nI (ms2.length)) (pk_sub (b := 1) (by omega)) ?_
                          refine lv_iload C.1 C.2.1 dX8_tell_177 (lv_at hl 1 rfl) ?_
                          refine lv_aload_n C.1 C.2.1 dX8_tell_179 rfl (lv_at hl 2 rfl) ?_
                          refine mw_getr C Z hP (39 + t) 2 (57 + t) (by omega) (sx_tx (by omega)) rfl rfl (by decide) inX8 tw_1_178 dX8_tell_180 ?_
                          refine lv_iload C.1 C.2.1 dX8_tell_183 (lv_at hl 0 rfl) ?_
                          refine lv_iconst (v := 1) C.1 C.2.1 dX8_tell_185 (by decide) ?_
                          refine lv_isub C.1 C.2.1 dX8_tell_186 ?_
                          refine mw_top (y := nI (ms2.length)) (pk_sub (b := 1) (by omega)) ?_
                          refine mw_iald C Z hP (57 + t) (ms2.length) (by omega) (sx_tk (by omega)) (Nat.lt_of_lt_of_le (by decide : 40 < 961) (Nat.le_of_ble_eq_true rfl)) rfl (by omega) dX8_tell_187 ?_
                          refine mw_top (y := va) (stk_top (stk_tl fra.2)) ?_
                          refine lv_aload_n C.1 C.2.1 dX8_tell_188 rfl (lv_at hl 2 rfl) ?_
                          refine mw_getr C Z hP (39 + t) 2 (57 + t) (by omega) (sx_tx (by omega)) rfl rfl (by decide) inX8 tw_1_178 dX8_tell_189 ?_
                          refine lv_iload C.1 C.2.1 dX8_tell_192 (lv_at hl 0 rfl) ?_
                          refine mw_iald C Z hP (57 + t) (ms2.length + 1) (by omega) (sx_tk (by omega)) (Nat.lt_of_lt_of_le (by decide : 40 < 961) (Nat.le_of_ble_eq_true rfl)) rfl (by omega) dX8_tell_194 ?_
                          refine mw_top (y := vb) (stk_top fra.2) ?_
                          refine mw_cSi (As := [.int (nI c), .int va, .int vb]) (rest := [.int (nI (ms2.length)), .ref (mw_a E (57 + t))]) C Z hP hS (cX_joined l E ςa c hbi va vb) sb_X8_joined tw_3_103 ⟨rfl, rfl⟩ ⟨Nat.le_of_ble_eq_true rfl, Nat.le_of_ble_eq_true rfl⟩ rfl hl.1 rfl (Nat.le_of_ble_eq_true rfl) dX8_tell_195 ⟨Nat.zero_le _, Nat.zero_le _⟩ (fun r23 u24 H locs q25 hP hS => ?_)
                          obtain ⟨rfl, q25u⟩ := q25
                          rw [q25u] at hP; clear q25u
                          refine mw_iast C Z hP hS (57 + t) (ms2.length) (by omega) (sx_tk (by omega)) (Nat.lt_of_lt_of_le (by decide : 40 < 961) (Nat.le_of_ble_eq_true rfl)) rfl (by omega) dX8_tell_198 (fun H locs hP hS => ?_)
                          refine lv_iinc (v := nI ((z.1.length + z.2.1.length) + q + 1)) (lv' := [(5, .int (nI ((z.1.length + z.2.1.length) + q + 1))), (4, .int (nI (ms2.length + 1))), (6, .int (nI c)), (0, .ref (mw_a E (39 + t))), (1, .int 2), (2, .ref (mw_a E (s))), (3, .ref (mw_a E (cp)))]) C.1 C.2.1 dX8_tell_199 hl (k := 6) rfl (nI_1 _) (by decide) rfl (fun ls hl => ?_)
                          refine lv_goto (tgt := 32) C.1 C.2.1 dX8_tell_202 (by decide) ?_
                          exact iha (q + 1) rs9 (opF c va vb :: ms2) (mw_sa ςa (57 + t) (ms2.length) (opF c va vb)) _ _ (by omega) (fun i hi => by have y := hseg (i + 1) (by rw [List.length_cons]; omega); rw [show (z.1.length + z.2.1.length) + q + (i + 1) = (z.1.length + z.2.1.length) + (q + 1) + i by omega] at y; exact y) (by rw [List.length_cons] at hq; omega) (by rw [← hrun, ruF_cons, show stF (evP (σ.1 s) (σ.1 cp)) c (vb :: va :: ms2) = opF c va vb :: ms2 by unfold stF; rw [if_neg (by omega), if_neg (by omega), if_neg (by omega), if_neg (by omega)]]) (by have y := hok.2; unfold hgt at y; rw [if_neg (by omega), if_neg (by omega)] at y; exact y) (by have y := hfin; unfold hgts hgt at y; rw [if_neg (by omega), if_neg (by omega)] at y; exact y) (by rw [List.length_cons]; omega) ⟨fra.1.sa ht _ _, by rw [sa_self]; exact stk_push _ (stk_tl (stk_tl fra.2))⟩ hP hS ls (lv_sub hl [3, 4, 5, 6, 1, 0] rfl)
                      · have hun : c = 11 ∨ c = 20 := Or.inr ((nI_eq (b := 20) (by omega) (by decide)).mp c21)
                        refine lv_iload C.1 C.2.1 dX8_tell_129 (lv_at hl 5 rfl) ?_
                        refine lv_if_le (tgt := 199) C.1 C.2.1 dX8_tell_131 (by decide) (fun c26 => ?_) (fun c26 => ?_)
                        · exact absurd ((nI_leI (b := 0) (by unfold okS at hc; omega) (by decide)).mp c26) (by unfold okS at hc; omega)
                        · obtain ⟨v, ms2, ems⟩ : ∃ v r, ms = v :: r := (by cases ms with | nil => exact absurd c26 (by decide) | cons a b => exact ⟨a, b, rfl⟩)
                          subst ems
                          have h40 : ms2.length + 1 ≤ 40 := h40
                          have hl : lv_has ls 7 [(6, .int (nI c)), (0, .ref (mw_a E (39 + t))), (1, .int 2), (2, .ref (mw_a E (s))), (3, .ref (mw_a E (cp))), (4, .int (nI (ms2.length + 1))), (5, .int (nI ((z.1.length + z.2.1.length) + q)))] := hl
                          refine lv_aload_n C.1 C.2.1 dX8_tell_134 rfl (lv_at hl 1 rfl) ?_
                          refine mw_getr C Z hP (39 + t) 2 (57 + t) (by omega) (sx_tx (by omega)) rfl rfl (by decide) inX8 tw_1_178 dX8_tell_135 ?_
                          refine lv_iload C.1 C.2.1 dX8_tell_138 (lv_at hl 5 rfl) ?_
                          refine lv_iconst (v := 1) C.1 C.2.1 dX8_tell_140 (by decide) ?_
                          refine lv_isub C.1 C.2.1 dX8_tell_141 ?_
                          refine mw_top (y := nI (ms2.length)) (pk_sub (b := 1) (by omega)) ?_
                          refine lv_iload C.1 C.2.1 dX8_tell_142 (lv_at hl 0 rfl) ?_
                          refine lv_aload_n C.1 C.2.1 dX8_tell_144 rfl (lv_at hl 1 rfl) ?_
                          refine mw_getr C Z hP (39 + t) 2 (57 + t) (by omega) (sx_tx (by omega)) rfl rfl (by decide) inX8 tw_1_178 dX8_tell_145 ?_
                          refine lv_iload C.1 C.2.1 dX8_tell_148 (lv_at hl 5 rfl) ?_
                          refine lv_iconst (v := 1) C.1 C.2.1 dX8_tell_150 (by decide) ?_
                          refine lv_isub C.1 C.2.1 dX8_tell_151 ?_
                          refine mw_top (y := nI (ms2.length)) (pk_sub (b := 1) (by omega)) ?_
                          refine mw_iald C Z hP (57 + t) (ms2.length) (by omega) (sx_tk (by omega)) (Nat.lt_of_lt_of_le (by decide : 40 < 961) (Nat.le_of_ble_eq_true rfl)) rfl (by omega) dX8_tell_152 ?_
                          refine mw_top (y := v) (stk_top fra.2) ?_
                          refine mw_cSi (As := [.int (nI c), .int v]) (rest := [.int (nI (ms2.length)), .ref (mw_a E (57 + t))]) C Z hP hS (cX_turned l E ςa c (by omega) v) sb_X8_turned tw_3_100 ⟨rfl, rfl⟩ ⟨Nat.le_of_ble_eq_true rfl, Nat.le_of_ble_eq_true rfl⟩ rfl hl.1 rfl (Nat.le_of_ble_eq_true rfl) dX8_tell_153 ⟨Nat.zero_le _, Nat.zero_le _⟩ (fun r27 u28 H locs q29 hP hS => ?_)
                          obtain ⟨rfl, q29u⟩ := q29
                          rw [q29u] at hP; clear q29u
                          refine mw_iast C Z hP hS (57 + t) (ms2.length) (by omega) (sx_tk (by omega)) (Nat.lt_of_lt_of_le (by decide : 40 < 961) (Nat.le_of_ble_eq_true rfl)) rfl (by omega) dX8_tell_156 (fun H locs hP hS => ?_)
                          refine lv_goto (tgt := 199) C.1 C.2.1 dX8_tell_157 (by decide) ?_
                          refine lv_iinc (v := nI ((z.1.length + z.2.1.length) + q + 1)) (lv' := [(5, .int (nI ((z.1.length + z.2.1.length) + q + 1))), (6, .int (nI c)), (0, .ref (mw_a E (39 + t))), (1, .int 2), (2, .ref (mw_a E (s))), (3, .ref (mw_a E (cp))), (4, .int (nI (ms2.length + 1)))]) C.1 C.2.1 dX8_tell_199 hl (k := 6) rfl (nI_1 _) (by decide) rfl (fun ls hl => ?_)
                          refine lv_goto (tgt := 32) C.1 C.2.1 dX8_tell_202 (by decide) ?_
                          exact iha (q + 1) rs9 (turF c v :: ms2) (mw_sa ςa (57 + t) (ms2.length) (turF c v)) _ _ (by omega) (fun i hi => by have y := hseg (i + 1) (by rw [List.length_cons]; omega); rw [show (z.1.length + z.2.1.length) + q + (i + 1) = (z.1.length + z.2.1.length) + (q + 1) + i by omega] at y; exact y) (by rw [List.length_cons] at hq; omega) (by rw [← hrun, ruF_cons, show stF (evP (σ.1 s) (σ.1 cp)) c (v :: ms2) = turF c v :: ms2 by unfold stF turF; rcases hun with rfl | rfl <;> rfl]) (by have y := hok.2; unfold hgt at y; rw [if_neg (by omega), if_pos hun] at y; exact y) (by have y := hfin; unfold hgts hgt at y; rw [if_neg (by omega), if_pos hun] at y; exact y) (by rw [List.length_cons]; omega) ⟨fra.1.sa ht _ _, by rw [sa_self]; exact stk_push _ (stk_tl fra.2)⟩ hP hS ls (lv_sub hl [2, 3, 4, 5, 6, 0] rfl)
                  · have hc100 : 100 ≤ c := by have := (not_congr (nI_ltI (b := 100) (by omega) (by decide))).mp c15; omega
                    refine lv_iload C.1 C.2.1 dX8_tell_73 (lv_at hl 5 rfl) ?_
                    refine lv_bipush (v := 40) C.1 C.2.1 dX8_tell_75 (by decide) ?_
                    refine lv_icmp_ge (tgt := 199) C.1 C.2.1 dX8_tell_77 (by decide) (fun c30 => ?_) (fun c30 => ?_)
                    · exact absurd ((nI_leI (a := 40) (by decide) (by unfold okS at hc; omega)).mp c30) (by unfold okS at hc; omega)
                    · have hlt40 : ms.length < 40 := by unfold okS at hc; omega
                      refine lv_aload_n C.1 C.2.1 dX8_tell_80 rfl (lv_at hl 1 rfl) ?_
                      refine mw_getr C Z hP (39 + t) 2 (57 + t) (by omega) (sx_tx (by omega)) rfl rfl (by decide) inX8 tw_1_178 dX8_tell_81 ?_
                      refine lv_iload C.1 C.2.1 dX8_tell_84 (lv_at hl 5 rfl) ?_
                      refine lv_iload C.1 C.2.1 dX8_tell_86 (lv_at hl 0 rfl) ?_
                      refine lv_bipush (v := 100) C.1 C.2.1 dX8_tell_88 (by decide) ?_
                      refine lv_icmp_lt (tgt := 101) C.1 C.2.1 dX8_tell_90 (by decide) (fun c31 => ?_) (fun c31 => ?_)
                      · exfalso; have := (nI_ltI (b := 100) (by omega) (by decide)).mp c31; omega
                      · have hc100 : 100 ≤ c := by have := (not_congr (nI_ltI (b := 100) (by omega) (by decide))).mp c31; omega
                        refine lv_iload C.1 C.2.1 dX8_tell_93 (lv_at hl 0 rfl) ?_
                        refine lv_bipush (v := 100) C.1 C.2.1 dX8_tell_95 (by decide) ?_
                        refine lv_isub C.1 C.2.1 dX8_tell_97 ?_
                        refine mw_top (y := nI (c - 100)) (pk_sub (b := 100) (by omega)) ?_
                        refine lv_goto (tgt := 108) C.1 C.2.1 dX8_tell_98 (by decide) ?_
                        refine mw_iast C Z hP hS (57 + t) (ms.length) (by omega) (sx_tk (by omega)) (Nat.lt_of_lt_of_le (by decide : 40 < 961) (Nat.le_of_ble_eq_true rfl)) rfl (by omega) dX8_tell_108 (fun H locs hP hS => ?_)
                        refine lv_iinc (v := nI (ms.length + 1)) (lv' := [(4, .int (nI (ms.length + 1))), (6, .int (nI c)), (0, .ref (mw_a E (39 + t))), (1, .int 2), (2, .ref (mw_a E (s))), (3, .ref (mw_a E (cp))), (5, .int (nI ((z.1.length + z.2.1.length) + q)))]) C.1 C.2.1 dX8_tell_109 hl (k := 5) rfl (nI_1 _) (by decide) rfl (fun ls hl => ?_)
                        refine lv_goto (tgt := 199) C.1 C.2.1 dX8_tell_112 (by decide) ?_
                        refine lv_iinc (v := nI ((z.1.length + z.2.1.length) + q + 1)) (lv' := [(5, .int (nI ((z.1.length + z.2.1.length) + q + 1))), (4, .int (nI (ms.length + 1))), (6, .int (nI c)), (0, .ref (mw_a E (39 + t))), (1, .int 2), (2, .ref (mw_a E (s))), (3, .ref (mw_a E (cp)))]) C.1 C.2.1 dX8_tell_199 hl (k := 6) rfl (nI_1 _) (by decide) rfl (fun ls hl => ?_)
                        refine lv_goto (tgt := 32) C.1 C.2.1 dX8_tell_202 (by decide) ?_
                        exact iha (q + 1) rs9 ((nI (c - 100)) :: ms) (mw_sa ςa (57 + t) (ms.length) (nI (c - 100))) _ _ (by omega) (fun i hi => by have y := hseg (i + 1) (by rw [List.length_cons]; omega); rw [show (z.1.length + z.2.1.length) + q + (i + 1) = (z.1.length + z.2.1.length) + (q + 1) + i by omega] at y; exact y) (by rw [List.length_cons] at hq; omega) (by rw [← hrun, ruF_cons, show stF (evP (σ.1 s) (σ.1 cp)) c ms = (nI (c - 100)) :: ms by unfold stF; rw [if_neg (by omega), if_pos hc100]]) (by have y := hok.2; unfold hgt at y; rw [if_pos (by omega)] at y; exact y) (by have y := hfin; unfold hgts hgt at y; rw [if_pos (by omega)] at y; exact y) (by rw [List.length_cons]; omega) ⟨fra.1.sa ht _ _, by rw [sa_self]; exact stk_push _ fra.2⟩ hP hS ls (lv_sub hl [3, 4, 5, 6, 1, 0] rfl)
        exact lpa (z.2.2.length + 1) 0 (z.2.2) ([]) σ _ _ (by omega) (fun i hi => by rw [Nat.add_zero]; exact hsg.1 i hi) (by omega) (rfl) ((hsg.2 0 40 (by decide)).1) ((hsg.2 0 40 (by decide)).2) (by decide) ⟨xFs.rf σ, stk_nil _⟩ hP hS ls (lv_sub hl [2, 3, 4, 5, 1, 0] rfl)
      · exact absurd c3 (by decide)
    · exact absurd c2 (by decide)
