/-! THE GRAMMAR: tokens to steps (operands ahead), or the place of the fault -/
abbrev gR : Type := (List Nat × List (Nat × Nat)) ⊕ Nat
/-- one operand more, and its joint -/
def gLoop (ops : Nat → Bool) (x : List (Nat × Nat) → gR) : Nat → List Nat → List (Nat × Nat) → gR
  | 0, cs, ts => .inl (cs, ts)
  | _ + 1, cs, [] => .inl (cs, [])
  | f + 1, cs, (c, p) :: ts => if ops c = true then (match x ts with | .inr q => .inr q | .inl (cs2, ts2) => gLoop ops x f (cs ++ cs2 ++ [c]) ts2) else .inl (cs, (c, p) :: ts)
def gLevel (ops : Nat → Bool) (x : List (Nat × Nat) → gR) (ts : List (Nat × Nat)) : gR := match x ts with
  | .inr q => .inr q
  | .inl (cs, ts1) => gLoop ops x ts1.length cs ts1
def gCmp (x : List (Nat × Nat) → gR) (ts : List (Nat × Nat)) : gR := match x ts with
  | .inr q => .inr q
  | .inl (cs, []) => .inl (cs, [])
  | .inl (cs, (c, p) :: ts1) => if c = 18 ∨ c = 19 then (match x ts1 with | .inr q => .inr q | .inl (cs2, ts2) => .inl (cs ++ cs2 ++ [c], ts2)) else .inl (cs, (c, p) :: ts1)
def gNot (y : Option (List (Nat × Nat) → gR)) (x : List (Nat × Nat) → gR) (ts : List (Nat × Nat)) : gR := match ts with
  | [] => .inr 0
  | (c, p) :: ts1 => if c = 11 then (match y with | none => .inr p | some f => (match f ts1 with | .inr q => .inr q | .inl (cs, ts2) => .inl (cs ++ [11], ts2))) else x ((c, p) :: ts1)
def gAt (y : Option ((List (Nat × Nat) → gR) × (List (Nat × Nat) → gR))) (ts : List (Nat × Nat)) : gR := match ts with
  | [] => .inr 0
  | (c, p) :: ts1 => if c ≤ 5 ∨ 100 ≤ c then .inl ([c], ts1)
    else if c = 16 then (match y with | none => .inr p | some f => (match f.1 ts1 with | .inr q => .inr q | .inl (cs, ts2) => .inl (cs ++ [20], ts2)))
    else if c = 12 then (match y with | none => .inr p | some f => (match f.2 ts1 with | .inr q => .inr q | .inl (_, []) => .inr 0 | .inl (cs, (c2, p2) :: ts2) => if c2 = 13 then .inl (cs, ts2) else .inr p2))
    else .inr p
def gTim (c : Nat) : Bool := c == 17
def gAdd (c : Nat) : Bool := c == 15 || c == 16
def gAnd (c : Nat) : Bool := c == 10
def gOr (c : Nat) : Bool := c == 9
def gS (a : List (Nat × Nat) → gR) : List (Nat × Nat) → gR := gLevel gAdd (gLevel gTim a)
/-- ONE, NOT and E with d more that may be open -/
def gD : Nat → (List (Nat × Nat) → gR) × (List (Nat × Nat) → gR) × (List (Nat × Nat) → gR)
  | 0 => (gAt none, gNot none (gCmp (gS (gAt none))), gLevel gOr (gLevel gAnd (gNot none (gCmp (gS (gAt none))))))
  | d + 1 => (gAt (some ((gD d).1, (gD d).2.2)), gNot (some (gD d).2.1) (gCmp (gS (gAt (some ((gD d).1, (gD d).2.2))))), gLevel gOr (gLevel gAnd (gNot (some (gD d).2.1) (gCmp (gS (gAt (some ((gD d).1, (gD d).2.2))))))))
theorem gD_N (d : Nat) : gLevel gOr (gLevel gAnd (gD d).2.1) = (gD d).2.2 := by cases d <;> rfl
/-- a part: its key, an E, the stop -/
def gPart (key : Nat) (ts : List (Nat × Nat)) : gR := match ts with
  | [] => .inr 0
  | (c, p) :: ts1 => if c = key then (match (gD 5).2.2 ts1 with | .inr q => .inr q | .inl (_, []) => .inr 0 | .inl (cs, (c2, p2) :: ts2) => if c2 = 14 then .inl (cs, ts2) else .inr p2) else .inr p
/-- a whole text: the steps of its three parts, or the fault -/
def gText (ts : List (Nat × Nat)) : (List Nat × List Nat × List Nat) ⊕ Nat := match gPart 6 ts with
  | .inr q => .inr q
  | .inl (a, ts1) => match gPart 7 ts1 with
    | .inr q => .inr q
    | .inl (b, ts2) => match gPart 8 ts2 with
      | .inr q => .inr q
      | .inl (_, []) => .inr 0
      | .inl (d, (c, p) :: _) => if c = 21 then .inl (a, b, d) else .inr p
/-- no token comes back -/
def gDec (x : List (Nat × Nat) → gR) : Prop := ∀ ts cs ts2, x ts = .inl (cs, ts2) → ts2.length ≤ ts.length
theorem gLoop_dec {ops : Nat → Bool} {x : List (Nat × Nat) → gR} (hx : gDec x) : ∀ f cs ts cs2 ts2, gLoop ops x f cs ts = .inl (cs2, ts2) → ts2.length ≤ ts.length
  | 0, cs, ts, cs2, ts2, h => by
    unfold gLoop at h
    cases h
    exact Nat.le_refl _
  | f + 1, cs, [], cs2, ts2, h => by
    unfold gLoop at h
    cases h
    exact Nat.le_refl _
  | f + 1, cs, (c, p) :: ts, cs2, ts2, h => by
    unfold gLoop at h
    by_cases ho : ops c = true
    · rw [if_pos ho] at h
      cases hq : x ts with
      | inr q => rw [hq] at h; cases h
      | inl z =>
        obtain ⟨cs3, ts3⟩ := z
        rw [hq] at h
        have h1 := hx ts cs3 ts3 hq
        have h2 := gLoop_dec hx f _ _ _ _ h
        rw [List.length_cons]
        omega
    · rw [if_neg ho] at h
      cases h
      exact Nat.le_refl _
theorem gLevel_dec {ops : Nat → Bool} {x : List (Nat × Nat) → gR} (hx : gDec x) : gDec (gLevel ops x) := by
  intro ts cs ts2 h
  unfold gLevel at h
  cases hq : x ts with
  | inr q => rw [hq] at h; cases h
  | inl z =>
    obtain ⟨cs3, ts3⟩ := z
    rw [hq] at h
    have h1 := hx ts cs3 ts3 hq
    have h2 := gLoop_dec hx _ _ _ _ _ h
    omega
theorem gCmp_dec {x : List (Nat × Nat) → gR} (hx : gDec x) : gDec (gCmp x) := by
  intro ts cs ts2 h
  unfold gCmp at h
  cases hq : x ts with
  | inr q => rw [hq] at h; cases h
  | inl z =>
    obtain ⟨cs3, ts3⟩ := z
    have h1 := hx ts cs3 ts3 hq
    rw [hq] at h
    cases ts3 with
    | nil => cases h; exact h1
    | cons k ts4 =>
      obtain ⟨c, p⟩ := k
      dsimp only at h
      by_cases ho : c = 18 ∨ c = 19
      · rw [if_pos ho] at h
        cases hq2 : x ts4 with
        | inr q => rw [hq2] at h; cases h
        | inl z =>
          obtain ⟨cs5, ts5⟩ := z
          rw [hq2] at h
          cases h
          have h2 := hx ts4 cs5 ts2 hq2
          rw [List.length_cons] at h1
          omega
      · rw [if_neg ho] at h
        cases h
        exact h1
theorem gNot_dec {y : Option (List (Nat × Nat) → gR)} {x : List (Nat × Nat) → gR} (hy : ∀ f, y = some f → gDec f) (hx : gDec x) : gDec (gNot y x) := by
  intro ts cs ts2 h
  cases ts with
  | nil => cases h
  | cons k ts1 =>
    obtain ⟨c, p⟩ := k
    unfold gNot at h
    dsimp only at h
    by_cases ho : c = 11
    · rw [if_pos ho] at h
      cases y with
      | none => cases h
      | some f =>
        dsimp only at h
        cases hq : f ts1 with
        | inr q => rw [hq] at h; cases h
        | inl z =>
          obtain ⟨cs3, ts3⟩ := z
          rw [hq] at h
          cases h
          have := hy f rfl ts1 cs3 ts2 hq
          rw [List.length_cons]
          omega
    · rw [if_neg ho] at h
      exact hx _ _ _ h
theorem gAt_dec {y : Option ((List (Nat × Nat) → gR) × (List (Nat × Nat) → gR))} (hy : ∀ f, y = some f → gDec f.1 ∧ gDec f.2) : gDec (gAt y) := by
  intro ts cs ts2 h
  cases ts with
  | nil => cases h
  | cons k ts1 =>
    obtain ⟨c, p⟩ := k
    unfold gAt at h
    dsimp only at h
    rw [List.length_cons]
    by_cases h1 : c ≤ 5 ∨ 100 ≤ c
    · rw [if_pos h1] at h
      cases h
      omega
    · rw [if_neg h1] at h
      by_cases h2 : c = 16
      · rw [if_pos h2] at h
        cases y with
        | none => cases h
        | some f =>
          dsimp only at h
          cases hq : f.1 ts1 with
          | inr q => rw [hq] at h; cases h
          | inl z =>
            obtain ⟨cs3, ts3⟩ := z
            rw [hq] at h
            cases h
            have := (hy f rfl).1 ts1 cs3 ts2 hq
            omega
      · rw [if_neg h2] at h
        by_cases h3 : c = 12
        · rw [if_pos h3] at h
          cases y with
          | none => cases h
          | some f =>
            dsimp only at h
            cases hq : f.2 ts1 with
            | inr q => rw [hq] at h; cases h
            | inl z =>
              obtain ⟨cs3, ts3⟩ := z
              rw [hq] at h
              have h5 := (hy f rfl).2 ts1 cs3 ts3 hq
              cases ts3 with
              | nil => cases h
              | cons k2 ts4 =>
                obtain ⟨c2, p2⟩ := k2
                dsimp only at h
                by_cases h4 : c2 = 13
                · rw [if_pos h4] at h
                  cases h
                  rw [List.length_cons] at h5
                  omega
                · rw [if_neg h4] at h
                  cases h
        · rw [if_neg h3] at h
          cases h
theorem gD_dec : ∀ d, gDec (gD d).1 ∧ gDec (gD d).2.1 ∧ gDec (gD d).2.2
  | 0 => by
    have ha : gDec (gAt none) := gAt_dec (fun f h => by cases h)
    have hn : gDec (gNot none (gCmp (gS (gAt none)))) := gNot_dec (fun f h => by cases h) (gCmp_dec (gLevel_dec (gLevel_dec ha)))
    exact ⟨ha, hn, gLevel_dec (gLevel_dec hn)⟩
  | d + 1 => by
    obtain ⟨h1, h2, h3⟩ := gD_dec d
    have ha : gDec (gAt (some ((gD d).1, (gD d).2.2))) := gAt_dec (fun f h => by cases h; exact ⟨h1, h3⟩)
    have hn : gDec (gNot (some (gD d).2.1) (gCmp (gS (gAt (some ((gD d).1, (gD d).2.2)))))) := gNot_dec (fun f h => by cases h; exact h2) (gCmp_dec (gLevel_dec (gLevel_dec ha)))
    exact ⟨ha, hn, gLevel_dec (gLevel_dec hn)⟩
/-! THE STEPS: what they leave on a stack -/
def opF (c : Nat) (a b : Int32) : Int32 := if c = 9 then bI (¬ a = 0 ∨ ¬ b = 0) else if c = 10 then bI (¬ a = 0 ∧ ¬ b = 0) else if c = 18 then bI (a < b) else if c = 19 then bI (a = b) else if c = 15 then a + b else if c = 16 then a - b else a * b
def stF (env : Nat → Int32) (c : Nat) (st : List Int32) : List Int32 :=
  if c ≤ 5 then env c :: st else if 100 ≤ c then nI (c - 100) :: st
  else if c = 11 then (match st with | v :: s => bI (v = 0) :: s | [] => [])
  else if c = 20 then (match st with | v :: s => (-v) :: s | [] => [])
  else (match st with | b :: a :: s => opF c a b :: s | _ => st)
def ruF (env : Nat → Int32) (cs : List Nat) (st : List Int32) : List Int32 := cs.foldl (fun s c => stF env c s) st
theorem ruF_app (env : Nat → Int32) (a b : List Nat) (st : List Int32) : ruF env (a ++ b) st = ruF env b (ruF env a st) := List.foldl_append ..
theorem ruF_one (env : Nat → Int32) (c : Nat) (st : List Int32) : ruF env [c] st = stF env c st := rfl
/-- v is what the steps leave -/
def ruV (env : Nat → Int32) (cs : List Nat) (v : Int32) : Prop := ∀ st, ruF env cs st = v :: st
theorem ruV_nm {env : Nat → Int32} {c : Nat} (h : c ≤ 5) : ruV env [c] (env c) := fun st => by rw [ruF_one]; unfold stF; rw [if_pos h]
theorem ruV_nu {env : Nat → Int32} {c : Nat} (h : 100 ≤ c) : ruV env [c] (nI (c - 100)) := fun st => by rw [ruF_one]; unfold stF; rw [if_neg (by omega), if_pos h]
theorem ruV_not {env : Nat → Int32} {cs : List Nat} {v : Int32} (h : ruV env cs v) : ruV env (cs ++ [11]) (bI (v = 0)) := fun st => by rw [ruF_app, h, ruF_one]; rfl
theorem ruV_neg {env : Nat → Int32} {cs : List Nat} {v : Int32} (h : ruV env cs v) : ruV env (cs ++ [20]) (-v) := fun st => by rw [ruF_app, h, ruF_one]; rfl
theorem ruV_op {env : Nat → Int32} {c : Nat} {cs cs2 : List Nat} {v w : Int32} (h : ruV env cs v) (h2 : ruV env cs2 w) (hc : c = 9 ∨ c = 10 ∨ (15 ≤ c ∧ c ≤ 19)) : ruV env (cs ++ cs2 ++ [c]) (opF c v w) := fun st => by
  rw [ruF_app, ruF_app, h, h2, ruF_one]; unfold stF; rw [if_neg (by omega), if_neg (by omega), if_neg (by omega), if_neg (by omega)]
