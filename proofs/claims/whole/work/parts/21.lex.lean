/-! THE TOKENS OF A TEXT: bytes bs, n of them. A token: its code (words 0 .. 11, signs 12 .. 19, the end 21, none such 22, a number 100 more), its place. -/
def blF (bs : Nat → Int32) (n h : Nat) : Prop := byF bs n h = 32 ∨ byF bs n h = 10
def smF (bs : Nat → Int32) (n h : Nat) : Prop := 97 ≤ (byF bs n h).toInt ∧ (byF bs n h).toInt ≤ 122
def diF (bs : Nat → Int32) (n h : Nat) : Prop := 48 ≤ (byF bs n h).toInt ∧ (byF bs n h).toInt ≤ 57
noncomputable def skF (bs : Nat → Int32) (n : Nat) : Nat → Nat → Nat
  | 0, h => h
  | f + 1, h => if byF bs n h = 32 ∨ byF bs n h = 10 then skF bs n f (h + 1) else h
noncomputable def wdF (bs : Nat → Int32) (n : Nat) : Nat → Nat → Nat
  | 0, h => h
  | f + 1, h => if 97 ≤ (byF bs n h).toInt ∧ (byF bs n h).toInt ≤ 122 then wdF bs n f (h + 1) else h
noncomputable def dgF (bs : Nat → Int32) (n : Nat) : Nat → Nat → Nat
  | 0, h => h
  | f + 1, h => if 48 ≤ (byF bs n h).toInt ∧ (byF bs n h).toInt ≤ 57 then dgF bs n f (h + 1) else h
/-- the number that k digits from h on spell, w ahead of them -/
def nvF (bs : Nat → Int32) (n : Nat) : Nat → Nat → Nat → Nat
  | 0, _, w => w
  | k + 1, h, w => nvF bs n k (h + 1) (10 * w + ((byF bs n h).toInt - 48).toNat)
def wordsF : List (List Int32) := [[104, 111, 117, 114], [104, 117, 110, 103, 101, 114], [110, 117, 109, 98, 101, 114], [103, 105, 114, 108], [99, 117, 98, 101], [115, 111, 114, 116, 115], [101, 97, 116, 115], [111, 100, 100, 115], [115, 112, 101, 110, 100, 115], [111, 114], [97, 110, 100], [110, 111, 116]]
def signsF : List Int32 := [40, 41, 59, 43, 45, 42, 60, 61]
def mtF (bs : Nat → Int32) (n q e : Nat) (w : List Int32) : Prop := e - q = w.length ∧ ∀ i, i < w.length → byF bs n (q + i) = w.getD i 0
def mtB (bs : Nat → Int32) (n q e : Nat) (w : List Int32) : Bool := decide (e - q = w.length) && (List.range w.length).all (fun i => decide (byF bs n (q + i) = w.getD i 0))
theorem mtB_iff {bs : Nat → Int32} {n q e : Nat} {w : List Int32} : mtB bs n q e w = true ↔ mtF bs n q e w := by
  simp [mtB, mtF, List.all_eq_true]
/-- the first of the words that is spelt there; 22: none -/
def wcL (bs : Nat → Int32) (n q e : Nat) : Nat → List (List Int32) → Nat
  | _, [] => 22
  | k, w :: ws => if mtB bs n q e w = true then k else wcL bs n q e (k + 1) ws
def wcF (bs : Nat → Int32) (n q e : Nat) : Nat := wcL bs n q e 0 wordsF
def scL (b : Int32) : Nat → List Int32 → Nat
  | _, [] => 22
  | k, x :: xs => if b = x then k else scL b (k + 1) xs
def scF (b : Int32) : Nat := scL b 12 signsF
noncomputable def enF (bs : Nat → Int32) (n q : Nat) : Nat := if 97 ≤ (byF bs n q).toInt ∧ (byF bs n q).toInt ≤ 122 then wdF bs n 161 q else if 48 ≤ (byF bs n q).toInt ∧ (byF bs n q).toInt ≤ 57 then dgF bs n 161 q else q + 1
noncomputable def coF (bs : Nat → Int32) (n q : Nat) : Nat := if 97 ≤ (byF bs n q).toInt ∧ (byF bs n q).toInt ≤ 122 then wcF bs n q (wdF bs n 161 q) else if 48 ≤ (byF bs n q).toInt ∧ (byF bs n q).toInt ≤ 57 then (if 4 < dgF bs n 161 q - q then 22 else 100 + nvF bs n (dgF bs n 161 q - q) q 0) else scF (byF bs n q)
noncomputable def tkF (bs : Nat → Int32) (n : Nat) : Nat → Nat → List (Nat × Nat)
  | 0, _ => [(21, n)]
  | f + 1, h => if n ≤ h then [(21, n)] else if byF bs n h = 32 ∨ byF bs n h = 10 then tkF bs n f (h + 1) else (coF bs n h, h) :: tkF bs n f (enF bs n h)
theorem byF_out {bs : Nat → Int32} {n h : Nat} (hh : n ≤ h) : byF bs n h = -1 := by unfold byF; rw [if_neg (by omega)]
theorem byF_sm {bs : Nat → Int32} {n h : Nat} (hh : 97 ≤ (byF bs n h).toInt ∧ (byF bs n h).toInt ≤ 122) : h < n := by
  rcases Nat.lt_or_ge h n with q | q
  · exact q
  · rw [byF_out q] at hh
    exact absurd hh (by decide)
theorem byF_di {bs : Nat → Int32} {n h : Nat} (hh : 48 ≤ (byF bs n h).toInt ∧ (byF bs n h).toInt ≤ 57) : h < n := by
  rcases Nat.lt_or_ge h n with q | q
  · exact q
  · rw [byF_out q] at hh
    exact absurd hh (by decide)
theorem byF_bl {bs : Nat → Int32} {n h : Nat} (hh : byF bs n h = 32 ∨ byF bs n h = 10) : h < n := by
  rcases Nat.lt_or_ge h n with q | q
  · exact q
  · rw [byF_out q] at hh
    exact absurd hh (by decide)
theorem skF_ge (bs : Nat → Int32) (n : Nat) : ∀ f h, h ≤ skF bs n f h
  | 0, h => Nat.le_refl h
  | f + 1, h => by
    unfold skF
    split
    · exact Nat.le_trans (Nat.le_succ h) (skF_ge bs n f (h + 1))
    · exact Nat.le_refl h
theorem skF_le (bs : Nat → Int32) (n : Nat) : ∀ f h, h ≤ n → skF bs n f h ≤ n
  | 0, h, hh => hh
  | f + 1, h, hh => by
    unfold skF
    split
    · next q => exact skF_le bs n f (h + 1) (byF_bl q)
    · exact hh
theorem wdF_le (bs : Nat → Int32) (n : Nat) : ∀ f h, h ≤ n → wdF bs n f h ≤ n
  | 0, h, hh => hh
  | f + 1, h, hh => by
    unfold wdF
    split
    · next q => exact wdF_le bs n f (h + 1) (byF_sm q)
    · exact hh
theorem dgF_le (bs : Nat → Int32) (n : Nat) : ∀ f h, h ≤ n → dgF bs n f h ≤ n
  | 0, h, hh => hh
  | f + 1, h, hh => by
    unfold dgF
    split
    · next q => exact dgF_le bs n f (h + 1) (byF_di q)
    · exact hh
theorem wdF_ge (bs : Nat → Int32) (n : Nat) : ∀ f h, h ≤ wdF bs n f h
  | 0, h => Nat.le_refl h
  | f + 1, h => by
    unfold wdF
    split
    · exact Nat.le_trans (Nat.le_succ h) (wdF_ge bs n f (h + 1))
    · exact Nat.le_refl h
theorem dgF_ge (bs : Nat → Int32) (n : Nat) : ∀ f h, h ≤ dgF bs n f h
  | 0, h => Nat.le_refl h
  | f + 1, h => by
    unfold dgF
    split
    · exact Nat.le_trans (Nat.le_succ h) (dgF_ge bs n f (h + 1))
    · exact Nat.le_refl h
theorem wdF_gt {bs : Nat → Int32} {n f h : Nat} (q : 97 ≤ (byF bs n h).toInt ∧ (byF bs n h).toInt ≤ 122) : h < wdF bs n (f + 1) h := by
  unfold wdF
  rw [if_pos q]
  exact wdF_ge bs n f (h + 1)
theorem dgF_gt {bs : Nat → Int32} {n f h : Nat} (q : 48 ≤ (byF bs n h).toInt ∧ (byF bs n h).toInt ≤ 57) : h < dgF bs n (f + 1) h := by
  unfold dgF
  rw [if_pos q]
  exact dgF_ge bs n f (h + 1)
/-- enough fuel is enough -/
theorem wdF_fuel (bs : Nat → Int32) (n : Nat) : ∀ f h, n ≤ h + f → wdF bs n (f + 1) h = wdF bs n f h
  | 0, h, hh => by
    unfold wdF
    rw [if_neg (fun q => by have := byF_sm q; omega)]
  | f + 1, h, hh => by
    have e := wdF_fuel bs n f (h + 1) (by omega)
    show (if _ then wdF bs n (f + 1) (h + 1) else h) = (if _ then wdF bs n f (h + 1) else h)
    rw [e]
theorem dgF_fuel (bs : Nat → Int32) (n : Nat) : ∀ f h, n ≤ h + f → dgF bs n (f + 1) h = dgF bs n f h
  | 0, h, hh => by
    unfold dgF
    rw [if_neg (fun q => by have := byF_di q; omega)]
  | f + 1, h, hh => by
    have e := dgF_fuel bs n f (h + 1) (by omega)
    show (if _ then dgF bs n (f + 1) (h + 1) else h) = (if _ then dgF bs n f (h + 1) else h)
    rw [e]
theorem skF_fuel (bs : Nat → Int32) (n : Nat) : ∀ f h, n ≤ h + f → skF bs n (f + 1) h = skF bs n f h
  | 0, h, hh => by
    unfold skF
    rw [if_neg (fun q => by have := byF_bl q; omega)]
  | f + 1, h, hh => by
    have e := skF_fuel bs n f (h + 1) (by omega)
    show (if _ then skF bs n (f + 1) (h + 1) else h) = (if _ then skF bs n f (h + 1) else h)
    rw [e]
/-- a step of a scan, with fuel for all -/
theorem wdF_step {bs : Nat → Int32} {n h : Nat} (hn : n ≤ 160) (q : 97 ≤ (byF bs n h).toInt ∧ (byF bs n h).toInt ≤ 122) : wdF bs n 161 h = wdF bs n 161 (h + 1) := by
  rw [show wdF bs n 161 h = (if 97 ≤ (byF bs n h).toInt ∧ (byF bs n h).toInt ≤ 122 then wdF bs n 160 (h + 1) else h) from rfl, if_pos q, wdF_fuel bs n 160 (h + 1) (by omega)]
theorem wdF_stop {bs : Nat → Int32} {n h : Nat} (q : ¬ (97 ≤ (byF bs n h).toInt ∧ (byF bs n h).toInt ≤ 122)) : wdF bs n 161 h = h := by
  rw [show wdF bs n 161 h = (if 97 ≤ (byF bs n h).toInt ∧ (byF bs n h).toInt ≤ 122 then wdF bs n 160 (h + 1) else h) from rfl, if_neg q]
theorem dgF_step {bs : Nat → Int32} {n h : Nat} (hn : n ≤ 160) (q : 48 ≤ (byF bs n h).toInt ∧ (byF bs n h).toInt ≤ 57) : dgF bs n 161 h = dgF bs n 161 (h + 1) := by
  rw [show dgF bs n 161 h = (if 48 ≤ (byF bs n h).toInt ∧ (byF bs n h).toInt ≤ 57 then dgF bs n 160 (h + 1) else h) from rfl, if_pos q, dgF_fuel bs n 160 (h + 1) (by omega)]
theorem dgF_stop {bs : Nat → Int32} {n h : Nat} (q : ¬ (48 ≤ (byF bs n h).toInt ∧ (byF bs n h).toInt ≤ 57)) : dgF bs n 161 h = h := by
  rw [show dgF bs n 161 h = (if 48 ≤ (byF bs n h).toInt ∧ (byF bs n h).toInt ≤ 57 then dgF bs n 160 (h + 1) else h) from rfl, if_neg q]
theorem skF_step {bs : Nat → Int32} {n h : Nat} (hn : n ≤ 160) (q : byF bs n h = 32 ∨ byF bs n h = 10) : skF bs n 161 h = skF bs n 161 (h + 1) := by
  rw [show skF bs n 161 h = (if byF bs n h = 32 ∨ byF bs n h = 10 then skF bs n 160 (h + 1) else h) from rfl, if_pos q, skF_fuel bs n 160 (h + 1) (by omega)]
theorem skF_stop {bs : Nat → Int32} {n h : Nat} (q : ¬ (byF bs n h = 32 ∨ byF bs n h = 10)) : skF bs n 161 h = h := by
  rw [show skF bs n 161 h = (if byF bs n h = 32 ∨ byF bs n h = 10 then skF bs n 160 (h + 1) else h) from rfl, if_neg q]
theorem enF_gt {bs : Nat → Int32} {n q : Nat} : q < enF bs n q := by
  unfold enF
  split
  · next h => exact wdF_gt h
  · split
    · next h => exact dgF_gt h
    · exact Nat.lt_succ_self q
theorem tkF_fuel (bs : Nat → Int32) (n : Nat) : ∀ f h, n ≤ h + f → tkF bs n (f + 1) h = tkF bs n f h
  | 0, h, hh => by
    unfold tkF
    rw [if_pos (by omega)]
  | f + 1, h, hh => by
    have e1 := tkF_fuel bs n f (h + 1) (by omega)
    have e2 := tkF_fuel bs n f (enF bs n h) (by have := @enF_gt bs n h; omega)
    show (if n ≤ h then [(21, n)] else if _ then tkF bs n (f + 1) (h + 1) else (coF bs n h, h) :: tkF bs n (f + 1) (enF bs n h)) = (if n ≤ h then [(21, n)] else if _ then tkF bs n f (h + 1) else (coF bs n h, h) :: tkF bs n f (enF bs n h))
    rw [e1, e2]
/-- the tokens from a place on -/
noncomputable def tkA (bs : Nat → Int32) (n h : Nat) : List (Nat × Nat) := tkF bs n 161 h
theorem tkA_end {bs : Nat → Int32} {n h : Nat} (hh : n ≤ h) : tkA bs n h = [(21, n)] := by
  rw [show tkA bs n h = (if n ≤ h then [(21, n)] else if byF bs n h = 32 ∨ byF bs n h = 10 then tkF bs n 160 (h + 1) else (coF bs n h, h) :: tkF bs n 160 (enF bs n h)) from rfl, if_pos hh]
theorem tkA_bl {bs : Nat → Int32} {n h : Nat} (hn : n ≤ 160) (q : byF bs n h = 32 ∨ byF bs n h = 10) : tkA bs n h = tkA bs n (h + 1) := by
  rw [show tkA bs n h = (if n ≤ h then [(21, n)] else if byF bs n h = 32 ∨ byF bs n h = 10 then tkF bs n 160 (h + 1) else (coF bs n h, h) :: tkF bs n 160 (enF bs n h)) from rfl, if_neg (by have := byF_bl q; omega), if_pos q]
  exact (tkF_fuel bs n 160 (h + 1) (by omega)).symm
theorem tkA_tok {bs : Nat → Int32} {n h : Nat} (hn : n ≤ 160) (hh : h < n) (q : ¬ (byF bs n h = 32 ∨ byF bs n h = 10)) : tkA bs n h = (coF bs n h, h) :: tkA bs n (enF bs n h) := by
  rw [show tkA bs n h = (if n ≤ h then [(21, n)] else if byF bs n h = 32 ∨ byF bs n h = 10 then tkF bs n 160 (h + 1) else (coF bs n h, h) :: tkF bs n 160 (enF bs n h)) from rfl, if_neg (by omega), if_neg q]
  rw [show tkA bs n (enF bs n h) = tkF bs n (160 + 1) (enF bs n h) from rfl, tkF_fuel bs n 160 (enF bs n h) (by omega)]
theorem tkA_sk {bs : Nat → Int32} {n : Nat} (hn : n ≤ 160) : ∀ f h, n ≤ h + f → tkA bs n h = tkA bs n (skF bs n 161 h)
  | 0, h, hh => by
    rw [skF_stop (fun q => by have := byF_bl q; omega)]
  | f + 1, h, hh => by
    by_cases q : byF bs n h = 32 ∨ byF bs n h = 10
    · rw [skF_step hn q, tkA_bl hn q]
      exact tkA_sk hn f (h + 1) (by omega)
    · rw [skF_stop q]
theorem skF_not {bs : Nat → Int32} {n : Nat} (hn : n ≤ 160) : ∀ f h, n ≤ h + f → ¬ (byF bs n (skF bs n 161 h) = 32 ∨ byF bs n (skF bs n 161 h) = 10)
  | 0, h, hh => by
    have q : ¬ (byF bs n h = 32 ∨ byF bs n h = 10) := fun q => by have := byF_bl q; omega
    rw [skF_stop q]
    exact q
  | f + 1, h, hh => by
    by_cases q : byF bs n h = 32 ∨ byF bs n h = 10
    · rw [skF_step hn q]
      exact skF_not hn f (h + 1) (by omega)
    · rw [skF_stop q]
      exact q
