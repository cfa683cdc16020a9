/-! WHAT IS RECKONED: a view of the board (cube, sorts, girl, hours, gram), of a customer (kind, number, hour, hunger, bought), and a text's steps -/
theorem mw_sa_at (σ : mw_M) (k j : Nat) (v : Int32) : (mw_sa σ k j v).2.1 k j = v := by
  show va_up σ.2.1 k (upd (σ.2.1 k) j v) k j = v
  rw [va_up_self]
  exact pk_us
def evP (st cu : Nat → Int32) (k : Nat) : Int32 := if k = 0 then cu 2 else if k = 1 then cu 3 else if k = 2 then cu 1 else if k = 3 then st 2 else if k = 4 then st 0 else st 1
def vaF (env : Nat → Int32) (cs : List Nat) : Int32 := (ruF env cs []).headD 0
theorem vaF_of {env : Nat → Int32} {cs : List Nat} {v : Int32} (h : ruV env cs v) : vaF env cs = v := by unfold vaF; rw [h]; rfl
theorem ruV_congr {e1 e2 : Nat → Int32} (he : ∀ k, k ≤ 5 → e1 k = e2 k) {cs : List Nat} {v : Int32} (hv : ruV e1 cs v) : ruV e2 cs v := by
  have e : ∀ (cs : List Nat) (st : List Int32), ruF e1 cs st = ruF e2 cs st := by
    intro cs
    induction cs with
    | nil => intro st; rfl
    | cons k cs ih =>
      intro st
      show ruF e1 cs (stF e1 k st) = ruF e2 cs (stF e2 k st)
      have : stF e1 k st = stF e2 k st := by
        unfold stF
        by_cases hk : k ≤ 5
        · rw [if_pos hk, if_pos hk, he k hk]
        · rw [if_neg hk, if_neg hk]
      rw [this, ih]
  exact fun st => (e cs st).symm.trans (hv st)
abbrev zP : Type := List Nat × List Nat × List Nat
def tellP (z : zP) (w : Nat) (st cu : Nat → Int32) : Int32 := wI (vaF (evP st cu) (ptF z w)) 0 99
def eatsP (z : zP) (st cu : Nat → Int32) : Int32 := if cu 0 = 4 ∧ st 2 = 1 then 1 else wI (if cu 0 = 1 then 2 * tellP z 0 st cu else if cu 0 = 3 then 2 * tellP z 0 st cu + cu 3 / 10 else if cu 0 = 2 ∨ cu 0 = 4 then wI (tellP z 0 st cu) 0 (st 1) else if cu 0 = 5 then wI (tellP z 0 st cu) 0 1 else tellP z 0 st cu) 0 99
def triesP (z : zP) (st cu : Nat → Int32) : Int32 := if cu 0 = 1 then 0 else if cu 0 = 4 then 0 else if cu 0 = 5 ∧ 3 < st 1 then 1 else wI (if cu 0 = 2 then 2 * tellP z 1 st cu else if cu 0 = 3 then tellP z 1 st cu + cu 1 else tellP z 1 st cu) 0 99
def spendsP (z : zP) (st cu : Nat → Int32) : Int32 := if cu 0 = 1 then 0 else if cu 0 = 3 then 3 else wI (if cu 0 = 2 ∨ cu 0 = 4 then tellP z 2 st cu / 2 else if cu 0 = 5 then tellP z 2 st cu + 10 * cu 1 else tellP z 2 st cu) 0 999
abbrev thereP (st cu : Nat → Int32) : Prop := (st 3 >>> (cu 2 &&& 31)) &&& 1 = 1
def costP (z : zP) (st cu : Nat → Int32) : Int32 := if thereP st cu then eatsP z st cu * st 0 * st 4 / 10 else 0
def gainP (z : zP) (st cu : Nat → Int32) : Int32 := if thereP st cu then (if triesP z st cu = 0 then 0 else spendsP z st cu * 1000 / triesP z st cu) - 1000 * costP z st cu else 0
/-! THE REFERENCE'S VIEW -/
def mSt (σ : mw_M) : Nat → Int32 := fun j => σ.2.1 4 j
def mCu (σ : mw_M) (p : Nat) : Nat → Int32 := fun f => if f = 0 then σ.2.1 5 p else σ.2.1 6 (4 * p + (f - 1))
def mFs (σ u : mw_M) : Prop := u.2.1 = σ.2.1 ∧ ∀ f, f < 11 ∨ 25 < f → u.1 0 f = σ.1 0 f
theorem mFs.rf (σ : mw_M) : mFs σ σ := ⟨rfl, fun _ _ => rfl⟩
theorem mFs.tr {a b d : mw_M} (h1 : mFs a b) (h2 : mFs b d) : mFs a d := ⟨h2.1.trans h1.1, fun f hf => (h2.2 f hf).trans (h1.2 f hf)⟩
theorem mFq.s {a b : mw_M} (h : mFq a b) : mFs a b := ⟨h.1, fun f hf => h.2 f (by omega)⟩
theorem mFs.si {σ u : mw_M} (h : mFs σ u) {k : Nat} (hk : 11 ≤ k ∧ k ≤ 25) (v : Int32) : mFs σ (mw_si u 0 k v) := by
  refine ⟨h.1, fun f hf => ?_⟩
  show va_up u.1 0 (va_up (u.1 0) k v) 0 f = _
  rw [va_up_self, va_up_ne _ _ (by omega)]
  exact h.2 f hf
theorem mFs.st {σ u : mw_M} (h : mFs σ u) : mSt u = mSt σ := by unfold mSt; rw [h.1]
theorem mFs.cu {σ u : mw_M} (h : mFs σ u) (p : Nat) : mCu u p = mCu σ p := by unfold mCu; rw [h.1]
/-- THE RULE's steps -/
def mRu (σ : mw_M) (z : zP) : Prop := ∃ (t n : Nat) (bs : Nat → Int32), σ.1 0 4 = nI t ∧ mTt σ t n bs ∧ gText (tkA bs n 0) = .inl z
theorem mFs.ru {σ u : mw_M} {z : zP} (h : mFs σ u) (hr : mRu σ z) : mRu u z := by
  obtain ⟨t, n, bs, h1, h2, h3⟩ := hr
  refine ⟨t, n, bs, (h.2 4 (by omega)).trans h1, ?_, h3⟩
  unfold mTt
  rw [h.1]
  exact h2

set_option maxHeartbeats 4000000 in
set_option maxRecDepth 100000 in
theorem cM_asks0 (l : Launch) (E : mw_E) (σ : mw_M) (z : zP) (p : Nat) (hp : p < 8) (hru : mRu σ z) : mw_Ci shM 13 gM l yX12_asks cX12_asks 3 (some .int) (rmF 42 930) E [.ref (mw_a E 0), .int 0, .int (nI p)] σ (fun r u => r = tellP z 0 (mSt σ) (mCu σ p) ∧ mFs σ u) := by
  refine mw_of (by decide) gM_ok (Nat.le_of_ble_eq_true rfl) ?_
  intro p_ e_ s_ m_ below meth c_ C hr hlk Z hP ls hl
  have C : CallFix p_ m_ c_ cX12_asks 3 s_ _ lw_good RX12 := C
  have hl : lv_has ls 3 [(0, .ref (mw_a E 0)), (1, .int 0), (2, .int (nI p))] := hl
  have hS : va_S (mw_A 13 E) s_.heap s_.heap [] := va_S.rf
  obtain ⟨t, n, bs, h4, hTt, hz⟩ := hru
  refine lv_aload_n C.1 C.2.1 dX12_asks_0 rfl (lv_at hl 0 rfl) ?_
  refine lv_aload_n C.1 C.2.1 dX12_asks_1 rfl (lv_at hl 0 rfl) ?_
  refine mw_getr C Z hP (0) 9 (6) (by decide) rfl rfl rfl (by decide) inX12 tw_4_173 dX12_asks_2 ?_
  refine lv_iconst (v := 4) C.1 C.2.1 dX12_asks_5 (by decide) ?_
  refine lv_iload_n C.1 C.2.1 dX12_asks_6 rfl (lv_at hl 2 rfl) ?_
  refine lv_imul C.1 C.2.1 dX12_asks_7 ?_
  refine mw_top (y := nI (4 * p)) (pk_mul 4 p) ?_
  refine lv_iconst (v := 1) C.1 C.2.1 dX12_asks_8 (by decide) ?_
  refine lv_iadd C.1 C.2.1 dX12_asks_9 ?_
  refine mw_top (y := nI (4 * p + 1)) (nI_1 _) ?_
  refine mw_iald C Z hP (6) (4 * p + 1) (by decide) rfl (Nat.lt_of_lt_of_le (by decide : 32 < 961) (Nat.le_of_ble_eq_true rfl)) rfl (by omega) dX12_asks_10 ?_
  refine mw_puti C Z hP hS (0) 11 (by decide) rfl rfl rfl (by decide) inX12 tyX12 tyX12_ok nmX12 rfl tw_4_175 rfl rfl dX12_asks_11 (fun H locs hP hS => ?_)
  refine lv_aload_n C.1 C.2.1 dX12_asks_14 rfl (lv_at hl 0 rfl) ?_
  refine lv_aload_n C.1 C.2.1 dX12_asks_15 rfl (lv_at hl 0 rfl) ?_
  refine mw_getr C Z hP (0) 9 (6) (by decide) rfl rfl rfl (by decide) inX12 tw_4_173 dX12_asks_16 ?_
  refine lv_iconst (v := 4) C.1 C.2.1 dX12_asks_19 (by decide) ?_
  refine lv_iload_n C.1 C.2.1 dX12_asks_20 rfl (lv_at hl 2 rfl) ?_
  refine lv_imul C.1 C.2.1 dX12_asks_21 ?_
  refine mw_top (y := nI (4 * p)) (pk_mul 4 p) ?_
  refine lv_iconst (v := 2) C.1 C.2.1 dX12_asks_22 (by decide) ?_
  refine lv_iadd C.1 C.2.1 dX12_asks_23 ?_
  refine mw_top (y := nI (4 * p + 2)) (nI_add _ 2) ?_
  refine mw_iald C Z hP (6) (4 * p + 2) (by decide) rfl (Nat.lt_of_lt_of_le (by decide : 32 < 961) (Nat.le_of_ble_eq_true rfl)) rfl (by omega) dX12_asks_24 ?_
  refine mw_top (y := σ.2.1 6 (4 * p + 2)) (rfl) ?_
  refine mw_puti C Z hP hS (0) 12 (by decide) rfl rfl rfl (by decide) inX12 tyX12 tyX12_ok nmX12 rfl tw_4_176 rfl rfl dX12_asks_25 (fun H locs hP hS => ?_)
  refine lv_aload_n C.1 C.2.1 dX12_asks_28 rfl (lv_at hl 0 rfl) ?_
  refine lv_aload_n C.1 C.2.1 dX12_asks_29 rfl (lv_at hl 0 rfl) ?_
  refine mw_getr C Z hP (0) 9 (6) (by decide) rfl rfl rfl (by decide) inX12 tw_4_173 dX12_asks_30 ?_
  refine lv_iconst (v := 4) C.1 C.2.1 dX12_asks_33 (by decide) ?_
  refine lv_iload_n C.1 C.2.1 dX12_asks_34 rfl (lv_at hl 2 rfl) ?_
  refine lv_imul C.1 C.2.1 dX12_asks_35 ?_
  refine mw_top (y := nI (4 * p)) (pk_mul 4 p) ?_
  refine mw_iald C Z hP (6) (4 * p) (by decide) rfl (Nat.lt_of_lt_of_le (by decide : 32 < 961) (Nat.le_of_ble_eq_true rfl)) rfl (by omega) dX12_asks_36 ?_
  refine mw_top (y := σ.2.1 6 (4 * p)) (rfl) ?_
  refine mw_puti C Z hP hS (0) 13 (by decide) rfl rfl rfl (by decide) inX12 tyX12 tyX12_ok nmX12 rfl tw_4_177 rfl rfl dX12_asks_37 (fun H locs hP hS => ?_)
  refine lv_aload_n C.1 C.2.1 dX12_asks_40 rfl (lv_at hl 0 rfl) ?_
  refine lv_aload_n C.1 C.2.1 dX12_asks_41 rfl (lv_at hl 0 rfl) ?_
  refine mw_getr C Z hP (0) 7 (4) (by decide) rfl rfl rfl (by decide) inX12 tw_4_171 dX12_asks_42 ?_
  refine lv_iconst (v := 2) C.1 C.2.1 dX12_asks_45 (by decide) ?_
  refine mw_iald C Z hP (4) (2) (by decide) rfl (Nat.lt_of_lt_of_le (by decide : 5 < 961) (Nat.le_of_ble_eq_true rfl)) rfl (by decide) dX12_asks_46 ?_
  refine mw_top (y := σ.2.1 4 2) (rfl) ?_
  refine mw_puti C Z hP hS (0) 14 (by decide) rfl rfl rfl (by decide) inX12 tyX12 tyX12_ok nmX12 rfl tw_4_178 rfl rfl dX12_asks_47 (fun H locs hP hS => ?_)
  refine lv_aload_n C.1 C.2.1 dX12_asks_50 rfl (lv_at hl 0 rfl) ?_
  refine lv_aload_n C.1 C.2.1 dX12_asks_51 rfl (lv_at hl 0 rfl) ?_
  refine mw_getr C Z hP (0) 7 (4) (by decide) rfl rfl rfl (by decide) inX12 tw_4_171 dX12_asks_52 ?_
  refine lv_iconst (v := 0) C.1 C.2.1 dX12_asks_55 (by decide) ?_
  refine mw_iald C Z hP (4) (0) (by decide) rfl (Nat.lt_of_lt_of_le (by decide : 5 < 961) (Nat.le_of_ble_eq_true rfl)) rfl (by decide) dX12_asks_56 ?_
  refine mw_top (y := σ.2.1 4 0) (rfl) ?_
  refine mw_puti C Z hP hS (0) 15 (by decide) rfl rfl rfl (by decide) inX12 tyX12 tyX12_ok nmX12 rfl tw_4_179 rfl rfl dX12_asks_57 (fun H locs hP hS => ?_)
  refine lv_aload_n C.1 C.2.1 dX12_asks_60 rfl (lv_at hl 0 rfl) ?_
  refine lv_aload_n C.1 C.2.1 dX12_asks_61 rfl (lv_at hl 0 rfl) ?_
  refine mw_getr C Z hP (0) 7 (4) (by decide) rfl rfl rfl (by decide) inX12 tw_4_171 dX12_asks_62 ?_
  refine lv_iconst (v := 1) C.1 C.2.1 dX12_asks_65 (by decide) ?_
  refine mw_iald C Z hP (4) (1) (by decide) rfl (Nat.lt_of_lt_of_le (by decide : 5 < 961) (Nat.le_of_ble_eq_true rfl)) rfl (by decide) dX12_asks_66 ?_
  refine mw_top (y := σ.2.1 4 1) (rfl) ?_
  refine mw_puti C Z hP hS (0) 16 (by decide) rfl rfl rfl (by decide) inX12 tyX12 tyX12_ok nmX12 rfl tw_4_180 rfl rfl dX12_asks_67 (fun H locs hP hS => ?_)
  refine lv_aload_n C.1 C.2.1 dX12_asks_70 rfl (lv_at hl 0 rfl) ?_
  refine lv_aload_n C.1 C.2.1 dX12_asks_71 rfl (lv_at hl 0 rfl) ?_
  refine mw_geti C Z hP (0) 4 (by decide) rfl rfl rfl (by decide) inX12 tw_4_168 dX12_asks_72 ?_
  refine mw_top (y := nI t) (h4) ?_
  refine lv_iload_n C.1 C.2.1 dX12_asks_75 rfl (lv_at hl 1 rfl) ?_
  refine mw_cVi (As := [.int (nI t), .int 0]) (rest := []) C Z hP hS (0) (cM_read0 l E (mw_si (mw_si (mw_si (mw_si (mw_si (mw_si σ 0 11 (σ.2.1 6 (4 * p + 1))) 0 12 (σ.2.1 6 (4 * p + 2))) 0 13 (σ.2.1 6 (4 * p))) 0 14 (σ.2.1 4 2)) 0 15 (σ.2.1 4 0)) 0 16 (σ.2.1 4 1)) t n bs hTt) vb_X12_read tw_5_60 ⟨rfl, rfl⟩ ⟨Nat.le_of_ble_eq_true rfl, Nat.le_of_ble_eq_true rfl⟩ (by decide) rfl rfl rfl rfl hl.1 rfl (Nat.le_of_ble_eq_true rfl) dX12_asks_76 ⟨Nat.zero_le _, Nat.zero_le _⟩ (fun r1 u2 H locs q3 hP hS => ?_)
  rw [hz] at q3
  obtain ⟨f4, z5, hv6⟩ := q3
  refine lv_iconst (v := 0) C.1 C.2.1 dX12_asks_79 (by decide) ?_
  refine lv_bipush (v := 99) C.1 C.2.1 dX12_asks_80 (by decide) ?_
  refine mw_cSi (As := [.int r1, .int 0, .int 99]) (rest := []) C Z hP hS (cM_within l E u2 r1 0 99) sb_X12_within tw_6_11 ⟨rfl, rfl⟩ ⟨Nat.le_of_ble_eq_true rfl, Nat.le_of_ble_eq_true rfl⟩ rfl hl.1 rfl (Nat.le_of_ble_eq_true rfl) dX12_asks_82 ⟨Nat.zero_le _, Nat.zero_le _⟩ (fun r7 u8 H locs q9 hP hS => ?_)
  obtain ⟨rfl, q9u⟩ := q9
  rw [q9u] at hP; clear q9u
  have hev : ∀ k, k ≤ 5 → mEv (mw_si (mw_si (mw_si (mw_si (mw_si (mw_si σ 0 11 (σ.2.1 6 (4 * p + 1))) 0 12 (σ.2.1 6 (4 * p + 2))) 0 13 (σ.2.1 6 (4 * p))) 0 14 (σ.2.1 4 2)) 0 15 (σ.2.1 4 0)) 0 16 (σ.2.1 4 1)) k = evP (mSt σ) (mCu σ p) k := fun k hk => by
    match k, hk with
    | 0, _ => rfl
    | 1, _ => rfl
    | 2, _ => rfl
    | 3, _ => rfl
    | 4, _ => rfl
    | 5, _ => rfl
  exact mw_iret C hr hlk Z hP hS dX12_asks_85 (⟨by unfold tellP; rw [vaF_of (ruV_congr hev hv6)], ((((((((mFs.rf σ).si (by decide) _).si (by decide) _).si (by decide) _).si (by decide) _).si (by decide) _).si (by decide) _).tr f4.s)⟩)

set_option maxHeartbeats 4000000 in
set_option maxRecDepth 100000 in
theorem cM_asks1 (l : Launch) (E : mw_E) (σ : mw_M) (z : zP) (p : Nat) (hp : p < 8) (hru : mRu σ z) : mw_Ci shM 13 gM l yX12_asks cX12_asks 3 (some .int) (rmF 42 930) E [.ref (mw_a E 0), .int 1, .int (nI p)] σ (fun r u => r = tellP z 1 (mSt σ) (mCu σ p) ∧ mFs σ u) := by
  refine mw_of (by decide) gM_ok (Nat.le_of_ble_eq_true rfl) ?_
  intro p_ e_ s_ m_ below meth c_ C hr hlk Z hP ls hl
  have C : CallFix p_ m_ c_ cX12_asks 3 s_ _ lw_good RX12 := C
  have hl : lv_has ls 3 [(0, .ref (mw_a E 0)), (1, .int 1), (2, .int (nI p))] := hl
  have hS : va_S (mw_A 13 E) s_.heap s_.heap [] := va_S.rf
  obtain ⟨t, n, bs, h4, hTt, hz⟩ := hru
  refine lv_aload_n C.1 C.2.1 dX12_asks_0 rfl (lv_at hl 0 rfl) ?_
  refine lv_aload_n C.1 C.2.1 dX12_asks_1 rfl (lv_at hl 0 rfl) ?_
  refine mw_getr C Z hP (0) 9 (6) (by decide) rfl rfl rfl (by decide) inX12 tw_4_173 dX12_asks_2 ?_
  refine lv_iconst (v := 4) C.1 C.2.1 dX12_asks_5 (by decide) ?_
  refine lv_iload_n C.1 C.2.1 dX12_asks_6 rfl (lv_at hl 2 rfl) ?_
  refine lv_imul C.1 C.2.1 dX12_asks_7 ?_
  refine mw_top (y := nI (4 * p)) (pk_mul 4 p) ?_
  refine lv_iconst (v := 1) C.1 C.2.1 dX12_asks_8 (by decide) ?_
  refine lv_iadd C.1 C.2.1 dX12_asks_9 ?_
  refine mw_top (y := nI (4 * p + 1)) (nI_1 _) ?_
  refine mw_iald C Z hP (6) (4 * p + 1) (by decide) rfl (Nat.lt_of_lt_of_le (by decide : 32 < 961) (Nat.le_of_ble_eq_true rfl)) rfl (by omega) dX12_asks_10 ?_
  refine mw_puti C Z hP hS (0) 11 (by decide) rfl rfl rfl (by decide) inX12 tyX12 tyX12_ok nmX12 rfl tw_4_175 rfl rfl dX12_asks_11 (fun H locs hP hS => ?_)
  refine lv_aload_n C.1 C.2.1 dX12_asks_14 rfl (lv_at hl 0 rfl) ?_
  refine lv_aload_n C.1 C.2.1 dX12_asks_15 rfl (lv_at hl 0 rfl) ?_
  refine mw_getr C Z hP (0) 9 (6) (by decide) rfl rfl rfl (by decide) inX12 tw_4_173 dX12_asks_16 ?_
  refine lv_iconst (v := 4) C.1 C.2.1 dX12_asks_19 (by decide) ?_
  refine lv_iload_n C.1 C.2.1 dX12_asks_20 rfl (lv_at hl 2 rfl) ?_
  refine lv_imul C.1 C.2.1 dX12_asks_21 ?_
  refine mw_top (y := nI (4 * p)) (pk_mul 4 p) ?_
  refine lv_iconst (v := 2) C.1 C.2.1 dX12_asks_22 (by decide) ?_
  refine lv_iadd C.1 C.2.1 dX12_asks_23 ?_
  refine mw_top (y := nI (4 * p + 2)) (nI_add _ 2) ?_
  refine mw_iald C Z hP (6) (4 * p + 2) (by decide) rfl (Nat.lt_of_lt_of_le (by decide : 32 < 961) (Nat.le_of_ble_eq_true rfl)) rfl (by omega) dX12_asks_24 ?_
  refine mw_top (y := σ.2.1 6 (4 * p + 2)) (rfl) ?_
  refine mw_puti C Z hP hS (0) 12 (by decide) rfl rfl rfl (by decide) inX12 tyX12 tyX12_ok nmX12 rfl tw_4_176 rfl rfl dX12_asks_25 (fun H locs hP hS => ?_)
  refine lv_aload_n C.1 C.2.1 dX12_asks_28 rfl (lv_at hl 0 rfl) ?_
  refine lv_aload_n C.1 C.2.1 dX12_asks_29 rfl (lv_at hl 0 rfl) ?_
  refine mw_getr C Z hP (0) 9 (6) (by decide) rfl rfl rfl (by decide) inX12 tw_4_173 dX12_asks_30 ?_
  refine lv_iconst (v := 4) C.1 C.2.1 dX12_asks_33 (by decide) ?_
  refine lv_iload_n C.1 C.2.1 dX12_asks_34 rfl (lv_at hl 2 rfl) ?_
  refine lv_imul C.1 C.2.1 dX12_asks_35 ?_
  refine mw_top (y := nI (4 * p)) (pk_mul 4 p) ?_
  refine mw_iald C Z hP (6) (4 * p) (by decide) rfl (Nat.lt_of_lt_of_le (by decide : 32 < 961) (Nat.le_of_ble_eq_true rfl)) rfl (by omega) dX12_asks_36 ?_
  refine mw_top (y := σ.2.1 6 (4 * p)) (rfl) ?_
  refine mw_puti C Z hP hS (0) 13 (by decide) rfl rfl rfl (by decide) inX12 tyX12 tyX12_ok nmX12 rfl tw_4_177 rfl rfl dX12_asks_37 (fun H locs hP hS => ?_)
  refine lv_aload_n C.1 C.2.1 dX12_asks_40 rfl (lv_at hl 0 rfl) ?_
  refine lv_aload_n C.1 C.2.1 dX12_asks_41 rfl (lv_at hl 0 rfl) ?_
  refine mw_getr C Z hP (0) 7 (4) (by decide) rfl rfl rfl (by decide) inX12 tw_4_171 dX12_asks_42 ?_
  refine lv_iconst (v := 2) C.1 C.2.1 dX12_asks_45 (by decide) ?_
  refine mw_iald C Z hP (4) (2) (by decide) rfl (Nat.lt_of_lt_of_le (by decide : 5 < 961) (Nat.le_of_ble_eq_true rfl)) rfl (by decide) dX12_asks_46 ?_
  refine mw_top (y := σ.2.1 4 2) (rfl) ?_
  refine mw_puti C Z hP hS (0) 14 (by decide) rfl rfl rfl (by decide) inX12 tyX12 tyX12_ok nmX12 rfl tw_4_178 rfl rfl dX12_asks_47 (fun H locs hP hS => ?_)
  refine lv_aload_n C.1 C.2.1 dX12_asks_50 rfl (lv_at hl 0 rfl) ?_
  refine lv_aload_n C.1 C.2.1 dX12_asks_51 rfl (lv_at hl 0 rfl) ?_
  refine mw_getr C Z hP (0) 7 (4) (by decide) rfl rfl rfl (by decide) inX12 tw_4_171 dX12_asks_52 ?_
  refine lv_iconst (v := 0) C.1 C.2.1 dX12_asks_55 (by decide) ?_
  refine mw_iald C Z hP (4) (0) (by decide) rfl (Nat.lt_of_lt_of_le (by decide : 5 < 961) (Nat.le_of_ble_eq_true rfl)) rfl (by decide) dX12_asks_56 ?_
  refine mw_top (y := σ.2.1 4 0) (rfl) ?_
  refine mw_puti C Z hP hS (0) 15 (by decide) rfl rfl rfl (by decide) inX12 tyX12 tyX12_ok nmX12 rfl tw_4_179 rfl rfl dX12_asks_57 (fun H locs hP hS => ?_)
  refine lv_aload_n C.1 C.2.1 dX12_asks_60 rfl (lv_at hl 0 rfl) ?_
  refine lv_aload_n C.1 C.2.1 dX12_asks_61 rfl (lv_at hl 0 rfl) ?_
  refine mw_getr C Z hP (0) 7 (4) (by decide) rfl rfl rfl (by decide) inX12 tw_4_171 dX12_asks_62 ?_
  refine lv_iconst (v := 1) C.1 C.2.1 dX12_asks_65 (by decide) ?_
  refine mw_iald C Z hP (4) (1) (by decide) rfl (Nat.lt_of_lt_of_le (by decide : 5 < 961) (Nat.le_of_ble_eq_true rfl)) rfl (by decide) dX12_asks_66 ?_
  refine mw_top (y := σ.2.1 4 1) (rfl) ?_
  refine mw_puti C Z hP hS (0) 16 (by decide) rfl rfl rfl (by decide) inX12 tyX12 tyX12_ok nmX12 rfl tw_4_180 rfl rfl dX12_asks_67 (fun H locs hP hS => ?_)
  refine lv_aload_n C.1 C.2.1 dX12_asks_70 rfl (lv_at hl 0 rfl) ?_
  refine lv_aload_n C.1 C.2.1 dX12_asks_71 rfl (lv_at hl 0 rfl) ?_
  refine mw_geti C Z hP (0) 4 (by decide) rfl rfl rfl (by decide) inX12 tw_4_168 dX12_asks_72 ?_
  refine mw_top (y := nI t) (h4) ?_
  refine lv_iload_n C.1 C.2.1 dX12_asks_75 rfl (lv_at hl 1 rfl) ?_
  refine mw_cVi (As := [.int (nI t), .int 1]) (rest := []) C Z hP hS (0) (cM_read1 l E (mw_si (mw_si (mw_si (mw_si (mw_si (mw_si σ 0 11 (σ.2.1 6 (4 * p + 1))) 0 12 (σ.2.1 6 (4 * p + 2))) 0 13 (σ.2.1 6 (4 * p))) 0 14 (σ.2.1 4 2)) 0 15 (σ.2.1 4 0)) 0 16 (σ.2.1 4 1)) t n bs hTt) vb_X12_read tw_5_60 ⟨rfl, rfl⟩ ⟨Nat.le_of_ble_eq_true rfl, Nat.le_of_ble_eq_true rfl⟩ (by decide) rfl rfl rfl rfl hl.1 rfl (Nat.le_of_ble_eq_true rfl) dX12_asks_76 ⟨Nat.zero_le _, Nat.zero_le _⟩ (fun r1 u2 H locs q3 hP hS => ?_)
  rw [hz] at q3
  obtain ⟨f4, z5, hv6⟩ := q3
  refine lv_iconst (v := 0) C.1 C.2.1 dX12_asks_79 (by decide) ?_
  refine lv_bipush (v := 99) C.1 C.2.1 dX12_asks_80 (by decide) ?_
  refine mw_cSi (As := [.int r1, .int 0, .int 99]) (rest := []) C Z hP hS (cM_within l E u2 r1 0 99) sb_X12_within tw_6_11 ⟨rfl, rfl⟩ ⟨Nat.le_of_ble_eq_true rfl, Nat.le_of_ble_eq_true rfl⟩ rfl hl.1 rfl (Nat.le_of_ble_eq_true rfl) dX12_asks_82 ⟨Nat.zero_le _, Nat.zero_le _⟩ (fun r7 u8 H locs q9 hP hS => ?_)
  obtain ⟨rfl, q9u⟩ := q9
  rw [q9u] at hP; clear q9u
  have hev : ∀ k, k ≤ 5 → mEv (mw_si (mw_si (mw_si (mw_si (mw_si (mw_si σ 0 11 (σ.2.1 6 (4 * p + 1))) 0 12 (σ.2.1 6 (4 * p + 2))) 0 13 (σ.2.1 6 (4 * p))) 0 14 (σ.2.1 4 2)) 0 15 (σ.2.1 4 0)) 0 16 (σ.2.1 4 1)) k = evP (mSt σ) (mCu σ p) k := fun k hk => by
    match k, hk with
    | 0, _ => rfl
    | 1, _ => rfl
    | 2, _ => rfl
    | 3, _ => rfl
    | 4, _ => rfl
    | 5, _ => rfl
  exact mw_iret C hr hlk Z hP hS dX12_asks_85 (⟨by unfold tellP; rw [vaF_of (ruV_congr hev hv6)], ((((((((mFs.rf σ).si (by decide) _).si (by decide) _).si (by decide) _).si (by decide) _).si (by decide) _).si (by decide) _).tr f4.s)⟩)

set_option maxHeartbeats 4000000 in
set_option maxRecDepth 100000 in
theorem cM_asks2 (l : Launch) (E : mw_E) (σ : mw_M) (z : zP) (p : Nat) (hp : p < 8) (hru : mRu σ z) : mw_Ci shM 13 gM l yX12_asks cX12_asks 3 (some .int) (rmF 42 930) E [.ref (mw_a E 0), .int 2, .int (nI p)] σ (fun r u => r = tellP z 2 (mSt σ) (mCu σ p) ∧ mFs σ u) := by
  refine mw_of (by decide) gM_ok (Nat.le_of_ble_eq_true rfl) ?_
  intro p_ e_ s_ m_ below meth c_ C hr hlk Z hP ls hl
  have C : CallFix p_ m_ c_ cX12_asks 3 s_ _ lw_good RX12 := C
  have hl : lv_has ls 3 [(0, .ref (mw_a E 0)), (1, .int 2), (2, .int (nI p))] := hl
  have hS : va_S (mw_A 13 E) s_.heap s_.heap [] := va_S.rf
  obtain ⟨t, n, bs, h4, hTt, hz⟩ := hru
  refine lv_aload_n C.1 C.2.1 dX12_asks_0 rfl (lv_at hl 0 rfl) ?_
  refine lv_aload_n C.1 C.2.1 dX12_asks_1 rfl (lv_at hl 0 rfl) ?_
  refine mw_getr C Z hP (0) 9 (6) (by decide) rfl rfl rfl (by decide) inX12 tw_4_173 dX12_asks_2 ?_
  refine lv_iconst (v := 4) C.1 C.2.1 dX12_asks_5 (by decide) ?_
  refine lv_iload_n C.1 C.2.1 dX12_asks_6 rfl (lv_at hl 2 rfl) ?_
  refine lv_imul C.1 C.2.1 dX12_asks_7 ?_
  refine mw_top (y := nI (4 * p)) (pk_mul 4 p) ?_
  refine lv_iconst (v := 1) C.1 C.2.1 dX12_asks_8 (by decide) ?_
  refine lv_iadd C.1 C.2.1 dX12_asks_9 ?_
  refine mw_top (y := nI (4 * p + 1)) (nI_1 _) ?_
  refine mw_iald C Z hP (6) (4 * p + 1) (by decide) rfl (Nat.lt_of_lt_of_le (by decide : 32 < 961) (Nat.le_of_ble_eq_true rfl)) rfl (by omega) dX12_asks_10 ?_
  refine mw_puti C Z hP hS (0) 11 (by decide) rfl rfl rfl (by decide) inX12 tyX12 tyX12_ok nmX12 rfl tw_4_175 rfl rfl dX12_asks_11 (fun H locs hP hS => ?_)
  refine lv_aload_n C.1 C.2.1 dX12_asks_14 rfl (lv_at hl 0 rfl) ?_
  refine lv_aload_n C.1 C.2.1 dX12_asks_15 rfl (lv_at hl 0 rfl) ?_
  refine mw_getr C Z hP (0) 9 (6) (by decide) rfl rfl rfl (by decide) inX12 tw_4_173 dX12_asks_16 ?_
  refine lv_iconst (v := 4) C.1 C.2.1 dX12_asks_19 (by decide) ?_
  refine lv_iload_n C.1 C.2.1 dX12_asks_20 rfl (lv_at hl 2 rfl) ?_
  refine lv_imul C.1 C.2.1 dX12_asks_21 ?_
  refine mw_top (y := nI (4 * p)) (pk_mul 4 p) ?_
  refine lv_iconst (v := 2) C.1 C.2.1 dX12_asks_22 (by decide) ?_
  refine lv_iadd C.1 C.2.1 dX12_asks_23 ?_
  refine mw_top (y := nI (4 * p + 2)) (nI_add _ 2) ?_
  refine mw_iald C Z hP (6) (4 * p + 2) (by decide) rfl (Nat.lt_of_lt_of_le (by decide : 32 < 961) (Nat.le_of_ble_eq_true rfl)) rfl (by omega) dX12_asks_24 ?_
  refine mw_top (y := σ.2.1 6 (4 * p + 2)) (rfl) ?_
  refine mw_puti C Z hP hS (0) 12 (by decide) rfl rfl rfl (by decide) inX12 tyX12 tyX12_ok nmX12 rfl tw_4_176 rfl rfl dX12_asks_25 (fun H locs hP hS => ?_)
  refine lv_aload_n C.1 C.2.1 dX12_asks_28 rfl (lv_at hl 0 rfl) ?_
  refine lv_aload_n C.1 C.2.1 dX12_asks_29 rfl (lv_at hl 0 rfl) ?_
  refine mw_getr C Z hP (0) 9 (6) (by decide) rfl rfl rfl (by decide) inX12 tw_4_173 dX12_asks_30 ?_
  refine lv_iconst (v := 4) C.1 C.2.1 dX12_asks_33 (by decide) ?_
  refine lv_iload_n C.1 C.2.1 dX12_asks_34 rfl (lv_at hl 2 rfl) ?_
  refine lv_imul C.1 C.2.1 dX12_asks_35 ?_
  refine mw_top (y := nI (4 * p)) (pk_mul 4 p) ?_
  refine mw_iald C Z hP (6) (4 * p) (by decide) rfl (Nat.lt_of_lt_of_le (by decide : 32 < 961) (Nat.le_of_ble_eq_true rfl)) rfl (by omega) dX12_asks_36 ?_
  refine mw_top (y := σ.2.1 6 (4 * p)) (rfl) ?_
  refine mw_puti C Z hP hS (0) 13 (by decide) rfl rfl rfl (by decide) inX12 tyX12 tyX12_ok nmX12 rfl tw_4_177 rfl rfl dX12_asks_37 (fun H locs hP hS => ?_)
  refine lv_aload_n C.1 C.2.1 dX12_asks_40 rfl (lv_at hl 0 rfl) ?_
  refine lv_aload_n C.1 C.2.1 dX12_asks_41 rfl (lv_at hl 0 rfl) ?_
  refine mw_getr C Z hP (0) 7 (4) (by decide) rfl rfl rfl (by decide) inX12 tw_4_171 dX12_asks_42 ?_
  refine lv_iconst (v := 2) C.1 C.2.1 dX12_asks_45 (by decide) ?_
  refine mw_iald C Z hP (4) (2) (by decide) rfl (Nat.lt_of_lt_of_le (by decide : 5 < 961) (Nat.le_of_ble_eq_true rfl)) rfl (by decide) dX12_asks_46 ?_
  refine mw_top (y := σ.2.1 4 2) (rfl) ?_
  refine mw_puti C Z hP hS (0) 14 (by decide) rfl rfl rfl (by decide) inX12 tyX12 tyX12_ok nmX12 rfl tw_4_178 rfl rfl dX12_asks_47 (fun H locs hP hS => ?_)
  refine lv_aload_n C.1 C.2.1 dX12_asks_50 rfl (lv_at hl 0 rfl) ?_
  refine lv_aload_n C.1 C.2.1 dX12_asks_51 rfl (lv_at hl 0 rfl) ?_
  refine mw_getr C Z hP (0) 7 (4) (by decide) rfl rfl rfl (by decide) inX12 tw_4_171 dX12_asks_52 ?_
  refine lv_iconst (v := 0) C.1 C.2.1 dX12_asks_55 (by decide) ?_
  refine mw_iald C Z hP (4) (0) (by decide) rfl (Nat.lt_of_lt_of_le (by decide : 5 < 961) (Nat.le_of_ble_eq_true rfl)) rfl (by decide) dX12_asks_56 ?_
  refine mw_top (y := σ.2.1 4 0) (rfl) ?_
  refine mw_puti C Z hP hS (0) 15 (by decide) rfl rfl rfl (by decide) inX12 tyX12 tyX12_ok nmX12 rfl tw_4_179 rfl rfl dX12_asks_57 (fun H locs hP hS => ?_)
  refine lv_aload_n C.1 C.2.1 dX12_asks_60 rfl (lv_at hl 0 rfl) ?_
  refine lv_aload_n C.1 C.2.1 dX12_asks_61 rfl (lv_at hl 0 rfl) ?_
  refine mw_getr C Z hP (0) 7 (4) (by decide) rfl rfl rfl (by decide) inX12 tw_4_171 dX12_asks_62 ?_
  refine lv_iconst (v := 1) C.1 C.2.1 dX12_asks_65 (by decide) ?_
  refine mw_iald C Z hP (4) (1) (by decide) rfl (Nat.lt_of_lt_of_le (by decide : 5 < 961) (Nat.le_of_ble_eq_true rfl)) rfl (by decide) dX12_asks_66 ?_
  refine mw_top (y := σ.2.1 4 1) (rfl) ?_
  refine mw_puti C Z hP hS (0) 16 (by decide) rfl rfl rfl (by decide) inX12 tyX12 tyX12_ok nmX12 rfl tw_4_180 rfl rfl dX12_asks_67 (fun H locs hP hS => ?_)
  refine lv_aload_n C.1 C.2.1 dX12_asks_70 rfl (lv_at hl 0 rfl) ?_
  refine lv_aload_n C.1 C.2.1 dX12_asks_71 rfl (lv_at hl 0 rfl) ?_
  refine mw_geti C Z hP (0) 4 (by decide) rfl rfl rfl (by decide) inX12 tw_4_168 dX12_asks_72 ?_
  refine mw_top (y := nI t) (h4) ?_
  refine lv_iload_n C.1 C.2.1 dX12_asks_75 rfl (lv_at hl 1 rfl) ?_
  refine mw_cVi (As := [.int (nI t), .int 2]) (rest := []) C Z hP hS (0) (cM_read2 l E (mw_si (mw_si (mw_si (mw_si (mw_si (mw_si σ 0 11 (σ.2.1 6 (4 * p + 1))) 0 12 (σ.2.1 6 (4 * p + 2))) 0 13 (σ.2.1 6 (4 * p))) 0 14 (σ.2.1 4 2)) 0 15 (σ.2.1 4 0)) 0 16 (σ.2.1 4 1)) t n bs hTt) vb_X12_read tw_5_60 ⟨rfl, rfl⟩ ⟨Nat.le_of_ble_eq_true rfl, Nat.le_of_ble_eq_true rfl⟩ (by decide) rfl rfl rfl rfl hl.1 rfl (Nat.le_of_ble_eq_true rfl) dX12_asks_76 ⟨Nat.zero_le _, Nat.zero_le _⟩ (fun r1 u2 H locs q3 hP hS => ?_)
  rw [hz] at q3
  obtain ⟨f4, z5, hv6⟩ := q3
  refine lv_iconst (v := 0) C.1 C.2.1 dX12_asks_79 (by decide) ?_
  refine lv_bipush (v := 99) C.1 C.2.1 dX12_asks_80 (by decide) ?_
  refine mw_cSi (As := [.int r1, .int 0, .int 99]) (rest := []) C Z hP hS (cM_within l E u2 r1 0 99) sb_X12_within tw_6_11 ⟨rfl, rfl⟩ ⟨Nat.le_of_ble_eq_true rfl, Nat.le_of_ble_eq_true rfl⟩ rfl hl.1 rfl (Nat.le_of_ble_eq_true rfl) dX12_asks_82 ⟨Nat.zero_le _, Nat.zero_le _⟩ (fun r7 u8 H locs q9 hP hS => ?_)
  obtain ⟨rfl, q9u⟩ := q9
  rw [q9u] at hP; clear q9u
  have hev : ∀ k, k ≤ 5 → mEv (mw_si (mw_si (mw_si (mw_si (mw_si (mw_si σ 0 11 (σ.2.1 6 (4 * p + 1))) 0 12 (σ.2.1 6 (4 * p + 2))) 0 13 (σ.2.1 6 (4 * p))) 0 14 (σ.2.1 4 2)) 0 15 (σ.2.1 4 0)) 0 16 (σ.2.1 4 1)) k = evP (mSt σ) (mCu σ p) k := fun k hk => by
    match k, hk with
    | 0, _ => rfl
    | 1, _ => rfl
    | 2, _ => rfl
    | 3, _ => rfl
    | 4, _ => rfl
    | 5, _ => rfl
  exact mw_iret C hr hlk Z hP hS dX12_asks_85 (⟨by unfold tellP; rw [vaF_of (ruV_congr hev hv6)], ((((((((mFs.rf σ).si (by decide) _).si (by decide) _).si (by decide) _).si (by decide) _).si (by decide) _).si (by decide) _).tr f4.s)⟩)

set_option maxHeartbeats 4000000 in
set_option maxRecDepth 100000 in
theorem cM_eatsOf (l : Launch) (E : mw_E) (σ : mw_M) (z : zP) (p : Nat) (hp : p < 8) (hru : mRu σ z) : mw_Ci shM 13 gM l yX12_eatsOf cX12_eatsOf 5 (some .int) (rmF 43 952) E [.ref (mw_a E 0), .int (nI p)] σ (fun r u => r = eatsP z (mSt σ) (mCu σ p) ∧ mFs σ u) := by
  refine mw_of (by decide) gM_ok (Nat.le_of_ble_eq_true rfl) ?_
  intro p_ e_ s_ m_ below meth c_ C hr hlk Z hP ls hl
  have C : CallFix p_ m_ c_ cX12_eatsOf 5 s_ _ lw_good RX12 := C
  have hl : lv_has ls 5 [(0, .ref (mw_a E 0)), (1, .int (nI p))] := hl
  have hS : va_S (mw_A 13 E) s_.heap s_.heap [] := va_S.rf
  refine lv_aload_n C.1 C.2.1 dX12_eatsOf_0 rfl (lv_at hl 0 rfl) ?_
  refine mw_getr C Z hP (0) 8 (5) (by decide) rfl rfl rfl (by decide) inX12 tw_4_172 dX12_eatsOf_1 ?_
  refine lv_iload_n C.1 C.2.1 dX12_eatsOf_4 rfl (lv_at hl 1 rfl) ?_
  refine mw_iald C Z hP (5) (p) (by decide) rfl (Nat.lt_of_lt_of_le (by decide : 8 < 961) (Nat.le_of_ble_eq_true rfl)) rfl (by omega) dX12_eatsOf_5 ?_
  refine lv_istore_n (lv' := [(2, .int (σ.2.1 5 p)), (0, .ref (mw_a E 0)), (1, .int (nI p))]) C.1 C.2.1 dX12_eatsOf_6 rfl hl (by decide) rfl (fun ls hl => ?_)
  refine lv_iload_n C.1 C.2.1 dX12_eatsOf_7 rfl (lv_at hl 0 rfl) ?_
  refine lv_iconst (v := 4) C.1 C.2.1 dX12_eatsOf_8 (by decide) ?_
  refine lv_icmp_ne (tgt := 24) C.1 C.2.1 dX12_eatsOf_9 (by decide) (fun c1 => ?_) (fun c1 => ?_)
  · refine lv_aload_n C.1 C.2.1 dX12_eatsOf_24 rfl (lv_at hl 1 rfl) ?_
    refine lv_iconst (v := 0) C.1 C.2.1 dX12_eatsOf_25 (by decide) ?_
    refine lv_iload_n C.1 C.2.1 dX12_eatsOf_26 rfl (lv_at hl 2 rfl) ?_
    refine mw_cVi (As := [.int 0, .int (nI p)]) (rest := []) C Z hP hS (0) (cM_asks0 l E σ z p (by omega) ((mFs.rf σ).ru hru)) vb_X12_asks tw_5_56 ⟨rfl, rfl⟩ ⟨Nat.le_of_ble_eq_true rfl, Nat.le_of_ble_eq_true rfl⟩ (by decide) rfl rfl rfl rfl hl.1 rfl (Nat.le_of_ble_eq_true rfl) dX12_eatsOf_27 ⟨Nat.zero_le _, Nat.zero_le _⟩ (fun r2 u3 H locs q4 hP hS => ?_)
    obtain ⟨e6, f5⟩ := q4
    rw [(mFs.rf σ).st, (mFs.rf σ).cu] at e6
    subst e6
    refine lv_istore_n (lv' := [(3, .int (tellP z 0 (mSt σ) (mCu σ p))), (2, .int (σ.2.1 5 p)), (0, .ref (mw_a E 0)), (1, .int (nI p))]) C.1 C.2.1 dX12_eatsOf_30 rfl hl (by decide) rfl (fun ls hl => ?_)
    refine lv_iload_n C.1 C.2.1 dX12_eatsOf_31 rfl (lv_at hl 1 rfl) ?_
    refine lv_iconst (v := 1) C.1 C.2.1 dX12_eatsOf_32 (by decide) ?_
    refine lv_icmp_ne (tgt := 42) C.1 C.2.1 dX12_eatsOf_33 (by decide) (fun c7 => ?_) (fun c7 => ?_)
    · refine lv_iload_n C.1 C.2.1 dX12_eatsOf_42 rfl (lv_at hl 1 rfl) ?_
      refine lv_iconst (v := 3) C.1 C.2.1 dX12_eatsOf_43 (by decide) ?_
      refine lv_icmp_ne (tgt := 67) C.1 C.2.1 dX12_eatsOf_44 (by decide) (fun c8 => ?_) (fun c8 => ?_)
      · refine lv_iload_n C.1 C.2.1 dX12_eatsOf_67 rfl (lv_at hl 1 rfl) ?_
        refine lv_iconst (v := 2) C.1 C.2.1 dX12_eatsOf_68 (by decide) ?_
        refine lv_icmp_eq (tgt := 77) C.1 C.2.1 dX12_eatsOf_69 (by decide) (fun c9 => ?_) (fun c9 => ?_)
        · refine lv_iload_n C.1 C.2.1 dX12_eatsOf_77 rfl (lv_at hl 0 rfl) ?_
          refine lv_iconst (v := 0) C.1 C.2.1 dX12_eatsOf_78 (by decide) ?_
          refine lv_aload_n C.1 C.2.1 dX12_eatsOf_79 rfl (lv_at hl 2 rfl) ?_
          refine mw_getr C Z hP (0) 7 (4) (by decide) rfl rfl rfl (by decide) inX12 tw_4_171 dX12_eatsOf_80 ?_
          refine lv_iconst (v := 1) C.1 C.2.1 dX12_eatsOf_83 (by decide) ?_
          refine mw_iald C Z hP (4) (1) (by decide) rfl (Nat.lt_of_lt_of_le (by decide : 5 < 961) (Nat.le_of_ble_eq_true rfl)) rfl (by decide) dX12_eatsOf_84 ?_
          refine mw_top (y := σ.2.1 4 1) (by first | (rw [((mFs.rf σ).tr f5).1]; done) | (rw [((mFs.rf σ).tr f5).1]; rfl)) ?_
          refine mw_cSi (As := [.int (tellP z 0 (mSt σ) (mCu σ p)), .int 0, .int (σ.2.1 4 1)]) (rest := []) C Z hP hS (cM_within l E u3 (tellP z 0 (mSt σ) (mCu σ p)) 0 (σ.2.1 4 1)) sb_X12_within tw_6_11 ⟨rfl, rfl⟩ ⟨Nat.le_of_ble_eq_true rfl, Nat.le_of_ble_eq_true rfl⟩ rfl hl.1 rfl (Nat.le_of_ble_eq_true rfl) dX12_eatsOf_85 ⟨Nat.zero_le _, Nat.zero_le _⟩ (fun r10 u11 H locs q12 hP hS => ?_)
          obtain ⟨rfl, q12u⟩ := q12
          rw [q12u] at hP; clear q12u
          refine lv_goto (tgt := 106) C.1 C.2.1 dX12_eatsOf_88 (by decide) ?_
          refine lv_istore (lv' := [(4, .int (wI (tellP z 0 (mSt σ) (mCu σ p)) 0 (σ.2.1 4 1))), (3, .int (tellP z 0 (mSt σ) (mCu σ p))), (2, .int (σ.2.1 5 p)), (0, .ref (mw_a E 0)), (1, .int (nI p))]) C.1 C.2.1 dX12_eatsOf_106 hl (by decide) rfl (fun ls hl => ?_)
          refine lv_iload C.1 C.2.1 dX12_eatsOf_108 (lv_at hl 0 rfl) ?_
          refine lv_iconst (v := 0) C.1 C.2.1 dX12_eatsOf_110 (by decide) ?_
          refine lv_bipush (v := 99) C.1 C.2.1 dX12_eatsOf_111 (by decide) ?_
          refine mw_cSi (As := [.int (wI (tellP z 0 (mSt σ) (mCu σ p)) 0 (σ.2.1 4 1)), .int 0, .int 99]) (rest := []) C Z hP hS (cM_within l E u3 (wI (tellP z 0 (mSt σ) (mCu σ p)) 0 (σ.2.1 4 1)) 0 99) sb_X12_within tw_6_11 ⟨rfl, rfl⟩ ⟨Nat.le_of_ble_eq_true rfl, Nat.le_of_ble_eq_true rfl⟩ rfl hl.1 rfl (Nat.le_of_ble_eq_true rfl) dX12_eatsOf_113 ⟨Nat.zero_le _, Nat.zero_le _⟩ (fun r13 u14 H locs q15 hP hS => ?_)
          obtain ⟨rfl, q15u⟩ := q15
          rw [q15u] at hP; clear q15u
          exact mw_iret C hr hlk Z hP hS dX12_eatsOf_116 (⟨by first | contradiction | (unfold eatsP; simp only [show mCu σ p 0 = σ.2.1 5 p from rfl, show mCu σ p 1 = σ.2.1 6 (4 * p) from rfl, show mCu σ p 2 = σ.2.1 6 (4 * p + 1) from rfl, show mCu σ p 3 = σ.2.1 6 (4 * p + 2) from rfl, show mSt σ 0 = σ.2.1 4 0 from rfl, show mSt σ 1 = σ.2.1 4 1 from rfl, show mSt σ 2 = σ.2.1 4 2 from rfl, show mSt σ 3 = σ.2.1 4 3 from rfl, show mSt σ 4 = σ.2.1 4 4 from rfl]; simp [c1, c7, c8, c9]; done) | (exfalso; simp only [c1, c7, c8, c9] at *; contradiction), ((mFs.rf σ).tr f5)⟩)
        · refine lv_iload_n C.1 C.2.1 dX12_eatsOf_72 rfl (lv_at hl 1 rfl) ?_
          refine lv_iconst (v := 4) C.1 C.2.1 dX12_eatsOf_73 (by decide) ?_
          refine lv_icmp_ne (tgt := 91) C.1 C.2.1 dX12_eatsOf_74 (by decide) (fun c16 => ?_) (fun c16 => ?_)
          · refine lv_iload_n C.1 C.2.1 dX12_eatsOf_91 rfl (lv_at hl 1 rfl) ?_
            refine lv_iconst (v := 5) C.1 C.2.1 dX12_eatsOf_92 (by decide) ?_
            refine lv_icmp_ne (tgt := 105) C.1 C.2.1 dX12_eatsOf_93 (by decide) (fun c17 => ?_) (fun c17 => ?_)
            · refine lv_iload_n C.1 C.2.1 dX12_eatsOf_105 rfl (lv_at hl 0 rfl) ?_
              refine lv_istore (lv' := [(4, .int (tellP z 0 (mSt σ) (mCu σ p))), (3, .int (tellP z 0 (mSt σ) (mCu σ p))), (2, .int (σ.2.1 5 p)), (0, .ref (mw_a E 0)), (1, .int (nI p))]) C.1 C.2.1 dX12_eatsOf_106 hl (by decide) rfl (fun ls hl => ?_)
              refine lv_iload C.1 C.2.1 dX12_eatsOf_108 (lv_at hl 0 rfl) ?_
              refine lv_iconst (v := 0) C.1 C.2.1 dX12_eatsOf_110 (by decide) ?_
              refine lv_bipush (v := 99) C.1 C.2.1 dX12_eatsOf_111 (by decide) ?_
              refine mw_cSi (As := [.int (tellP z 0 (mSt σ) (mCu σ p)), .int 0, .int 99]) (rest := []) C Z hP hS (cM_within l E u3 (tellP z 0 (mSt σ) (mCu σ p)) 0 99) sb_X12_within tw_6_11 ⟨rfl, rfl⟩ ⟨Nat.le_of_ble_eq_true rfl, Nat.le_of_ble_eq_true rfl⟩ rfl hl.1 rfl (Nat.le_of_ble_eq_true rfl) dX12_eatsOf_113 ⟨Nat.zero_le _, Nat.zero_le _⟩ (fun r18 u19 H locs q20 hP hS => ?_)
              obtain ⟨rfl, q20u⟩ := q20
              rw [q20u] at hP; clear q20u
              exact mw_iret C hr hlk Z hP hS dX12_eatsOf_116 (⟨by first | contradiction | (unfold eatsP; simp only [show mCu σ p 0 = σ.2.1 5 p from rfl, show mCu σ p 1 = σ.2.1 6 (4 * p) from rfl, show mCu σ p 2 = σ.2.1 6 (4 * p + 1) from rfl, show mCu σ p 3 = σ.2.1 6 (4 * p + 2) from rfl, show mSt σ 0 = σ.2.1 4 0 from rfl, show mSt σ 1 = σ.2.1 4 1 from rfl, show mSt σ 2 = σ.2.1 4 2 from rfl, show mSt σ 3 = σ.2.1 4 3 from rfl, show mSt σ 4 = σ.2.1 4 4 from rfl]; simp [c1, c7, c8, c9, c16, c17]; done) | (exfalso; simp only [c1, c7, c8, c9, c16, c17] at *; contradiction), ((mFs.rf σ).tr f5)⟩)
            · refine lv_iload_n C.1 C.2.1 dX12_eatsOf_96 rfl (lv_at hl 0 rfl) ?_
              refine lv_iconst (v := 0) C.1 C.2.1 dX12_eatsOf_97 (by decide) ?_
              refine lv_iconst (v := 1) C.1 C.2.1 dX12_eatsOf_98 (by decide) ?_
              refine mw_cSi (As := [.int (tellP z 0 (mSt σ) (mCu σ p)), .int 0, .int 1]) (rest := []) C Z hP hS (cM_within l E u3 (tellP z 0 (mSt σ) (mCu σ p)) 0 1) sb_X12_within tw_6_11 ⟨rfl, rfl⟩ ⟨Nat.le_of_ble_eq_true rfl, Nat.le_of_ble_eq_true rfl⟩ rfl hl.1 rfl (Nat.le_of_ble_eq_true rfl) dX12_eatsOf_99 ⟨Nat.zero_le _, Nat.zero_le _⟩ (fun r21 u22 H locs q23 hP hS => ?_)
              obtain ⟨rfl, q23u⟩ := q23
              rw [q23u] at hP; clear q23u
              refine lv_goto (tgt := 106) C.1 C.2.1 dX12_eatsOf_102 (by decide) ?_
              refine lv_istore (lv' := [(4, .int (wI (tellP z 0 (mSt σ) (mCu σ p)) 0 1)), (3, .int (tellP z 0 (mSt σ) (mCu σ p))), (2, .int (σ.2.1 5 p)), (0, .ref (mw_a E 0)), (1, .int (nI p))]) C.1 C.2.1 dX12_eatsOf_106 hl (by decide) rfl (fun ls hl => ?_)
              refine lv_iload C.1 C.2.1 dX12_eatsOf_108 (lv_at hl 0 rfl) ?_
              refine lv_iconst (v := 0) C.1 C.2.1 dX12_eatsOf_110 (by decide) ?_
              refine lv_bipush (v := 99) C.1 C.2.1 dX12_eatsOf_111 (by decide) ?_
              refine mw_cSi (As := [.int (wI (tellP z 0 (mSt σ) (mCu σ p)) 0 1), .int 0, .int 99]) (rest := []) C Z hP hS (cM_within l E u3 (wI (tellP z 0 (mSt σ) (mCu σ p)) 0 1) 0 99) sb_X12_within tw_6_11 ⟨rfl, rfl⟩ ⟨Nat.le_of_ble_eq_true rfl, Nat.le_of_ble_eq_true rfl⟩ rfl hl.1 rfl (Nat.le_of_ble_eq_true rfl) dX12_eatsOf_113 ⟨Nat.zero_le _, Nat.zero_le _⟩ (fun r24 u25 H locs q26 hP hS => ?_)
              obtain ⟨rfl, q26u⟩ := q26
              rw [q26u] at hP; clear q26u
              exact mw_iret C hr hlk Z hP hS dX12_eatsOf_116 (⟨by first | contradiction | (unfold eatsP; simp only [show mCu σ p 0 = σ.2.1 5 p from rfl, show mCu σ p 1 = σ.2.1 6 (4 * p) from rfl, show mCu σ p 2 = σ.2.1 6 (4 * p + 1) from rfl, show mCu σ p 3 = σ.2.1 6 (4 * p + 2) from rfl, show mSt σ 0 = σ.2.1 4 0 from rfl, show mSt σ 1 = σ.2.1 4 1 from rfl, show mSt σ 2 = σ.2.1 4 2 from rfl, show mSt σ 3 = σ.2.1 4 3 from rfl, show mSt σ 4 = σ.2.1 4 4 from rfl]; simp [c1, c7, c8, c9, c16, c17]; done) | (exfalso; simp only [c1, c7, c8, c9, c16, c17] at *; contradiction), ((mFs.rf σ).tr f5)⟩)
          · refine lv_iload_n C.1 C.2.1 dX12_eatsOf_77 rfl (lv_at hl 0 rfl) ?_
            refine lv_iconst (v := 0) C.1 C.2.1 dX12_eatsOf_78 (by decide) ?_
            refine lv_aload_n C.1 C.2.1 dX12_eatsOf_79 rfl (lv_at hl 2 rfl) ?_
            refine mw_getr C Z hP (0) 7 (4) (by decide) rfl rfl rfl (by decide) inX12 tw_4_171 dX12_eatsOf_80 ?_
            refine lv_iconst (v := 1) C.1 C.2.1 dX12_eatsOf_83 (by decide) ?_
            refine mw_iald C Z hP (4) (1) (by decide) rfl (Nat.lt_of_lt_of_le (by decide : 5 < 961) (Nat.le_of_ble_eq_true rfl)) rfl (by decide) dX12_eatsOf_84 ?_
            refine mw_top (y := σ.2.1 4 1) (by first | (rw [((mFs.rf σ).tr f5).1]; done) | (rw [((mFs.rf σ).tr f5).1]; rfl)) ?_
            refine mw_cSi (As := [.int (tellP z 0 (mSt σ) (mCu σ p)), .int 0, .int (σ.2.1 4 1)]) (rest := []) C Z hP hS (cM_within l E u3 (tellP z 0 (mSt σ) (mCu σ p)) 0 (σ.2.1 4 1)) sb_X12_within tw_6_11 ⟨rfl, rfl⟩ ⟨Nat.le_of_ble_eq_true rfl, Nat.le_of_ble_eq_true rfl⟩ rfl hl.1 rfl (Nat.le_of_ble_eq_true rfl) dX12_eatsOf_85 ⟨Nat.zero_le _, Nat.zero_le _⟩ (fun r27 u28 H locs q29 hP hS => ?_)
            obtain ⟨rfl, q29u⟩ := q29
            rw [q29u] at hP; clear q29u
            refine lv_goto (tgt := 106) C.1 C.2.1 dX12_eatsOf_88 (by decide) ?_
            refine lv_istore (lv' := [(4, .int (wI (tellP z 0 (mSt σ) (mCu σ p)) 0 (σ.2.1 4 1))), (3, .int (tellP z 0 (mSt σ) (mCu σ p))), (2, .int (σ.2.1 5 p)), (0, .ref (mw_a E 0)), (1, .int (nI p))]) C.1 C.2.1 dX12_eatsOf_106 hl (by decide) rfl (fun ls hl => ?_)
            refine lv_iload C.1 C.2.1 dX12_eatsOf_108 (lv_at hl 0 rfl) ?_
            refine lv_iconst (v := 0) C.1 C.2.1 dX12_eatsOf_110 (by decide) ?_
            refine lv_bipush (v := 99) C.1 C.2.1 dX12_eatsOf_111 (by decide) ?_
            refine mw_cSi (As := [.int (wI (tellP z 0 (mSt σ) (mCu σ p)) 0 (σ.2.1 4 1)), .int 0, .int 99]) (rest := []) C Z hP hS (cM_within l E u3 (wI (tellP z 0 (mSt σ) (mCu σ p)) 0 (σ.2.1 4 1)) 0 99) sb_X12_within tw_6_11 ⟨rfl, rfl⟩ ⟨Nat.le_of_ble_eq_true rfl, Nat.le_of_ble_eq_true rfl⟩ rfl hl.1 rfl (Nat.le_of_ble_eq_true rfl) dX12_eatsOf_113 ⟨Nat.zero_le _, Nat.zero_le _⟩ (fun r30 u31 H locs q32 hP hS => ?_)
            obtain ⟨rfl, q32u⟩ := q32
            rw [q32u] at hP; clear q32u
            exact mw_iret C hr hlk Z hP hS dX12_eatsOf_116 (⟨by first | contradiction | (unfold eatsP; simp only [show mCu σ p 0 = σ.2.1 5 p from rfl, show mCu σ p 1 = σ.2.1 6 (4 * p) from rfl, show mCu σ p 2 = σ.2.1 6 (4 * p + 1) from rfl, show mCu σ p 3 = σ.2.1 6 (4 * p + 2) from rfl, show mSt σ 0 = σ.2.1 4 0 from rfl, show mSt σ 1 = σ.2.1 4 1 from rfl, show mSt σ 2 = σ.2.1 4 2 from rfl, show mSt σ 3 = σ.2.1 4 3 from rfl, show mSt σ 4 = σ.2.1 4 4 from rfl]; simp [c1, c7, c8, c9, c16]; done) | (exfalso; simp only [c1, c7, c8, c9, c16] at *; contradiction), ((mFs.rf σ).tr f5)⟩)
      · refine lv_iconst (v := 2) C.1 C.2.1 dX12_eatsOf_47 (by decide) ?_
        refine lv_iload_n C.1 C.2.1 dX12_eatsOf_48 rfl (lv_at hl 0 rfl) ?_
        refine lv_imul C.1 C.2.1 dX12_eatsOf_49 ?_
        refine lv_aload_n C.1 C.2.1 dX12_eatsOf_50 rfl (lv_at hl 2 rfl) ?_
        refine mw_getr C Z hP (0) 9 (6) (by decide) rfl rfl rfl (by decide) inX12 tw_4_173 dX12_eatsOf_51 ?_
        refine lv_iconst (v := 4) C.1 C.2.1 dX12_eatsOf_54 (by decide) ?_
        refine lv_iload_n C.1 C.2.1 dX12_eatsOf_55 rfl (lv_at hl 3 rfl) ?_
        refine lv_imul C.1 C.2.1 dX12_eatsOf_56 ?_
        refine mw_top (y := nI (4 * p)) (pk_mul 4 p) ?_
        refine lv_iconst (v := 2) C.1 C.2.1 dX12_eatsOf_57 (by decide) ?_
        refine lv_iadd C.1 C.2.1 dX12_eatsOf_58 ?_
        refine mw_top (y := nI (4 * p + 2)) (nI_add _ 2) ?_
        refine mw_iald C Z hP (6) (4 * p + 2) (by decide) rfl (Nat.lt_of_lt_of_le (by decide : 32 < 961) (Nat.le_of_ble_eq_true rfl)) rfl (by omega) dX12_eatsOf_59 ?_
        refine mw_top (y := σ.2.1 6 (4 * p + 2)) (by first | (rw [((mFs.rf σ).tr f5).1]; done) | (rw [((mFs.rf σ).tr f5).1]; rfl)) ?_
        refine lv_bipush (v := 10) C.1 C.2.1 dX12_eatsOf_60 (by decide) ?_
        refine lv_idiv C.1 C.2.1 dX12_eatsOf_62 (by decide) ?_
        refine lv_iadd C.1 C.2.1 dX12_eatsOf_63 ?_
        refine lv_goto (tgt := 106) C.1 C.2.1 dX12_eatsOf_64 (by decide) ?_
        refine lv_istore (lv' := [(4, .int ((2 * (tellP z 0 (mSt σ) (mCu σ p))) + ((σ.2.1 6 (4 * p + 2)) / 10))), (3, .int (tellP z 0 (mSt σ) (mCu σ p))), (2, .int (σ.2.1 5 p)), (0, .ref (mw_a E 0)), (1, .int (nI p))]) C.1 C.2.1 dX12_eatsOf_106 hl (by decide) rfl (fun ls hl => ?_)
        refine lv_iload C.1 C.2.1 dX12_eatsOf_108 (lv_at hl 0 rfl) ?_
        refine lv_iconst (v := 0) C.1 C.2.1 dX12_eatsOf_110 (by decide) ?_
        refine lv_bipush (v := 99) C.1 C.2.1 dX12_eatsOf_111 (by decide) ?_
        refine mw_cSi (As := [.int ((2 * (tellP z 0 (mSt σ) (mCu σ p))) + ((σ.2.1 6 (4 * p + 2)) / 10)), .int 0, .int 99]) (rest := []) C Z hP hS (cM_within l E u3 ((2 * (tellP z 0 (mSt σ) (mCu σ p))) + ((σ.2.1 6 (4 * p + 2)) / 10)) 0 99) sb_X12_within tw_6_11 ⟨rfl, rfl⟩ ⟨Nat.le_of_ble_eq_true rfl, Nat.le_of_ble_eq_true rfl⟩ rfl hl.1 rfl (Nat.le_of_ble_eq_true rfl) dX12_eatsOf_113 ⟨Nat.zero_le _, Nat.zero_le _⟩ (fun r33 u34 H locs q35 hP hS => ?_)
        obtain ⟨rfl, q35u⟩ := q35
        rw [q35u] at hP; clear q35u
        exact mw_iret C hr hlk Z hP hS dX12_eatsOf_116 (⟨by first | contradiction | (unfold eatsP; simp only [show mCu σ p 0 = σ.2.1 5 p from rfl, show mCu σ p 1 = σ.2.1 6 (4 * p) from rfl, show mCu σ p 2 = σ.2.1 6 (4 * p + 1) from rfl, show mCu σ p 3 = σ.2.1 6 (4 * p + 2) from rfl, show mSt σ 0 = σ.2.1 4 0 from rfl, show mSt σ 1 = σ.2.1 4 1 from rfl, show mSt σ 2 = σ.2.1 4 2 from rfl, show mSt σ 3 = σ.2.1 4 3 from rfl, show mSt σ 4 = σ.2.1 4 4 from rfl]; simp [c1, c7, c8]; done) | (exfalso; simp only [c1, c7, c8] at *; contradiction), ((mFs.rf σ).tr f5)⟩)
    · refine lv_iconst (v := 2) C.1 C.2.1 dX12_eatsOf_36 (by decide) ?_
      refine lv_iload_n C.1 C.2.1 dX12_eatsOf_37 rfl (lv_at hl 0 rfl) ?_
      refine lv_imul C.1 C.2.1 dX12_eatsOf_38 ?_
      refine lv_goto (tgt := 106) C.1 C.2.1 dX12_eatsOf_39 (by decide) ?_
      refine lv_istore (lv' := [(4, .int (2 * (tellP z 0 (mSt σ) (mCu σ p)))), (3, .int (tellP z 0 (mSt σ) (mCu σ p))), (2, .int (σ.2.1 5 p)), (0, .ref (mw_a E 0)), (1, .int (nI p))]) C.1 C.2.1 dX12_eatsOf_106 hl (by decide) rfl (fun ls hl => ?_)
      refine lv_iload C.1 C.2.1 dX12_eatsOf_108 (lv_at hl 0 rfl) ?_
      refine lv_iconst (v := 0) C.1 C.2.1 dX12_eatsOf_110 (by decide) ?_
      refine lv_bipush (v := 99) C.1 C.2.1 dX12_eatsOf_111 (by decide) ?_
      refine mw_cSi (As := [.int (2 * (tellP z 0 (mSt σ) (mCu σ p))), .int 0, .int 99]) (rest := []) C Z hP hS (cM_within l E u3 (2 * (tellP z 0 (mSt σ) (mCu σ p))) 0 99) sb_X12_within tw_6_11 ⟨rfl, rfl⟩ ⟨Nat.le_of_ble_eq_true rfl, Nat.le_of_ble_eq_true rfl⟩ rfl hl.1 rfl (Nat.le_of_ble_eq_true rfl) dX12_eatsOf_113 ⟨Nat.zero_le _, Nat.zero_le _⟩ (fun r36 u37 H locs q38 hP hS => ?_)
      obtain ⟨rfl, q38u⟩ := q38
      rw [q38u] at hP; clear q38u
      exact mw_iret C hr hlk Z hP hS dX12_eatsOf_116 (⟨by first | contradiction | (unfold eatsP; simp only [show mCu σ p 0 = σ.2.1 5 p from rfl, show mCu σ p 1 = σ.2.1 6 (4 * p) from rfl, show mCu σ p 2 = σ.2.1 6 (4 * p + 1) from rfl, show mCu σ p 3 = σ.2.1 6 (4 * p + 2) from rfl, show mSt σ 0 = σ.2.1 4 0 from rfl, show mSt σ 1 = σ.2.1 4 1 from rfl, show mSt σ 2 = σ.2.1 4 2 from rfl, show mSt σ 3 = σ.2.1 4 3 from rfl, show mSt σ 4 = σ.2.1 4 4 from rfl]; simp [c1, c7]; done) | (exfalso; simp only [c1, c7] at *; contradiction), ((mFs.rf σ).tr f5)⟩)
  · refine lv_aload_n C.1 C.2.1 dX12_eatsOf_12 rfl (lv_at hl 1 rfl) ?_
    refine mw_getr C Z hP (0) 7 (4) (by decide) rfl rfl rfl (by decide) inX12 tw_4_171 dX12_eatsOf_13 ?_
    refine lv_iconst (v := 2) C.1 C.2.1 dX12_eatsOf_16 (by decide) ?_
    refine mw_iald C Z hP (4) (2) (by decide) rfl (Nat.lt_of_lt_of_le (by decide : 5 < 961) (Nat.le_of_ble_eq_true rfl)) rfl (by decide) dX12_eatsOf_17 ?_
    refine lv_iconst (v := 1) C.1 C.2.1 dX12_eatsOf_18 (by decide) ?_
    refine lv_icmp_ne (tgt := 24) C.1 C.2.1 dX12_eatsOf_19 (by decide) (fun c39 => ?_) (fun c39 => ?_)
    · refine lv_aload_n C.1 C.2.1 dX12_eatsOf_24 rfl (lv_at hl 1 rfl) ?_
      refine lv_iconst (v := 0) C.1 C.2.1 dX12_eatsOf_25 (by decide) ?_
      refine lv_iload_n C.1 C.2.1 dX12_eatsOf_26 rfl (lv_at hl 2 rfl) ?_
      refine mw_cVi (As := [.int 0, .int (nI p)]) (rest := []) C Z hP hS (0) (cM_asks0 l E σ z p (by omega) ((mFs.rf σ).ru hru)) vb_X12_asks tw_5_56 ⟨rfl, rfl⟩ ⟨Nat.le_of_ble_eq_true rfl, Nat.le_of_ble_eq_true rfl⟩ (by decide) rfl rfl rfl rfl hl.1 rfl (Nat.le_of_ble_eq_true rfl) dX12_eatsOf_27 ⟨Nat.zero_le _, Nat.zero_le _⟩ (fun r40 u41 H locs q42 hP hS => ?_)
      obtain ⟨e44, f43⟩ := q42
      rw [(mFs.rf σ).st, (mFs.rf σ).cu] at e44
      subst e44
      refine lv_istore_n (lv' := [(3, .int (tellP z 0 (mSt σ) (mCu σ p))), (2, .int (σ.2.1 5 p)), (0, .ref (mw_a E 0)), (1, .int (nI p))]) C.1 C.2.1 dX12_eatsOf_30 rfl hl (by decide) rfl (fun ls hl => ?_)
      refine lv_iload_n C.1 C.2.1 dX12_eatsOf_31 rfl (lv_at hl 1 rfl) ?_
      refine lv_iconst (v := 1) C.1 C.2.1 dX12_eatsOf_32 (by decide) ?_
      refine lv_icmp_ne (tgt := 42) C.1 C.2.1 dX12_eatsOf_33 (by decide) (fun c45 => ?_) (fun c45 => ?_)
      · refine lv_iload_n C.1 C.2.1 dX12_eatsOf_42 rfl (lv_at hl 1 rfl) ?_
        refine lv_iconst (v := 3) C.1 C.2.1 dX12_eatsOf_43 (by decide) ?_
        refine lv_icmp_ne (tgt := 67) C.1 C.2.1 dX12_eatsOf_44 (by decide) (fun c46 => ?_) (fun c46 => ?_)
        · refine lv_iload_n C.1 C.2.1 dX12_eatsOf_67 rfl (lv_at hl 1 rfl) ?_
          refine lv_iconst (v := 2) C.1 C.2.1 dX12_eatsOf_68 (by decide) ?_
          refine lv_icmp_eq (tgt := 77) C.1 C.2.1 dX12_eatsOf_69 (by decide) (fun c47 => ?_) (fun c47 => ?_)
          · refine lv_iload_n C.1 C.2.1 dX12_eatsOf_77 rfl (lv_at hl 0 rfl) ?_
            refine lv_iconst (v := 0) C.1 C.2.1 dX12_eatsOf_78 (by decide) ?_
            refine lv_aload_n C.1 C.2.1 dX12_eatsOf_79 rfl (lv_at hl 2 rfl) ?_
            refine mw_getr C Z hP (0) 7 (4) (by decide) rfl rfl rfl (by decide) inX12 tw_4_171 dX12_eatsOf_80 ?_
            refine lv_iconst (v := 1) C.1 C.2.1 dX12_eatsOf_83 (by decide) ?_
            refine mw_iald C Z hP (4) (1) (by decide) rfl (Nat.lt_of_lt_of_le (by decide : 5 < 961) (Nat.le_of_ble_eq_true rfl)) rfl (by decide) dX12_eatsOf_84 ?_
            refine mw_top (y := σ.2.1 4 1) (by first | (rw [((mFs.rf σ).tr f43).1]; done) | (rw [((mFs.rf σ).tr f43).1]; rfl)) ?_
            refine mw_cSi (As := [.int (tellP z 0 (mSt σ) (mCu σ p)), .int 0, .int (σ.2.1 4 1)]) (rest := []) C Z hP hS (cM_within l E u41 (tellP z 0 (mSt σ) (mCu σ p)) 0 (σ.2.1 4 1)) sb_X12_within tw_6_11 ⟨rfl, rfl⟩ ⟨Nat.le_of_ble_eq_true rfl, Nat.le_of_ble_eq_true rfl⟩ rfl hl.1 rfl (Nat.le_of_ble_eq_true rfl) dX12_eatsOf_85 ⟨Nat.zero_le _, Nat.zero_le _⟩ (fun r48 u49 H locs q50 hP hS => ?_)
            obtain ⟨rfl, q50u⟩ := q50
            rw [q50u] at hP; clear q50u
            refine lv_goto (tgt := 106) C.1 C.2.1 dX12_eatsOf_88 (by decide) ?_
            refine lv_istore (lv' := [(4, .int (wI (tellP z 0 (mSt σ) (mCu σ p)) 0 (σ.2.1 4 1))), (3, .int (tellP z 0 (mSt σ) (mCu σ p))), (2, .int (σ.2.1 5 p)), (0, .ref (mw_a E 0)), (1, .int (nI p))]) C.1 C.2.1 dX12_eatsOf_106 hl (by decide) rfl (fun ls hl => ?_)
            refine lv_iload C.1 C.2.1 dX12_eatsOf_108 (lv_at hl 0 rfl) ?_
            refine lv_iconst (v := 0) C.1 C.2.1 dX12_eatsOf_110 (by decide) ?_
            refine lv_bipush (v := 99) C.1 C.2.1 dX12_eatsOf_111 (by decide) ?_
            refine mw_cSi (As := [.int (wI (tellP z 0 (mSt σ) (mCu σ p)) 0 (σ.2.1 4 1)), .int 0, .int 99]) (rest := []) C Z hP hS (cM_within l E u41 (wI (tellP z 0 (mSt σ) (mCu σ p)) 0 (σ.2.1 4 1)) 0 99) sb_X12_within tw_6_11 ⟨rfl, rfl⟩ ⟨Nat.le_of_ble_eq_true rfl, Nat.le_of_ble_eq_true rfl⟩ rfl hl.1 rfl (Nat.le_of_ble_eq_true rfl) dX12_eatsOf_113 ⟨Nat.zero_le _, Nat.zero_le _⟩ (fun r51 u52 H locs q53 hP hS => ?_)
            obtain ⟨rfl, q53u⟩ := q53
            rw [q53u] at hP; clear q53u
            exact mw_iret C hr hlk Z hP hS dX12_eatsOf_116 (⟨by first | contradiction | (unfold eatsP; simp only [show mCu σ p 0 = σ.2.1 5 p from rfl, show mCu σ p 1 = σ.2.1 6 (4 * p) from rfl, show mCu σ p 2 = σ.2.1 6 (4 * p + 1) from rfl, show mCu σ p 3 = σ.2.1 6 (4 * p + 2) from rfl, show mSt σ 0 = σ.2.1 4 0 from rfl, show mSt σ 1 = σ.2.1 4 1 from rfl, show mSt σ 2 = σ.2.1 4 2 from rfl, show mSt σ 3 = σ.2.1 4 3 from rfl, show mSt σ 4 = σ.2.1 4 4 from rfl]; simp [c1, c39, c45, c46, c47]; done) | (exfalso; simp only [c1, c39, c45, c46, c47] at *; contradiction), ((mFs.rf σ).tr f43)⟩)
          · refine lv_iload_n C.1 C.2.1 dX12_eatsOf_72 rfl (lv_at hl 1 rfl) ?_
            refine lv_iconst (v := 4) C.1 C.2.1 dX12_eatsOf_73 (by decide) ?_
            refine lv_icmp_ne (tgt := 91) C.1 C.2.1 dX12_eatsOf_74 (by decide) (fun c54 => ?_) (fun c54 => ?_)
            · refine lv_iload_n C.1 C.2.1 dX12_eatsOf_91 rfl (lv_at hl 1 rfl) ?_
              refine lv_iconst (v := 5) C.1 C.2.1 dX12_eatsOf_92 (by decide) ?_
              refine lv_icmp_ne (tgt := 105) C.1 C.2.1 dX12_eatsOf_93 (by decide) (fun c55 => ?_) (fun c55 => ?_)
              · refine lv_iload_n C.1 C.2.1 dX12_eatsOf_105 rfl (lv_at hl 0 rfl) ?_
                refine lv_istore (lv' := [(4, .int (tellP z 0 (mSt σ) (mCu σ p))), (3, .int (tellP z 0 (mSt σ) (mCu σ p))), (2, .int (σ.2.1 5 p)), (0, .ref (mw_a E 0)), (1, .int (nI p))]) C.1 C.2.1 dX12_eatsOf_106 hl (by decide) rfl (fun ls hl => ?_)
                refine lv_iload C.1 C.2.1 dX12_eatsOf_108 (lv_at hl 0 rfl) ?_
                refine lv_iconst (v := 0) C.1 C.2.1 dX12_eatsOf_110 (by decide) ?_
                refine lv_bipush (v := 99) C.1 C.2.1 dX12_eatsOf_111 (by decide) ?_
                refine mw_cSi (As := [.int (tellP z 0 (mSt σ) (mCu σ p)), .int 0, .int 99]) (rest := []) C Z hP hS (cM_within l E u41 (tellP z 0 (mSt σ) (mCu σ p)) 0 99) sb_X12_within tw_6_11 ⟨rfl, rfl⟩ ⟨Nat.le_of_ble_eq_true rfl, Nat.le_of_ble_eq_true rfl⟩ rfl hl.1 rfl (Nat.le_of_ble_eq_true rfl) dX12_eatsOf_113 ⟨Nat.zero_le _, Nat.zero_le _⟩ (fun r56 u57 H locs q58 hP hS => ?_)
                obtain ⟨rfl, q58u⟩ := q58
                rw [q58u] at hP; clear q58u
                exact mw_iret C hr hlk Z hP hS dX12_eatsOf_116 (⟨by first | contradiction | (unfold eatsP; simp only [show mCu σ p 0 = σ.2.1 5 p from rfl, show mCu σ p 1 = σ.2.1 6 (4 * p) from rfl, show mCu σ p 2 = σ.2.1 6 (4 * p + 1) from rfl, show mCu σ p 3 = σ.2.1 6 (4 * p + 2) from rfl, show mSt σ 0 = σ.2.1 4 0 from rfl, show mSt σ 1 = σ.2.1 4 1 from rfl, show mSt σ 2 = σ.2.1 4 2 from rfl, show mSt σ 3 = σ.2.1 4 3 from rfl, show mSt σ 4 = σ.2.1 4 4 from rfl]; simp [c1, c39, c45, c46, c47, c54, c55]; done) | (exfalso; simp only [c1, c39, c45, c46, c47, c54, c55] at *; contradiction), ((mFs.rf σ).tr f43)⟩)
              · refine lv_iload_n C.1 C.2.1 dX12_eatsOf_96 rfl (lv_at hl 0 rfl) ?_
                refine lv_iconst (v := 0) C.1 C.2.1 dX12_eatsOf_97 (by decide) ?_
                refine lv_iconst (v := 1) C.1 C.2.1 dX12_eatsOf_98 (by decide) ?_
                refine mw_cSi (As := [.int (tellP z 0 (mSt σ) (mCu σ p)), .int 0, .int 1]) (rest := []) C Z hP hS (cM_within l E u41 (tellP z 0 (mSt σ) (mCu σ p)) 0 1) sb_X12_within tw_6_11 ⟨rfl, rfl⟩ ⟨Nat.le_of_ble_eq_true rfl, Nat.le_of_ble_eq_true rfl⟩ rfl hl.1 rfl (Nat.le_of_ble_eq_true rfl) dX12_eatsOf_99 ⟨Nat.zero_le _, Nat.zero_le _⟩ (fun r59 u60 H locs q61 hP hS => ?_)
                obtain ⟨rfl, q61u⟩ := q61
                rw [q61u] at hP; clear q61u
                refine lv_goto (tgt := 106) C.1 C.2.1 dX12_eatsOf_102 (by decide) ?_
                refine lv_istore (lv' := [(4, .int (wI (tellP z 0 (mSt σ) (mCu σ p)) 0 1)), (3, .int (tellP z 0 (mSt σ) (mCu σ p))), (2, .int (σ.2.1 5 p)), (0, .ref (mw_a E 0)), (1, .int (nI p))]) C.1 C.2.1 dX12_eatsOf_106 hl (by decide) rfl (fun ls hl => ?_)
                refine lv_iload C.1 C.2.1 dX12_eatsOf_108 (lv_at hl 0 rfl) ?_
                refine lv_iconst (v := 0) C.1 C.2.1 dX12_eatsOf_110 (by decide) ?_
                refine lv_bipush (v := 99) C.1 C.2.1 dX12_eatsOf_111 (by decide) ?_
                refine mw_cSi (As := [.int (wI (tellP z 0 (mSt σ) (mCu σ p)) 0 1), .int 0, .int 99]) (rest := []) C Z hP hS (cM_within l E u41 (wI (tellP z 0 (mSt σ) (mCu σ p)) 0 1) 0 99) sb_X12_within tw_6_11 ⟨rfl, rfl⟩ ⟨Nat.le_of_ble_eq_true rfl, Nat.le_of_ble_eq_true rfl⟩ rfl hl.1 rfl (Nat.le_of_ble_eq_true rfl) dX12_eatsOf_113 ⟨Nat.zero_le _, Nat.zero_le _⟩ (fun r62 u63 H locs q64 hP hS => ?_)
                obtain ⟨rfl, q64u⟩ := q64
                rw [q64u] at hP; clear q64u
                exact mw_iret C hr hlk Z hP hS dX12_eatsOf_116 (⟨by first | contradiction | (unfold eatsP; simp only [show mCu σ p 0 = σ.2.1 5 p from rfl, show mCu σ p 1 = σ.2.1 6 (4 * p) from rfl, show mCu σ p 2 = σ.2.1 6 (4 * p + 1) from rfl, show mCu σ p 3 = σ.2.1 6 (4 * p + 2) from rfl, show mSt σ 0 = σ.2.1 4 0 from rfl, show mSt σ 1 = σ.2.1 4 1 from rfl, show mSt σ 2 = σ.2.1 4 2 from rfl, show mSt σ 3 = σ.2.1 4 3 from rfl, show mSt σ 4 = σ.2.1 4 4 from rfl]; simp [c1, c39, c45, c46, c47, c54, c55]; done) | (exfalso; simp only [c1, c39, c45, c46, c47, c54, c55] at *; contradiction), ((mFs.rf σ).tr f43)⟩)
            · refine lv_iload_n C.1 C.2.1 dX12_eatsOf_77 rfl (lv_at hl 0 rfl) ?_
              refine lv_iconst (v := 0) C.1 C.2.1 dX12_eatsOf_78 (by decide) ?_
              refine lv_aload_n C.1 C.2.1 dX12_eatsOf_79 rfl (lv_at hl 2 rfl) ?_
              refine mw_getr C Z hP (0) 7 (4) (by decide) rfl rfl rfl (by decide) inX12 tw_4_171 dX12_eatsOf_80 ?_
              refine lv_iconst (v := 1) C.1 C.2.1 dX12_eatsOf_83 (by decide) ?_
              refine mw_iald C Z hP (4) (1) (by decide) rfl (Nat.lt_of_lt_of_le (by decide : 5 < 961) (Nat.le_of_ble_eq_true rfl)) rfl (by decide) dX12_eatsOf_84 ?_
              refine mw_top (y := σ.2.1 4 1) (by first | (rw [((mFs.rf σ).tr f43).1]; done) | (rw [((mFs.rf σ).tr f43).1]; rfl)) ?_
              refine mw_cSi (As := [.int (tellP z 0 (mSt σ) (mCu σ p)), .int 0, .int (σ.2.1 4 1)]) (rest := []) C Z hP hS (cM_within l E u41 (tellP z 0 (mSt σ) (mCu σ p)) 0 (σ.2.1 4 1)) sb_X12_within tw_6_11 ⟨rfl, rfl⟩ ⟨Nat.le_of_ble_eq_true rfl, Nat.le_of_ble_eq_true rfl⟩ rfl hl.1 rfl (Nat.le_of_ble_eq_true rfl) dX12_eatsOf_85 ⟨Nat.zero_le _, Nat.zero_le _⟩ (fun r65 u66 H locs q67 hP hS => ?_)
              obtain ⟨rfl, q67u⟩ := q67
              rw [q67u] at hP; clear q67u
              refine lv_goto (tgt := 106) C.1 C.2.1 dX12_eatsOf_88 (by decide) ?_
              refine lv_istore (lv' := [(4, .int (wI (tellP z 0 (mSt σ) (mCu σ p)) 0 (σ.2.1 4 1))), (3, .int (tellP z 0 (mSt σ) (mCu σ p))), (2, .int (σ.2.1 5 p)), (0, .ref (mw_a E 0)), (1, .int (nI p))]) C.1 C.2.1 dX12_eatsOf_106 hl (by decide) rfl (fun ls hl => ?_)
              refine lv_iload C.1 C.2.1 dX12_eatsOf_108 (lv_at hl 0 rfl) ?_
              refine lv_iconst (v := 0) C.1 C.2.1 dX12_eatsOf_110 (by decide) ?_
              refine lv_bipush (v := 99) C.1 C.2.1 dX12_eatsOf_111 (by decide) ?_
              refine mw_cSi (As := [.int (wI (tellP z 0 (mSt σ) (mCu σ p)) 0 (σ.2.1 4 1)), .int 0, .int 99]) (rest := []) C Z hP hS (cM_within l E u41 (wI (tellP z 0 (mSt σ) (mCu σ p)) 0 (σ.2.1 4 1)) 0 99) sb_X12_within tw_6_11 ⟨rfl, rfl⟩ ⟨Nat.le_of_ble_eq_true rfl, Nat.le_of_ble_eq_true rfl⟩ rfl hl.1 rfl (Nat.le_of_ble_eq_true rfl) dX12_eatsOf_113 ⟨Nat.zero_le _, Nat.zero_le _⟩ (fun r68 u69 H locs q70 hP hS => ?_)
              obtain ⟨rfl, q70u⟩ := q70
              rw [q70u] at hP; clear q70u
              exact mw_iret C hr hlk Z hP hS dX12_eatsOf_116 (⟨by first | contradiction | (unfold eatsP; simp only [show mCu σ p 0 = σ.2.1 5 p from rfl, show mCu σ p 1 = σ.2.1 6 (4 * p) from rfl, show mCu σ p 2 = σ.2.1 6 (4 * p + 1) from rfl, show mCu σ p 3 = σ.2.1 6 (4 * p + 2) from rfl, show mSt σ 0 = σ.2.1 4 0 from rfl, show mSt σ 1 = σ.2.1 4 1 from rfl, show mSt σ 2 = σ.2.1 4 2 from rfl, show mSt σ 3 = σ.2.1 4 3 from rfl, show mSt σ 4 = σ.2.1 4 4 from rfl]; simp [c1, c39, c45, c46, c47, c54]; done) | (exfalso; simp only [c1, c39, c45, c46, c47, c54] at *; contradiction), ((mFs.rf σ).tr f43)⟩)
        · refine lv_iconst (v := 2) C.1 C.2.1 dX12_eatsOf_47 (by decide) ?_
          refine lv_iload_n C.1 C.2.1 dX12_eatsOf_48 rfl (lv_at hl 0 rfl) ?_
          refine lv_imul C.1 C.2.1 dX12_eatsOf_49 ?_
          refine lv_aload_n C.1 C.2.1 dX12_eatsOf_50 rfl (lv_at hl 2 rfl) ?_
          refine mw_getr C Z hP (0) 9 (6) (by decide) rfl rfl rfl (by decide) inX12 tw_4_173 dX12_eatsOf_51 ?_
          refine lv_iconst (v := 4) C.1 C.2.1 dX12_eatsOf_54 (by decide) ?_
          refine lv_iload_n C.1 C.2.1 dX12_eatsOf_55 rfl (lv_at hl 3 rfl) ?_
          refine lv_imul C.1 C.2.1 dX12_eatsOf_56 ?_
          refine mw_top (y := nI (4 * p)) (pk_mul 4 p) ?_
          refine lv_iconst (v := 2) C.1 C.2.1 dX12_eatsOf_57 (by decide) ?_
          refine lv_iadd C.1 C.2.1 dX12_eatsOf_58 ?_
          refine mw_top (y := nI (4 * p + 2)) (nI_add _ 2) ?_
          refine mw_iald C Z hP (6) (4 * p + 2) (by decide) rfl (Nat.lt_of_lt_of_le (by decide : 32 < 961) (Nat.le_of_ble_eq_true rfl)) rfl (by omega) dX12_eatsOf_59 ?_
          refine mw_top (y := σ.2.1 6 (4 * p + 2)) (by first | (rw [((mFs.rf σ).tr f43).1]; done) | (rw [((mFs.rf σ).tr f43).1]; rfl)) ?_
          refine lv_bipush (v := 10) C.1 C.2.1 dX12_eatsOf_60 (by decide) ?_
          refine lv_idiv C.1 C.2.1 dX12_eatsOf_62 (by decide) ?_
          refine lv_iadd C.1 C.2.1 dX12_eatsOf_63 ?_
          refine lv_goto (tgt := 106) C.1 C.2.1 dX12_eatsOf_64 (by decide) ?_
          refine lv_istore (lv' := [(4, .int ((2 * (tellP z 0 (mSt σ) (mCu σ p))) + ((σ.2.1 6 (4 * p + 2)) / 10))), (3, .int (tellP z 0 (mSt σ) (mCu σ p))), (2, .int (σ.2.1 5 p)), (0, .ref (mw_a E 0)), (1, .int (nI p))]) C.1 C.2.1 dX12_eatsOf_106 hl (by decide) rfl (fun ls hl => ?_)
          refine lv_iload C.1 C.2.1 dX12_eatsOf_108 (lv_at hl 0 rfl) ?_
          refine lv_iconst (v := 0) C.1 C.2.1 dX12_eatsOf_110 (by decide) ?_
          refine lv_bipush (v := 99) C.1 C.2.1 dX12_eatsOf_111 (by decide) ?_
          refine mw_cSi (As := [.int ((2 * (tellP z 0 (mSt σ) (mCu σ p))) + ((σ.2.1 6 (4 * p + 2)) / 10)), .int 0, .int 99]) (rest := []) C Z hP hS (cM_within l E u41 ((2 * (tellP z 0 (mSt σ) (mCu σ p))) + ((σ.2.1 6 (4 * p + 2)) / 10)) 0 99) sb_X12_within tw_6_11 ⟨rfl, rfl⟩ ⟨Nat.le_of_ble_eq_true rfl, Nat.le_of_ble_eq_true rfl⟩ rfl hl.1 rfl (Nat.le_of_ble_eq_true rfl) dX12_eatsOf_113 ⟨Nat.zero_le _, Nat.zero_le _⟩ (fun r71 u72 H locs q73 hP hS => ?_)
          obtain ⟨rfl, q73u⟩ := q73
          rw [q73u] at hP; clear q73u
          exact mw_iret C hr hlk Z hP hS dX12_eatsOf_116 (⟨by first | contradiction | (unfold eatsP; simp only [show mCu σ p 0 = σ.2.1 5 p from rfl, show mCu σ p 1 = σ.2.1 6 (4 * p) from rfl, show mCu σ p 2 = σ.2.1 6 (4 * p + 1) from rfl, show mCu σ p 3 = σ.2.1 6 (4 * p + 2) from rfl, show mSt σ 0 = σ.2.1 4 0 from rfl, show mSt σ 1 = σ.2.1 4 1 from rfl, show mSt σ 2 = σ.2.1 4 2 from rfl, show mSt σ 3 = σ.2.1 4 3 from rfl, show mSt σ 4 = σ.2.1 4 4 from rfl]; simp [c1, c39, c45, c46]; done) | (exfalso; simp only [c1, c39, c45, c46] at *; contradiction), ((mFs.rf σ).tr f43)⟩)
      · refine lv_iconst (v := 2) C.1 C.2.1 dX12_eatsOf_36 (by decide) ?_
        refine lv_iload_n C.1 C.2.1 dX12_eatsOf_37 rfl (lv_at hl 0 rfl) ?_
        refine lv_imul C.1 C.2.1 dX12_eatsOf_38 ?_
        refine lv_goto (tgt := 106) C.1 C.2.1 dX12_eatsOf_39 (by decide) ?_
        refine lv_istore (lv' := [(4, .int (2 * (tellP z 0 (mSt σ) (mCu σ p)))), (3, .int (tellP z 0 (mSt σ) (mCu σ p))), (2, .int (σ.2.1 5 p)), (0, .ref (mw_a E 0)), (1, .int (nI p))]) C.1 C.2.1 dX12_eatsOf_106 hl (by decide) rfl (fun ls hl => ?_)
        refine lv_iload C.1 C.2.1 dX12_eatsOf_108 (lv_at hl 0 rfl) ?_
        refine lv_iconst (v := 0) C.1 C.2.1 dX12_eatsOf_110 (by decide) ?_
        refine lv_bipush (v := 99) C.1 C.2.1 dX12_eatsOf_111 (by decide) ?_
        refine mw_cSi (As := [.int (2 * (tellP z 0 (mSt σ) (mCu σ p))), .int 0, .int 99]) (rest := []) C Z hP hS (cM_within l E u41 (2 * (tellP z 0 (mSt σ) (mCu σ p))) 0 99) sb_X12_within tw_6_11 ⟨rfl, rfl⟩ ⟨Nat.le_of_ble_eq_true rfl, Nat.le_of_ble_eq_true rfl⟩ rfl hl.1 rfl (Nat.le_of_ble_eq_true rfl) dX12_eatsOf_113 ⟨Nat.zero_le _, Nat.zero_le _⟩ (fun r74 u75 H locs q76 hP hS => ?_)
        obtain ⟨rfl, q76u⟩ := q76
        rw [q76u] at hP; clear q76u
        exact mw_iret C hr hlk Z hP hS dX12_eatsOf_116 (⟨by first | contradiction | (unfold eatsP; simp only [show mCu σ p 0 = σ.2.1 5 p from rfl, show mCu σ p 1 = σ.2.1 6 (4 * p) from rfl, show mCu σ p 2 = σ.2.1 6 (4 * p + 1) from rfl, show mCu σ p 3 = σ.2.1 6 (4 * p + 2) from rfl, show mSt σ 0 = σ.2.1 4 0 from rfl, show mSt σ 1 = σ.2.1 4 1 from rfl, show mSt σ 2 = σ.2.1 4 2 from rfl, show mSt σ 3 = σ.2.1 4 3 from rfl, show mSt σ 4 = σ.2.1 4 4 from rfl]; simp [c1, c39, c45]; done) | (exfalso; simp only [c1, c39, c45] at *; contradiction), ((mFs.rf σ).tr f43)⟩)
    · refine lv_iconst (v := 1) C.1 C.2.1 dX12_eatsOf_22 (by decide) ?_
      exact mw_iret C hr hlk Z hP hS dX12_eatsOf_23 (⟨by first | contradiction | (unfold eatsP; simp only [show mCu σ p 0 = σ.2.1 5 p from rfl, show mCu σ p 1 = σ.2.1 6 (4 * p) from rfl, show mCu σ p 2 = σ.2.1 6 (4 * p + 1) from rfl, show mCu σ p 3 = σ.2.1 6 (4 * p + 2) from rfl, show mSt σ 0 = σ.2.1 4 0 from rfl, show mSt σ 1 = σ.2.1 4 1 from rfl, show mSt σ 2 = σ.2.1 4 2 from rfl, show mSt σ 3 = σ.2.1 4 3 from rfl, show mSt σ 4 = σ.2.1 4 4 from rfl]; simp [c1, c39]; done) | (exfalso; simp only [c1, c39] at *; contradiction), (mFs.rf σ)⟩)

set_option maxHeartbeats 4000000 in
set_option maxRecDepth 100000 in
theorem cM_triesOf (l : Launch) (E : mw_E) (σ : mw_M) (z : zP) (p : Nat) (hp : p < 8) (hru : mRu σ z) : mw_Ci shM 13 gM l yX12_triesOf cX12_triesOf 4 (some .int) (rmF 43 952) E [.ref (mw_a E 0), .int (nI p)] σ (fun r u => r = triesP z (mSt σ) (mCu σ p) ∧ mFs σ u) := by
  refine mw_of (by decide) gM_ok (Nat.le_of_ble_eq_true rfl) ?_
  intro p_ e_ s_ m_ below meth c_ C hr hlk Z hP ls hl
  have C : CallFix p_ m_ c_ cX12_triesOf 4 s_ _ lw_good RX12 := C
  have hl : lv_has ls 4 [(0, .ref (mw_a E 0)), (1, .int (nI p))] := hl
  have hS : va_S (mw_A 13 E) s_.heap s_.heap [] := va_S.rf
  refine lv_aload_n C.1 C.2.1 dX12_triesOf_0 rfl (lv_at hl 0 rfl) ?_
  refine mw_getr C Z hP (0) 8 (5) (by decide) rfl rfl rfl (by decide) inX12 tw_4_172 dX12_triesOf_1 ?_
  refine lv_iload_n C.1 C.2.1 dX12_triesOf_4 rfl (lv_at hl 1 rfl) ?_
  refine mw_iald C Z hP (5) (p) (by decide) rfl (Nat.lt_of_lt_of_le (by decide : 8 < 961) (Nat.le_of_ble_eq_true rfl)) rfl (by omega) dX12_triesOf_5 ?_
  refine lv_istore_n (lv' := [(2, .int (σ.2.1 5 p)), (0, .ref (mw_a E 0)), (1, .int (nI p))]) C.1 C.2.1 dX12_triesOf_6 rfl hl (by decide) rfl (fun ls hl => ?_)
  refine lv_iload_n C.1 C.2.1 dX12_triesOf_7 rfl (lv_at hl 0 rfl) ?_
  refine lv_iconst (v := 1) C.1 C.2.1 dX12_triesOf_8 (by decide) ?_
  refine lv_icmp_eq (tgt := 32) C.1 C.2.1 dX12_triesOf_9 (by decide) (fun c1 => ?_) (fun c1 => ?_)
  · refine lv_iload_n C.1 C.2.1 dX12_triesOf_32 rfl (lv_at hl 0 rfl) ?_
    refine lv_iconst (v := 5) C.1 C.2.1 dX12_triesOf_33 (by decide) ?_
    refine lv_icmp_ne (tgt := 41) C.1 C.2.1 dX12_triesOf_34 (by decide) (fun c2 => ?_) (fun c2 => ?_)
    · refine lv_iconst (v := 0) C.1 C.2.1 dX12_triesOf_41 (by decide) ?_
      exact mw_iret C hr hlk Z hP hS dX12_triesOf_42 (⟨by first | contradiction | (unfold triesP; simp only [show mCu σ p 0 = σ.2.1 5 p from rfl, show mCu σ p 1 = σ.2.1 6 (4 * p) from rfl, show mCu σ p 2 = σ.2.1 6 (4 * p + 1) from rfl, show mCu σ p 3 = σ.2.1 6 (4 * p + 2) from rfl, show mSt σ 0 = σ.2.1 4 0 from rfl, show mSt σ 1 = σ.2.1 4 1 from rfl, show mSt σ 2 = σ.2.1 4 2 from rfl, show mSt σ 3 = σ.2.1 4 3 from rfl, show mSt σ 4 = σ.2.1 4 4 from rfl]; simp [c1, c2]; done) | (exfalso; simp only [c1, c2] at *; contradiction), (mFs.rf σ)⟩)
    · refine lv_iconst (v := 1) C.1 C.2.1 dX12_triesOf_37 (by decide) ?_
      refine lv_goto (tgt := 42) C.1 C.2.1 dX12_triesOf_38 (by decide) ?_
      exact mw_iret C hr hlk Z hP hS dX12_triesOf_42 (⟨by first | contradiction | (unfold triesP; simp only [show mCu σ p 0 = σ.2.1 5 p from rfl, show mCu σ p 1 = σ.2.1 6 (4 * p) from rfl, show mCu σ p 2 = σ.2.1 6 (4 * p + 1) from rfl, show mCu σ p 3 = σ.2.1 6 (4 * p + 2) from rfl, show mSt σ 0 = σ.2.1 4 0 from rfl, show mSt σ 1 = σ.2.1 4 1 from rfl, show mSt σ 2 = σ.2.1 4 2 from rfl, show mSt σ 3 = σ.2.1 4 3 from rfl, show mSt σ 4 = σ.2.1 4 4 from rfl]; simp [c1, c2]; done) | (exfalso; simp only [c1, c2] at *; contradiction), (mFs.rf σ)⟩)
  · refine lv_iload_n C.1 C.2.1 dX12_triesOf_12 rfl (lv_at hl 0 rfl) ?_
    refine lv_iconst (v := 4) C.1 C.2.1 dX12_triesOf_13 (by decide) ?_
    refine lv_icmp_eq (tgt := 32) C.1 C.2.1 dX12_triesOf_14 (by decide) (fun c3 => ?_) (fun c3 => ?_)
    · refine lv_iload_n C.1 C.2.1 dX12_triesOf_32 rfl (lv_at hl 0 rfl) ?_
      refine lv_iconst (v := 5) C.1 C.2.1 dX12_triesOf_33 (by decide) ?_
      refine lv_icmp_ne (tgt := 41) C.1 C.2.1 dX12_triesOf_34 (by decide) (fun c4 => ?_) (fun c4 => ?_)
      · refine lv_iconst (v := 0) C.1 C.2.1 dX12_triesOf_41 (by decide) ?_
        exact mw_iret C hr hlk Z hP hS dX12_triesOf_42 (⟨by first | contradiction | (unfold triesP; simp only [show mCu σ p 0 = σ.2.1 5 p from rfl, show mCu σ p 1 = σ.2.1 6 (4 * p) from rfl, show mCu σ p 2 = σ.2.1 6 (4 * p + 1) from rfl, show mCu σ p 3 = σ.2.1 6 (4 * p + 2) from rfl, show mSt σ 0 = σ.2.1 4 0 from rfl, show mSt σ 1 = σ.2.1 4 1 from rfl, show mSt σ 2 = σ.2.1 4 2 from rfl, show mSt σ 3 = σ.2.1 4 3 from rfl, show mSt σ 4 = σ.2.1 4 4 from rfl]; simp [c1, c3, c4]; done) | (exfalso; simp only [c1, c3, c4] at *; contradiction), (mFs.rf σ)⟩)
      · refine lv_iconst (v := 1) C.1 C.2.1 dX12_triesOf_37 (by decide) ?_
        refine lv_goto (tgt := 42) C.1 C.2.1 dX12_triesOf_38 (by decide) ?_
        exact mw_iret C hr hlk Z hP hS dX12_triesOf_42 (⟨by first | contradiction | (unfold triesP; simp only [show mCu σ p 0 = σ.2.1 5 p from rfl, show mCu σ p 1 = σ.2.1 6 (4 * p) from rfl, show mCu σ p 2 = σ.2.1 6 (4 * p + 1) from rfl, show mCu σ p 3 = σ.2.1 6 (4 * p + 2) from rfl, show mSt σ 0 = σ.2.1 4 0 from rfl, show mSt σ 1 = σ.2.1 4 1 from rfl, show mSt σ 2 = σ.2.1 4 2 from rfl, show mSt σ 3 = σ.2.1 4 3 from rfl, show mSt σ 4 = σ.2.1 4 4 from rfl]; simp [c1, c3, c4]; done) | (exfalso; simp only [c1, c3, c4] at *; contradiction), (mFs.rf σ)⟩)
    · refine lv_iload_n C.1 C.2.1 dX12_triesOf_17 rfl (lv_at hl 0 rfl) ?_
      refine lv_iconst (v := 5) C.1 C.2.1 dX12_triesOf_18 (by decide) ?_
      refine lv_icmp_ne (tgt := 43) C.1 C.2.1 dX12_triesOf_19 (by decide) (fun c5 => ?_) (fun c5 => ?_)
      · refine lv_aload_n C.1 C.2.1 dX12_triesOf_43 rfl (lv_at hl 1 rfl) ?_
        refine lv_iconst (v := 1) C.1 C.2.1 dX12_triesOf_44 (by decide) ?_
        refine lv_iload_n C.1 C.2.1 dX12_triesOf_45 rfl (lv_at hl 2 rfl) ?_
        refine mw_cVi (As := [.int 1, .int (nI p)]) (rest := []) C Z hP hS (0) (cM_asks1 l E σ z p (by omega) ((mFs.rf σ).ru hru)) vb_X12_asks tw_5_56 ⟨rfl, rfl⟩ ⟨Nat.le_of_ble_eq_true rfl, Nat.le_of_ble_eq_true rfl⟩ (by decide) rfl rfl rfl rfl hl.1 rfl (Nat.le_of_ble_eq_true rfl) dX12_triesOf_46 ⟨Nat.zero_le _, Nat.zero_le _⟩ (fun r6 u7 H locs q8 hP hS => ?_)
        obtain ⟨e10, f9⟩ := q8
        rw [(mFs.rf σ).st, (mFs.rf σ).cu] at e10
        subst e10
        refine lv_istore_n (lv' := [(3, .int (tellP z 1 (mSt σ) (mCu σ p))), (2, .int (σ.2.1 5 p)), (0, .ref (mw_a E 0)), (1, .int (nI p))]) C.1 C.2.1 dX12_triesOf_49 rfl hl (by decide) rfl (fun ls hl => ?_)
        refine lv_iload_n C.1 C.2.1 dX12_triesOf_50 rfl (lv_at hl 1 rfl) ?_
        refine lv_iconst (v := 2) C.1 C.2.1 dX12_triesOf_51 (by decide) ?_
        refine lv_icmp_ne (tgt := 61) C.1 C.2.1 dX12_triesOf_52 (by decide) (fun c11 => ?_) (fun c11 => ?_)
        · refine lv_iload_n C.1 C.2.1 dX12_triesOf_61 rfl (lv_at hl 1 rfl) ?_
          refine lv_iconst (v := 3) C.1 C.2.1 dX12_triesOf_62 (by decide) ?_
          refine lv_icmp_ne (tgt := 79) C.1 C.2.1 dX12_triesOf_63 (by decide) (fun c12 => ?_) (fun c12 => ?_)
          · refine lv_iload_n C.1 C.2.1 dX12_triesOf_79 rfl (lv_at hl 0 rfl) ?_
            refine lv_iconst (v := 0) C.1 C.2.1 dX12_triesOf_80 (by decide) ?_
            refine lv_bipush (v := 99) C.1 C.2.1 dX12_triesOf_81 (by decide) ?_
            refine mw_cSi (As := [.int (tellP z 1 (mSt σ) (mCu σ p)), .int 0, .int 99]) (rest := []) C Z hP hS (cM_within l E u7 (tellP z 1 (mSt σ) (mCu σ p)) 0 99) sb_X12_within tw_6_11 ⟨rfl, rfl⟩ ⟨Nat.le_of_ble_eq_true rfl, Nat.le_of_ble_eq_true rfl⟩ rfl hl.1 rfl (Nat.le_of_ble_eq_true rfl) dX12_triesOf_83 ⟨Nat.zero_le _, Nat.zero_le _⟩ (fun r13 u14 H locs q15 hP hS => ?_)
            obtain ⟨rfl, q15u⟩ := q15
            rw [q15u] at hP; clear q15u
            exact mw_iret C hr hlk Z hP hS dX12_triesOf_86 (⟨by first | contradiction | (unfold triesP; simp only [show mCu σ p 0 = σ.2.1 5 p from rfl, show mCu σ p 1 = σ.2.1 6 (4 * p) from rfl, show mCu σ p 2 = σ.2.1 6 (4 * p + 1) from rfl, show mCu σ p 3 = σ.2.1 6 (4 * p + 2) from rfl, show mSt σ 0 = σ.2.1 4 0 from rfl, show mSt σ 1 = σ.2.1 4 1 from rfl, show mSt σ 2 = σ.2.1 4 2 from rfl, show mSt σ 3 = σ.2.1 4 3 from rfl, show mSt σ 4 = σ.2.1 4 4 from rfl]; simp [c1, c3, c5, c11, c12]; done) | (exfalso; simp only [c1, c3, c5, c11, c12] at *; contradiction), ((mFs.rf σ).tr f9)⟩)
          · refine lv_iload_n C.1 C.2.1 dX12_triesOf_66 rfl (lv_at hl 0 rfl) ?_
            refine lv_aload_n C.1 C.2.1 dX12_triesOf_67 rfl (lv_at hl 2 rfl) ?_
            refine mw_getr C Z hP (0) 9 (6) (by decide) rfl rfl rfl (by decide) inX12 tw_4_173 dX12_triesOf_68 ?_
            refine lv_iconst (v := 4) C.1 C.2.1 dX12_triesOf_71 (by decide) ?_
            refine lv_iload_n C.1 C.2.1 dX12_triesOf_72 rfl (lv_at hl 3 rfl) ?_
            refine lv_imul C.1 C.2.1 dX12_triesOf_73 ?_
            refine mw_top (y := nI (4 * p)) (pk_mul 4 p) ?_
            refine mw_iald C Z hP (6) (4 * p) (by decide) rfl (Nat.lt_of_lt_of_le (by decide : 32 < 961) (Nat.le_of_ble_eq_true rfl)) rfl (by omega) dX12_triesOf_74 ?_
            refine mw_top (y := σ.2.1 6 (4 * p)) (by first | (rw [((mFs.rf σ).tr f9).1]; done) | (rw [((mFs.rf σ).tr f9).1]; rfl)) ?_
            refine lv_iadd C.1 C.2.1 dX12_triesOf_75 ?_
            refine lv_goto (tgt := 80) C.1 C.2.1 dX12_triesOf_76 (by decide) ?_
            refine lv_iconst (v := 0) C.1 C.2.1 dX12_triesOf_80 (by decide) ?_
            refine lv_bipush (v := 99) C.1 C.2.1 dX12_triesOf_81 (by decide) ?_
            refine mw_cSi (As := [.int ((tellP z 1 (mSt σ) (mCu σ p)) + (σ.2.1 6 (4 * p))), .int 0, .int 99]) (rest := []) C Z hP hS (cM_within l E u7 ((tellP z 1 (mSt σ) (mCu σ p)) + (σ.2.1 6 (4 * p))) 0 99) sb_X12_within tw_6_11 ⟨rfl, rfl⟩ ⟨Nat.le_of_ble_eq_true rfl, Nat.le_of_ble_eq_true rfl⟩ rfl hl.1 rfl (Nat.le_of_ble_eq_true rfl) dX12_triesOf_83 ⟨Nat.zero_le _, Nat.zero_le _⟩ (fun r16 u17 H locs q18 hP hS => ?_)
            obtain ⟨rfl, q18u⟩ := q18
            rw [q18u] at hP; clear q18u
            exact mw_iret C hr hlk Z hP hS dX12_triesOf_86 (⟨by first | contradiction | (unfold triesP; simp only [show mCu σ p 0 = σ.2.1 5 p from rfl, show mCu σ p 1 = σ.2.1 6 (4 * p) from rfl, show mCu σ p 2 = σ.2.1 6 (4 * p + 1) from rfl, show mCu σ p 3 = σ.2.1 6 (4 * p + 2) from rfl, show mSt σ 0 = σ.2.1 4 0 from rfl, show mSt σ 1 = σ.2.1 4 1 from rfl, show mSt σ 2 = σ.2.1 4 2 from rfl, show mSt σ 3 = σ.2.1 4 3 from rfl, show mSt σ 4 = σ.2.1 4 4 from rfl]; simp [c1, c3, c5, c11, c12]; done) | (exfalso; simp only [c1, c3, c5, c11, c12] at *; contradiction), ((mFs.rf σ).tr f9)⟩)
        · refine lv_iconst (v := 2) C.1 C.2.1 dX12_triesOf_55 (by decide) ?_
          refine lv_iload_n C.1 C.2.1 dX12_triesOf_56 rfl (lv_at hl 0 rfl) ?_
          refine lv_imul C.1 C.2.1 dX12_triesOf_57 ?_
          refine lv_goto (tgt := 80) C.1 C.2.1 dX12_triesOf_58 (by decide) ?_
          refine lv_iconst (v := 0) C.1 C.2.1 dX12_triesOf_80 (by decide) ?_
          refine lv_bipush (v := 99) C.1 C.2.1 dX12_triesOf_81 (by decide) ?_
          refine mw_cSi (As := [.int (2 * (tellP z 1 (mSt σ) (mCu σ p))), .int 0, .int 99]) (rest := []) C Z hP hS (cM_within l E u7 (2 * (tellP z 1 (mSt σ) (mCu σ p))) 0 99) sb_X12_within tw_6_11 ⟨rfl, rfl⟩ ⟨Nat.le_of_ble_eq_true rfl, Nat.le_of_ble_eq_true rfl⟩ rfl hl.1 rfl (Nat.le_of_ble_eq_true rfl) dX12_triesOf_83 ⟨Nat.zero_le _, Nat.zero_le _⟩ (fun r19 u20 H locs q21 hP hS => ?_)
          obtain ⟨rfl, q21u⟩ := q21
          rw [q21u] at hP; clear q21u
          exact mw_iret C hr hlk Z hP hS dX12_triesOf_86 (⟨by first | contradiction | (unfold triesP; simp only [show mCu σ p 0 = σ.2.1 5 p from rfl, show mCu σ p 1 = σ.2.1 6 (4 * p) from rfl, show mCu σ p 2 = σ.2.1 6 (4 * p + 1) from rfl, show mCu σ p 3 = σ.2.1 6 (4 * p + 2) from rfl, show mSt σ 0 = σ.2.1 4 0 from rfl, show mSt σ 1 = σ.2.1 4 1 from rfl, show mSt σ 2 = σ.2.1 4 2 from rfl, show mSt σ 3 = σ.2.1 4 3 from rfl, show mSt σ 4 = σ.2.1 4 4 from rfl]; simp [c1, c3, c5, c11]; done) | (exfalso; simp only [c1, c3, c5, c11] at *; contradiction), ((mFs.rf σ).tr f9)⟩)
      · refine lv_aload_n C.1 C.2.1 dX12_triesOf_22 rfl (lv_at hl 1 rfl) ?_
        refine mw_getr C Z hP (0) 7 (4) (by decide) rfl rfl rfl (by decide) inX12 tw_4_171 dX12_triesOf_23 ?_
        refine lv_iconst (v := 1) C.1 C.2.1 dX12_triesOf_26 (by decide) ?_
        refine mw_iald C Z hP (4) (1) (by decide) rfl (Nat.lt_of_lt_of_le (by decide : 5 < 961) (Nat.le_of_ble_eq_true rfl)) rfl (by decide) dX12_triesOf_27 ?_
        refine lv_iconst (v := 3) C.1 C.2.1 dX12_triesOf_28 (by decide) ?_
        refine lv_icmp_le (tgt := 43) C.1 C.2.1 dX12_triesOf_29 (by decide) (fun c22 => ?_) (fun c22 => ?_)
        · have c22 := Int32.not_lt.mpr c22
          refine lv_aload_n C.1 C.2.1 dX12_triesOf_43 rfl (lv_at hl 1 rfl) ?_
          refine lv_iconst (v := 1) C.1 C.2.1 dX12_triesOf_44 (by decide) ?_
          refine lv_iload_n C.1 C.2.1 dX12_triesOf_45 rfl (lv_at hl 2 rfl) ?_
          refine mw_cVi (As := [.int 1, .int (nI p)]) (rest := []) C Z hP hS (0) (cM_asks1 l E σ z p (by omega) ((mFs.rf σ).ru hru)) vb_X12_asks tw_5_56 ⟨rfl, rfl⟩ ⟨Nat.le_of_ble_eq_true rfl, Nat.le_of_ble_eq_true rfl⟩ (by decide) rfl rfl rfl rfl hl.1 rfl (Nat.le_of_ble_eq_true rfl) dX12_triesOf_46 ⟨Nat.zero_le _, Nat.zero_le _⟩ (fun r23 u24 H locs q25 hP hS => ?_)
          obtain ⟨e27, f26⟩ := q25
          rw [(mFs.rf σ).st, (mFs.rf σ).cu] at e27
          subst e27
          refine lv_istore_n (lv' := [(3, .int (tellP z 1 (mSt σ) (mCu σ p))), (2, .int (σ.2.1 5 p)), (0, .ref (mw_a E 0)), (1, .int (nI p))]) C.1 C.2.1 dX12_triesOf_49 rfl hl (by decide) rfl (fun ls hl => ?_)
          refine lv_iload_n C.1 C.2.1 dX12_triesOf_50 rfl (lv_at hl 1 rfl) ?_
          refine lv_iconst (v := 2) C.1 C.2.1 dX12_triesOf_51 (by decide) ?_
          refine lv_icmp_ne (tgt := 61) C.1 C.2.1 dX12_triesOf_52 (by decide) (fun c28 => ?_) (fun c28 => ?_)
          · refine lv_iload_n C.1 C.2.1 dX12_triesOf_61 rfl (lv_at hl 1 rfl) ?_
            refine lv_iconst (v := 3) C.1 C.2.1 dX12_triesOf_62 (by decide) ?_
            refine lv_icmp_ne (tgt := 79) C.1 C.2.1 dX12_triesOf_63 (by decide) (fun c29 => ?_) (fun c29 => ?_)
            · refine lv_iload_n C.1 C.2.1 dX12_triesOf_79 rfl (lv_at hl 0 rfl) ?_
              refine lv_iconst (v := 0) C.1 C.2.1 dX12_triesOf_80 (by decide) ?_
              refine lv_bipush (v := 99) C.1 C.2.1 dX12_triesOf_81 (by decide) ?_
              refine mw_cSi (As := [.int (tellP z 1 (mSt σ) (mCu σ p)), .int 0, .int 99]) (rest := []) C Z hP hS (cM_within l E u24 (tellP z 1 (mSt σ) (mCu σ p)) 0 99) sb_X12_within tw_6_11 ⟨rfl, rfl⟩ ⟨Nat.le_of_ble_eq_true rfl, Nat.le_of_ble_eq_true rfl⟩ rfl hl.1 rfl (Nat.le_of_ble_eq_true rfl) dX12_triesOf_83 ⟨Nat.zero_le _, Nat.zero_le _⟩ (fun r30 u31 H locs q32 hP hS => ?_)
              obtain ⟨rfl, q32u⟩ := q32
              rw [q32u] at hP; clear q32u
              exact mw_iret C hr hlk Z hP hS dX12_triesOf_86 (⟨by first | contradiction | (unfold triesP; simp only [show mCu σ p 0 = σ.2.1 5 p from rfl, show mCu σ p 1 = σ.2.1 6 (4 * p) from rfl, show mCu σ p 2 = σ.2.1 6 (4 * p + 1) from rfl, show mCu σ p 3 = σ.2.1 6 (4 * p + 2) from rfl, show mSt σ 0 = σ.2.1 4 0 from rfl, show mSt σ 1 = σ.2.1 4 1 from rfl, show mSt σ 2 = σ.2.1 4 2 from rfl, show mSt σ 3 = σ.2.1 4 3 from rfl, show mSt σ 4 = σ.2.1 4 4 from rfl]; simp [c1, c3, c5, c22, c28, c29]; done) | (exfalso; simp only [c1, c3, c5, c22, c28, c29] at *; contradiction), ((mFs.rf σ).tr f26)⟩)
            · refine lv_iload_n C.1 C.2.1 dX12_triesOf_66 rfl (lv_at hl 0 rfl) ?_
              refine lv_aload_n C.1 C.2.1 dX12_triesOf_67 rfl (lv_at hl 2 rfl) ?_
              refine mw_getr C Z hP (0) 9 (6) (by decide) rfl rfl rfl (by decide) inX12 tw_4_173 dX12_triesOf_68 ?_
              refine lv_iconst (v := 4) C.1 C.2.1 dX12_triesOf_71 (by decide) ?_
              refine lv_iload_n C.1 C.2.1 dX12_triesOf_72 rfl (lv_at hl 3 rfl) ?_
              refine lv_imul C.1 C.2.1 dX12_triesOf_73 ?_
              refine mw_top (y := nI (4 * p)) (pk_mul 4 p) ?_
              refine mw_iald C Z hP (6) (4 * p) (by decide) rfl (Nat.lt_of_lt_of_le (by decide : 32 < 961) (Nat.le_of_ble_eq_true rfl)) rfl (by omega) dX12_triesOf_74 ?_
              refine mw_top (y := σ.2.1 6 (4 * p)) (by first | (rw [((mFs.rf σ).tr f26).1]; done) | (rw [((mFs.rf σ).tr f26).1]; rfl)) ?_
              refine lv_iadd C.1 C.2.1 dX12_triesOf_75 ?_
              refine lv_goto (tgt := 80) C.1 C.2.1 dX12_triesOf_76 (by decide) ?_
              refine lv_iconst (v := 0) C.1 C.2.1 dX12_triesOf_80 (by decide) ?_
              refine lv_bipush (v := 99) C.1 C.2.1 dX12_triesOf_81 (by decide) ?_
              refine mw_cSi (As := [.int ((tellP z 1 (mSt σ) (mCu σ p)) + (σ.2.1 6 (4 * p))), .int 0, .int 99]) (rest := []) C Z hP hS (cM_within l E u24 ((tellP z 1 (mSt σ) (mCu σ p)) + (σ.2.1 6 (4 * p))) 0 99) sb_X12_within tw_6_11 ⟨rfl, rfl⟩ ⟨Nat.le_of_ble_eq_true rfl, Nat.le_of_ble_eq_true rfl⟩ rfl hl.1 rfl (Nat.le_of_ble_eq_true rfl) dX12_triesOf_83 ⟨Nat.zero_le _, Nat.zero_le _⟩ (fun r33 u34 H locs q35 hP hS => ?_)
              obtain ⟨rfl, q35u⟩ := q35
              rw [q35u] at hP; clear q35u
              exact mw_iret C hr hlk Z hP hS dX12_triesOf_86 (⟨by first | contradiction | (unfold triesP; simp only [show mCu σ p 0 = σ.2.1 5 p from rfl, show mCu σ p 1 = σ.2.1 6 (4 * p) from rfl, show mCu σ p 2 = σ.2.1 6 (4 * p + 1) from rfl, show mCu σ p 3 = σ.2.1 6 (4 * p + 2) from rfl, show mSt σ 0 = σ.2.1 4 0 from rfl, show mSt σ 1 = σ.2.1 4 1 from rfl, show mSt σ 2 = σ.2.1 4 2 from rfl, show mSt σ 3 = σ.2.1 4 3 from rfl, show mSt σ 4 = σ.2.1 4 4 from rfl]; simp [c1, c3, c5, c22, c28, c29]; done) | (exfalso; simp only [c1, c3, c5, c22, c28, c29] at *; contradiction), ((mFs.rf σ).tr f26)⟩)
          · refine lv_iconst (v := 2) C.1 C.2.1 dX12_triesOf_55 (by decide) ?_
            refine lv_iload_n C.1 C.2.1 dX12_triesOf_56 rfl (lv_at hl 0 rfl) ?_
            refine lv_imul C.1 C.2.1 dX12_triesOf_57 ?_
            refine lv_goto (tgt := 80) C.1 C.2.1 dX12_triesOf_58 (by decide) ?_
            refine lv_iconst (v := 0) C.1 C.2.1 dX12_triesOf_80 (by decide) ?_
            refine lv_bipush (v := 99) C.1 C.2.1 dX12_triesOf_81 (by decide) ?_
            refine mw_cSi (As := [.int (2 * (tellP z 1 (mSt σ) (mCu σ p))), .int 0, .int 99]) (rest := []) C Z hP hS (cM_within l E u24 (2 * (tellP z 1 (mSt σ) (mCu σ p))) 0 99) sb_X12_within tw_6_11 ⟨rfl, rfl⟩ ⟨Nat.le_of_ble_eq_true rfl, Nat.le_of_ble_eq_true rfl⟩ rfl hl.1 rfl (Nat.le_of_ble_eq_true rfl) dX12_triesOf_83 ⟨Nat.zero_le _, Nat.zero_le _⟩ (fun r36 u37 H locs q38 hP hS => ?_)
            obtain ⟨rfl, q38u⟩ := q38
            rw [q38u] at hP; clear q38u
            exact mw_iret C hr hlk Z hP hS dX12_triesOf_86 (⟨by first | contradiction | (unfold triesP; simp only [show mCu σ p 0 = σ.2.1 5 p from rfl, show mCu σ p 1 = σ.2.1 6 (4 * p) from rfl, show mCu σ p 2 = σ.2.1 6 (4 * p + 1) from rfl, show mCu σ p 3 = σ.2.1 6 (4 * p + 2) from rfl, show mSt σ 0 = σ.2.1 4 0 from rfl, show mSt σ 1 = σ.2.1 4 1 from rfl, show mSt σ 2 = σ.2.1 4 2 from rfl, show mSt σ 3 = σ.2.1 4 3 from rfl, show mSt σ 4 = σ.2.1 4 4 from rfl]; simp [c1, c3, c5, c22, c28]; done) | (exfalso; simp only [c1, c3, c5, c22, c28] at *; contradiction), ((mFs.rf σ).tr f26)⟩)
        · have c22 := Int32.not_le.mp c22
          refine lv_iload_n C.1 C.2.1 dX12_triesOf_32 rfl (lv_at hl 0 rfl) ?_
          refine lv_iconst (v := 5) C.1 C.2.1 dX12_triesOf_33 (by decide) ?_
          refine lv_icmp_ne (tgt := 41) C.1 C.2.1 dX12_triesOf_34 (by decide) (fun c39 => ?_) (fun c39 => ?_)
          · refine lv_iconst (v := 0) C.1 C.2.1 dX12_triesOf_41 (by decide) ?_
            exact mw_iret C hr hlk Z hP hS dX12_triesOf_42 (⟨by first | contradiction | (unfold triesP; simp only [show mCu σ p 0 = σ.2.1 5 p from rfl, show mCu σ p 1 = σ.2.1 6 (4 * p) from rfl, show mCu σ p 2 = σ.2.1 6 (4 * p + 1) from rfl, show mCu σ p 3 = σ.2.1 6 (4 * p + 2) from rfl, show mSt σ 0 = σ.2.1 4 0 from rfl, show mSt σ 1 = σ.2.1 4 1 from rfl, show mSt σ 2 = σ.2.1 4 2 from rfl, show mSt σ 3 = σ.2.1 4 3 from rfl, show mSt σ 4 = σ.2.1 4 4 from rfl]; simp [c1, c3, c5, c22, c39]; done) | (exfalso; simp only [c1, c3, c5, c22, c39] at *; contradiction), (mFs.rf σ)⟩)
          · refine lv_iconst (v := 1) C.1 C.2.1 dX12_triesOf_37 (by decide) ?_
            refine lv_goto (tgt := 42) C.1 C.2.1 dX12_triesOf_38 (by decide) ?_
            exact mw_iret C hr hlk Z hP hS dX12_triesOf_42 (⟨by first | contradiction | (unfold triesP; simp only [show mCu σ p 0 = σ.2.1 5 p from rfl, show mCu σ p 1 = σ.2.1 6 (4 * p) from rfl, show mCu σ p 2 = σ.2.1 6 (4 * p + 1) from rfl, show mCu σ p 3 = σ.2.1 6 (4 * p + 2) from rfl, show mSt σ 0 = σ.2.1 4 0 from rfl, show mSt σ 1 = σ.2.1 4 1 from rfl, show mSt σ 2 = σ.2.1 4 2 from rfl, show mSt σ 3 = σ.2.1 4 3 from rfl, show mSt σ 4 = σ.2.1 4 4 from rfl]; simp [c1, c3, c5, c22, c39]; done) | (exfalso; simp only [c1, c3, c5, c22, c39] at *; contradiction), (mFs.rf σ)⟩)

set_option maxHeartbeats 4000000 in
set_option maxRecDepth 100000 in
theorem cM_spendsOf (l : Launch) (E : mw_E) (σ : mw_M) (z : zP) (p : Nat) (hp : p < 8) (hru : mRu σ z) : mw_Ci shM 13 gM l yX12_spendsOf cX12_spendsOf 4 (some .int) (rmF 43 952) E [.ref (mw_a E 0), .int (nI p)] σ (fun r u => r = spendsP z (mSt σ) (mCu σ p) ∧ mFs σ u) := by
  refine mw_of (by decide) gM_ok (Nat.le_of_ble_eq_true rfl) ?_
  intro p_ e_ s_ m_ below meth c_ C hr hlk Z hP ls hl
  have C : CallFix p_ m_ c_ cX12_spendsOf 4 s_ _ lw_good RX12 := C
  have hl : lv_has ls 4 [(0, .ref (mw_a E 0)), (1, .int (nI p))] := hl
  have hS : va_S (mw_A 13 E) s_.heap s_.heap [] := va_S.rf
  refine lv_aload_n C.1 C.2.1 dX12_spendsOf_0 rfl (lv_at hl 0 rfl) ?_
  refine mw_getr C Z hP (0) 8 (5) (by decide) rfl rfl rfl (by decide) inX12 tw_4_172 dX12_spendsOf_1 ?_
  refine lv_iload_n C.1 C.2.1 dX12_spendsOf_4 rfl (lv_at hl 1 rfl) ?_
  refine mw_iald C Z hP (5) (p) (by decide) rfl (Nat.lt_of_lt_of_le (by decide : 8 < 961) (Nat.le_of_ble_eq_true rfl)) rfl (by omega) dX12_spendsOf_5 ?_
  refine lv_istore_n (lv' := [(2, .int (σ.2.1 5 p)), (0, .ref (mw_a E 0)), (1, .int (nI p))]) C.1 C.2.1 dX12_spendsOf_6 rfl hl (by decide) rfl (fun ls hl => ?_)
  refine lv_iload_n C.1 C.2.1 dX12_spendsOf_7 rfl (lv_at hl 0 rfl) ?_
  refine lv_iconst (v := 1) C.1 C.2.1 dX12_spendsOf_8 (by decide) ?_
  refine lv_icmp_eq (tgt := 17) C.1 C.2.1 dX12_spendsOf_9 (by decide) (fun c1 => ?_) (fun c1 => ?_)
  · refine lv_iload_n C.1 C.2.1 dX12_spendsOf_17 rfl (lv_at hl 0 rfl) ?_
    refine lv_iconst (v := 1) C.1 C.2.1 dX12_spendsOf_18 (by decide) ?_
    refine lv_icmp_ne (tgt := 26) C.1 C.2.1 dX12_spendsOf_19 (by decide) (fun c2 => ?_) (fun c2 => ?_)
    · refine lv_iconst (v := 3) C.1 C.2.1 dX12_spendsOf_26 (by decide) ?_
      exact mw_iret C hr hlk Z hP hS dX12_spendsOf_27 (⟨by first | contradiction | (unfold spendsP; simp only [show mCu σ p 0 = σ.2.1 5 p from rfl, show mCu σ p 1 = σ.2.1 6 (4 * p) from rfl, show mCu σ p 2 = σ.2.1 6 (4 * p + 1) from rfl, show mCu σ p 3 = σ.2.1 6 (4 * p + 2) from rfl, show mSt σ 0 = σ.2.1 4 0 from rfl, show mSt σ 1 = σ.2.1 4 1 from rfl, show mSt σ 2 = σ.2.1 4 2 from rfl, show mSt σ 3 = σ.2.1 4 3 from rfl, show mSt σ 4 = σ.2.1 4 4 from rfl]; simp [c1, c2]; done) | (exfalso; simp only [c1, c2] at *; contradiction), (mFs.rf σ)⟩)
    · refine lv_iconst (v := 0) C.1 C.2.1 dX12_spendsOf_22 (by decide) ?_
      refine lv_goto (tgt := 27) C.1 C.2.1 dX12_spendsOf_23 (by decide) ?_
      exact mw_iret C hr hlk Z hP hS dX12_spendsOf_27 (⟨by first | contradiction | (unfold spendsP; simp only [show mCu σ p 0 = σ.2.1 5 p from rfl, show mCu σ p 1 = σ.2.1 6 (4 * p) from rfl, show mCu σ p 2 = σ.2.1 6 (4 * p + 1) from rfl, show mCu σ p 3 = σ.2.1 6 (4 * p + 2) from rfl, show mSt σ 0 = σ.2.1 4 0 from rfl, show mSt σ 1 = σ.2.1 4 1 from rfl, show mSt σ 2 = σ.2.1 4 2 from rfl, show mSt σ 3 = σ.2.1 4 3 from rfl, show mSt σ 4 = σ.2.1 4 4 from rfl]; simp [c1, c2]; done) | (exfalso; simp only [c1, c2] at *; contradiction), (mFs.rf σ)⟩)
  · refine lv_iload_n C.1 C.2.1 dX12_spendsOf_12 rfl (lv_at hl 0 rfl) ?_
    refine lv_iconst (v := 3) C.1 C.2.1 dX12_spendsOf_13 (by decide) ?_
    refine lv_icmp_ne (tgt := 28) C.1 C.2.1 dX12_spendsOf_14 (by decide) (fun c3 => ?_) (fun c3 => ?_)
    · refine lv_aload_n C.1 C.2.1 dX12_spendsOf_28 rfl (lv_at hl 1 rfl) ?_
      refine lv_iconst (v := 2) C.1 C.2.1 dX12_spendsOf_29 (by decide) ?_
      refine lv_iload_n C.1 C.2.1 dX12_spendsOf_30 rfl (lv_at hl 2 rfl) ?_
      refine mw_cVi (As := [.int 2, .int (nI p)]) (rest := []) C Z hP hS (0) (cM_asks2 l E σ z p (by omega) ((mFs.rf σ).ru hru)) vb_X12_asks tw_5_56 ⟨rfl, rfl⟩ ⟨Nat.le_of_ble_eq_true rfl, Nat.le_of_ble_eq_true rfl⟩ (by decide) rfl rfl rfl rfl hl.1 rfl (Nat.le_of_ble_eq_true rfl) dX12_spendsOf_31 ⟨Nat.zero_le _, Nat.zero_le _⟩ (fun r4 u5 H locs q6 hP hS => ?_)
      obtain ⟨e8, f7⟩ := q6
      rw [(mFs.rf σ).st, (mFs.rf σ).cu] at e8
      subst e8
      refine lv_istore_n (lv' := [(3, .int (tellP z 2 (mSt σ) (mCu σ p))), (2, .int (σ.2.1 5 p)), (0, .ref (mw_a E 0)), (1, .int (nI p))]) C.1 C.2.1 dX12_spendsOf_34 rfl hl (by decide) rfl (fun ls hl => ?_)
      refine lv_iload_n C.1 C.2.1 dX12_spendsOf_35 rfl (lv_at hl 1 rfl) ?_
      refine lv_iconst (v := 2) C.1 C.2.1 dX12_spendsOf_36 (by decide) ?_
      refine lv_icmp_eq (tgt := 45) C.1 C.2.1 dX12_spendsOf_37 (by decide) (fun c9 => ?_) (fun c9 => ?_)
      · refine lv_iload_n C.1 C.2.1 dX12_spendsOf_45 rfl (lv_at hl 0 rfl) ?_
        refine lv_iconst (v := 2) C.1 C.2.1 dX12_spendsOf_46 (by decide) ?_
        refine lv_idiv C.1 C.2.1 dX12_spendsOf_47 (by decide) ?_
        refine lv_goto (tgt := 73) C.1 C.2.1 dX12_spendsOf_48 (by decide) ?_
        refine lv_iconst (v := 0) C.1 C.2.1 dX12_spendsOf_73 (by decide) ?_
        refine lv_sipush (v := 999) C.1 C.2.1 dX12_spendsOf_74 (by decide) ?_
        refine mw_cSi (As := [.int ((tellP z 2 (mSt σ) (mCu σ p)) / 2), .int 0, .int 999]) (rest := []) C Z hP hS (cM_within l E u5 ((tellP z 2 (mSt σ) (mCu σ p)) / 2) 0 999) sb_X12_within tw_6_11 ⟨rfl, rfl⟩ ⟨Nat.le_of_ble_eq_true rfl, Nat.le_of_ble_eq_true rfl⟩ rfl hl.1 rfl (Nat.le_of_ble_eq_true rfl) dX12_spendsOf_77 ⟨Nat.zero_le _, Nat.zero_le _⟩ (fun r10 u11 H locs q12 hP hS => ?_)
        obtain ⟨rfl, q12u⟩ := q12
        rw [q12u] at hP; clear q12u
        exact mw_iret C hr hlk Z hP hS dX12_spendsOf_80 (⟨by first | contradiction | (unfold spendsP; simp only [show mCu σ p 0 = σ.2.1 5 p from rfl, show mCu σ p 1 = σ.2.1 6 (4 * p) from rfl, show mCu σ p 2 = σ.2.1 6 (4 * p + 1) from rfl, show mCu σ p 3 = σ.2.1 6 (4 * p + 2) from rfl, show mSt σ 0 = σ.2.1 4 0 from rfl, show mSt σ 1 = σ.2.1 4 1 from rfl, show mSt σ 2 = σ.2.1 4 2 from rfl, show mSt σ 3 = σ.2.1 4 3 from rfl, show mSt σ 4 = σ.2.1 4 4 from rfl]; simp [c1, c3, c9]; done) | (exfalso; simp only [c1, c3, c9] at *; contradiction), ((mFs.rf σ).tr f7)⟩)
      · refine lv_iload_n C.1 C.2.1 dX12_spendsOf_40 rfl (lv_at hl 1 rfl) ?_
        refine lv_iconst (v := 4) C.1 C.2.1 dX12_spendsOf_41 (by decide) ?_
        refine lv_icmp_ne (tgt := 51) C.1 C.2.1 dX12_spendsOf_42 (by decide) (fun c13 => ?_) (fun c13 => ?_)
        · refine lv_iload_n C.1 C.2.1 dX12_spendsOf_51 rfl (lv_at hl 1 rfl) ?_
          refine lv_iconst (v := 5) C.1 C.2.1 dX12_spendsOf_52 (by decide) ?_
          refine lv_icmp_ne (tgt := 72) C.1 C.2.1 dX12_spendsOf_53 (by decide) (fun c14 => ?_) (fun c14 => ?_)
          · refine lv_iload_n C.1 C.2.1 dX12_spendsOf_72 rfl (lv_at hl 0 rfl) ?_
            refine lv_iconst (v := 0) C.1 C.2.1 dX12_spendsOf_73 (by decide) ?_
            refine lv_sipush (v := 999) C.1 C.2.1 dX12_spendsOf_74 (by decide) ?_
            refine mw_cSi (As := [.int (tellP z 2 (mSt σ) (mCu σ p)), .int 0, .int 999]) (rest := []) C Z hP hS (cM_within l E u5 (tellP z 2 (mSt σ) (mCu σ p)) 0 999) sb_X12_within tw_6_11 ⟨rfl, rfl⟩ ⟨Nat.le_of_ble_eq_true rfl, Nat.le_of_ble_eq_true rfl⟩ rfl hl.1 rfl (Nat.le_of_ble_eq_true rfl) dX12_spendsOf_77 ⟨Nat.zero_le _, Nat.zero_le _⟩ (fun r15 u16 H locs q17 hP hS => ?_)
            obtain ⟨rfl, q17u⟩ := q17
            rw [q17u] at hP; clear q17u
            exact mw_iret C hr hlk Z hP hS dX12_spendsOf_80 (⟨by first | contradiction | (unfold spendsP; simp only [show mCu σ p 0 = σ.2.1 5 p from rfl, show mCu σ p 1 = σ.2.1 6 (4 * p) from rfl, show mCu σ p 2 = σ.2.1 6 (4 * p + 1) from rfl, show mCu σ p 3 = σ.2.1 6 (4 * p + 2) from rfl, show mSt σ 0 = σ.2.1 4 0 from rfl, show mSt σ 1 = σ.2.1 4 1 from rfl, show mSt σ 2 = σ.2.1 4 2 from rfl, show mSt σ 3 = σ.2.1 4 3 from rfl, show mSt σ 4 = σ.2.1 4 4 from rfl]; simp [c1, c3, c9, c13, c14]; done) | (exfalso; simp only [c1, c3, c9, c13, c14] at *; contradiction), ((mFs.rf σ).tr f7)⟩)
          · refine lv_iload_n C.1 C.2.1 dX12_spendsOf_56 rfl (lv_at hl 0 rfl) ?_
            refine lv_bipush (v := 10) C.1 C.2.1 dX12_spendsOf_57 (by decide) ?_
            refine lv_aload_n C.1 C.2.1 dX12_spendsOf_59 rfl (lv_at hl 2 rfl) ?_
            refine mw_getr C Z hP (0) 9 (6) (by decide) rfl rfl rfl (by decide) inX12 tw_4_173 dX12_spendsOf_60 ?_
            refine lv_iconst (v := 4) C.1 C.2.1 dX12_spendsOf_63 (by decide) ?_
            refine lv_iload_n C.1 C.2.1 dX12_spendsOf_64 rfl (lv_at hl 3 rfl) ?_
            refine lv_imul C.1 C.2.1 dX12_spendsOf_65 ?_
            refine mw_top (y := nI (4 * p)) (pk_mul 4 p) ?_
            refine mw_iald C Z hP (6) (4 * p) (by decide) rfl (Nat.lt_of_lt_of_le (by decide : 32 < 961) (Nat.le_of_ble_eq_true rfl)) rfl (by omega) dX12_spendsOf_66 ?_
            refine mw_top (y := σ.2.1 6 (4 * p)) (by first | (rw [((mFs.rf σ).tr f7).1]; done) | (rw [((mFs.rf σ).tr f7).1]; rfl)) ?_
            refine lv_imul C.1 C.2.1 dX12_spendsOf_67 ?_
            refine lv_iadd C.1 C.2.1 dX12_spendsOf_68 ?_
            refine lv_goto (tgt := 73) C.1 C.2.1 dX12_spendsOf_69 (by decide) ?_
            refine lv_iconst (v := 0) C.1 C.2.1 dX12_spendsOf_73 (by decide) ?_
            refine lv_sipush (v := 999) C.1 C.2.1 dX12_spendsOf_74 (by decide) ?_
            refine mw_cSi (As := [.int ((tellP z 2 (mSt σ) (mCu σ p)) + (10 * (σ.2.1 6 (4 * p)))), .int 0, .int 999]) (rest := []) C Z hP hS (cM_within l E u5 ((tellP z 2 (mSt σ) (mCu σ p)) + (10 * (σ.2.1 6 (4 * p)))) 0 999) sb_X12_within tw_6_11 ⟨rfl, rfl⟩ ⟨Nat.le_of_ble_eq_true rfl, Nat.le_of_ble_eq_true rfl⟩ rfl hl.1 rfl (Nat.le_of_ble_eq_true rfl) dX12_spendsOf_77 ⟨Nat.zero_le _, Nat.zero_le _⟩ (fun r18 u19 H locs q20 hP hS => ?_)
            obtain ⟨rfl, q20u⟩ := q20
            rw [q20u] at hP; clear q20u
            exact mw_iret C hr hlk Z hP hS dX12_spendsOf_80 (⟨by first | contradiction | (unfold spendsP; simp only [show mCu σ p 0 = σ.2.1 5 p from rfl, show mCu σ p 1 = σ.2.1 6 (4 * p) from rfl, show mCu σ p 2 = σ.2.1 6 (4 * p + 1) from rfl, show mCu σ p 3 = σ.2.1 6 (4 * p + 2) from rfl, show mSt σ 0 = σ.2.1 4 0 from rfl, show mSt σ 1 = σ.2.1 4 1 from rfl, show mSt σ 2 = σ.2.1 4 2 from rfl, show mSt σ 3 = σ.2.1 4 3 from rfl, show mSt σ 4 = σ.2.1 4 4 from rfl]; simp [c1, c3, c9, c13, c14]; done) | (exfalso; simp only [c1, c3, c9, c13, c14] at *; contradiction), ((mFs.rf σ).tr f7)⟩)
        · refine lv_iload_n C.1 C.2.1 dX12_spendsOf_45 rfl (lv_at hl 0 rfl) ?_
          refine lv_iconst (v := 2) C.1 C.2.1 dX12_spendsOf_46 (by decide) ?_
          refine lv_idiv C.1 C.2.1 dX12_spendsOf_47 (by decide) ?_
          refine lv_goto (tgt := 73) C.1 C.2.1 dX12_spendsOf_48 (by decide) ?_
          refine lv_iconst (v := 0) C.1 C.2.1 dX12_spendsOf_73 (by decide) ?_
          refine lv_sipush (v := 999) C.1 C.2.1 dX12_spendsOf_74 (by decide) ?_
          refine mw_cSi (As := [.int ((tellP z 2 (mSt σ) (mCu σ p)) / 2), .int 0, .int 999]) (rest := []) C Z hP hS (cM_within l E u5 ((tellP z 2 (mSt σ) (mCu σ p)) / 2) 0 999) sb_X12_within tw_6_11 ⟨rfl, rfl⟩ ⟨Nat.le_of_ble_eq_true rfl, Nat.le_of_ble_eq_true rfl⟩ rfl hl.1 rfl (Nat.le_of_ble_eq_true rfl) dX12_spendsOf_77 ⟨Nat.zero_le _, Nat.zero_le _⟩ (fun r21 u22 H locs q23 hP hS => ?_)
          obtain ⟨rfl, q23u⟩ := q23
          rw [q23u] at hP; clear q23u
          exact mw_iret C hr hlk Z hP hS dX12_spendsOf_80 (⟨by first | contradiction | (unfold spendsP; simp only [show mCu σ p 0 = σ.2.1 5 p from rfl, show mCu σ p 1 = σ.2.1 6 (4 * p) from rfl, show mCu σ p 2 = σ.2.1 6 (4 * p + 1) from rfl, show mCu σ p 3 = σ.2.1 6 (4 * p + 2) from rfl, show mSt σ 0 = σ.2.1 4 0 from rfl, show mSt σ 1 = σ.2.1 4 1 from rfl, show mSt σ 2 = σ.2.1 4 2 from rfl, show mSt σ 3 = σ.2.1 4 3 from rfl, show mSt σ 4 = σ.2.1 4 4 from rfl]; simp [c1, c3, c9, c13]; done) | (exfalso; simp only [c1, c3, c9, c13] at *; contradiction), ((mFs.rf σ).tr f7)⟩)
    · refine lv_iload_n C.1 C.2.1 dX12_spendsOf_17 rfl (lv_at hl 0 rfl) ?_
      refine lv_iconst (v := 1) C.1 C.2.1 dX12_spendsOf_18 (by decide) ?_
      refine lv_icmp_ne (tgt := 26) C.1 C.2.1 dX12_spendsOf_19 (by decide) (fun c24 => ?_) (fun c24 => ?_)
      · refine lv_iconst (v := 3) C.1 C.2.1 dX12_spendsOf_26 (by decide) ?_
        exact mw_iret C hr hlk Z hP hS dX12_spendsOf_27 (⟨by first | contradiction | (unfold spendsP; simp only [show mCu σ p 0 = σ.2.1 5 p from rfl, show mCu σ p 1 = σ.2.1 6 (4 * p) from rfl, show mCu σ p 2 = σ.2.1 6 (4 * p + 1) from rfl, show mCu σ p 3 = σ.2.1 6 (4 * p + 2) from rfl, show mSt σ 0 = σ.2.1 4 0 from rfl, show mSt σ 1 = σ.2.1 4 1 from rfl, show mSt σ 2 = σ.2.1 4 2 from rfl, show mSt σ 3 = σ.2.1 4 3 from rfl, show mSt σ 4 = σ.2.1 4 4 from rfl]; simp [c1, c3, c24]; done) | (exfalso; simp only [c1, c3, c24] at *; contradiction), (mFs.rf σ)⟩)
      · refine lv_iconst (v := 0) C.1 C.2.1 dX12_spendsOf_22 (by decide) ?_
        refine lv_goto (tgt := 27) C.1 C.2.1 dX12_spendsOf_23 (by decide) ?_
        exact mw_iret C hr hlk Z hP hS dX12_spendsOf_27 (⟨by first | contradiction | (unfold spendsP; simp only [show mCu σ p 0 = σ.2.1 5 p from rfl, show mCu σ p 1 = σ.2.1 6 (4 * p) from rfl, show mCu σ p 2 = σ.2.1 6 (4 * p + 1) from rfl, show mCu σ p 3 = σ.2.1 6 (4 * p + 2) from rfl, show mSt σ 0 = σ.2.1 4 0 from rfl, show mSt σ 1 = σ.2.1 4 1 from rfl, show mSt σ 2 = σ.2.1 4 2 from rfl, show mSt σ 3 = σ.2.1 4 3 from rfl, show mSt σ 4 = σ.2.1 4 4 from rfl]; simp [c1, c3, c24]; done) | (exfalso; simp only [c1, c3, c24] at *; contradiction), (mFs.rf σ)⟩)
