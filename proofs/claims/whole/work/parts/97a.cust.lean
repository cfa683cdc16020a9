/-! CUSTOMERS OUT OF A SHEET; WHAT A SHEET TELLS -/
theorem cuL_cg {cl dl : Nat → Int32} {sz : Nat} {a : Int} (hc : ∀ q, q < sz → cl q = dl q) : ∀ (d k n : Nat), cuL cl sz a d k n = cuL dl sz a d k n
  | 0, _, _ => rfl
  | d + 1, k, n => by
    by_cases h : 0 ≤ a ∧ a + 3 * k + 3 ≤ sz
    · rw [cuL_s h, cuL_s h, hc (a.toNat + 3 * k) (by omega), hc (a.toNat + 3 * k + 1) (by omega), hc (a.toNat + 3 * k + 2) (by omega), cuL_cg hc d (k + 1) (n + 1), cuL_cg hc d (k + 1) n]
    · rw [cuL_x h, cuL_x h]
def cuOKs : Nat → List triT → Prop
  | _, [] => True
  | n, t :: ts => (cusOK t.1 t.2.1 t.2.2 ∧ n < 8) ∧ cuOKs (n + 1) ts
theorem cuL_ok {cl : Nat → Int32} {sz : Nat} {a : Int} : ∀ (d k n : Nat), cuOKs n (cuL cl sz a d k n).1
  | 0, _, _ => trivial
  | d + 1, k, n => by
    by_cases h : 0 ≤ a ∧ a + 3 * k + 3 ≤ sz
    · rw [cuL_s h]
      by_cases c : cusOK (cl (a.toNat + 3 * k)) (cl (a.toNat + 3 * k + 1)) (cl (a.toNat + 3 * k + 2)) ∧ n < 8
      · rw [if_pos c]
        exact ⟨c, cuL_ok d (k + 1) (n + 1)⟩
      · rw [if_neg c]
        exact cuL_ok d (k + 1) n
    · rw [cuL_x h]
      trivial
theorem op_cus {tc tn : Nat} {zz : Nat → zP} : ∀ (xs : List triT) (σ τ : mw_M) (n : Nat), RR σ τ n tc tn zz → cuOKs n xs → RR (xcuMs σ n xs) (cusMs τ n xs) (n + xs.length) tc tn zz
  | [], _, _, _, h, _ => h
  | t :: ts, σ, τ, n, h, hc => by
    have hh := op_cus ts _ _ (n + 1) (op_customer h hc.1.1 hc.1.2) hc.2
    rw [show n + (t :: ts).length = n + 1 + ts.length by rw [List.length_cons]; omega]
    exact hh
theorem op_customers {σ τ : mw_M} {n tc tn : Nat} {zz : Nat → zP} (h : RR σ τ n tc tn zz) (ss so a1 m1 : Int32) : ∃ (r : Int32) (xs : List triT), custR σ n ss so a1 m1 = (r, xs) ∧ custF τ.2.1 n ss so a1 m1 = (r, xs) ∧ RR (xcuMs σ n xs) (cusMs τ n xs) (n + xs.length) tc tn zz := by
  unfold custR custF
  by_cases c1 : ¬ (0 ≤ ss.toInt ∧ ss.toInt ≤ 3) ∨ ¬ (0 ≤ so.toInt ∧ so.toInt ≤ 2) ∨ ¬ (0 ≤ m1.toInt ∧ m1.toInt ≤ 8)
  · exact ⟨_, _, if_pos c1, if_pos c1, h⟩
  · have hs : 0 ≤ ss.toInt ∧ ss.toInt ≤ 3 := Decidable.not_not.mp (fun y => c1 (Or.inl y))
    have hs4 : ss.toNatClampNeg < 4 := lt_of_clamp ⟨hs.1, by omega⟩
    generalize ss.toNatClampNeg = s at hs4 ⊢
    rcases h.s1 hs4 with ⟨d1, d2⟩ | ⟨d1, d2, d3, m, k1, k2, k3, k4⟩
    · exact ⟨_, _, (if_neg c1).trans ((if_neg (fun y => y.1 d1)).trans (if_pos d1)), (if_neg c1).trans ((if_neg (fun y => y.1 d2)).trans (if_pos d2)), h⟩
    · by_cases c2 : σ.1 (67 + s) 0 = so
      · have e := cuL_cg (a := a1.toInt) (cl := σ.2.1 (71 + s)) (dl := clF τ.2.1 s) (sz := m) k4 m1.toNatClampNeg 0 n
        refine ⟨_, _, (if_neg c1).trans ((if_neg (fun y => y.2 c2)).trans (if_neg d1)), (if_neg c1).trans ((if_neg (fun y => y.2 (d3.trans c2))).trans ((if_neg d2).trans ?_)), ?_⟩
        · rw [k2, k3, nI_clamp (by omega), e]
        · exact op_cus _ _ _ n h (cuL_ok _ _ _)
      · exact ⟨_, _, (if_neg c1).trans (if_pos ⟨d1, c2⟩), (if_neg c1).trans (if_pos ⟨d2, fun y => c2 (d3.symm.trans y)⟩), h⟩
theorem tl_cg {σ τ : mw_M} {n tc tn : Nat} {zz : Nat → zP} (h : RR σ τ n tc tn zz) {ss oo A B : Int32} (hAB : (0 ≤ oo.toInt ∧ oo.toInt < n) → ∀ m : Nat, m ≤ 40 → σ.1 (67 + ss.toNatClampNeg) 1 = nI m → τ.2.1 11 ss.toNatClampNeg = nI m → (∀ q, q < m → σ.2.1 (71 + ss.toNatClampNeg) q = τ.2.1 12 (40 * ss.toNatClampNeg + q)) → A = B) : (if ¬ (0 ≤ ss.toInt ∧ ss.toInt ≤ 3) ∨ ¬ (0 ≤ oo.toInt ∧ oo.toInt < n) then -2 else if σ.1 (67 + ss.toNatClampNeg) 0 = -1 then -11 else A) = (if ¬ (0 ≤ ss.toInt ∧ ss.toInt ≤ 3) ∨ ¬ (0 ≤ oo.toInt ∧ oo.toInt < n) then -2 else if τ.2.1 9 ss.toNatClampNeg = 0 then -11 else B) := by
  by_cases c1 : ¬ (0 ≤ ss.toInt ∧ ss.toInt ≤ 3) ∨ ¬ (0 ≤ oo.toInt ∧ oo.toInt < n)
  · exact (if_pos c1).trans (if_pos c1).symm
  · have hs : 0 ≤ ss.toInt ∧ ss.toInt ≤ 3 := Decidable.not_not.mp (fun y => c1 (Or.inl y))
    have ho : 0 ≤ oo.toInt ∧ oo.toInt < n := Decidable.not_not.mp (fun y => c1 (Or.inr y))
    have hs4 : ss.toNatClampNeg < 4 := lt_of_clamp ⟨hs.1, by omega⟩
    rcases h.s1 hs4 with ⟨d1, d2⟩ | ⟨d1, d2, d3, m, m1, m2, m3, m4⟩
    · exact ((if_neg c1).trans (if_pos d1)).trans ((if_neg c1).trans (if_pos d2)).symm
    · exact ((if_neg c1).trans (if_neg d1)).trans ((hAB ho m m1 m2 m3 m4).trans ((if_neg c1).trans (if_neg d2)).symm)
theorem tp_cg {b c : Nat → Bool} (h : ∀ v, b v = c v) (lo cnt w : Nat) : tellP3 b lo cnt w = tellP3 c lo cnt w := by rw [funext h]
