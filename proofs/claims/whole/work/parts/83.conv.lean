/-! THE CLASS'S CELLS AS ITS CONSTRUCTOR LEAVES THEM -/
theorem arrV_cg {cI : ClassId} {N : Nat} {f g : Nat → Value} (h : ∀ j, j < N → f j = g j) : arrV cI N f = arrV cI N g := by
  unfold arrV
  congr 2
  funext j
  exact h j.val j.isLt
theorem gq_at {D : va_G} {q : Nat} {cA : ClassId} {n : Nat} {f g : Nat → Option Nat} {H : Heap} (hfg : ∀ j, j < n → f j = g j) (h : va_at D vwCl (q, .inl (cA, n, .inr (.inr (.inr (.inr f))))) H) : va_at D vwCl (q, .inl (cA, n, .inr (.inr (.inr (.inr g))))) H := by
  show H[q]? = some (vp_cell _ _)
  rw [vp_cell_q, ← arrV_cg (f := fun j => va_rf (f j)) (fun j hj => by rw [hfg j hj])]
  exact h
def x11L (ci : Nat → ClassId) (h0 : Nat) (a : Nat → Nat) (u : Nat → Nat → Nat) : va_W := gd_6 ci (a 1) (u 1) ++ (gd_6 ci (a 2) (u 2) ++ (gd_6 ci (a 3) (u 3) ++ (gd_7 ci (a 4) (u 4) ++ (gd_3 ci (a 5) (u 5) ++ (gd_9 ci (a 6) (u 6) ++ (gd_4 ci (a 7) (a 6) (u 7) ++ (gd_0 ci (a 8) (u 8) ++ (gd_2 ci (a 9) (u 9) ++ (gd_5 ci (a 11) (u 11) ++ (gd_5 ci (a 12) (u 12) ++ (gd_5 ci (a 13) (u 13) ++ (gd_5 ci (a 14) (u 14) ++ ([(h0, .inr (11, [.ref (a 1), .ref (a 2), .ref (a 3), .int 0, .ref (a 4), .ref (a 5), .ref (a 6), .ref (a 7), .ref (a 8), .ref (a 9), .ref (a 10)])), (a 10, .inl (ci 3, 4, .inr (.inr (.inr (.inr (va_up (va_up (va_up (va_up (fun _ => none) 0 (some (a 11))) 1 (some (a 12))) 2 (some (a 13))) 3 (some (a 14))))))))])))))))))))))
def x11I : List Nat := [0, 10, 20, 1, 11, 21, 2, 3, 4, 5, 6, 7, 8, 9, 12, 13, 14, 15, 16, 17, 18, 19, 22, 23, 24, 25, 26, 27, 28, 29, 73, 30, 31, 32, 33, 34, 35, 36, 37, 38, 42, 46, 50, 54, 58, 39, 43, 47, 51, 55, 59, 40, 44, 48, 52, 56, 60, 41, 45, 49, 53, 57, 61, 62, 63, 64, 74, 65, 67, 69, 71, 66, 68, 70, 72]
def x11A (h0 : Nat) (a : Nat → Nat) (u : Nat → Nat → Nat) : List Nat := [a 1, a 2, a 3, u 1 0, u 2 0, u 3 0, u 1 1, u 1 2, u 1 3, u 1 4, u 1 5, u 1 6, u 1 7, u 1 8, u 2 1, u 2 2, u 2 3, u 2 4, u 2 5, u 2 6, u 2 7, u 2 8, u 3 1, u 3 2, u 3 3, u 3 4, u 3 5, u 3 6, u 3 7, u 3 8, h0, a 4, u 4 0, a 5, u 5 0, u 5 1, u 5 2, a 6, u 6 0, u 6 1, u 6 5, u 6 9, u 6 13, u 6 17, u 6 21, u 6 2, u 6 6, u 6 10, u 6 14, u 6 18, u 6 22, u 6 3, u 6 7, u 6 11, u 6 15, u 6 19, u 6 23, u 6 4, u 6 8, u 6 12, u 6 16, u 6 20, u 6 24, a 7, a 8, a 9, a 10, a 11, a 12, a 13, a 14, u 11 0, u 12 0, u 13 0, u 14 0]
def x11E (D : va_G) (ci : Nat → ClassId) (h0 : Nat) (a : Nat → Nat) (u : Nat → Nat → Nat) (tt kk vv : Nat → Nat) : mw_E := (D, ci, fun k => (x11A h0 a u).getD k 0, tt, kk, vv)
def s0X : mw_M := (fun k f => if k < 3 then [10, 4, 1, 1023, 2].getD f 0 else if k = 33 ∧ f = 2 then -1 else if (67 ≤ k ∧ k ≤ 70) ∧ f = 0 then -1 else 0, fun _ _ => 0, fun k f => if k = 65 ∧ f = 1 then 1 else 0)
theorem x11I_inj : ∀ i : Fin 75, ∀ j : Fin 75, x11I.getD i.val 0 = x11I.getD j.val 0 → i = j := by decide +kernel

theorem x11_0 (D : va_G) (ci : Nat → ClassId) (h0 : Nat) (a : Nat → Nat) (u : Nat → Nat → Nat) (tt kk vv : Nat → Nat) : ∃ e : va_E, (x11L ci h0 a u)[x11I.getD 0 0]? = some (mw_a (x11E D ci h0 a u tt kk vv) 0, e) ∧ ∀ H : Heap, va_at D vwCl (mw_a (x11E D ci h0 a u tt kk vv) 0, e) H → va_at D vwCl (mw_a (x11E D ci h0 a u tt kk vv) 0, mw_cel (x11E D ci h0 a u tt kk vv) s0X 0 (shX 0)) H := ⟨_, rfl, fun H h => h⟩
theorem x11_1 (D : va_G) (ci : Nat → ClassId) (h0 : Nat) (a : Nat → Nat) (u : Nat → Nat → Nat) (tt kk vv : Nat → Nat) : ∃ e : va_E, (x11L ci h0 a u)[x11I.getD 1 0]? = some (mw_a (x11E D ci h0 a u tt kk vv) 1, e) ∧ ∀ H : Heap, va_at D vwCl (mw_a (x11E D ci h0 a u tt kk vv) 1, e) H → va_at D vwCl (mw_a (x11E D ci h0 a u tt kk vv) 1, mw_cel (x11E D ci h0 a u tt kk vv) s0X 1 (shX 1)) H := ⟨_, rfl, fun H h => h⟩
theorem x11_2 (D : va_G) (ci : Nat → ClassId) (h0 : Nat) (a : Nat → Nat) (u : Nat → Nat → Nat) (tt kk vv : Nat → Nat) : ∃ e : va_E, (x11L ci h0 a u)[x11I.getD 2 0]? = some (mw_a (x11E D ci h0 a u tt kk vv) 2, e) ∧ ∀ H : Heap, va_at D vwCl (mw_a (x11E D ci h0 a u tt kk vv) 2, e) H → va_at D vwCl (mw_a (x11E D ci h0 a u tt kk vv) 2, mw_cel (x11E D ci h0 a u tt kk vv) s0X 2 (shX 2)) H := ⟨_, rfl, fun H h => h⟩
theorem x11_3 (D : va_G) (ci : Nat → ClassId) (h0 : Nat) (a : Nat → Nat) (u : Nat → Nat → Nat) (tt kk vv : Nat → Nat) : ∃ e : va_E, (x11L ci h0 a u)[x11I.getD 3 0]? = some (mw_a (x11E D ci h0 a u tt kk vv) 3, e) ∧ ∀ H : Heap, va_at D vwCl (mw_a (x11E D ci h0 a u tt kk vv) 3, e) H → va_at D vwCl (mw_a (x11E D ci h0 a u tt kk vv) 3, mw_cel (x11E D ci h0 a u tt kk vv) s0X 3 (shX 3)) H := ⟨_, rfl, fun H h => gq_at (fun j hj => by match j, hj with | 0, _ => rfl | 1, _ => rfl | 2, _ => rfl | 3, _ => rfl | 4, _ => rfl | 5, _ => rfl | 6, _ => rfl | 7, _ => rfl) h⟩
theorem x11_4 (D : va_G) (ci : Nat → ClassId) (h0 : Nat) (a : Nat → Nat) (u : Nat → Nat → Nat) (tt kk vv : Nat → Nat) : ∃ e : va_E, (x11L ci h0 a u)[x11I.getD 4 0]? = some (mw_a (x11E D ci h0 a u tt kk vv) 4, e) ∧ ∀ H : Heap, va_at D vwCl (mw_a (x11E D ci h0 a u tt kk vv) 4, e) H → va_at D vwCl (mw_a (x11E D ci h0 a u tt kk vv) 4, mw_cel (x11E D ci h0 a u tt kk vv) s0X 4 (shX 4)) H := ⟨_, rfl, fun H h => gq_at (fun j hj => by match j, hj with | 0, _ => rfl | 1, _ => rfl | 2, _ => rfl | 3, _ => rfl | 4, _ => rfl | 5, _ => rfl | 6, _ => rfl | 7, _ => rfl) h⟩
theorem x11_5 (D : va_G) (ci : Nat → ClassId) (h0 : Nat) (a : Nat → Nat) (u : Nat → Nat → Nat) (tt kk vv : Nat → Nat) : ∃ e : va_E, (x11L ci h0 a u)[x11I.getD 5 0]? = some (mw_a (x11E D ci h0 a u tt kk vv) 5, e) ∧ ∀ H : Heap, va_at D vwCl (mw_a (x11E D ci h0 a u tt kk vv) 5, e) H → va_at D vwCl (mw_a (x11E D ci h0 a u tt kk vv) 5, mw_cel (x11E D ci h0 a u tt kk vv) s0X 5 (shX 5)) H := ⟨_, rfl, fun H h => gq_at (fun j hj => by match j, hj with | 0, _ => rfl | 1, _ => rfl | 2, _ => rfl | 3, _ => rfl | 4, _ => rfl | 5, _ => rfl | 6, _ => rfl | 7, _ => rfl) h⟩
theorem x11_6 (D : va_G) (ci : Nat → ClassId) (h0 : Nat) (a : Nat → Nat) (u : Nat → Nat → Nat) (tt kk vv : Nat → Nat) : ∃ e : va_E, (x11L ci h0 a u)[x11I.getD 6 0]? = some (mw_a (x11E D ci h0 a u tt kk vv) 6, e) ∧ ∀ H : Heap, va_at D vwCl (mw_a (x11E D ci h0 a u tt kk vv) 6, e) H → va_at D vwCl (mw_a (x11E D ci h0 a u tt kk vv) 6, mw_cel (x11E D ci h0 a u tt kk vv) s0X 6 (shX 6)) H := ⟨_, rfl, fun H h => h⟩
theorem x11_7 (D : va_G) (ci : Nat → ClassId) (h0 : Nat) (a : Nat → Nat) (u : Nat → Nat → Nat) (tt kk vv : Nat → Nat) : ∃ e : va_E, (x11L ci h0 a u)[x11I.getD 7 0]? = some (mw_a (x11E D ci h0 a u tt kk vv) 7, e) ∧ ∀ H : Heap, va_at D vwCl (mw_a (x11E D ci h0 a u tt kk vv) 7, e) H → va_at D vwCl (mw_a (x11E D ci h0 a u tt kk vv) 7, mw_cel (x11E D ci h0 a u tt kk vv) s0X 7 (shX 7)) H := ⟨_, rfl, fun H h => h⟩
theorem x11_8 (D : va_G) (ci : Nat → ClassId) (h0 : Nat) (a : Nat → Nat) (u : Nat → Nat → Nat) (tt kk vv : Nat → Nat) : ∃ e : va_E, (x11L ci h0 a u)[x11I.getD 8 0]? = some (mw_a (x11E D ci h0 a u tt kk vv) 8, e) ∧ ∀ H : Heap, va_at D vwCl (mw_a (x11E D ci h0 a u tt kk vv) 8, e) H → va_at D vwCl (mw_a (x11E D ci h0 a u tt kk vv) 8, mw_cel (x11E D ci h0 a u tt kk vv) s0X 8 (shX 8)) H := ⟨_, rfl, fun H h => h⟩
theorem x11_9 (D : va_G) (ci : Nat → ClassId) (h0 : Nat) (a : Nat → Nat) (u : Nat → Nat → Nat) (tt kk vv : Nat → Nat) : ∃ e : va_E, (x11L ci h0 a u)[x11I.getD 9 0]? = some (mw_a (x11E D ci h0 a u tt kk vv) 9, e) ∧ ∀ H : Heap, va_at D vwCl (mw_a (x11E D ci h0 a u tt kk vv) 9, e) H → va_at D vwCl (mw_a (x11E D ci h0 a u tt kk vv) 9, mw_cel (x11E D ci h0 a u tt kk vv) s0X 9 (shX 9)) H := ⟨_, rfl, fun H h => h⟩
theorem x11_10 (D : va_G) (ci : Nat → ClassId) (h0 : Nat) (a : Nat → Nat) (u : Nat → Nat → Nat) (tt kk vv : Nat → Nat) : ∃ e : va_E, (x11L ci h0 a u)[x11I.getD 10 0]? = some (mw_a (x11E D ci h0 a u tt kk vv) 10, e) ∧ ∀ H : Heap, va_at D vwCl (mw_a (x11E D ci h0 a u tt kk vv) 10, e) H → va_at D vwCl (mw_a (x11E D ci h0 a u tt kk vv) 10, mw_cel (x11E D ci h0 a u tt kk vv) s0X 10 (shX 10)) H := ⟨_, rfl, fun H h => h⟩
theorem x11_11 (D : va_G) (ci : Nat → ClassId) (h0 : Nat) (a : Nat → Nat) (u : Nat → Nat → Nat) (tt kk vv : Nat → Nat) : ∃ e : va_E, (x11L ci h0 a u)[x11I.getD 11 0]? = some (mw_a (x11E D ci h0 a u tt kk vv) 11, e) ∧ ∀ H : Heap, va_at D vwCl (mw_a (x11E D ci h0 a u tt kk vv) 11, e) H → va_at D vwCl (mw_a (x11E D ci h0 a u tt kk vv) 11, mw_cel (x11E D ci h0 a u tt kk vv) s0X 11 (shX 11)) H := ⟨_, rfl, fun H h => h⟩
theorem x11_12 (D : va_G) (ci : Nat → ClassId) (h0 : Nat) (a : Nat → Nat) (u : Nat → Nat → Nat) (tt kk vv : Nat → Nat) : ∃ e : va_E, (x11L ci h0 a u)[x11I.getD 12 0]? = some (mw_a (x11E D ci h0 a u tt kk vv) 12, e) ∧ ∀ H : Heap, va_at D vwCl (mw_a (x11E D ci h0 a u tt kk vv) 12, e) H → va_at D vwCl (mw_a (x11E D ci h0 a u tt kk vv) 12, mw_cel (x11E D ci h0 a u tt kk vv) s0X 12 (shX 12)) H := ⟨_, rfl, fun H h => h⟩
theorem x11_13 (D : va_G) (ci : Nat → ClassId) (h0 : Nat) (a : Nat → Nat) (u : Nat → Nat → Nat) (tt kk vv : Nat → Nat) : ∃ e : va_E, (x11L ci h0 a u)[x11I.getD 13 0]? = some (mw_a (x11E D ci h0 a u tt kk vv) 13, e) ∧ ∀ H : Heap, va_at D vwCl (mw_a (x11E D ci h0 a u tt kk vv) 13, e) H → va_at D vwCl (mw_a (x11E D ci h0 a u tt kk vv) 13, mw_cel (x11E D ci h0 a u tt kk vv) s0X 13 (shX 13)) H := ⟨_, rfl, fun H h => h⟩
theorem x11_14 (D : va_G) (ci : Nat → ClassId) (h0 : Nat) (a : Nat → Nat) (u : Nat → Nat → Nat) (tt kk vv : Nat → Nat) : ∃ e : va_E, (x11L ci h0 a u)[x11I.getD 14 0]? = some (mw_a (x11E D ci h0 a u tt kk vv) 14, e) ∧ ∀ H : Heap, va_at D vwCl (mw_a (x11E D ci h0 a u tt kk vv) 14, e) H → va_at D vwCl (mw_a (x11E D ci h0 a u tt kk vv) 14, mw_cel (x11E D ci h0 a u tt kk vv) s0X 14 (shX 14)) H := ⟨_, rfl, fun H h => h⟩
theorem x11_15 (D : va_G) (ci : Nat → ClassId) (h0 : Nat) (a : Nat → Nat) (u : Nat → Nat → Nat) (tt kk vv : Nat → Nat) : ∃ e : va_E, (x11L ci h0 a u)[x11I.getD 15 0]? = some (mw_a (x11E D ci h0 a u tt kk vv) 15, e) ∧ ∀ H : Heap, va_at D vwCl (mw_a (x11E D ci h0 a u tt kk vv) 15, e) H → va_at D vwCl (mw_a (x11E D ci h0 a u tt kk vv) 15, mw_cel (x11E D ci h0 a u tt kk vv) s0X 15 (shX 15)) H := ⟨_, rfl, fun H h => h⟩
theorem x11_16 (D : va_G) (ci : Nat → ClassId) (h0 : Nat) (a : Nat → Nat) (u : Nat → Nat → Nat) (tt kk vv : Nat → Nat) : ∃ e : va_E, (x11L ci h0 a u)[x11I.getD 16 0]? = some (mw_a (x11E D ci h0 a u tt kk vv) 16, e) ∧ ∀ H : Heap, va_at D vwCl (mw_a (x11E D ci h0 a u tt kk vv) 16, e) H → va_at D vwCl (mw_a (x11E D ci h0 a u tt kk vv) 16, mw_cel (x11E D ci h0 a u tt kk vv) s0X 16 (shX 16)) H := ⟨_, rfl, fun H h => h⟩
theorem x11_17 (D : va_G) (ci : Nat → ClassId) (h0 : Nat) (a : Nat → Nat) (u : Nat → Nat → Nat) (tt kk vv : Nat → Nat) : ∃ e : va_E, (x11L ci h0 a u)[x11I.getD 17 0]? = some (mw_a (x11E D ci h0 a u tt kk vv) 17, e) ∧ ∀ H : Heap, va_at D vwCl (mw_a (x11E D ci h0 a u tt kk vv) 17, e) H → va_at D vwCl (mw_a (x11E D ci h0 a u tt kk vv) 17, mw_cel (x11E D ci h0 a u tt kk vv) s0X 17 (shX 17)) H := ⟨_, rfl, fun H h => h⟩
theorem x11_18 (D : va_G) (ci : Nat → ClassId) (h0 : Nat) (a : Nat → Nat) (u : Nat → Nat → Nat) (tt kk vv : Nat → Nat) : ∃ e : va_E, (x11L ci h0 a u)[x11I.getD 18 0]? = some (mw_a (x11E D ci h0 a u tt kk vv) 18, e) ∧ ∀ H : Heap, va_at D vwCl (mw_a (x11E D ci h0 a u tt kk vv) 18, e) H → va_at D vwCl (mw_a (x11E D ci h0 a u tt kk vv) 18, mw_cel (x11E D ci h0 a u tt kk vv) s0X 18 (shX 18)) H := ⟨_, rfl, fun H h => h⟩
theorem x11_19 (D : va_G) (ci : Nat → ClassId) (h0 : Nat) (a : Nat → Nat) (u : Nat → Nat → Nat) (tt kk vv : Nat → Nat) : ∃ e : va_E, (x11L ci h0 a u)[x11I.getD 19 0]? = some (mw_a (x11E D ci h0 a u tt kk vv) 19, e) ∧ ∀ H : Heap, va_at D vwCl (mw_a (x11E D ci h0 a u tt kk vv) 19, e) H → va_at D vwCl (mw_a (x11E D ci h0 a u tt kk vv) 19, mw_cel (x11E D ci h0 a u tt kk vv) s0X 19 (shX 19)) H := ⟨_, rfl, fun H h => h⟩
theorem x11_20 (D : va_G) (ci : Nat → ClassId) (h0 : Nat) (a : Nat → Nat) (u : Nat → Nat → Nat) (tt kk vv : Nat → Nat) : ∃ e : va_E, (x11L ci h0 a u)[x11I.getD 20 0]? = some (mw_a (x11E D ci h0 a u tt kk vv) 20, e) ∧ ∀ H : Heap, va_at D vwCl (mw_a (x11E D ci h0 a u tt kk vv) 20, e) H → va_at D vwCl (mw_a (x11E D ci h0 a u tt kk vv) 20, mw_cel (x11E D ci h0 a u tt kk vv) s0X 20 (shX 20)) H := ⟨_, rfl, fun H h => h⟩
theorem x11_21 (D : va_G) (ci : Nat → ClassId) (h0 : Nat) (a : Nat → Nat) (u : Nat → Nat → Nat) (tt kk vv : Nat → Nat) : ∃ e : va_E, (x11L ci h0 a u)[x11I.getD 21 0]? = some (mw_a (x11E D ci h0 a u tt kk vv) 21, e) ∧ ∀ H : Heap, va_at D vwCl (mw_a (x11E D ci h0 a u tt kk vv) 21, e) H → va_at D vwCl (mw_a (x11E D ci h0 a u tt kk vv) 21, mw_cel (x11E D ci h0 a u tt kk vv) s0X 21 (shX 21)) H := ⟨_, rfl, fun H h => h⟩
theorem x11_22 (D : va_G) (ci : Nat → ClassId) (h0 : Nat) (a : Nat → Nat) (u : Nat → Nat → Nat) (tt kk vv : Nat → Nat) : ∃ e : va_E, (x11L ci h0 a u)[x11I.getD 22 0]? = some (mw_a (x11E D ci h0 a u tt kk vv) 22, e) ∧ ∀ H : Heap, va_at D vwCl (mw_a (x11E D ci h0 a u tt kk vv) 22, e) H → va_at D vwCl (mw_a (x11E D ci h0 a u tt kk vv) 22, mw_cel (x11E D ci h0 a u tt kk vv) s0X 22 (shX 22)) H := ⟨_, rfl, fun H h => h⟩
theorem x11_23 (D : va_G) (ci : Nat → ClassId) (h0 : Nat) (a : Nat → Nat) (u : Nat → Nat → Nat) (tt kk vv : Nat → Nat) : ∃ e : va_E, (x11L ci h0 a u)[x11I.getD 23 0]? = some (mw_a (x11E D ci h0 a u tt kk vv) 23, e) ∧ ∀ H : Heap, va_at D vwCl (mw_a (x11E D ci h0 a u tt kk vv) 23, e) H → va_at D vwCl (mw_a (x11E D ci h0 a u tt kk vv) 23, mw_cel (x11E D ci h0 a u tt kk vv) s0X 23 (shX 23)) H := ⟨_, rfl, fun H h => h⟩
theorem x11_24 (D : va_G) (ci : Nat → ClassId) (h0 : Nat) (a : Nat → Nat) (u : Nat → Nat → Nat) (tt kk vv : Nat → Nat) : ∃ e : va_E, (x11L ci h0 a u)[x11I.getD 24 0]? = some (mw_a (x11E D ci h0 a u tt kk vv) 24, e) ∧ ∀ H : Heap, va_at D vwCl (mw_a (x11E D ci h0 a u tt kk vv) 24, e) H → va_at D vwCl (mw_a (x11E D ci h0 a u tt kk vv) 24, mw_cel (x11E D ci h0 a u tt kk vv) s0X 24 (shX 24)) H := ⟨_, rfl, fun H h => h⟩
theorem x11_25 (D : va_G) (ci : Nat → ClassId) (h0 : Nat) (a : Nat → Nat) (u : Nat → Nat → Nat) (tt kk vv : Nat → Nat) : ∃ e : va_E, (x11L ci h0 a u)[x11I.getD 25 0]? = some (mw_a (x11E D ci h0 a u tt kk vv) 25, e) ∧ ∀ H : Heap, va_at D vwCl (mw_a (x11E D ci h0 a u tt kk vv) 25, e) H → va_at D vwCl (mw_a (x11E D ci h0 a u tt kk vv) 25, mw_cel (x11E D ci h0 a u tt kk vv) s0X 25 (shX 25)) H := ⟨_, rfl, fun H h => h⟩
theorem x11_26 (D : va_G) (ci : Nat → ClassId) (h0 : Nat) (a : Nat → Nat) (u : Nat → Nat → Nat) (tt kk vv : Nat → Nat) : ∃ e : va_E, (x11L ci h0 a u)[x11I.getD 26 0]? = some (mw_a (x11E D ci h0 a u tt kk vv) 26, e) ∧ ∀ H : Heap, va_at D vwCl (mw_a (x11E D ci h0 a u tt kk vv) 26, e) H → va_at D vwCl (mw_a (x11E D ci h0 a u tt kk vv) 26, mw_cel (x11E D ci h0 a u tt kk vv) s0X 26 (shX 26)) H := ⟨_, rfl, fun H h => h⟩
theorem x11_27 (D : va_G) (ci : Nat → ClassId) (h0 : Nat) (a : Nat → Nat) (u : Nat → Nat → Nat) (tt kk vv : Nat → Nat) : ∃ e : va_E, (x11L ci h0 a u)[x11I.getD 27 0]? = some (mw_a (x11E D ci h0 a u tt kk vv) 27, e) ∧ ∀ H : Heap, va_at D vwCl (mw_a (x11E D ci h0 a u tt kk vv) 27, e) H → va_at D vwCl (mw_a (x11E D ci h0 a u tt kk vv) 27, mw_cel (x11E D ci h0 a u tt kk vv) s0X 27 (shX 27)) H := ⟨_, rfl, fun H h => h⟩
theorem x11_28 (D : va_G) (ci : Nat → ClassId) (h0 : Nat) (a : Nat → Nat) (u : Nat → Nat → Nat) (tt kk vv : Nat → Nat) : ∃ e : va_E, (x11L ci h0 a u)[x11I.getD 28 0]? = some (mw_a (x11E D ci h0 a u tt kk vv) 28, e) ∧ ∀ H : Heap, va_at D vwCl (mw_a (x11E D ci h0 a u tt kk vv) 28, e) H → va_at D vwCl (mw_a (x11E D ci h0 a u tt kk vv) 28, mw_cel (x11E D ci h0 a u tt kk vv) s0X 28 (shX 28)) H := ⟨_, rfl, fun H h => h⟩
theorem x11_29 (D : va_G) (ci : Nat → ClassId) (h0 : Nat) (a : Nat → Nat) (u : Nat → Nat → Nat) (tt kk vv : Nat → Nat) : ∃ e : va_E, (x11L ci h0 a u)[x11I.getD 29 0]? = some (mw_a (x11E D ci h0 a u tt kk vv) 29, e) ∧ ∀ H : Heap, va_at D vwCl (mw_a (x11E D ci h0 a u tt kk vv) 29, e) H → va_at D vwCl (mw_a (x11E D ci h0 a u tt kk vv) 29, mw_cel (x11E D ci h0 a u tt kk vv) s0X 29 (shX 29)) H := ⟨_, rfl, fun H h => h⟩
theorem x11_30 (D : va_G) (ci : Nat → ClassId) (h0 : Nat) (a : Nat → Nat) (u : Nat → Nat → Nat) (tt kk vv : Nat → Nat) : ∃ e : va_E, (x11L ci h0 a u)[x11I.getD 30 0]? = some (mw_a (x11E D ci h0 a u tt kk vv) 30, e) ∧ ∀ H : Heap, va_at D vwCl (mw_a (x11E D ci h0 a u tt kk vv) 30, e) H → va_at D vwCl (mw_a (x11E D ci h0 a u tt kk vv) 30, mw_cel (x11E D ci h0 a u tt kk vv) s0X 30 (shX 30)) H := ⟨_, rfl, fun H h => h⟩
theorem x11_31 (D : va_G) (ci : Nat → ClassId) (h0 : Nat) (a : Nat → Nat) (u : Nat → Nat → Nat) (tt kk vv : Nat → Nat) : ∃ e : va_E, (x11L ci h0 a u)[x11I.getD 31 0]? = some (mw_a (x11E D ci h0 a u tt kk vv) 31, e) ∧ ∀ H : Heap, va_at D vwCl (mw_a (x11E D ci h0 a u tt kk vv) 31, e) H → va_at D vwCl (mw_a (x11E D ci h0 a u tt kk vv) 31, mw_cel (x11E D ci h0 a u tt kk vv) s0X 31 (shX 31)) H := ⟨_, rfl, fun H h => h⟩
theorem x11_32 (D : va_G) (ci : Nat → ClassId) (h0 : Nat) (a : Nat → Nat) (u : Nat → Nat → Nat) (tt kk vv : Nat → Nat) : ∃ e : va_E, (x11L ci h0 a u)[x11I.getD 32 0]? = some (mw_a (x11E D ci h0 a u tt kk vv) 32, e) ∧ ∀ H : Heap, va_at D vwCl (mw_a (x11E D ci h0 a u tt kk vv) 32, e) H → va_at D vwCl (mw_a (x11E D ci h0 a u tt kk vv) 32, mw_cel (x11E D ci h0 a u tt kk vv) s0X 32 (shX 32)) H := ⟨_, rfl, fun H h => h⟩
theorem x11_33 (D : va_G) (ci : Nat → ClassId) (h0 : Nat) (a : Nat → Nat) (u : Nat → Nat → Nat) (tt kk vv : Nat → Nat) : ∃ e : va_E, (x11L ci h0 a u)[x11I.getD 33 0]? = some (mw_a (x11E D ci h0 a u tt kk vv) 33, e) ∧ ∀ H : Heap, va_at D vwCl (mw_a (x11E D ci h0 a u tt kk vv) 33, e) H → va_at D vwCl (mw_a (x11E D ci h0 a u tt kk vv) 33, mw_cel (x11E D ci h0 a u tt kk vv) s0X 33 (shX 33)) H := ⟨_, rfl, fun H h => h⟩
theorem x11_34 (D : va_G) (ci : Nat → ClassId) (h0 : Nat) (a : Nat → Nat) (u : Nat → Nat → Nat) (tt kk vv : Nat → Nat) : ∃ e : va_E, (x11L ci h0 a u)[x11I.getD 34 0]? = some (mw_a (x11E D ci h0 a u tt kk vv) 34, e) ∧ ∀ H : Heap, va_at D vwCl (mw_a (x11E D ci h0 a u tt kk vv) 34, e) H → va_at D vwCl (mw_a (x11E D ci h0 a u tt kk vv) 34, mw_cel (x11E D ci h0 a u tt kk vv) s0X 34 (shX 34)) H := ⟨_, rfl, fun H h => h⟩
theorem x11_35 (D : va_G) (ci : Nat → ClassId) (h0 : Nat) (a : Nat → Nat) (u : Nat → Nat → Nat) (tt kk vv : Nat → Nat) : ∃ e : va_E, (x11L ci h0 a u)[x11I.getD 35 0]? = some (mw_a (x11E D ci h0 a u tt kk vv) 35, e) ∧ ∀ H : Heap, va_at D vwCl (mw_a (x11E D ci h0 a u tt kk vv) 35, e) H → va_at D vwCl (mw_a (x11E D ci h0 a u tt kk vv) 35, mw_cel (x11E D ci h0 a u tt kk vv) s0X 35 (shX 35)) H := ⟨_, rfl, fun H h => h⟩
theorem x11_36 (D : va_G) (ci : Nat → ClassId) (h0 : Nat) (a : Nat → Nat) (u : Nat → Nat → Nat) (tt kk vv : Nat → Nat) : ∃ e : va_E, (x11L ci h0 a u)[x11I.getD 36 0]? = some (mw_a (x11E D ci h0 a u tt kk vv) 36, e) ∧ ∀ H : Heap, va_at D vwCl (mw_a (x11E D ci h0 a u tt kk vv) 36, e) H → va_at D vwCl (mw_a (x11E D ci h0 a u tt kk vv) 36, mw_cel (x11E D ci h0 a u tt kk vv) s0X 36 (shX 36)) H := ⟨_, rfl, fun H h => h⟩
theorem x11_37 (D : va_G) (ci : Nat → ClassId) (h0 : Nat) (a : Nat → Nat) (u : Nat → Nat → Nat) (tt kk vv : Nat → Nat) : ∃ e : va_E, (x11L ci h0 a u)[x11I.getD 37 0]? = some (mw_a (x11E D ci h0 a u tt kk vv) 37, e) ∧ ∀ H : Heap, va_at D vwCl (mw_a (x11E D ci h0 a u tt kk vv) 37, e) H → va_at D vwCl (mw_a (x11E D ci h0 a u tt kk vv) 37, mw_cel (x11E D ci h0 a u tt kk vv) s0X 37 (shX 37)) H := ⟨_, rfl, fun H h => h⟩
theorem x11_38 (D : va_G) (ci : Nat → ClassId) (h0 : Nat) (a : Nat → Nat) (u : Nat → Nat → Nat) (tt kk vv : Nat → Nat) : ∃ e : va_E, (x11L ci h0 a u)[x11I.getD 38 0]? = some (mw_a (x11E D ci h0 a u tt kk vv) 38, e) ∧ ∀ H : Heap, va_at D vwCl (mw_a (x11E D ci h0 a u tt kk vv) 38, e) H → va_at D vwCl (mw_a (x11E D ci h0 a u tt kk vv) 38, mw_cel (x11E D ci h0 a u tt kk vv) s0X 38 (shX 38)) H := ⟨_, rfl, fun H h => gq_at (fun j hj => by match j, hj with | 0, _ => rfl | 1, _ => rfl | 2, _ => rfl | 3, _ => rfl | 4, _ => rfl | 5, _ => rfl) h⟩
theorem x11_39 (D : va_G) (ci : Nat → ClassId) (h0 : Nat) (a : Nat → Nat) (u : Nat → Nat → Nat) (tt kk vv : Nat → Nat) : ∃ e : va_E, (x11L ci h0 a u)[x11I.getD 39 0]? = some (mw_a (x11E D ci h0 a u tt kk vv) 39, e) ∧ ∀ H : Heap, va_at D vwCl (mw_a (x11E D ci h0 a u tt kk vv) 39, e) H → va_at D vwCl (mw_a (x11E D ci h0 a u tt kk vv) 39, mw_cel (x11E D ci h0 a u tt kk vv) s0X 39 (shX 39)) H := ⟨_, rfl, fun H h => h⟩
theorem x11_40 (D : va_G) (ci : Nat → ClassId) (h0 : Nat) (a : Nat → Nat) (u : Nat → Nat → Nat) (tt kk vv : Nat → Nat) : ∃ e : va_E, (x11L ci h0 a u)[x11I.getD 40 0]? = some (mw_a (x11E D ci h0 a u tt kk vv) 40, e) ∧ ∀ H : Heap, va_at D vwCl (mw_a (x11E D ci h0 a u tt kk vv) 40, e) H → va_at D vwCl (mw_a (x11E D ci h0 a u tt kk vv) 40, mw_cel (x11E D ci h0 a u tt kk vv) s0X 40 (shX 40)) H := ⟨_, rfl, fun H h => h⟩
theorem x11_41 (D : va_G) (ci : Nat → ClassId) (h0 : Nat) (a : Nat → Nat) (u : Nat → Nat → Nat) (tt kk vv : Nat → Nat) : ∃ e : va_E, (x11L ci h0 a u)[x11I.getD 41 0]? = some (mw_a (x11E D ci h0 a u tt kk vv) 41, e) ∧ ∀ H : Heap, va_at D vwCl (mw_a (x11E D ci h0 a u tt kk vv) 41, e) H → va_at D vwCl (mw_a (x11E D ci h0 a u tt kk vv) 41, mw_cel (x11E D ci h0 a u tt kk vv) s0X 41 (shX 41)) H := ⟨_, rfl, fun H h => h⟩
theorem x11_42 (D : va_G) (ci : Nat → ClassId) (h0 : Nat) (a : Nat → Nat) (u : Nat → Nat → Nat) (tt kk vv : Nat → Nat) : ∃ e : va_E, (x11L ci h0 a u)[x11I.getD 42 0]? = some (mw_a (x11E D ci h0 a u tt kk vv) 42, e) ∧ ∀ H : Heap, va_at D vwCl (mw_a (x11E D ci h0 a u tt kk vv) 42, e) H → va_at D vwCl (mw_a (x11E D ci h0 a u tt kk vv) 42, mw_cel (x11E D ci h0 a u tt kk vv) s0X 42 (shX 42)) H := ⟨_, rfl, fun H h => h⟩
theorem x11_43 (D : va_G) (ci : Nat → ClassId) (h0 : Nat) (a : Nat → Nat) (u : Nat → Nat → Nat) (tt kk vv : Nat → Nat) : ∃ e : va_E, (x11L ci h0 a u)[x11I.getD 43 0]? = some (mw_a (x11E D ci h0 a u tt kk vv) 43, e) ∧ ∀ H : Heap, va_at D vwCl (mw_a (x11E D ci h0 a u tt kk vv) 43, e) H → va_at D vwCl (mw_a (x11E D ci h0 a u tt kk vv) 43, mw_cel (x11E D ci h0 a u tt kk vv) s0X 43 (shX 43)) H := ⟨_, rfl, fun H h => h⟩
theorem x11_44 (D : va_G) (ci : Nat → ClassId) (h0 : Nat) (a : Nat → Nat) (u : Nat → Nat → Nat) (tt kk vv : Nat → Nat) : ∃ e : va_E, (x11L ci h0 a u)[x11I.getD 44 0]? = some (mw_a (x11E D ci h0 a u tt kk vv) 44, e) ∧ ∀ H : Heap, va_at D vwCl (mw_a (x11E D ci h0 a u tt kk vv) 44, e) H → va_at D vwCl (mw_a (x11E D ci h0 a u tt kk vv) 44, mw_cel (x11E D ci h0 a u tt kk vv) s0X 44 (shX 44)) H := ⟨_, rfl, fun H h => h⟩
theorem x11_45 (D : va_G) (ci : Nat → ClassId) (h0 : Nat) (a : Nat → Nat) (u : Nat → Nat → Nat) (tt kk vv : Nat → Nat) : ∃ e : va_E, (x11L ci h0 a u)[x11I.getD 45 0]? = some (mw_a (x11E D ci h0 a u tt kk vv) 45, e) ∧ ∀ H : Heap, va_at D vwCl (mw_a (x11E D ci h0 a u tt kk vv) 45, e) H → va_at D vwCl (mw_a (x11E D ci h0 a u tt kk vv) 45, mw_cel (x11E D ci h0 a u tt kk vv) s0X 45 (shX 45)) H := ⟨_, rfl, fun H h => h⟩
theorem x11_46 (D : va_G) (ci : Nat → ClassId) (h0 : Nat) (a : Nat → Nat) (u : Nat → Nat → Nat) (tt kk vv : Nat → Nat) : ∃ e : va_E, (x11L ci h0 a u)[x11I.getD 46 0]? = some (mw_a (x11E D ci h0 a u tt kk vv) 46, e) ∧ ∀ H : Heap, va_at D vwCl (mw_a (x11E D ci h0 a u tt kk vv) 46, e) H → va_at D vwCl (mw_a (x11E D ci h0 a u tt kk vv) 46, mw_cel (x11E D ci h0 a u tt kk vv) s0X 46 (shX 46)) H := ⟨_, rfl, fun H h => h⟩
theorem x11_47 (D : va_G) (ci : Nat → ClassId) (h0 : Nat) (a : Nat → Nat) (u : Nat → Nat → Nat) (tt kk vv : Nat → Nat) : ∃ e : va_E, (x11L ci h0 a u)[x11I.getD 47 0]? = some (mw_a (x11E D ci h0 a u tt kk vv) 47, e) ∧ ∀ H : Heap, va_at D vwCl (mw_a (x11E D ci h0 a u tt kk vv) 47, e) H → va_at D vwCl (mw_a (x11E D ci h0 a u tt kk vv) 47, mw_cel (x11E D ci h0 a u tt kk vv) s0X 47 (shX 47)) H := ⟨_, rfl, fun H h => h⟩
theorem x11_48 (D : va_G) (ci : Nat → ClassId) (h0 : Nat) (a : Nat → Nat) (u : Nat → Nat → Nat) (tt kk vv : Nat → Nat) : ∃ e : va_E, (x11L ci h0 a u)[x11I.getD 48 0]? = some (mw_a (x11E D ci h0 a u tt kk vv) 48, e) ∧ ∀ H : Heap, va_at D vwCl (mw_a (x11E D ci h0 a u tt kk vv) 48, e) H → va_at D vwCl (mw_a (x11E D ci h0 a u tt kk vv) 48, mw_cel (x11E D ci h0 a u tt kk vv) s0X 48 (shX 48)) H := ⟨_, rfl, fun H h => h⟩
theorem x11_49 (D : va_G) (ci : Nat → ClassId) (h0 : Nat) (a : Nat → Nat) (u : Nat → Nat → Nat) (tt kk vv : Nat → Nat) : ∃ e : va_E, (x11L ci h0 a u)[x11I.getD 49 0]? = some (mw_a (x11E D ci h0 a u tt kk vv) 49, e) ∧ ∀ H : Heap, va_at D vwCl (mw_a (x11E D ci h0 a u tt kk vv) 49, e) H → va_at D vwCl (mw_a (x11E D ci h0 a u tt kk vv) 49, mw_cel (x11E D ci h0 a u tt kk vv) s0X 49 (shX 49)) H := ⟨_, rfl, fun H h => h⟩
theorem x11_50 (D : va_G) (ci : Nat → ClassId) (h0 : Nat) (a : Nat → Nat) (u : Nat → Nat → Nat) (tt kk vv : Nat → Nat) : ∃ e : va_E, (x11L ci h0 a u)[x11I.getD 50 0]? = some (mw_a (x11E D ci h0 a u tt kk vv) 50, e) ∧ ∀ H : Heap, va_at D vwCl (mw_a (x11E D ci h0 a u tt kk vv) 50, e) H → va_at D vwCl (mw_a (x11E D ci h0 a u tt kk vv) 50, mw_cel (x11E D ci h0 a u tt kk vv) s0X 50 (shX 50)) H := ⟨_, rfl, fun H h => h⟩
theorem x11_51 (D : va_G) (ci : Nat → ClassId) (h0 : Nat) (a : Nat → Nat) (u : Nat → Nat → Nat) (tt kk vv : Nat → Nat) : ∃ e : va_E, (x11L ci h0 a u)[x11I.getD 51 0]? = some (mw_a (x11E D ci h0 a u tt kk vv) 51, e) ∧ ∀ H : Heap, va_at D vwCl (mw_a (x11E D ci h0 a u tt kk vv) 51, e) H → va_at D vwCl (mw_a (x11E D ci h0 a u tt kk vv) 51, mw_cel (x11E D ci h0 a u tt kk vv) s0X 51 (shX 51)) H := ⟨_, rfl, fun H h => h⟩
theorem x11_52 (D : va_G) (ci : Nat → ClassId) (h0 : Nat) (a : Nat → Nat) (u : Nat → Nat → Nat) (tt kk vv : Nat → Nat) : ∃ e : va_E, (x11L ci h0 a u)[x11I.getD 52 0]? = some (mw_a (x11E D ci h0 a u tt kk vv) 52, e) ∧ ∀ H : Heap, va_at D vwCl (mw_a (x11E D ci h0 a u tt kk vv) 52, e) H → va_at D vwCl (mw_a (x11E D ci h0 a u tt kk vv) 52, mw_cel (x11E D ci h0 a u tt kk vv) s0X 52 (shX 52)) H := ⟨_, rfl, fun H h => h⟩
theorem x11_53 (D : va_G) (ci : Nat → ClassId) (h0 : Nat) (a : Nat → Nat) (u : Nat → Nat → Nat) (tt kk vv : Nat → Nat) : ∃ e : va_E, (x11L ci h0 a u)[x11I.getD 53 0]? = some (mw_a (x11E D ci h0 a u tt kk vv) 53, e) ∧ ∀ H : Heap, va_at D vwCl (mw_a (x11E D ci h0 a u tt kk vv) 53, e) H → va_at D vwCl (mw_a (x11E D ci h0 a u tt kk vv) 53, mw_cel (x11E D ci h0 a u tt kk vv) s0X 53 (shX 53)) H := ⟨_, rfl, fun H h => h⟩
theorem x11_54 (D : va_G) (ci : Nat → ClassId) (h0 : Nat) (a : Nat → Nat) (u : Nat → Nat → Nat) (tt kk vv : Nat → Nat) : ∃ e : va_E, (x11L ci h0 a u)[x11I.getD 54 0]? = some (mw_a (x11E D ci h0 a u tt kk vv) 54, e) ∧ ∀ H : Heap, va_at D vwCl (mw_a (x11E D ci h0 a u tt kk vv) 54, e) H → va_at D vwCl (mw_a (x11E D ci h0 a u tt kk vv) 54, mw_cel (x11E D ci h0 a u tt kk vv) s0X 54 (shX 54)) H := ⟨_, rfl, fun H h => h⟩
theorem x11_55 (D : va_G) (ci : Nat → ClassId) (h0 : Nat) (a : Nat → Nat) (u : Nat → Nat → Nat) (tt kk vv : Nat → Nat) : ∃ e : va_E, (x11L ci h0 a u)[x11I.getD 55 0]? = some (mw_a (x11E D ci h0 a u tt kk vv) 55, e) ∧ ∀ H : Heap, va_at D vwCl (mw_a (x11E D ci h0 a u tt kk vv) 55, e) H → va_at D vwCl (mw_a (x11E D ci h0 a u tt kk vv) 55, mw_cel (x11E D ci h0 a u tt kk vv) s0X 55 (shX 55)) H := ⟨_, rfl, fun H h => h⟩
theorem x11_56 (D : va_G) (ci : Nat → ClassId) (h0 : Nat) (a : Nat → Nat) (u : Nat → Nat → Nat) (tt kk vv : Nat → Nat) : ∃ e : va_E, (x11L ci h0 a u)[x11I.getD 56 0]? = some (mw_a (x11E D ci h0 a u tt kk vv) 56, e) ∧ ∀ H : Heap, va_at D vwCl (mw_a (x11E D ci h0 a u tt kk vv) 56, e) H → va_at D vwCl (mw_a (x11E D ci h0 a u tt kk vv) 56, mw_cel (x11E D ci h0 a u tt kk vv) s0X 56 (shX 56)) H := ⟨_, rfl, fun H h => h⟩
theorem x11_57 (D : va_G) (ci : Nat → ClassId) (h0 : Nat) (a : Nat → Nat) (u : Nat → Nat → Nat) (tt kk vv : Nat → Nat) : ∃ e : va_E, (x11L ci h0 a u)[x11I.getD 57 0]? = some (mw_a (x11E D ci h0 a u tt kk vv) 57, e) ∧ ∀ H : Heap, va_at D vwCl (mw_a (x11E D ci h0 a u tt kk vv) 57, e) H → va_at D vwCl (mw_a (x11E D ci h0 a u tt kk vv) 57, mw_cel (x11E D ci h0 a u tt kk vv) s0X 57 (shX 57)) H := ⟨_, rfl, fun H h => h⟩
theorem x11_58 (D : va_G) (ci : Nat → ClassId) (h0 : Nat) (a : Nat → Nat) (u : Nat → Nat → Nat) (tt kk vv : Nat → Nat) : ∃ e : va_E, (x11L ci h0 a u)[x11I.getD 58 0]? = some (mw_a (x11E D ci h0 a u tt kk vv) 58, e) ∧ ∀ H : Heap, va_at D vwCl (mw_a (x11E D ci h0 a u tt kk vv) 58, e) H → va_at D vwCl (mw_a (x11E D ci h0 a u tt kk vv) 58, mw_cel (x11E D ci h0 a u tt kk vv) s0X 58 (shX 58)) H := ⟨_, rfl, fun H h => h⟩
theorem x11_59 (D : va_G) (ci : Nat → ClassId) (h0 : Nat) (a : Nat → Nat) (u : Nat → Nat → Nat) (tt kk vv : Nat → Nat) : ∃ e : va_E, (x11L ci h0 a u)[x11I.getD 59 0]? = some (mw_a (x11E D ci h0 a u tt kk vv) 59, e) ∧ ∀ H : Heap, va_at D vwCl (mw_a (x11E D ci h0 a u tt kk vv) 59, e) H → va_at D vwCl (mw_a (x11E D ci h0 a u tt kk vv) 59, mw_cel (x11E D ci h0 a u tt kk vv) s0X 59 (shX 59)) H := ⟨_, rfl, fun H h => h⟩
theorem x11_60 (D : va_G) (ci : Nat → ClassId) (h0 : Nat) (a : Nat → Nat) (u : Nat → Nat → Nat) (tt kk vv : Nat → Nat) : ∃ e : va_E, (x11L ci h0 a u)[x11I.getD 60 0]? = some (mw_a (x11E D ci h0 a u tt kk vv) 60, e) ∧ ∀ H : Heap, va_at D vwCl (mw_a (x11E D ci h0 a u tt kk vv) 60, e) H → va_at D vwCl (mw_a (x11E D ci h0 a u tt kk vv) 60, mw_cel (x11E D ci h0 a u tt kk vv) s0X 60 (shX 60)) H := ⟨_, rfl, fun H h => h⟩
theorem x11_61 (D : va_G) (ci : Nat → ClassId) (h0 : Nat) (a : Nat → Nat) (u : Nat → Nat → Nat) (tt kk vv : Nat → Nat) : ∃ e : va_E, (x11L ci h0 a u)[x11I.getD 61 0]? = some (mw_a (x11E D ci h0 a u tt kk vv) 61, e) ∧ ∀ H : Heap, va_at D vwCl (mw_a (x11E D ci h0 a u tt kk vv) 61, e) H → va_at D vwCl (mw_a (x11E D ci h0 a u tt kk vv) 61, mw_cel (x11E D ci h0 a u tt kk vv) s0X 61 (shX 61)) H := ⟨_, rfl, fun H h => h⟩
theorem x11_62 (D : va_G) (ci : Nat → ClassId) (h0 : Nat) (a : Nat → Nat) (u : Nat → Nat → Nat) (tt kk vv : Nat → Nat) : ∃ e : va_E, (x11L ci h0 a u)[x11I.getD 62 0]? = some (mw_a (x11E D ci h0 a u tt kk vv) 62, e) ∧ ∀ H : Heap, va_at D vwCl (mw_a (x11E D ci h0 a u tt kk vv) 62, e) H → va_at D vwCl (mw_a (x11E D ci h0 a u tt kk vv) 62, mw_cel (x11E D ci h0 a u tt kk vv) s0X 62 (shX 62)) H := ⟨_, rfl, fun H h => h⟩
theorem x11_63 (D : va_G) (ci : Nat → ClassId) (h0 : Nat) (a : Nat → Nat) (u : Nat → Nat → Nat) (tt kk vv : Nat → Nat) : ∃ e : va_E, (x11L ci h0 a u)[x11I.getD 63 0]? = some (mw_a (x11E D ci h0 a u tt kk vv) 63, e) ∧ ∀ H : Heap, va_at D vwCl (mw_a (x11E D ci h0 a u tt kk vv) 63, e) H → va_at D vwCl (mw_a (x11E D ci h0 a u tt kk vv) 63, mw_cel (x11E D ci h0 a u tt kk vv) s0X 63 (shX 63)) H := ⟨_, rfl, fun H h => h⟩
theorem x11_64 (D : va_G) (ci : Nat → ClassId) (h0 : Nat) (a : Nat → Nat) (u : Nat → Nat → Nat) (tt kk vv : Nat → Nat) : ∃ e : va_E, (x11L ci h0 a u)[x11I.getD 64 0]? = some (mw_a (x11E D ci h0 a u tt kk vv) 64, e) ∧ ∀ H : Heap, va_at D vwCl (mw_a (x11E D ci h0 a u tt kk vv) 64, e) H → va_at D vwCl (mw_a (x11E D ci h0 a u tt kk vv) 64, mw_cel (x11E D ci h0 a u tt kk vv) s0X 64 (shX 64)) H := ⟨_, rfl, fun H h => h⟩
theorem x11_65 (D : va_G) (ci : Nat → ClassId) (h0 : Nat) (a : Nat → Nat) (u : Nat → Nat → Nat) (tt kk vv : Nat → Nat) : ∃ e : va_E, (x11L ci h0 a u)[x11I.getD 65 0]? = some (mw_a (x11E D ci h0 a u tt kk vv) 65, e) ∧ ∀ H : Heap, va_at D vwCl (mw_a (x11E D ci h0 a u tt kk vv) 65, e) H → va_at D vwCl (mw_a (x11E D ci h0 a u tt kk vv) 65, mw_cel (x11E D ci h0 a u tt kk vv) s0X 65 (shX 65)) H := ⟨_, rfl, fun H h => h⟩
theorem x11_66 (D : va_G) (ci : Nat → ClassId) (h0 : Nat) (a : Nat → Nat) (u : Nat → Nat → Nat) (tt kk vv : Nat → Nat) : ∃ e : va_E, (x11L ci h0 a u)[x11I.getD 66 0]? = some (mw_a (x11E D ci h0 a u tt kk vv) 66, e) ∧ ∀ H : Heap, va_at D vwCl (mw_a (x11E D ci h0 a u tt kk vv) 66, e) H → va_at D vwCl (mw_a (x11E D ci h0 a u tt kk vv) 66, mw_cel (x11E D ci h0 a u tt kk vv) s0X 66 (shX 66)) H := ⟨_, rfl, fun H h => gq_at (fun j hj => by match j, hj with | 0, _ => rfl | 1, _ => rfl | 2, _ => rfl | 3, _ => rfl) h⟩
theorem x11_67 (D : va_G) (ci : Nat → ClassId) (h0 : Nat) (a : Nat → Nat) (u : Nat → Nat → Nat) (tt kk vv : Nat → Nat) : ∃ e : va_E, (x11L ci h0 a u)[x11I.getD 67 0]? = some (mw_a (x11E D ci h0 a u tt kk vv) 67, e) ∧ ∀ H : Heap, va_at D vwCl (mw_a (x11E D ci h0 a u tt kk vv) 67, e) H → va_at D vwCl (mw_a (x11E D ci h0 a u tt kk vv) 67, mw_cel (x11E D ci h0 a u tt kk vv) s0X 67 (shX 67)) H := ⟨_, rfl, fun H h => h⟩
theorem x11_68 (D : va_G) (ci : Nat → ClassId) (h0 : Nat) (a : Nat → Nat) (u : Nat → Nat → Nat) (tt kk vv : Nat → Nat) : ∃ e : va_E, (x11L ci h0 a u)[x11I.getD 68 0]? = some (mw_a (x11E D ci h0 a u tt kk vv) 68, e) ∧ ∀ H : Heap, va_at D vwCl (mw_a (x11E D ci h0 a u tt kk vv) 68, e) H → va_at D vwCl (mw_a (x11E D ci h0 a u tt kk vv) 68, mw_cel (x11E D ci h0 a u tt kk vv) s0X 68 (shX 68)) H := ⟨_, rfl, fun H h => h⟩
theorem x11_69 (D : va_G) (ci : Nat → ClassId) (h0 : Nat) (a : Nat → Nat) (u : Nat → Nat → Nat) (tt kk vv : Nat → Nat) : ∃ e : va_E, (x11L ci h0 a u)[x11I.getD 69 0]? = some (mw_a (x11E D ci h0 a u tt kk vv) 69, e) ∧ ∀ H : Heap, va_at D vwCl (mw_a (x11E D ci h0 a u tt kk vv) 69, e) H → va_at D vwCl (mw_a (x11E D ci h0 a u tt kk vv) 69, mw_cel (x11E D ci h0 a u tt kk vv) s0X 69 (shX 69)) H := ⟨_, rfl, fun H h => h⟩
theorem x11_70 (D : va_G) (ci : Nat → ClassId) (h0 : Nat) (a : Nat → Nat) (u : Nat → Nat → Nat) (tt kk vv : Nat → Nat) : ∃ e : va_E, (x11L ci h0 a u)[x11I.getD 70 0]? = some (mw_a (x11E D ci h0 a u tt kk vv) 70, e) ∧ ∀ H : Heap, va_at D vwCl (mw_a (x11E D ci h0 a u tt kk vv) 70, e) H → va_at D vwCl (mw_a (x11E D ci h0 a u tt kk vv) 70, mw_cel (x11E D ci h0 a u tt kk vv) s0X 70 (shX 70)) H := ⟨_, rfl, fun H h => h⟩
theorem x11_71 (D : va_G) (ci : Nat → ClassId) (h0 : Nat) (a : Nat → Nat) (u : Nat → Nat → Nat) (tt kk vv : Nat → Nat) : ∃ e : va_E, (x11L ci h0 a u)[x11I.getD 71 0]? = some (mw_a (x11E D ci h0 a u tt kk vv) 71, e) ∧ ∀ H : Heap, va_at D vwCl (mw_a (x11E D ci h0 a u tt kk vv) 71, e) H → va_at D vwCl (mw_a (x11E D ci h0 a u tt kk vv) 71, mw_cel (x11E D ci h0 a u tt kk vv) s0X 71 (shX 71)) H := ⟨_, rfl, fun H h => h⟩
theorem x11_72 (D : va_G) (ci : Nat → ClassId) (h0 : Nat) (a : Nat → Nat) (u : Nat → Nat → Nat) (tt kk vv : Nat → Nat) : ∃ e : va_E, (x11L ci h0 a u)[x11I.getD 72 0]? = some (mw_a (x11E D ci h0 a u tt kk vv) 72, e) ∧ ∀ H : Heap, va_at D vwCl (mw_a (x11E D ci h0 a u tt kk vv) 72, e) H → va_at D vwCl (mw_a (x11E D ci h0 a u tt kk vv) 72, mw_cel (x11E D ci h0 a u tt kk vv) s0X 72 (shX 72)) H := ⟨_, rfl, fun H h => h⟩
theorem x11_73 (D : va_G) (ci : Nat → ClassId) (h0 : Nat) (a : Nat → Nat) (u : Nat → Nat → Nat) (tt kk vv : Nat → Nat) : ∃ e : va_E, (x11L ci h0 a u)[x11I.getD 73 0]? = some (mw_a (x11E D ci h0 a u tt kk vv) 73, e) ∧ ∀ H : Heap, va_at D vwCl (mw_a (x11E D ci h0 a u tt kk vv) 73, e) H → va_at D vwCl (mw_a (x11E D ci h0 a u tt kk vv) 73, mw_cel (x11E D ci h0 a u tt kk vv) s0X 73 (shX 73)) H := ⟨_, rfl, fun H h => h⟩
theorem x11_74 (D : va_G) (ci : Nat → ClassId) (h0 : Nat) (a : Nat → Nat) (u : Nat → Nat → Nat) (tt kk vv : Nat → Nat) : ∃ e : va_E, (x11L ci h0 a u)[x11I.getD 74 0]? = some (mw_a (x11E D ci h0 a u tt kk vv) 74, e) ∧ ∀ H : Heap, va_at D vwCl (mw_a (x11E D ci h0 a u tt kk vv) 74, e) H → va_at D vwCl (mw_a (x11E D ci h0 a u tt kk vv) 74, mw_cel (x11E D ci h0 a u tt kk vv) s0X 74 (shX 74)) H := ⟨_, rfl, fun H h => h⟩
theorem x11_at (D : va_G) (ci : Nat → ClassId) (h0 : Nat) (a : Nat → Nat) (u : Nat → Nat → Nat) (tt kk vv : Nat → Nat) : ∀ k, k < 75 → ∃ e : va_E, (x11L ci h0 a u)[x11I.getD k 0]? = some (mw_a (x11E D ci h0 a u tt kk vv) k, e) ∧ ∀ H : Heap, va_at D vwCl (mw_a (x11E D ci h0 a u tt kk vv) k, e) H → va_at D vwCl (mw_a (x11E D ci h0 a u tt kk vv) k, mw_cel (x11E D ci h0 a u tt kk vv) s0X k (shX k)) H := fun k hk => match k, hk with
  | 0, _ => x11_0 D ci h0 a u tt kk vv
  | 1, _ => x11_1 D ci h0 a u tt kk vv
  | 2, _ => x11_2 D ci h0 a u tt kk vv
  | 3, _ => x11_3 D ci h0 a u tt kk vv
  | 4, _ => x11_4 D ci h0 a u tt kk vv
  | 5, _ => x11_5 D ci h0 a u tt kk vv
  | 6, _ => x11_6 D ci h0 a u tt kk vv
  | 7, _ => x11_7 D ci h0 a u tt kk vv
  | 8, _ => x11_8 D ci h0 a u tt kk vv
  | 9, _ => x11_9 D ci h0 a u tt kk vv
  | 10, _ => x11_10 D ci h0 a u tt kk vv
  | 11, _ => x11_11 D ci h0 a u tt kk vv
  | 12, _ => x11_12 D ci h0 a u tt kk vv
  | 13, _ => x11_13 D ci h0 a u tt kk vv
  | 14, _ => x11_14 D ci h0 a u tt kk vv
  | 15, _ => x11_15 D ci h0 a u tt kk vv
  | 16, _ => x11_16 D ci h0 a u tt kk vv
  | 17, _ => x11_17 D ci h0 a u tt kk vv
  | 18, _ => x11_18 D ci h0 a u tt kk vv
  | 19, _ => x11_19 D ci h0 a u tt kk vv
  | 20, _ => x11_20 D ci h0 a u tt kk vv
  | 21, _ => x11_21 D ci h0 a u tt kk vv
  | 22, _ => x11_22 D ci h0 a u tt kk vv
  | 23, _ => x11_23 D ci h0 a u tt kk vv
  | 24, _ => x11_24 D ci h0 a u tt kk vv
  | 25, _ => x11_25 D ci h0 a u tt kk vv
  | 26, _ => x11_26 D ci h0 a u tt kk vv
  | 27, _ => x11_27 D ci h0 a u tt kk vv
  | 28, _ => x11_28 D ci h0 a u tt kk vv
  | 29, _ => x11_29 D ci h0 a u tt kk vv
  | 30, _ => x11_30 D ci h0 a u tt kk vv
  | 31, _ => x11_31 D ci h0 a u tt kk vv
  | 32, _ => x11_32 D ci h0 a u tt kk vv
  | 33, _ => x11_33 D ci h0 a u tt kk vv
  | 34, _ => x11_34 D ci h0 a u tt kk vv
  | 35, _ => x11_35 D ci h0 a u tt kk vv
  | 36, _ => x11_36 D ci h0 a u tt kk vv
  | 37, _ => x11_37 D ci h0 a u tt kk vv
  | 38, _ => x11_38 D ci h0 a u tt kk vv
  | 39, _ => x11_39 D ci h0 a u tt kk vv
  | 40, _ => x11_40 D ci h0 a u tt kk vv
  | 41, _ => x11_41 D ci h0 a u tt kk vv
  | 42, _ => x11_42 D ci h0 a u tt kk vv
  | 43, _ => x11_43 D ci h0 a u tt kk vv
  | 44, _ => x11_44 D ci h0 a u tt kk vv
  | 45, _ => x11_45 D ci h0 a u tt kk vv
  | 46, _ => x11_46 D ci h0 a u tt kk vv
  | 47, _ => x11_47 D ci h0 a u tt kk vv
  | 48, _ => x11_48 D ci h0 a u tt kk vv
  | 49, _ => x11_49 D ci h0 a u tt kk vv
  | 50, _ => x11_50 D ci h0 a u tt kk vv
  | 51, _ => x11_51 D ci h0 a u tt kk vv
  | 52, _ => x11_52 D ci h0 a u tt kk vv
  | 53, _ => x11_53 D ci h0 a u tt kk vv
  | 54, _ => x11_54 D ci h0 a u tt kk vv
  | 55, _ => x11_55 D ci h0 a u tt kk vv
  | 56, _ => x11_56 D ci h0 a u tt kk vv
  | 57, _ => x11_57 D ci h0 a u tt kk vv
  | 58, _ => x11_58 D ci h0 a u tt kk vv
  | 59, _ => x11_59 D ci h0 a u tt kk vv
  | 60, _ => x11_60 D ci h0 a u tt kk vv
  | 61, _ => x11_61 D ci h0 a u tt kk vv
  | 62, _ => x11_62 D ci h0 a u tt kk vv
  | 63, _ => x11_63 D ci h0 a u tt kk vv
  | 64, _ => x11_64 D ci h0 a u tt kk vv
  | 65, _ => x11_65 D ci h0 a u tt kk vv
  | 66, _ => x11_66 D ci h0 a u tt kk vv
  | 67, _ => x11_67 D ci h0 a u tt kk vv
  | 68, _ => x11_68 D ci h0 a u tt kk vv
  | 69, _ => x11_69 D ci h0 a u tt kk vv
  | 70, _ => x11_70 D ci h0 a u tt kk vv
  | 71, _ => x11_71 D ci h0 a u tt kk vv
  | 72, _ => x11_72 D ci h0 a u tt kk vv
  | 73, _ => x11_73 D ci h0 a u tt kk vv
  | 74, _ => x11_74 D ci h0 a u tt kk vv
  | n + 75, h => absurd h (by omega)
theorem x11_conv {b : Nat} {D : va_G} {ci : Nat → ClassId} {h0 : Nat} {a : Nat → Nat} {u : Nat → Nat → Nat} {H : Heap} (tt kk vv : Nat → Nat) (hP : va_P D vwCl (x11L ci h0 a u) H) (hD : va_D (gA b) (x11L ci h0 a u)) : va_P D vwCl (mw_ws shX 75 (x11E D ci h0 a u tt kk vv) s0X) H ∧ mw_J 75 (x11E D ci h0 a u tt kk vv) ∧ ∀ q, mw_A 75 (x11E D ci h0 a u tt kk vv) q → gA b q := by
  refine ⟨fun k q hq => ?_, fun i j hi hj he => ?_, fun q hq => ?_⟩
  · have hk : k < 75 := by rw [← mw_len (sh := shX) (N := 75) (E := x11E D ci h0 a u tt kk vv) (σ := s0X)]; exact (List.getElem?_eq_some_iff.mp hq).1
    rw [mw_at hk] at hq
    cases hq
    obtain ⟨e, h1, h2⟩ := x11_at D ci h0 a u tt kk vv k hk
    exact h2 H (hP _ _ h1)
  · obtain ⟨e1, h1, -⟩ := x11_at D ci h0 a u tt kk vv i hi
    obtain ⟨e2, h2, -⟩ := x11_at D ci h0 a u tt kk vv j hj
    have := x11I_inj ⟨i, hi⟩ ⟨j, hj⟩ (hD.1 _ _ _ _ h1 h2 he)
    exact congrArg Fin.val this
  · obtain ⟨k, hk, rfl⟩ := hq
    obtain ⟨e, h1, -⟩ := x11_at D ci h0 a u tt kk vv k hk
    exact hD.2 _ _ h1

def fr50 : List Int32 := [101, 97, 116, 115, 32, 49, 32, 43, 32, 104, 117, 110, 103, 101, 114, 32, 60, 32, 50, 48, 32, 59, 32, 111, 100, 100, 115, 32, 54, 32, 45, 32, 103, 105, 114, 108, 32, 59, 32, 115, 112, 101, 110, 100, 115, 32, 51, 48, 32, 59]
def fr56 : List Int32 := [101, 97, 116, 115, 32, 49, 32, 43, 32, 104, 117, 110, 103, 101, 114, 32, 60, 32, 50, 48, 32, 59, 32, 111, 100, 100, 115, 32, 54, 32, 45, 32, 103, 105, 114, 108, 32, 59, 32, 115, 112, 101, 110, 100, 115, 32, 51, 48, 32, 59, 32, 32, 32, 32, 32, 32]
def z0P : zP := ([101, 1, 15, 120, 18], [106, 3, 16], [130])
set_option maxRecDepth 100000 in
theorem fr50_z : gText (tkA (fun j => fr50.getD j 0) 50 0) = .inl z0P := by decide +kernel
set_option maxRecDepth 100000 in
theorem fr56_z : gText (tkA (fun j => fr56.getD j 0) 56 0) = .inl z0P := by decide +kernel
theorem byF_cg {bs ds : Nat → Int32} {n : Nat} (h : ∀ j, j < n → bs j = ds j) : byF bs n = byF ds n := by
  funext j
  unfold byF
  split
  · next hj => exact h j hj
  · rfl
theorem wdF_cg {bs ds : Nat → Int32} {n : Nat} (h : byF bs n = byF ds n) : ∀ f q, wdF bs n f q = wdF ds n f q
  | 0, q => rfl
  | f + 1, q => by unfold wdF; rw [h, wdF_cg h f (q + 1)]
theorem dgF_cg {bs ds : Nat → Int32} {n : Nat} (h : byF bs n = byF ds n) : ∀ f q, dgF bs n f q = dgF ds n f q
  | 0, q => rfl
  | f + 1, q => by unfold dgF; rw [h, dgF_cg h f (q + 1)]
theorem nvF_cg {bs ds : Nat → Int32} {n : Nat} (h : byF bs n = byF ds n) : ∀ k q w, nvF bs n k q w = nvF ds n k q w
  | 0, q, w => rfl
  | k + 1, q, w => by unfold nvF; rw [h, nvF_cg h k]
theorem wcL_cg {bs ds : Nat → Int32} {n : Nat} (h : byF bs n = byF ds n) (q e : Nat) : ∀ (ws : List (List Int32)) k, wcL bs n q e k ws = wcL ds n q e k ws
  | [], k => rfl
  | w :: ws, k => by unfold wcL mtB; rw [h, wcL_cg h q e ws]
theorem tkF_cg {bs ds : Nat → Int32} {n : Nat} (h : byF bs n = byF ds n) : ∀ f q, tkF bs n f q = tkF ds n f q
  | 0, q => rfl
  | f + 1, q => by
    have ec : coF bs n q = coF ds n q := by
      unfold coF wcF
      rw [h, wdF_cg h, dgF_cg h, wcL_cg h, nvF_cg h]
    have ee : enF bs n q = enF ds n q := by
      unfold enF
      rw [h, wdF_cg h, dgF_cg h]
    unfold tkF
    rw [h, ec, ee, tkF_cg h f (q + 1), tkF_cg h f (enF ds n q)]
theorem tkA_cg {bs ds : Nat → Int32} {n : Nat} (h : ∀ j, j < n → bs j = ds j) (q : Nat) : tkA bs n q = tkA ds n q := tkF_cg (byF_cg h) 161 q
