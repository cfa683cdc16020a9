/-! THE CLASS'S CONSTRUCTOR -/
/-- what the class's memory is behind its constructor -/
def x0R (u : mw_M) : Prop := u.1 31 1 = 0 ∧ u.1 37 1 = nI 1 ∧ xTx u 0 z0P ∧ (∀ k, k ≠ 31 → k ≠ 33 → k ≠ 34 → k ≠ 37 → k ≠ 39 → u.1 k = s0X.1 k) ∧ ∀ k, k ≠ 32 → k ≠ 35 → k ≠ 36 → k ≠ 45 → k ≠ 51 → u.2.1 k = s0X.2.1 k
/-- the first rule, i letters of it laid on the tape -/
def x0F (i : Nat) (u : mw_M) : Prop := u.1 31 1 = nI i ∧ (∀ j, j < i → u.2.1 32 j = fr50.getD j 0) ∧ (∀ k, k ≠ 31 → u.1 k = s0X.1 k) ∧ ∀ k, k ≠ 32 → u.2.1 k = s0X.2.1 k
theorem x0F.next {i : Nat} {u : mw_M} (h : x0F i u) : x0F (i + 1) (mw_si (mw_sa u 32 i (fr50.getD i 0)) 31 1 (nI (i + 1))) := by
  obtain ⟨h1, h2, h3, h4⟩ := h
  refine ⟨mw_sf, fun j hj => ?_, fun k hk => (mw_npF hk).trans (h3 k hk), fun k hk => (mw_sap hk).trans (h4 k hk)⟩
  show (mw_sa u 32 i (fr50.getD i 0)).2.1 32 j = _
  by_cases e : j = i
  · subst e; exact mw_sa_at _ _ _ _
  · rw [mw_san e]; exact h2 j (by omega)
theorem fr50_b : ∀ j : Fin 50, ∃ k : Nat, k ≤ 255 ∧ fr50.getD j.val 0 = nI k := fun j => ⟨(fr50.getD j.val 0).toNatClampNeg, (by decide +kernel : ∀ j : Fin 50, (fr50.getD j.val 0).toNatClampNeg ≤ 255) j, (by decide +kernel : ∀ j : Fin 50, fr50.getD j.val 0 = nI (fr50.getD j.val 0).toNatClampNeg) j⟩
theorem fr50_x : xByt.getD 14 [] = fr50 := rfl
theorem geX {E : mw_E} {b : Nat} {s : State} (hK : va_K (mw_D E) vwCl (mw_ty E) s) (hJ : mw_J 75 E) (hsub : ∀ q, mw_A 75 E q → gA b q) (hx : sX (gA b) (mw_t E) (mw_k E) (mw_v E) s) : geZ 75 gX E (gA b) s :=
  ⟨hK, hJ, hsub, gX_ok, fun H locs U hS hU hW => sX_g (((sX_ok b _ _ _).2 s U hx hW (fun q h1 h2 => by rw [hU]; exact hS.2.1 q h1 h2)).narrow hsub)⟩

set_option maxHeartbeats 4000000 in
set_option maxRecDepth 100000 in
theorem x11_tail {p : Program} {l : Launch} {e : Env} {s : State} {m : MethodId} {args : Array Value} {below : List Frame} {meth : Method} {c : Code} {H : Heap} {locs : List Loc} {Q : State → Prop} {ls : Array Slot} {E : mw_E} {b : Nat} (C : CallFix p m c cX11_init 2 s args lw_good RX11) (Z : geZ 75 gX E (gA b) s) (hx : sX (gA b) (mw_t E) (mw_k E) (mw_v E) s) (hP : va_P (mw_D E) vwCl (mw_ws shX 75 E s0X) H) (hS : va_S (gA b) s.heap H locs) (hl : lv_has ls 2 [(0, .ref (mw_a E 30))]) (kk : ∀ (u : mw_M) (H1 : Heap) (locs1 : List Loc) (ls : Array Slot), x0R u → va_P (mw_D E) vwCl (mw_ws shX 75 E u) H1 → va_S (gA b) s.heap H1 locs1 → W p l e (rmG 48 74 2090 1208) s m args below meth c H1 locs1 74 2090 Q (F0 m 182 ls [])) : W p l e (rmG 48 74 2090 1208) s m args below meth c H locs 74 2090 Q (F0 m 146 ls []) := by
  refine lv_iconst (v := 0) C.1 C.2.1 dX11_init_146 (by decide) ?_
  refine lv_istore_n (lv' := [(1, .int 0), (0, .ref (mw_a E 30))]) C.1 C.2.1 dX11_init_147 rfl hl (by decide) rfl (fun ls hl => ?_)
  have lp : ∀ (N i : Nat) (σ : mw_M) (H : Heap) (locs : List Loc), 51 ≤ i + N → i ≤ 50 → x0F i σ → va_P (mw_D E) vwCl (mw_ws shX 75 E σ) H → va_S (gA b) s.heap H locs → ∀ ls : Array Slot, lv_has ls 2 [(1, .int (nI i)), (0, .ref (mw_a E 30))] → W p l e (rmG 48 74 2090 1208) s m args below meth c H locs 74 2090 Q (F0 m 148 ls []) := by
    intro N
    induction N with
    | zero => intros; exfalso; omega
    | succ N ih =>
      intro i σ H locs hN hi hF hP hS ls hl
      refine lv_iload_n C.1 C.2.1 dX11_init_148 rfl (lv_at hl 0 rfl) ?_
      refine va_ldcS C.1 C.2.1 C.2.2.2.1 (hx.2.2.2.2.1 14 (by decide)) dX11_init_149 ?_
      refine ge_cTi (As := []) (rest := [.int (nI i)]) C Z hx.2.2.2.1 hP hS 14 (by decide) (cX_length l E σ 14 (by decide)) vb_J0_length_8abf5 tw_2_22 ⟨rfl, rfl⟩ ⟨Nat.le_of_ble_eq_true rfl, Nat.le_of_ble_eq_true rfl⟩ rfl hl.1 rfl (Nat.le_of_ble_eq_true rfl) dX11_init_151 ⟨Nat.le_of_ble_eq_true rfl, Nat.le_of_ble_eq_true rfl⟩ (fun r u H locs hq hP hS hk1 => ?_)
      obtain ⟨rfl, eu⟩ := hq
      rw [eu] at hP; clear eu
      refine lv_icmp_ge (tgt := 177) C.1 C.2.1 dX11_init_154 (by decide) (fun c1 => ?_) (fun c1 => ?_)
      · have c1 := (nI_leI (a := 50) (by decide) (by omega)).mp c1
        have ei : i = 50 := by omega
        subst ei
        refine lv_aload_n C.1 C.2.1 dX11_init_177 rfl (lv_at hl 1 rfl) ?_
        refine ge_cVi (As := []) (rest := []) C Z hP hS 30 (cX_text l E σ 50 hF.1 (by decide) (fun j hj => by rw [hF.2.1 j hj]; exact fr50_b ⟨j, hj⟩) 0 (by rw [hF.2.2.1 37 (by decide)]; rfl) (by decide)) vb_X11_text tw_2_74 ⟨rfl, rfl⟩ ⟨Nat.le_of_ble_eq_true rfl, Nat.le_of_ble_eq_true rfl⟩ (by decide) sx_30 rfl rfl rfl hl.1 rfl (Nat.le_of_ble_eq_true rfl) dX11_init_178 ⟨Nat.le_of_ble_eq_true rfl, Nat.le_of_ble_eq_true rfl⟩ (fun r u H locs hq hP hS hk1 => ?_)
        have hq := hq.2 (by decide)
        rw [tkA_cg (ds := fun j => fr50.getD j 0) hF.2.1, fr50_z] at hq
        obtain ⟨q1, q2, q3, -, q4, q5⟩ := hq
        refine lv_pop C.1 C.2.1 dX11_init_181 rfl ?_
        exact kk u H locs ls ⟨q1, q4, q5, fun k a b c d f => (q2 k a b c d f).trans (hF.2.2.1 k a), fun k a b c d f => (q3 k b c d f).trans (hF.2.2.2 k a)⟩ hP hS
      · have c1 := (not_congr (nI_leI (a := 50) (by decide) (by omega))).mp c1
        refine lv_aload_n C.1 C.2.1 dX11_init_157 rfl (lv_at hl 1 rfl) ?_
        refine ge_getr C Z hP 30 4 31 (by decide) sx_30 rfl rfl (by decide) inX11 tw_3_3 dX11_init_158 ?_
        refine va_ldcS C.1 C.2.1 C.2.2.2.1 (hx.2.2.2.2.1 14 (by decide)) dX11_init_161 ?_
        refine lv_iload_n C.1 C.2.1 dX11_init_163 rfl (lv_at hl 0 rfl) ?_
        refine ge_cTi (As := [.int (nI i)]) (rest := [.ref (mw_a E 31)]) C Z hx.2.2.2.1 hP hS 14 (by decide) (cX_charAt l E σ 14 (by decide) i (by show i < 50; omega)) vb_J0_charAt_5068e tw_2_32 ⟨rfl, rfl⟩ ⟨Nat.le_of_ble_eq_true rfl, Nat.le_of_ble_eq_true rfl⟩ rfl hl.1 rfl (Nat.le_of_ble_eq_true rfl) dX11_init_164 ⟨Nat.le_of_ble_eq_true rfl, Nat.le_of_ble_eq_true rfl⟩ (fun r u H locs hq hP hS hk1 => ?_)
        obtain ⟨rfl, eu⟩ := hq
        rw [eu] at hP; clear eu
        rw [fr50_x]
        refine ge_cVi (As := [.int (fr50.getD i 0)]) (rest := []) C Z hP hS 31 (cX_take l E σ i hF.1 (by omega) (fr50.getD i 0)) vb_X7_take tw_2_70 ⟨rfl, rfl⟩ ⟨Nat.le_of_ble_eq_true rfl, Nat.le_of_ble_eq_true rfl⟩ (by decide) sx_31 rfl rfl rfl hl.1 rfl (Nat.le_of_ble_eq_true rfl) dX11_init_167 ⟨Nat.le_of_ble_eq_true rfl, Nat.le_of_ble_eq_true rfl⟩ (fun r u H locs hq hP hS hk1 => ?_)
        obtain ⟨rfl, eu⟩ := hq.1 (by omega)
        rw [eu] at hP; clear eu
        refine lv_pop C.1 C.2.1 dX11_init_170 rfl ?_
        refine lv_iinc (v := nI (i + 1)) (lv' := [(1, .int (nI (i + 1))), (0, .ref (mw_a E 30))]) C.1 C.2.1 dX11_init_171 hl (k := 0) rfl (nI_1 _) (by decide) rfl (fun ls hl => ?_)
        refine lv_goto (tgt := 148) C.1 C.2.1 dX11_init_174 (by decide) ?_
        exact ih (i + 1) _ _ _ (by omega) (by omega) hF.next hP hS ls hl
  exact lp 51 0 s0X _ _ (by omega) (by omega) ⟨rfl, fun j hj => absurd hj (Nat.not_lt_zero j), fun _ _ => rfl, fun _ _ => rfl⟩ hP hS ls hl
