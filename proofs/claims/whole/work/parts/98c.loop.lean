/-! THE LAW: its switch, its loop -/
section LW
variable {p : Program} {l : Launch} {e : Env} {s : State} {m : MethodId} {below : List Frame} {meth : Method} {c : Code} {H : Heap} {locs : List Loc} {Q : State → Prop} {ls : Array Slot} {b L : Nat} {xs : Nat → Int32} {E F : mw_E} {σ τ : mw_M} {i : Nat}
set_option maxHeartbeats 4000000 in
set_option maxRecDepth 100000 in
theorem lw_body (B : lwB p s m meth c b L xs E F) (I : lwI s E F σ τ H locs) (hl : lv_has ls 4 (lwL b E F i)) (hi : i + 6 ≤ L) (kk : ∀ (σ τ : mw_M) (H : Heap) (locs : List Loc), lwI s E F σ τ H locs → W p l e room_1 s m #[Value.ref b] below meth c H locs 88 3515 Q (F0 m 1064 ls [])) : W p l e room_1 s m #[Value.ref b] below meth c H locs 88 3515 Q (F0 m 27 ls []) := by
  obtain ⟨C, -, ⟨hX, hbl, hL⟩, -, -, -⟩ := id B
  have hS := I.2.2.2
  have hbA : ¬ gA s.heap.size b := Nat.not_le.mpr hbl
  refine lv_aload_n C.1 C.2.1 dL_law_27 rfl (lv_at hl 0 rfl) ?_
  refine lv_iload_n C.1 C.2.1 dL_law_28 rfl (lv_at hl 3 rfl) ?_
  refine va_sld C.1 C.2.1 hX hbl hbA hS (vp_in_nI (by omega) (by omega)) dL_law_29 ?_
  refine lv_bipush (v := 31) C.1 C.2.1 dL_law_30 (by decide) ?_
  refine lv_iand C.1 C.2.1 dL_law_32 ?_
  obtain ⟨k, hk, ek⟩ := pk_andE (xs (nI i).toNatClampNeg) (m := 31) 5 (by decide)
  refine mw_top (y := nI k) ek ?_
  match k, hk with
  | 0, _ => exact lv_tableIn (off := 131) (tgt := 164) C.1 C.2.1 dL_law_33 (by decide +kernel) (by decide +kernel) (by decide +kernel) (by decide) (lw_c_set B I hl hi kk)
  | 1, _ => exact lv_tableIn (off := 174) (tgt := 207) C.1 C.2.1 dL_law_33 (by decide +kernel) (by decide +kernel) (by decide +kernel) (by decide) (lw_c_customer B I hl hi kk)
  | 2, _ => exact lv_tableIn (off := 217) (tgt := 250) C.1 C.2.1 dL_law_33 (by decide +kernel) (by decide +kernel) (by decide +kernel) (by decide) (lw_c_told B I hl hi kk)
  | 3, _ => exact lv_tableIn (off := 250) (tgt := 283) C.1 C.2.1 dL_law_33 (by decide +kernel) (by decide +kernel) (by decide +kernel) (by decide) (lw_c_feed B I hl hi kk)
  | 4, _ => exact lv_tableIn (off := 273) (tgt := 306) C.1 C.2.1 dL_law_33 (by decide +kernel) (by decide +kernel) (by decide +kernel) (by decide) (lw_c_text B I hl hi kk)
  | 5, _ => exact lv_tableIn (off := 286) (tgt := 319) C.1 C.2.1 dL_law_33 (by decide +kernel) (by decide +kernel) (by decide +kernel) (by decide) (lw_c_force B I hl hi kk)
  | 6, _ => exact lv_tableIn (off := 309) (tgt := 342) C.1 C.2.1 dL_law_33 (by decide +kernel) (by decide +kernel) (by decide +kernel) (by decide) (lw_c_board B I hl hi kk)
  | 7, _ => exact lv_tableIn (off := 332) (tgt := 365) C.1 C.2.1 dL_law_33 (by decide +kernel) (by decide +kernel) (by decide +kernel) (by decide) (lw_c_fair B I hl hi kk)
  | 8, _ => exact lv_tableIn (off := 356) (tgt := 389) C.1 C.2.1 dL_law_33 (by decide +kernel) (by decide +kernel) (by decide +kernel) (by decide) (lw_c_buysOne B I hl hi kk)
  | 9, _ => exact lv_tableIn (off := 380) (tgt := 413) C.1 C.2.1 dL_law_33 (by decide +kernel) (by decide +kernel) (by decide +kernel) (by decide) (lw_c_hour B I hl hi kk)
  | 10, _ => exact lv_tableIn (off := 413) (tgt := 446) C.1 C.2.1 dL_law_33 (by decide +kernel) (by decide +kernel) (by decide +kernel) (by decide) (lw_c_cubes B I hl hi kk)
  | 11, _ => exact lv_tableIn (off := 436) (tgt := 469) C.1 C.2.1 dL_law_33 (by decide +kernel) (by decide +kernel) (by decide +kernel) (by decide) (lw_c_shelf B I hl hi kk)
  | 12, _ => exact lv_tableIn (off := 459) (tgt := 492) C.1 C.2.1 dL_law_33 (by decide +kernel) (by decide +kernel) (by decide +kernel) (by decide) (lw_c_apron B I hl hi kk)
  | 13, _ => exact lv_tableIn (off := 482) (tgt := 515) C.1 C.2.1 dL_law_33 (by decide +kernel) (by decide +kernel) (by decide +kernel) (by decide) (lw_c_stand B I hl hi kk)
  | 14, _ => exact lv_tableIn (off := 515) (tgt := 548) C.1 C.2.1 dL_law_33 (by decide +kernel) (by decide +kernel) (by decide +kernel) (by decide) (lw_c_setting B I hl hi kk)
  | 15, _ => exact lv_tableIn (off := 538) (tgt := 571) C.1 C.2.1 dL_law_33 (by decide +kernel) (by decide +kernel) (by decide +kernel) (by decide) (lw_c_sendAway B I hl hi kk)
  | 16, _ => exact lv_tableIn (off := 561) (tgt := 594) C.1 C.2.1 dL_law_33 (by decide +kernel) (by decide +kernel) (by decide +kernel) (by decide) (lw_c_lost B I hl hi kk)
  | 17, _ => exact lv_tableIn (off := 584) (tgt := 617) C.1 C.2.1 dL_law_33 (by decide +kernel) (by decide +kernel) (by decide +kernel) (by decide) (lw_c_tells B I hl hi kk)
  | 18, _ => exact lv_tableIn (off := 627) (tgt := 660) C.1 C.2.1 dL_law_33 (by decide +kernel) (by decide +kernel) (by decide +kernel) (by decide) (lw_c_film B I hl hi kk)
  | 19, _ => exact lv_tableIn (off := 670) (tgt := 703) C.1 C.2.1 dL_law_33 (by decide +kernel) (by decide +kernel) (by decide +kernel) (by decide) (lw_c_sell B I hl hi kk)
  | 20, _ => exact lv_tableIn (off := 693) (tgt := 726) C.1 C.2.1 dL_law_33 (by decide +kernel) (by decide +kernel) (by decide +kernel) (by decide) (lw_c_chance B I hl hi kk)
  | 21, _ => exact lv_tableIn (off := 747) (tgt := 780) C.1 C.2.1 dL_law_33 (by decide +kernel) (by decide +kernel) (by decide +kernel) (by decide) (lw_c_image B I hl hi kk)
  | 22, _ => exact lv_tableIn (off := 760) (tgt := 793) C.1 C.2.1 dL_law_33 (by decide +kernel) (by decide +kernel) (by decide +kernel) (by decide) (lw_c_back B I hl hi kk)
  | 23, _ => exact lv_tableIn (off := 773) (tgt := 806) C.1 C.2.1 dL_law_33 (by decide +kernel) (by decide +kernel) (by decide +kernel) (by decide) (lw_c_count B I hl hi kk)
  | 24, _ => exact lv_tableIn (off := 796) (tgt := 829) C.1 C.2.1 dL_law_33 (by decide +kernel) (by decide +kernel) (by decide +kernel) (by decide) (lw_c_sheet B I hl hi kk)
  | 25, _ => exact lv_tableIn (off := 839) (tgt := 872) C.1 C.2.1 dL_law_33 (by decide +kernel) (by decide +kernel) (by decide +kernel) (by decide) (lw_c_cell B I hl hi kk)
  | 26, _ => exact lv_tableIn (off := 882) (tgt := 915) C.1 C.2.1 dL_law_33 (by decide +kernel) (by decide +kernel) (by decide +kernel) (by decide) (lw_c_copy B I hl hi kk)
  | 27, _ => exact lv_tableIn (off := 945) (tgt := 978) C.1 C.2.1 dL_law_33 (by decide +kernel) (by decide +kernel) (by decide +kernel) (by decide) (lw_c_customers B I hl hi kk)
  | 28, _ => exact lv_tableIn (off := 998) (tgt := 1031) C.1 C.2.1 dL_law_33 (by decide +kernel) (by decide +kernel) (by decide +kernel) (by decide) (lw_c_taken B I hl hi kk)
  | 29, _ => exact lv_tableOut (tgt := 1064) C.1 C.2.1 dL_law_33 (by decide +kernel) (by decide) (kk σ τ H locs I)
  | 30, _ => exact lv_tableOut (tgt := 1064) C.1 C.2.1 dL_law_33 (by decide +kernel) (by decide) (kk σ τ H locs I)
  | 31, _ => exact lv_tableOut (tgt := 1064) C.1 C.2.1 dL_law_33 (by decide +kernel) (by decide) (kk σ τ H locs I)
  | k + 32, hk => exact absurd hk (by omega)
end LW
set_option maxHeartbeats 4000000 in
set_option maxRecDepth 100000 in
theorem lw_loop {p : Program} {l : Launch} {e : Env} {s : State} {m : MethodId} {below : List Frame} {meth : Method} {c : Code} {b L : Nat} {xs : Nat → Int32} {E F : mw_E} (B : lwB p s m meth c b L xs E F) : ∀ (n i : Nat), i ≤ L → L + 1 ≤ i + n → ∀ (σ τ : mw_M) (H : Heap) (locs : List Loc), lwI s E F σ τ H locs → ∀ (ls : Array Slot), lv_has ls 4 (lwL b E F i) → W p l e room_1 s m #[Value.ref b] below meth c H locs 88 3515 (lw_Z below #[Value.ref b] s) (F0 m 18 ls []) := by
  obtain ⟨C, ⟨hr, hlocks⟩, ⟨hX, hbl, hL⟩, -, -, -⟩ := id B
  have hbA : ¬ gA s.heap.size b := Nat.not_le.mpr hbl
  intro n
  induction n with
  | zero =>
    intro i h1 h2
    exact absurd h2 (by omega)
  | succ n ih =>
    intro i hi hin σ τ H locs I ls hl
    have hS := I.2.2.2
    refine lv_iload_n C.1 C.2.1 dL_law_18 rfl (lv_at hl 3 rfl) ?_
    refine lv_aload_n C.1 C.2.1 dL_law_19 rfl (lv_at hl 0 rfl) ?_
    refine va_slen C.1 C.2.1 hX hbl hbA hS dL_law_20 ?_
    refine lv_bipush (v := 6) C.1 C.2.1 dL_law_21 (by decide) ?_
    refine lv_isub C.1 C.2.1 dL_law_23 ?_
    refine lv_icmp_gt (tgt := 1070) C.1 C.2.1 dL_law_24 (by decide) (fun c1 => ?_) (fun c1 => ?_)
    · refine lv_iconst (v := 1) C.1 C.2.1 dL_law_1070 (by decide) ?_
      refine va_forget (fun q hq => hS.2.2 q hq) ?_
      refine W.widen (k := 600000) (n := 7302250) (Nat.le_of_ble_eq_true rfl) (Nat.le_of_ble_eq_true rfl) ?_
      exact lw_ret C.1 C.2.1 hr hlocks dL_law_1071
    · have c1 : ¬ nI L - nI 6 < nI i := c1
      have e0 : (nI L - nI 6).toInt = (L : Int) - (6 : Nat) := pk_sub_toInt (by omega) (by decide)
      rw [ni_lt, e0, nI_toInt (by omega)] at c1
      have hlt : i + 6 ≤ L := by omega
      refine lw_body B I hl hlt (fun σ τ H locs I => ?_)
      refine lv_iinc (v := nI (i + 6)) (lv' := [(3, .int (nI (i + 6))), (0, .ref b), (1, .ref (mw_a E 30)), (2, .ref (mw_a F 0))]) C.1 C.2.1 dL_law_1064 hl (k := 3) rfl (by rw [show Int32.ofInt 6 = nI 6 by decide]; exact nI_add i 6) (by decide) rfl (fun ls hl => ?_)
      refine lv_goto (tgt := 18) C.1 C.2.1 dL_law_1067 (by decide) ?_
      exact ih (i + 6) hlt (by omega) σ τ H locs I ls (lv_sub hl [1, 2, 3, 0] rfl)
