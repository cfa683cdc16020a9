/-! THE CLASS'S READER: THE DESCENT -/
theorem gAt_m1 {f g : List (Nat × Nat) → gR} {ts ts2 : List (Nat × Nat)} {cs : List Nat} (h : hdC ts = 16) (e : f ts.tail = .inl (cs, ts2)) : gAt (some (f, g)) ts = .inl (cs ++ [20], ts2) := by
  rw [gAt_m h]
  dsimp only
  rw [e]
theorem gAt_m2 {f g : List (Nat × Nat) → gR} {ts : List (Nat × Nat)} {q : Nat} (h : hdC ts = 16) (e : f ts.tail = .inr q) : gAt (some (f, g)) ts = .inr q := by
  rw [gAt_m h]
  dsimp only
  rw [e]
theorem gAt_p1 {f g : List (Nat × Nat) → gR} {ts ts2 : List (Nat × Nat)} {cs : List Nat} (h : hdC ts = 12) (e : g ts.tail = .inl (cs, ts2)) (h2 : hdC ts2 = 13) : gAt (some (f, g)) ts = .inl (cs, ts2.tail) := by
  rw [gAt_p h]
  dsimp only
  rw [e]
  exact gCl_t 13 (by decide) h2
theorem gAt_p2 {f g : List (Nat × Nat) → gR} {ts ts2 : List (Nat × Nat)} {cs : List Nat} (h : hdC ts = 12) (e : g ts.tail = .inl (cs, ts2)) (h2 : ¬ hdC ts2 = 13) : gAt (some (f, g)) ts = .inr (hdP ts2) := by
  rw [gAt_p h]
  dsimp only
  rw [e]
  exact gCl_f 13 h2
theorem gAt_p3 {f g : List (Nat × Nat) → gR} {ts : List (Nat × Nat)} {q : Nat} (h : hdC ts = 12) (e : g ts.tail = .inr q) : gAt (some (f, g)) ts = .inr q := by
  rw [gAt_p h]
  dsimp only
  rw [e]
theorem gNot_t1 {f x : List (Nat × Nat) → gR} {ts ts2 : List (Nat × Nat)} {cs : List Nat} (h : hdC ts = 11) (e : f ts.tail = .inl (cs, ts2)) : gNot (some f) x ts = .inl (cs ++ [11], ts2) := by
  rw [(gNot_t h).1, e]
theorem gNot_t2 {f x : List (Nat × Nat) → gR} {ts : List (Nat × Nat)} {q : Nat} (h : hdC ts = 11) (e : f ts.tail = .inr q) : gNot (some f) x ts = .inr q := by
  rw [(gNot_t h).1, e]
theorem gCmp_g1 {x : List (Nat × Nat) → gR} {ts ts1 ts2 : List (Nat × Nat)} {cs cs2 : List Nat} (e : x ts = .inl (cs, ts1)) (h : hdC ts1 = 18 ∨ hdC ts1 = 19) (e2 : x ts1.tail = .inl (cs2, ts2)) : gCmp x ts = .inl (cs ++ cs2 ++ [hdC ts1], ts2) := by
  rw [gCmp_go e h, e2]
theorem gCmp_g2 {x : List (Nat × Nat) → gR} {ts ts1 : List (Nat × Nat)} {cs : List Nat} {q : Nat} (e : x ts = .inl (cs, ts1)) (h : hdC ts1 = 18 ∨ hdC ts1 = 19) (e2 : x ts1.tail = .inr q) : gCmp x ts = .inr q := by
  rw [gCmp_go e h, e2]

set_option maxHeartbeats 4000000 in
set_option maxRecDepth 100000 in
theorem cX_one5 (l : Launch) (E : mw_E) (σ : mw_M) (T : List (Nat × Nat)) (j : Nat) (hj : j < 6) (a : Nat) (ts : List (Nat × Nat)) (cs : List Nat) (B : Nat) (hB : B ≤ 160) (h : xPo σ T j a ts cs B) : mw_Cv shX 75 gX l yX3_readOne cX3_readOne 4 none (rmF 4 126) E [.ref (mw_a E 33), .ref (mw_a E (39 + j)), .int 5] σ (fun u => xAf T j B cs ((gD 0).1 ts) u ∧ xPf j σ u) := by
  refine mw_of (by decide) gX_ok (Nat.le_of_ble_eq_true rfl) ?_
  intro p_ e_ s_ m_ below meth c_ C hr hlk Z hP ls hl
  have C : CallFix p_ m_ c_ cX3_readOne 4 s_ _ lw_good RX3 := C
  have hl : lv_has ls 4 [(0, .ref (mw_a E 33)), (1, .ref (mw_a E (39 + j))), (2, .int 5)] := hl
  have hS : va_S (mw_A 75 E) s_.heap s_.heap [] := va_S.rf
  have hlt : hdC ts < 20000 := by have y := (h.1.lt a).1; rw [h.2.1] at y; exact y
  refine lv_aload_n C.1 C.2.1 dX3_readOne_0 rfl (lv_at hl 0 rfl) ?_
  refine mw_getr C Z hP (33) 0 (34) (by decide) sx_33 rfl rfl (by decide) inX3 tw_1_153 dX3_readOne_1 ?_
  refine lv_aload_n C.1 C.2.1 dX3_readOne_4 rfl (lv_at hl 0 rfl) ?_
  refine mw_geti C Z hP (33) 1 (by decide) sx_33 rfl rfl (by decide) inX3 tw_1_154 dX3_readOne_5 ?_
  refine mw_top (y := nI a) (h.2.2.2.1) ?_
  refine mw_cVi (As := [.int (nI a)]) (rest := []) C Z hP hS (34) (cX_tokenAt l E σ T.length h.1.2.1 h.1.1 a (by have y1 := h.1.1; have y2 := h.2.2.1; omega)) vb_X10_tokenAt tw_2_204 ⟨rfl, rfl⟩ ⟨Nat.le_of_ble_eq_true rfl, Nat.le_of_ble_eq_true rfl⟩ (by decide) sx_34 rfl rfl rfl hl.1 rfl (Nat.le_of_ble_eq_true rfl) dX3_readOne_8 ⟨Nat.zero_le _, Nat.zero_le _⟩ (fun r1 u2 H locs q3 hP hS => ?_)
  rw [(h.1.tok a).1, h.2.1] at q3
  obtain ⟨rfl, q3u⟩ := q3
  rw [q3u] at hP; clear q3u
  refine lv_istore_n (lv' := [(3, .int (nI (hdC ts))), (0, .ref (mw_a E 33)), (1, .ref (mw_a E (39 + j))), (2, .int 5)]) C.1 C.2.1 dX3_readOne_11 rfl hl (by decide) rfl (fun ls hl => ?_)
  refine lv_aload_n C.1 C.2.1 dX3_readOne_12 rfl (lv_at hl 1 rfl) ?_
  refine mw_geti C Z hP (33) 2 (by decide) sx_33 rfl rfl (by decide) inX3 tw_1_155 dX3_readOne_13 ?_
  refine mw_top (y := -1) (h.2.2.2.2.1) ?_
  refine lv_iconst (v := -1) C.1 C.2.1 dX3_readOne_16 (by decide) ?_
  refine lv_icmp_eq (tgt := 21) C.1 C.2.1 dX3_readOne_17 (by decide) (fun c4 => ?_) (fun c4 => ?_)
  · refine lv_iload_n C.1 C.2.1 dX3_readOne_21 rfl (lv_at hl 0 rfl) ?_
    refine lv_iconst (v := 5) C.1 C.2.1 dX3_readOne_22 (by decide) ?_
    refine lv_icmp_le (tgt := 32) C.1 C.2.1 dX3_readOne_23 (by decide) (fun c5 => ?_) (fun c5 => ?_)
    · have c5 := (nI_leI (b := 5) (by omega) (by decide)).mp c5
      have hcl : hdC ts ≤ 5 ∨ 100 ≤ hdC ts := Or.inl c5
      have hne : hdC ts ≠ 21 := by omega
      refine lv_aload_n C.1 C.2.1 dX3_readOne_32 rfl (lv_at hl 1 rfl) ?_
      refine lv_dup C.1 C.2.1 dX3_readOne_33 rfl ?_
      refine mw_geti C Z hP (33) 1 (by decide) sx_33 rfl rfl (by decide) inX3 tw_1_154 dX3_readOne_34 ?_
      refine mw_top (y := nI a) (h.2.2.2.1) ?_
      refine lv_iconst (v := 1) C.1 C.2.1 dX3_readOne_37 (by decide) ?_
      refine lv_iadd C.1 C.2.1 dX3_readOne_38 ?_
      refine mw_top (y := nI (a + 1)) (nI_1 _) ?_
      refine mw_puti C Z hP hS (33) 1 (by decide) sx_33 rfl rfl (by decide) inX3 tyX3 tyX3_ok nmX3 rfl tw_1_154 rfl rfl dX3_readOne_39 (fun H locs hP hS => ?_)
      have pn6 := h.next hj hne
      have hb7 := pn6.2
      refine lv_aload_n C.1 C.2.1 dX3_readOne_42 rfl (lv_at hl 2 rfl) ?_
      refine lv_iload_n C.1 C.2.1 dX3_readOne_43 rfl (lv_at hl 0 rfl) ?_
      refine mw_cVv (As := [.int (nI (hdC ts))]) (rest := []) C Z hP hS (39 + j) (cX_add l E (mw_si σ 33 1 (nI (a + 1))) j hj cs.length pn6.1.2.2.2.2.2.1.1 (by have y := pn6.1.2.2.2.2.2.2; omega) (nI (hdC ts))) vb_X8_add tw_2_224 ⟨rfl, rfl⟩ ⟨Nat.le_of_ble_eq_true rfl, Nat.le_of_ble_eq_true rfl⟩ (by omega) (sx_tx (by omega)) rfl rfl rfl hl.1 rfl (Nat.le_of_ble_eq_true rfl) dX3_readOne_44 ⟨Nat.zero_le _, Nat.zero_le _⟩ (fun u9 H locs q10 hP hS => ?_)
      have e11 := q10.1 (by have y := pn6.1.2.2.2.2.2.2; omega)
      subst e11
      have po12 := (pn6.1.add hj (hdC ts)).wk (C := B) (by omega)
      refine lv_goto (tgt := 131) C.1 C.2.1 dX3_readOne_47 (by decide) ?_
      exact mw_vret C hr hlk Z hP hS dX3_readOne_131 (⟨xAf.gd ((congrFun gA_0 ts).trans (gAt_a hcl)) po12, (((xPf.rf j σ).rd _ _).ad _ _ _)⟩)
    · have c5 := (not_congr (nI_leI (b := 5) (by omega) (by decide))).mp c5
      refine lv_iload_n C.1 C.2.1 dX3_readOne_26 rfl (lv_at hl 0 rfl) ?_
      refine lv_bipush (v := 100) C.1 C.2.1 dX3_readOne_27 (by decide) ?_
      refine lv_icmp_lt (tgt := 50) C.1 C.2.1 dX3_readOne_29 (by decide) (fun c13 => ?_) (fun c13 => ?_)
      · have c13 := (nI_ltI (b := 100) (by omega) (by decide)).mp c13
        have hncl : ¬ (hdC ts ≤ 5 ∨ 100 ≤ hdC ts) := by omega
        refine lv_iload_n C.1 C.2.1 dX3_readOne_50 rfl (lv_at hl 0 rfl) ?_
        refine lv_bipush (v := 16) C.1 C.2.1 dX3_readOne_51 (by decide) ?_
        refine lv_icmp_ne (tgt := 88) C.1 C.2.1 dX3_readOne_53 (by decide) (fun c14 => ?_) (fun c14 => ?_)
        · have h16n : ¬ hdC ts = 16 := fun y => c14 (by rw [y]; rfl)
          refine lv_iload_n C.1 C.2.1 dX3_readOne_88 rfl (lv_at hl 0 rfl) ?_
          refine lv_bipush (v := 12) C.1 C.2.1 dX3_readOne_89 (by decide) ?_
          refine lv_icmp_ne (tgt := 127) C.1 C.2.1 dX3_readOne_91 (by decide) (fun c15 => ?_) (fun c15 => ?_)
          · refine lv_aload_n C.1 C.2.1 dX3_readOne_127 rfl (lv_at hl 1 rfl) ?_
            refine mw_cVv (As := []) (rest := []) C Z hP hS (33) (cX_failG l E σ T j hj a ts cs B (by omega) h) vb_X3_fail tw_2_208 ⟨rfl, rfl⟩ ⟨Nat.le_of_ble_eq_true rfl, Nat.le_of_ble_eq_true rfl⟩ (by decide) sx_33 rfl rfl rfl hl.1 rfl (Nat.le_of_ble_eq_true rfl) dX3_readOne_128 ⟨Nat.zero_le _, Nat.zero_le _⟩ (fun u17 H locs q18 hP hS => ?_)
            subst q18
            exact mw_vret C hr hlk Z hP hS dX3_readOne_131 (⟨xAf.bd ((congrFun gA_0 ts).trans (gAt_x hncl (fun _ => rfl) (fun _ => rfl))) (h.fail hj (by have y := h.2.2.2.2.2.2; omega)), ((xPf.rf j σ).rd _ _)⟩)
          · refine lv_iload_n C.1 C.2.1 dX3_readOne_94 rfl (lv_at hl 3 rfl) ?_
            refine lv_iconst (v := 5) C.1 C.2.1 dX3_readOne_95 (by decide) ?_
            refine lv_icmp_ge (tgt := 127) C.1 C.2.1 dX3_readOne_96 (by decide) (fun c19 => ?_) (fun c19 => ?_)
            · refine lv_aload_n C.1 C.2.1 dX3_readOne_127 rfl (lv_at hl 1 rfl) ?_
              refine mw_cVv (As := []) (rest := []) C Z hP hS (33) (cX_failG l E σ T j hj a ts cs B (by omega) h) vb_X3_fail tw_2_208 ⟨rfl, rfl⟩ ⟨Nat.le_of_ble_eq_true rfl, Nat.le_of_ble_eq_true rfl⟩ (by decide) sx_33 rfl rfl rfl hl.1 rfl (Nat.le_of_ble_eq_true rfl) dX3_readOne_128 ⟨Nat.zero_le _, Nat.zero_le _⟩ (fun u21 H locs q22 hP hS => ?_)
              subst q22
              exact mw_vret C hr hlk Z hP hS dX3_readOne_131 (⟨xAf.bd ((congrFun gA_0 ts).trans (gAt_x hncl (fun _ => rfl) (fun _ => rfl))) (h.fail hj (by have y := h.2.2.2.2.2.2; omega)), ((xPf.rf j σ).rd _ _)⟩)
            · exact absurd c19 (by decide)
        · have h16 : hdC ts = 16 := nI_eqI (b := 16) (by omega) (by decide) c14
          have hne : hdC ts ≠ 21 := by omega
          refine lv_iload_n C.1 C.2.1 dX3_readOne_56 rfl (lv_at hl 3 rfl) ?_
          refine lv_iconst (v := 5) C.1 C.2.1 dX3_readOne_57 (by decide) ?_
          refine lv_icmp_ge (tgt := 88) C.1 C.2.1 dX3_readOne_58 (by decide) (fun c23 => ?_) (fun c23 => ?_)
          · refine lv_iload_n C.1 C.2.1 dX3_readOne_88 rfl (lv_at hl 0 rfl) ?_
            refine lv_bipush (v := 12) C.1 C.2.1 dX3_readOne_89 (by decide) ?_
            refine lv_icmp_ne (tgt := 127) C.1 C.2.1 dX3_readOne_91 (by decide) (fun c24 => ?_) (fun c24 => ?_)
            · refine lv_aload_n C.1 C.2.1 dX3_readOne_127 rfl (lv_at hl 1 rfl) ?_
              refine mw_cVv (As := []) (rest := []) C Z hP hS (33) (cX_failG l E σ T j hj a ts cs B (by omega) h) vb_X3_fail tw_2_208 ⟨rfl, rfl⟩ ⟨Nat.le_of_ble_eq_true rfl, Nat.le_of_ble_eq_true rfl⟩ (by decide) sx_33 rfl rfl rfl hl.1 rfl (Nat.le_of_ble_eq_true rfl) dX3_readOne_128 ⟨Nat.zero_le _, Nat.zero_le _⟩ (fun u26 H locs q27 hP hS => ?_)
              subst q27
              exact mw_vret C hr hlk Z hP hS dX3_readOne_131 (⟨xAf.bd ((congrFun gA_0 ts).trans (gAt_x hncl (fun _ => rfl) (fun _ => rfl))) (h.fail hj (by have y := h.2.2.2.2.2.2; omega)), ((xPf.rf j σ).rd _ _)⟩)
            · refine lv_iload_n C.1 C.2.1 dX3_readOne_94 rfl (lv_at hl 3 rfl) ?_
              refine lv_iconst (v := 5) C.1 C.2.1 dX3_readOne_95 (by decide) ?_
              refine lv_icmp_ge (tgt := 127) C.1 C.2.1 dX3_readOne_96 (by decide) (fun c28 => ?_) (fun c28 => ?_)
              · refine lv_aload_n C.1 C.2.1 dX3_readOne_127 rfl (lv_at hl 1 rfl) ?_
                refine mw_cVv (As := []) (rest := []) C Z hP hS (33) (cX_failG l E σ T j hj a ts cs B (by omega) h) vb_X3_fail tw_2_208 ⟨rfl, rfl⟩ ⟨Nat.le_of_ble_eq_true rfl, Nat.le_of_ble_eq_true rfl⟩ (by decide) sx_33 rfl rfl rfl hl.1 rfl (Nat.le_of_ble_eq_true rfl) dX3_readOne_128 ⟨Nat.zero_le _, Nat.zero_le _⟩ (fun u30 H locs q31 hP hS => ?_)
                subst q31
                exact mw_vret C hr hlk Z hP hS dX3_readOne_131 (⟨xAf.bd ((congrFun gA_0 ts).trans (gAt_x hncl (fun _ => rfl) (fun _ => rfl))) (h.fail hj (by have y := h.2.2.2.2.2.2; omega)), ((xPf.rf j σ).rd _ _)⟩)
              · exact absurd c28 (by decide)
          · exact absurd c23 (by decide)
      · have c13 := (not_congr (nI_ltI (b := 100) (by omega) (by decide))).mp c13
        have hcl : hdC ts ≤ 5 ∨ 100 ≤ hdC ts := by omega
        have hne : hdC ts ≠ 21 := by omega
        refine lv_aload_n C.1 C.2.1 dX3_readOne_32 rfl (lv_at hl 1 rfl) ?_
        refine lv_dup C.1 C.2.1 dX3_readOne_33 rfl ?_
        refine mw_geti C Z hP (33) 1 (by decide) sx_33 rfl rfl (by decide) inX3 tw_1_154 dX3_readOne_34 ?_
        refine mw_top (y := nI a) (h.2.2.2.1) ?_
        refine lv_iconst (v := 1) C.1 C.2.1 dX3_readOne_37 (by decide) ?_
        refine lv_iadd C.1 C.2.1 dX3_readOne_38 ?_
        refine mw_top (y := nI (a + 1)) (nI_1 _) ?_
        refine mw_puti C Z hP hS (33) 1 (by decide) sx_33 rfl rfl (by decide) inX3 tyX3 tyX3_ok nmX3 rfl tw_1_154 rfl rfl dX3_readOne_39 (fun H locs hP hS => ?_)
        have pn32 := h.next hj hne
        have hb33 := pn32.2
        refine lv_aload_n C.1 C.2.1 dX3_readOne_42 rfl (lv_at hl 2 rfl) ?_
        refine lv_iload_n C.1 C.2.1 dX3_readOne_43 rfl (lv_at hl 0 rfl) ?_
        refine mw_cVv (As := [.int (nI (hdC ts))]) (rest := []) C Z hP hS (39 + j) (cX_add l E (mw_si σ 33 1 (nI (a + 1))) j hj cs.length pn32.1.2.2.2.2.2.1.1 (by have y := pn32.1.2.2.2.2.2.2; omega) (nI (hdC ts))) vb_X8_add tw_2_224 ⟨rfl, rfl⟩ ⟨Nat.le_of_ble_eq_true rfl, Nat.le_of_ble_eq_true rfl⟩ (by omega) (sx_tx (by omega)) rfl rfl rfl hl.1 rfl (Nat.le_of_ble_eq_true rfl) dX3_readOne_44 ⟨Nat.zero_le _, Nat.zero_le _⟩ (fun u35 H locs q36 hP hS => ?_)
        have e37 := q36.1 (by have y := pn32.1.2.2.2.2.2.2; omega)
        subst e37
        have po38 := (pn32.1.add hj (hdC ts)).wk (C := B) (by omega)
        refine lv_goto (tgt := 131) C.1 C.2.1 dX3_readOne_47 (by decide) ?_
        exact mw_vret C hr hlk Z hP hS dX3_readOne_131 (⟨xAf.gd ((congrFun gA_0 ts).trans (gAt_a hcl)) po38, (((xPf.rf j σ).rd _ _).ad _ _ _)⟩)
  · exact absurd c4 (by decide)

set_option maxHeartbeats 4000000 in
set_option maxRecDepth 100000 in
theorem cX_l5_5 (l : Launch) (E : mw_E) (σ : mw_M) (T : List (Nat × Nat)) (j : Nat) (hj : j < 6) (a : Nat) (ts : List (Nat × Nat)) (cs : List Nat) (B : Nat) (hB : B ≤ 160) (h : xPo σ T j a ts cs B) : mw_Cv shX 75 gX l yX3_readLevel cX3_readLevel 6 none (rmF 5 149) E [.ref (mw_a E 33), .ref (mw_a E (39 + j)), .int 5, .int 5] σ (fun u => xAf T j B cs ((gD 0).1 ts) u ∧ xPf j σ u) := by
  refine mw_of (by decide) gX_ok (Nat.le_of_ble_eq_true rfl) ?_
  intro p_ e_ s_ m_ below meth c_ C hr hlk Z hP ls hl
  have C : CallFix p_ m_ c_ cX3_readLevel 6 s_ _ lw_good RX3 := C
  have hl : lv_has ls 6 [(0, .ref (mw_a E 33)), (1, .ref (mw_a E (39 + j))), (2, .int 5), (3, .int 5)] := hl
  have hS : va_S (mw_A 75 E) s_.heap s_.heap [] := va_S.rf
  have hlt : hdC ts < 20000 := by have y := (h.1.lt a).1; rw [h.2.1] at y; exact y
  refine lv_iload_n C.1 C.2.1 dX3_readLevel_0 rfl (lv_at hl 2 rfl) ?_
  refine lv_iconst (v := 4) C.1 C.2.1 dX3_readLevel_1 (by decide) ?_
  refine lv_icmp_le (tgt := 12) C.1 C.2.1 dX3_readLevel_2 (by decide) (fun c1 => ?_) (fun c1 => ?_)
  · exact absurd c1 (by decide)
  · refine lv_aload_n C.1 C.2.1 dX3_readLevel_5 rfl (lv_at hl 0 rfl) ?_
    refine lv_aload_n C.1 C.2.1 dX3_readLevel_6 rfl (lv_at hl 1 rfl) ?_
    refine lv_iload_n C.1 C.2.1 dX3_readLevel_7 rfl (lv_at hl 3 rfl) ?_
    refine mw_cVv (As := [.ref (mw_a E (39 + j)), .int 5]) (rest := []) C Z hP hS (33) (cX_one5 l E σ T j hj a ts cs B (by omega) h) vb_X3_readOne tw_2_220 ⟨rfl, rfl⟩ ⟨Nat.le_of_ble_eq_true rfl, Nat.le_of_ble_eq_true rfl⟩ (by decide) sx_33 rfl rfl rfl hl.1 rfl (Nat.le_of_ble_eq_true rfl) dX3_readLevel_8 ⟨Nat.zero_le _, Nat.zero_le _⟩ (fun u11 H locs q12 hP hS => ?_)
    obtain ⟨hx2, f3⟩ := q12
    rcases e4 : (gD 0).1 ts with ⟨cs5, ts6⟩ | qq9
    · rw [e4] at hx2
      obtain ⟨a7, po8⟩ := hx2
      have po8 : xPo u11 T j a7 ts6 (cs ++ cs5) B := po8
      exact mw_vret C hr hlk Z hP hS dX3_readLevel_11 (⟨xAf.gd rfl po8, ((xPf.rf j σ).tr f3)⟩)
    · rw [e4] at hx2
      have po8 : xPb u11 T j qq9 := hx2
      exact mw_vret C hr hlk Z hP hS dX3_readLevel_11 (⟨xAf.bd rfl po8, ((xPf.rf j σ).tr f3)⟩)

set_option maxHeartbeats 4000000 in
set_option maxRecDepth 100000 in
theorem cX_l4_5 (l : Launch) (E : mw_E) (σ : mw_M) (T : List (Nat × Nat)) (j : Nat) (hj : j < 6) (a : Nat) (ts : List (Nat × Nat)) (cs : List Nat) (B : Nat) (hB : B ≤ 160) (h : xPo σ T j a ts cs B) : mw_Cv shX 75 gX l yX3_readLevel cX3_readLevel 6 none (rmF 6 174) E [.ref (mw_a E 33), .ref (mw_a E (39 + j)), .int 4, .int 5] σ (fun u => xAf T j B cs ((gLevel gTim (gD 0).1) ts) u ∧ xPf j σ u) := by
  refine mw_of (by decide) gX_ok (Nat.le_of_ble_eq_true rfl) ?_
  intro p_ e_ s_ m_ below meth c_ C hr hlk Z hP ls hl
  have C : CallFix p_ m_ c_ cX3_readLevel 6 s_ _ lw_good RX3 := C
  have hl : lv_has ls 6 [(0, .ref (mw_a E 33)), (1, .ref (mw_a E (39 + j))), (2, .int 4), (3, .int 5)] := hl
  have hS : va_S (mw_A 75 E) s_.heap s_.heap [] := va_S.rf
  have hlt : hdC ts < 20000 := by have y := (h.1.lt a).1; rw [h.2.1] at y; exact y
  refine lv_iload_n C.1 C.2.1 dX3_readLevel_0 rfl (lv_at hl 2 rfl) ?_
  refine lv_iconst (v := 4) C.1 C.2.1 dX3_readLevel_1 (by decide) ?_
  refine lv_icmp_le (tgt := 12) C.1 C.2.1 dX3_readLevel_2 (by decide) (fun c1 => ?_) (fun c1 => ?_)
  · refine lv_iload_n C.1 C.2.1 dX3_readLevel_12 rfl (lv_at hl 2 rfl) ?_
    refine lv_iconst (v := 2) C.1 C.2.1 dX3_readLevel_13 (by decide) ?_
    refine lv_icmp_ne (tgt := 40) C.1 C.2.1 dX3_readLevel_14 (by decide) (fun c2 => ?_) (fun c2 => ?_)
    · refine lv_aload_n C.1 C.2.1 dX3_readLevel_40 rfl (lv_at hl 0 rfl) ?_
      refine lv_aload_n C.1 C.2.1 dX3_readLevel_41 rfl (lv_at hl 1 rfl) ?_
      refine lv_iload_n C.1 C.2.1 dX3_readLevel_42 rfl (lv_at hl 2 rfl) ?_
      refine lv_iconst (v := 1) C.1 C.2.1 dX3_readLevel_43 (by decide) ?_
      refine lv_iadd C.1 C.2.1 dX3_readLevel_44 ?_
      refine mw_top (y := 5) (by decide) ?_
      refine lv_iload_n C.1 C.2.1 dX3_readLevel_45 rfl (lv_at hl 3 rfl) ?_
      refine mw_cVv (As := [.ref (mw_a E (39 + j)), .int 5, .int 5]) (rest := []) C Z hP hS (33) (cX_l5_5 l E σ T j hj a ts cs B (by omega) h) vb_X3_readLevel tw_2_216 ⟨rfl, rfl⟩ ⟨Nat.le_of_ble_eq_true rfl, Nat.le_of_ble_eq_true rfl⟩ (by decide) sx_33 rfl rfl rfl hl.1 rfl (Nat.le_of_ble_eq_true rfl) dX3_readLevel_46 ⟨Nat.zero_le _, Nat.zero_le _⟩ (fun u12 H locs q13 hP hS => ?_)
      obtain ⟨hx3, f4⟩ := q13
      rcases e5 : (gD 0).1 ts with ⟨cs6, ts7⟩ | qq10
      · rw [e5] at hx3
        obtain ⟨a8, po9⟩ := hx3
        have po9 : xPo u12 T j a8 ts7 (cs ++ cs6) B := po9
        refine lv_iconst (v := 0) C.1 C.2.1 dX3_readLevel_49 (by decide) ?_
        refine lv_istore (lv' := [(4, .int 0), (0, .ref (mw_a E 33)), (1, .ref (mw_a E (39 + j))), (2, .int 4), (3, .int 5)]) C.1 C.2.1 dX3_readLevel_50 hl (by decide) rfl (fun ls hl => ?_)
        have lpa : ∀ (N : Nat) (a1 : Nat) (t : Nat) (f : Nat) (ts1 : List (Nat × Nat)) (cs1 : List Nat) (ςa : mw_M) (H : Heap) (locs : List Loc), 161 ≤ t + N → (t ≤ 160) → (ts1.length ≤ f) → (t + ts1.length ≤ 160) → ((gLevel gTim (gD 0).1) ts = gLoop gTim (gD 0).1 f cs1 ts1) → (xPo ςa T j a1 ts1 (cs ++ cs1) B) → xPf j σ ςa → va_P (mw_D E) vwCl (mw_ws shX 75 E ςa) H → va_S (mw_A 75 E) s_.heap H locs → ∀ (ls : Array Slot), lv_has ls 6 [(0, .ref (mw_a E 33)), (1, .ref (mw_a E (39 + j))), (2, .int 4), (3, .int 5), (4, .int (nI t))] → xWv p_ l e_ (rmF 6 174) s_ m_ [.ref (mw_a E 33), .ref (mw_a E (39 + j)), .int 4, .int 5] below meth c_ E (fun u => xAf T j B cs ((gLevel gTim (gD 0).1) ts) u ∧ xPf j σ u) H locs (F0 m_ 52 ls []) := by
          intro N
          induction N with
          | zero => intros; exfalso; omega
          | succ N iha =>
            intro a1 t f ts1 cs1 ςa H locs hNa ht hf htl hsp hpo fra hP hS ls hl
            refine lv_iload C.1 C.2.1 dX3_readLevel_52 (lv_at hl 4 rfl) ?_
            refine lv_sipush (v := 160) C.1 C.2.1 dX3_readLevel_54 (by decide) ?_
            refine lv_icmp_ge (tgt := 128) C.1 C.2.1 dX3_readLevel_57 (by decide) (fun c14 => ?_) (fun c14 => ?_)
            · have c14 := (nI_leI (a := 160) (by decide) (by omega)).mp c14
              have e0 : ts1 = [] := List.eq_nil_of_length_eq_zero (by omega)
              exact mw_vret C hr hlk Z hP hS dX3_readLevel_128 (⟨xAf.gd (hsp.trans (gLoop_stop (by rw [e0]; decide))) hpo, fra⟩)
            · have c14 := (not_congr (nI_leI (a := 160) (by decide) (by omega))).mp c14
              refine lv_aload_n C.1 C.2.1 dX3_readLevel_60 rfl (lv_at hl 0 rfl) ?_
              refine mw_geti C Z hP (33) 2 (by decide) sx_33 rfl rfl (by decide) inX3 tw_1_155 dX3_readLevel_61 ?_
              refine mw_top (y := -1) (hpo.2.2.2.2.1) ?_
              refine lv_iconst (v := -1) C.1 C.2.1 dX3_readLevel_64 (by decide) ?_
              refine lv_icmp_ne (tgt := 128) C.1 C.2.1 dX3_readLevel_65 (by decide) (fun c15 => ?_) (fun c15 => ?_)
              · exact absurd c15 (by decide)
              · refine lv_aload_n C.1 C.2.1 dX3_readLevel_68 rfl (lv_at hl 0 rfl) ?_
                refine mw_getr C Z hP (33) 0 (34) (by decide) sx_33 rfl rfl (by decide) inX3 tw_1_153 dX3_readLevel_69 ?_
                refine lv_aload_n C.1 C.2.1 dX3_readLevel_72 rfl (lv_at hl 0 rfl) ?_
                refine mw_geti C Z hP (33) 1 (by decide) sx_33 rfl rfl (by decide) inX3 tw_1_154 dX3_readLevel_73 ?_
                refine mw_top (y := nI a1) (hpo.2.2.2.1) ?_
                refine mw_cVi (As := [.int (nI a1)]) (rest := []) C Z hP hS (34) (cX_tokenAt l E ςa T.length hpo.1.2.1 hpo.1.1 a1 (by have y1 := hpo.1.1; have y2 := hpo.2.2.1; omega)) vb_X10_tokenAt tw_2_204 ⟨rfl, rfl⟩ ⟨Nat.le_of_ble_eq_true rfl, Nat.le_of_ble_eq_true rfl⟩ (by decide) sx_34 rfl rfl rfl hl.1 rfl (Nat.le_of_ble_eq_true rfl) dX3_readLevel_76 ⟨Nat.zero_le _, Nat.zero_le _⟩ (fun r16 u17 H locs q18 hP hS => ?_)
                rw [(hpo.1.tok a1).1, hpo.2.1] at q18
                obtain ⟨rfl, q18u⟩ := q18
                rw [q18u] at hP; clear q18u
                refine lv_istore (lv' := [(5, .int (nI (hdC ts1))), (0, .ref (mw_a E 33)), (1, .ref (mw_a E (39 + j))), (2, .int 4), (3, .int 5), (4, .int (nI t))]) C.1 C.2.1 dX3_readLevel_79 hl (by decide) rfl (fun ls hl => ?_)
                refine lv_iload C.1 C.2.1 dX3_readLevel_81 (lv_at hl 0 rfl) ?_
                refine mw_cSi (As := [.int (nI (hdC ts1))]) (rest := []) C Z hP hS (cX_levelOf l E ςa (hdC ts1) (by have y := (hpo.1.lt a1).1; rw [hpo.2.1] at y; omega)) sb_X3_levelOf tw_2_232 ⟨rfl, rfl⟩ ⟨Nat.le_of_ble_eq_true rfl, Nat.le_of_ble_eq_true rfl⟩ rfl hl.1 rfl (Nat.le_of_ble_eq_true rfl) dX3_readLevel_83 ⟨Nat.zero_le _, Nat.zero_le _⟩ (fun r19 u20 H locs q21 hP hS => ?_)
                obtain ⟨rfl, q21u⟩ := q21
                rw [q21u] at hP; clear q21u
                refine lv_iload_n C.1 C.2.1 dX3_readLevel_86 rfl (lv_at hl 3 rfl) ?_
                refine lv_icmp_eq (tgt := 91) C.1 C.2.1 dX3_readLevel_87 (by decide) (fun c22 => ?_) (fun c22 => ?_)
                · have hop := lv_4.mp c22
                  have hne : hdC ts1 ≠ 21 := lv_21 c22 (by decide)
                  obtain ⟨f2, ef, egl⟩ := gLoop_go (x := (gD 0).1) (cs := cs1) hne hop hf
                  refine lv_aload_n C.1 C.2.1 dX3_readLevel_91 rfl (lv_at hl 1 rfl) ?_
                  refine lv_dup C.1 C.2.1 dX3_readLevel_92 rfl ?_
                  refine mw_geti C Z hP (33) 1 (by decide) sx_33 rfl rfl (by decide) inX3 tw_1_154 dX3_readLevel_93 ?_
                  refine mw_top (y := nI a1) (hpo.2.2.2.1) ?_
                  refine lv_iconst (v := 1) C.1 C.2.1 dX3_readLevel_96 (by decide) ?_
                  refine lv_iadd C.1 C.2.1 dX3_readLevel_97 ?_
                  refine mw_top (y := nI (a1 + 1)) (nI_1 _) ?_
                  refine mw_puti C Z hP hS (33) 1 (by decide) sx_33 rfl rfl (by decide) inX3 tyX3 tyX3_ok nmX3 rfl tw_1_154 rfl rfl dX3_readLevel_98 (fun H locs hP hS => ?_)
                  have pn23 := hpo.next hj hne
                  have hb24 := pn23.2
                  refine lv_aload_n C.1 C.2.1 dX3_readLevel_101 rfl (lv_at hl 1 rfl) ?_
                  refine lv_aload_n C.1 C.2.1 dX3_readLevel_102 rfl (lv_at hl 2 rfl) ?_
                  refine lv_iload_n C.1 C.2.1 dX3_readLevel_103 rfl (lv_at hl 3 rfl) ?_
                  refine lv_iconst (v := 1) C.1 C.2.1 dX3_readLevel_104 (by decide) ?_
                  refine lv_iadd C.1 C.2.1 dX3_readLevel_105 ?_
                  refine mw_top (y := 5) (by decide) ?_
                  refine lv_iload_n C.1 C.2.1 dX3_readLevel_106 rfl (lv_at hl 4 rfl) ?_
                  refine mw_cVv (As := [.ref (mw_a E (39 + j)), .int 5, .int 5]) (rest := []) C Z hP hS (33) (cX_l5_5 l E (mw_si ςa 33 1 (nI (a1 + 1))) T j hj (a1 + 1) (ts1.tail) ((cs ++ cs1)) (B - 1) (by omega) pn23.1) vb_X3_readLevel tw_2_216 ⟨rfl, rfl⟩ ⟨Nat.le_of_ble_eq_true rfl, Nat.le_of_ble_eq_true rfl⟩ (by decide) sx_33 rfl rfl rfl hl.1 rfl (Nat.le_of_ble_eq_true rfl) dX3_readLevel_107 ⟨Nat.zero_le _, Nat.zero_le _⟩ (fun u34 H locs q35 hP hS => ?_)
                  obtain ⟨hx25, f26⟩ := q35
                  rcases e27 : (gD 0).1 (ts1.tail) with ⟨cs28, ts29⟩ | qq32
                  · rw [e27] at hx25
                    obtain ⟨a30, po31⟩ := hx25
                    have po31 : xPo u34 T j a30 ts29 ((cs ++ cs1) ++ cs28) (B - 1) := po31
                    refine lv_aload_n C.1 C.2.1 dX3_readLevel_110 rfl (lv_at hl 2 rfl) ?_
                    refine lv_iload C.1 C.2.1 dX3_readLevel_111 (lv_at hl 0 rfl) ?_
                    refine mw_cVv (As := [.int (nI (hdC ts1))]) (rest := []) C Z hP hS (39 + j) (cX_add l E u34 j hj (((cs ++ cs1) ++ cs28)).length po31.2.2.2.2.2.1.1 (by have y := po31.2.2.2.2.2.2; omega) (nI (hdC ts1))) vb_X8_add tw_2_224 ⟨rfl, rfl⟩ ⟨Nat.le_of_ble_eq_true rfl, Nat.le_of_ble_eq_true rfl⟩ (by omega) (sx_tx (by omega)) rfl rfl rfl hl.1 rfl (Nat.le_of_ble_eq_true rfl) dX3_readLevel_113 ⟨Nat.zero_le _, Nat.zero_le _⟩ (fun u37 H locs q38 hP hS => ?_)
                    have e39 := q38.1 (by have y := po31.2.2.2.2.2.2; omega)
                    subst e39
                    have po40 := (po31.add hj (hdC ts1)).wk (C := B) (by omega)
                    refine lv_iload_n C.1 C.2.1 dX3_readLevel_116 rfl (lv_at hl 3 rfl) ?_
                    refine lv_iconst (v := 2) C.1 C.2.1 dX3_readLevel_117 (by decide) ?_
                    refine lv_icmp_ne (tgt := 122) C.1 C.2.1 dX3_readLevel_118 (by decide) (fun c41 => ?_) (fun c41 => ?_)
                    · refine lv_iinc (v := nI (t + 1)) (lv' := [(4, .int (nI (t + 1))), (5, .int (nI (hdC ts1))), (0, .ref (mw_a E 33)), (1, .ref (mw_a E (39 + j))), (2, .int 4), (3, .int 5)]) C.1 C.2.1 dX3_readLevel_122 hl (k := 5) rfl (nI_1 _) (by decide) rfl (fun ls hl => ?_)
                      refine lv_goto (tgt := 52) C.1 C.2.1 dX3_readLevel_125 (by decide) ?_
                      exact iha a30 (t + 1) f2 ts29 (cs1 ++ cs28 ++ [hdC ts1]) (mw_si (mw_sa u34 (45 + j) (((cs ++ cs1) ++ cs28)).length (nI (hdC ts1))) (39 + j) 3 (nI ((((cs ++ cs1) ++ cs28)).length + 1))) _ _ (by omega) (by omega) (by have y1 := ((gD_dec 0).1) _ _ _ e27; have y2 := tail_len hne; omega) (by have y1 := ((gD_dec 0).1) _ _ _ e27; have y2 := tail_len hne; omega) (hsp.trans (egl.trans (by rw [e27]))) ((by rw [← List.append_assoc]; rw [← List.append_assoc]; exact po40)) (((fra.rd _ _).tr f26).ad _ _ _) hP hS ls (lv_sub hl [2, 3, 4, 5, 0] rfl)
                    · exact absurd c41 (by decide)
                  · rw [e27] at hx25
                    have po31 : xPb u34 T j qq32 := hx25
                    refine lv_aload_n C.1 C.2.1 dX3_readLevel_110 rfl (lv_at hl 2 rfl) ?_
                    refine lv_iload C.1 C.2.1 dX3_readLevel_111 (lv_at hl 0 rfl) ?_
                    obtain ⟨k42, hk43, ek44⟩ := po31.2.2.2
                    refine mw_cVv (As := [.int (nI (hdC ts1))]) (rest := []) C Z hP hS (39 + j) (cX_add l E u34 j hj k42 ek44 hk43 (nI (hdC ts1))) vb_X8_add tw_2_224 ⟨rfl, rfl⟩ ⟨Nat.le_of_ble_eq_true rfl, Nat.le_of_ble_eq_true rfl⟩ (by omega) (sx_tx (by omega)) rfl rfl rfl hl.1 rfl (Nat.le_of_ble_eq_true rfl) dX3_readLevel_113 ⟨Nat.zero_le _, Nat.zero_le _⟩ (fun u47 H locs q48 hP hS => ?_)
                    have w45 := xPb.add po31 hj hk43 q48
                    refine lv_iload_n C.1 C.2.1 dX3_readLevel_116 rfl (lv_at hl 3 rfl) ?_
                    refine lv_iconst (v := 2) C.1 C.2.1 dX3_readLevel_117 (by decide) ?_
                    refine lv_icmp_ne (tgt := 122) C.1 C.2.1 dX3_readLevel_118 (by decide) (fun c49 => ?_) (fun c49 => ?_)
                    · refine lv_iinc (v := nI (t + 1)) (lv' := [(4, .int (nI (t + 1))), (5, .int (nI (hdC ts1))), (0, .ref (mw_a E 33)), (1, .ref (mw_a E (39 + j))), (2, .int 4), (3, .int 5)]) C.1 C.2.1 dX3_readLevel_122 hl (k := 5) rfl (nI_1 _) (by decide) rfl (fun ls hl => ?_)
                      refine lv_goto (tgt := 52) C.1 C.2.1 dX3_readLevel_125 (by decide) ?_
                      refine lv_iload C.1 C.2.1 dX3_readLevel_52 (lv_at hl 0 rfl) ?_
                      refine lv_sipush (v := 160) C.1 C.2.1 dX3_readLevel_54 (by decide) ?_
                      refine lv_icmp_ge (tgt := 128) C.1 C.2.1 dX3_readLevel_57 (by decide) (fun c50 => ?_) (fun c50 => ?_)
                      · exact mw_vret C hr hlk Z hP hS dX3_readLevel_128 (⟨xAf.bd (hsp.trans (egl.trans (by rw [e27]))) w45.1, (((fra.rd _ _).tr f26).tr w45.2)⟩)
                      · refine lv_aload_n C.1 C.2.1 dX3_readLevel_60 rfl (lv_at hl 2 rfl) ?_
                        refine mw_geti C Z hP (33) 2 (by decide) sx_33 rfl rfl (by decide) inX3 tw_1_155 dX3_readLevel_61 ?_
                        refine mw_top (y := nI qq32) (w45.1.2.2.1.1) ?_
                        refine lv_iconst (v := -1) C.1 C.2.1 dX3_readLevel_64 (by decide) ?_
                        refine lv_icmp_ne (tgt := 128) C.1 C.2.1 dX3_readLevel_65 (by decide) (fun c51 => ?_) (fun c51 => ?_)
                        · exact mw_vret C hr hlk Z hP hS dX3_readLevel_128 (⟨xAf.bd (hsp.trans (egl.trans (by rw [e27]))) w45.1, (((fra.rd _ _).tr f26).tr w45.2)⟩)
                        · exact absurd c51 (nI_nm1 (by have y := w45.1.2.2.1.2; omega))
                    · exact absurd c49 (by decide)
                · have hnop : ¬ gTim (hdC ts1) = true := fun y => c22 (lv_4.mpr y)
                  exact mw_vret C hr hlk Z hP hS dX3_readLevel_90 (⟨xAf.gd (hsp.trans (gLoop_stop hnop)) hpo, fra⟩)
        exact lpa (161) a8 0 (ts7.length) ts7 cs6 u12 _ _ (by omega) (by omega) (Nat.le_refl _) (by have y := po9.2.2.2.2.2.2; omega) ((gLevel_g e5)) (po9) ((xPf.rf j σ).tr f4) hP hS ls (lv_sub hl [1, 2, 3, 4, 0] rfl)
      · rw [e5] at hx3
        have po9 : xPb u12 T j qq10 := hx3
        refine lv_iconst (v := 0) C.1 C.2.1 dX3_readLevel_49 (by decide) ?_
        refine lv_istore (lv' := [(4, .int 0), (0, .ref (mw_a E 33)), (1, .ref (mw_a E (39 + j))), (2, .int 4), (3, .int 5)]) C.1 C.2.1 dX3_readLevel_50 hl (by decide) rfl (fun ls hl => ?_)
        refine lv_iload C.1 C.2.1 dX3_readLevel_52 (lv_at hl 0 rfl) ?_
        refine lv_sipush (v := 160) C.1 C.2.1 dX3_readLevel_54 (by decide) ?_
        refine lv_icmp_ge (tgt := 128) C.1 C.2.1 dX3_readLevel_57 (by decide) (fun c52 => ?_) (fun c52 => ?_)
        · exact absurd c52 (by decide)
        · refine lv_aload_n C.1 C.2.1 dX3_readLevel_60 rfl (lv_at hl 1 rfl) ?_
          refine mw_geti C Z hP (33) 2 (by decide) sx_33 rfl rfl (by decide) inX3 tw_1_155 dX3_readLevel_61 ?_
          refine mw_top (y := nI qq10) (po9.2.2.1.1) ?_
          refine lv_iconst (v := -1) C.1 C.2.1 dX3_readLevel_64 (by decide) ?_
          refine lv_icmp_ne (tgt := 128) C.1 C.2.1 dX3_readLevel_65 (by decide) (fun c53 => ?_) (fun c53 => ?_)
          · exact mw_vret C hr hlk Z hP hS dX3_readLevel_128 (⟨xAf.bd ((gLevel_b e5)) po9, ((xPf.rf j σ).tr f4)⟩)
          · exact absurd c53 (nI_nm1 (by have y := po9.2.2.1.2; omega))
    · exact absurd c2 (by decide)
  · exact absurd c1 (by decide)

set_option maxHeartbeats 4000000 in
set_option maxRecDepth 100000 in
theorem cX_l3_5 (l : Launch) (E : mw_E) (σ : mw_M) (T : List (Nat × Nat)) (j : Nat) (hj : j < 6) (a : Nat) (ts : List (Nat × Nat)) (cs : List Nat) (B : Nat) (hB : B ≤ 160) (h : xPo σ T j a ts cs B) : mw_Cv shX 75 gX l yX3_readLevel cX3_readLevel 6 none (rmF 7 199) E [.ref (mw_a E 33), .ref (mw_a E (39 + j)), .int 3, .int 5] σ (fun u => xAf T j B cs ((gLevel gAdd (gLevel gTim (gD 0).1)) ts) u ∧ xPf j σ u) := by
  refine mw_of (by decide) gX_ok (Nat.le_of_ble_eq_true rfl) ?_
  intro p_ e_ s_ m_ below meth c_ C hr hlk Z hP ls hl
  have C : CallFix p_ m_ c_ cX3_readLevel 6 s_ _ lw_good RX3 := C
  have hl : lv_has ls 6 [(0, .ref (mw_a E 33)), (1, .ref (mw_a E (39 + j))), (2, .int 3), (3, .int 5)] := hl
  have hS : va_S (mw_A 75 E) s_.heap s_.heap [] := va_S.rf
  have hlt : hdC ts < 20000 := by have y := (h.1.lt a).1; rw [h.2.1] at y; exact y
  refine lv_iload_n C.1 C.2.1 dX3_readLevel_0 rfl (lv_at hl 2 rfl) ?_
  refine lv_iconst (v := 4) C.1 C.2.1 dX3_readLevel_1 (by decide) ?_
  refine lv_icmp_le (tgt := 12) C.1 C.2.1 dX3_readLevel_2 (by decide) (fun c1 => ?_) (fun c1 => ?_)
  · refine lv_iload_n C.1 C.2.1 dX3_readLevel_12 rfl (lv_at hl 2 rfl) ?_
    refine lv_iconst (v := 2) C.1 C.2.1 dX3_readLevel_13 (by decide) ?_
    refine lv_icmp_ne (tgt := 40) C.1 C.2.1 dX3_readLevel_14 (by decide) (fun c2 => ?_) (fun c2 => ?_)
    · refine lv_aload_n C.1 C.2.1 dX3_readLevel_40 rfl (lv_at hl 0 rfl) ?_
      refine lv_aload_n C.1 C.2.1 dX3_readLevel_41 rfl (lv_at hl 1 rfl) ?_
      refine lv_iload_n C.1 C.2.1 dX3_readLevel_42 rfl (lv_at hl 2 rfl) ?_
      refine lv_iconst (v := 1) C.1 C.2.1 dX3_readLevel_43 (by decide) ?_
      refine lv_iadd C.1 C.2.1 dX3_readLevel_44 ?_
      refine mw_top (y := 4) (by decide) ?_
      refine lv_iload_n C.1 C.2.1 dX3_readLevel_45 rfl (lv_at hl 3 rfl) ?_
      refine mw_cVv (As := [.ref (mw_a E (39 + j)), .int 4, .int 5]) (rest := []) C Z hP hS (33) (cX_l4_5 l E σ T j hj a ts cs B (by omega) h) vb_X3_readLevel tw_2_216 ⟨rfl, rfl⟩ ⟨Nat.le_of_ble_eq_true rfl, Nat.le_of_ble_eq_true rfl⟩ (by decide) sx_33 rfl rfl rfl hl.1 rfl (Nat.le_of_ble_eq_true rfl) dX3_readLevel_46 ⟨Nat.zero_le _, Nat.zero_le _⟩ (fun u12 H locs q13 hP hS => ?_)
      obtain ⟨hx3, f4⟩ := q13
      rcases e5 : (gLevel gTim (gD 0).1) ts with ⟨cs6, ts7⟩ | qq10
      · rw [e5] at hx3
        obtain ⟨a8, po9⟩ := hx3
        have po9 : xPo u12 T j a8 ts7 (cs ++ cs6) B := po9
        refine lv_iconst (v := 0) C.1 C.2.1 dX3_readLevel_49 (by decide) ?_
        refine lv_istore (lv' := [(4, .int 0), (0, .ref (mw_a E 33)), (1, .ref (mw_a E (39 + j))), (2, .int 3), (3, .int 5)]) C.1 C.2.1 dX3_readLevel_50 hl (by decide) rfl (fun ls hl => ?_)
        have lpa : ∀ (N : Nat) (a1 : Nat) (t : Nat) (f : Nat) (ts1 : List (Nat × Nat)) (cs1 : List Nat) (ςa : mw_M) (H : Heap) (locs : List Loc), 161 ≤ t + N → (t ≤ 160) → (ts1.length ≤ f) → (t + ts1.length ≤ 160) → ((gLevel gAdd (gLevel gTim (gD 0).1)) ts = gLoop gAdd (gLevel gTim (gD 0).1) f cs1 ts1) → (xPo ςa T j a1 ts1 (cs ++ cs1) B) → xPf j σ ςa → va_P (mw_D E) vwCl (mw_ws shX 75 E ςa) H → va_S (mw_A 75 E) s_.heap H locs → ∀ (ls : Array Slot), lv_has ls 6 [(0, .ref (mw_a E 33)), (1, .ref (mw_a E (39 + j))), (2, .int 3), (3, .int 5), (4, .int (nI t))] → xWv p_ l e_ (rmF 7 199) s_ m_ [.ref (mw_a E 33), .ref (mw_a E (39 + j)), .int 3, .int 5] below meth c_ E (fun u => xAf T j B cs ((gLevel gAdd (gLevel gTim (gD 0).1)) ts) u ∧ xPf j σ u) H locs (F0 m_ 52 ls []) := by
          intro N
          induction N with
          | zero => intros; exfalso; omega
          | succ N iha =>
            intro a1 t f ts1 cs1 ςa H locs hNa ht hf htl hsp hpo fra hP hS ls hl
            refine lv_iload C.1 C.2.1 dX3_readLevel_52 (lv_at hl 4 rfl) ?_
            refine lv_sipush (v := 160) C.1 C.2.1 dX3_readLevel_54 (by decide) ?_
            refine lv_icmp_ge (tgt := 128) C.1 C.2.1 dX3_readLevel_57 (by decide) (fun c14 => ?_) (fun c14 => ?_)
            · have c14 := (nI_leI (a := 160) (by decide) (by omega)).mp c14
              have e0 : ts1 = [] := List.eq_nil_of_length_eq_zero (by omega)
              exact mw_vret C hr hlk Z hP hS dX3_readLevel_128 (⟨xAf.gd (hsp.trans (gLoop_stop (by rw [e0]; decide))) hpo, fra⟩)
            · have c14 := (not_congr (nI_leI (a := 160) (by decide) (by omega))).mp c14
              refine lv_aload_n C.1 C.2.1 dX3_readLevel_60 rfl (lv_at hl 0 rfl) ?_
              refine mw_geti C Z hP (33) 2 (by decide) sx_33 rfl rfl (by decide) inX3 tw_1_155 dX3_readLevel_61 ?_
              refine mw_top (y := -1) (hpo.2.2.2.2.1) ?_
              refine lv_iconst (v := -1) C.1 C.2.1 dX3_readLevel_64 (by decide) ?_
              refine lv_icmp_ne (tgt := 128) C.1 C.2.1 dX3_readLevel_65 (by decide) (fun c15 => ?_) (fun c15 => ?_)
              · exact absurd c15 (by decide)
              · refine lv_aload_n C.1 C.2.1 dX3_readLevel_68 rfl (lv_at hl 0 rfl) ?_
                refine mw_getr C Z hP (33) 0 (34) (by decide) sx_33 rfl rfl (by decide) inX3 tw_1_153 dX3_readLevel_69 ?_
                refine lv_aload_n C.1 C.2.1 dX3_readLevel_72 rfl (lv_at hl 0 rfl) ?_
                refine mw_geti C Z hP (33) 1 (by decide) sx_33 rfl rfl (by decide) inX3 tw_1_154 dX3_readLevel_73 ?_
                refine mw_top (y := nI a1) (hpo.2.2.2.1) ?_
                refine mw_cVi (As := [.int (nI a1)]) (rest := []) C Z hP hS (34) (cX_tokenAt l E ςa T.length hpo.1.2.1 hpo.1.1 a1 (by have y1 := hpo.1.1; have y2 := hpo.2.2.1; omega)) vb_X10_tokenAt tw_2_204 ⟨rfl, rfl⟩ ⟨Nat.le_of_ble_eq_true rfl, Nat.le_of_ble_eq_true rfl⟩ (by decide) sx_34 rfl rfl rfl hl.1 rfl (Nat.le_of_ble_eq_true rfl) dX3_readLevel_76 ⟨Nat.zero_le _, Nat.zero_le _⟩ (fun r16 u17 H locs q18 hP hS => ?_)
                rw [(hpo.1.tok a1).1, hpo.2.1] at q18
                obtain ⟨rfl, q18u⟩ := q18
                rw [q18u] at hP; clear q18u
                refine lv_istore (lv' := [(5, .int (nI (hdC ts1))), (0, .ref (mw_a E 33)), (1, .ref (mw_a E (39 + j))), (2, .int 3), (3, .int 5), (4, .int (nI t))]) C.1 C.2.1 dX3_readLevel_79 hl (by decide) rfl (fun ls hl => ?_)
                refine lv_iload C.1 C.2.1 dX3_readLevel_81 (lv_at hl 0 rfl) ?_
                refine mw_cSi (As := [.int (nI (hdC ts1))]) (rest := []) C Z hP hS (cX_levelOf l E ςa (hdC ts1) (by have y := (hpo.1.lt a1).1; rw [hpo.2.1] at y; omega)) sb_X3_levelOf tw_2_232 ⟨rfl, rfl⟩ ⟨Nat.le_of_ble_eq_true rfl, Nat.le_of_ble_eq_true rfl⟩ rfl hl.1 rfl (Nat.le_of_ble_eq_true rfl) dX3_readLevel_83 ⟨Nat.zero_le _, Nat.zero_le _⟩ (fun r19 u20 H locs q21 hP hS => ?_)
                obtain ⟨rfl, q21u⟩ := q21
                rw [q21u] at hP; clear q21u
                refine lv_iload_n C.1 C.2.1 dX3_readLevel_86 rfl (lv_at hl 3 rfl) ?_
                refine lv_icmp_eq (tgt := 91) C.1 C.2.1 dX3_readLevel_87 (by decide) (fun c22 => ?_) (fun c22 => ?_)
                · have hop := lv_3.mp c22
                  have hne : hdC ts1 ≠ 21 := lv_21 c22 (by decide)
                  obtain ⟨f2, ef, egl⟩ := gLoop_go (x := (gLevel gTim (gD 0).1)) (cs := cs1) hne hop hf
                  refine lv_aload_n C.1 C.2.1 dX3_readLevel_91 rfl (lv_at hl 1 rfl) ?_
                  refine lv_dup C.1 C.2.1 dX3_readLevel_92 rfl ?_
                  refine mw_geti C Z hP (33) 1 (by decide) sx_33 rfl rfl (by decide) inX3 tw_1_154 dX3_readLevel_93 ?_
                  refine mw_top (y := nI a1) (hpo.2.2.2.1) ?_
                  refine lv_iconst (v := 1) C.1 C.2.1 dX3_readLevel_96 (by decide) ?_
                  refine lv_iadd C.1 C.2.1 dX3_readLevel_97 ?_
                  refine mw_top (y := nI (a1 + 1)) (nI_1 _) ?_
                  refine mw_puti C Z hP hS (33) 1 (by decide) sx_33 rfl rfl (by decide) inX3 tyX3 tyX3_ok nmX3 rfl tw_1_154 rfl rfl dX3_readLevel_98 (fun H locs hP hS => ?_)
                  have pn23 := hpo.next hj hne
                  have hb24 := pn23.2
                  refine lv_aload_n C.1 C.2.1 dX3_readLevel_101 rfl (lv_at hl 1 rfl) ?_
                  refine lv_aload_n C.1 C.2.1 dX3_readLevel_102 rfl (lv_at hl 2 rfl) ?_
                  refine lv_iload_n C.1 C.2.1 dX3_readLevel_103 rfl (lv_at hl 3 rfl) ?_
                  refine lv_iconst (v := 1) C.1 C.2.1 dX3_readLevel_104 (by decide) ?_
                  refine lv_iadd C.1 C.2.1 dX3_readLevel_105 ?_
                  refine mw_top (y := 4) (by decide) ?_
                  refine lv_iload_n C.1 C.2.1 dX3_readLevel_106 rfl (lv_at hl 4 rfl) ?_
                  refine mw_cVv (As := [.ref (mw_a E (39 + j)), .int 4, .int 5]) (rest := []) C Z hP hS (33) (cX_l4_5 l E (mw_si ςa 33 1 (nI (a1 + 1))) T j hj (a1 + 1) (ts1.tail) ((cs ++ cs1)) (B - 1) (by omega) pn23.1) vb_X3_readLevel tw_2_216 ⟨rfl, rfl⟩ ⟨Nat.le_of_ble_eq_true rfl, Nat.le_of_ble_eq_true rfl⟩ (by decide) sx_33 rfl rfl rfl hl.1 rfl (Nat.le_of_ble_eq_true rfl) dX3_readLevel_107 ⟨Nat.zero_le _, Nat.zero_le _⟩ (fun u34 H locs q35 hP hS => ?_)
                  obtain ⟨hx25, f26⟩ := q35
                  rcases e27 : (gLevel gTim (gD 0).1) (ts1.tail) with ⟨cs28, ts29⟩ | qq32
                  · rw [e27] at hx25
                    obtain ⟨a30, po31⟩ := hx25
                    have po31 : xPo u34 T j a30 ts29 ((cs ++ cs1) ++ cs28) (B - 1) := po31
                    refine lv_aload_n C.1 C.2.1 dX3_readLevel_110 rfl (lv_at hl 2 rfl) ?_
                    refine lv_iload C.1 C.2.1 dX3_readLevel_111 (lv_at hl 0 rfl) ?_
                    refine mw_cVv (As := [.int (nI (hdC ts1))]) (rest := []) C Z hP hS (39 + j) (cX_add l E u34 j hj (((cs ++ cs1) ++ cs28)).length po31.2.2.2.2.2.1.1 (by have y := po31.2.2.2.2.2.2; omega) (nI (hdC ts1))) vb_X8_add tw_2_224 ⟨rfl, rfl⟩ ⟨Nat.le_of_ble_eq_true rfl, Nat.le_of_ble_eq_true rfl⟩ (by omega) (sx_tx (by omega)) rfl rfl rfl hl.1 rfl (Nat.le_of_ble_eq_true rfl) dX3_readLevel_113 ⟨Nat.zero_le _, Nat.zero_le _⟩ (fun u37 H locs q38 hP hS => ?_)
                    have e39 := q38.1 (by have y := po31.2.2.2.2.2.2; omega)
                    subst e39
                    have po40 := (po31.add hj (hdC ts1)).wk (C := B) (by omega)
                    refine lv_iload_n C.1 C.2.1 dX3_readLevel_116 rfl (lv_at hl 3 rfl) ?_
                    refine lv_iconst (v := 2) C.1 C.2.1 dX3_readLevel_117 (by decide) ?_
                    refine lv_icmp_ne (tgt := 122) C.1 C.2.1 dX3_readLevel_118 (by decide) (fun c41 => ?_) (fun c41 => ?_)
                    · refine lv_iinc (v := nI (t + 1)) (lv' := [(4, .int (nI (t + 1))), (5, .int (nI (hdC ts1))), (0, .ref (mw_a E 33)), (1, .ref (mw_a E (39 + j))), (2, .int 3), (3, .int 5)]) C.1 C.2.1 dX3_readLevel_122 hl (k := 5) rfl (nI_1 _) (by decide) rfl (fun ls hl => ?_)
                      refine lv_goto (tgt := 52) C.1 C.2.1 dX3_readLevel_125 (by decide) ?_
                      exact iha a30 (t + 1) f2 ts29 (cs1 ++ cs28 ++ [hdC ts1]) (mw_si (mw_sa u34 (45 + j) (((cs ++ cs1) ++ cs28)).length (nI (hdC ts1))) (39 + j) 3 (nI ((((cs ++ cs1) ++ cs28)).length + 1))) _ _ (by omega) (by omega) (by have y1 := (gLevel_dec (gD_dec 0).1) _ _ _ e27; have y2 := tail_len hne; omega) (by have y1 := (gLevel_dec (gD_dec 0).1) _ _ _ e27; have y2 := tail_len hne; omega) (hsp.trans (egl.trans (by rw [e27]))) ((by rw [← List.append_assoc]; rw [← List.append_assoc]; exact po40)) (((fra.rd _ _).tr f26).ad _ _ _) hP hS ls (lv_sub hl [2, 3, 4, 5, 0] rfl)
                    · exact absurd c41 (by decide)
                  · rw [e27] at hx25
                    have po31 : xPb u34 T j qq32 := hx25
                    refine lv_aload_n C.1 C.2.1 dX3_readLevel_110 rfl (lv_at hl 2 rfl) ?_
                    refine lv_iload C.1 C.2.1 dX3_readLevel_111 (lv_at hl 0 rfl) ?_
                    obtain ⟨k42, hk43, ek44⟩ := po31.2.2.2
                    refine mw_cVv (As := [.int (nI (hdC ts1))]) (rest := []) C Z hP hS (39 + j) (cX_add l E u34 j hj k42 ek44 hk43 (nI (hdC ts1))) vb_X8_add tw_2_224 ⟨rfl, rfl⟩ ⟨Nat.le_of_ble_eq_true rfl, Nat.le_of_ble_eq_true rfl⟩ (by omega) (sx_tx (by omega)) rfl rfl rfl hl.1 rfl (Nat.le_of_ble_eq_true rfl) dX3_readLevel_113 ⟨Nat.zero_le _, Nat.zero_le _⟩ (fun u47 H locs q48 hP hS => ?_)
                    have w45 := xPb.add po31 hj hk43 q48
                    refine lv_iload_n C.1 C.2.1 dX3_readLevel_116 rfl (lv_at hl 3 rfl) ?_
                    refine lv_iconst (v := 2) C.1 C.2.1 dX3_readLevel_117 (by decide) ?_
                    refine lv_icmp_ne (tgt := 122) C.1 C.2.1 dX3_readLevel_118 (by decide) (fun c49 => ?_) (fun c49 => ?_)
                    · refine lv_iinc (v := nI (t + 1)) (lv' := [(4, .int (nI (t + 1))), (5, .int (nI (hdC ts1))), (0, .ref (mw_a E 33)), (1, .ref (mw_a E (39 + j))), (2, .int 3), (3, .int 5)]) C.1 C.2.1 dX3_readLevel_122 hl (k := 5) rfl (nI_1 _) (by decide) rfl (fun ls hl => ?_)
                      refine lv_goto (tgt := 52) C.1 C.2.1 dX3_readLevel_125 (by decide) ?_
                      refine lv_iload C.1 C.2.1 dX3_readLevel_52 (lv_at hl 0 rfl) ?_
                      refine lv_sipush (v := 160) C.1 C.2.1 dX3_readLevel_54 (by decide) ?_
                      refine lv_icmp_ge (tgt := 128) C.1 C.2.1 dX3_readLevel_57 (by decide) (fun c50 => ?_) (fun c50 => ?_)
                      · exact mw_vret C hr hlk Z hP hS dX3_readLevel_128 (⟨xAf.bd (hsp.trans (egl.trans (by rw [e27]))) w45.1, (((fra.rd _ _).tr f26).tr w45.2)⟩)
                      · refine lv_aload_n C.1 C.2.1 dX3_readLevel_60 rfl (lv_at hl 2 rfl) ?_
                        refine mw_geti C Z hP (33) 2 (by decide) sx_33 rfl rfl (by decide) inX3 tw_1_155 dX3_readLevel_61 ?_
                        refine mw_top (y := nI qq32) (w45.1.2.2.1.1) ?_
                        refine lv_iconst (v := -1) C.1 C.2.1 dX3_readLevel_64 (by decide) ?_
                        refine lv_icmp_ne (tgt := 128) C.1 C.2.1 dX3_readLevel_65 (by decide) (fun c51 => ?_) (fun c51 => ?_)
                        · exact mw_vret C hr hlk Z hP hS dX3_readLevel_128 (⟨xAf.bd (hsp.trans (egl.trans (by rw [e27]))) w45.1, (((fra.rd _ _).tr f26).tr w45.2)⟩)
                        · exact absurd c51 (nI_nm1 (by have y := w45.1.2.2.1.2; omega))
                    · exact absurd c49 (by decide)
                · have hnop : ¬ gAdd (hdC ts1) = true := fun y => c22 (lv_3.mpr y)
                  exact mw_vret C hr hlk Z hP hS dX3_readLevel_90 (⟨xAf.gd (hsp.trans (gLoop_stop hnop)) hpo, fra⟩)
        exact lpa (161) a8 0 (ts7.length) ts7 cs6 u12 _ _ (by omega) (by omega) (Nat.le_refl _) (by have y := po9.2.2.2.2.2.2; omega) ((gLevel_g e5)) (po9) ((xPf.rf j σ).tr f4) hP hS ls (lv_sub hl [1, 2, 3, 4, 0] rfl)
      · rw [e5] at hx3
        have po9 : xPb u12 T j qq10 := hx3
        refine lv_iconst (v := 0) C.1 C.2.1 dX3_readLevel_49 (by decide) ?_
        refine lv_istore (lv' := [(4, .int 0), (0, .ref (mw_a E 33)), (1, .ref (mw_a E (39 + j))), (2, .int 3), (3, .int 5)]) C.1 C.2.1 dX3_readLevel_50 hl (by decide) rfl (fun ls hl => ?_)
        refine lv_iload C.1 C.2.1 dX3_readLevel_52 (lv_at hl 0 rfl) ?_
        refine lv_sipush (v := 160) C.1 C.2.1 dX3_readLevel_54 (by decide) ?_
        refine lv_icmp_ge (tgt := 128) C.1 C.2.1 dX3_readLevel_57 (by decide) (fun c52 => ?_) (fun c52 => ?_)
        · exact absurd c52 (by decide)
        · refine lv_aload_n C.1 C.2.1 dX3_readLevel_60 rfl (lv_at hl 1 rfl) ?_
          refine mw_geti C Z hP (33) 2 (by decide) sx_33 rfl rfl (by decide) inX3 tw_1_155 dX3_readLevel_61 ?_
          refine mw_top (y := nI qq10) (po9.2.2.1.1) ?_
          refine lv_iconst (v := -1) C.1 C.2.1 dX3_readLevel_64 (by decide) ?_
          refine lv_icmp_ne (tgt := 128) C.1 C.2.1 dX3_readLevel_65 (by decide) (fun c53 => ?_) (fun c53 => ?_)
          · exact mw_vret C hr hlk Z hP hS dX3_readLevel_128 (⟨xAf.bd ((gLevel_b e5)) po9, ((xPf.rf j σ).tr f4)⟩)
          · exact absurd c53 (nI_nm1 (by have y := po9.2.2.1.2; omega))
    · exact absurd c2 (by decide)
  · exact absurd c1 (by decide)

set_option maxHeartbeats 4000000 in
set_option maxRecDepth 100000 in
theorem cX_not5 (l : Launch) (E : mw_E) (σ : mw_M) (T : List (Nat × Nat)) (j : Nat) (hj : j < 6) (a : Nat) (ts : List (Nat × Nat)) (cs : List Nat) (B : Nat) (hB : B ≤ 160) (h : xPo σ T j a ts cs B) (h11 : hdC ts = 11) : mw_Cv shX 75 gX l yX3_readNot cX3_readNot 3 none (rmF 4 126) E [.ref (mw_a E 33), .ref (mw_a E (39 + j)), .int 5] σ (fun u => xAf T j B cs ((gD 0).2.1 ts) u ∧ xPf j σ u) := by
  refine mw_of (by decide) gX_ok (Nat.le_of_ble_eq_true rfl) ?_
  intro p_ e_ s_ m_ below meth c_ C hr hlk Z hP ls hl
  have C : CallFix p_ m_ c_ cX3_readNot 3 s_ _ lw_good RX3 := C
  have hl : lv_has ls 3 [(0, .ref (mw_a E 33)), (1, .ref (mw_a E (39 + j))), (2, .int 5)] := hl
  have hS : va_S (mw_A 75 E) s_.heap s_.heap [] := va_S.rf
  have hlt : hdC ts < 20000 := by have y := (h.1.lt a).1; rw [h.2.1] at y; exact y
  have hne : hdC ts ≠ 21 := by omega
  refine lv_aload_n C.1 C.2.1 dX3_readNot_0 rfl (lv_at hl 0 rfl) ?_
  refine mw_geti C Z hP (33) 2 (by decide) sx_33 rfl rfl (by decide) inX3 tw_1_155 dX3_readNot_1 ?_
  refine mw_top (y := -1) (h.2.2.2.2.1) ?_
  refine lv_iconst (v := -1) C.1 C.2.1 dX3_readNot_4 (by decide) ?_
  refine lv_icmp_ne (tgt := 13) C.1 C.2.1 dX3_readNot_5 (by decide) (fun c1 => ?_) (fun c1 => ?_)
  · exact absurd c1 (by decide)
  · refine lv_iload_n C.1 C.2.1 dX3_readNot_8 rfl (lv_at hl 2 rfl) ?_
    refine lv_iconst (v := 5) C.1 C.2.1 dX3_readNot_9 (by decide) ?_
    refine lv_icmp_lt (tgt := 18) C.1 C.2.1 dX3_readNot_10 (by decide) (fun c2 => ?_) (fun c2 => ?_)
    · exact absurd c2 (by decide)
    · refine lv_aload_n C.1 C.2.1 dX3_readNot_13 rfl (lv_at hl 0 rfl) ?_
      refine mw_cVv (As := []) (rest := []) C Z hP hS (33) (cX_failG l E σ T j hj a ts cs B (by omega) h) vb_X3_fail tw_2_208 ⟨rfl, rfl⟩ ⟨Nat.le_of_ble_eq_true rfl, Nat.le_of_ble_eq_true rfl⟩ (by decide) sx_33 rfl rfl rfl hl.1 rfl (Nat.le_of_ble_eq_true rfl) dX3_readNot_14 ⟨Nat.zero_le _, Nat.zero_le _⟩ (fun u4 H locs q5 hP hS => ?_)
      subst q5
      exact mw_vret C hr hlk Z hP hS dX3_readNot_17 (⟨xAf.bd ((congrFun gN_0 ts).trans (gNot_t h11 (f := (gD 0).1)).2) (h.fail hj (by have y := h.2.2.2.2.2.2; omega)), ((xPf.rf j σ).rd _ _)⟩)

set_option maxHeartbeats 4000000 in
set_option maxRecDepth 100000 in
theorem cX_l2_5 (l : Launch) (E : mw_E) (σ : mw_M) (T : List (Nat × Nat)) (j : Nat) (hj : j < 6) (a : Nat) (ts : List (Nat × Nat)) (cs : List Nat) (B : Nat) (hB : B ≤ 160) (h : xPo σ T j a ts cs B) : mw_Cv shX 75 gX l yX3_readLevel cX3_readLevel 6 none (rmF 8 224) E [.ref (mw_a E 33), .ref (mw_a E (39 + j)), .int 2, .int 5] σ (fun u => xAf T j B cs ((gD 0).2.1 ts) u ∧ xPf j σ u) := by
  refine mw_of (by decide) gX_ok (Nat.le_of_ble_eq_true rfl) ?_
  intro p_ e_ s_ m_ below meth c_ C hr hlk Z hP ls hl
  have C : CallFix p_ m_ c_ cX3_readLevel 6 s_ _ lw_good RX3 := C
  have hl : lv_has ls 6 [(0, .ref (mw_a E 33)), (1, .ref (mw_a E (39 + j))), (2, .int 2), (3, .int 5)] := hl
  have hS : va_S (mw_A 75 E) s_.heap s_.heap [] := va_S.rf
  have hlt : hdC ts < 20000 := by have y := (h.1.lt a).1; rw [h.2.1] at y; exact y
  refine lv_iload_n C.1 C.2.1 dX3_readLevel_0 rfl (lv_at hl 2 rfl) ?_
  refine lv_iconst (v := 4) C.1 C.2.1 dX3_readLevel_1 (by decide) ?_
  refine lv_icmp_le (tgt := 12) C.1 C.2.1 dX3_readLevel_2 (by decide) (fun c1 => ?_) (fun c1 => ?_)
  · refine lv_iload_n C.1 C.2.1 dX3_readLevel_12 rfl (lv_at hl 2 rfl) ?_
    refine lv_iconst (v := 2) C.1 C.2.1 dX3_readLevel_13 (by decide) ?_
    refine lv_icmp_ne (tgt := 40) C.1 C.2.1 dX3_readLevel_14 (by decide) (fun c2 => ?_) (fun c2 => ?_)
    · exact absurd c2 (by decide)
    · refine lv_aload_n C.1 C.2.1 dX3_readLevel_17 rfl (lv_at hl 0 rfl) ?_
      refine mw_getr C Z hP (33) 0 (34) (by decide) sx_33 rfl rfl (by decide) inX3 tw_1_153 dX3_readLevel_18 ?_
      refine lv_aload_n C.1 C.2.1 dX3_readLevel_21 rfl (lv_at hl 0 rfl) ?_
      refine mw_geti C Z hP (33) 1 (by decide) sx_33 rfl rfl (by decide) inX3 tw_1_154 dX3_readLevel_22 ?_
      refine mw_top (y := nI a) (h.2.2.2.1) ?_
      refine mw_cVi (As := [.int (nI a)]) (rest := []) C Z hP hS (34) (cX_tokenAt l E σ T.length h.1.2.1 h.1.1 a (by have y1 := h.1.1; have y2 := h.2.2.1; omega)) vb_X10_tokenAt tw_2_204 ⟨rfl, rfl⟩ ⟨Nat.le_of_ble_eq_true rfl, Nat.le_of_ble_eq_true rfl⟩ (by decide) sx_34 rfl rfl rfl hl.1 rfl (Nat.le_of_ble_eq_true rfl) dX3_readLevel_25 ⟨Nat.zero_le _, Nat.zero_le _⟩ (fun r3 u4 H locs q5 hP hS => ?_)
      rw [(h.1.tok a).1, h.2.1] at q5
      obtain ⟨rfl, q5u⟩ := q5
      rw [q5u] at hP; clear q5u
      refine lv_bipush (v := 11) C.1 C.2.1 dX3_readLevel_28 (by decide) ?_
      refine lv_icmp_ne (tgt := 40) C.1 C.2.1 dX3_readLevel_30 (by decide) (fun c6 => ?_) (fun c6 => ?_)
      · have hn11 : ¬ hdC ts = 11 := fun y => c6 (by rw [y]; rfl)
        refine lv_aload_n C.1 C.2.1 dX3_readLevel_40 rfl (lv_at hl 0 rfl) ?_
        refine lv_aload_n C.1 C.2.1 dX3_readLevel_41 rfl (lv_at hl 1 rfl) ?_
        refine lv_iload_n C.1 C.2.1 dX3_readLevel_42 rfl (lv_at hl 2 rfl) ?_
        refine lv_iconst (v := 1) C.1 C.2.1 dX3_readLevel_43 (by decide) ?_
        refine lv_iadd C.1 C.2.1 dX3_readLevel_44 ?_
        refine mw_top (y := 3) (by decide) ?_
        refine lv_iload_n C.1 C.2.1 dX3_readLevel_45 rfl (lv_at hl 3 rfl) ?_
        refine mw_cVv (As := [.ref (mw_a E (39 + j)), .int 3, .int 5]) (rest := []) C Z hP hS (33) (cX_l3_5 l E σ T j hj a ts cs B (by omega) h) vb_X3_readLevel tw_2_216 ⟨rfl, rfl⟩ ⟨Nat.le_of_ble_eq_true rfl, Nat.le_of_ble_eq_true rfl⟩ (by decide) sx_33 rfl rfl rfl hl.1 rfl (Nat.le_of_ble_eq_true rfl) dX3_readLevel_46 ⟨Nat.zero_le _, Nat.zero_le _⟩ (fun u16 H locs q17 hP hS => ?_)
        obtain ⟨hx7, f8⟩ := q17
        rcases e9 : (gLevel gAdd (gLevel gTim (gD 0).1)) ts with ⟨cs10, ts11⟩ | qq14
        · rw [e9] at hx7
          obtain ⟨a12, po13⟩ := hx7
          have po13 : xPo u16 T j a12 ts11 (cs ++ cs10) B := po13
          refine lv_iconst (v := 0) C.1 C.2.1 dX3_readLevel_49 (by decide) ?_
          refine lv_istore (lv' := [(4, .int 0), (0, .ref (mw_a E 33)), (1, .ref (mw_a E (39 + j))), (2, .int 2), (3, .int 5)]) C.1 C.2.1 dX3_readLevel_50 hl (by decide) rfl (fun ls hl => ?_)
          refine lv_iload C.1 C.2.1 dX3_readLevel_52 (lv_at hl 0 rfl) ?_
          refine lv_sipush (v := 160) C.1 C.2.1 dX3_readLevel_54 (by decide) ?_
          refine lv_icmp_ge (tgt := 128) C.1 C.2.1 dX3_readLevel_57 (by decide) (fun c18 => ?_) (fun c18 => ?_)
          · exact absurd c18 (by decide)
          · refine lv_aload_n C.1 C.2.1 dX3_readLevel_60 rfl (lv_at hl 1 rfl) ?_
            refine mw_geti C Z hP (33) 2 (by decide) sx_33 rfl rfl (by decide) inX3 tw_1_155 dX3_readLevel_61 ?_
            refine mw_top (y := -1) (po13.2.2.2.2.1) ?_
            refine lv_iconst (v := -1) C.1 C.2.1 dX3_readLevel_64 (by decide) ?_
            refine lv_icmp_ne (tgt := 128) C.1 C.2.1 dX3_readLevel_65 (by decide) (fun c19 => ?_) (fun c19 => ?_)
            · exact absurd c19 (by decide)
            · refine lv_aload_n C.1 C.2.1 dX3_readLevel_68 rfl (lv_at hl 1 rfl) ?_
              refine mw_getr C Z hP (33) 0 (34) (by decide) sx_33 rfl rfl (by decide) inX3 tw_1_153 dX3_readLevel_69 ?_
              refine lv_aload_n C.1 C.2.1 dX3_readLevel_72 rfl (lv_at hl 1 rfl) ?_
              refine mw_geti C Z hP (33) 1 (by decide) sx_33 rfl rfl (by decide) inX3 tw_1_154 dX3_readLevel_73 ?_
              refine mw_top (y := nI a12) (po13.2.2.2.1) ?_
              refine mw_cVi (As := [.int (nI a12)]) (rest := []) C Z hP hS (34) (cX_tokenAt l E u16 T.length po13.1.2.1 po13.1.1 a12 (by have y1 := po13.1.1; have y2 := po13.2.2.1; omega)) vb_X10_tokenAt tw_2_204 ⟨rfl, rfl⟩ ⟨Nat.le_of_ble_eq_true rfl, Nat.le_of_ble_eq_true rfl⟩ (by decide) sx_34 rfl rfl rfl hl.1 rfl (Nat.le_of_ble_eq_true rfl) dX3_readLevel_76 ⟨Nat.zero_le _, Nat.zero_le _⟩ (fun r20 u21 H locs q22 hP hS => ?_)
              rw [(po13.1.tok a12).1, po13.2.1] at q22
              obtain ⟨rfl, q22u⟩ := q22
              rw [q22u] at hP; clear q22u
              refine lv_istore (lv' := [(5, .int (nI (hdC ts11))), (4, .int 0), (0, .ref (mw_a E 33)), (1, .ref (mw_a E (39 + j))), (2, .int 2), (3, .int 5)]) C.1 C.2.1 dX3_readLevel_79 hl (by decide) rfl (fun ls hl => ?_)
              refine lv_iload C.1 C.2.1 dX3_readLevel_81 (lv_at hl 0 rfl) ?_
              refine mw_cSi (As := [.int (nI (hdC ts11))]) (rest := []) C Z hP hS (cX_levelOf l E u16 (hdC ts11) (by have y := (po13.1.lt a12).1; rw [po13.2.1] at y; omega)) sb_X3_levelOf tw_2_232 ⟨rfl, rfl⟩ ⟨Nat.le_of_ble_eq_true rfl, Nat.le_of_ble_eq_true rfl⟩ rfl hl.1 rfl (Nat.le_of_ble_eq_true rfl) dX3_readLevel_83 ⟨Nat.zero_le _, Nat.zero_le _⟩ (fun r23 u24 H locs q25 hP hS => ?_)
              obtain ⟨rfl, q25u⟩ := q25
              rw [q25u] at hP; clear q25u
              refine lv_iload_n C.1 C.2.1 dX3_readLevel_86 rfl (lv_at hl 4 rfl) ?_
              refine lv_icmp_eq (tgt := 91) C.1 C.2.1 dX3_readLevel_87 (by decide) (fun c26 => ?_) (fun c26 => ?_)
              · have hop := lv_2.mp c26
                have hne : hdC ts11 ≠ 21 := lv_21 c26 (by decide)
                refine lv_aload_n C.1 C.2.1 dX3_readLevel_91 rfl (lv_at hl 2 rfl) ?_
                refine lv_dup C.1 C.2.1 dX3_readLevel_92 rfl ?_
                refine mw_geti C Z hP (33) 1 (by decide) sx_33 rfl rfl (by decide) inX3 tw_1_154 dX3_readLevel_93 ?_
                refine mw_top (y := nI a12) (po13.2.2.2.1) ?_
                refine lv_iconst (v := 1) C.1 C.2.1 dX3_readLevel_96 (by decide) ?_
                refine lv_iadd C.1 C.2.1 dX3_readLevel_97 ?_
                refine mw_top (y := nI (a12 + 1)) (nI_1 _) ?_
                refine mw_puti C Z hP hS (33) 1 (by decide) sx_33 rfl rfl (by decide) inX3 tyX3 tyX3_ok nmX3 rfl tw_1_154 rfl rfl dX3_readLevel_98 (fun H locs hP hS => ?_)
                have pn27 := po13.next hj hne
                have hb28 := pn27.2
                refine lv_aload_n C.1 C.2.1 dX3_readLevel_101 rfl (lv_at hl 2 rfl) ?_
                refine lv_aload_n C.1 C.2.1 dX3_readLevel_102 rfl (lv_at hl 3 rfl) ?_
                refine lv_iload_n C.1 C.2.1 dX3_readLevel_103 rfl (lv_at hl 4 rfl) ?_
                refine lv_iconst (v := 1) C.1 C.2.1 dX3_readLevel_104 (by decide) ?_
                refine lv_iadd C.1 C.2.1 dX3_readLevel_105 ?_
                refine mw_top (y := 3) (by decide) ?_
                refine lv_iload_n C.1 C.2.1 dX3_readLevel_106 rfl (lv_at hl 5 rfl) ?_
                refine mw_cVv (As := [.ref (mw_a E (39 + j)), .int 3, .int 5]) (rest := []) C Z hP hS (33) (cX_l3_5 l E (mw_si u16 33 1 (nI (a12 + 1))) T j hj (a12 + 1) (ts11.tail) ((cs ++ cs10)) (B - 1) (by omega) pn27.1) vb_X3_readLevel tw_2_216 ⟨rfl, rfl⟩ ⟨Nat.le_of_ble_eq_true rfl, Nat.le_of_ble_eq_true rfl⟩ (by decide) sx_33 rfl rfl rfl hl.1 rfl (Nat.le_of_ble_eq_true rfl) dX3_readLevel_107 ⟨Nat.zero_le _, Nat.zero_le _⟩ (fun u38 H locs q39 hP hS => ?_)
                obtain ⟨hx29, f30⟩ := q39
                rcases e31 : (gLevel gAdd (gLevel gTim (gD 0).1)) (ts11.tail) with ⟨cs32, ts33⟩ | qq36
                · rw [e31] at hx29
                  obtain ⟨a34, po35⟩ := hx29
                  have po35 : xPo u38 T j a34 ts33 ((cs ++ cs10) ++ cs32) (B - 1) := po35
                  refine lv_aload_n C.1 C.2.1 dX3_readLevel_110 rfl (lv_at hl 3 rfl) ?_
                  refine lv_iload C.1 C.2.1 dX3_readLevel_111 (lv_at hl 0 rfl) ?_
                  refine mw_cVv (As := [.int (nI (hdC ts11))]) (rest := []) C Z hP hS (39 + j) (cX_add l E u38 j hj (((cs ++ cs10) ++ cs32)).length po35.2.2.2.2.2.1.1 (by have y := po35.2.2.2.2.2.2; omega) (nI (hdC ts11))) vb_X8_add tw_2_224 ⟨rfl, rfl⟩ ⟨Nat.le_of_ble_eq_true rfl, Nat.le_of_ble_eq_true rfl⟩ (by omega) (sx_tx (by omega)) rfl rfl rfl hl.1 rfl (Nat.le_of_ble_eq_true rfl) dX3_readLevel_113 ⟨Nat.zero_le _, Nat.zero_le _⟩ (fun u41 H locs q42 hP hS => ?_)
                  have e43 := q42.1 (by have y := po35.2.2.2.2.2.2; omega)
                  subst e43
                  have po44 := (po35.add hj (hdC ts11)).wk (C := B) (by omega)
                  refine lv_iload_n C.1 C.2.1 dX3_readLevel_116 rfl (lv_at hl 4 rfl) ?_
                  refine lv_iconst (v := 2) C.1 C.2.1 dX3_readLevel_117 (by decide) ?_
                  refine lv_icmp_ne (tgt := 122) C.1 C.2.1 dX3_readLevel_118 (by decide) (fun c45 => ?_) (fun c45 => ?_)
                  · exact absurd c45 (by decide)
                  · exact mw_vret C hr hlk Z hP hS dX3_readLevel_121 (⟨xAf.gd (((congrFun gN_0 ts).trans (gNot_f rfl hn11)).trans (gCmp_g1 e9 hop e31)) (by rw [← List.append_assoc]; rw [← List.append_assoc]; exact po44), (((((xPf.rf j σ).tr f8).rd _ _).tr f30).ad _ _ _)⟩)
                · rw [e31] at hx29
                  have po35 : xPb u38 T j qq36 := hx29
                  refine lv_aload_n C.1 C.2.1 dX3_readLevel_110 rfl (lv_at hl 3 rfl) ?_
                  refine lv_iload C.1 C.2.1 dX3_readLevel_111 (lv_at hl 0 rfl) ?_
                  obtain ⟨k46, hk47, ek48⟩ := po35.2.2.2
                  refine mw_cVv (As := [.int (nI (hdC ts11))]) (rest := []) C Z hP hS (39 + j) (cX_add l E u38 j hj k46 ek48 hk47 (nI (hdC ts11))) vb_X8_add tw_2_224 ⟨rfl, rfl⟩ ⟨Nat.le_of_ble_eq_true rfl, Nat.le_of_ble_eq_true rfl⟩ (by omega) (sx_tx (by omega)) rfl rfl rfl hl.1 rfl (Nat.le_of_ble_eq_true rfl) dX3_readLevel_113 ⟨Nat.zero_le _, Nat.zero_le _⟩ (fun u51 H locs q52 hP hS => ?_)
                  have w49 := xPb.add po35 hj hk47 q52
                  refine lv_iload_n C.1 C.2.1 dX3_readLevel_116 rfl (lv_at hl 4 rfl) ?_
                  refine lv_iconst (v := 2) C.1 C.2.1 dX3_readLevel_117 (by decide) ?_
                  refine lv_icmp_ne (tgt := 122) C.1 C.2.1 dX3_readLevel_118 (by decide) (fun c53 => ?_) (fun c53 => ?_)
                  · exact absurd c53 (by decide)
                  · exact mw_vret C hr hlk Z hP hS dX3_readLevel_121 (⟨xAf.bd (((congrFun gN_0 ts).trans (gNot_f rfl hn11)).trans (gCmp_g2 e9 hop e31)) w49.1, (((((xPf.rf j σ).tr f8).rd _ _).tr f30).tr w49.2)⟩)
              · have hnop : ¬ (hdC ts11 = 18 ∨ hdC ts11 = 19) := fun y => c26 (lv_2.mpr y)
                exact mw_vret C hr hlk Z hP hS dX3_readLevel_90 (⟨xAf.gd (((congrFun gN_0 ts).trans (gNot_f rfl hn11)).trans (gCmp_stop e9 hnop)) po13, ((xPf.rf j σ).tr f8)⟩)
        · rw [e9] at hx7
          have po13 : xPb u16 T j qq14 := hx7
          refine lv_iconst (v := 0) C.1 C.2.1 dX3_readLevel_49 (by decide) ?_
          refine lv_istore (lv' := [(4, .int 0), (0, .ref (mw_a E 33)), (1, .ref (mw_a E (39 + j))), (2, .int 2), (3, .int 5)]) C.1 C.2.1 dX3_readLevel_50 hl (by decide) rfl (fun ls hl => ?_)
          refine lv_iload C.1 C.2.1 dX3_readLevel_52 (lv_at hl 0 rfl) ?_
          refine lv_sipush (v := 160) C.1 C.2.1 dX3_readLevel_54 (by decide) ?_
          refine lv_icmp_ge (tgt := 128) C.1 C.2.1 dX3_readLevel_57 (by decide) (fun c54 => ?_) (fun c54 => ?_)
          · exact absurd c54 (by decide)
          · refine lv_aload_n C.1 C.2.1 dX3_readLevel_60 rfl (lv_at hl 1 rfl) ?_
            refine mw_geti C Z hP (33) 2 (by decide) sx_33 rfl rfl (by decide) inX3 tw_1_155 dX3_readLevel_61 ?_
            refine mw_top (y := nI qq14) (po13.2.2.1.1) ?_
            refine lv_iconst (v := -1) C.1 C.2.1 dX3_readLevel_64 (by decide) ?_
            refine lv_icmp_ne (tgt := 128) C.1 C.2.1 dX3_readLevel_65 (by decide) (fun c55 => ?_) (fun c55 => ?_)
            · exact mw_vret C hr hlk Z hP hS dX3_readLevel_128 (⟨xAf.bd (((congrFun gN_0 ts).trans (gNot_f rfl hn11)).trans (gCmp_b e9)) po13, ((xPf.rf j σ).tr f8)⟩)
            · exact absurd c55 (nI_nm1 (by have y := po13.2.2.1.2; omega))
      · have h11 : hdC ts = 11 := nI_eqI (b := 11) (by omega) (by decide) c6
        refine lv_aload_n C.1 C.2.1 dX3_readLevel_33 rfl (lv_at hl 0 rfl) ?_
        refine lv_aload_n C.1 C.2.1 dX3_readLevel_34 rfl (lv_at hl 1 rfl) ?_
        refine lv_iload_n C.1 C.2.1 dX3_readLevel_35 rfl (lv_at hl 3 rfl) ?_
        refine mw_cVv (As := [.ref (mw_a E (39 + j)), .int 5]) (rest := []) C Z hP hS (33) (cX_not5 l E σ T j hj a ts cs B (by omega) h h11) vb_X3_readNot tw_2_228 ⟨rfl, rfl⟩ ⟨Nat.le_of_ble_eq_true rfl, Nat.le_of_ble_eq_true rfl⟩ (by decide) sx_33 rfl rfl rfl hl.1 rfl (Nat.le_of_ble_eq_true rfl) dX3_readLevel_36 ⟨Nat.zero_le _, Nat.zero_le _⟩ (fun u65 H locs q66 hP hS => ?_)
        obtain ⟨hx56, f57⟩ := q66
        rcases e58 : (gD 0).2.1 ts with ⟨cs59, ts60⟩ | qq63
        · rw [e58] at hx56
          obtain ⟨a61, po62⟩ := hx56
          have po62 : xPo u65 T j a61 ts60 (cs ++ cs59) B := po62
          exact mw_vret C hr hlk Z hP hS dX3_readLevel_39 (⟨xAf.gd rfl po62, ((xPf.rf j σ).tr f57)⟩)
        · rw [e58] at hx56
          have po62 : xPb u65 T j qq63 := hx56
          exact mw_vret C hr hlk Z hP hS dX3_readLevel_39 (⟨xAf.bd rfl po62, ((xPf.rf j σ).tr f57)⟩)
  · exact absurd c1 (by decide)

set_option maxHeartbeats 4000000 in
set_option maxRecDepth 100000 in
theorem cX_l1_5 (l : Launch) (E : mw_E) (σ : mw_M) (T : List (Nat × Nat)) (j : Nat) (hj : j < 6) (a : Nat) (ts : List (Nat × Nat)) (cs : List Nat) (B : Nat) (hB : B ≤ 160) (h : xPo σ T j a ts cs B) : mw_Cv shX 75 gX l yX3_readLevel cX3_readLevel 6 none (rmF 9 249) E [.ref (mw_a E 33), .ref (mw_a E (39 + j)), .int 1, .int 5] σ (fun u => xAf T j B cs ((gLevel gAnd (gD 0).2.1) ts) u ∧ xPf j σ u) := by
  refine mw_of (by decide) gX_ok (Nat.le_of_ble_eq_true rfl) ?_
  intro p_ e_ s_ m_ below meth c_ C hr hlk Z hP ls hl
  have C : CallFix p_ m_ c_ cX3_readLevel 6 s_ _ lw_good RX3 := C
  have hl : lv_has ls 6 [(0, .ref (mw_a E 33)), (1, .ref (mw_a E (39 + j))), (2, .int 1), (3, .int 5)] := hl
  have hS : va_S (mw_A 75 E) s_.heap s_.heap [] := va_S.rf
  have hlt : hdC ts < 20000 := by have y := (h.1.lt a).1; rw [h.2.1] at y; exact y
  refine lv_iload_n C.1 C.2.1 dX3_readLevel_0 rfl (lv_at hl 2 rfl) ?_
  refine lv_iconst (v := 4) C.1 C.2.1 dX3_readLevel_1 (by decide) ?_
  refine lv_icmp_le (tgt := 12) C.1 C.2.1 dX3_readLevel_2 (by decide) (fun c1 => ?_) (fun c1 => ?_)
  · refine lv_iload_n C.1 C.2.1 dX3_readLevel_12 rfl (lv_at hl 2 rfl) ?_
    refine lv_iconst (v := 2) C.1 C.2.1 dX3_readLevel_13 (by decide) ?_
    refine lv_icmp_ne (tgt := 40) C.1 C.2.1 dX3_readLevel_14 (by decide) (fun c2 => ?_) (fun c2 => ?_)
    · refine lv_aload_n C.1 C.2.1 dX3_readLevel_40 rfl (lv_at hl 0 rfl) ?_
      refine lv_aload_n C.1 C.2.1 dX3_readLevel_41 rfl (lv_at hl 1 rfl) ?_
      refine lv_iload_n C.1 C.2.1 dX3_readLevel_42 rfl (lv_at hl 2 rfl) ?_
      refine lv_iconst (v := 1) C.1 C.2.1 dX3_readLevel_43 (by decide) ?_
      refine lv_iadd C.1 C.2.1 dX3_readLevel_44 ?_
      refine mw_top (y := 2) (by decide) ?_
      refine lv_iload_n C.1 C.2.1 dX3_readLevel_45 rfl (lv_at hl 3 rfl) ?_
      refine mw_cVv (As := [.ref (mw_a E (39 + j)), .int 2, .int 5]) (rest := []) C Z hP hS (33) (cX_l2_5 l E σ T j hj a ts cs B (by omega) h) vb_X3_readLevel tw_2_216 ⟨rfl, rfl⟩ ⟨Nat.le_of_ble_eq_true rfl, Nat.le_of_ble_eq_true rfl⟩ (by decide) sx_33 rfl rfl rfl hl.1 rfl (Nat.le_of_ble_eq_true rfl) dX3_readLevel_46 ⟨Nat.zero_le _, Nat.zero_le _⟩ (fun u12 H locs q13 hP hS => ?_)
      obtain ⟨hx3, f4⟩ := q13
      rcases e5 : (gD 0).2.1 ts with ⟨cs6, ts7⟩ | qq10
      · rw [e5] at hx3
        obtain ⟨a8, po9⟩ := hx3
        have po9 : xPo u12 T j a8 ts7 (cs ++ cs6) B := po9
        refine lv_iconst (v := 0) C.1 C.2.1 dX3_readLevel_49 (by decide) ?_
        refine lv_istore (lv' := [(4, .int 0), (0, .ref (mw_a E 33)), (1, .ref (mw_a E (39 + j))), (2, .int 1), (3, .int 5)]) C.1 C.2.1 dX3_readLevel_50 hl (by decide) rfl (fun ls hl => ?_)
        have lpa : ∀ (N : Nat) (a1 : Nat) (t : Nat) (f : Nat) (ts1 : List (Nat × Nat)) (cs1 : List Nat) (ςa : mw_M) (H : Heap) (locs : List Loc), 161 ≤ t + N → (t ≤ 160) → (ts1.length ≤ f) → (t + ts1.length ≤ 160) → ((gLevel gAnd (gD 0).2.1) ts = gLoop gAnd (gD 0).2.1 f cs1 ts1) → (xPo ςa T j a1 ts1 (cs ++ cs1) B) → xPf j σ ςa → va_P (mw_D E) vwCl (mw_ws shX 75 E ςa) H → va_S (mw_A 75 E) s_.heap H locs → ∀ (ls : Array Slot), lv_has ls 6 [(0, .ref (mw_a E 33)), (1, .ref (mw_a E (39 + j))), (2, .int 1), (3, .int 5), (4, .int (nI t))] → xWv p_ l e_ (rmF 9 249) s_ m_ [.ref (mw_a E 33), .ref (mw_a E (39 + j)), .int 1, .int 5] below meth c_ E (fun u => xAf T j B cs ((gLevel gAnd (gD 0).2.1) ts) u ∧ xPf j σ u) H locs (F0 m_ 52 ls []) := by
          intro N
          induction N with
          | zero => intros; exfalso; omega
          | succ N iha =>
            intro a1 t f ts1 cs1 ςa H locs hNa ht hf htl hsp hpo fra hP hS ls hl
            refine lv_iload C.1 C.2.1 dX3_readLevel_52 (lv_at hl 4 rfl) ?_
            refine lv_sipush (v := 160) C.1 C.2.1 dX3_readLevel_54 (by decide) ?_
            refine lv_icmp_ge (tgt := 128) C.1 C.2.1 dX3_readLevel_57 (by decide) (fun c14 => ?_) (fun c14 => ?_)
            · have c14 := (nI_leI (a := 160) (by decide) (by omega)).mp c14
              have e0 : ts1 = [] := List.eq_nil_of_length_eq_zero (by omega)
              exact mw_vret C hr hlk Z hP hS dX3_readLevel_128 (⟨xAf.gd (hsp.trans (gLoop_stop (by rw [e0]; decide))) hpo, fra⟩)
            · have c14 := (not_congr (nI_leI (a := 160) (by decide) (by omega))).mp c14
              refine lv_aload_n C.1 C.2.1 dX3_readLevel_60 rfl (lv_at hl 0 rfl) ?_
              refine mw_geti C Z hP (33) 2 (by decide) sx_33 rfl rfl (by decide) inX3 tw_1_155 dX3_readLevel_61 ?_
              refine mw_top (y := -1) (hpo.2.2.2.2.1) ?_
              refine lv_iconst (v := -1) C.1 C.2.1 dX3_readLevel_64 (by decide) ?_
              refine lv_icmp_ne (tgt := 128) C.1 C.2.1 dX3_readLevel_65 (by decide) (fun c15 => ?_) (fun c15 => ?_)
              · exact absurd c15 (by decide)
              · refine lv_aload_n C.1 C.2.1 dX3_readLevel_68 rfl (lv_at hl 0 rfl) ?_
                refine mw_getr C Z hP (33) 0 (34) (by decide) sx_33 rfl rfl (by decide) inX3 tw_1_153 dX3_readLevel_69 ?_
                refine lv_aload_n C.1 C.2.1 dX3_readLevel_72 rfl (lv_at hl 0 rfl) ?_
                refine mw_geti C Z hP (33) 1 (by decide) sx_33 rfl rfl (by decide) inX3 tw_1_154 dX3_readLevel_73 ?_
                refine mw_top (y := nI a1) (hpo.2.2.2.1) ?_
                refine mw_cVi (As := [.int (nI a1)]) (rest := []) C Z hP hS (34) (cX_tokenAt l E ςa T.length hpo.1.2.1 hpo.1.1 a1 (by have y1 := hpo.1.1; have y2 := hpo.2.2.1; omega)) vb_X10_tokenAt tw_2_204 ⟨rfl, rfl⟩ ⟨Nat.le_of_ble_eq_true rfl, Nat.le_of_ble_eq_true rfl⟩ (by decide) sx_34 rfl rfl rfl hl.1 rfl (Nat.le_of_ble_eq_true rfl) dX3_readLevel_76 ⟨Nat.zero_le _, Nat.zero_le _⟩ (fun r16 u17 H locs q18 hP hS => ?_)
                rw [(hpo.1.tok a1).1, hpo.2.1] at q18
                obtain ⟨rfl, q18u⟩ := q18
                rw [q18u] at hP; clear q18u
                refine lv_istore (lv' := [(5, .int (nI (hdC ts1))), (0, .ref (mw_a E 33)), (1, .ref (mw_a E (39 + j))), (2, .int 1), (3, .int 5), (4, .int (nI t))]) C.1 C.2.1 dX3_readLevel_79 hl (by decide) rfl (fun ls hl => ?_)
                refine lv_iload C.1 C.2.1 dX3_readLevel_81 (lv_at hl 0 rfl) ?_
                refine mw_cSi (As := [.int (nI (hdC ts1))]) (rest := []) C Z hP hS (cX_levelOf l E ςa (hdC ts1) (by have y := (hpo.1.lt a1).1; rw [hpo.2.1] at y; omega)) sb_X3_levelOf tw_2_232 ⟨rfl, rfl⟩ ⟨Nat.le_of_ble_eq_true rfl, Nat.le_of_ble_eq_true rfl⟩ rfl hl.1 rfl (Nat.le_of_ble_eq_true rfl) dX3_readLevel_83 ⟨Nat.zero_le _, Nat.zero_le _⟩ (fun r19 u20 H locs q21 hP hS => ?_)
                obtain ⟨rfl, q21u⟩ := q21
                rw [q21u] at hP; clear q21u
                refine lv_iload_n C.1 C.2.1 dX3_readLevel_86 rfl (lv_at hl 3 rfl) ?_
                refine lv_icmp_eq (tgt := 91) C.1 C.2.1 dX3_readLevel_87 (by decide) (fun c22 => ?_) (fun c22 => ?_)
                · have hop := lv_1.mp c22
                  have hne : hdC ts1 ≠ 21 := lv_21 c22 (by decide)
                  obtain ⟨f2, ef, egl⟩ := gLoop_go (x := (gD 0).2.1) (cs := cs1) hne hop hf
                  refine lv_aload_n C.1 C.2.1 dX3_readLevel_91 rfl (lv_at hl 1 rfl) ?_
                  refine lv_dup C.1 C.2.1 dX3_readLevel_92 rfl ?_
                  refine mw_geti C Z hP (33) 1 (by decide) sx_33 rfl rfl (by decide) inX3 tw_1_154 dX3_readLevel_93 ?_
                  refine mw_top (y := nI a1) (hpo.2.2.2.1) ?_
                  refine lv_iconst (v := 1) C.1 C.2.1 dX3_readLevel_96 (by decide) ?_
                  refine lv_iadd C.1 C.2.1 dX3_readLevel_97 ?_
                  refine mw_top (y := nI (a1 + 1)) (nI_1 _) ?_
                  refine mw_puti C Z hP hS (33) 1 (by decide) sx_33 rfl rfl (by decide) inX3 tyX3 tyX3_ok nmX3 rfl tw_1_154 rfl rfl dX3_readLevel_98 (fun H locs hP hS => ?_)
                  have pn23 := hpo.next hj hne
                  have hb24 := pn23.2
                  refine lv_aload_n C.1 C.2.1 dX3_readLevel_101 rfl (lv_at hl 1 rfl) ?_
                  refine lv_aload_n C.1 C.2.1 dX3_readLevel_102 rfl (lv_at hl 2 rfl) ?_
                  refine lv_iload_n C.1 C.2.1 dX3_readLevel_103 rfl (lv_at hl 3 rfl) ?_
                  refine lv_iconst (v := 1) C.1 C.2.1 dX3_readLevel_104 (by decide) ?_
                  refine lv_iadd C.1 C.2.1 dX3_readLevel_105 ?_
                  refine mw_top (y := 2) (by decide) ?_
                  refine lv_iload_n C.1 C.2.1 dX3_readLevel_106 rfl (lv_at hl 4 rfl) ?_
                  refine mw_cVv (As := [.ref (mw_a E (39 + j)), .int 2, .int 5]) (rest := []) C Z hP hS (33) (cX_l2_5 l E (mw_si ςa 33 1 (nI (a1 + 1))) T j hj (a1 + 1) (ts1.tail) ((cs ++ cs1)) (B - 1) (by omega) pn23.1) vb_X3_readLevel tw_2_216 ⟨rfl, rfl⟩ ⟨Nat.le_of_ble_eq_true rfl, Nat.le_of_ble_eq_true rfl⟩ (by decide) sx_33 rfl rfl rfl hl.1 rfl (Nat.le_of_ble_eq_true rfl) dX3_readLevel_107 ⟨Nat.zero_le _, Nat.zero_le _⟩ (fun u34 H locs q35 hP hS => ?_)
                  obtain ⟨hx25, f26⟩ := q35
                  rcases e27 : (gD 0).2.1 (ts1.tail) with ⟨cs28, ts29⟩ | qq32
                  · rw [e27] at hx25
                    obtain ⟨a30, po31⟩ := hx25
                    have po31 : xPo u34 T j a30 ts29 ((cs ++ cs1) ++ cs28) (B - 1) := po31
                    refine lv_aload_n C.1 C.2.1 dX3_readLevel_110 rfl (lv_at hl 2 rfl) ?_
                    refine lv_iload C.1 C.2.1 dX3_readLevel_111 (lv_at hl 0 rfl) ?_
                    refine mw_cVv (As := [.int (nI (hdC ts1))]) (rest := []) C Z hP hS (39 + j) (cX_add l E u34 j hj (((cs ++ cs1) ++ cs28)).length po31.2.2.2.2.2.1.1 (by have y := po31.2.2.2.2.2.2; omega) (nI (hdC ts1))) vb_X8_add tw_2_224 ⟨rfl, rfl⟩ ⟨Nat.le_of_ble_eq_true rfl, Nat.le_of_ble_eq_true rfl⟩ (by omega) (sx_tx (by omega)) rfl rfl rfl hl.1 rfl (Nat.le_of_ble_eq_true rfl) dX3_readLevel_113 ⟨Nat.zero_le _, Nat.zero_le _⟩ (fun u37 H locs q38 hP hS => ?_)
                    have e39 := q38.1 (by have y := po31.2.2.2.2.2.2; omega)
                    subst e39
                    have po40 := (po31.add hj (hdC ts1)).wk (C := B) (by omega)
                    refine lv_iload_n C.1 C.2.1 dX3_readLevel_116 rfl (lv_at hl 3 rfl) ?_
                    refine lv_iconst (v := 2) C.1 C.2.1 dX3_readLevel_117 (by decide) ?_
                    refine lv_icmp_ne (tgt := 122) C.1 C.2.1 dX3_readLevel_118 (by decide) (fun c41 => ?_) (fun c41 => ?_)
                    · refine lv_iinc (v := nI (t + 1)) (lv' := [(4, .int (nI (t + 1))), (5, .int (nI (hdC ts1))), (0, .ref (mw_a E 33)), (1, .ref (mw_a E (39 + j))), (2, .int 1), (3, .int 5)]) C.1 C.2.1 dX3_readLevel_122 hl (k := 5) rfl (nI_1 _) (by decide) rfl (fun ls hl => ?_)
                      refine lv_goto (tgt := 52) C.1 C.2.1 dX3_readLevel_125 (by decide) ?_
                      exact iha a30 (t + 1) f2 ts29 (cs1 ++ cs28 ++ [hdC ts1]) (mw_si (mw_sa u34 (45 + j) (((cs ++ cs1) ++ cs28)).length (nI (hdC ts1))) (39 + j) 3 (nI ((((cs ++ cs1) ++ cs28)).length + 1))) _ _ (by omega) (by omega) (by have y1 := ((gD_dec 0).2.1) _ _ _ e27; have y2 := tail_len hne; omega) (by have y1 := ((gD_dec 0).2.1) _ _ _ e27; have y2 := tail_len hne; omega) (hsp.trans (egl.trans (by rw [e27]))) ((by rw [← List.append_assoc]; rw [← List.append_assoc]; exact po40)) (((fra.rd _ _).tr f26).ad _ _ _) hP hS ls (lv_sub hl [2, 3, 4, 5, 0] rfl)
                    · exact absurd c41 (by decide)
                  · rw [e27] at hx25
                    have po31 : xPb u34 T j qq32 := hx25
                    refine lv_aload_n C.1 C.2.1 dX3_readLevel_110 rfl (lv_at hl 2 rfl) ?_
                    refine lv_iload C.1 C.2.1 dX3_readLevel_111 (lv_at hl 0 rfl) ?_
                    obtain ⟨k42, hk43, ek44⟩ := po31.2.2.2
                    refine mw_cVv (As := [.int (nI (hdC ts1))]) (rest := []) C Z hP hS (39 + j) (cX_add l E u34 j hj k42 ek44 hk43 (nI (hdC ts1))) vb_X8_add tw_2_224 ⟨rfl, rfl⟩ ⟨Nat.le_of_ble_eq_true rfl, Nat.le_of_ble_eq_true rfl⟩ (by omega) (sx_tx (by omega)) rfl rfl rfl hl.1 rfl (Nat.le_of_ble_eq_true rfl) dX3_readLevel_113 ⟨Nat.zero_le _, Nat.zero_le _⟩ (fun u47 H locs q48 hP hS => ?_)
                    have w45 := xPb.add po31 hj hk43 q48
                    refine lv_iload_n C.1 C.2.1 dX3_readLevel_116 rfl (lv_at hl 3 rfl) ?_
                    refine lv_iconst (v := 2) C.1 C.2.1 dX3_readLevel_117 (by decide) ?_
                    refine lv_icmp_ne (tgt := 122) C.1 C.2.1 dX3_readLevel_118 (by decide) (fun c49 => ?_) (fun c49 => ?_)
                    · refine lv_iinc (v := nI (t + 1)) (lv' := [(4, .int (nI (t + 1))), (5, .int (nI (hdC ts1))), (0, .ref (mw_a E 33)), (1, .ref (mw_a E (39 + j))), (2, .int 1), (3, .int 5)]) C.1 C.2.1 dX3_readLevel_122 hl (k := 5) rfl (nI_1 _) (by decide) rfl (fun ls hl => ?_)
                      refine lv_goto (tgt := 52) C.1 C.2.1 dX3_readLevel_125 (by decide) ?_
                      refine lv_iload C.1 C.2.1 dX3_readLevel_52 (lv_at hl 0 rfl) ?_
                      refine lv_sipush (v := 160) C.1 C.2.1 dX3_readLevel_54 (by decide) ?_
                      refine lv_icmp_ge (tgt := 128) C.1 C.2.1 dX3_readLevel_57 (by decide) (fun c50 => ?_) (fun c50 => ?_)
                      · exact mw_vret C hr hlk Z hP hS dX3_readLevel_128 (⟨xAf.bd (hsp.trans (egl.trans (by rw [e27]))) w45.1, (((fra.rd _ _).tr f26).tr w45.2)⟩)
                      · refine lv_aload_n C.1 C.2.1 dX3_readLevel_60 rfl (lv_at hl 2 rfl) ?_
                        refine mw_geti C Z hP (33) 2 (by decide) sx_33 rfl rfl (by decide) inX3 tw_1_155 dX3_readLevel_61 ?_
                        refine mw_top (y := nI qq32) (w45.1.2.2.1.1) ?_
                        refine lv_iconst (v := -1) C.1 C.2.1 dX3_readLevel_64 (by decide) ?_
                        refine lv_icmp_ne (tgt := 128) C.1 C.2.1 dX3_readLevel_65 (by decide) (fun c51 => ?_) (fun c51 => ?_)
                        · exact mw_vret C hr hlk Z hP hS dX3_readLevel_128 (⟨xAf.bd (hsp.trans (egl.trans (by rw [e27]))) w45.1, (((fra.rd _ _).tr f26).tr w45.2)⟩)
                        · exact absurd c51 (nI_nm1 (by have y := w45.1.2.2.1.2; omega))
                    · exact absurd c49 (by decide)
                · have hnop : ¬ gAnd (hdC ts1) = true := fun y => c22 (lv_1.mpr y)
                  exact mw_vret C hr hlk Z hP hS dX3_readLevel_90 (⟨xAf.gd (hsp.trans (gLoop_stop hnop)) hpo, fra⟩)
        exact lpa (161) a8 0 (ts7.length) ts7 cs6 u12 _ _ (by omega) (by omega) (Nat.le_refl _) (by have y := po9.2.2.2.2.2.2; omega) ((gLevel_g e5)) (po9) ((xPf.rf j σ).tr f4) hP hS ls (lv_sub hl [1, 2, 3, 4, 0] rfl)
      · rw [e5] at hx3
        have po9 : xPb u12 T j qq10 := hx3
        refine lv_iconst (v := 0) C.1 C.2.1 dX3_readLevel_49 (by decide) ?_
        refine lv_istore (lv' := [(4, .int 0), (0, .ref (mw_a E 33)), (1, .ref (mw_a E (39 + j))), (2, .int 1), (3, .int 5)]) C.1 C.2.1 dX3_readLevel_50 hl (by decide) rfl (fun ls hl => ?_)
        refine lv_iload C.1 C.2.1 dX3_readLevel_52 (lv_at hl 0 rfl) ?_
        refine lv_sipush (v := 160) C.1 C.2.1 dX3_readLevel_54 (by decide) ?_
        refine lv_icmp_ge (tgt := 128) C.1 C.2.1 dX3_readLevel_57 (by decide) (fun c52 => ?_) (fun c52 => ?_)
        · exact absurd c52 (by decide)
        · refine lv_aload_n C.1 C.2.1 dX3_readLevel_60 rfl (lv_at hl 1 rfl) ?_
          refine mw_geti C Z hP (33) 2 (by decide) sx_33 rfl rfl (by decide) inX3 tw_1_155 dX3_readLevel_61 ?_
          refine mw_top (y := nI qq10) (po9.2.2.1.1) ?_
          refine lv_iconst (v := -1) C.1 C.2.1 dX3_readLevel_64 (by decide) ?_
          refine lv_icmp_ne (tgt := 128) C.1 C.2.1 dX3_readLevel_65 (by decide) (fun c53 => ?_) (fun c53 => ?_)
          · exact mw_vret C hr hlk Z hP hS dX3_readLevel_128 (⟨xAf.bd ((gLevel_b e5)) po9, ((xPf.rf j σ).tr f4)⟩)
          · exact absurd c53 (nI_nm1 (by have y := po9.2.2.1.2; omega))
    · exact absurd c2 (by decide)
  · exact absurd c1 (by decide)

set_option maxHeartbeats 4000000 in
set_option maxRecDepth 100000 in
theorem cX_l0_5 (l : Launch) (E : mw_E) (σ : mw_M) (T : List (Nat × Nat)) (j : Nat) (hj : j < 6) (a : Nat) (ts : List (Nat × Nat)) (cs : List Nat) (B : Nat) (hB : B ≤ 160) (h : xPo σ T j a ts cs B) : mw_Cv shX 75 gX l yX3_readLevel cX3_readLevel 6 none (rmF 10 274) E [.ref (mw_a E 33), .ref (mw_a E (39 + j)), .int 0, .int 5] σ (fun u => xAf T j B cs ((gD 0).2.2 ts) u ∧ xPf j σ u) := by
  refine mw_of (by decide) gX_ok (Nat.le_of_ble_eq_true rfl) ?_
  intro p_ e_ s_ m_ below meth c_ C hr hlk Z hP ls hl
  have C : CallFix p_ m_ c_ cX3_readLevel 6 s_ _ lw_good RX3 := C
  have hl : lv_has ls 6 [(0, .ref (mw_a E 33)), (1, .ref (mw_a E (39 + j))), (2, .int 0), (3, .int 5)] := hl
  have hS : va_S (mw_A 75 E) s_.heap s_.heap [] := va_S.rf
  have hlt : hdC ts < 20000 := by have y := (h.1.lt a).1; rw [h.2.1] at y; exact y
  refine lv_iload_n C.1 C.2.1 dX3_readLevel_0 rfl (lv_at hl 2 rfl) ?_
  refine lv_iconst (v := 4) C.1 C.2.1 dX3_readLevel_1 (by decide) ?_
  refine lv_icmp_le (tgt := 12) C.1 C.2.1 dX3_readLevel_2 (by decide) (fun c1 => ?_) (fun c1 => ?_)
  · refine lv_iload_n C.1 C.2.1 dX3_readLevel_12 rfl (lv_at hl 2 rfl) ?_
    refine lv_iconst (v := 2) C.1 C.2.1 dX3_readLevel_13 (by decide) ?_
    refine lv_icmp_ne (tgt := 40) C.1 C.2.1 dX3_readLevel_14 (by decide) (fun c2 => ?_) (fun c2 => ?_)
    · refine lv_aload_n C.1 C.2.1 dX3_readLevel_40 rfl (lv_at hl 0 rfl) ?_
      refine lv_aload_n C.1 C.2.1 dX3_readLevel_41 rfl (lv_at hl 1 rfl) ?_
      refine lv_iload_n C.1 C.2.1 dX3_readLevel_42 rfl (lv_at hl 2 rfl) ?_
      refine lv_iconst (v := 1) C.1 C.2.1 dX3_readLevel_43 (by decide) ?_
      refine lv_iadd C.1 C.2.1 dX3_readLevel_44 ?_
      refine mw_top (y := 1) (by decide) ?_
      refine lv_iload_n C.1 C.2.1 dX3_readLevel_45 rfl (lv_at hl 3 rfl) ?_
      refine mw_cVv (As := [.ref (mw_a E (39 + j)), .int 1, .int 5]) (rest := []) C Z hP hS (33) (cX_l1_5 l E σ T j hj a ts cs B (by omega) h) vb_X3_readLevel tw_2_216 ⟨rfl, rfl⟩ ⟨Nat.le_of_ble_eq_true rfl, Nat.le_of_ble_eq_true rfl⟩ (by decide) sx_33 rfl rfl rfl hl.1 rfl (Nat.le_of_ble_eq_true rfl) dX3_readLevel_46 ⟨Nat.zero_le _, Nat.zero_le _⟩ (fun u12 H locs q13 hP hS => ?_)
      obtain ⟨hx3, f4⟩ := q13
      rcases e5 : (gLevel gAnd (gD 0).2.1) ts with ⟨cs6, ts7⟩ | qq10
      · rw [e5] at hx3
        obtain ⟨a8, po9⟩ := hx3
        have po9 : xPo u12 T j a8 ts7 (cs ++ cs6) B := po9
        refine lv_iconst (v := 0) C.1 C.2.1 dX3_readLevel_49 (by decide) ?_
        refine lv_istore (lv' := [(4, .int 0), (0, .ref (mw_a E 33)), (1, .ref (mw_a E (39 + j))), (2, .int 0), (3, .int 5)]) C.1 C.2.1 dX3_readLevel_50 hl (by decide) rfl (fun ls hl => ?_)
        have lpa : ∀ (N : Nat) (a1 : Nat) (t : Nat) (f : Nat) (ts1 : List (Nat × Nat)) (cs1 : List Nat) (ςa : mw_M) (H : Heap) (locs : List Loc), 161 ≤ t + N → (t ≤ 160) → (ts1.length ≤ f) → (t + ts1.length ≤ 160) → ((gD 0).2.2 ts = gLoop gOr (gLevel gAnd (gD 0).2.1) f cs1 ts1) → (xPo ςa T j a1 ts1 (cs ++ cs1) B) → xPf j σ ςa → va_P (mw_D E) vwCl (mw_ws shX 75 E ςa) H → va_S (mw_A 75 E) s_.heap H locs → ∀ (ls : Array Slot), lv_has ls 6 [(0, .ref (mw_a E 33)), (1, .ref (mw_a E (39 + j))), (2, .int 0), (3, .int 5), (4, .int (nI t))] → xWv p_ l e_ (rmF 10 274) s_ m_ [.ref (mw_a E 33), .ref (mw_a E (39 + j)), .int 0, .int 5] below meth c_ E (fun u => xAf T j B cs ((gD 0).2.2 ts) u ∧ xPf j σ u) H locs (F0 m_ 52 ls []) := by
          intro N
          induction N with
          | zero => intros; exfalso; omega
          | succ N iha =>
            intro a1 t f ts1 cs1 ςa H locs hNa ht hf htl hsp hpo fra hP hS ls hl
            refine lv_iload C.1 C.2.1 dX3_readLevel_52 (lv_at hl 4 rfl) ?_
            refine lv_sipush (v := 160) C.1 C.2.1 dX3_readLevel_54 (by decide) ?_
            refine lv_icmp_ge (tgt := 128) C.1 C.2.1 dX3_readLevel_57 (by decide) (fun c14 => ?_) (fun c14 => ?_)
            · have c14 := (nI_leI (a := 160) (by decide) (by omega)).mp c14
              have e0 : ts1 = [] := List.eq_nil_of_length_eq_zero (by omega)
              exact mw_vret C hr hlk Z hP hS dX3_readLevel_128 (⟨xAf.gd (hsp.trans (gLoop_stop (by rw [e0]; decide))) hpo, fra⟩)
            · have c14 := (not_congr (nI_leI (a := 160) (by decide) (by omega))).mp c14
              refine lv_aload_n C.1 C.2.1 dX3_readLevel_60 rfl (lv_at hl 0 rfl) ?_
              refine mw_geti C Z hP (33) 2 (by decide) sx_33 rfl rfl (by decide) inX3 tw_1_155 dX3_readLevel_61 ?_
              refine mw_top (y := -1) (hpo.2.2.2.2.1) ?_
              refine lv_iconst (v := -1) C.1 C.2.1 dX3_readLevel_64 (by decide) ?_
              refine lv_icmp_ne (tgt := 128) C.1 C.2.1 dX3_readLevel_65 (by decide) (fun c15 => ?_) (fun c15 => ?_)
              · exact absurd c15 (by decide)
              · refine lv_aload_n C.1 C.2.1 dX3_readLevel_68 rfl (lv_at hl 0 rfl) ?_
                refine mw_getr C Z hP (33) 0 (34) (by decide) sx_33 rfl rfl (by decide) inX3 tw_1_153 dX3_readLevel_69 ?_
                refine lv_aload_n C.1 C.2.1 dX3_readLevel_72 rfl (lv_at hl 0 rfl) ?_
                refine mw_geti C Z hP (33) 1 (by decide) sx_33 rfl rfl (by decide) inX3 tw_1_154 dX3_readLevel_73 ?_
                refine mw_top (y := nI a1) (hpo.2.2.2.1) ?_
                refine mw_cVi (As := [.int (nI a1)]) (rest := []) C Z hP hS (34) (cX_tokenAt l E ςa T.length hpo.1.2.1 hpo.1.1 a1 (by have y1 := hpo.1.1; have y2 := hpo.2.2.1; omega)) vb_X10_tokenAt tw_2_204 ⟨rfl, rfl⟩ ⟨Nat.le_of_ble_eq_true rfl, Nat.le_of_ble_eq_true rfl⟩ (by decide) sx_34 rfl rfl rfl hl.1 rfl (Nat.le_of_ble_eq_true rfl) dX3_readLevel_76 ⟨Nat.zero_le _, Nat.zero_le _⟩ (fun r16 u17 H locs q18 hP hS => ?_)
                rw [(hpo.1.tok a1).1, hpo.2.1] at q18
                obtain ⟨rfl, q18u⟩ := q18
                rw [q18u] at hP; clear q18u
                refine lv_istore (lv' := [(5, .int (nI (hdC ts1))), (0, .ref (mw_a E 33)), (1, .ref (mw_a E (39 + j))), (2, .int 0), (3, .int 5), (4, .int (nI t))]) C.1 C.2.1 dX3_readLevel_79 hl (by decide) rfl (fun ls hl => ?_)
                refine lv_iload C.1 C.2.1 dX3_readLevel_81 (lv_at hl 0 rfl) ?_
                refine mw_cSi (As := [.int (nI (hdC ts1))]) (rest := []) C Z hP hS (cX_levelOf l E ςa (hdC ts1) (by have y := (hpo.1.lt a1).1; rw [hpo.2.1] at y; omega)) sb_X3_levelOf tw_2_232 ⟨rfl, rfl⟩ ⟨Nat.le_of_ble_eq_true rfl, Nat.le_of_ble_eq_true rfl⟩ rfl hl.1 rfl (Nat.le_of_ble_eq_true rfl) dX3_readLevel_83 ⟨Nat.zero_le _, Nat.zero_le _⟩ (fun r19 u20 H locs q21 hP hS => ?_)
                obtain ⟨rfl, q21u⟩ := q21
                rw [q21u] at hP; clear q21u
                refine lv_iload_n C.1 C.2.1 dX3_readLevel_86 rfl (lv_at hl 3 rfl) ?_
                refine lv_icmp_eq (tgt := 91) C.1 C.2.1 dX3_readLevel_87 (by decide) (fun c22 => ?_) (fun c22 => ?_)
                · have hop := lv_0.mp c22
                  have hne : hdC ts1 ≠ 21 := lv_21 c22 (by decide)
                  obtain ⟨f2, ef, egl⟩ := gLoop_go (x := (gLevel gAnd (gD 0).2.1)) (cs := cs1) hne hop hf
                  refine lv_aload_n C.1 C.2.1 dX3_readLevel_91 rfl (lv_at hl 1 rfl) ?_
                  refine lv_dup C.1 C.2.1 dX3_readLevel_92 rfl ?_
                  refine mw_geti C Z hP (33) 1 (by decide) sx_33 rfl rfl (by decide) inX3 tw_1_154 dX3_readLevel_93 ?_
                  refine mw_top (y := nI a1) (hpo.2.2.2.1) ?_
                  refine lv_iconst (v := 1) C.1 C.2.1 dX3_readLevel_96 (by decide) ?_
                  refine lv_iadd C.1 C.2.1 dX3_readLevel_97 ?_
                  refine mw_top (y := nI (a1 + 1)) (nI_1 _) ?_
                  refine mw_puti C Z hP hS (33) 1 (by decide) sx_33 rfl rfl (by decide) inX3 tyX3 tyX3_ok nmX3 rfl tw_1_154 rfl rfl dX3_readLevel_98 (fun H locs hP hS => ?_)
                  have pn23 := hpo.next hj hne
                  have hb24 := pn23.2
                  refine lv_aload_n C.1 C.2.1 dX3_readLevel_101 rfl (lv_at hl 1 rfl) ?_
                  refine lv_aload_n C.1 C.2.1 dX3_readLevel_102 rfl (lv_at hl 2 rfl) ?_
                  refine lv_iload_n C.1 C.2.1 dX3_readLevel_103 rfl (lv_at hl 3 rfl) ?_
                  refine lv_iconst (v := 1) C.1 C.2.1 dX3_readLevel_104 (by decide) ?_
                  refine lv_iadd C.1 C.2.1 dX3_readLevel_105 ?_
                  refine mw_top (y := 1) (by decide) ?_
                  refine lv_iload_n C.1 C.2.1 dX3_readLevel_106 rfl (lv_at hl 4 rfl) ?_
                  refine mw_cVv (As := [.ref (mw_a E (39 + j)), .int 1, .int 5]) (rest := []) C Z hP hS (33) (cX_l1_5 l E (mw_si ςa 33 1 (nI (a1 + 1))) T j hj (a1 + 1) (ts1.tail) ((cs ++ cs1)) (B - 1) (by omega) pn23.1) vb_X3_readLevel tw_2_216 ⟨rfl, rfl⟩ ⟨Nat.le_of_ble_eq_true rfl, Nat.le_of_ble_eq_true rfl⟩ (by decide) sx_33 rfl rfl rfl hl.1 rfl (Nat.le_of_ble_eq_true rfl) dX3_readLevel_107 ⟨Nat.zero_le _, Nat.zero_le _⟩ (fun u34 H locs q35 hP hS => ?_)
                  obtain ⟨hx25, f26⟩ := q35
                  rcases e27 : (gLevel gAnd (gD 0).2.1) (ts1.tail) with ⟨cs28, ts29⟩ | qq32
                  · rw [e27] at hx25
                    obtain ⟨a30, po31⟩ := hx25
                    have po31 : xPo u34 T j a30 ts29 ((cs ++ cs1) ++ cs28) (B - 1) := po31
                    refine lv_aload_n C.1 C.2.1 dX3_readLevel_110 rfl (lv_at hl 2 rfl) ?_
                    refine lv_iload C.1 C.2.1 dX3_readLevel_111 (lv_at hl 0 rfl) ?_
                    refine mw_cVv (As := [.int (nI (hdC ts1))]) (rest := []) C Z hP hS (39 + j) (cX_add l E u34 j hj (((cs ++ cs1) ++ cs28)).length po31.2.2.2.2.2.1.1 (by have y := po31.2.2.2.2.2.2; omega) (nI (hdC ts1))) vb_X8_add tw_2_224 ⟨rfl, rfl⟩ ⟨Nat.le_of_ble_eq_true rfl, Nat.le_of_ble_eq_true rfl⟩ (by omega) (sx_tx (by omega)) rfl rfl rfl hl.1 rfl (Nat.le_of_ble_eq_true rfl) dX3_readLevel_113 ⟨Nat.zero_le _, Nat.zero_le _⟩ (fun u37 H locs q38 hP hS => ?_)
                    have e39 := q38.1 (by have y := po31.2.2.2.2.2.2; omega)
                    subst e39
                    have po40 := (po31.add hj (hdC ts1)).wk (C := B) (by omega)
                    refine lv_iload_n C.1 C.2.1 dX3_readLevel_116 rfl (lv_at hl 3 rfl) ?_
                    refine lv_iconst (v := 2) C.1 C.2.1 dX3_readLevel_117 (by decide) ?_
                    refine lv_icmp_ne (tgt := 122) C.1 C.2.1 dX3_readLevel_118 (by decide) (fun c41 => ?_) (fun c41 => ?_)
                    · refine lv_iinc (v := nI (t + 1)) (lv' := [(4, .int (nI (t + 1))), (5, .int (nI (hdC ts1))), (0, .ref (mw_a E 33)), (1, .ref (mw_a E (39 + j))), (2, .int 0), (3, .int 5)]) C.1 C.2.1 dX3_readLevel_122 hl (k := 5) rfl (nI_1 _) (by decide) rfl (fun ls hl => ?_)
                      refine lv_goto (tgt := 52) C.1 C.2.1 dX3_readLevel_125 (by decide) ?_
                      exact iha a30 (t + 1) f2 ts29 (cs1 ++ cs28 ++ [hdC ts1]) (mw_si (mw_sa u34 (45 + j) (((cs ++ cs1) ++ cs28)).length (nI (hdC ts1))) (39 + j) 3 (nI ((((cs ++ cs1) ++ cs28)).length + 1))) _ _ (by omega) (by omega) (by have y1 := (gLevel_dec (gD_dec 0).2.1) _ _ _ e27; have y2 := tail_len hne; omega) (by have y1 := (gLevel_dec (gD_dec 0).2.1) _ _ _ e27; have y2 := tail_len hne; omega) (hsp.trans (egl.trans (by rw [e27]))) ((by rw [← List.append_assoc]; rw [← List.append_assoc]; exact po40)) (((fra.rd _ _).tr f26).ad _ _ _) hP hS ls (lv_sub hl [2, 3, 4, 5, 0] rfl)
                    · exact absurd c41 (by decide)
                  · rw [e27] at hx25
                    have po31 : xPb u34 T j qq32 := hx25
                    refine lv_aload_n C.1 C.2.1 dX3_readLevel_110 rfl (lv_at hl 2 rfl) ?_
                    refine lv_iload C.1 C.2.1 dX3_readLevel_111 (lv_at hl 0 rfl) ?_
                    obtain ⟨k42, hk43, ek44⟩ := po31.2.2.2
                    refine mw_cVv (As := [.int (nI (hdC ts1))]) (rest := []) C Z hP hS (39 + j) (cX_add l E u34 j hj k42 ek44 hk43 (nI (hdC ts1))) vb_X8_add tw_2_224 ⟨rfl, rfl⟩ ⟨Nat.le_of_ble_eq_true rfl, Nat.le_of_ble_eq_true rfl⟩ (by omega) (sx_tx (by omega)) rfl rfl rfl hl.1 rfl (Nat.le_of_ble_eq_true rfl) dX3_readLevel_113 ⟨Nat.zero_le _, Nat.zero_le _⟩ (fun u47 H locs q48 hP hS => ?_)
                    have w45 := xPb.add po31 hj hk43 q48
                    refine lv_iload_n C.1 C.2.1 dX3_readLevel_116 rfl (lv_at hl 3 rfl) ?_
                    refine lv_iconst (v := 2) C.1 C.2.1 dX3_readLevel_117 (by decide) ?_
                    refine lv_icmp_ne (tgt := 122) C.1 C.2.1 dX3_readLevel_118 (by decide) (fun c49 => ?_) (fun c49 => ?_)
                    · refine lv_iinc (v := nI (t + 1)) (lv' := [(4, .int (nI (t + 1))), (5, .int (nI (hdC ts1))), (0, .ref (mw_a E 33)), (1, .ref (mw_a E (39 + j))), (2, .int 0), (3, .int 5)]) C.1 C.2.1 dX3_readLevel_122 hl (k := 5) rfl (nI_1 _) (by decide) rfl (fun ls hl => ?_)
                      refine lv_goto (tgt := 52) C.1 C.2.1 dX3_readLevel_125 (by decide) ?_
                      refine lv_iload C.1 C.2.1 dX3_readLevel_52 (lv_at hl 0 rfl) ?_
                      refine lv_sipush (v := 160) C.1 C.2.1 dX3_readLevel_54 (by decide) ?_
                      refine lv_icmp_ge (tgt := 128) C.1 C.2.1 dX3_readLevel_57 (by decide) (fun c50 => ?_) (fun c50 => ?_)
                      · exact mw_vret C hr hlk Z hP hS dX3_readLevel_128 (⟨xAf.bd (hsp.trans (egl.trans (by rw [e27]))) w45.1, (((fra.rd _ _).tr f26).tr w45.2)⟩)
                      · refine lv_aload_n C.1 C.2.1 dX3_readLevel_60 rfl (lv_at hl 2 rfl) ?_
                        refine mw_geti C Z hP (33) 2 (by decide) sx_33 rfl rfl (by decide) inX3 tw_1_155 dX3_readLevel_61 ?_
                        refine mw_top (y := nI qq32) (w45.1.2.2.1.1) ?_
                        refine lv_iconst (v := -1) C.1 C.2.1 dX3_readLevel_64 (by decide) ?_
                        refine lv_icmp_ne (tgt := 128) C.1 C.2.1 dX3_readLevel_65 (by decide) (fun c51 => ?_) (fun c51 => ?_)
                        · exact mw_vret C hr hlk Z hP hS dX3_readLevel_128 (⟨xAf.bd (hsp.trans (egl.trans (by rw [e27]))) w45.1, (((fra.rd _ _).tr f26).tr w45.2)⟩)
                        · exact absurd c51 (nI_nm1 (by have y := w45.1.2.2.1.2; omega))
                    · exact absurd c49 (by decide)
                · have hnop : ¬ gOr (hdC ts1) = true := fun y => c22 (lv_0.mpr y)
                  exact mw_vret C hr hlk Z hP hS dX3_readLevel_90 (⟨xAf.gd (hsp.trans (gLoop_stop hnop)) hpo, fra⟩)
        exact lpa (161) a8 0 (ts7.length) ts7 cs6 u12 _ _ (by omega) (by omega) (Nat.le_refl _) (by have y := po9.2.2.2.2.2.2; omega) ((congrFun gE_0 ts).trans (gLevel_g e5)) (po9) ((xPf.rf j σ).tr f4) hP hS ls (lv_sub hl [1, 2, 3, 4, 0] rfl)
      · rw [e5] at hx3
        have po9 : xPb u12 T j qq10 := hx3
        refine lv_iconst (v := 0) C.1 C.2.1 dX3_readLevel_49 (by decide) ?_
        refine lv_istore (lv' := [(4, .int 0), (0, .ref (mw_a E 33)), (1, .ref (mw_a E (39 + j))), (2, .int 0), (3, .int 5)]) C.1 C.2.1 dX3_readLevel_50 hl (by decide) rfl (fun ls hl => ?_)
        refine lv_iload C.1 C.2.1 dX3_readLevel_52 (lv_at hl 0 rfl) ?_
        refine lv_sipush (v := 160) C.1 C.2.1 dX3_readLevel_54 (by decide) ?_
        refine lv_icmp_ge (tgt := 128) C.1 C.2.1 dX3_readLevel_57 (by decide) (fun c52 => ?_) (fun c52 => ?_)
        · exact absurd c52 (by decide)
        · refine lv_aload_n C.1 C.2.1 dX3_readLevel_60 rfl (lv_at hl 1 rfl) ?_
          refine mw_geti C Z hP (33) 2 (by decide) sx_33 rfl rfl (by decide) inX3 tw_1_155 dX3_readLevel_61 ?_
          refine mw_top (y := nI qq10) (po9.2.2.1.1) ?_
          refine lv_iconst (v := -1) C.1 C.2.1 dX3_readLevel_64 (by decide) ?_
          refine lv_icmp_ne (tgt := 128) C.1 C.2.1 dX3_readLevel_65 (by decide) (fun c53 => ?_) (fun c53 => ?_)
          · exact mw_vret C hr hlk Z hP hS dX3_readLevel_128 (⟨xAf.bd ((congrFun gE_0 ts).trans (gLevel_b e5)) po9, ((xPf.rf j σ).tr f4)⟩)
          · exact absurd c53 (nI_nm1 (by have y := po9.2.2.1.2; omega))
    · exact absurd c2 (by decide)
  · exact absurd c1 (by decide)

set_option maxHeartbeats 4000000 in
set_option maxRecDepth 100000 in
theorem cX_one4 (l : Launch) (E : mw_E) (σ : mw_M) (T : List (Nat × Nat)) (j : Nat) (hj : j < 6) (a : Nat) (ts : List (Nat × Nat)) (cs : List Nat) (B : Nat) (hB : B ≤ 160) (h : xPo σ T j a ts cs B) : mw_Cv shX 75 gX l yX3_readOne cX3_readOne 4 none (rmF 11 299) E [.ref (mw_a E 33), .ref (mw_a E (39 + j)), .int 4] σ (fun u => xAf T j B cs ((gD 1).1 ts) u ∧ xPf j σ u) := by
  refine mw_of (by decide) gX_ok (Nat.le_of_ble_eq_true rfl) ?_
  intro p_ e_ s_ m_ below meth c_ C hr hlk Z hP ls hl
  have C : CallFix p_ m_ c_ cX3_readOne 4 s_ _ lw_good RX3 := C
  have hl : lv_has ls 4 [(0, .ref (mw_a E 33)), (1, .ref (mw_a E (39 + j))), (2, .int 4)] := hl
  have hS : va_S (mw_A 75 E) s_.heap s_.heap [] := va_S.rf
  have hlt : hdC ts < 20000 := by have y := (h.1.lt a).1; rw [h.2.1] at y; exact y
  refine lv_aload_n C.1 C.2.1 dX3_readOne_0 rfl (lv_at hl 0 rfl) ?_
  refine mw_getr C Z hP (33) 0 (34) (by decide) sx_33 rfl rfl (by decide) inX3 tw_1_153 dX3_readOne_1 ?_
  refine lv_aload_n C.1 C.2.1 dX3_readOne_4 rfl (lv_at hl 0 rfl) ?_
  refine mw_geti C Z hP (33) 1 (by decide) sx_33 rfl rfl (by decide) inX3 tw_1_154 dX3_readOne_5 ?_
  refine mw_top (y := nI a) (h.2.2.2.1) ?_
  refine mw_cVi (As := [.int (nI a)]) (rest := []) C Z hP hS (34) (cX_tokenAt l E σ T.length h.1.2.1 h.1.1 a (by have y1 := h.1.1; have y2 := h.2.2.1; omega)) vb_X10_tokenAt tw_2_204 ⟨rfl, rfl⟩ ⟨Nat.le_of_ble_eq_true rfl, Nat.le_of_ble_eq_true rfl⟩ (by decide) sx_34 rfl rfl rfl hl.1 rfl (Nat.le_of_ble_eq_true rfl) dX3_readOne_8 ⟨Nat.zero_le _, Nat.zero_le _⟩ (fun r1 u2 H locs q3 hP hS => ?_)
  rw [(h.1.tok a).1, h.2.1] at q3
  obtain ⟨rfl, q3u⟩ := q3
  rw [q3u] at hP; clear q3u
  refine lv_istore_n (lv' := [(3, .int (nI (hdC ts))), (0, .ref (mw_a E 33)), (1, .ref (mw_a E (39 + j))), (2, .int 4)]) C.1 C.2.1 dX3_readOne_11 rfl hl (by decide) rfl (fun ls hl => ?_)
  refine lv_aload_n C.1 C.2.1 dX3_readOne_12 rfl (lv_at hl 1 rfl) ?_
  refine mw_geti C Z hP (33) 2 (by decide) sx_33 rfl rfl (by decide) inX3 tw_1_155 dX3_readOne_13 ?_
  refine mw_top (y := -1) (h.2.2.2.2.1) ?_
  refine lv_iconst (v := -1) C.1 C.2.1 dX3_readOne_16 (by decide) ?_
  refine lv_icmp_eq (tgt := 21) C.1 C.2.1 dX3_readOne_17 (by decide) (fun c4 => ?_) (fun c4 => ?_)
  · refine lv_iload_n C.1 C.2.1 dX3_readOne_21 rfl (lv_at hl 0 rfl) ?_
    refine lv_iconst (v := 5) C.1 C.2.1 dX3_readOne_22 (by decide) ?_
    refine lv_icmp_le (tgt := 32) C.1 C.2.1 dX3_readOne_23 (by decide) (fun c5 => ?_) (fun c5 => ?_)
    · have c5 := (nI_leI (b := 5) (by omega) (by decide)).mp c5
      have hcl : hdC ts ≤ 5 ∨ 100 ≤ hdC ts := Or.inl c5
      have hne : hdC ts ≠ 21 := by omega
      refine lv_aload_n C.1 C.2.1 dX3_readOne_32 rfl (lv_at hl 1 rfl) ?_
      refine lv_dup C.1 C.2.1 dX3_readOne_33 rfl ?_
      refine mw_geti C Z hP (33) 1 (by decide) sx_33 rfl rfl (by decide) inX3 tw_1_154 dX3_readOne_34 ?_
      refine mw_top (y := nI a) (h.2.2.2.1) ?_
      refine lv_iconst (v := 1) C.1 C.2.1 dX3_readOne_37 (by decide) ?_
      refine lv_iadd C.1 C.2.1 dX3_readOne_38 ?_
      refine mw_top (y := nI (a + 1)) (nI_1 _) ?_
      refine mw_puti C Z hP hS (33) 1 (by decide) sx_33 rfl rfl (by decide) inX3 tyX3 tyX3_ok nmX3 rfl tw_1_154 rfl rfl dX3_readOne_39 (fun H locs hP hS => ?_)
      have pn6 := h.next hj hne
      have hb7 := pn6.2
      refine lv_aload_n C.1 C.2.1 dX3_readOne_42 rfl (lv_at hl 2 rfl) ?_
      refine lv_iload_n C.1 C.2.1 dX3_readOne_43 rfl (lv_at hl 0 rfl) ?_
      refine mw_cVv (As := [.int (nI (hdC ts))]) (rest := []) C Z hP hS (39 + j) (cX_add l E (mw_si σ 33 1 (nI (a + 1))) j hj cs.length pn6.1.2.2.2.2.2.1.1 (by have y := pn6.1.2.2.2.2.2.2; omega) (nI (hdC ts))) vb_X8_add tw_2_224 ⟨rfl, rfl⟩ ⟨Nat.le_of_ble_eq_true rfl, Nat.le_of_ble_eq_true rfl⟩ (by omega) (sx_tx (by omega)) rfl rfl rfl hl.1 rfl (Nat.le_of_ble_eq_true rfl) dX3_readOne_44 ⟨Nat.zero_le _, Nat.zero_le _⟩ (fun u9 H locs q10 hP hS => ?_)
      have e11 := q10.1 (by have y := pn6.1.2.2.2.2.2.2; omega)
      subst e11
      have po12 := (pn6.1.add hj (hdC ts)).wk (C := B) (by omega)
      refine lv_goto (tgt := 131) C.1 C.2.1 dX3_readOne_47 (by decide) ?_
      exact mw_vret C hr hlk Z hP hS dX3_readOne_131 (⟨xAf.gd ((congrFun gA_1 ts).trans (gAt_a hcl)) po12, (((xPf.rf j σ).rd _ _).ad _ _ _)⟩)
    · have c5 := (not_congr (nI_leI (b := 5) (by omega) (by decide))).mp c5
      refine lv_iload_n C.1 C.2.1 dX3_readOne_26 rfl (lv_at hl 0 rfl) ?_
      refine lv_bipush (v := 100) C.1 C.2.1 dX3_readOne_27 (by decide) ?_
      refine lv_icmp_lt (tgt := 50) C.1 C.2.1 dX3_readOne_29 (by decide) (fun c13 => ?_) (fun c13 => ?_)
      · have c13 := (nI_ltI (b := 100) (by omega) (by decide)).mp c13
        have hncl : ¬ (hdC ts ≤ 5 ∨ 100 ≤ hdC ts) := by omega
        refine lv_iload_n C.1 C.2.1 dX3_readOne_50 rfl (lv_at hl 0 rfl) ?_
        refine lv_bipush (v := 16) C.1 C.2.1 dX3_readOne_51 (by decide) ?_
        refine lv_icmp_ne (tgt := 88) C.1 C.2.1 dX3_readOne_53 (by decide) (fun c14 => ?_) (fun c14 => ?_)
        · have h16n : ¬ hdC ts = 16 := fun y => c14 (by rw [y]; rfl)
          refine lv_iload_n C.1 C.2.1 dX3_readOne_88 rfl (lv_at hl 0 rfl) ?_
          refine lv_bipush (v := 12) C.1 C.2.1 dX3_readOne_89 (by decide) ?_
          refine lv_icmp_ne (tgt := 127) C.1 C.2.1 dX3_readOne_91 (by decide) (fun c15 => ?_) (fun c15 => ?_)
          · refine lv_aload_n C.1 C.2.1 dX3_readOne_127 rfl (lv_at hl 1 rfl) ?_
            refine mw_cVv (As := []) (rest := []) C Z hP hS (33) (cX_failG l E σ T j hj a ts cs B (by omega) h) vb_X3_fail tw_2_208 ⟨rfl, rfl⟩ ⟨Nat.le_of_ble_eq_true rfl, Nat.le_of_ble_eq_true rfl⟩ (by decide) sx_33 rfl rfl rfl hl.1 rfl (Nat.le_of_ble_eq_true rfl) dX3_readOne_128 ⟨Nat.zero_le _, Nat.zero_le _⟩ (fun u17 H locs q18 hP hS => ?_)
            subst q18
            exact mw_vret C hr hlk Z hP hS dX3_readOne_131 (⟨xAf.bd ((congrFun gA_1 ts).trans (gAt_x hncl (fun y => absurd y h16n) (fun y => absurd y (fun z => c15 (by rw [z]; rfl))))) (h.fail hj (by have y := h.2.2.2.2.2.2; omega)), ((xPf.rf j σ).rd _ _)⟩)
          · have h12 : hdC ts = 12 := nI_eqI (b := 12) (by omega) (by decide) c15
            have hne : hdC ts ≠ 21 := by omega
            refine lv_iload_n C.1 C.2.1 dX3_readOne_94 rfl (lv_at hl 3 rfl) ?_
            refine lv_iconst (v := 5) C.1 C.2.1 dX3_readOne_95 (by decide) ?_
            refine lv_icmp_ge (tgt := 127) C.1 C.2.1 dX3_readOne_96 (by decide) (fun c19 => ?_) (fun c19 => ?_)
            · exact absurd c19 (by decide)
            · refine lv_aload_n C.1 C.2.1 dX3_readOne_99 rfl (lv_at hl 1 rfl) ?_
              refine lv_dup C.1 C.2.1 dX3_readOne_100 rfl ?_
              refine mw_geti C Z hP (33) 1 (by decide) sx_33 rfl rfl (by decide) inX3 tw_1_154 dX3_readOne_101 ?_
              refine mw_top (y := nI a) (h.2.2.2.1) ?_
              refine lv_iconst (v := 1) C.1 C.2.1 dX3_readOne_104 (by decide) ?_
              refine lv_iadd C.1 C.2.1 dX3_readOne_105 ?_
              refine mw_top (y := nI (a + 1)) (nI_1 _) ?_
              refine mw_puti C Z hP hS (33) 1 (by decide) sx_33 rfl rfl (by decide) inX3 tyX3 tyX3_ok nmX3 rfl tw_1_154 rfl rfl dX3_readOne_106 (fun H locs hP hS => ?_)
              have pn20 := h.next hj hne
              have hb21 := pn20.2
              refine lv_aload_n C.1 C.2.1 dX3_readOne_109 rfl (lv_at hl 1 rfl) ?_
              refine lv_aload_n C.1 C.2.1 dX3_readOne_110 rfl (lv_at hl 2 rfl) ?_
              refine lv_iconst (v := 0) C.1 C.2.1 dX3_readOne_111 (by decide) ?_
              refine lv_iload_n C.1 C.2.1 dX3_readOne_112 rfl (lv_at hl 3 rfl) ?_
              refine lv_iconst (v := 1) C.1 C.2.1 dX3_readOne_113 (by decide) ?_
              refine lv_iadd C.1 C.2.1 dX3_readOne_114 ?_
              refine mw_top (y := 5) (by decide) ?_
              refine mw_cVv (As := [.ref (mw_a E (39 + j)), .int 0, .int 5]) (rest := []) C Z hP hS (33) (cX_l0_5 l E (mw_si σ 33 1 (nI (a + 1))) T j hj (a + 1) (ts.tail) cs (B - 1) (by omega) pn20.1) vb_X3_readLevel tw_2_216 ⟨rfl, rfl⟩ ⟨Nat.le_of_ble_eq_true rfl, Nat.le_of_ble_eq_true rfl⟩ (by decide) sx_33 rfl rfl rfl hl.1 rfl (Nat.le_of_ble_eq_true rfl) dX3_readOne_115 ⟨Nat.zero_le _, Nat.zero_le _⟩ (fun u31 H locs q32 hP hS => ?_)
              obtain ⟨hx22, f23⟩ := q32
              rcases e24 : (gD 0).2.2 (ts.tail) with ⟨cs25, ts26⟩ | qq29
              · rw [e24] at hx22
                obtain ⟨a27, po28⟩ := hx22
                have po28 : xPo u31 T j a27 ts26 (cs ++ cs25) (B - 1) := po28
                refine lv_aload_n C.1 C.2.1 dX3_readOne_118 rfl (lv_at hl 1 rfl) ?_
                refine lv_bipush (v := 13) C.1 C.2.1 dX3_readOne_119 (by decide) ?_
                refine mw_cVv (As := [.int 13]) (rest := []) C Z hP hS (33) (cX_passG l E u31 T j hj a27 ts26 ((cs ++ cs25)) (B - 1) (by omega) po28 13 (by decide)) vb_X3_pass tw_2_200 ⟨rfl, rfl⟩ ⟨Nat.le_of_ble_eq_true rfl, Nat.le_of_ble_eq_true rfl⟩ (by decide) sx_33 rfl rfl rfl hl.1 rfl (Nat.le_of_ble_eq_true rfl) dX3_readOne_121 ⟨Nat.zero_le _, Nat.zero_le _⟩ (fun u36 H locs q37 hP hS => ?_)
                by_cases hc33 : hdC ts26 = 13
                · have e34 := q37.1 hc33; subst e34
                  have pn38 := po28.next hj (by omega)
                  refine lv_goto (tgt := 131) C.1 C.2.1 dX3_readOne_124 (by decide) ?_
                  exact mw_vret C hr hlk Z hP hS dX3_readOne_131 (⟨xAf.gd ((congrFun gA_1 ts).trans (gAt_p1 h12 e24 hc33)) (pn38.1.wk (by omega)), ((((xPf.rf j σ).rd _ _).tr f23).rd _ _)⟩)
                · have e34 := q37.2 hc33; subst e34
                  have pb39 := po28.fail hj (by have y := po28.2.2.2.2.2.2; omega)
                  refine lv_goto (tgt := 131) C.1 C.2.1 dX3_readOne_124 (by decide) ?_
                  exact mw_vret C hr hlk Z hP hS dX3_readOne_131 (⟨xAf.bd ((congrFun gA_1 ts).trans (gAt_p2 h12 e24 hc33)) pb39, ((((xPf.rf j σ).rd _ _).tr f23).rd _ _)⟩)
              · rw [e24] at hx22
                have po28 : xPb u31 T j qq29 := hx22
                refine lv_aload_n C.1 C.2.1 dX3_readOne_118 rfl (lv_at hl 1 rfl) ?_
                refine lv_bipush (v := 13) C.1 C.2.1 dX3_readOne_119 (by decide) ?_
                refine mw_cVv (As := [.int 13]) (rest := []) C Z hP hS (33) (cX_passB l E u31 T j hj qq29 po28 (13 : Int32)) vb_X3_pass tw_2_200 ⟨rfl, rfl⟩ ⟨Nat.le_of_ble_eq_true rfl, Nat.le_of_ble_eq_true rfl⟩ (by decide) sx_33 rfl rfl rfl hl.1 rfl (Nat.le_of_ble_eq_true rfl) dX3_readOne_121 ⟨Nat.zero_le _, Nat.zero_le _⟩ (fun u41 H locs q42 hP hS => ?_)
                rw [q42] at hP; clear q42
                refine lv_goto (tgt := 131) C.1 C.2.1 dX3_readOne_124 (by decide) ?_
                exact mw_vret C hr hlk Z hP hS dX3_readOne_131 (⟨xAf.bd ((congrFun gA_1 ts).trans (gAt_p3 h12 e24)) po28, (((xPf.rf j σ).rd _ _).tr f23)⟩)
        · have h16 : hdC ts = 16 := nI_eqI (b := 16) (by omega) (by decide) c14
          have hne : hdC ts ≠ 21 := by omega
          refine lv_iload_n C.1 C.2.1 dX3_readOne_56 rfl (lv_at hl 3 rfl) ?_
          refine lv_iconst (v := 5) C.1 C.2.1 dX3_readOne_57 (by decide) ?_
          refine lv_icmp_ge (tgt := 88) C.1 C.2.1 dX3_readOne_58 (by decide) (fun c43 => ?_) (fun c43 => ?_)
          · exact absurd c43 (by decide)
          · refine lv_aload_n C.1 C.2.1 dX3_readOne_61 rfl (lv_at hl 1 rfl) ?_
            refine lv_dup C.1 C.2.1 dX3_readOne_62 rfl ?_
            refine mw_geti C Z hP (33) 1 (by decide) sx_33 rfl rfl (by decide) inX3 tw_1_154 dX3_readOne_63 ?_
            refine mw_top (y := nI a) (h.2.2.2.1) ?_
            refine lv_iconst (v := 1) C.1 C.2.1 dX3_readOne_66 (by decide) ?_
            refine lv_iadd C.1 C.2.1 dX3_readOne_67 ?_
            refine mw_top (y := nI (a + 1)) (nI_1 _) ?_
            refine mw_puti C Z hP hS (33) 1 (by decide) sx_33 rfl rfl (by decide) inX3 tyX3 tyX3_ok nmX3 rfl tw_1_154 rfl rfl dX3_readOne_68 (fun H locs hP hS => ?_)
            have pn44 := h.next hj hne
            have hb45 := pn44.2
            refine lv_aload_n C.1 C.2.1 dX3_readOne_71 rfl (lv_at hl 1 rfl) ?_
            refine lv_aload_n C.1 C.2.1 dX3_readOne_72 rfl (lv_at hl 2 rfl) ?_
            refine lv_iload_n C.1 C.2.1 dX3_readOne_73 rfl (lv_at hl 3 rfl) ?_
            refine lv_iconst (v := 1) C.1 C.2.1 dX3_readOne_74 (by decide) ?_
            refine lv_iadd C.1 C.2.1 dX3_readOne_75 ?_
            refine mw_top (y := 5) (by decide) ?_
            refine mw_cVv (As := [.ref (mw_a E (39 + j)), .int 5]) (rest := []) C Z hP hS (33) (cX_one5 l E (mw_si σ 33 1 (nI (a + 1))) T j hj (a + 1) (ts.tail) cs (B - 1) (by omega) pn44.1) vb_X3_readOne tw_2_220 ⟨rfl, rfl⟩ ⟨Nat.le_of_ble_eq_true rfl, Nat.le_of_ble_eq_true rfl⟩ (by decide) sx_33 rfl rfl rfl hl.1 rfl (Nat.le_of_ble_eq_true rfl) dX3_readOne_76 ⟨Nat.zero_le _, Nat.zero_le _⟩ (fun u55 H locs q56 hP hS => ?_)
            obtain ⟨hx46, f47⟩ := q56
            rcases e48 : (gD 0).1 (ts.tail) with ⟨cs49, ts50⟩ | qq53
            · rw [e48] at hx46
              obtain ⟨a51, po52⟩ := hx46
              have po52 : xPo u55 T j a51 ts50 (cs ++ cs49) (B - 1) := po52
              refine lv_aload_n C.1 C.2.1 dX3_readOne_79 rfl (lv_at hl 2 rfl) ?_
              refine lv_bipush (v := 20) C.1 C.2.1 dX3_readOne_80 (by decide) ?_
              refine mw_top (y := nI 20) (rfl) ?_
              refine mw_cVv (As := [.int (nI 20)]) (rest := []) C Z hP hS (39 + j) (cX_add l E u55 j hj ((cs ++ cs49)).length po52.2.2.2.2.2.1.1 (by have y := po52.2.2.2.2.2.2; omega) (nI 20)) vb_X8_add tw_2_224 ⟨rfl, rfl⟩ ⟨Nat.le_of_ble_eq_true rfl, Nat.le_of_ble_eq_true rfl⟩ (by omega) (sx_tx (by omega)) rfl rfl rfl hl.1 rfl (Nat.le_of_ble_eq_true rfl) dX3_readOne_82 ⟨Nat.zero_le _, Nat.zero_le _⟩ (fun u58 H locs q59 hP hS => ?_)
              have e60 := q59.1 (by have y := po52.2.2.2.2.2.2; omega)
              subst e60
              have po61 := (po52.add hj 20).wk (C := B) (by omega)
              refine lv_goto (tgt := 131) C.1 C.2.1 dX3_readOne_85 (by decide) ?_
              exact mw_vret C hr hlk Z hP hS dX3_readOne_131 (⟨xAf.gd ((congrFun gA_1 ts).trans (gAt_m1 h16 e48)) (by rw [← List.append_assoc]; exact po61), ((((xPf.rf j σ).rd _ _).tr f47).ad _ _ _)⟩)
            · rw [e48] at hx46
              have po52 : xPb u55 T j qq53 := hx46
              refine lv_aload_n C.1 C.2.1 dX3_readOne_79 rfl (lv_at hl 2 rfl) ?_
              refine lv_bipush (v := 20) C.1 C.2.1 dX3_readOne_80 (by decide) ?_
              refine mw_top (y := nI 20) (rfl) ?_
              obtain ⟨k62, hk63, ek64⟩ := po52.2.2.2
              refine mw_cVv (As := [.int (nI 20)]) (rest := []) C Z hP hS (39 + j) (cX_add l E u55 j hj k62 ek64 hk63 (nI 20)) vb_X8_add tw_2_224 ⟨rfl, rfl⟩ ⟨Nat.le_of_ble_eq_true rfl, Nat.le_of_ble_eq_true rfl⟩ (by omega) (sx_tx (by omega)) rfl rfl rfl hl.1 rfl (Nat.le_of_ble_eq_true rfl) dX3_readOne_82 ⟨Nat.zero_le _, Nat.zero_le _⟩ (fun u67 H locs q68 hP hS => ?_)
              have w65 := xPb.add po52 hj hk63 q68
              refine lv_goto (tgt := 131) C.1 C.2.1 dX3_readOne_85 (by decide) ?_
              exact mw_vret C hr hlk Z hP hS dX3_readOne_131 (⟨xAf.bd ((congrFun gA_1 ts).trans (gAt_m2 h16 e48)) w65.1, ((((xPf.rf j σ).rd _ _).tr f47).tr w65.2)⟩)
      · have c13 := (not_congr (nI_ltI (b := 100) (by omega) (by decide))).mp c13
        have hcl : hdC ts ≤ 5 ∨ 100 ≤ hdC ts := by omega
        have hne : hdC ts ≠ 21 := by omega
        refine lv_aload_n C.1 C.2.1 dX3_readOne_32 rfl (lv_at hl 1 rfl) ?_
        refine lv_dup C.1 C.2.1 dX3_readOne_33 rfl ?_
        refine mw_geti C Z hP (33) 1 (by decide) sx_33 rfl rfl (by decide) inX3 tw_1_154 dX3_readOne_34 ?_
        refine mw_top (y := nI a) (h.2.2.2.1) ?_
        refine lv_iconst (v := 1) C.1 C.2.1 dX3_readOne_37 (by decide) ?_
        refine lv_iadd C.1 C.2.1 dX3_readOne_38 ?_
        refine mw_top (y := nI (a + 1)) (nI_1 _) ?_
        refine mw_puti C Z hP hS (33) 1 (by decide) sx_33 rfl rfl (by decide) inX3 tyX3 tyX3_ok nmX3 rfl tw_1_154 rfl rfl dX3_readOne_39 (fun H locs hP hS => ?_)
        have pn69 := h.next hj hne
        have hb70 := pn69.2
        refine lv_aload_n C.1 C.2.1 dX3_readOne_42 rfl (lv_at hl 2 rfl) ?_
        refine lv_iload_n C.1 C.2.1 dX3_readOne_43 rfl (lv_at hl 0 rfl) ?_
        refine mw_cVv (As := [.int (nI (hdC ts))]) (rest := []) C Z hP hS (39 + j) (cX_add l E (mw_si σ 33 1 (nI (a + 1))) j hj cs.length pn69.1.2.2.2.2.2.1.1 (by have y := pn69.1.2.2.2.2.2.2; omega) (nI (hdC ts))) vb_X8_add tw_2_224 ⟨rfl, rfl⟩ ⟨Nat.le_of_ble_eq_true rfl, Nat.le_of_ble_eq_true rfl⟩ (by omega) (sx_tx (by omega)) rfl rfl rfl hl.1 rfl (Nat.le_of_ble_eq_true rfl) dX3_readOne_44 ⟨Nat.zero_le _, Nat.zero_le _⟩ (fun u72 H locs q73 hP hS => ?_)
        have e74 := q73.1 (by have y := pn69.1.2.2.2.2.2.2; omega)
        subst e74
        have po75 := (pn69.1.add hj (hdC ts)).wk (C := B) (by omega)
        refine lv_goto (tgt := 131) C.1 C.2.1 dX3_readOne_47 (by decide) ?_
        exact mw_vret C hr hlk Z hP hS dX3_readOne_131 (⟨xAf.gd ((congrFun gA_1 ts).trans (gAt_a hcl)) po75, (((xPf.rf j σ).rd _ _).ad _ _ _)⟩)
  · exact absurd c4 (by decide)

set_option maxHeartbeats 4000000 in
set_option maxRecDepth 100000 in
theorem cX_l5_4 (l : Launch) (E : mw_E) (σ : mw_M) (T : List (Nat × Nat)) (j : Nat) (hj : j < 6) (a : Nat) (ts : List (Nat × Nat)) (cs : List Nat) (B : Nat) (hB : B ≤ 160) (h : xPo σ T j a ts cs B) : mw_Cv shX 75 gX l yX3_readLevel cX3_readLevel 6 none (rmF 12 322) E [.ref (mw_a E 33), .ref (mw_a E (39 + j)), .int 5, .int 4] σ (fun u => xAf T j B cs ((gD 1).1 ts) u ∧ xPf j σ u) := by
  refine mw_of (by decide) gX_ok (Nat.le_of_ble_eq_true rfl) ?_
  intro p_ e_ s_ m_ below meth c_ C hr hlk Z hP ls hl
  have C : CallFix p_ m_ c_ cX3_readLevel 6 s_ _ lw_good RX3 := C
  have hl : lv_has ls 6 [(0, .ref (mw_a E 33)), (1, .ref (mw_a E (39 + j))), (2, .int 5), (3, .int 4)] := hl
  have hS : va_S (mw_A 75 E) s_.heap s_.heap [] := va_S.rf
  have hlt : hdC ts < 20000 := by have y := (h.1.lt a).1; rw [h.2.1] at y; exact y
  refine lv_iload_n C.1 C.2.1 dX3_readLevel_0 rfl (lv_at hl 2 rfl) ?_
  refine lv_iconst (v := 4) C.1 C.2.1 dX3_readLevel_1 (by decide) ?_
  refine lv_icmp_le (tgt := 12) C.1 C.2.1 dX3_readLevel_2 (by decide) (fun c1 => ?_) (fun c1 => ?_)
  · exact absurd c1 (by decide)
  · refine lv_aload_n C.1 C.2.1 dX3_readLevel_5 rfl (lv_at hl 0 rfl) ?_
    refine lv_aload_n C.1 C.2.1 dX3_readLevel_6 rfl (lv_at hl 1 rfl) ?_
    refine lv_iload_n C.1 C.2.1 dX3_readLevel_7 rfl (lv_at hl 3 rfl) ?_
    refine mw_cVv (As := [.ref (mw_a E (39 + j)), .int 4]) (rest := []) C Z hP hS (33) (cX_one4 l E σ T j hj a ts cs B (by omega) h) vb_X3_readOne tw_2_220 ⟨rfl, rfl⟩ ⟨Nat.le_of_ble_eq_true rfl, Nat.le_of_ble_eq_true rfl⟩ (by decide) sx_33 rfl rfl rfl hl.1 rfl (Nat.le_of_ble_eq_true rfl) dX3_readLevel_8 ⟨Nat.zero_le _, Nat.zero_le _⟩ (fun u11 H locs q12 hP hS => ?_)
    obtain ⟨hx2, f3⟩ := q12
    rcases e4 : (gD 1).1 ts with ⟨cs5, ts6⟩ | qq9
    · rw [e4] at hx2
      obtain ⟨a7, po8⟩ := hx2
      have po8 : xPo u11 T j a7 ts6 (cs ++ cs5) B := po8
      exact mw_vret C hr hlk Z hP hS dX3_readLevel_11 (⟨xAf.gd rfl po8, ((xPf.rf j σ).tr f3)⟩)
    · rw [e4] at hx2
      have po8 : xPb u11 T j qq9 := hx2
      exact mw_vret C hr hlk Z hP hS dX3_readLevel_11 (⟨xAf.bd rfl po8, ((xPf.rf j σ).tr f3)⟩)

set_option maxHeartbeats 4000000 in
set_option maxRecDepth 100000 in
theorem cX_l4_4 (l : Launch) (E : mw_E) (σ : mw_M) (T : List (Nat × Nat)) (j : Nat) (hj : j < 6) (a : Nat) (ts : List (Nat × Nat)) (cs : List Nat) (B : Nat) (hB : B ≤ 160) (h : xPo σ T j a ts cs B) : mw_Cv shX 75 gX l yX3_readLevel cX3_readLevel 6 none (rmF 13 347) E [.ref (mw_a E 33), .ref (mw_a E (39 + j)), .int 4, .int 4] σ (fun u => xAf T j B cs ((gLevel gTim (gD 1).1) ts) u ∧ xPf j σ u) := by
  refine mw_of (by decide) gX_ok (Nat.le_of_ble_eq_true rfl) ?_
  intro p_ e_ s_ m_ below meth c_ C hr hlk Z hP ls hl
  have C : CallFix p_ m_ c_ cX3_readLevel 6 s_ _ lw_good RX3 := C
  have hl : lv_has ls 6 [(0, .ref (mw_a E 33)), (1, .ref (mw_a E (39 + j))), (2, .int 4), (3, .int 4)] := hl
  have hS : va_S (mw_A 75 E) s_.heap s_.heap [] := va_S.rf
  have hlt : hdC ts < 20000 := by have y := (h.1.lt a).1; rw [h.2.1] at y; exact y
  refine lv_iload_n C.1 C.2.1 dX3_readLevel_0 rfl (lv_at hl 2 rfl) ?_
  refine lv_iconst (v := 4) C.1 C.2.1 dX3_readLevel_1 (by decide) ?_
  refine lv_icmp_le (tgt := 12) C.1 C.2.1 dX3_readLevel_2 (by decide) (fun c1 => ?_) (fun c1 => ?_)
  · refine lv_iload_n C.1 C.2.1 dX3_readLevel_12 rfl (lv_at hl 2 rfl) ?_
    refine lv_iconst (v := 2) C.1 C.2.1 dX3_readLevel_13 (by decide) ?_
    refine lv_icmp_ne (tgt := 40) C.1 C.2.1 dX3_readLevel_14 (by decide) (fun c2 => ?_) (fun c2 => ?_)
    · refine lv_aload_n C.1 C.2.1 dX3_readLevel_40 rfl (lv_at hl 0 rfl) ?_
      refine lv_aload_n C.1 C.2.1 dX3_readLevel_41 rfl (lv_at hl 1 rfl) ?_
      refine lv_iload_n C.1 C.2.1 dX3_readLevel_42 rfl (lv_at hl 2 rfl) ?_
      refine lv_iconst (v := 1) C.1 C.2.1 dX3_readLevel_43 (by decide) ?_
      refine lv_iadd C.1 C.2.1 dX3_readLevel_44 ?_
      refine mw_top (y := 5) (by decide) ?_
      refine lv_iload_n C.1 C.2.1 dX3_readLevel_45 rfl (lv_at hl 3 rfl) ?_
      refine mw_cVv (As := [.ref (mw_a E (39 + j)), .int 5, .int 4]) (rest := []) C Z hP hS (33) (cX_l5_4 l E σ T j hj a ts cs B (by omega) h) vb_X3_readLevel tw_2_216 ⟨rfl, rfl⟩ ⟨Nat.le_of_ble_eq_true rfl, Nat.le_of_ble_eq_true rfl⟩ (by decide) sx_33 rfl rfl rfl hl.1 rfl (Nat.le_of_ble_eq_true rfl) dX3_readLevel_46 ⟨Nat.zero_le _, Nat.zero_le _⟩ (fun u12 H locs q13 hP hS => ?_)
      obtain ⟨hx3, f4⟩ := q13
      rcases e5 : (gD 1).1 ts with ⟨cs6, ts7⟩ | qq10
      · rw [e5] at hx3
        obtain ⟨a8, po9⟩ := hx3
        have po9 : xPo u12 T j a8 ts7 (cs ++ cs6) B := po9
        refine lv_iconst (v := 0) C.1 C.2.1 dX3_readLevel_49 (by decide) ?_
        refine lv_istore (lv' := [(4, .int 0), (0, .ref (mw_a E 33)), (1, .ref (mw_a E (39 + j))), (2, .int 4), (3, .int 4)]) C.1 C.2.1 dX3_readLevel_50 hl (by decide) rfl (fun ls hl => ?_)
        have lpa : ∀ (N : Nat) (a1 : Nat) (t : Nat) (f : Nat) (ts1 : List (Nat × Nat)) (cs1 : List Nat) (ςa : mw_M) (H : Heap) (locs : List Loc), 161 ≤ t + N → (t ≤ 160) → (ts1.length ≤ f) → (t + ts1.length ≤ 160) → ((gLevel gTim (gD 1).1) ts = gLoop gTim (gD 1).1 f cs1 ts1) → (xPo ςa T j a1 ts1 (cs ++ cs1) B) → xPf j σ ςa → va_P (mw_D E) vwCl (mw_ws shX 75 E ςa) H → va_S (mw_A 75 E) s_.heap H locs → ∀ (ls : Array Slot), lv_has ls 6 [(0, .ref (mw_a E 33)), (1, .ref (mw_a E (39 + j))), (2, .int 4), (3, .int 4), (4, .int (nI t))] → xWv p_ l e_ (rmF 13 347) s_ m_ [.ref (mw_a E 33), .ref (mw_a E (39 + j)), .int 4, .int 4] below meth c_ E (fun u => xAf T j B cs ((gLevel gTim (gD 1).1) ts) u ∧ xPf j σ u) H locs (F0 m_ 52 ls []) := by
          intro N
          induction N with
          | zero => intros; exfalso; omega
          | succ N iha =>
            intro a1 t f ts1 cs1 ςa H locs hNa ht hf htl hsp hpo fra hP hS ls hl
            refine lv_iload C.1 C.2.1 dX3_readLevel_52 (lv_at hl 4 rfl) ?_
            refine lv_sipush (v := 160) C.1 C.2.1 dX3_readLevel_54 (by decide) ?_
            refine lv_icmp_ge (tgt := 128) C.1 C.2.1 dX3_readLevel_57 (by decide) (fun c14 => ?_) (fun c14 => ?_)
            · have c14 := (nI_leI (a := 160) (by decide) (by omega)).mp c14
              have e0 : ts1 = [] := List.eq_nil_of_length_eq_zero (by omega)
              exact mw_vret C hr hlk Z hP hS dX3_readLevel_128 (⟨xAf.gd (hsp.trans (gLoop_stop (by rw [e0]; decide))) hpo, fra⟩)
            · have c14 := (not_congr (nI_leI (a := 160) (by decide) (by omega))).mp c14
              refine lv_aload_n C.1 C.2.1 dX3_readLevel_60 rfl (lv_at hl 0 rfl) ?_
              refine mw_geti C Z hP (33) 2 (by decide) sx_33 rfl rfl (by decide) inX3 tw_1_155 dX3_readLevel_61 ?_
              refine mw_top (y := -1) (hpo.2.2.2.2.1) ?_
              refine lv_iconst (v := -1) C.1 C.2.1 dX3_readLevel_64 (by decide) ?_
              refine lv_icmp_ne (tgt := 128) C.1 C.2.1 dX3_readLevel_65 (by decide) (fun c15 => ?_) (fun c15 => ?_)
              · exact absurd c15 (by decide)
              · refine lv_aload_n C.1 C.2.1 dX3_readLevel_68 rfl (lv_at hl 0 rfl) ?_
                refine mw_getr C Z hP (33) 0 (34) (by decide) sx_33 rfl rfl (by decide) inX3 tw_1_153 dX3_readLevel_69 ?_
                refine lv_aload_n C.1 C.2.1 dX3_readLevel_72 rfl (lv_at hl 0 rfl) ?_
                refine mw_geti C Z hP (33) 1 (by decide) sx_33 rfl rfl (by decide) inX3 tw_1_154 dX3_readLevel_73 ?_
                refine mw_top (y := nI a1) (hpo.2.2.2.1) ?_
                refine mw_cVi (As := [.int (nI a1)]) (rest := []) C Z hP hS (34) (cX_tokenAt l E ςa T.length hpo.1.2.1 hpo.1.1 a1 (by have y1 := hpo.1.1; have y2 := hpo.2.2.1; omega)) vb_X10_tokenAt tw_2_204 ⟨rfl, rfl⟩ ⟨Nat.le_of_ble_eq_true rfl, Nat.le_of_ble_eq_true rfl⟩ (by decide) sx_34 rfl rfl rfl hl.1 rfl (Nat.le_of_ble_eq_true rfl) dX3_readLevel_76 ⟨Nat.zero_le _, Nat.zero_le _⟩ (fun r16 u17 H locs q18 hP hS => ?_)
                rw [(hpo.1.tok a1).1, hpo.2.1] at q18
                obtain ⟨rfl, q18u⟩ := q18
                rw [q18u] at hP; clear q18u
                refine lv_istore (lv' := [(5, .int (nI (hdC ts1))), (0, .ref (mw_a E 33)), (1, .ref (mw_a E (39 + j))), (2, .int 4), (3, .int 4), (4, .int (nI t))]) C.1 C.2.1 dX3_readLevel_79 hl (by decide) rfl (fun ls hl => ?_)
                refine lv_iload C.1 C.2.1 dX3_readLevel_81 (lv_at hl 0 rfl) ?_
                refine mw_cSi (As := [.int (nI (hdC ts1))]) (rest := []) C Z hP hS (cX_levelOf l E ςa (hdC ts1) (by have y := (hpo.1.lt a1).1; rw [hpo.2.1] at y; omega)) sb_X3_levelOf tw_2_232 ⟨rfl, rfl⟩ ⟨Nat.le_of_ble_eq_true rfl, Nat.le_of_ble_eq_true rfl⟩ rfl hl.1 rfl (Nat.le_of_ble_eq_true rfl) dX3_readLevel_83 ⟨Nat.zero_le _, Nat.zero_le _⟩ (fun r19 u20 H locs q21 hP hS => ?_)
                obtain ⟨rfl, q21u⟩ := q21
                rw [q21u] at hP; clear q21u
                refine lv_iload_n C.1 C.2.1 dX3_readLevel_86 rfl (lv_at hl 3 rfl) ?_
                refine lv_icmp_eq (tgt := 91) C.1 C.2.1 dX3_readLevel_87 (by decide) (fun c22 => ?_) (fun c22 => ?_)
                · have hop := lv_4.mp c22
                  have hne : hdC ts1 ≠ 21 := lv_21 c22 (by decide)
                  obtain ⟨f2, ef, egl⟩ := gLoop_go (x := (gD 1).1) (cs := cs1) hne hop hf
                  refine lv_aload_n C.1 C.2.1 dX3_readLevel_91 rfl (lv_at hl 1 rfl) ?_
                  refine lv_dup C.1 C.2.1 dX3_readLevel_92 rfl ?_
                  refine mw_geti C Z hP (33) 1 (by decide) sx_33 rfl rfl (by decide) inX3 tw_1_154 dX3_readLevel_93 ?_
                  refine mw_top (y := nI a1) (hpo.2.2.2.1) ?_
                  refine lv_iconst (v := 1) C.1 C.2.1 dX3_readLevel_96 (by decide) ?_
                  refine lv_iadd C.1 C.2.1 dX3_readLevel_97 ?_
                  refine mw_top (y := nI (a1 + 1)) (nI_1 _) ?_
                  refine mw_puti C Z hP hS (33) 1 (by decide) sx_33 rfl rfl (by decide) inX3 tyX3 tyX3_ok nmX3 rfl tw_1_154 rfl rfl dX3_readLevel_98 (fun H locs hP hS => ?_)
                  have pn23 := hpo.next hj hne
                  have hb24 := pn23.2
                  refine lv_aload_n C.1 C.2.1 dX3_readLevel_101 rfl (lv_at hl 1 rfl) ?_
                  refine lv_aload_n C.1 C.2.1 dX3_readLevel_102 rfl (lv_at hl 2 rfl) ?_
                  refine lv_iload_n C.1 C.2.1 dX3_readLevel_103 rfl (lv_at hl 3 rfl) ?_
                  refine lv_iconst (v := 1) C.1 C.2.1 dX3_readLevel_104 (by decide) ?_
                  refine lv_iadd C.1 C.2.1 dX3_readLevel_105 ?_
                  refine mw_top (y := 5) (by decide) ?_
                  refine lv_iload_n C.1 C.2.1 dX3_readLevel_106 rfl (lv_at hl 4 rfl) ?_
                  refine mw_cVv (As := [.ref (mw_a E (39 + j)), .int 5, .int 4]) (rest := []) C Z hP hS (33) (cX_l5_4 l E (mw_si ςa 33 1 (nI (a1 + 1))) T j hj (a1 + 1) (ts1.tail) ((cs ++ cs1)) (B - 1) (by omega) pn23.1) vb_X3_readLevel tw_2_216 ⟨rfl, rfl⟩ ⟨Nat.le_of_ble_eq_true rfl, Nat.le_of_ble_eq_true rfl⟩ (by decide) sx_33 rfl rfl rfl hl.1 rfl (Nat.le_of_ble_eq_true rfl) dX3_readLevel_107 ⟨Nat.zero_le _, Nat.zero_le _⟩ (fun u34 H locs q35 hP hS => ?_)
                  obtain ⟨hx25, f26⟩ := q35
                  rcases e27 : (gD 1).1 (ts1.tail) with ⟨cs28, ts29⟩ | qq32
                  · rw [e27] at hx25
                    obtain ⟨a30, po31⟩ := hx25
                    have po31 : xPo u34 T j a30 ts29 ((cs ++ cs1) ++ cs28) (B - 1) := po31
                    refine lv_aload_n C.1 C.2.1 dX3_readLevel_110 rfl (lv_at hl 2 rfl) ?_
                    refine lv_iload C.1 C.2.1 dX3_readLevel_111 (lv_at hl 0 rfl) ?_
                    refine mw_cVv (As := [.int (nI (hdC ts1))]) (rest := []) C Z hP hS (39 + j) (cX_add l E u34 j hj (((cs ++ cs1) ++ cs28)).length po31.2.2.2.2.2.1.1 (by have y := po31.2.2.2.2.2.2; omega) (nI (hdC ts1))) vb_X8_add tw_2_224 ⟨rfl, rfl⟩ ⟨Nat.le_of_ble_eq_true rfl, Nat.le_of_ble_eq_true rfl⟩ (by omega) (sx_tx (by omega)) rfl rfl rfl hl.1 rfl (Nat.le_of_ble_eq_true rfl) dX3_readLevel_113 ⟨Nat.zero_le _, Nat.zero_le _⟩ (fun u37 H locs q38 hP hS => ?_)
                    have e39 := q38.1 (by have y := po31.2.2.2.2.2.2; omega)
                    subst e39
                    have po40 := (po31.add hj (hdC ts1)).wk (C := B) (by omega)
                    refine lv_iload_n C.1 C.2.1 dX3_readLevel_116 rfl (lv_at hl 3 rfl) ?_
                    refine lv_iconst (v := 2) C.1 C.2.1 dX3_readLevel_117 (by decide) ?_
                    refine lv_icmp_ne (tgt := 122) C.1 C.2.1 dX3_readLevel_118 (by decide) (fun c41 => ?_) (fun c41 => ?_)
                    · refine lv_iinc (v := nI (t + 1)) (lv' := [(4, .int (nI (t + 1))), (5, .int (nI (hdC ts1))), (0, .ref (mw_a E 33)), (1, .ref (mw_a E (39 + j))), (2, .int 4), (3, .int 4)]) C.1 C.2.1 dX3_readLevel_122 hl (k := 5) rfl (nI_1 _) (by decide) rfl (fun ls hl => ?_)
                      refine lv_goto (tgt := 52) C.1 C.2.1 dX3_readLevel_125 (by decide) ?_
                      exact iha a30 (t + 1) f2 ts29 (cs1 ++ cs28 ++ [hdC ts1]) (mw_si (mw_sa u34 (45 + j) (((cs ++ cs1) ++ cs28)).length (nI (hdC ts1))) (39 + j) 3 (nI ((((cs ++ cs1) ++ cs28)).length + 1))) _ _ (by omega) (by omega) (by have y1 := ((gD_dec 1).1) _ _ _ e27; have y2 := tail_len hne; omega) (by have y1 := ((gD_dec 1).1) _ _ _ e27; have y2 := tail_len hne; omega) (hsp.trans (egl.trans (by rw [e27]))) ((by rw [← List.append_assoc]; rw [← List.append_assoc]; exact po40)) (((fra.rd _ _).tr f26).ad _ _ _) hP hS ls (lv_sub hl [2, 3, 4, 5, 0] rfl)
                    · exact absurd c41 (by decide)
                  · rw [e27] at hx25
                    have po31 : xPb u34 T j qq32 := hx25
                    refine lv_aload_n C.1 C.2.1 dX3_readLevel_110 rfl (lv_at hl 2 rfl) ?_
                    refine lv_iload C.1 C.2.1 dX3_readLevel_111 (lv_at hl 0 rfl) ?_
                    obtain ⟨k42, hk43, ek44⟩ := po31.2.2.2
                    refine mw_cVv (As := [.int (nI (hdC ts1))]) (rest := []) C Z hP hS (39 + j) (cX_add l E u34 j hj k42 ek44 hk43 (nI (hdC ts1))) vb_X8_add tw_2_224 ⟨rfl, rfl⟩ ⟨Nat.le_of_ble_eq_true rfl, Nat.le_of_ble_eq_true rfl⟩ (by omega) (sx_tx (by omega)) rfl rfl rfl hl.1 rfl (Nat.le_of_ble_eq_true rfl) dX3_readLevel_113 ⟨Nat.zero_le _, Nat.zero_le _⟩ (fun u47 H locs q48 hP hS => ?_)
                    have w45 := xPb.add po31 hj hk43 q48
                    refine lv_iload_n C.1 C.2.1 dX3_readLevel_116 rfl (lv_at hl 3 rfl) ?_
                    refine lv_iconst (v := 2) C.1 C.2.1 dX3_readLevel_117 (by decide) ?_
                    refine lv_icmp_ne (tgt := 122) C.1 C.2.1 dX3_readLevel_118 (by decide) (fun c49 => ?_) (fun c49 => ?_)
                    · refine lv_iinc (v := nI (t + 1)) (lv' := [(4, .int (nI (t + 1))), (5, .int (nI (hdC ts1))), (0, .ref (mw_a E 33)), (1, .ref (mw_a E (39 + j))), (2, .int 4), (3, .int 4)]) C.1 C.2.1 dX3_readLevel_122 hl (k := 5) rfl (nI_1 _) (by decide) rfl (fun ls hl => ?_)
                      refine lv_goto (tgt := 52) C.1 C.2.1 dX3_readLevel_125 (by decide) ?_
                      refine lv_iload C.1 C.2.1 dX3_readLevel_52 (lv_at hl 0 rfl) ?_
                      refine lv_sipush (v := 160) C.1 C.2.1 dX3_readLevel_54 (by decide) ?_
                      refine lv_icmp_ge (tgt := 128) C.1 C.2.1 dX3_readLevel_57 (by decide) (fun c50 => ?_) (fun c50 => ?_)
                      · exact mw_vret C hr hlk Z hP hS dX3_readLevel_128 (⟨xAf.bd (hsp.trans (egl.trans (by rw [e27]))) w45.1, (((fra.rd _ _).tr f26).tr w45.2)⟩)
                      · refine lv_aload_n C.1 C.2.1 dX3_readLevel_60 rfl (lv_at hl 2 rfl) ?_
                        refine mw_geti C Z hP (33) 2 (by decide) sx_33 rfl rfl (by decide) inX3 tw_1_155 dX3_readLevel_61 ?_
                        refine mw_top (y := nI qq32) (w45.1.2.2.1.1) ?_
                        refine lv_iconst (v := -1) C.1 C.2.1 dX3_readLevel_64 (by decide) ?_
                        refine lv_icmp_ne (tgt := 128) C.1 C.2.1 dX3_readLevel_65 (by decide) (fun c51 => ?_) (fun c51 => ?_)
                        · exact mw_vret C hr hlk Z hP hS dX3_readLevel_128 (⟨xAf.bd (hsp.trans (egl.trans (by rw [e27]))) w45.1, (((fra.rd _ _).tr f26).tr w45.2)⟩)
                        · exact absurd c51 (nI_nm1 (by have y := w45.1.2.2.1.2; omega))
                    · exact absurd c49 (by decide)
                · have hnop : ¬ gTim (hdC ts1) = true := fun y => c22 (lv_4.mpr y)
                  exact mw_vret C hr hlk Z hP hS dX3_readLevel_90 (⟨xAf.gd (hsp.trans (gLoop_stop hnop)) hpo, fra⟩)
        exact lpa (161) a8 0 (ts7.length) ts7 cs6 u12 _ _ (by omega) (by omega) (Nat.le_refl _) (by have y := po9.2.2.2.2.2.2; omega) ((gLevel_g e5)) (po9) ((xPf.rf j σ).tr f4) hP hS ls (lv_sub hl [1, 2, 3, 4, 0] rfl)
      · rw [e5] at hx3
        have po9 : xPb u12 T j qq10 := hx3
        refine lv_iconst (v := 0) C.1 C.2.1 dX3_readLevel_49 (by decide) ?_
        refine lv_istore (lv' := [(4, .int 0), (0, .ref (mw_a E 33)), (1, .ref (mw_a E (39 + j))), (2, .int 4), (3, .int 4)]) C.1 C.2.1 dX3_readLevel_50 hl (by decide) rfl (fun ls hl => ?_)
        refine lv_iload C.1 C.2.1 dX3_readLevel_52 (lv_at hl 0 rfl) ?_
        refine lv_sipush (v := 160) C.1 C.2.1 dX3_readLevel_54 (by decide) ?_
        refine lv_icmp_ge (tgt := 128) C.1 C.2.1 dX3_readLevel_57 (by decide) (fun c52 => ?_) (fun c52 => ?_)
        · exact absurd c52 (by decide)
        · refine lv_aload_n C.1 C.2.1 dX3_readLevel_60 rfl (lv_at hl 1 rfl) ?_
          refine mw_geti C Z hP (33) 2 (by decide) sx_33 rfl rfl (by decide) inX3 tw_1_155 dX3_readLevel_61 ?_
          refine mw_top (y := nI qq10) (po9.2.2.1.1) ?_
          refine lv_iconst (v := -1) C.1 C.2.1 dX3_readLevel_64 (by decide) ?_
          refine lv_icmp_ne (tgt := 128) C.1 C.2.1 dX3_readLevel_65 (by decide) (fun c53 => ?_) (fun c53 => ?_)
          · exact mw_vret C hr hlk Z hP hS dX3_readLevel_128 (⟨xAf.bd ((gLevel_b e5)) po9, ((xPf.rf j σ).tr f4)⟩)
          · exact absurd c53 (nI_nm1 (by have y := po9.2.2.1.2; omega))
    · exact absurd c2 (by decide)
  · exact absurd c1 (by decide)

set_option maxHeartbeats 4000000 in
set_option maxRecDepth 100000 in
theorem cX_l3_4 (l : Launch) (E : mw_E) (σ : mw_M) (T : List (Nat × Nat)) (j : Nat) (hj : j < 6) (a : Nat) (ts : List (Nat × Nat)) (cs : List Nat) (B : Nat) (hB : B ≤ 160) (h : xPo σ T j a ts cs B) : mw_Cv shX 75 gX l yX3_readLevel cX3_readLevel 6 none (rmF 14 372) E [.ref (mw_a E 33), .ref (mw_a E (39 + j)), .int 3, .int 4] σ (fun u => xAf T j B cs ((gLevel gAdd (gLevel gTim (gD 1).1)) ts) u ∧ xPf j σ u) := by
  refine mw_of (by decide) gX_ok (Nat.le_of_ble_eq_true rfl) ?_
  intro p_ e_ s_ m_ below meth c_ C hr hlk Z hP ls hl
  have C : CallFix p_ m_ c_ cX3_readLevel 6 s_ _ lw_good RX3 := C
  have hl : lv_has ls 6 [(0, .ref (mw_a E 33)), (1, .ref (mw_a E (39 + j))), (2, .int 3), (3, .int 4)] := hl
  have hS : va_S (mw_A 75 E) s_.heap s_.heap [] := va_S.rf
  have hlt : hdC ts < 20000 := by have y := (h.1.lt a).1; rw [h.2.1] at y; exact y
  refine lv_iload_n C.1 C.2.1 dX3_readLevel_0 rfl (lv_at hl 2 rfl) ?_
  refine lv_iconst (v := 4) C.1 C.2.1 dX3_readLevel_1 (by decide) ?_
  refine lv_icmp_le (tgt := 12) C.1 C.2.1 dX3_readLevel_2 (by decide) (fun c1 => ?_) (fun c1 => ?_)
  · refine lv_iload_n C.1 C.2.1 dX3_readLevel_12 rfl (lv_at hl 2 rfl) ?_
    refine lv_iconst (v := 2) C.1 C.2.1 dX3_readLevel_13 (by decide) ?_
    refine lv_icmp_ne (tgt := 40) C.1 C.2.1 dX3_readLevel_14 (by decide) (fun c2 => ?_) (fun c2 => ?_)
    · refine lv_aload_n C.1 C.2.1 dX3_readLevel_40 rfl (lv_at hl 0 rfl) ?_
      refine lv_aload_n C.1 C.2.1 dX3_readLevel_41 rfl (lv_at hl 1 rfl) ?_
      refine lv_iload_n C.1 C.2.1 dX3_readLevel_42 rfl (lv_at hl 2 rfl) ?_
      refine lv_iconst (v := 1) C.1 C.2.1 dX3_readLevel_43 (by decide) ?_
      refine lv_iadd C.1 C.2.1 dX3_readLevel_44 ?_
      refine mw_top (y := 4) (by decide) ?_
      refine lv_iload_n C.1 C.2.1 dX3_readLevel_45 rfl (lv_at hl 3 rfl) ?_
      refine mw_cVv (As := [.ref (mw_a E (39 + j)), .int 4, .int 4]) (rest := []) C Z hP hS (33) (cX_l4_4 l E σ T j hj a ts cs B (by omega) h) vb_X3_readLevel tw_2_216 ⟨rfl, rfl⟩ ⟨Nat.le_of_ble_eq_true rfl, Nat.le_of_ble_eq_true rfl⟩ (by decide) sx_33 rfl rfl rfl hl.1 rfl (Nat.le_of_ble_eq_true rfl) dX3_readLevel_46 ⟨Nat.zero_le _, Nat.zero_le _⟩ (fun u12 H locs q13 hP hS => ?_)
      obtain ⟨hx3, f4⟩ := q13
      rcases e5 : (gLevel gTim (gD 1).1) ts with ⟨cs6, ts7⟩ | qq10
      · rw [e5] at hx3
        obtain ⟨a8, po9⟩ := hx3
        have po9 : xPo u12 T j a8 ts7 (cs ++ cs6) B := po9
        refine lv_iconst (v := 0) C.1 C.2.1 dX3_readLevel_49 (by decide) ?_
        refine lv_istore (lv' := [(4, .int 0), (0, .ref (mw_a E 33)), (1, .ref (mw_a E (39 + j))), (2, .int 3), (3, .int 4)]) C.1 C.2.1 dX3_readLevel_50 hl (by decide) rfl (fun ls hl => ?_)
        have lpa : ∀ (N : Nat) (a1 : Nat) (t : Nat) (f : Nat) (ts1 : List (Nat × Nat)) (cs1 : List Nat) (ςa : mw_M) (H : Heap) (locs : List Loc), 161 ≤ t + N → (t ≤ 160) → (ts1.length ≤ f) → (t + ts1.length ≤ 160) → ((gLevel gAdd (gLevel gTim (gD 1).1)) ts = gLoop gAdd (gLevel gTim (gD 1).1) f cs1 ts1) → (xPo ςa T j a1 ts1 (cs ++ cs1) B) → xPf j σ ςa → va_P (mw_D E) vwCl (mw_ws shX 75 E ςa) H → va_S (mw_A 75 E) s_.heap H locs → ∀ (ls : Array Slot), lv_has ls 6 [(0, .ref (mw_a E 33)), (1, .ref (mw_a E (39 + j))), (2, .int 3), (3, .int 4), (4, .int (nI t))] → xWv p_ l e_ (rmF 14 372) s_ m_ [.ref (mw_a E 33), .ref (mw_a E (39 + j)), .int 3, .int 4] below meth c_ E (fun u => xAf T j B cs ((gLevel gAdd (gLevel gTim (gD 1).1)) ts) u ∧ xPf j σ u) H locs (F0 m_ 52 ls []) := by
          intro N
          induction N with
          | zero => intros; exfalso; omega
          | succ N iha =>
            intro a1 t f ts1 cs1 ςa H locs hNa ht hf htl hsp hpo fra hP hS ls hl
            refine lv_iload C.1 C.2.1 dX3_readLevel_52 (lv_at hl 4 rfl) ?_
            refine lv_sipush (v := 160) C.1 C.2.1 dX3_readLevel_54 (by decide) ?_
            refine lv_icmp_ge (tgt := 128) C.1 C.2.1 dX3_readLevel_57 (by decide) (fun c14 => ?_) (fun c14 => ?_)
            · have c14 := (nI_leI (a := 160) (by decide) (by omega)).mp c14
              have e0 : ts1 = [] := List.eq_nil_of_length_eq_zero (by omega)
              exact mw_vret C hr hlk Z hP hS dX3_readLevel_128 (⟨xAf.gd (hsp.trans (gLoop_stop (by rw [e0]; decide))) hpo, fra⟩)
            · have c14 := (not_congr (nI_leI (a := 160) (by decide) (by omega))).mp c14
              refine lv_aload_n C.1 C.2.1 dX3_readLevel_60 rfl (lv_at hl 0 rfl) ?_
              refine mw_geti C Z hP (33) 2 (by decide) sx_33 rfl rfl (by decide) inX3 tw_1_155 dX3_readLevel_61 ?_
              refine mw_top (y := -1) (hpo.2.2.2.2.1) ?_
              refine lv_iconst (v := -1) C.1 C.2.1 dX3_readLevel_64 (by decide) ?_
              refine lv_icmp_ne (tgt := 128) C.1 C.2.1 dX3_readLevel_65 (by decide) (fun c15 => ?_) (fun c15 => ?_)
              · exact absurd c15 (by decide)
              · refine lv_aload_n C.1 C.2.1 dX3_readLevel_68 rfl (lv_at hl 0 rfl) ?_
                refine mw_getr C Z hP (33) 0 (34) (by decide) sx_33 rfl rfl (by decide) inX3 tw_1_153 dX3_readLevel_69 ?_
                refine lv_aload_n C.1 C.2.1 dX3_readLevel_72 rfl (lv_at hl 0 rfl) ?_
                refine mw_geti C Z hP (33) 1 (by decide) sx_33 rfl rfl (by decide) inX3 tw_1_154 dX3_readLevel_73 ?_
                refine mw_top (y := nI a1) (hpo.2.2.2.1) ?_
                refine mw_cVi (As := [.int (nI a1)]) (rest := []) C Z hP hS (34) (cX_tokenAt l E ςa T.length hpo.1.2.1 hpo.1.1 a1 (by have y1 := hpo.1.1; have y2 := hpo.2.2.1; omega)) vb_X10_tokenAt tw_2_204 ⟨rfl, rfl⟩ ⟨Nat.le_of_ble_eq_true rfl, Nat.le_of_ble_eq_true rfl⟩ (by decide) sx_34 rfl rfl rfl hl.1 rfl (Nat.le_of_ble_eq_true rfl) dX3_readLevel_76 ⟨Nat.zero_le _, Nat.zero_le _⟩ (fun r16 u17 H locs q18 hP hS => ?_)
                rw [(hpo.1.tok a1).1, hpo.2.1] at q18
                obtain ⟨rfl, q18u⟩ := q18
                rw [q18u] at hP; clear q18u
                refine lv_istore (lv' := [(5, .int (nI (hdC ts1))), (0, .ref (mw_a E 33)), (1, .ref (mw_a E (39 + j))), (2, .int 3), (3, .int 4), (4, .int (nI t))]) C.1 C.2.1 dX3_readLevel_79 hl (by decide) rfl (fun ls hl => ?_)
                refine lv_iload C.1 C.2.1 dX3_readLevel_81 (lv_at hl 0 rfl) ?_
                refine mw_cSi (As := [.int (nI (hdC ts1))]) (rest := []) C Z hP hS (cX_levelOf l E ςa (hdC ts1) (by have y := (hpo.1.lt a1).1; rw [hpo.2.1] at y; omega)) sb_X3_levelOf tw_2_232 ⟨rfl, rfl⟩ ⟨Nat.le_of_ble_eq_true rfl, Nat.le_of_ble_eq_true rfl⟩ rfl hl.1 rfl (Nat.le_of_ble_eq_true rfl) dX3_readLevel_83 ⟨Nat.zero_le _, Nat.zero_le _⟩ (fun r19 u20 H locs q21 hP hS => ?_)
                obtain ⟨rfl, q21u⟩ := q21
                rw [q21u] at hP; clear q21u
                refine lv_iload_n C.1 C.2.1 dX3_readLevel_86 rfl (lv_at hl 3 rfl) ?_
                refine lv_icmp_eq (tgt := 91) C.1 C.2.1 dX3_readLevel_87 (by decide) (fun c22 => ?_) (fun c22 => ?_)
                · have hop := lv_3.mp c22
                  have hne : hdC ts1 ≠ 21 := lv_21 c22 (by decide)
                  obtain ⟨f2, ef, egl⟩ := gLoop_go (x := (gLevel gTim (gD 1).1)) (cs := cs1) hne hop hf
                  refine lv_aload_n C.1 C.2.1 dX3_readLevel_91 rfl (lv_at hl 1 rfl) ?_
                  refine lv_dup C.1 C.2.1 dX3_readLevel_92 rfl ?_
                  refine mw_geti C Z hP (33) 1 (by decide) sx_33 rfl rfl (by decide) inX3 tw_1_154 dX3_readLevel_93 ?_
                  refine mw_top (y := nI a1) (hpo.2.2.2.1) ?_
                  refine lv_iconst (v := 1) C.1 C.2.1 dX3_readLevel_96 (by decide) ?_
                  refine lv_iadd C.1 C.2.1 dX3_readLevel_97 ?_
                  refine mw_top (y := nI (a1 + 1)) (nI_1 _) ?_
                  refine mw_puti C Z hP hS (33) 1 (by decide) sx_33 rfl rfl (by decide) inX3 tyX3 tyX3_ok nmX3 rfl tw_1_154 rfl rfl dX3_readLevel_98 (fun H locs hP hS => ?_)
                  have pn23 := hpo.next hj hne
                  have hb24 := pn23.2
                  refine lv_aload_n C.1 C.2.1 dX3_readLevel_101 rfl (lv_at hl 1 rfl) ?_
                  refine lv_aload_n C.1 C.2.1 dX3_readLevel_102 rfl (lv_at hl 2 rfl) ?_
                  refine lv_iload_n C.1 C.2.1 dX3_readLevel_103 rfl (lv_at hl 3 rfl) ?_
                  refine lv_iconst (v := 1) C.1 C.2.1 dX3_readLevel_104 (by decide) ?_
                  refine lv_iadd C.1 C.2.1 dX3_readLevel_105 ?_
                  refine mw_top (y := 4) (by decide) ?_
                  refine lv_iload_n C.1 C.2.1 dX3_readLevel_106 rfl (lv_at hl 4 rfl) ?_
                  refine mw_cVv (As := [.ref (mw_a E (39 + j)), .int 4, .int 4]) (rest := []) C Z hP hS (33) (cX_l4_4 l E (mw_si ςa 33 1 (nI (a1 + 1))) T j hj (a1 + 1) (ts1.tail) ((cs ++ cs1)) (B - 1) (by omega) pn23.1) vb_X3_readLevel tw_2_216 ⟨rfl, rfl⟩ ⟨Nat.le_of_ble_eq_true rfl, Nat.le_of_ble_eq_true rfl⟩ (by decide) sx_33 rfl rfl rfl hl.1 rfl (Nat.le_of_ble_eq_true rfl) dX3_readLevel_107 ⟨Nat.zero_le _, Nat.zero_le _⟩ (fun u34 H locs q35 hP hS => ?_)
                  obtain ⟨hx25, f26⟩ := q35
                  rcases e27 : (gLevel gTim (gD 1).1) (ts1.tail) with ⟨cs28, ts29⟩ | qq32
                  · rw [e27] at hx25
                    obtain ⟨a30, po31⟩ := hx25
                    have po31 : xPo u34 T j a30 ts29 ((cs ++ cs1) ++ cs28) (B - 1) := po31
                    refine lv_aload_n C.1 C.2.1 dX3_readLevel_110 rfl (lv_at hl 2 rfl) ?_
                    refine lv_iload C.1 C.2.1 dX3_readLevel_111 (lv_at hl 0 rfl) ?_
                    refine mw_cVv (As := [.int (nI (hdC ts1))]) (rest := []) C Z hP hS (39 + j) (cX_add l E u34 j hj (((cs ++ cs1) ++ cs28)).length po31.2.2.2.2.2.1.1 (by have y := po31.2.2.2.2.2.2; omega) (nI (hdC ts1))) vb_X8_add tw_2_224 ⟨rfl, rfl⟩ ⟨Nat.le_of_ble_eq_true rfl, Nat.le_of_ble_eq_true rfl⟩ (by omega) (sx_tx (by omega)) rfl rfl rfl hl.1 rfl (Nat.le_of_ble_eq_true rfl) dX3_readLevel_113 ⟨Nat.zero_le _, Nat.zero_le _⟩ (fun u37 H locs q38 hP hS => ?_)
                    have e39 := q38.1 (by have y := po31.2.2.2.2.2.2; omega)
                    subst e39
                    have po40 := (po31.add hj (hdC ts1)).wk (C := B) (by omega)
                    refine lv_iload_n C.1 C.2.1 dX3_readLevel_116 rfl (lv_at hl 3 rfl) ?_
                    refine lv_iconst (v := 2) C.1 C.2.1 dX3_readLevel_117 (by decide) ?_
                    refine lv_icmp_ne (tgt := 122) C.1 C.2.1 dX3_readLevel_118 (by decide) (fun c41 => ?_) (fun c41 => ?_)
                    · refine lv_iinc (v := nI (t + 1)) (lv' := [(4, .int (nI (t + 1))), (5, .int (nI (hdC ts1))), (0, .ref (mw_a E 33)), (1, .ref (mw_a E (39 + j))), (2, .int 3), (3, .int 4)]) C.1 C.2.1 dX3_readLevel_122 hl (k := 5) rfl (nI_1 _) (by decide) rfl (fun ls hl => ?_)
                      refine lv_goto (tgt := 52) C.1 C.2.1 dX3_readLevel_125 (by decide) ?_
                      exact iha a30 (t + 1) f2 ts29 (cs1 ++ cs28 ++ [hdC ts1]) (mw_si (mw_sa u34 (45 + j) (((cs ++ cs1) ++ cs28)).length (nI (hdC ts1))) (39 + j) 3 (nI ((((cs ++ cs1) ++ cs28)).length + 1))) _ _ (by omega) (by omega) (by have y1 := (gLevel_dec (gD_dec 1).1) _ _ _ e27; have y2 := tail_len hne; omega) (by have y1 := (gLevel_dec (gD_dec 1).1) _ _ _ e27; have y2 := tail_len hne; omega) (hsp.trans (egl.trans (by rw [e27]))) ((by rw [← List.append_assoc]; rw [← List.append_assoc]; exact po40)) (((fra.rd _ _).tr f26).ad _ _ _) hP hS ls (lv_sub hl [2, 3, 4, 5, 0] rfl)
                    · exact absurd c41 (by decide)
                  · rw [e27] at hx25
                    have po31 : xPb u34 T j qq32 := hx25
                    refine lv_aload_n C.1 C.2.1 dX3_readLevel_110 rfl (lv_at hl 2 rfl) ?_
                    refine lv_iload C.1 C.2.1 dX3_readLevel_111 (lv_at hl 0 rfl) ?_
                    obtain ⟨k42, hk43, ek44⟩ := po31.2.2.2
                    refine mw_cVv (As := [.int (nI (hdC ts1))]) (rest := []) C Z hP hS (39 + j) (cX_add l E u34 j hj k42 ek44 hk43 (nI (hdC ts1))) vb_X8_add tw_2_224 ⟨rfl, rfl⟩ ⟨Nat.le_of_ble_eq_true rfl, Nat.le_of_ble_eq_true rfl⟩ (by omega) (sx_tx (by omega)) rfl rfl rfl hl.1 rfl (Nat.le_of_ble_eq_true rfl) dX3_readLevel_113 ⟨Nat.zero_le _, Nat.zero_le _⟩ (fun u47 H locs q48 hP hS => ?_)
                    have w45 := xPb.add po31 hj hk43 q48
                    refine lv_iload_n C.1 C.2.1 dX3_readLevel_116 rfl (lv_at hl 3 rfl) ?_
                    refine lv_iconst (v := 2) C.1 C.2.1 dX3_readLevel_117 (by decide) ?_
                    refine lv_icmp_ne (tgt := 122) C.1 C.2.1 dX3_readLevel_118 (by decide) (fun c49 => ?_) (fun c49 => ?_)
                    · refine lv_iinc (v := nI (t + 1)) (lv' := [(4, .int (nI (t + 1))), (5, .int (nI (hdC ts1))), (0, .ref (mw_a E 33)), (1, .ref (mw_a E (39 + j))), (2, .int 3), (3, .int 4)]) C.1 C.2.1 dX3_readLevel_122 hl (k := 5) rfl (nI_1 _) (by decide) rfl (fun ls hl => ?_)
                      refine lv_goto (tgt := 52) C.1 C.2.1 dX3_readLevel_125 (by decide) ?_
                      refine lv_iload C.1 C.2.1 dX3_readLevel_52 (lv_at hl 0 rfl) ?_
                      refine lv_sipush (v := 160) C.1 C.2.1 dX3_readLevel_54 (by decide) ?_
                      refine lv_icmp_ge (tgt := 128) C.1 C.2.1 dX3_readLevel_57 (by decide) (fun c50 => ?_) (fun c50 => ?_)
                      · exact mw_vret C hr hlk Z hP hS dX3_readLevel_128 (⟨xAf.bd (hsp.trans (egl.trans (by rw [e27]))) w45.1, (((fra.rd _ _).tr f26).tr w45.2)⟩)
                      · refine lv_aload_n C.1 C.2.1 dX3_readLevel_60 rfl (lv_at hl 2 rfl) ?_
                        refine mw_geti C Z hP (33) 2 (by decide) sx_33 rfl rfl (by decide) inX3 tw_1_155 dX3_readLevel_61 ?_
                        refine mw_top (y := nI qq32) (w45.1.2.2.1.1) ?_
                        refine lv_iconst (v := -1) C.1 C.2.1 dX3_readLevel_64 (by decide) ?_
                        refine lv_icmp_ne (tgt := 128) C.1 C.2.1 dX3_readLevel_65 (by decide) (fun c51 => ?_) (fun c51 => ?_)
                        · exact mw_vret C hr hlk Z hP hS dX3_readLevel_128 (⟨xAf.bd (hsp.trans (egl.trans (by rw [e27]))) w45.1, (((fra.rd _ _).tr f26).tr w45.2)⟩)
                        · exact absurd c51 (nI_nm1 (by have y := w45.1.2.2.1.2; omega))
                    · exact absurd c49 (by decide)
                · have hnop : ¬ gAdd (hdC ts1) = true := fun y => c22 (lv_3.mpr y)
                  exact mw_vret C hr hlk Z hP hS dX3_readLevel_90 (⟨xAf.gd (hsp.trans (gLoop_stop hnop)) hpo, fra⟩)
        exact lpa (161) a8 0 (ts7.length) ts7 cs6 u12 _ _ (by omega) (by omega) (Nat.le_refl _) (by have y := po9.2.2.2.2.2.2; omega) ((gLevel_g e5)) (po9) ((xPf.rf j σ).tr f4) hP hS ls (lv_sub hl [1, 2, 3, 4, 0] rfl)
      · rw [e5] at hx3
        have po9 : xPb u12 T j qq10 := hx3
        refine lv_iconst (v := 0) C.1 C.2.1 dX3_readLevel_49 (by decide) ?_
        refine lv_istore (lv' := [(4, .int 0), (0, .ref (mw_a E 33)), (1, .ref (mw_a E (39 + j))), (2, .int 3), (3, .int 4)]) C.1 C.2.1 dX3_readLevel_50 hl (by decide) rfl (fun ls hl => ?_)
        refine lv_iload C.1 C.2.1 dX3_readLevel_52 (lv_at hl 0 rfl) ?_
        refine lv_sipush (v := 160) C.1 C.2.1 dX3_readLevel_54 (by decide) ?_
        refine lv_icmp_ge (tgt := 128) C.1 C.2.1 dX3_readLevel_57 (by decide) (fun c52 => ?_) (fun c52 => ?_)
        · exact absurd c52 (by decide)
        · refine lv_aload_n C.1 C.2.1 dX3_readLevel_60 rfl (lv_at hl 1 rfl) ?_
          refine mw_geti C Z hP (33) 2 (by decide) sx_33 rfl rfl (by decide) inX3 tw_1_155 dX3_readLevel_61 ?_
          refine mw_top (y := nI qq10) (po9.2.2.1.1) ?_
          refine lv_iconst (v := -1) C.1 C.2.1 dX3_readLevel_64 (by decide) ?_
          refine lv_icmp_ne (tgt := 128) C.1 C.2.1 dX3_readLevel_65 (by decide) (fun c53 => ?_) (fun c53 => ?_)
          · exact mw_vret C hr hlk Z hP hS dX3_readLevel_128 (⟨xAf.bd ((gLevel_b e5)) po9, ((xPf.rf j σ).tr f4)⟩)
          · exact absurd c53 (nI_nm1 (by have y := po9.2.2.1.2; omega))
    · exact absurd c2 (by decide)
  · exact absurd c1 (by decide)

set_option maxHeartbeats 4000000 in
set_option maxRecDepth 100000 in
theorem cX_not4 (l : Launch) (E : mw_E) (σ : mw_M) (T : List (Nat × Nat)) (j : Nat) (hj : j < 6) (a : Nat) (ts : List (Nat × Nat)) (cs : List Nat) (B : Nat) (hB : B ≤ 160) (h : xPo σ T j a ts cs B) (h11 : hdC ts = 11) : mw_Cv shX 75 gX l yX3_readNot cX3_readNot 3 none (rmF 9 249) E [.ref (mw_a E 33), .ref (mw_a E (39 + j)), .int 4] σ (fun u => xAf T j B cs ((gD 1).2.1 ts) u ∧ xPf j σ u) := by
  refine mw_of (by decide) gX_ok (Nat.le_of_ble_eq_true rfl) ?_
  intro p_ e_ s_ m_ below meth c_ C hr hlk Z hP ls hl
  have C : CallFix p_ m_ c_ cX3_readNot 3 s_ _ lw_good RX3 := C
  have hl : lv_has ls 3 [(0, .ref (mw_a E 33)), (1, .ref (mw_a E (39 + j))), (2, .int 4)] := hl
  have hS : va_S (mw_A 75 E) s_.heap s_.heap [] := va_S.rf
  have hlt : hdC ts < 20000 := by have y := (h.1.lt a).1; rw [h.2.1] at y; exact y
  have hne : hdC ts ≠ 21 := by omega
  refine lv_aload_n C.1 C.2.1 dX3_readNot_0 rfl (lv_at hl 0 rfl) ?_
  refine mw_geti C Z hP (33) 2 (by decide) sx_33 rfl rfl (by decide) inX3 tw_1_155 dX3_readNot_1 ?_
  refine mw_top (y := -1) (h.2.2.2.2.1) ?_
  refine lv_iconst (v := -1) C.1 C.2.1 dX3_readNot_4 (by decide) ?_
  refine lv_icmp_ne (tgt := 13) C.1 C.2.1 dX3_readNot_5 (by decide) (fun c1 => ?_) (fun c1 => ?_)
  · exact absurd c1 (by decide)
  · refine lv_iload_n C.1 C.2.1 dX3_readNot_8 rfl (lv_at hl 2 rfl) ?_
    refine lv_iconst (v := 5) C.1 C.2.1 dX3_readNot_9 (by decide) ?_
    refine lv_icmp_lt (tgt := 18) C.1 C.2.1 dX3_readNot_10 (by decide) (fun c2 => ?_) (fun c2 => ?_)
    · refine lv_aload_n C.1 C.2.1 dX3_readNot_18 rfl (lv_at hl 0 rfl) ?_
      refine lv_dup C.1 C.2.1 dX3_readNot_19 rfl ?_
      refine mw_geti C Z hP (33) 1 (by decide) sx_33 rfl rfl (by decide) inX3 tw_1_154 dX3_readNot_20 ?_
      refine mw_top (y := nI a) (h.2.2.2.1) ?_
      refine lv_iconst (v := 1) C.1 C.2.1 dX3_readNot_23 (by decide) ?_
      refine lv_iadd C.1 C.2.1 dX3_readNot_24 ?_
      refine mw_top (y := nI (a + 1)) (nI_1 _) ?_
      refine mw_puti C Z hP hS (33) 1 (by decide) sx_33 rfl rfl (by decide) inX3 tyX3 tyX3_ok nmX3 rfl tw_1_154 rfl rfl dX3_readNot_25 (fun H locs hP hS => ?_)
      have pn3 := h.next hj hne
      have hb4 := pn3.2
      refine lv_aload_n C.1 C.2.1 dX3_readNot_28 rfl (lv_at hl 0 rfl) ?_
      refine lv_aload_n C.1 C.2.1 dX3_readNot_29 rfl (lv_at hl 1 rfl) ?_
      refine lv_iconst (v := 2) C.1 C.2.1 dX3_readNot_30 (by decide) ?_
      refine lv_iload_n C.1 C.2.1 dX3_readNot_31 rfl (lv_at hl 2 rfl) ?_
      refine lv_iconst (v := 1) C.1 C.2.1 dX3_readNot_32 (by decide) ?_
      refine lv_iadd C.1 C.2.1 dX3_readNot_33 ?_
      refine mw_top (y := 5) (by decide) ?_
      refine mw_cVv (As := [.ref (mw_a E (39 + j)), .int 2, .int 5]) (rest := []) C Z hP hS (33) (cX_l2_5 l E (mw_si σ 33 1 (nI (a + 1))) T j hj (a + 1) (ts.tail) cs (B - 1) (by omega) pn3.1) vb_X3_readLevel tw_2_216 ⟨rfl, rfl⟩ ⟨Nat.le_of_ble_eq_true rfl, Nat.le_of_ble_eq_true rfl⟩ (by decide) sx_33 rfl rfl rfl hl.1 rfl (Nat.le_of_ble_eq_true rfl) dX3_readNot_34 ⟨Nat.zero_le _, Nat.zero_le _⟩ (fun u14 H locs q15 hP hS => ?_)
      obtain ⟨hx5, f6⟩ := q15
      rcases e7 : (gD 0).2.1 (ts.tail) with ⟨cs8, ts9⟩ | qq12
      · rw [e7] at hx5
        obtain ⟨a10, po11⟩ := hx5
        have po11 : xPo u14 T j a10 ts9 (cs ++ cs8) (B - 1) := po11
        refine lv_aload_n C.1 C.2.1 dX3_readNot_37 rfl (lv_at hl 1 rfl) ?_
        refine lv_bipush (v := 11) C.1 C.2.1 dX3_readNot_38 (by decide) ?_
        refine mw_top (y := nI 11) (rfl) ?_
        refine mw_cVv (As := [.int (nI 11)]) (rest := []) C Z hP hS (39 + j) (cX_add l E u14 j hj ((cs ++ cs8)).length po11.2.2.2.2.2.1.1 (by have y := po11.2.2.2.2.2.2; omega) (nI 11)) vb_X8_add tw_2_224 ⟨rfl, rfl⟩ ⟨Nat.le_of_ble_eq_true rfl, Nat.le_of_ble_eq_true rfl⟩ (by omega) (sx_tx (by omega)) rfl rfl rfl hl.1 rfl (Nat.le_of_ble_eq_true rfl) dX3_readNot_40 ⟨Nat.zero_le _, Nat.zero_le _⟩ (fun u17 H locs q18 hP hS => ?_)
        have e19 := q18.1 (by have y := po11.2.2.2.2.2.2; omega)
        subst e19
        have po20 := (po11.add hj 11).wk (C := B) (by omega)
        exact mw_vret C hr hlk Z hP hS dX3_readNot_43 (⟨xAf.gd ((congrFun gN_1 ts).trans (gNot_t1 h11 e7)) (by rw [← List.append_assoc]; exact po20), ((((xPf.rf j σ).rd _ _).tr f6).ad _ _ _)⟩)
      · rw [e7] at hx5
        have po11 : xPb u14 T j qq12 := hx5
        refine lv_aload_n C.1 C.2.1 dX3_readNot_37 rfl (lv_at hl 1 rfl) ?_
        refine lv_bipush (v := 11) C.1 C.2.1 dX3_readNot_38 (by decide) ?_
        refine mw_top (y := nI 11) (rfl) ?_
        obtain ⟨k21, hk22, ek23⟩ := po11.2.2.2
        refine mw_cVv (As := [.int (nI 11)]) (rest := []) C Z hP hS (39 + j) (cX_add l E u14 j hj k21 ek23 hk22 (nI 11)) vb_X8_add tw_2_224 ⟨rfl, rfl⟩ ⟨Nat.le_of_ble_eq_true rfl, Nat.le_of_ble_eq_true rfl⟩ (by omega) (sx_tx (by omega)) rfl rfl rfl hl.1 rfl (Nat.le_of_ble_eq_true rfl) dX3_readNot_40 ⟨Nat.zero_le _, Nat.zero_le _⟩ (fun u26 H locs q27 hP hS => ?_)
        have w24 := xPb.add po11 hj hk22 q27
        exact mw_vret C hr hlk Z hP hS dX3_readNot_43 (⟨xAf.bd ((congrFun gN_1 ts).trans (gNot_t2 h11 e7)) w24.1, ((((xPf.rf j σ).rd _ _).tr f6).tr w24.2)⟩)
    · exact absurd c2 (by decide)

set_option maxHeartbeats 4000000 in
set_option maxRecDepth 100000 in
theorem cX_l2_4 (l : Launch) (E : mw_E) (σ : mw_M) (T : List (Nat × Nat)) (j : Nat) (hj : j < 6) (a : Nat) (ts : List (Nat × Nat)) (cs : List Nat) (B : Nat) (hB : B ≤ 160) (h : xPo σ T j a ts cs B) : mw_Cv shX 75 gX l yX3_readLevel cX3_readLevel 6 none (rmF 15 397) E [.ref (mw_a E 33), .ref (mw_a E (39 + j)), .int 2, .int 4] σ (fun u => xAf T j B cs ((gD 1).2.1 ts) u ∧ xPf j σ u) := by
  refine mw_of (by decide) gX_ok (Nat.le_of_ble_eq_true rfl) ?_
  intro p_ e_ s_ m_ below meth c_ C hr hlk Z hP ls hl
  have C : CallFix p_ m_ c_ cX3_readLevel 6 s_ _ lw_good RX3 := C
  have hl : lv_has ls 6 [(0, .ref (mw_a E 33)), (1, .ref (mw_a E (39 + j))), (2, .int 2), (3, .int 4)] := hl
  have hS : va_S (mw_A 75 E) s_.heap s_.heap [] := va_S.rf
  have hlt : hdC ts < 20000 := by have y := (h.1.lt a).1; rw [h.2.1] at y; exact y
  refine lv_iload_n C.1 C.2.1 dX3_readLevel_0 rfl (lv_at hl 2 rfl) ?_
  refine lv_iconst (v := 4) C.1 C.2.1 dX3_readLevel_1 (by decide) ?_
  refine lv_icmp_le (tgt := 12) C.1 C.2.1 dX3_readLevel_2 (by decide) (fun c1 => ?_) (fun c1 => ?_)
  · refine lv_iload_n C.1 C.2.1 dX3_readLevel_12 rfl (lv_at hl 2 rfl) ?_
    refine lv_iconst (v := 2) C.1 C.2.1 dX3_readLevel_13 (by decide) ?_
    refine lv_icmp_ne (tgt := 40) C.1 C.2.1 dX3_readLevel_14 (by decide) (fun c2 => ?_) (fun c2 => ?_)
    · exact absurd c2 (by decide)
    · refine lv_aload_n C.1 C.2.1 dX3_readLevel_17 rfl (lv_at hl 0 rfl) ?_
      refine mw_getr C Z hP (33) 0 (34) (by decide) sx_33 rfl rfl (by decide) inX3 tw_1_153 dX3_readLevel_18 ?_
      refine lv_aload_n C.1 C.2.1 dX3_readLevel_21 rfl (lv_at hl 0 rfl) ?_
      refine mw_geti C Z hP (33) 1 (by decide) sx_33 rfl rfl (by decide) inX3 tw_1_154 dX3_readLevel_22 ?_
      refine mw_top (y := nI a) (h.2.2.2.1) ?_
      refine mw_cVi (As := [.int (nI a)]) (rest := []) C Z hP hS (34) (cX_tokenAt l E σ T.length h.1.2.1 h.1.1 a (by have y1 := h.1.1; have y2 := h.2.2.1; omega)) vb_X10_tokenAt tw_2_204 ⟨rfl, rfl⟩ ⟨Nat.le_of_ble_eq_true rfl, Nat.le_of_ble_eq_true rfl⟩ (by decide) sx_34 rfl rfl rfl hl.1 rfl (Nat.le_of_ble_eq_true rfl) dX3_readLevel_25 ⟨Nat.zero_le _, Nat.zero_le _⟩ (fun r3 u4 H locs q5 hP hS => ?_)
      rw [(h.1.tok a).1, h.2.1] at q5
      obtain ⟨rfl, q5u⟩ := q5
      rw [q5u] at hP; clear q5u
      refine lv_bipush (v := 11) C.1 C.2.1 dX3_readLevel_28 (by decide) ?_
      refine lv_icmp_ne (tgt := 40) C.1 C.2.1 dX3_readLevel_30 (by decide) (fun c6 => ?_) (fun c6 => ?_)
      · have hn11 : ¬ hdC ts = 11 := fun y => c6 (by rw [y]; rfl)
        refine lv_aload_n C.1 C.2.1 dX3_readLevel_40 rfl (lv_at hl 0 rfl) ?_
        refine lv_aload_n C.1 C.2.1 dX3_readLevel_41 rfl (lv_at hl 1 rfl) ?_
        refine lv_iload_n C.1 C.2.1 dX3_readLevel_42 rfl (lv_at hl 2 rfl) ?_
        refine lv_iconst (v := 1) C.1 C.2.1 dX3_readLevel_43 (by decide) ?_
        refine lv_iadd C.1 C.2.1 dX3_readLevel_44 ?_
        refine mw_top (y := 3) (by decide) ?_
        refine lv_iload_n C.1 C.2.1 dX3_readLevel_45 rfl (lv_at hl 3 rfl) ?_
        refine mw_cVv (As := [.ref (mw_a E (39 + j)), .int 3, .int 4]) (rest := []) C Z hP hS (33) (cX_l3_4 l E σ T j hj a ts cs B (by omega) h) vb_X3_readLevel tw_2_216 ⟨rfl, rfl⟩ ⟨Nat.le_of_ble_eq_true rfl, Nat.le_of_ble_eq_true rfl⟩ (by decide) sx_33 rfl rfl rfl hl.1 rfl (Nat.le_of_ble_eq_true rfl) dX3_readLevel_46 ⟨Nat.zero_le _, Nat.zero_le _⟩ (fun u16 H locs q17 hP hS => ?_)
        obtain ⟨hx7, f8⟩ := q17
        rcases e9 : (gLevel gAdd (gLevel gTim (gD 1).1)) ts with ⟨cs10, ts11⟩ | qq14
        · rw [e9] at hx7
          obtain ⟨a12, po13⟩ := hx7
          have po13 : xPo u16 T j a12 ts11 (cs ++ cs10) B := po13
          refine lv_iconst (v := 0) C.1 C.2.1 dX3_readLevel_49 (by decide) ?_
          refine lv_istore (lv' := [(4, .int 0), (0, .ref (mw_a E 33)), (1, .ref (mw_a E (39 + j))), (2, .int 2), (3, .int 4)]) C.1 C.2.1 dX3_readLevel_50 hl (by decide) rfl (fun ls hl => ?_)
          refine lv_iload C.1 C.2.1 dX3_readLevel_52 (lv_at hl 0 rfl) ?_
          refine lv_sipush (v := 160) C.1 C.2.1 dX3_readLevel_54 (by decide) ?_
          refine lv_icmp_ge (tgt := 128) C.1 C.2.1 dX3_readLevel_57 (by decide) (fun c18 => ?_) (fun c18 => ?_)
          · exact absurd c18 (by decide)
          · refine lv_aload_n C.1 C.2.1 dX3_readLevel_60 rfl (lv_at hl 1 rfl) ?_
            refine mw_geti C Z hP (33) 2 (by decide) sx_33 rfl rfl (by decide) inX3 tw_1_155 dX3_readLevel_61 ?_
            refine mw_top (y := -1) (po13.2.2.2.2.1) ?_
            refine lv_iconst (v := -1) C.1 C.2.1 dX3_readLevel_64 (by decide) ?_
            refine lv_icmp_ne (tgt := 128) C.1 C.2.1 dX3_readLevel_65 (by decide) (fun c19 => ?_) (fun c19 => ?_)
            · exact absurd c19 (by decide)
            · refine lv_aload_n C.1 C.2.1 dX3_readLevel_68 rfl (lv_at hl 1 rfl) ?_
              refine mw_getr C Z hP (33) 0 (34) (by decide) sx_33 rfl rfl (by decide) inX3 tw_1_153 dX3_readLevel_69 ?_
              refine lv_aload_n C.1 C.2.1 dX3_readLevel_72 rfl (lv_at hl 1 rfl) ?_
              refine mw_geti C Z hP (33) 1 (by decide) sx_33 rfl rfl (by decide) inX3 tw_1_154 dX3_readLevel_73 ?_
              refine mw_top (y := nI a12) (po13.2.2.2.1) ?_
              refine mw_cVi (As := [.int (nI a12)]) (rest := []) C Z hP hS (34) (cX_tokenAt l E u16 T.length po13.1.2.1 po13.1.1 a12 (by have y1 := po13.1.1; have y2 := po13.2.2.1; omega)) vb_X10_tokenAt tw_2_204 ⟨rfl, rfl⟩ ⟨Nat.le_of_ble_eq_true rfl, Nat.le_of_ble_eq_true rfl⟩ (by decide) sx_34 rfl rfl rfl hl.1 rfl (Nat.le_of_ble_eq_true rfl) dX3_readLevel_76 ⟨Nat.zero_le _, Nat.zero_le _⟩ (fun r20 u21 H locs q22 hP hS => ?_)
              rw [(po13.1.tok a12).1, po13.2.1] at q22
              obtain ⟨rfl, q22u⟩ := q22
              rw [q22u] at hP; clear q22u
              refine lv_istore (lv' := [(5, .int (nI (hdC ts11))), (4, .int 0), (0, .ref (mw_a E 33)), (1, .ref (mw_a E (39 + j))), (2, .int 2), (3, .int 4)]) C.1 C.2.1 dX3_readLevel_79 hl (by decide) rfl (fun ls hl => ?_)
              refine lv_iload C.1 C.2.1 dX3_readLevel_81 (lv_at hl 0 rfl) ?_
              refine mw_cSi (As := [.int (nI (hdC ts11))]) (rest := []) C Z hP hS (cX_levelOf l E u16 (hdC ts11) (by have y := (po13.1.lt a12).1; rw [po13.2.1] at y; omega)) sb_X3_levelOf tw_2_232 ⟨rfl, rfl⟩ ⟨Nat.le_of_ble_eq_true rfl, Nat.le_of_ble_eq_true rfl⟩ rfl hl.1 rfl (Nat.le_of_ble_eq_true rfl) dX3_readLevel_83 ⟨Nat.zero_le _, Nat.zero_le _⟩ (fun r23 u24 H locs q25 hP hS => ?_)
              obtain ⟨rfl, q25u⟩ := q25
              rw [q25u] at hP; clear q25u
              refine lv_iload_n C.1 C.2.1 dX3_readLevel_86 rfl (lv_at hl 4 rfl) ?_
              refine lv_icmp_eq (tgt := 91) C.1 C.2.1 dX3_readLevel_87 (by decide) (fun c26 => ?_) (fun c26 => ?_)
              · have hop := lv_2.mp c26
                have hne : hdC ts11 ≠ 21 := lv_21 c26 (by decide)
                refine lv_aload_n C.1 C.2.1 dX3_readLevel_91 rfl (lv_at hl 2 rfl) ?_
                refine lv_dup C.1 C.2.1 dX3_readLevel_92 rfl ?_
                refine mw_geti C Z hP (33) 1 (by decide) sx_33 rfl rfl (by decide) inX3 tw_1_154 dX3_readLevel_93 ?_
                refine mw_top (y := nI a12) (po13.2.2.2.1) ?_
                refine lv_iconst (v := 1) C.1 C.2.1 dX3_readLevel_96 (by decide) ?_
                refine lv_iadd C.1 C.2.1 dX3_readLevel_97 ?_
                refine mw_top (y := nI (a12 + 1)) (nI_1 _) ?_
                refine mw_puti C Z hP hS (33) 1 (by decide) sx_33 rfl rfl (by decide) inX3 tyX3 tyX3_ok nmX3 rfl tw_1_154 rfl rfl dX3_readLevel_98 (fun H locs hP hS => ?_)
                have pn27 := po13.next hj hne
                have hb28 := pn27.2
                refine lv_aload_n C.1 C.2.1 dX3_readLevel_101 rfl (lv_at hl 2 rfl) ?_
                refine lv_aload_n C.1 C.2.1 dX3_readLevel_102 rfl (lv_at hl 3 rfl) ?_
                refine lv_iload_n C.1 C.2.1 dX3_readLevel_103 rfl (lv_at hl 4 rfl) ?_
                refine lv_iconst (v := 1) C.1 C.2.1 dX3_readLevel_104 (by decide) ?_
                refine lv_iadd C.1 C.2.1 dX3_readLevel_105 ?_
                refine mw_top (y := 3) (by decide) ?_
                refine lv_iload_n C.1 C.2.1 dX3_readLevel_106 rfl (lv_at hl 5 rfl) ?_
                refine mw_cVv (As := [.ref (mw_a E (39 + j)), .int 3, .int 4]) (rest := []) C Z hP hS (33) (cX_l3_4 l E (mw_si u16 33 1 (nI (a12 + 1))) T j hj (a12 + 1) (ts11.tail) ((cs ++ cs10)) (B - 1) (by omega) pn27.1) vb_X3_readLevel tw_2_216 ⟨rfl, rfl⟩ ⟨Nat.le_of_ble_eq_true rfl, Nat.le_of_ble_eq_true rfl⟩ (by decide) sx_33 rfl rfl rfl hl.1 rfl (Nat.le_of_ble_eq_true rfl) dX3_readLevel_107 ⟨Nat.zero_le _, Nat.zero_le _⟩ (fun u38 H locs q39 hP hS => ?_)
                obtain ⟨hx29, f30⟩ := q39
                rcases e31 : (gLevel gAdd (gLevel gTim (gD 1).1)) (ts11.tail) with ⟨cs32, ts33⟩ | qq36
                · rw [e31] at hx29
                  obtain ⟨a34, po35⟩ := hx29
                  have po35 : xPo u38 T j a34 ts33 ((cs ++ cs10) ++ cs32) (B - 1) := po35
                  refine lv_aload_n C.1 C.2.1 dX3_readLevel_110 rfl (lv_at hl 3 rfl) ?_
                  refine lv_iload C.1 C.2.1 dX3_readLevel_111 (lv_at hl 0 rfl) ?_
                  refine mw_cVv (As := [.int (nI (hdC ts11))]) (rest := []) C Z hP hS (39 + j) (cX_add l E u38 j hj (((cs ++ cs10) ++ cs32)).length po35.2.2.2.2.2.1.1 (by have y := po35.2.2.2.2.2.2; omega) (nI (hdC ts11))) vb_X8_add tw_2_224 ⟨rfl, rfl⟩ ⟨Nat.le_of_ble_eq_true rfl, Nat.le_of_ble_eq_true rfl⟩ (by omega) (sx_tx (by omega)) rfl rfl rfl hl.1 rfl (Nat.le_of_ble_eq_true rfl) dX3_readLevel_113 ⟨Nat.zero_le _, Nat.zero_le _⟩ (fun u41 H locs q42 hP hS => ?_)
                  have e43 := q42.1 (by have y := po35.2.2.2.2.2.2; omega)
                  subst e43
                  have po44 := (po35.add hj (hdC ts11)).wk (C := B) (by omega)
                  refine lv_iload_n C.1 C.2.1 dX3_readLevel_116 rfl (lv_at hl 4 rfl) ?_
                  refine lv_iconst (v := 2) C.1 C.2.1 dX3_readLevel_117 (by decide) ?_
                  refine lv_icmp_ne (tgt := 122) C.1 C.2.1 dX3_readLevel_118 (by decide) (fun c45 => ?_) (fun c45 => ?_)
                  · exact absurd c45 (by decide)
                  · exact mw_vret C hr hlk Z hP hS dX3_readLevel_121 (⟨xAf.gd (((congrFun gN_1 ts).trans (gNot_f rfl hn11)).trans (gCmp_g1 e9 hop e31)) (by rw [← List.append_assoc]; rw [← List.append_assoc]; exact po44), (((((xPf.rf j σ).tr f8).rd _ _).tr f30).ad _ _ _)⟩)
                · rw [e31] at hx29
                  have po35 : xPb u38 T j qq36 := hx29
                  refine lv_aload_n C.1 C.2.1 dX3_readLevel_110 rfl (lv_at hl 3 rfl) ?_
                  refine lv_iload C.1 C.2.1 dX3_readLevel_111 (lv_at hl 0 rfl) ?_
                  obtain ⟨k46, hk47, ek48⟩ := po35.2.2.2
                  refine mw_cVv (As := [.int (nI (hdC ts11))]) (rest := []) C Z hP hS (39 + j) (cX_add l E u38 j hj k46 ek48 hk47 (nI (hdC ts11))) vb_X8_add tw_2_224 ⟨rfl, rfl⟩ ⟨Nat.le_of_ble_eq_true rfl, Nat.le_of_ble_eq_true rfl⟩ (by omega) (sx_tx (by omega)) rfl rfl rfl hl.1 rfl (Nat.le_of_ble_eq_true rfl) dX3_readLevel_113 ⟨Nat.zero_le _, Nat.zero_le _⟩ (fun u51 H locs q52 hP hS => ?_)
                  have w49 := xPb.add po35 hj hk47 q52
                  refine lv_iload_n C.1 C.2.1 dX3_readLevel_116 rfl (lv_at hl 4 rfl) ?_
                  refine lv_iconst (v := 2) C.1 C.2.1 dX3_readLevel_117 (by decide) ?_
                  refine lv_icmp_ne (tgt := 122) C.1 C.2.1 dX3_readLevel_118 (by decide) (fun c53 => ?_) (fun c53 => ?_)
                  · exact absurd c53 (by decide)
                  · exact mw_vret C hr hlk Z hP hS dX3_readLevel_121 (⟨xAf.bd (((congrFun gN_1 ts).trans (gNot_f rfl hn11)).trans (gCmp_g2 e9 hop e31)) w49.1, (((((xPf.rf j σ).tr f8).rd _ _).tr f30).tr w49.2)⟩)
              · have hnop : ¬ (hdC ts11 = 18 ∨ hdC ts11 = 19) := fun y => c26 (lv_2.mpr y)
                exact mw_vret C hr hlk Z hP hS dX3_readLevel_90 (⟨xAf.gd (((congrFun gN_1 ts).trans (gNot_f rfl hn11)).trans (gCmp_stop e9 hnop)) po13, ((xPf.rf j σ).tr f8)⟩)
        · rw [e9] at hx7
          have po13 : xPb u16 T j qq14 := hx7
          refine lv_iconst (v := 0) C.1 C.2.1 dX3_readLevel_49 (by decide) ?_
          refine lv_istore (lv' := [(4, .int 0), (0, .ref (mw_a E 33)), (1, .ref (mw_a E (39 + j))), (2, .int 2), (3, .int 4)]) C.1 C.2.1 dX3_readLevel_50 hl (by decide) rfl (fun ls hl => ?_)
          refine lv_iload C.1 C.2.1 dX3_readLevel_52 (lv_at hl 0 rfl) ?_
          refine lv_sipush (v := 160) C.1 C.2.1 dX3_readLevel_54 (by decide) ?_
          refine lv_icmp_ge (tgt := 128) C.1 C.2.1 dX3_readLevel_57 (by decide) (fun c54 => ?_) (fun c54 => ?_)
          · exact absurd c54 (by decide)
          · refine lv_aload_n C.1 C.2.1 dX3_readLevel_60 rfl (lv_at hl 1 rfl) ?_
            refine mw_geti C Z hP (33) 2 (by decide) sx_33 rfl rfl (by decide) inX3 tw_1_155 dX3_readLevel_61 ?_
            refine mw_top (y := nI qq14) (po13.2.2.1.1) ?_
            refine lv_iconst (v := -1) C.1 C.2.1 dX3_readLevel_64 (by decide) ?_
            refine lv_icmp_ne (tgt := 128) C.1 C.2.1 dX3_readLevel_65 (by decide) (fun c55 => ?_) (fun c55 => ?_)
            · exact mw_vret C hr hlk Z hP hS dX3_readLevel_128 (⟨xAf.bd (((congrFun gN_1 ts).trans (gNot_f rfl hn11)).trans (gCmp_b e9)) po13, ((xPf.rf j σ).tr f8)⟩)
            · exact absurd c55 (nI_nm1 (by have y := po13.2.2.1.2; omega))
      · have h11 : hdC ts = 11 := nI_eqI (b := 11) (by omega) (by decide) c6
        refine lv_aload_n C.1 C.2.1 dX3_readLevel_33 rfl (lv_at hl 0 rfl) ?_
        refine lv_aload_n C.1 C.2.1 dX3_readLevel_34 rfl (lv_at hl 1 rfl) ?_
        refine lv_iload_n C.1 C.2.1 dX3_readLevel_35 rfl (lv_at hl 3 rfl) ?_
        refine mw_cVv (As := [.ref (mw_a E (39 + j)), .int 4]) (rest := []) C Z hP hS (33) (cX_not4 l E σ T j hj a ts cs B (by omega) h h11) vb_X3_readNot tw_2_228 ⟨rfl, rfl⟩ ⟨Nat.le_of_ble_eq_true rfl, Nat.le_of_ble_eq_true rfl⟩ (by decide) sx_33 rfl rfl rfl hl.1 rfl (Nat.le_of_ble_eq_true rfl) dX3_readLevel_36 ⟨Nat.zero_le _, Nat.zero_le _⟩ (fun u65 H locs q66 hP hS => ?_)
        obtain ⟨hx56, f57⟩ := q66
        rcases e58 : (gD 1).2.1 ts with ⟨cs59, ts60⟩ | qq63
        · rw [e58] at hx56
          obtain ⟨a61, po62⟩ := hx56
          have po62 : xPo u65 T j a61 ts60 (cs ++ cs59) B := po62
          exact mw_vret C hr hlk Z hP hS dX3_readLevel_39 (⟨xAf.gd rfl po62, ((xPf.rf j σ).tr f57)⟩)
        · rw [e58] at hx56
          have po62 : xPb u65 T j qq63 := hx56
          exact mw_vret C hr hlk Z hP hS dX3_readLevel_39 (⟨xAf.bd rfl po62, ((xPf.rf j σ).tr f57)⟩)
  · exact absurd c1 (by decide)

set_option maxHeartbeats 4000000 in
set_option maxRecDepth 100000 in
theorem cX_l1_4 (l : Launch) (E : mw_E) (σ : mw_M) (T : List (Nat × Nat)) (j : Nat) (hj : j < 6) (a : Nat) (ts : List (Nat × Nat)) (cs : List Nat) (B : Nat) (hB : B ≤ 160) (h : xPo σ T j a ts cs B) : mw_Cv shX 75 gX l yX3_readLevel cX3_readLevel 6 none (rmF 16 422) E [.ref (mw_a E 33), .ref (mw_a E (39 + j)), .int 1, .int 4] σ (fun u => xAf T j B cs ((gLevel gAnd (gD 1).2.1) ts) u ∧ xPf j σ u) := by
  refine mw_of (by decide) gX_ok (Nat.le_of_ble_eq_true rfl) ?_
  intro p_ e_ s_ m_ below meth c_ C hr hlk Z hP ls hl
  have C : CallFix p_ m_ c_ cX3_readLevel 6 s_ _ lw_good RX3 := C
  have hl : lv_has ls 6 [(0, .ref (mw_a E 33)), (1, .ref (mw_a E (39 + j))), (2, .int 1), (3, .int 4)] := hl
  have hS : va_S (mw_A 75 E) s_.heap s_.heap [] := va_S.rf
  have hlt : hdC ts < 20000 := by have y := (h.1.lt a).1; rw [h.2.1] at y; exact y
  refine lv_iload_n C.1 C.2.1 dX3_readLevel_0 rfl (lv_at hl 2 rfl) ?_
  refine lv_iconst (v := 4) C.1 C.2.1 dX3_readLevel_1 (by decide) ?_
  refine lv_icmp_le (tgt := 12) C.1 C.2.1 dX3_readLevel_2 (by decide) (fun c1 => ?_) (fun c1 => ?_)
  · refine lv_iload_n C.1 C.2.1 dX3_readLevel_12 rfl (lv_at hl 2 rfl) ?_
    refine lv_iconst (v := 2) C.1 C.2.1 dX3_readLevel_13 (by decide) ?_
    refine lv_icmp_ne (tgt := 40) C.1 C.2.1 dX3_readLevel_14 (by decide) (fun c2 => ?_) (fun c2 => ?_)
    · refine lv_aload_n C.1 C.2.1 dX3_readLevel_40 rfl (lv_at hl 0 rfl) ?_
      refine lv_aload_n C.1 C.2.1 dX3_readLevel_41 rfl (lv_at hl 1 rfl) ?_
      refine lv_iload_n C.1 C.2.1 dX3_readLevel_42 rfl (lv_at hl 2 rfl) ?_
      refine lv_iconst (v := 1) C.1 C.2.1 dX3_readLevel_43 (by decide) ?_
      refine lv_iadd C.1 C.2.1 dX3_readLevel_44 ?_
      refine mw_top (y := 2) (by decide) ?_
      refine lv_iload_n C.1 C.2.1 dX3_readLevel_45 rfl (lv_at hl 3 rfl) ?_
      refine mw_cVv (As := [.ref (mw_a E (39 + j)), .int 2, .int 4]) (rest := []) C Z hP hS (33) (cX_l2_4 l E σ T j hj a ts cs B (by omega) h) vb_X3_readLevel tw_2_216 ⟨rfl, rfl⟩ ⟨Nat.le_of_ble_eq_true rfl, Nat.le_of_ble_eq_true rfl⟩ (by decide) sx_33 rfl rfl rfl hl.1 rfl (Nat.le_of_ble_eq_true rfl) dX3_readLevel_46 ⟨Nat.zero_le _, Nat.zero_le _⟩ (fun u12 H locs q13 hP hS => ?_)
      obtain ⟨hx3, f4⟩ := q13
      rcases e5 : (gD 1).2.1 ts with ⟨cs6, ts7⟩ | qq10
      · rw [e5] at hx3
        obtain ⟨a8, po9⟩ := hx3
        have po9 : xPo u12 T j a8 ts7 (cs ++ cs6) B := po9
        refine lv_iconst (v := 0) C.1 C.2.1 dX3_readLevel_49 (by decide) ?_
        refine lv_istore (lv' := [(4, .int 0), (0, .ref (mw_a E 33)), (1, .ref (mw_a E (39 + j))), (2, .int 1), (3, .int 4)]) C.1 C.2.1 dX3_readLevel_50 hl (by decide) rfl (fun ls hl => ?_)
        have lpa : ∀ (N : Nat) (a1 : Nat) (t : Nat) (f : Nat) (ts1 : List (Nat × Nat)) (cs1 : List Nat) (ςa : mw_M) (H : Heap) (locs : List Loc), 161 ≤ t + N → (t ≤ 160) → (ts1.length ≤ f) → (t + ts1.length ≤ 160) → ((gLevel gAnd (gD 1).2.1) ts = gLoop gAnd (gD 1).2.1 f cs1 ts1) → (xPo ςa T j a1 ts1 (cs ++ cs1) B) → xPf j σ ςa → va_P (mw_D E) vwCl (mw_ws shX 75 E ςa) H → va_S (mw_A 75 E) s_.heap H locs → ∀ (ls : Array Slot), lv_has ls 6 [(0, .ref (mw_a E 33)), (1, .ref (mw_a E (39 + j))), (2, .int 1), (3, .int 4), (4, .int (nI t))] → xWv p_ l e_ (rmF 16 422) s_ m_ [.ref (mw_a E 33), .ref (mw_a E (39 + j)), .int 1, .int 4] below meth c_ E (fun u => xAf T j B cs ((gLevel gAnd (gD 1).2.1) ts) u ∧ xPf j σ u) H locs (F0 m_ 52 ls []) := by
          intro N
          induction N with
          | zero => intros; exfalso; omega
          | succ N iha =>
            intro a1 t f ts1 cs1 ςa H locs hNa ht hf htl hsp hpo fra hP hS ls hl
            refine lv_iload C.1 C.2.1 dX3_readLevel_52 (lv_at hl 4 rfl) ?_
            refine lv_sipush (v := 160) C.1 C.2.1 dX3_readLevel_54 (by decide) ?_
            refine lv_icmp_ge (tgt := 128) C.1 C.2.1 dX3_readLevel_57 (by decide) (fun c14 => ?_) (fun c14 => ?_)
            · have c14 := (nI_leI (a := 160) (by decide) (by omega)).mp c14
              have e0 : ts1 = [] := List.eq_nil_of_length_eq_zero (by omega)
              exact mw_vret C hr hlk Z hP hS dX3_readLevel_128 (⟨xAf.gd (hsp.trans (gLoop_stop (by rw [e0]; decide))) hpo, fra⟩)
            · have c14 := (not_congr (nI_leI (a := 160) (by decide) (by omega))).mp c14
              refine lv_aload_n C.1 C.2.1 dX3_readLevel_60 rfl (lv_at hl 0 rfl) ?_
              refine mw_geti C Z hP (33) 2 (by decide) sx_33 rfl rfl (by decide) inX3 tw_1_155 dX3_readLevel_61 ?_
              refine mw_top (y := -1) (hpo.2.2.2.2.1) ?_
              refine lv_iconst (v := -1) C.1 C.2.1 dX3_readLevel_64 (by decide) ?_
              refine lv_icmp_ne (tgt := 128) C.1 C.2.1 dX3_readLevel_65 (by decide) (fun c15 => ?_) (fun c15 => ?_)
              · exact absurd c15 (by decide)
              · refine lv_aload_n C.1 C.2.1 dX3_readLevel_68 rfl (lv_at hl 0 rfl) ?_
                refine mw_getr C Z hP (33) 0 (34) (by decide) sx_33 rfl rfl (by decide) inX3 tw_1_153 dX3_readLevel_69 ?_
                refine lv_aload_n C.1 C.2.1 dX3_readLevel_72 rfl (lv_at hl 0 rfl) ?_
                refine mw_geti C Z hP (33) 1 (by decide) sx_33 rfl rfl (by decide) inX3 tw_1_154 dX3_readLevel_73 ?_
                refine mw_top (y := nI a1) (hpo.2.2.2.1) ?_
                refine mw_cVi (As := [.int (nI a1)]) (rest := []) C Z hP hS (34) (cX_tokenAt l E ςa T.length hpo.1.2.1 hpo.1.1 a1 (by have y1 := hpo.1.1; have y2 := hpo.2.2.1; omega)) vb_X10_tokenAt tw_2_204 ⟨rfl, rfl⟩ ⟨Nat.le_of_ble_eq_true rfl, Nat.le_of_ble_eq_true rfl⟩ (by decide) sx_34 rfl rfl rfl hl.1 rfl (Nat.le_of_ble_eq_true rfl) dX3_readLevel_76 ⟨Nat.zero_le _, Nat.zero_le _⟩ (fun r16 u17 H locs q18 hP hS => ?_)
                rw [(hpo.1.tok a1).1, hpo.2.1] at q18
                obtain ⟨rfl, q18u⟩ := q18
                rw [q18u] at hP; clear q18u
                refine lv_istore (lv' := [(5, .int (nI (hdC ts1))), (0, .ref (mw_a E 33)), (1, .ref (mw_a E (39 + j))), (2, .int 1), (3, .int 4), (4, .int (nI t))]) C.1 C.2.1 dX3_readLevel_79 hl (by decide) rfl (fun ls hl => ?_)
                refine lv_iload C.1 C.2.1 dX3_readLevel_81 (lv_at hl 0 rfl) ?_
                refine mw_cSi (As := [.int (nI (hdC ts1))]) (rest := []) C Z hP hS (cX_levelOf l E ςa (hdC ts1) (by have y := (hpo.1.lt a1).1; rw [hpo.2.1] at y; omega)) sb_X3_levelOf tw_2_232 ⟨rfl, rfl⟩ ⟨Nat.le_of_ble_eq_true rfl, Nat.le_of_ble_eq_true rfl⟩ rfl hl.1 rfl (Nat.le_of_ble_eq_true rfl) dX3_readLevel_83 ⟨Nat.zero_le _, Nat.zero_le _⟩ (fun r19 u20 H locs q21 hP hS => ?_)
                obtain ⟨rfl, q21u⟩ := q21
                rw [q21u] at hP; clear q21u
                refine lv_iload_n C.1 C.2.1 dX3_readLevel_86 rfl (lv_at hl 3 rfl) ?_
                refine lv_icmp_eq (tgt := 91) C.1 C.2.1 dX3_readLevel_87 (by decide) (fun c22 => ?_) (fun c22 => ?_)
                · have hop := lv_1.mp c22
                  have hne : hdC ts1 ≠ 21 := lv_21 c22 (by decide)
                  obtain ⟨f2, ef, egl⟩ := gLoop_go (x := (gD 1).2.1) (cs := cs1) hne hop hf
                  refine lv_aload_n C.1 C.2.1 dX3_readLevel_91 rfl (lv_at hl 1 rfl) ?_
                  refine lv_dup C.1 C.2.1 dX3_readLevel_92 rfl ?_
                  refine mw_geti C Z hP (33) 1 (by decide) sx_33 rfl rfl (by decide) inX3 tw_1_154 dX3_readLevel_93 ?_
                  refine mw_top (y := nI a1) (hpo.2.2.2.1) ?_
                  refine lv_iconst (v := 1) C.1 C.2.1 dX3_readLevel_96 (by decide) ?_
                  refine lv_iadd C.1 C.2.1 dX3_readLevel_97 ?_
                  refine mw_top (y := nI (a1 + 1)) (nI_1 _) ?_
                  refine mw_puti C Z hP hS (33) 1 (by decide) sx_33 rfl rfl (by decide) inX3 tyX3 tyX3_ok nmX3 rfl tw_1_154 rfl rfl dX3_readLevel_98 (fun H locs hP hS => ?_)
                  have pn23 := hpo.next hj hne
                  have hb24 := pn23.2
                  refine lv_aload_n C.1 C.2.1 dX3_readLevel_101 rfl (lv_at hl 1 rfl) ?_
                  refine lv_aload_n C.1 C.2.1 dX3_readLevel_102 rfl (lv_at hl 2 rfl) ?_
                  refine lv_iload_n C.1 C.2.1 dX3_readLevel_103 rfl (lv_at hl 3 rfl) ?_
                  refine lv_iconst (v := 1) C.1 C.2.1 dX3_readLevel_104 (by decide) ?_
                  refine lv_iadd C.1 C.2.1 dX3_readLevel_105 ?_
                  refine mw_top (y := 2) (by decide) ?_
                  refine lv_iload_n C.1 C.2.1 dX3_readLevel_106 rfl (lv_at hl 4 rfl) ?_
                  refine mw_cVv (As := [.ref (mw_a E (39 + j)), .int 2, .int 4]) (rest := []) C Z hP hS (33) (cX_l2_4 l E (mw_si ςa 33 1 (nI (a1 + 1))) T j hj (a1 + 1) (ts1.tail) ((cs ++ cs1)) (B - 1) (by omega) pn23.1) vb_X3_readLevel tw_2_216 ⟨rfl, rfl⟩ ⟨Nat.le_of_ble_eq_true rfl, Nat.le_of_ble_eq_true rfl⟩ (by decide) sx_33 rfl rfl rfl hl.1 rfl (Nat.le_of_ble_eq_true rfl) dX3_readLevel_107 ⟨Nat.zero_le _, Nat.zero_le _⟩ (fun u34 H locs q35 hP hS => ?_)
                  obtain ⟨hx25, f26⟩ := q35
                  rcases e27 : (gD 1).2.1 (ts1.tail) with ⟨cs28, ts29⟩ | qq32
                  · rw [e27] at hx25
                    obtain ⟨a30, po31⟩ := hx25
                    have po31 : xPo u34 T j a30 ts29 ((cs ++ cs1) ++ cs28) (B - 1) := po31
                    refine lv_aload_n C.1 C.2.1 dX3_readLevel_110 rfl (lv_at hl 2 rfl) ?_
                    refine lv_iload C.1 C.2.1 dX3_readLevel_111 (lv_at hl 0 rfl) ?_
                    refine mw_cVv (As := [.int (nI (hdC ts1))]) (rest := []) C Z hP hS (39 + j) (cX_add l E u34 j hj (((cs ++ cs1) ++ cs28)).length po31.2.2.2.2.2.1.1 (by have y := po31.2.2.2.2.2.2; omega) (nI (hdC ts1))) vb_X8_add tw_2_224 ⟨rfl, rfl⟩ ⟨Nat.le_of_ble_eq_true rfl, Nat.le_of_ble_eq_true rfl⟩ (by omega) (sx_tx (by omega)) rfl rfl rfl hl.1 rfl (Nat.le_of_ble_eq_true rfl) dX3_readLevel_113 ⟨Nat.zero_le _, Nat.zero_le _⟩ (fun u37 H locs q38 hP hS => ?_)
                    have e39 := q38.1 (by have y := po31.2.2.2.2.2.2; omega)
                    subst e39
                    have po40 := (po31.add hj (hdC ts1)).wk (C := B) (by omega)
                    refine lv_iload_n C.1 C.2.1 dX3_readLevel_116 rfl (lv_at hl 3 rfl) ?_
                    refine lv_iconst (v := 2) C.1 C.2.1 dX3_readLevel_117 (by decide) ?_
                    refine lv_icmp_ne (tgt := 122) C.1 C.2.1 dX3_readLevel_118 (by decide) (fun c41 => ?_) (fun c41 => ?_)
                    · refine lv_iinc (v := nI (t + 1)) (lv' := [(4, .int (nI (t + 1))), (5, .int (nI (hdC ts1))), (0, .ref (mw_a E 33)), (1, .ref (mw_a E (39 + j))), (2, .int 1), (3, .int 4)]) C.1 C.2.1 dX3_readLevel_122 hl (k := 5) rfl (nI_1 _) (by decide) rfl (fun ls hl => ?_)
                      refine lv_goto (tgt := 52) C.1 C.2.1 dX3_readLevel_125 (by decide) ?_
                      exact iha a30 (t + 1) f2 ts29 (cs1 ++ cs28 ++ [hdC ts1]) (mw_si (mw_sa u34 (45 + j) (((cs ++ cs1) ++ cs28)).length (nI (hdC ts1))) (39 + j) 3 (nI ((((cs ++ cs1) ++ cs28)).length + 1))) _ _ (by omega) (by omega) (by have y1 := ((gD_dec 1).2.1) _ _ _ e27; have y2 := tail_len hne; omega) (by have y1 := ((gD_dec 1).2.1) _ _ _ e27; have y2 := tail_len hne; omega) (hsp.trans (egl.trans (by rw [e27]))) ((by rw [← List.append_assoc]; rw [← List.append_assoc]; exact po40)) (((fra.rd _ _).tr f26).ad _ _ _) hP hS ls (lv_sub hl [2, 3, 4, 5, 0] rfl)
                    · exact absurd c41 (by decide)
                  · rw [e27] at hx25
                    have po31 : xPb u34 T j qq32 := hx25
                    refine lv_aload_n C.1 C.2.1 dX3_readLevel_110 rfl (lv_at hl 2 rfl) ?_
                    refine lv_iload C.1 C.2.1 dX3_readLevel_111 (lv_at hl 0 rfl) ?_
                    obtain ⟨k42, hk43, ek44⟩ := po31.2.2.2
                    refine mw_cVv (As := [.int (nI (hdC ts1))]) (rest := []) C Z hP hS (39 + j) (cX_add l E u34 j hj k42 ek44 hk43 (nI (hdC ts1))) vb_X8_add tw_2_224 ⟨rfl, rfl⟩ ⟨Nat.le_of_ble_eq_true rfl, Nat.le_of_ble_eq_true rfl⟩ (by omega) (sx_tx (by omega)) rfl rfl rfl hl.1 rfl (Nat.le_of_ble_eq_true rfl) dX3_readLevel_113 ⟨Nat.zero_le _, Nat.zero_le _⟩ (fun u47 H locs q48 hP hS => ?_)
                    have w45 := xPb.add po31 hj hk43 q48
                    refine lv_iload_n C.1 C.2.1 dX3_readLevel_116 rfl (lv_at hl 3 rfl) ?_
                    refine lv_iconst (v := 2) C.1 C.2.1 dX3_readLevel_117 (by decide) ?_
                    refine lv_icmp_ne (tgt := 122) C.1 C.2.1 dX3_readLevel_118 (by decide) (fun c49 => ?_) (fun c49 => ?_)
                    · refine lv_iinc (v := nI (t + 1)) (lv' := [(4, .int (nI (t + 1))), (5, .int (nI (hdC ts1))), (0, .ref (mw_a E 33)), (1, .ref (mw_a E (39 + j))), (2, .int 1), (3, .int 4)]) C.1 C.2.1 dX3_readLevel_122 hl (k := 5) rfl (nI_1 _) (by decide) rfl (fun ls hl => ?_)
                      refine lv_goto (tgt := 52) C.1 C.2.1 dX3_readLevel_125 (by decide) ?_
                      refine lv_iload C.1 C.2.1 dX3_readLevel_52 (lv_at hl 0 rfl) ?_
                      refine lv_sipush (v := 160) C.1 C.2.1 dX3_readLevel_54 (by decide) ?_
                      refine lv_icmp_ge (tgt := 128) C.1 C.2.1 dX3_readLevel_57 (by decide) (fun c50 => ?_) (fun c50 => ?_)
                      · exact mw_vret C hr hlk Z hP hS dX3_readLevel_128 (⟨xAf.bd (hsp.trans (egl.trans (by rw [e27]))) w45.1, (((fra.rd _ _).tr f26).tr w45.2)⟩)
                      · refine lv_aload_n C.1 C.2.1 dX3_readLevel_60 rfl (lv_at hl 2 rfl) ?_
                        refine mw_geti C Z hP (33) 2 (by decide) sx_33 rfl rfl (by decide) inX3 tw_1_155 dX3_readLevel_61 ?_
                        refine mw_top (y := nI qq32) (w45.1.2.2.1.1) ?_
                        refine lv_iconst (v := -1) C.1 C.2.1 dX3_readLevel_64 (by decide) ?_
                        refine lv_icmp_ne (tgt := 128) C.1 C.2.1 dX3_readLevel_65 (by decide) (fun c51 => ?_) (fun c51 => ?_)
                        · exact mw_vret C hr hlk Z hP hS dX3_readLevel_128 (⟨xAf.bd (hsp.trans (egl.trans (by rw [e27]))) w45.1, (((fra.rd _ _).tr f26).tr w45.2)⟩)
                        · exact absurd c51 (nI_nm1 (by have y := w45.1.2.2.1.2; omega))
                    · exact absurd c49 (by decide)
                · have hnop : ¬ gAnd (hdC ts1) = true := fun y => c22 (lv_1.mpr y)
                  exact mw_vret C hr hlk Z hP hS dX3_readLevel_90 (⟨xAf.gd (hsp.trans (gLoop_stop hnop)) hpo, fra⟩)
        exact lpa (161) a8 0 (ts7.length) ts7 cs6 u12 _ _ (by omega) (by omega) (Nat.le_refl _) (by have y := po9.2.2.2.2.2.2; omega) ((gLevel_g e5)) (po9) ((xPf.rf j σ).tr f4) hP hS ls (lv_sub hl [1, 2, 3, 4, 0] rfl)
      · rw [e5] at hx3
        have po9 : xPb u12 T j qq10 := hx3
        refine lv_iconst (v := 0) C.1 C.2.1 dX3_readLevel_49 (by decide) ?_
        refine lv_istore (lv' := [(4, .int 0), (0, .ref (mw_a E 33)), (1, .ref (mw_a E (39 + j))), (2, .int 1), (3, .int 4)]) C.1 C.2.1 dX3_readLevel_50 hl (by decide) rfl (fun ls hl => ?_)
        refine lv_iload C.1 C.2.1 dX3_readLevel_52 (lv_at hl 0 rfl) ?_
        refine lv_sipush (v := 160) C.1 C.2.1 dX3_readLevel_54 (by decide) ?_
        refine lv_icmp_ge (tgt := 128) C.1 C.2.1 dX3_readLevel_57 (by decide) (fun c52 => ?_) (fun c52 => ?_)
        · exact absurd c52 (by decide)
        · refine lv_aload_n C.1 C.2.1 dX3_readLevel_60 rfl (lv_at hl 1 rfl) ?_
          refine mw_geti C Z hP (33) 2 (by decide) sx_33 rfl rfl (by decide) inX3 tw_1_155 dX3_readLevel_61 ?_
          refine mw_top (y := nI qq10) (po9.2.2.1.1) ?_
          refine lv_iconst (v := -1) C.1 C.2.1 dX3_readLevel_64 (by decide) ?_
          refine lv_icmp_ne (tgt := 128) C.1 C.2.1 dX3_readLevel_65 (by decide) (fun c53 => ?_) (fun c53 => ?_)
          · exact mw_vret C hr hlk Z hP hS dX3_readLevel_128 (⟨xAf.bd ((gLevel_b e5)) po9, ((xPf.rf j σ).tr f4)⟩)
          · exact absurd c53 (nI_nm1 (by have y := po9.2.2.1.2; omega))
    · exact absurd c2 (by decide)
  · exact absurd c1 (by decide)

set_option maxHeartbeats 4000000 in
set_option maxRecDepth 100000 in
theorem cX_l0_4 (l : Launch) (E : mw_E) (σ : mw_M) (T : List (Nat × Nat)) (j : Nat) (hj : j < 6) (a : Nat) (ts : List (Nat × Nat)) (cs : List Nat) (B : Nat) (hB : B ≤ 160) (h : xPo σ T j a ts cs B) : mw_Cv shX 75 gX l yX3_readLevel cX3_readLevel 6 none (rmF 17 447) E [.ref (mw_a E 33), .ref (mw_a E (39 + j)), .int 0, .int 4] σ (fun u => xAf T j B cs ((gD 1).2.2 ts) u ∧ xPf j σ u) := by
  refine mw_of (by decide) gX_ok (Nat.le_of_ble_eq_true rfl) ?_
  intro p_ e_ s_ m_ below meth c_ C hr hlk Z hP ls hl
  have C : CallFix p_ m_ c_ cX3_readLevel 6 s_ _ lw_good RX3 := C
  have hl : lv_has ls 6 [(0, .ref (mw_a E 33)), (1, .ref (mw_a E (39 + j))), (2, .int 0), (3, .int 4)] := hl
  have hS : va_S (mw_A 75 E) s_.heap s_.heap [] := va_S.rf
  have hlt : hdC ts < 20000 := by have y := (h.1.lt a).1; rw [h.2.1] at y; exact y
  refine lv_iload_n C.1 C.2.1 dX3_readLevel_0 rfl (lv_at hl 2 rfl) ?_
  refine lv_iconst (v := 4) C.1 C.2.1 dX3_readLevel_1 (by decide) ?_
  refine lv_icmp_le (tgt := 12) C.1 C.2.1 dX3_readLevel_2 (by decide) (fun c1 => ?_) (fun c1 => ?_)
  · refine lv_iload_n C.1 C.2.1 dX3_readLevel_12 rfl (lv_at hl 2 rfl) ?_
    refine lv_iconst (v := 2) C.1 C.2.1 dX3_readLevel_13 (by decide) ?_
    refine lv_icmp_ne (tgt := 40) C.1 C.2.1 dX3_readLevel_14 (by decide) (fun c2 => ?_) (fun c2 => ?_)
    · refine lv_aload_n C.1 C.2.1 dX3_readLevel_40 rfl (lv_at hl 0 rfl) ?_
      refine lv_aload_n C.1 C.2.1 dX3_readLevel_41 rfl (lv_at hl 1 rfl) ?_
      refine lv_iload_n C.1 C.2.1 dX3_readLevel_42 rfl (lv_at hl 2 rfl) ?_
      refine lv_iconst (v := 1) C.1 C.2.1 dX3_readLevel_43 (by decide) ?_
      refine lv_iadd C.1 C.2.1 dX3_readLevel_44 ?_
      refine mw_top (y := 1) (by decide) ?_
      refine lv_iload_n C.1 C.2.1 dX3_readLevel_45 rfl (lv_at hl 3 rfl) ?_
      refine mw_cVv (As := [.ref (mw_a E (39 + j)), .int 1, .int 4]) (rest := []) C Z hP hS (33) (cX_l1_4 l E σ T j hj a ts cs B (by omega) h) vb_X3_readLevel tw_2_216 ⟨rfl, rfl⟩ ⟨Nat.le_of_ble_eq_true rfl, Nat.le_of_ble_eq_true rfl⟩ (by decide) sx_33 rfl rfl rfl hl.1 rfl (Nat.le_of_ble_eq_true rfl) dX3_readLevel_46 ⟨Nat.zero_le _, Nat.zero_le _⟩ (fun u12 H locs q13 hP hS => ?_)
      obtain ⟨hx3, f4⟩ := q13
      rcases e5 : (gLevel gAnd (gD 1).2.1) ts with ⟨cs6, ts7⟩ | qq10
      · rw [e5] at hx3
        obtain ⟨a8, po9⟩ := hx3
        have po9 : xPo u12 T j a8 ts7 (cs ++ cs6) B := po9
        refine lv_iconst (v := 0) C.1 C.2.1 dX3_readLevel_49 (by decide) ?_
        refine lv_istore (lv' := [(4, .int 0), (0, .ref (mw_a E 33)), (1, .ref (mw_a E (39 + j))), (2, .int 0), (3, .int 4)]) C.1 C.2.1 dX3_readLevel_50 hl (by decide) rfl (fun ls hl => ?_)
        have lpa : ∀ (N : Nat) (a1 : Nat) (t : Nat) (f : Nat) (ts1 : List (Nat × Nat)) (cs1 : List Nat) (ςa : mw_M) (H : Heap) (locs : List Loc), 161 ≤ t + N → (t ≤ 160) → (ts1.length ≤ f) → (t + ts1.length ≤ 160) → ((gD 1).2.2 ts = gLoop gOr (gLevel gAnd (gD 1).2.1) f cs1 ts1) → (xPo ςa T j a1 ts1 (cs ++ cs1) B) → xPf j σ ςa → va_P (mw_D E) vwCl (mw_ws shX 75 E ςa) H → va_S (mw_A 75 E) s_.heap H locs → ∀ (ls : Array Slot), lv_has ls 6 [(0, .ref (mw_a E 33)), (1, .ref (mw_a E (39 + j))), (2, .int 0), (3, .int 4), (4, .int (nI t))] → xWv p_ l e_ (rmF 17 447) s_ m_ [.ref (mw_a E 33), .ref (mw_a E (39 + j)), .int 0, .int 4] below meth c_ E (fun u => xAf T j B cs ((gD 1).2.2 ts) u ∧ xPf j σ u) H locs (F0 m_ 52 ls []) := by
          intro N
          induction N with
          | zero => intros; exfalso; omega
          | succ N iha =>
            intro a1 t f ts1 cs1 ςa H locs hNa ht hf htl hsp hpo fra hP hS ls hl
            refine lv_iload C.1 C.2.1 dX3_readLevel_52 (lv_at hl 4 rfl) ?_
            refine lv_sipush (v := 160) C.1 C.2.1 dX3_readLevel_54 (by decide) ?_
            refine lv_icmp_ge (tgt := 128) C.1 C.2.1 dX3_readLevel_57 (by decide) (fun c14 => ?_) (fun c14 => ?_)
            · have c14 := (nI_leI (a := 160) (by decide) (by omega)).mp c14
              have e0 : ts1 = [] := List.eq_nil_of_length_eq_zero (by omega)
              exact mw_vret C hr hlk Z hP hS dX3_readLevel_128 (⟨xAf.gd (hsp.trans (gLoop_stop (by rw [e0]; decide))) hpo, fra⟩)
            · have c14 := (not_congr (nI_leI (a := 160) (by decide) (by omega))).mp c14
              refine lv_aload_n C.1 C.2.1 dX3_readLevel_60 rfl (lv_at hl 0 rfl) ?_
              refine mw_geti C Z hP (33) 2 (by decide) sx_33 rfl rfl (by decide) inX3 tw_1_155 dX3_readLevel_61 ?_
              refine mw_top (y := -1) (hpo.2.2.2.2.1) ?_
              refine lv_iconst (v := -1) C.1 C.2.1 dX3_readLevel_64 (by decide) ?_
              refine lv_icmp_ne (tgt := 128) C.1 C.2.1 dX3_readLevel_65 (by decide) (fun c15 => ?_) (fun c15 => ?_)
              · exact absurd c15 (by decide)
              · refine lv_aload_n C.1 C.2.1 dX3_readLevel_68 rfl (lv_at hl 0 rfl) ?_
                refine mw_getr C Z hP (33) 0 (34) (by decide) sx_33 rfl rfl (by decide) inX3 tw_1_153 dX3_readLevel_69 ?_
                refine lv_aload_n C.1 C.2.1 dX3_readLevel_72 rfl (lv_at hl 0 rfl) ?_
                refine mw_geti C Z hP (33) 1 (by decide) sx_33 rfl rfl (by decide) inX3 tw_1_154 dX3_readLevel_73 ?_
                refine mw_top (y := nI a1) (hpo.2.2.2.1) ?_
                refine mw_cVi (As := [.int (nI a1)]) (rest := []) C Z hP hS (34) (cX_tokenAt l E ςa T.length hpo.1.2.1 hpo.1.1 a1 (by have y1 := hpo.1.1; have y2 := hpo.2.2.1; omega)) vb_X10_tokenAt tw_2_204 ⟨rfl, rfl⟩ ⟨Nat.le_of_ble_eq_true rfl, Nat.le_of_ble_eq_true rfl⟩ (by decide) sx_34 rfl rfl rfl hl.1 rfl (Nat.le_of_ble_eq_true rfl) dX3_readLevel_76 ⟨Nat.zero_le _, Nat.zero_le _⟩ (fun r16 u17 H locs q18 hP hS => ?_)
                rw [(hpo.1.tok a1).1, hpo.2.1] at q18
                obtain ⟨rfl, q18u⟩ := q18
                rw [q18u] at hP; clear q18u
                refine lv_istore (lv' := [(5, .int (nI (hdC ts1))), (0, .ref (mw_a E 33)), (1, .ref (mw_a E (39 + j))), (2, .int 0), (3, .int 4), (4, .int (nI t))]) C.1 C.2.1 dX3_readLevel_79 hl (by decide) rfl (fun ls hl => ?_)
                refine lv_iload C.1 C.2.1 dX3_readLevel_81 (lv_at hl 0 rfl) ?_
                refine mw_cSi (As := [.int (nI (hdC ts1))]) (rest := []) C Z hP hS (cX_levelOf l E ςa (hdC ts1) (by have y := (hpo.1.lt a1).1; rw [hpo.2.1] at y; omega)) sb_X3_levelOf tw_2_232 ⟨rfl, rfl⟩ ⟨Nat.le_of_ble_eq_true rfl, Nat.le_of_ble_eq_true rfl⟩ rfl hl.1 rfl (Nat.le_of_ble_eq_true rfl) dX3_readLevel_83 ⟨Nat.zero_le _, Nat.zero_le _⟩ (fun r19 u20 H locs q21 hP hS => ?_)
                obtain ⟨rfl, q21u⟩ := q21
                rw [q21u] at hP; clear q21u
                refine lv_iload_n C.1 C.2.1 dX3_readLevel_86 rfl (lv_at hl 3 rfl) ?_
                refine lv_icmp_eq (tgt := 91) C.1 C.2.1 dX3_readLevel_87 (by decide) (fun c22 => ?_) (fun c22 => ?_)
                · have hop := lv_0.mp c22
                  have hne : hdC ts1 ≠ 21 := lv_21 c22 (by decide)
                  obtain ⟨f2, ef, egl⟩ := gLoop_go (x := (gLevel gAnd (gD 1).2.1)) (cs := cs1) hne hop hf
                  refine lv_aload_n C.1 C.2.1 dX3_readLevel_91 rfl (lv_at hl 1 rfl) ?_
                  refine lv_dup C.1 C.2.1 dX3_readLevel_92 rfl ?_
                  refine mw_geti C Z hP (33) 1 (by decide) sx_33 rfl rfl (by decide) inX3 tw_1_154 dX3_readLevel_93 ?_
                  refine mw_top (y := nI a1) (hpo.2.2.2.1) ?_
                  refine lv_iconst (v := 1) C.1 C.2.1 dX3_readLevel_96 (by decide) ?_
                  refine lv_iadd C.1 C.2.1 dX3_readLevel_97 ?_
                  refine mw_top (y := nI (a1 + 1)) (nI_1 _) ?_
                  refine mw_puti C Z hP hS (33) 1 (by decide) sx_33 rfl rfl (by decide) inX3 tyX3 tyX3_ok nmX3 rfl tw_1_154 rfl rfl dX3_readLevel_98 (fun H locs hP hS => ?_)
                  have pn23 := hpo.next hj hne
                  have hb24 := pn23.2
                  refine lv_aload_n C.1 C.2.1 dX3_readLevel_101 rfl (lv_at hl 1 rfl) ?_
                  refine lv_aload_n C.1 C.2.1 dX3_readLevel_102 rfl (lv_at hl 2 rfl) ?_
                  refine lv_iload_n C.1 C.2.1 dX3_readLevel_103 rfl (lv_at hl 3 rfl) ?_
                  refine lv_iconst (v := 1) C.1 C.2.1 dX3_readLevel_104 (by decide) ?_
                  refine lv_iadd C.1 C.2.1 dX3_readLevel_105 ?_
                  refine mw_top (y := 1) (by decide) ?_
                  refine lv_iload_n C.1 C.2.1 dX3_readLevel_106 rfl (lv_at hl 4 rfl) ?_
                  refine mw_cVv (As := [.ref (mw_a E (39 + j)), .int 1, .int 4]) (rest := []) C Z hP hS (33) (cX_l1_4 l E (mw_si ςa 33 1 (nI (a1 + 1))) T j hj (a1 + 1) (ts1.tail) ((cs ++ cs1)) (B - 1) (by omega) pn23.1) vb_X3_readLevel tw_2_216 ⟨rfl, rfl⟩ ⟨Nat.le_of_ble_eq_true rfl, Nat.le_of_ble_eq_true rfl⟩ (by decide) sx_33 rfl rfl rfl hl.1 rfl (Nat.le_of_ble_eq_true rfl) dX3_readLevel_107 ⟨Nat.zero_le _, Nat.zero_le _⟩ (fun u34 H locs q35 hP hS => ?_)
                  obtain ⟨hx25, f26⟩ := q35
                  rcases e27 : (gLevel gAnd (gD 1).2.1) (ts1.tail) with ⟨cs28, ts29⟩ | qq32
                  · rw [e27] at hx25
                    obtain ⟨a30, po31⟩ := hx25
                    have po31 : xPo u34 T j a30 ts29 ((cs ++ cs1) ++ cs28) (B - 1) := po31
                    refine lv_aload_n C.1 C.2.1 dX3_readLevel_110 rfl (lv_at hl 2 rfl) ?_
                    refine lv_iload C.1 C.2.1 dX3_readLevel_111 (lv_at hl 0 rfl) ?_
                    refine mw_cVv (As := [.int (nI (hdC ts1))]) (rest := []) C Z hP hS (39 + j) (cX_add l E u34 j hj (((cs ++ cs1) ++ cs28)).length po31.2.2.2.2.2.1.1 (by have y := po31.2.2.2.2.2.2; omega) (nI (hdC ts1))) vb_X8_add tw_2_224 ⟨rfl, rfl⟩ ⟨Nat.le_of_ble_eq_true rfl, Nat.le_of_ble_eq_true rfl⟩ (by omega) (sx_tx (by omega)) rfl rfl rfl hl.1 rfl (Nat.le_of_ble_eq_true rfl) dX3_readLevel_113 ⟨Nat.zero_le _, Nat.zero_le _⟩ (fun u37 H locs q38 hP hS => ?_)
                    have e39 := q38.1 (by have y := po31.2.2.2.2.2.2; omega)
                    subst e39
                    have po40 := (po31.add hj (hdC ts1)).wk (C := B) (by omega)
                    refine lv_iload_n C.1 C.2.1 dX3_readLevel_116 rfl (lv_at hl 3 rfl) ?_
                    refine lv_iconst (v := 2) C.1 C.2.1 dX3_readLevel_117 (by decide) ?_
                    refine lv_icmp_ne (tgt := 122) C.1 C.2.1 dX3_readLevel_118 (by decide) (fun c41 => ?_) (fun c41 => ?_)
                    · refine lv_iinc (v := nI (t + 1)) (lv' := [(4, .int (nI (t + 1))), (5, .int (nI (hdC ts1))), (0, .ref (mw_a E 33)), (1, .ref (mw_a E (39 + j))), (2, .int 0), (3, .int 4)]) C.1 C.2.1 dX3_readLevel_122 hl (k := 5) rfl (nI_1 _) (by decide) rfl (fun ls hl => ?_)
                      refine lv_goto (tgt := 52) C.1 C.2.1 dX3_readLevel_125 (by decide) ?_
                      exact iha a30 (t + 1) f2 ts29 (cs1 ++ cs28 ++ [hdC ts1]) (mw_si (mw_sa u34 (45 + j) (((cs ++ cs1) ++ cs28)).length (nI (hdC ts1))) (39 + j) 3 (nI ((((cs ++ cs1) ++ cs28)).length + 1))) _ _ (by omega) (by omega) (by have y1 := (gLevel_dec (gD_dec 1).2.1) _ _ _ e27; have y2 := tail_len hne; omega) (by have y1 := (gLevel_dec (gD_dec 1).2.1) _ _ _ e27; have y2 := tail_len hne; omega) (hsp.trans (egl.trans (by rw [e27]))) ((by rw [← List.append_assoc]; rw [← List.append_assoc]; exact po40)) (((fra.rd _ _).tr f26).ad _ _ _) hP hS ls (lv_sub hl [2, 3, 4, 5, 0] rfl)
                    · exact absurd c41 (by decide)
                  · rw [e27] at hx25
                    have po31 : xPb u34 T j qq32 := hx25
                    refine lv_aload_n C.1 C.2.1 dX3_readLevel_110 rfl (lv_at hl 2 rfl) ?_
                    refine lv_iload C.1 C.2.1 dX3_readLevel_111 (lv_at hl 0 rfl) ?_
                    obtain ⟨k42, hk43, ek44⟩ := po31.2.2.2
                    refine mw_cVv (As := [.int (nI (hdC ts1))]) (rest := []) C Z hP hS (39 + j) (cX_add l E u34 j hj k42 ek44 hk43 (nI (hdC ts1))) vb_X8_add tw_2_224 ⟨rfl, rfl⟩ ⟨Nat.le_of_ble_eq_true rfl, Nat.le_of_ble_eq_true rfl⟩ (by omega) (sx_tx (by omega)) rfl rfl rfl hl.1 rfl (Nat.le_of_ble_eq_true rfl) dX3_readLevel_113 ⟨Nat.zero_le _, Nat.zero_le _⟩ (fun u47 H locs q48 hP hS => ?_)
                    have w45 := xPb.add po31 hj hk43 q48
                    refine lv_iload_n C.1 C.2.1 dX3_readLevel_116 rfl (lv_at hl 3 rfl) ?_
                    refine lv_iconst (v := 2) C.1 C.2.1 dX3_readLevel_117 (by decide) ?_
                    refine lv_icmp_ne (tgt := 122) C.1 C.2.1 dX3_readLevel_118 (by decide) (fun c49 => ?_) (fun c49 => ?_)
                    · refine lv_iinc (v := nI (t + 1)) (lv' := [(4, .int (nI (t + 1))), (5, .int (nI (hdC ts1))), (0, .ref (mw_a E 33)), (1, .ref (mw_a E (39 + j))), (2, .int 0), (3, .int 4)]) C.1 C.2.1 dX3_readLevel_122 hl (k := 5) rfl (nI_1 _) (by decide) rfl (fun ls hl => ?_)
                      refine lv_goto (tgt := 52) C.1 C.2.1 dX3_readLevel_125 (by decide) ?_
                      refine lv_iload C.1 C.2.1 dX3_readLevel_52 (lv_at hl 0 rfl) ?_
                      refine lv_sipush (v := 160) C.1 C.2.1 dX3_readLevel_54 (by decide) ?_
                      refine lv_icmp_ge (tgt := 128) C.1 C.2.1 dX3_readLevel_57 (by decide) (fun c50 => ?_) (fun c50 => ?_)
                      · exact mw_vret C hr hlk Z hP hS dX3_readLevel_128 (⟨xAf.bd (hsp.trans (egl.trans (by rw [e27]))) w45.1, (((fra.rd _ _).tr f26).tr w45.2)⟩)
                      · refine lv_aload_n C.1 C.2.1 dX3_readLevel_60 rfl (lv_at hl 2 rfl) ?_
                        refine mw_geti C Z hP (33) 2 (by decide) sx_33 rfl rfl (by decide) inX3 tw_1_155 dX3_readLevel_61 ?_
                        refine mw_top (y := nI qq32) (w45.1.2.2.1.1) ?_
                        refine lv_iconst (v := -1) C.1 C.2.1 dX3_readLevel_64 (by decide) ?_
                        refine lv_icmp_ne (tgt := 128) C.1 C.2.1 dX3_readLevel_65 (by decide) (fun c51 => ?_) (fun c51 => ?_)
                        · exact mw_vret C hr hlk Z hP hS dX3_readLevel_128 (⟨xAf.bd (hsp.trans (egl.trans (by rw [e27]))) w45.1, (((fra.rd _ _).tr f26).tr w45.2)⟩)
                        · exact absurd c51 (nI_nm1 (by have y := w45.1.2.2.1.2; omega))
                    · exact absurd c49 (by decide)
                · have hnop : ¬ gOr (hdC ts1) = true := fun y => c22 (lv_0.mpr y)
                  exact mw_vret C hr hlk Z hP hS dX3_readLevel_90 (⟨xAf.gd (hsp.trans (gLoop_stop hnop)) hpo, fra⟩)
        exact lpa (161) a8 0 (ts7.length) ts7 cs6 u12 _ _ (by omega) (by omega) (Nat.le_refl _) (by have y := po9.2.2.2.2.2.2; omega) ((congrFun gE_1 ts).trans (gLevel_g e5)) (po9) ((xPf.rf j σ).tr f4) hP hS ls (lv_sub hl [1, 2, 3, 4, 0] rfl)
      · rw [e5] at hx3
        have po9 : xPb u12 T j qq10 := hx3
        refine lv_iconst (v := 0) C.1 C.2.1 dX3_readLevel_49 (by decide) ?_
        refine lv_istore (lv' := [(4, .int 0), (0, .ref (mw_a E 33)), (1, .ref (mw_a E (39 + j))), (2, .int 0), (3, .int 4)]) C.1 C.2.1 dX3_readLevel_50 hl (by decide) rfl (fun ls hl => ?_)
        refine lv_iload C.1 C.2.1 dX3_readLevel_52 (lv_at hl 0 rfl) ?_
        refine lv_sipush (v := 160) C.1 C.2.1 dX3_readLevel_54 (by decide) ?_
        refine lv_icmp_ge (tgt := 128) C.1 C.2.1 dX3_readLevel_57 (by decide) (fun c52 => ?_) (fun c52 => ?_)
        · exact absurd c52 (by decide)
        · refine lv_aload_n C.1 C.2.1 dX3_readLevel_60 rfl (lv_at hl 1 rfl) ?_
          refine mw_geti C Z hP (33) 2 (by decide) sx_33 rfl rfl (by decide) inX3 tw_1_155 dX3_readLevel_61 ?_
          refine mw_top (y := nI qq10) (po9.2.2.1.1) ?_
          refine lv_iconst (v := -1) C.1 C.2.1 dX3_readLevel_64 (by decide) ?_
          refine lv_icmp_ne (tgt := 128) C.1 C.2.1 dX3_readLevel_65 (by decide) (fun c53 => ?_) (fun c53 => ?_)
          · exact mw_vret C hr hlk Z hP hS dX3_readLevel_128 (⟨xAf.bd ((congrFun gE_1 ts).trans (gLevel_b e5)) po9, ((xPf.rf j σ).tr f4)⟩)
          · exact absurd c53 (nI_nm1 (by have y := po9.2.2.1.2; omega))
    · exact absurd c2 (by decide)
  · exact absurd c1 (by decide)

set_option maxHeartbeats 4000000 in
set_option maxRecDepth 100000 in
theorem cX_one3 (l : Launch) (E : mw_E) (σ : mw_M) (T : List (Nat × Nat)) (j : Nat) (hj : j < 6) (a : Nat) (ts : List (Nat × Nat)) (cs : List Nat) (B : Nat) (hB : B ≤ 160) (h : xPo σ T j a ts cs B) : mw_Cv shX 75 gX l yX3_readOne cX3_readOne 4 none (rmF 18 472) E [.ref (mw_a E 33), .ref (mw_a E (39 + j)), .int 3] σ (fun u => xAf T j B cs ((gD 2).1 ts) u ∧ xPf j σ u) := by
  refine mw_of (by decide) gX_ok (Nat.le_of_ble_eq_true rfl) ?_
  intro p_ e_ s_ m_ below meth c_ C hr hlk Z hP ls hl
  have C : CallFix p_ m_ c_ cX3_readOne 4 s_ _ lw_good RX3 := C
  have hl : lv_has ls 4 [(0, .ref (mw_a E 33)), (1, .ref (mw_a E (39 + j))), (2, .int 3)] := hl
  have hS : va_S (mw_A 75 E) s_.heap s_.heap [] := va_S.rf
  have hlt : hdC ts < 20000 := by have y := (h.1.lt a).1; rw [h.2.1] at y; exact y
  refine lv_aload_n C.1 C.2.1 dX3_readOne_0 rfl (lv_at hl 0 rfl) ?_
  refine mw_getr C Z hP (33) 0 (34) (by decide) sx_33 rfl rfl (by decide) inX3 tw_1_153 dX3_readOne_1 ?_
  refine lv_aload_n C.1 C.2.1 dX3_readOne_4 rfl (lv_at hl 0 rfl) ?_
  refine mw_geti C Z hP (33) 1 (by decide) sx_33 rfl rfl (by decide) inX3 tw_1_154 dX3_readOne_5 ?_
  refine mw_top (y := nI a) (h.2.2.2.1) ?_
  refine mw_cVi (As := [.int (nI a)]) (rest := []) C Z hP hS (34) (cX_tokenAt l E σ T.length h.1.2.1 h.1.1 a (by have y1 := h.1.1; have y2 := h.2.2.1; omega)) vb_X10_tokenAt tw_2_204 ⟨rfl, rfl⟩ ⟨Nat.le_of_ble_eq_true rfl, Nat.le_of_ble_eq_true rfl⟩ (by decide) sx_34 rfl rfl rfl hl.1 rfl (Nat.le_of_ble_eq_true rfl) dX3_readOne_8 ⟨Nat.zero_le _, Nat.zero_le _⟩ (fun r1 u2 H locs q3 hP hS => ?_)
  rw [(h.1.tok a).1, h.2.1] at q3
  obtain ⟨rfl, q3u⟩ := q3
  rw [q3u] at hP; clear q3u
  refine lv_istore_n (lv' := [(3, .int (nI (hdC ts))), (0, .ref (mw_a E 33)), (1, .ref (mw_a E (39 + j))), (2, .int 3)]) C.1 C.2.1 dX3_readOne_11 rfl hl (by decide) rfl (fun ls hl => ?_)
  refine lv_aload_n C.1 C.2.1 dX3_readOne_12 rfl (lv_at hl 1 rfl) ?_
  refine mw_geti C Z hP (33) 2 (by decide) sx_33 rfl rfl (by decide) inX3 tw_1_155 dX3_readOne_13 ?_
  refine mw_top (y := -1) (h.2.2.2.2.1) ?_
  refine lv_iconst (v := -1) C.1 C.2.1 dX3_readOne_16 (by decide) ?_
  refine lv_icmp_eq (tgt := 21) C.1 C.2.1 dX3_readOne_17 (by decide) (fun c4 => ?_) (fun c4 => ?_)
  · refine lv_iload_n C.1 C.2.1 dX3_readOne_21 rfl (lv_at hl 0 rfl) ?_
    refine lv_iconst (v := 5) C.1 C.2.1 dX3_readOne_22 (by decide) ?_
    refine lv_icmp_le (tgt := 32) C.1 C.2.1 dX3_readOne_23 (by decide) (fun c5 => ?_) (fun c5 => ?_)
    · have c5 := (nI_leI (b := 5) (by omega) (by decide)).mp c5
      have hcl : hdC ts ≤ 5 ∨ 100 ≤ hdC ts := Or.inl c5
      have hne : hdC ts ≠ 21 := by omega
      refine lv_aload_n C.1 C.2.1 dX3_readOne_32 rfl (lv_at hl 1 rfl) ?_
      refine lv_dup C.1 C.2.1 dX3_readOne_33 rfl ?_
      refine mw_geti C Z hP (33) 1 (by decide) sx_33 rfl rfl (by decide) inX3 tw_1_154 dX3_readOne_34 ?_
      refine mw_top (y := nI a) (h.2.2.2.1) ?_
      refine lv_iconst (v := 1) C.1 C.2.1 dX3_readOne_37 (by decide) ?_
      refine lv_iadd C.1 C.2.1 dX3_readOne_38 ?_
      refine mw_top (y := nI (a + 1)) (nI_1 _) ?_
      refine mw_puti C Z hP hS (33) 1 (by decide) sx_33 rfl rfl (by decide) inX3 tyX3 tyX3_ok nmX3 rfl tw_1_154 rfl rfl dX3_readOne_39 (fun H locs hP hS => ?_)
      have pn6 := h.next hj hne
      have hb7 := pn6.2
      refine lv_aload_n C.1 C.2.1 dX3_readOne_42 rfl (lv_at hl 2 rfl) ?_
      refine lv_iload_n C.1 C.2.1 dX3_readOne_43 rfl (lv_at hl 0 rfl) ?_
      refine mw_cVv (As := [.int (nI (hdC ts))]) (rest := []) C Z hP hS (39 + j) (cX_add l E (mw_si σ 33 1 (nI (a + 1))) j hj cs.length pn6.1.2.2.2.2.2.1.1 (by have y := pn6.1.2.2.2.2.2.2; omega) (nI (hdC ts))) vb_X8_add tw_2_224 ⟨rfl, rfl⟩ ⟨Nat.le_of_ble_eq_true rfl, Nat.le_of_ble_eq_true rfl⟩ (by omega) (sx_tx (by omega)) rfl rfl rfl hl.1 rfl (Nat.le_of_ble_eq_true rfl) dX3_readOne_44 ⟨Nat.zero_le _, Nat.zero_le _⟩ (fun u9 H locs q10 hP hS => ?_)
      have e11 := q10.1 (by have y := pn6.1.2.2.2.2.2.2; omega)
      subst e11
      have po12 := (pn6.1.add hj (hdC ts)).wk (C := B) (by omega)
      refine lv_goto (tgt := 131) C.1 C.2.1 dX3_readOne_47 (by decide) ?_
      exact mw_vret C hr hlk Z hP hS dX3_readOne_131 (⟨xAf.gd ((congrFun gA_2 ts).trans (gAt_a hcl)) po12, (((xPf.rf j σ).rd _ _).ad _ _ _)⟩)
    · have c5 := (not_congr (nI_leI (b := 5) (by omega) (by decide))).mp c5
      refine lv_iload_n C.1 C.2.1 dX3_readOne_26 rfl (lv_at hl 0 rfl) ?_
      refine lv_bipush (v := 100) C.1 C.2.1 dX3_readOne_27 (by decide) ?_
      refine lv_icmp_lt (tgt := 50) C.1 C.2.1 dX3_readOne_29 (by decide) (fun c13 => ?_) (fun c13 => ?_)
      · have c13 := (nI_ltI (b := 100) (by omega) (by decide)).mp c13
        have hncl : ¬ (hdC ts ≤ 5 ∨ 100 ≤ hdC ts) := by omega
        refine lv_iload_n C.1 C.2.1 dX3_readOne_50 rfl (lv_at hl 0 rfl) ?_
        refine lv_bipush (v := 16) C.1 C.2.1 dX3_readOne_51 (by decide) ?_
        refine lv_icmp_ne (tgt := 88) C.1 C.2.1 dX3_readOne_53 (by decide) (fun c14 => ?_) (fun c14 => ?_)
        · have h16n : ¬ hdC ts = 16 := fun y => c14 (by rw [y]; rfl)
          refine lv_iload_n C.1 C.2.1 dX3_readOne_88 rfl (lv_at hl 0 rfl) ?_
          refine lv_bipush (v := 12) C.1 C.2.1 dX3_readOne_89 (by decide) ?_
          refine lv_icmp_ne (tgt := 127) C.1 C.2.1 dX3_readOne_91 (by decide) (fun c15 => ?_) (fun c15 => ?_)
          · refine lv_aload_n C.1 C.2.1 dX3_readOne_127 rfl (lv_at hl 1 rfl) ?_
            refine mw_cVv (As := []) (rest := []) C Z hP hS (33) (cX_failG l E σ T j hj a ts cs B (by omega) h) vb_X3_fail tw_2_208 ⟨rfl, rfl⟩ ⟨Nat.le_of_ble_eq_true rfl, Nat.le_of_ble_eq_true rfl⟩ (by decide) sx_33 rfl rfl rfl hl.1 rfl (Nat.le_of_ble_eq_true rfl) dX3_readOne_128 ⟨Nat.zero_le _, Nat.zero_le _⟩ (fun u17 H locs q18 hP hS => ?_)
            subst q18
            exact mw_vret C hr hlk Z hP hS dX3_readOne_131 (⟨xAf.bd ((congrFun gA_2 ts).trans (gAt_x hncl (fun y => absurd y h16n) (fun y => absurd y (fun z => c15 (by rw [z]; rfl))))) (h.fail hj (by have y := h.2.2.2.2.2.2; omega)), ((xPf.rf j σ).rd _ _)⟩)
          · have h12 : hdC ts = 12 := nI_eqI (b := 12) (by omega) (by decide) c15
            have hne : hdC ts ≠ 21 := by omega
            refine lv_iload_n C.1 C.2.1 dX3_readOne_94 rfl (lv_at hl 3 rfl) ?_
            refine lv_iconst (v := 5) C.1 C.2.1 dX3_readOne_95 (by decide) ?_
            refine lv_icmp_ge (tgt := 127) C.1 C.2.1 dX3_readOne_96 (by decide) (fun c19 => ?_) (fun c19 => ?_)
            · exact absurd c19 (by decide)
            · refine lv_aload_n C.1 C.2.1 dX3_readOne_99 rfl (lv_at hl 1 rfl) ?_
              refine lv_dup C.1 C.2.1 dX3_readOne_100 rfl ?_
              refine mw_geti C Z hP (33) 1 (by decide) sx_33 rfl rfl (by decide) inX3 tw_1_154 dX3_readOne_101 ?_
              refine mw_top (y := nI a) (h.2.2.2.1) ?_
              refine lv_iconst (v := 1) C.1 C.2.1 dX3_readOne_104 (by decide) ?_
              refine lv_iadd C.1 C.2.1 dX3_readOne_105 ?_
              refine mw_top (y := nI (a + 1)) (nI_1 _) ?_
              refine mw_puti C Z hP hS (33) 1 (by decide) sx_33 rfl rfl (by decide) inX3 tyX3 tyX3_ok nmX3 rfl tw_1_154 rfl rfl dX3_readOne_106 (fun H locs hP hS => ?_)
              have pn20 := h.next hj hne
              have hb21 := pn20.2
              refine lv_aload_n C.1 C.2.1 dX3_readOne_109 rfl (lv_at hl 1 rfl) ?_
              refine lv_aload_n C.1 C.2.1 dX3_readOne_110 rfl (lv_at hl 2 rfl) ?_
              refine lv_iconst (v := 0) C.1 C.2.1 dX3_readOne_111 (by decide) ?_
              refine lv_iload_n C.1 C.2.1 dX3_readOne_112 rfl (lv_at hl 3 rfl) ?_
              refine lv_iconst (v := 1) C.1 C.2.1 dX3_readOne_113 (by decide) ?_
              refine lv_iadd C.1 C.2.1 dX3_readOne_114 ?_
              refine mw_top (y := 4) (by decide) ?_
              refine mw_cVv (As := [.ref (mw_a E (39 + j)), .int 0, .int 4]) (rest := []) C Z hP hS (33) (cX_l0_4 l E (mw_si σ 33 1 (nI (a + 1))) T j hj (a + 1) (ts.tail) cs (B - 1) (by omega) pn20.1) vb_X3_readLevel tw_2_216 ⟨rfl, rfl⟩ ⟨Nat.le_of_ble_eq_true rfl, Nat.le_of_ble_eq_true rfl⟩ (by decide) sx_33 rfl rfl rfl hl.1 rfl (Nat.le_of_ble_eq_true rfl) dX3_readOne_115 ⟨Nat.zero_le _, Nat.zero_le _⟩ (fun u31 H locs q32 hP hS => ?_)
              obtain ⟨hx22, f23⟩ := q32
              rcases e24 : (gD 1).2.2 (ts.tail) with ⟨cs25, ts26⟩ | qq29
              · rw [e24] at hx22
                obtain ⟨a27, po28⟩ := hx22
                have po28 : xPo u31 T j a27 ts26 (cs ++ cs25) (B - 1) := po28
                refine lv_aload_n C.1 C.2.1 dX3_readOne_118 rfl (lv_at hl 1 rfl) ?_
                refine lv_bipush (v := 13) C.1 C.2.1 dX3_readOne_119 (by decide) ?_
                refine mw_cVv (As := [.int 13]) (rest := []) C Z hP hS (33) (cX_passG l E u31 T j hj a27 ts26 ((cs ++ cs25)) (B - 1) (by omega) po28 13 (by decide)) vb_X3_pass tw_2_200 ⟨rfl, rfl⟩ ⟨Nat.le_of_ble_eq_true rfl, Nat.le_of_ble_eq_true rfl⟩ (by decide) sx_33 rfl rfl rfl hl.1 rfl (Nat.le_of_ble_eq_true rfl) dX3_readOne_121 ⟨Nat.zero_le _, Nat.zero_le _⟩ (fun u36 H locs q37 hP hS => ?_)
                by_cases hc33 : hdC ts26 = 13
                · have e34 := q37.1 hc33; subst e34
                  have pn38 := po28.next hj (by omega)
                  refine lv_goto (tgt := 131) C.1 C.2.1 dX3_readOne_124 (by decide) ?_
                  exact mw_vret C hr hlk Z hP hS dX3_readOne_131 (⟨xAf.gd ((congrFun gA_2 ts).trans (gAt_p1 h12 e24 hc33)) (pn38.1.wk (by omega)), ((((xPf.rf j σ).rd _ _).tr f23).rd _ _)⟩)
                · have e34 := q37.2 hc33; subst e34
                  have pb39 := po28.fail hj (by have y := po28.2.2.2.2.2.2; omega)
                  refine lv_goto (tgt := 131) C.1 C.2.1 dX3_readOne_124 (by decide) ?_
                  exact mw_vret C hr hlk Z hP hS dX3_readOne_131 (⟨xAf.bd ((congrFun gA_2 ts).trans (gAt_p2 h12 e24 hc33)) pb39, ((((xPf.rf j σ).rd _ _).tr f23).rd _ _)⟩)
              · rw [e24] at hx22
                have po28 : xPb u31 T j qq29 := hx22
                refine lv_aload_n C.1 C.2.1 dX3_readOne_118 rfl (lv_at hl 1 rfl) ?_
                refine lv_bipush (v := 13) C.1 C.2.1 dX3_readOne_119 (by decide) ?_
                refine mw_cVv (As := [.int 13]) (rest := []) C Z hP hS (33) (cX_passB l E u31 T j hj qq29 po28 (13 : Int32)) vb_X3_pass tw_2_200 ⟨rfl, rfl⟩ ⟨Nat.le_of_ble_eq_true rfl, Nat.le_of_ble_eq_true rfl⟩ (by decide) sx_33 rfl rfl rfl hl.1 rfl (Nat.le_of_ble_eq_true rfl) dX3_readOne_121 ⟨Nat.zero_le _, Nat.zero_le _⟩ (fun u41 H locs q42 hP hS => ?_)
                rw [q42] at hP; clear q42
                refine lv_goto (tgt := 131) C.1 C.2.1 dX3_readOne_124 (by decide) ?_
                exact mw_vret C hr hlk Z hP hS dX3_readOne_131 (⟨xAf.bd ((congrFun gA_2 ts).trans (gAt_p3 h12 e24)) po28, (((xPf.rf j σ).rd _ _).tr f23)⟩)
        · have h16 : hdC ts = 16 := nI_eqI (b := 16) (by omega) (by decide) c14
          have hne : hdC ts ≠ 21 := by omega
          refine lv_iload_n C.1 C.2.1 dX3_readOne_56 rfl (lv_at hl 3 rfl) ?_
          refine lv_iconst (v := 5) C.1 C.2.1 dX3_readOne_57 (by decide) ?_
          refine lv_icmp_ge (tgt := 88) C.1 C.2.1 dX3_readOne_58 (by decide) (fun c43 => ?_) (fun c43 => ?_)
          · exact absurd c43 (by decide)
          · refine lv_aload_n C.1 C.2.1 dX3_readOne_61 rfl (lv_at hl 1 rfl) ?_
            refine lv_dup C.1 C.2.1 dX3_readOne_62 rfl ?_
            refine mw_geti C Z hP (33) 1 (by decide) sx_33 rfl rfl (by decide) inX3 tw_1_154 dX3_readOne_63 ?_
            refine mw_top (y := nI a) (h.2.2.2.1) ?_
            refine lv_iconst (v := 1) C.1 C.2.1 dX3_readOne_66 (by decide) ?_
            refine lv_iadd C.1 C.2.1 dX3_readOne_67 ?_
            refine mw_top (y := nI (a + 1)) (nI_1 _) ?_
            refine mw_puti C Z hP hS (33) 1 (by decide) sx_33 rfl rfl (by decide) inX3 tyX3 tyX3_ok nmX3 rfl tw_1_154 rfl rfl dX3_readOne_68 (fun H locs hP hS => ?_)
            have pn44 := h.next hj hne
            have hb45 := pn44.2
            refine lv_aload_n C.1 C.2.1 dX3_readOne_71 rfl (lv_at hl 1 rfl) ?_
            refine lv_aload_n C.1 C.2.1 dX3_readOne_72 rfl (lv_at hl 2 rfl) ?_
            refine lv_iload_n C.1 C.2.1 dX3_readOne_73 rfl (lv_at hl 3 rfl) ?_
            refine lv_iconst (v := 1) C.1 C.2.1 dX3_readOne_74 (by decide) ?_
            refine lv_iadd C.1 C.2.1 dX3_readOne_75 ?_
            refine mw_top (y := 4) (by decide) ?_
            refine mw_cVv (As := [.ref (mw_a E (39 + j)), .int 4]) (rest := []) C Z hP hS (33) (cX_one4 l E (mw_si σ 33 1 (nI (a + 1))) T j hj (a + 1) (ts.tail) cs (B - 1) (by omega) pn44.1) vb_X3_readOne tw_2_220 ⟨rfl, rfl⟩ ⟨Nat.le_of_ble_eq_true rfl, Nat.le_of_ble_eq_true rfl⟩ (by decide) sx_33 rfl rfl rfl hl.1 rfl (Nat.le_of_ble_eq_true rfl) dX3_readOne_76 ⟨Nat.zero_le _, Nat.zero_le _⟩ (fun u55 H locs q56 hP hS => ?_)
            obtain ⟨hx46, f47⟩ := q56
            rcases e48 : (gD 1).1 (ts.tail) with ⟨cs49, ts50⟩ | qq53
            · rw [e48] at hx46
              obtain ⟨a51, po52⟩ := hx46
              have po52 : xPo u55 T j a51 ts50 (cs ++ cs49) (B - 1) := po52
              refine lv_aload_n C.1 C.2.1 dX3_readOne_79 rfl (lv_at hl 2 rfl) ?_
              refine lv_bipush (v := 20) C.1 C.2.1 dX3_readOne_80 (by decide) ?_
              refine mw_top (y := nI 20) (rfl) ?_
              refine mw_cVv (As := [.int (nI 20)]) (rest := []) C Z hP hS (39 + j) (cX_add l E u55 j hj ((cs ++ cs49)).length po52.2.2.2.2.2.1.1 (by have y := po52.2.2.2.2.2.2; omega) (nI 20)) vb_X8_add tw_2_224 ⟨rfl, rfl⟩ ⟨Nat.le_of_ble_eq_true rfl, Nat.le_of_ble_eq_true rfl⟩ (by omega) (sx_tx (by omega)) rfl rfl rfl hl.1 rfl (Nat.le_of_ble_eq_true rfl) dX3_readOne_82 ⟨Nat.zero_le _, Nat.zero_le _⟩ (fun u58 H locs q59 hP hS => ?_)
              have e60 := q59.1 (by have y := po52.2.2.2.2.2.2; omega)
              subst e60
              have po61 := (po52.add hj 20).wk (C := B) (by omega)
              refine lv_goto (tgt := 131) C.1 C.2.1 dX3_readOne_85 (by decide) ?_
              exact mw_vret C hr hlk Z hP hS dX3_readOne_131 (⟨xAf.gd ((congrFun gA_2 ts).trans (gAt_m1 h16 e48)) (by rw [← List.append_assoc]; exact po61), ((((xPf.rf j σ).rd _ _).tr f47).ad _ _ _)⟩)
            · rw [e48] at hx46
              have po52 : xPb u55 T j qq53 := hx46
              refine lv_aload_n C.1 C.2.1 dX3_readOne_79 rfl (lv_at hl 2 rfl) ?_
              refine lv_bipush (v := 20) C.1 C.2.1 dX3_readOne_80 (by decide) ?_
              refine mw_top (y := nI 20) (rfl) ?_
              obtain ⟨k62, hk63, ek64⟩ := po52.2.2.2
              refine mw_cVv (As := [.int (nI 20)]) (rest := []) C Z hP hS (39 + j) (cX_add l E u55 j hj k62 ek64 hk63 (nI 20)) vb_X8_add tw_2_224 ⟨rfl, rfl⟩ ⟨Nat.le_of_ble_eq_true rfl, Nat.le_of_ble_eq_true rfl⟩ (by omega) (sx_tx (by omega)) rfl rfl rfl hl.1 rfl (Nat.le_of_ble_eq_true rfl) dX3_readOne_82 ⟨Nat.zero_le _, Nat.zero_le _⟩ (fun u67 H locs q68 hP hS => ?_)
              have w65 := xPb.add po52 hj hk63 q68
              refine lv_goto (tgt := 131) C.1 C.2.1 dX3_readOne_85 (by decide) ?_
              exact mw_vret C hr hlk Z hP hS dX3_readOne_131 (⟨xAf.bd ((congrFun gA_2 ts).trans (gAt_m2 h16 e48)) w65.1, ((((xPf.rf j σ).rd _ _).tr f47).tr w65.2)⟩)
      · have c13 := (not_congr (nI_ltI (b := 100) (by omega) (by decide))).mp c13
        have hcl : hdC ts ≤ 5 ∨ 100 ≤ hdC ts := by omega
        have hne : hdC ts ≠ 21 := by omega
        refine lv_aload_n C.1 C.2.1 dX3_readOne_32 rfl (lv_at hl 1 rfl) ?_
        refine lv_dup C.1 C.2.1 dX3_readOne_33 rfl ?_
        refine mw_geti C Z hP (33) 1 (by decide) sx_33 rfl rfl (by decide) inX3 tw_1_154 dX3_readOne_34 ?_
        refine mw_top (y := nI a) (h.2.2.2.1) ?_
        refine lv_iconst (v := 1) C.1 C.2.1 dX3_readOne_37 (by decide) ?_
        refine lv_iadd C.1 C.2.1 dX3_readOne_38 ?_
        refine mw_top (y := nI (a + 1)) (nI_1 _) ?_
        refine mw_puti C Z hP hS (33) 1 (by decide) sx_33 rfl rfl (by decide) inX3 tyX3 tyX3_ok nmX3 rfl tw_1_154 rfl rfl dX3_readOne_39 (fun H locs hP hS => ?_)
        have pn69 := h.next hj hne
        have hb70 := pn69.2
        refine lv_aload_n C.1 C.2.1 dX3_readOne_42 rfl (lv_at hl 2 rfl) ?_
        refine lv_iload_n C.1 C.2.1 dX3_readOne_43 rfl (lv_at hl 0 rfl) ?_
        refine mw_cVv (As := [.int (nI (hdC ts))]) (rest := []) C Z hP hS (39 + j) (cX_add l E (mw_si σ 33 1 (nI (a + 1))) j hj cs.length pn69.1.2.2.2.2.2.1.1 (by have y := pn69.1.2.2.2.2.2.2; omega) (nI (hdC ts))) vb_X8_add tw_2_224 ⟨rfl, rfl⟩ ⟨Nat.le_of_ble_eq_true rfl, Nat.le_of_ble_eq_true rfl⟩ (by omega) (sx_tx (by omega)) rfl rfl rfl hl.1 rfl (Nat.le_of_ble_eq_true rfl) dX3_readOne_44 ⟨Nat.zero_le _, Nat.zero_le _⟩ (fun u72 H locs q73 hP hS => ?_)
        have e74 := q73.1 (by have y := pn69.1.2.2.2.2.2.2; omega)
        subst e74
        have po75 := (pn69.1.add hj (hdC ts)).wk (C := B) (by omega)
        refine lv_goto (tgt := 131) C.1 C.2.1 dX3_readOne_47 (by decide) ?_
        exact mw_vret C hr hlk Z hP hS dX3_readOne_131 (⟨xAf.gd ((congrFun gA_2 ts).trans (gAt_a hcl)) po75, (((xPf.rf j σ).rd _ _).ad _ _ _)⟩)
  · exact absurd c4 (by decide)

set_option maxHeartbeats 4000000 in
set_option maxRecDepth 100000 in
theorem cX_l5_3 (l : Launch) (E : mw_E) (σ : mw_M) (T : List (Nat × Nat)) (j : Nat) (hj : j < 6) (a : Nat) (ts : List (Nat × Nat)) (cs : List Nat) (B : Nat) (hB : B ≤ 160) (h : xPo σ T j a ts cs B) : mw_Cv shX 75 gX l yX3_readLevel cX3_readLevel 6 none (rmF 19 495) E [.ref (mw_a E 33), .ref (mw_a E (39 + j)), .int 5, .int 3] σ (fun u => xAf T j B cs ((gD 2).1 ts) u ∧ xPf j σ u) := by
  refine mw_of (by decide) gX_ok (Nat.le_of_ble_eq_true rfl) ?_
  intro p_ e_ s_ m_ below meth c_ C hr hlk Z hP ls hl
  have C : CallFix p_ m_ c_ cX3_readLevel 6 s_ _ lw_good RX3 := C
  have hl : lv_has ls 6 [(0, .ref (mw_a E 33)), (1, .ref (mw_a E (39 + j))), (2, .int 5), (3, .int 3)] := hl
  have hS : va_S (mw_A 75 E) s_.heap s_.heap [] := va_S.rf
  have hlt : hdC ts < 20000 := by have y := (h.1.lt a).1; rw [h.2.1] at y; exact y
  refine lv_iload_n C.1 C.2.1 dX3_readLevel_0 rfl (lv_at hl 2 rfl) ?_
  refine lv_iconst (v := 4) C.1 C.2.1 dX3_readLevel_1 (by decide) ?_
  refine lv_icmp_le (tgt := 12) C.1 C.2.1 dX3_readLevel_2 (by decide) (fun c1 => ?_) (fun c1 => ?_)
  · exact absurd c1 (by decide)
  · refine lv_aload_n C.1 C.2.1 dX3_readLevel_5 rfl (lv_at hl 0 rfl) ?_
    refine lv_aload_n C.1 C.2.1 dX3_readLevel_6 rfl (lv_at hl 1 rfl) ?_
    refine lv_iload_n C.1 C.2.1 dX3_readLevel_7 rfl (lv_at hl 3 rfl) ?_
    refine mw_cVv (As := [.ref (mw_a E (39 + j)), .int 3]) (rest := []) C Z hP hS (33) (cX_one3 l E σ T j hj a ts cs B (by omega) h) vb_X3_readOne tw_2_220 ⟨rfl, rfl⟩ ⟨Nat.le_of_ble_eq_true rfl, Nat.le_of_ble_eq_true rfl⟩ (by decide) sx_33 rfl rfl rfl hl.1 rfl (Nat.le_of_ble_eq_true rfl) dX3_readLevel_8 ⟨Nat.zero_le _, Nat.zero_le _⟩ (fun u11 H locs q12 hP hS => ?_)
    obtain ⟨hx2, f3⟩ := q12
    rcases e4 : (gD 2).1 ts with ⟨cs5, ts6⟩ | qq9
    · rw [e4] at hx2
      obtain ⟨a7, po8⟩ := hx2
      have po8 : xPo u11 T j a7 ts6 (cs ++ cs5) B := po8
      exact mw_vret C hr hlk Z hP hS dX3_readLevel_11 (⟨xAf.gd rfl po8, ((xPf.rf j σ).tr f3)⟩)
    · rw [e4] at hx2
      have po8 : xPb u11 T j qq9 := hx2
      exact mw_vret C hr hlk Z hP hS dX3_readLevel_11 (⟨xAf.bd rfl po8, ((xPf.rf j σ).tr f3)⟩)

set_option maxHeartbeats 4000000 in
set_option maxRecDepth 100000 in
theorem cX_l4_3 (l : Launch) (E : mw_E) (σ : mw_M) (T : List (Nat × Nat)) (j : Nat) (hj : j < 6) (a : Nat) (ts : List (Nat × Nat)) (cs : List Nat) (B : Nat) (hB : B ≤ 160) (h : xPo σ T j a ts cs B) : mw_Cv shX 75 gX l yX3_readLevel cX3_readLevel 6 none (rmF 20 520) E [.ref (mw_a E 33), .ref (mw_a E (39 + j)), .int 4, .int 3] σ (fun u => xAf T j B cs ((gLevel gTim (gD 2).1) ts) u ∧ xPf j σ u) := by
  refine mw_of (by decide) gX_ok (Nat.le_of_ble_eq_true rfl) ?_
  intro p_ e_ s_ m_ below meth c_ C hr hlk Z hP ls hl
  have C : CallFix p_ m_ c_ cX3_readLevel 6 s_ _ lw_good RX3 := C
  have hl : lv_has ls 6 [(0, .ref (mw_a E 33)), (1, .ref (mw_a E (39 + j))), (2, .int 4), (3, .int 3)] := hl
  have hS : va_S (mw_A 75 E) s_.heap s_.heap [] := va_S.rf
  have hlt : hdC ts < 20000 := by have y := (h.1.lt a).1; rw [h.2.1] at y; exact y
  refine lv_iload_n C.1 C.2.1 dX3_readLevel_0 rfl (lv_at hl 2 rfl) ?_
  refine lv_iconst (v := 4) C.1 C.2.1 dX3_readLevel_1 (by decide) ?_
  refine lv_icmp_le (tgt := 12) C.1 C.2.1 dX3_readLevel_2 (by decide) (fun c1 => ?_) (fun c1 => ?_)
  · refine lv_iload_n C.1 C.2.1 dX3_readLevel_12 rfl (lv_at hl 2 rfl) ?_
    refine lv_iconst (v := 2) C.1 C.2.1 dX3_readLevel_13 (by decide) ?_
    refine lv_icmp_ne (tgt := 40) C.1 C.2.1 dX3_readLevel_14 (by decide) (fun c2 => ?_) (fun c2 => ?_)
    · refine lv_aload_n C.1 C.2.1 dX3_readLevel_40 rfl (lv_at hl 0 rfl) ?_
      refine lv_aload_n C.1 C.2.1 dX3_readLevel_41 rfl (lv_at hl 1 rfl) ?_
      refine lv_iload_n C.1 C.2.1 dX3_readLevel_42 rfl (lv_at hl 2 rfl) ?_
      refine lv_iconst (v := 1) C.1 C.2.1 dX3_readLevel_43 (by decide) ?_
      refine lv_iadd C.1 C.2.1 dX3_readLevel_44 ?_
      refine mw_top (y := 5) (by decide) ?_
      refine lv_iload_n C.1 C.2.1 dX3_readLevel_45 rfl (lv_at hl 3 rfl) ?_
      refine mw_cVv (As := [.ref (mw_a E (39 + j)), .int 5, .int 3]) (rest := []) C Z hP hS (33) (cX_l5_3 l E σ T j hj a ts cs B (by omega) h) vb_X3_readLevel tw_2_216 ⟨rfl, rfl⟩ ⟨Nat.le_of_ble_eq_true rfl, Nat.le_of_ble_eq_true rfl⟩ (by decide) sx_33 rfl rfl rfl hl.1 rfl (Nat.le_of_ble_eq_true rfl) dX3_readLevel_46 ⟨Nat.zero_le _, Nat.zero_le _⟩ (fun u12 H locs q13 hP hS => ?_)
      obtain ⟨hx3, f4⟩ := q13
      rcases e5 : (gD 2).1 ts with ⟨cs6, ts7⟩ | qq10
      · rw [e5] at hx3
        obtain ⟨a8, po9⟩ := hx3
        have po9 : xPo u12 T j a8 ts7 (cs ++ cs6) B := po9
        refine lv_iconst (v := 0) C.1 C.2.1 dX3_readLevel_49 (by decide) ?_
        refine lv_istore (lv' := [(4, .int 0), (0, .ref (mw_a E 33)), (1, .ref (mw_a E (39 + j))), (2, .int 4), (3, .int 3)]) C.1 C.2.1 dX3_readLevel_50 hl (by decide) rfl (fun ls hl => ?_)
        have lpa : ∀ (N : Nat) (a1 : Nat) (t : Nat) (f : Nat) (ts1 : List (Nat × Nat)) (cs1 : List Nat) (ςa : mw_M) (H : Heap) (locs : List Loc), 161 ≤ t + N → (t ≤ 160) → (ts1.length ≤ f) → (t + ts1.length ≤ 160) → ((gLevel gTim (gD 2).1) ts = gLoop gTim (gD 2).1 f cs1 ts1) → (xPo ςa T j a1 ts1 (cs ++ cs1) B) → xPf j σ ςa → va_P (mw_D E) vwCl (mw_ws shX 75 E ςa) H → va_S (mw_A 75 E) s_.heap H locs → ∀ (ls : Array Slot), lv_has ls 6 [(0, .ref (mw_a E 33)), (1, .ref (mw_a E (39 + j))), (2, .int 4), (3, .int 3), (4, .int (nI t))] → xWv p_ l e_ (rmF 20 520) s_ m_ [.ref (mw_a E 33), .ref (mw_a E (39 + j)), .int 4, .int 3] below meth c_ E (fun u => xAf T j B cs ((gLevel gTim (gD 2).1) ts) u ∧ xPf j σ u) H locs (F0 m_ 52 ls []) := by
          intro N
          induction N with
          | zero => intros; exfalso; omega
          | succ N iha =>
            intro a1 t f ts1 cs1 ςa H locs hNa ht hf htl hsp hpo fra hP hS ls hl
            refine lv_iload C.1 C.2.1 dX3_readLevel_52 (lv_at hl 4 rfl) ?_
            refine lv_sipush (v := 160) C.1 C.2.1 dX3_readLevel_54 (by decide) ?_
            refine lv_icmp_ge (tgt := 128) C.1 C.2.1 dX3_readLevel_57 (by decide) (fun c14 => ?_) (fun c14 => ?_)
            · have c14 := (nI_leI (a := 160) (by decide) (by omega)).mp c14
              have e0 : ts1 = [] := List.eq_nil_of_length_eq_zero (by omega)
              exact mw_vret C hr hlk Z hP hS dX3_readLevel_128 (⟨xAf.gd (hsp.trans (gLoop_stop (by rw [e0]; decide))) hpo, fra⟩)
            · have c14 := (not_congr (nI_leI (a := 160) (by decide) (by omega))).mp c14
              refine lv_aload_n C.1 C.2.1 dX3_readLevel_60 rfl (lv_at hl 0 rfl) ?_
              refine mw_geti C Z hP (33) 2 (by decide) sx_33 rfl rfl (by decide) inX3 tw_1_155 dX3_readLevel_61 ?_
              refine mw_top (y := -1) (hpo.2.2.2.2.1) ?_
              refine lv_iconst (v := -1) C.1 C.2.1 dX3_readLevel_64 (by decide) ?_
              refine lv_icmp_ne (tgt := 128) C.1 C.2.1 dX3_readLevel_65 (by decide) (fun c15 => ?_) (fun c15 => ?_)
              · exact absurd c15 (by decide)
              · refine lv_aload_n C.1 C.2.1 dX3_readLevel_68 rfl (lv_at hl 0 rfl) ?_
                refine mw_getr C Z hP (33) 0 (34) (by decide) sx_33 rfl rfl (by decide) inX3 tw_1_153 dX3_readLevel_69 ?_
                refine lv_aload_n C.1 C.2.1 dX3_readLevel_72 rfl (lv_at hl 0 rfl) ?_
                refine mw_geti C Z hP (33) 1 (by decide) sx_33 rfl rfl (by decide) inX3 tw_1_154 dX3_readLevel_73 ?_
                refine mw_top (y := nI a1) (hpo.2.2.2.1) ?_
                refine mw_cVi (As := [.int (nI a1)]) (rest := []) C Z hP hS (34) (cX_tokenAt l E ςa T.length hpo.1.2.1 hpo.1.1 a1 (by have y1 := hpo.1.1; have y2 := hpo.2.2.1; omega)) vb_X10_tokenAt tw_2_204 ⟨rfl, rfl⟩ ⟨Nat.le_of_ble_eq_true rfl, Nat.le_of_ble_eq_true rfl⟩ (by decide) sx_34 rfl rfl rfl hl.1 rfl (Nat.le_of_ble_eq_true rfl) dX3_readLevel_76 ⟨Nat.zero_le _, Nat.zero_le _⟩ (fun r16 u17 H locs q18 hP hS => ?_)
                rw [(hpo.1.tok a1).1, hpo.2.1] at q18
                obtain ⟨rfl, q18u⟩ := q18
                rw [q18u] at hP; clear q18u
                refine lv_istore (lv' := [(5, .int (nI (hdC ts1))), (0, .ref (mw_a E 33)), (1, .ref (mw_a E (39 + j))), (2, .int 4), (3, .int 3), (4, .int (nI t))]) C.1 C.2.1 dX3_readLevel_79 hl (by decide) rfl (fun ls hl => ?_)
                refine lv_iload C.1 C.2.1 dX3_readLevel_81 (lv_at hl 0 rfl) ?_
                refine mw_cSi (As := [.int (nI (hdC ts1))]) (rest := []) C Z hP hS (cX_levelOf l E ςa (hdC ts1) (by have y := (hpo.1.lt a1).1; rw [hpo.2.1] at y; omega)) sb_X3_levelOf tw_2_232 ⟨rfl, rfl⟩ ⟨Nat.le_of_ble_eq_true rfl, Nat.le_of_ble_eq_true rfl⟩ rfl hl.1 rfl (Nat.le_of_ble_eq_true rfl) dX3_readLevel_83 ⟨Nat.zero_le _, Nat.zero_le _⟩ (fun r19 u20 H locs q21 hP hS => ?_)
                obtain ⟨rfl, q21u⟩ := q21
                rw [q21u] at hP; clear q21u
                refine lv_iload_n C.1 C.2.1 dX3_readLevel_86 rfl (lv_at hl 3 rfl) ?_
                refine lv_icmp_eq (tgt := 91) C.1 C.2.1 dX3_readLevel_87 (by decide) (fun c22 => ?_) (fun c22 => ?_)
                · have hop := lv_4.mp c22
                  have hne : hdC ts1 ≠ 21 := lv_21 c22 (by decide)
                  obtain ⟨f2, ef, egl⟩ := gLoop_go (x := (gD 2).1) (cs := cs1) hne hop hf
                  refine lv_aload_n C.1 C.2.1 dX3_readLevel_91 rfl (lv_at hl 1 rfl) ?_
                  refine lv_dup C.1 C.2.1 dX3_readLevel_92 rfl ?_
                  refine mw_geti C Z hP (33) 1 (by decide) sx_33 rfl rfl (by decide) inX3 tw_1_154 dX3_readLevel_93 ?_
                  refine mw_top (y := nI a1) (hpo.2.2.2.1) ?_
                  refine lv_iconst (v := 1) C.1 C.2.1 dX3_readLevel_96 (by decide) ?_
                  refine lv_iadd C.1 C.2.1 dX3_readLevel_97 ?_
                  refine mw_top (y := nI (a1 + 1)) (nI_1 _) ?_
                  refine mw_puti C Z hP hS (33) 1 (by decide) sx_33 rfl rfl (by decide) inX3 tyX3 tyX3_ok nmX3 rfl tw_1_154 rfl rfl dX3_readLevel_98 (fun H locs hP hS => ?_)
                  have pn23 := hpo.next hj hne
                  have hb24 := pn23.2
                  refine lv_aload_n C.1 C.2.1 dX3_readLevel_101 rfl (lv_at hl 1 rfl) ?_
                  refine lv_aload_n C.1 C.2.1 dX3_readLevel_102 rfl (lv_at hl 2 rfl) ?_
                  refine lv_iload_n C.1 C.2.1 dX3_readLevel_103 rfl (lv_at hl 3 rfl) ?_
                  refine lv_iconst (v := 1) C.1 C.2.1 dX3_readLevel_104 (by decide) ?_
                  refine lv_iadd C.1 C.2.1 dX3_readLevel_105 ?_
                  refine mw_top (y := 5) (by decide) ?_
                  refine lv_iload_n C.1 C.2.1 dX3_readLevel_106 rfl (lv_at hl 4 rfl) ?_
                  refine mw_cVv (As := [.ref (mw_a E (39 + j)), .int 5, .int 3]) (rest := []) C Z hP hS (33) (cX_l5_3 l E (mw_si ςa 33 1 (nI (a1 + 1))) T j hj (a1 + 1) (ts1.tail) ((cs ++ cs1)) (B - 1) (by omega) pn23.1) vb_X3_readLevel tw_2_216 ⟨rfl, rfl⟩ ⟨Nat.le_of_ble_eq_true rfl, Nat.le_of_ble_eq_true rfl⟩ (by decide) sx_33 rfl rfl rfl hl.1 rfl (Nat.le_of_ble_eq_true rfl) dX3_readLevel_107 ⟨Nat.zero_le _, Nat.zero_le _⟩ (fun u34 H locs q35 hP hS => ?_)
                  obtain ⟨hx25, f26⟩ := q35
                  rcases e27 : (gD 2).1 (ts1.tail) with ⟨cs28, ts29⟩ | qq32
                  · rw [e27] at hx25
                    obtain ⟨a30, po31⟩ := hx25
                    have po31 : xPo u34 T j a30 ts29 ((cs ++ cs1) ++ cs28) (B - 1) := po31
                    refine lv_aload_n C.1 C.2.1 dX3_readLevel_110 rfl (lv_at hl 2 rfl) ?_
                    refine lv_iload C.1 C.2.1 dX3_readLevel_111 (lv_at hl 0 rfl) ?_
                    refine mw_cVv (As := [.int (nI (hdC ts1))]) (rest := []) C Z hP hS (39 + j) (cX_add l E u34 j hj (((cs ++ cs1) ++ cs28)).length po31.2.2.2.2.2.1.1 (by have y := po31.2.2.2.2.2.2; omega) (nI (hdC ts1))) vb_X8_add tw_2_224 ⟨rfl, rfl⟩ ⟨Nat.le_of_ble_eq_true rfl, Nat.le_of_ble_eq_true rfl⟩ (by omega) (sx_tx (by omega)) rfl rfl rfl hl.1 rfl (Nat.le_of_ble_eq_true rfl) dX3_readLevel_113 ⟨Nat.zero_le _, Nat.zero_le _⟩ (fun u37 H locs q38 hP hS => ?_)
                    have e39 := q38.1 (by have y := po31.2.2.2.2.2.2; omega)
                    subst e39
                    have po40 := (po31.add hj (hdC ts1)).wk (C := B) (by omega)
                    refine lv_iload_n C.1 C.2.1 dX3_readLevel_116 rfl (lv_at hl 3 rfl) ?_
                    refine lv_iconst (v := 2) C.1 C.2.1 dX3_readLevel_117 (by decide) ?_
                    refine lv_icmp_ne (tgt := 122) C.1 C.2.1 dX3_readLevel_118 (by decide) (fun c41 => ?_) (fun c41 => ?_)
                    · refine lv_iinc (v := nI (t + 1)) (lv' := [(4, .int (nI (t + 1))), (5, .int (nI (hdC ts1))), (0, .ref (mw_a E 33)), (1, .ref (mw_a E (39 + j))), (2, .int 4), (3, .int 3)]) C.1 C.2.1 dX3_readLevel_122 hl (k := 5) rfl (nI_1 _) (by decide) rfl (fun ls hl => ?_)
                      refine lv_goto (tgt := 52) C.1 C.2.1 dX3_readLevel_125 (by decide) ?_
                      exact iha a30 (t + 1) f2 ts29 (cs1 ++ cs28 ++ [hdC ts1]) (mw_si (mw_sa u34 (45 + j) (((cs ++ cs1) ++ cs28)).length (nI (hdC ts1))) (39 + j) 3 (nI ((((cs ++ cs1) ++ cs28)).length + 1))) _ _ (by omega) (by omega) (by have y1 := ((gD_dec 2).1) _ _ _ e27; have y2 := tail_len hne; omega) (by have y1 := ((gD_dec 2).1) _ _ _ e27; have y2 := tail_len hne; omega) (hsp.trans (egl.trans (by rw [e27]))) ((by rw [← List.append_assoc]; rw [← List.append_assoc]; exact po40)) (((fra.rd _ _).tr f26).ad _ _ _) hP hS ls (lv_sub hl [2, 3, 4, 5, 0] rfl)
                    · exact absurd c41 (by decide)
                  · rw [e27] at hx25
                    have po31 : xPb u34 T j qq32 := hx25
                    refine lv_aload_n C.1 C.2.1 dX3_readLevel_110 rfl (lv_at hl 2 rfl) ?_
                    refine lv_iload C.1 C.2.1 dX3_readLevel_111 (lv_at hl 0 rfl) ?_
                    obtain ⟨k42, hk43, ek44⟩ := po31.2.2.2
                    refine mw_cVv (As := [.int (nI (hdC ts1))]) (rest := []) C Z hP hS (39 + j) (cX_add l E u34 j hj k42 ek44 hk43 (nI (hdC ts1))) vb_X8_add tw_2_224 ⟨rfl, rfl⟩ ⟨Nat.le_of_ble_eq_true rfl, Nat.le_of_ble_eq_true rfl⟩ (by omega) (sx_tx (by omega)) rfl rfl rfl hl.1 rfl (Nat.le_of_ble_eq_true rfl) dX3_readLevel_113 ⟨Nat.zero_le _, Nat.zero_le _⟩ (fun u47 H locs q48 hP hS => ?_)
                    have w45 := xPb.add po31 hj hk43 q48
                    refine lv_iload_n C.1 C.2.1 dX3_readLevel_116 rfl (lv_at hl 3 rfl) ?_
                    refine lv_iconst (v := 2) C.1 C.2.1 dX3_readLevel_117 (by decide) ?_
                    refine lv_icmp_ne (tgt := 122) C.1 C.2.1 dX3_readLevel_118 (by decide) (fun c49 => ?_) (fun c49 => ?_)
                    · refine lv_iinc (v := nI (t + 1)) (lv' := [(4, .int (nI (t + 1))), (5, .int (nI (hdC ts1))), (0, .ref (mw_a E 33)), (1, .ref (mw_a E (39 + j))), (2, .int 4), (3, .int 3)]) C.1 C.2.1 dX3_readLevel_122 hl (k := 5) rfl (nI_1 _) (by decide) rfl (fun ls hl => ?_)
                      refine lv_goto (tgt := 52) C.1 C.2.1 dX3_readLevel_125 (by decide) ?_
                      refine lv_iload C.1 C.2.1 dX3_readLevel_52 (lv_at hl 0 rfl) ?_
                      refine lv_sipush (v := 160) C.1 C.2.1 dX3_readLevel_54 (by decide) ?_
                      refine lv_icmp_ge (tgt := 128) C.1 C.2.1 dX3_readLevel_57 (by decide) (fun c50 => ?_) (fun c50 => ?_)
                      · exact mw_vret C hr hlk Z hP hS dX3_readLevel_128 (⟨xAf.bd (hsp.trans (egl.trans (by rw [e27]))) w45.1, (((fra.rd _ _).tr f26).tr w45.2)⟩)
                      · refine lv_aload_n C.1 C.2.1 dX3_readLevel_60 rfl (lv_at hl 2 rfl) ?_
                        refine mw_geti C Z hP (33) 2 (by decide) sx_33 rfl rfl (by decide) inX3 tw_1_155 dX3_readLevel_61 ?_
                        refine mw_top (y := nI qq32) (w45.1.2.2.1.1) ?_
                        refine lv_iconst (v := -1) C.1 C.2.1 dX3_readLevel_64 (by decide) ?_
                        refine lv_icmp_ne (tgt := 128) C.1 C.2.1 dX3_readLevel_65 (by decide) (fun c51 => ?_) (fun c51 => ?_)
                        · exact mw_vret C hr hlk Z hP hS dX3_readLevel_128 (⟨xAf.bd (hsp.trans (egl.trans (by rw [e27]))) w45.1, (((fra.rd _ _).tr f26).tr w45.2)⟩)
                        · exact absurd c51 (nI_nm1 (by have y := w45.1.2.2.1.2; omega))
                    · exact absurd c49 (by decide)
                · have hnop : ¬ gTim (hdC ts1) = true := fun y => c22 (lv_4.mpr y)
                  exact mw_vret C hr hlk Z hP hS dX3_readLevel_90 (⟨xAf.gd (hsp.trans (gLoop_stop hnop)) hpo, fra⟩)
        exact lpa (161) a8 0 (ts7.length) ts7 cs6 u12 _ _ (by omega) (by omega) (Nat.le_refl _) (by have y := po9.2.2.2.2.2.2; omega) ((gLevel_g e5)) (po9) ((xPf.rf j σ).tr f4) hP hS ls (lv_sub hl [1, 2, 3, 4, 0] rfl)
      · rw [e5] at hx3
        have po9 : xPb u12 T j qq10 := hx3
        refine lv_iconst (v := 0) C.1 C.2.1 dX3_readLevel_49 (by decide) ?_
        refine lv_istore (lv' := [(4, .int 0), (0, .ref (mw_a E 33)), (1, .ref (mw_a E (39 + j))), (2, .int 4), (3, .int 3)]) C.1 C.2.1 dX3_readLevel_50 hl (by decide) rfl (fun ls hl => ?_)
        refine lv_iload C.1 C.2.1 dX3_readLevel_52 (lv_at hl 0 rfl) ?_
        refine lv_sipush (v := 160) C.1 C.2.1 dX3_readLevel_54 (by decide) ?_
        refine lv_icmp_ge (tgt := 128) C.1 C.2.1 dX3_readLevel_57 (by decide) (fun c52 => ?_) (fun c52 => ?_)
        · exact absurd c52 (by decide)
        · refine lv_aload_n C.1 C.2.1 dX3_readLevel_60 rfl (lv_at hl 1 rfl) ?_
          refine mw_geti C Z hP (33) 2 (by decide) sx_33 rfl rfl (by decide) inX3 tw_1_155 dX3_readLevel_61 ?_
          refine mw_top (y := nI qq10) (po9.2.2.1.1) ?_
          refine lv_iconst (v := -1) C.1 C.2.1 dX3_readLevel_64 (by decide) ?_
          refine lv_icmp_ne (tgt := 128) C.1 C.2.1 dX3_readLevel_65 (by decide) (fun c53 => ?_) (fun c53 => ?_)
          · exact mw_vret C hr hlk Z hP hS dX3_readLevel_128 (⟨xAf.bd ((gLevel_b e5)) po9, ((xPf.rf j σ).tr f4)⟩)
          · exact absurd c53 (nI_nm1 (by have y := po9.2.2.1.2; omega))
    · exact absurd c2 (by decide)
  · exact absurd c1 (by decide)

set_option maxHeartbeats 4000000 in
set_option maxRecDepth 100000 in
theorem cX_l3_3 (l : Launch) (E : mw_E) (σ : mw_M) (T : List (Nat × Nat)) (j : Nat) (hj : j < 6) (a : Nat) (ts : List (Nat × Nat)) (cs : List Nat) (B : Nat) (hB : B ≤ 160) (h : xPo σ T j a ts cs B) : mw_Cv shX 75 gX l yX3_readLevel cX3_readLevel 6 none (rmF 21 545) E [.ref (mw_a E 33), .ref (mw_a E (39 + j)), .int 3, .int 3] σ (fun u => xAf T j B cs ((gLevel gAdd (gLevel gTim (gD 2).1)) ts) u ∧ xPf j σ u) := by
  refine mw_of (by decide) gX_ok (Nat.le_of_ble_eq_true rfl) ?_
  intro p_ e_ s_ m_ below meth c_ C hr hlk Z hP ls hl
  have C : CallFix p_ m_ c_ cX3_readLevel 6 s_ _ lw_good RX3 := C
  have hl : lv_has ls 6 [(0, .ref (mw_a E 33)), (1, .ref (mw_a E (39 + j))), (2, .int 3), (3, .int 3)] := hl
  have hS : va_S (mw_A 75 E) s_.heap s_.heap [] := va_S.rf
  have hlt : hdC ts < 20000 := by have y := (h.1.lt a).1; rw [h.2.1] at y; exact y
  refine lv_iload_n C.1 C.2.1 dX3_readLevel_0 rfl (lv_at hl 2 rfl) ?_
  refine lv_iconst (v := 4) C.1 C.2.1 dX3_readLevel_1 (by decide) ?_
  refine lv_icmp_le (tgt := 12) C.1 C.2.1 dX3_readLevel_2 (by decide) (fun c1 => ?_) (fun c1 => ?_)
  · refine lv_iload_n C.1 C.2.1 dX3_readLevel_12 rfl (lv_at hl 2 rfl) ?_
    refine lv_iconst (v := 2) C.1 C.2.1 dX3_readLevel_13 (by decide) ?_
    refine lv_icmp_ne (tgt := 40) C.1 C.2.1 dX3_readLevel_14 (by decide) (fun c2 => ?_) (fun c2 => ?_)
    · refine lv_aload_n C.1 C.2.1 dX3_readLevel_40 rfl (lv_at hl 0 rfl) ?_
      refine lv_aload_n C.1 C.2.1 dX3_readLevel_41 rfl (lv_at hl 1 rfl) ?_
      refine lv_iload_n C.1 C.2.1 dX3_readLevel_42 rfl (lv_at hl 2 rfl) ?_
      refine lv_iconst (v := 1) C.1 C.2.1 dX3_readLevel_43 (by decide) ?_
      refine lv_iadd C.1 C.2.1 dX3_readLevel_44 ?_
      refine mw_top (y := 4) (by decide) ?_
      refine lv_iload_n C.1 C.2.1 dX3_readLevel_45 rfl (lv_at hl 3 rfl) ?_
      refine mw_cVv (As := [.ref (mw_a E (39 + j)), .int 4, .int 3]) (rest := []) C Z hP hS (33) (cX_l4_3 l E σ T j hj a ts cs B (by omega) h) vb_X3_readLevel tw_2_216 ⟨rfl, rfl⟩ ⟨Nat.le_of_ble_eq_true rfl, Nat.le_of_ble_eq_true rfl⟩ (by decide) sx_33 rfl rfl rfl hl.1 rfl (Nat.le_of_ble_eq_true rfl) dX3_readLevel_46 ⟨Nat.zero_le _, Nat.zero_le _⟩ (fun u12 H locs q13 hP hS => ?_)
      obtain ⟨hx3, f4⟩ := q13
      rcases e5 : (gLevel gTim (gD 2).1) ts with ⟨cs6, ts7⟩ | qq10
      · rw [e5] at hx3
        obtain ⟨a8, po9⟩ := hx3
        have po9 : xPo u12 T j a8 ts7 (cs ++ cs6) B := po9
        refine lv_iconst (v := 0) C.1 C.2.1 dX3_readLevel_49 (by decide) ?_
        refine lv_istore (lv' := [(4, .int 0), (0, .ref (mw_a E 33)), (1, .ref (mw_a E (39 + j))), (2, .int 3), (3, .int 3)]) C.1 C.2.1 dX3_readLevel_50 hl (by decide) rfl (fun ls hl => ?_)
        have lpa : ∀ (N : Nat) (a1 : Nat) (t : Nat) (f : Nat) (ts1 : List (Nat × Nat)) (cs1 : List Nat) (ςa : mw_M) (H : Heap) (locs : List Loc), 161 ≤ t + N → (t ≤ 160) → (ts1.length ≤ f) → (t + ts1.length ≤ 160) → ((gLevel gAdd (gLevel gTim (gD 2).1)) ts = gLoop gAdd (gLevel gTim (gD 2).1) f cs1 ts1) → (xPo ςa T j a1 ts1 (cs ++ cs1) B) → xPf j σ ςa → va_P (mw_D E) vwCl (mw_ws shX 75 E ςa) H → va_S (mw_A 75 E) s_.heap H locs → ∀ (ls : Array Slot), lv_has ls 6 [(0, .ref (mw_a E 33)), (1, .ref (mw_a E (39 + j))), (2, .int 3), (3, .int 3), (4, .int (nI t))] → xWv p_ l e_ (rmF 21 545) s_ m_ [.ref (mw_a E 33), .ref (mw_a E (39 + j)), .int 3, .int 3] below meth c_ E (fun u => xAf T j B cs ((gLevel gAdd (gLevel gTim (gD 2).1)) ts) u ∧ xPf j σ u) H locs (F0 m_ 52 ls []) := by
          intro N
          induction N with
          | zero => intros; exfalso; omega
          | succ N iha =>
            intro a1 t f ts1 cs1 ςa H locs hNa ht hf htl hsp hpo fra hP hS ls hl
            refine lv_iload C.1 C.2.1 dX3_readLevel_52 (lv_at hl 4 rfl) ?_
            refine lv_sipush (v := 160) C.1 C.2.1 dX3_readLevel_54 (by decide) ?_
            refine lv_icmp_ge (tgt := 128) C.1 C.2.1 dX3_readLevel_57 (by decide) (fun c14 => ?_) (fun c14 => ?_)
            · have c14 := (nI_leI (a := 160) (by decide) (by omega)).mp c14
              have e0 : ts1 = [] := List.eq_nil_of_length_eq_zero (by omega)
              exact mw_vret C hr hlk Z hP hS dX3_readLevel_128 (⟨xAf.gd (hsp.trans (gLoop_stop (by rw [e0]; decide))) hpo, fra⟩)
            · have c14 := (not_congr (nI_leI (a := 160) (by decide) (by omega))).mp c14
              refine lv_aload_n C.1 C.2.1 dX3_readLevel_60 rfl (lv_at hl 0 rfl) ?_
              refine mw_geti C Z hP (33) 2 (by decide) sx_33 rfl rfl (by decide) inX3 tw_1_155 dX3_readLevel_61 ?_
              refine mw_top (y := -1) (hpo.2.2.2.2.1) ?_
              refine lv_iconst (v := -1) C.1 C.2.1 dX3_readLevel_64 (by decide) ?_
              refine lv_icmp_ne (tgt := 128) C.1 C.2.1 dX3_readLevel_65 (by decide) (fun c15 => ?_) (fun c15 => ?_)
              · exact absurd c15 (by decide)
              · refine lv_aload_n C.1 C.2.1 dX3_readLevel_68 rfl (lv_at hl 0 rfl) ?_
                refine mw_getr C Z hP (33) 0 (34) (by decide) sx_33 rfl rfl (by decide) inX3 tw_1_153 dX3_readLevel_69 ?_
                refine lv_aload_n C.1 C.2.1 dX3_readLevel_72 rfl (lv_at hl 0 rfl) ?_
                refine mw_geti C Z hP (33) 1 (by decide) sx_33 rfl rfl (by decide) inX3 tw_1_154 dX3_readLevel_73 ?_
                refine mw_top (y := nI a1) (hpo.2.2.2.1) ?_
                refine mw_cVi (As := [.int (nI a1)]) (rest := []) C Z hP hS (34) (cX_tokenAt l E ςa T.length hpo.1.2.1 hpo.1.1 a1 (by have y1 := hpo.1.1; have y2 := hpo.2.2.1; omega)) vb_X10_tokenAt tw_2_204 ⟨rfl, rfl⟩ ⟨Nat.le_of_ble_eq_true rfl, Nat.le_of_ble_eq_true rfl⟩ (by decide) sx_34 rfl rfl rfl hl.1 rfl (Nat.le_of_ble_eq_true rfl) dX3_readLevel_76 ⟨Nat.zero_le _, Nat.zero_le _⟩ (fun r16 u17 H locs q18 hP hS => ?_)
                rw [(hpo.1.tok a1).1, hpo.2.1] at q18
                obtain ⟨rfl, q18u⟩ := q18
                rw [q18u] at hP; clear q18u
                refine lv_istore (lv' := [(5, .int (nI (hdC ts1))), (0, .ref (mw_a E 33)), (1, .ref (mw_a E (39 + j))), (2, .int 3), (3, .int 3), (4, .int (nI t))]) C.1 C.2.1 dX3_readLevel_79 hl (by decide) rfl (fun ls hl => ?_)
                refine lv_iload C.1 C.2.1 dX3_readLevel_81 (lv_at hl 0 rfl) ?_
                refine mw_cSi (As := [.int (nI (hdC ts1))]) (rest := []) C Z hP hS (cX_levelOf l E ςa (hdC ts1) (by have y := (hpo.1.lt a1).1; rw [hpo.2.1] at y; omega)) sb_X3_levelOf tw_2_232 ⟨rfl, rfl⟩ ⟨Nat.le_of_ble_eq_true rfl, Nat.le_of_ble_eq_true rfl⟩ rfl hl.1 rfl (Nat.le_of_ble_eq_true rfl) dX3_readLevel_83 ⟨Nat.zero_le _, Nat.zero_le _⟩ (fun r19 u20 H locs q21 hP hS => ?_)
                obtain ⟨rfl, q21u⟩ := q21
                rw [q21u] at hP; clear q21u
                refine lv_iload_n C.1 C.2.1 dX3_readLevel_86 rfl (lv_at hl 3 rfl) ?_
                refine lv_icmp_eq (tgt := 91) C.1 C.2.1 dX3_readLevel_87 (by decide) (fun c22 => ?_) (fun c22 => ?_)
                · have hop := lv_3.mp c22
                  have hne : hdC ts1 ≠ 21 := lv_21 c22 (by decide)
                  obtain ⟨f2, ef, egl⟩ := gLoop_go (x := (gLevel gTim (gD 2).1)) (cs := cs1) hne hop hf
                  refine lv_aload_n C.1 C.2.1 dX3_readLevel_91 rfl (lv_at hl 1 rfl) ?_
                  refine lv_dup C.1 C.2.1 dX3_readLevel_92 rfl ?_
                  refine mw_geti C Z hP (33) 1 (by decide) sx_33 rfl rfl (by decide) inX3 tw_1_154 dX3_readLevel_93 ?_
                  refine mw_top (y := nI a1) (hpo.2.2.2.1) ?_
                  refine lv_iconst (v := 1) C.1 C.2.1 dX3_readLevel_96 (by decide) ?_
                  refine lv_iadd C.1 C.2.1 dX3_readLevel_97 ?_
                  refine mw_top (y := nI (a1 + 1)) (nI_1 _) ?_
                  refine mw_puti C Z hP hS (33) 1 (by decide) sx_33 rfl rfl (by decide) inX3 tyX3 tyX3_ok nmX3 rfl tw_1_154 rfl rfl dX3_readLevel_98 (fun H locs hP hS => ?_)
                  have pn23 := hpo.next hj hne
                  have hb24 := pn23.2
                  refine lv_aload_n C.1 C.2.1 dX3_readLevel_101 rfl (lv_at hl 1 rfl) ?_
                  refine lv_aload_n C.1 C.2.1 dX3_readLevel_102 rfl (lv_at hl 2 rfl) ?_
                  refine lv_iload_n C.1 C.2.1 dX3_readLevel_103 rfl (lv_at hl 3 rfl) ?_
                  refine lv_iconst (v := 1) C.1 C.2.1 dX3_readLevel_104 (by decide) ?_
                  refine lv_iadd C.1 C.2.1 dX3_readLevel_105 ?_
                  refine mw_top (y := 4) (by decide) ?_
                  refine lv_iload_n C.1 C.2.1 dX3_readLevel_106 rfl (lv_at hl 4 rfl) ?_
                  refine mw_cVv (As := [.ref (mw_a E (39 + j)), .int 4, .int 3]) (rest := []) C Z hP hS (33) (cX_l4_3 l E (mw_si ςa 33 1 (nI (a1 + 1))) T j hj (a1 + 1) (ts1.tail) ((cs ++ cs1)) (B - 1) (by omega) pn23.1) vb_X3_readLevel tw_2_216 ⟨rfl, rfl⟩ ⟨Nat.le_of_ble_eq_true rfl, Nat.le_of_ble_eq_true rfl⟩ (by decide) sx_33 rfl rfl rfl hl.1 rfl (Nat.le_of_ble_eq_true rfl) dX3_readLevel_107 ⟨Nat.zero_le _, Nat.zero_le _⟩ (fun u34 H locs q35 hP hS => ?_)
                  obtain ⟨hx25, f26⟩ := q35
                  rcases e27 : (gLevel gTim (gD 2).1) (ts1.tail) with ⟨cs28, ts29⟩ | qq32
                  · rw [e27] at hx25
                    obtain ⟨a30, po31⟩ := hx25
                    have po31 : xPo u34 T j a30 ts29 ((cs ++ cs1) ++ cs28) (B - 1) := po31
                    refine lv_aload_n C.1 C.2.1 dX3_readLevel_110 rfl (lv_at hl 2 rfl) ?_
                    refine lv_iload C.1 C.2.1 dX3_readLevel_111 (lv_at hl 0 rfl) ?_
                    refine mw_cVv (As := [.int (nI (hdC ts1))]) (rest := []) C Z hP hS (39 + j) (cX_add l E u34 j hj (((cs ++ cs1) ++ cs28)).length po31.2.2.2.2.2.1.1 (by have y := po31.2.2.2.2.2.2; omega) (nI (hdC ts1))) vb_X8_add tw_2_224 ⟨rfl, rfl⟩ ⟨Nat.le_of_ble_eq_true rfl, Nat.le_of_ble_eq_true rfl⟩ (by omega) (sx_tx (by omega)) rfl rfl rfl hl.1 rfl (Nat.le_of_ble_eq_true rfl) dX3_readLevel_113 ⟨Nat.zero_le _, Nat.zero_le _⟩ (fun u37 H locs q38 hP hS => ?_)
                    have e39 := q38.1 (by have y := po31.2.2.2.2.2.2; omega)
                    subst e39
                    have po40 := (po31.add hj (hdC ts1)).wk (C := B) (by omega)
                    refine lv_iload_n C.1 C.2.1 dX3_readLevel_116 rfl (lv_at hl 3 rfl) ?_
                    refine lv_iconst (v := 2) C.1 C.2.1 dX3_readLevel_117 (by decide) ?_
                    refine lv_icmp_ne (tgt := 122) C.1 C.2.1 dX3_readLevel_118 (by decide) (fun c41 => ?_) (fun c41 => ?_)
                    · refine lv_iinc (v := nI (t + 1)) (lv' := [(4, .int (nI (t + 1))), (5, .int (nI (hdC ts1))), (0, .ref (mw_a E 33)), (1, .ref (mw_a E (39 + j))), (2, .int 3), (3, .int 3)]) C.1 C.2.1 dX3_readLevel_122 hl (k := 5) rfl (nI_1 _) (by decide) rfl (fun ls hl => ?_)
                      refine lv_goto (tgt := 52) C.1 C.2.1 dX3_readLevel_125 (by decide) ?_
                      exact iha a30 (t + 1) f2 ts29 (cs1 ++ cs28 ++ [hdC ts1]) (mw_si (mw_sa u34 (45 + j) (((cs ++ cs1) ++ cs28)).length (nI (hdC ts1))) (39 + j) 3 (nI ((((cs ++ cs1) ++ cs28)).length + 1))) _ _ (by omega) (by omega) (by have y1 := (gLevel_dec (gD_dec 2).1) _ _ _ e27; have y2 := tail_len hne; omega) (by have y1 := (gLevel_dec (gD_dec 2).1) _ _ _ e27; have y2 := tail_len hne; omega) (hsp.trans (egl.trans (by rw [e27]))) ((by rw [← List.append_assoc]; rw [← List.append_assoc]; exact po40)) (((fra.rd _ _).tr f26).ad _ _ _) hP hS ls (lv_sub hl [2, 3, 4, 5, 0] rfl)
                    · exact absurd c41 (by decide)
                  · rw [e27] at hx25
                    have po31 : xPb u34 T j qq32 := hx25
                    refine lv_aload_n C.1 C.2.1 dX3_readLevel_110 rfl (lv_at hl 2 rfl) ?_
                    refine lv_iload C.1 C.2.1 dX3_readLevel_111 (lv_at hl 0 rfl) ?_
                    obtain ⟨k42, hk43, ek44⟩ := po31.2.2.2
                    refine mw_cVv (As := [.int (nI (hdC ts1))]) (rest := []) C Z hP hS (39 + j) (cX_add l E u34 j hj k42 ek44 hk43 (nI (hdC ts1))) vb_X8_add tw_2_224 ⟨rfl, rfl⟩ ⟨Nat.le_of_ble_eq_true rfl, Nat.le_of_ble_eq_true rfl⟩ (by omega) (sx_tx (by omega)) rfl rfl rfl hl.1 rfl (Nat.le_of_ble_eq_true rfl) dX3_readLevel_113 ⟨Nat.zero_le _, Nat.zero_le _⟩ (fun u47 H locs q48 hP hS => ?_)
                    have w45 := xPb.add po31 hj hk43 q48
                    refine lv_iload_n C.1 C.2.1 dX3_readLevel_116 rfl (lv_at hl 3 rfl) ?_
                    refine lv_iconst (v := 2) C.1 C.2.1 dX3_readLevel_117 (by decide) ?_
                    refine lv_icmp_ne (tgt := 122) C.1 C.2.1 dX3_readLevel_118 (by decide) (fun c49 => ?_) (fun c49 => ?_)
                    · refine lv_iinc (v := nI (t + 1)) (lv' := [(4, .int (nI (t + 1))), (5, .int (nI (hdC ts1))), (0, .ref (mw_a E 33)), (1, .ref (mw_a E (39 + j))), (2, .int 3), (3, .int 3)]) C.1 C.2.1 dX3_readLevel_122 hl (k := 5) rfl (nI_1 _) (by decide) rfl (fun ls hl => ?_)
                      refine lv_goto (tgt := 52) C.1 C.2.1 dX3_readLevel_125 (by decide) ?_
                      refine lv_iload C.1 C.2.1 dX3_readLevel_52 (lv_at hl 0 rfl) ?_
                      refine lv_sipush (v := 160) C.1 C.2.1 dX3_readLevel_54 (by decide) ?_
                      refine lv_icmp_ge (tgt := 128) C.1 C.2.1 dX3_readLevel_57 (by decide) (fun c50 => ?_) (fun c50 => ?_)
                      · exact mw_vret C hr hlk Z hP hS dX3_readLevel_128 (⟨xAf.bd (hsp.trans (egl.trans (by rw [e27]))) w45.1, (((fra.rd _ _).tr f26).tr w45.2)⟩)
                      · refine lv_aload_n C.1 C.2.1 dX3_readLevel_60 rfl (lv_at hl 2 rfl) ?_
                        refine mw_geti C Z hP (33) 2 (by decide) sx_33 rfl rfl (by decide) inX3 tw_1_155 dX3_readLevel_61 ?_
                        refine mw_top (y := nI qq32) (w45.1.2.2.1.1) ?_
                        refine lv_iconst (v := -1) C.1 C.2.1 dX3_readLevel_64 (by decide) ?_
                        refine lv_icmp_ne (tgt := 128) C.1 C.2.1 dX3_readLevel_65 (by decide) (fun c51 => ?_) (fun c51 => ?_)
                        · exact mw_vret C hr hlk Z hP hS dX3_readLevel_128 (⟨xAf.bd (hsp.trans (egl.trans (by rw [e27]))) w45.1, (((fra.rd _ _).tr f26).tr w45.2)⟩)
                        · exact absurd c51 (nI_nm1 (by have y := w45.1.2.2.1.2; omega))
                    · exact absurd c49 (by decide)
                · have hnop : ¬ gAdd (hdC ts1) = true := fun y => c22 (lv_3.mpr y)
                  exact mw_vret C hr hlk Z hP hS dX3_readLevel_90 (⟨xAf.gd (hsp.trans (gLoop_stop hnop)) hpo, fra⟩)
        exact lpa (161) a8 0 (ts7.length) ts7 cs6 u12 _ _ (by omega) (by omega) (Nat.le_refl _) (by have y := po9.2.2.2.2.2.2; omega) ((gLevel_g e5)) (po9) ((xPf.rf j σ).tr f4) hP hS ls (lv_sub hl [1, 2, 3, 4, 0] rfl)
      · rw [e5] at hx3
        have po9 : xPb u12 T j qq10 := hx3
        refine lv_iconst (v := 0) C.1 C.2.1 dX3_readLevel_49 (by decide) ?_
        refine lv_istore (lv' := [(4, .int 0), (0, .ref (mw_a E 33)), (1, .ref (mw_a E (39 + j))), (2, .int 3), (3, .int 3)]) C.1 C.2.1 dX3_readLevel_50 hl (by decide) rfl (fun ls hl => ?_)
        refine lv_iload C.1 C.2.1 dX3_readLevel_52 (lv_at hl 0 rfl) ?_
        refine lv_sipush (v := 160) C.1 C.2.1 dX3_readLevel_54 (by decide) ?_
        refine lv_icmp_ge (tgt := 128) C.1 C.2.1 dX3_readLevel_57 (by decide) (fun c52 => ?_) (fun c52 => ?_)
        · exact absurd c52 (by decide)
        · refine lv_aload_n C.1 C.2.1 dX3_readLevel_60 rfl (lv_at hl 1 rfl) ?_
          refine mw_geti C Z hP (33) 2 (by decide) sx_33 rfl rfl (by decide) inX3 tw_1_155 dX3_readLevel_61 ?_
          refine mw_top (y := nI qq10) (po9.2.2.1.1) ?_
          refine lv_iconst (v := -1) C.1 C.2.1 dX3_readLevel_64 (by decide) ?_
          refine lv_icmp_ne (tgt := 128) C.1 C.2.1 dX3_readLevel_65 (by decide) (fun c53 => ?_) (fun c53 => ?_)
          · exact mw_vret C hr hlk Z hP hS dX3_readLevel_128 (⟨xAf.bd ((gLevel_b e5)) po9, ((xPf.rf j σ).tr f4)⟩)
          · exact absurd c53 (nI_nm1 (by have y := po9.2.2.1.2; omega))
    · exact absurd c2 (by decide)
  · exact absurd c1 (by decide)

set_option maxHeartbeats 4000000 in
set_option maxRecDepth 100000 in
theorem cX_not3 (l : Launch) (E : mw_E) (σ : mw_M) (T : List (Nat × Nat)) (j : Nat) (hj : j < 6) (a : Nat) (ts : List (Nat × Nat)) (cs : List Nat) (B : Nat) (hB : B ≤ 160) (h : xPo σ T j a ts cs B) (h11 : hdC ts = 11) : mw_Cv shX 75 gX l yX3_readNot cX3_readNot 3 none (rmF 16 422) E [.ref (mw_a E 33), .ref (mw_a E (39 + j)), .int 3] σ (fun u => xAf T j B cs ((gD 2).2.1 ts) u ∧ xPf j σ u) := by
  refine mw_of (by decide) gX_ok (Nat.le_of_ble_eq_true rfl) ?_
  intro p_ e_ s_ m_ below meth c_ C hr hlk Z hP ls hl
  have C : CallFix p_ m_ c_ cX3_readNot 3 s_ _ lw_good RX3 := C
  have hl : lv_has ls 3 [(0, .ref (mw_a E 33)), (1, .ref (mw_a E (39 + j))), (2, .int 3)] := hl
  have hS : va_S (mw_A 75 E) s_.heap s_.heap [] := va_S.rf
  have hlt : hdC ts < 20000 := by have y := (h.1.lt a).1; rw [h.2.1] at y; exact y
  have hne : hdC ts ≠ 21 := by omega
  refine lv_aload_n C.1 C.2.1 dX3_readNot_0 rfl (lv_at hl 0 rfl) ?_
  refine mw_geti C Z hP (33) 2 (by decide) sx_33 rfl rfl (by decide) inX3 tw_1_155 dX3_readNot_1 ?_
  refine mw_top (y := -1) (h.2.2.2.2.1) ?_
  refine lv_iconst (v := -1) C.1 C.2.1 dX3_readNot_4 (by decide) ?_
  refine lv_icmp_ne (tgt := 13) C.1 C.2.1 dX3_readNot_5 (by decide) (fun c1 => ?_) (fun c1 => ?_)
  · exact absurd c1 (by decide)
  · refine lv_iload_n C.1 C.2.1 dX3_readNot_8 rfl (lv_at hl 2 rfl) ?_
    refine lv_iconst (v := 5) C.1 C.2.1 dX3_readNot_9 (by decide) ?_
    refine lv_icmp_lt (tgt := 18) C.1 C.2.1 dX3_readNot_10 (by decide) (fun c2 => ?_) (fun c2 => ?_)
    · refine lv_aload_n C.1 C.2.1 dX3_readNot_18 rfl (lv_at hl 0 rfl) ?_
      refine lv_dup C.1 C.2.1 dX3_readNot_19 rfl ?_
      refine mw_geti C Z hP (33) 1 (by decide) sx_33 rfl rfl (by decide) inX3 tw_1_154 dX3_readNot_20 ?_
      refine mw_top (y := nI a) (h.2.2.2.1) ?_
      refine lv_iconst (v := 1) C.1 C.2.1 dX3_readNot_23 (by decide) ?_
      refine lv_iadd C.1 C.2.1 dX3_readNot_24 ?_
      refine mw_top (y := nI (a + 1)) (nI_1 _) ?_
      refine mw_puti C Z hP hS (33) 1 (by decide) sx_33 rfl rfl (by decide) inX3 tyX3 tyX3_ok nmX3 rfl tw_1_154 rfl rfl dX3_readNot_25 (fun H locs hP hS => ?_)
      have pn3 := h.next hj hne
      have hb4 := pn3.2
      refine lv_aload_n C.1 C.2.1 dX3_readNot_28 rfl (lv_at hl 0 rfl) ?_
      refine lv_aload_n C.1 C.2.1 dX3_readNot_29 rfl (lv_at hl 1 rfl) ?_
      refine lv_iconst (v := 2) C.1 C.2.1 dX3_readNot_30 (by decide) ?_
      refine lv_iload_n C.1 C.2.1 dX3_readNot_31 rfl (lv_at hl 2 rfl) ?_
      refine lv_iconst (v := 1) C.1 C.2.1 dX3_readNot_32 (by decide) ?_
      refine lv_iadd C.1 C.2.1 dX3_readNot_33 ?_
      refine mw_top (y := 4) (by decide) ?_
      refine mw_cVv (As := [.ref (mw_a E (39 + j)), .int 2, .int 4]) (rest := []) C Z hP hS (33) (cX_l2_4 l E (mw_si σ 33 1 (nI (a + 1))) T j hj (a + 1) (ts.tail) cs (B - 1) (by omega) pn3.1) vb_X3_readLevel tw_2_216 ⟨rfl, rfl⟩ ⟨Nat.le_of_ble_eq_true rfl, Nat.le_of_ble_eq_true rfl⟩ (by decide) sx_33 rfl rfl rfl hl.1 rfl (Nat.le_of_ble_eq_true rfl) dX3_readNot_34 ⟨Nat.zero_le _, Nat.zero_le _⟩ (fun u14 H locs q15 hP hS => ?_)
      obtain ⟨hx5, f6⟩ := q15
      rcases e7 : (gD 1).2.1 (ts.tail) with ⟨cs8, ts9⟩ | qq12
      · rw [e7] at hx5
        obtain ⟨a10, po11⟩ := hx5
        have po11 : xPo u14 T j a10 ts9 (cs ++ cs8) (B - 1) := po11
        refine lv_aload_n C.1 C.2.1 dX3_readNot_37 rfl (lv_at hl 1 rfl) ?_
        refine lv_bipush (v := 11) C.1 C.2.1 dX3_readNot_38 (by decide) ?_
        refine mw_top (y := nI 11) (rfl) ?_
        refine mw_cVv (As := [.int (nI 11)]) (rest := []) C Z hP hS (39 + j) (cX_add l E u14 j hj ((cs ++ cs8)).length po11.2.2.2.2.2.1.1 (by have y := po11.2.2.2.2.2.2; omega) (nI 11)) vb_X8_add tw_2_224 ⟨rfl, rfl⟩ ⟨Nat.le_of_ble_eq_true rfl, Nat.le_of_ble_eq_true rfl⟩ (by omega) (sx_tx (by omega)) rfl rfl rfl hl.1 rfl (Nat.le_of_ble_eq_true rfl) dX3_readNot_40 ⟨Nat.zero_le _, Nat.zero_le _⟩ (fun u17 H locs q18 hP hS => ?_)
        have e19 := q18.1 (by have y := po11.2.2.2.2.2.2; omega)
        subst e19
        have po20 := (po11.add hj 11).wk (C := B) (by omega)
        exact mw_vret C hr hlk Z hP hS dX3_readNot_43 (⟨xAf.gd ((congrFun gN_2 ts).trans (gNot_t1 h11 e7)) (by rw [← List.append_assoc]; exact po20), ((((xPf.rf j σ).rd _ _).tr f6).ad _ _ _)⟩)
      · rw [e7] at hx5
        have po11 : xPb u14 T j qq12 := hx5
        refine lv_aload_n C.1 C.2.1 dX3_readNot_37 rfl (lv_at hl 1 rfl) ?_
        refine lv_bipush (v := 11) C.1 C.2.1 dX3_readNot_38 (by decide) ?_
        refine mw_top (y := nI 11) (rfl) ?_
        obtain ⟨k21, hk22, ek23⟩ := po11.2.2.2
        refine mw_cVv (As := [.int (nI 11)]) (rest := []) C Z hP hS (39 + j) (cX_add l E u14 j hj k21 ek23 hk22 (nI 11)) vb_X8_add tw_2_224 ⟨rfl, rfl⟩ ⟨Nat.le_of_ble_eq_true rfl, Nat.le_of_ble_eq_true rfl⟩ (by omega) (sx_tx (by omega)) rfl rfl rfl hl.1 rfl (Nat.le_of_ble_eq_true rfl) dX3_readNot_40 ⟨Nat.zero_le _, Nat.zero_le _⟩ (fun u26 H locs q27 hP hS => ?_)
        have w24 := xPb.add po11 hj hk22 q27
        exact mw_vret C hr hlk Z hP hS dX3_readNot_43 (⟨xAf.bd ((congrFun gN_2 ts).trans (gNot_t2 h11 e7)) w24.1, ((((xPf.rf j σ).rd _ _).tr f6).tr w24.2)⟩)
    · exact absurd c2 (by decide)

set_option maxHeartbeats 4000000 in
set_option maxRecDepth 100000 in
theorem cX_l2_3 (l : Launch) (E : mw_E) (σ : mw_M) (T : List (Nat × Nat)) (j : Nat) (hj : j < 6) (a : Nat) (ts : List (Nat × Nat)) (cs : List Nat) (B : Nat) (hB : B ≤ 160) (h : xPo σ T j a ts cs B) : mw_Cv shX 75 gX l yX3_readLevel cX3_readLevel 6 none (rmF 22 570) E [.ref (mw_a E 33), .ref (mw_a E (39 + j)), .int 2, .int 3] σ (fun u => xAf T j B cs ((gD 2).2.1 ts) u ∧ xPf j σ u) := by
  refine mw_of (by decide) gX_ok (Nat.le_of_ble_eq_true rfl) ?_
  intro p_ e_ s_ m_ below meth c_ C hr hlk Z hP ls hl
  have C : CallFix p_ m_ c_ cX3_readLevel 6 s_ _ lw_good RX3 := C
  have hl : lv_has ls 6 [(0, .ref (mw_a E 33)), (1, .ref (mw_a E (39 + j))), (2, .int 2), (3, .int 3)] := hl
  have hS : va_S (mw_A 75 E) s_.heap s_.heap [] := va_S.rf
  have hlt : hdC ts < 20000 := by have y := (h.1.lt a).1; rw [h.2.1] at y; exact y
  refine lv_iload_n C.1 C.2.1 dX3_readLevel_0 rfl (lv_at hl 2 rfl) ?_
  refine lv_iconst (v := 4) C.1 C.2.1 dX3_readLevel_1 (by decide) ?_
  refine lv_icmp_le (tgt := 12) C.1 C.2.1 dX3_readLevel_2 (by decide) (fun c1 => ?_) (fun c1 => ?_)
  · refine lv_iload_n C.1 C.2.1 dX3_readLevel_12 rfl (lv_at hl 2 rfl) ?_
    refine lv_iconst (v := 2) C.1 C.2.1 dX3_readLevel_13 (by decide) ?_
    refine lv_icmp_ne (tgt := 40) C.1 C.2.1 dX3_readLevel_14 (by decide) (fun c2 => ?_) (fun c2 => ?_)
    · exact absurd c2 (by decide)
    · refine lv_aload_n C.1 C.2.1 dX3_readLevel_17 rfl (lv_at hl 0 rfl) ?_
      refine mw_getr C Z hP (33) 0 (34) (by decide) sx_33 rfl rfl (by decide) inX3 tw_1_153 dX3_readLevel_18 ?_
      refine lv_aload_n C.1 C.2.1 dX3_readLevel_21 rfl (lv_at hl 0 rfl) ?_
      refine mw_geti C Z hP (33) 1 (by decide) sx_33 rfl rfl (by decide) inX3 tw_1_154 dX3_readLevel_22 ?_
      refine mw_top (y := nI a) (h.2.2.2.1) ?_
      refine mw_cVi (As := [.int (nI a)]) (rest := []) C Z hP hS (34) (cX_tokenAt l E σ T.length h.1.2.1 h.1.1 a (by have y1 := h.1.1; have y2 := h.2.2.1; omega)) vb_X10_tokenAt tw_2_204 ⟨rfl, rfl⟩ ⟨Nat.le_of_ble_eq_true rfl, Nat.le_of_ble_eq_true rfl⟩ (by decide) sx_34 rfl rfl rfl hl.1 rfl (Nat.le_of_ble_eq_true rfl) dX3_readLevel_25 ⟨Nat.zero_le _, Nat.zero_le _⟩ (fun r3 u4 H locs q5 hP hS => ?_)
      rw [(h.1.tok a).1, h.2.1] at q5
      obtain ⟨rfl, q5u⟩ := q5
      rw [q5u] at hP; clear q5u
      refine lv_bipush (v := 11) C.1 C.2.1 dX3_readLevel_28 (by decide) ?_
      refine lv_icmp_ne (tgt := 40) C.1 C.2.1 dX3_readLevel_30 (by decide) (fun c6 => ?_) (fun c6 => ?_)
      · have hn11 : ¬ hdC ts = 11 := fun y => c6 (by rw [y]; rfl)
        refine lv_aload_n C.1 C.2.1 dX3_readLevel_40 rfl (lv_at hl 0 rfl) ?_
        refine lv_aload_n C.1 C.2.1 dX3_readLevel_41 rfl (lv_at hl 1 rfl) ?_
        refine lv_iload_n C.1 C.2.1 dX3_readLevel_42 rfl (lv_at hl 2 rfl) ?_
        refine lv_iconst (v := 1) C.1 C.2.1 dX3_readLevel_43 (by decide) ?_
        refine lv_iadd C.1 C.2.1 dX3_readLevel_44 ?_
        refine mw_top (y := 3) (by decide) ?_
        refine lv_iload_n C.1 C.2.1 dX3_readLevel_45 rfl (lv_at hl 3 rfl) ?_
        refine mw_cVv (As := [.ref (mw_a E (39 + j)), .int 3, .int 3]) (rest := []) C Z hP hS (33) (cX_l3_3 l E σ T j hj a ts cs B (by omega) h) vb_X3_readLevel tw_2_216 ⟨rfl, rfl⟩ ⟨Nat.le_of_ble_eq_true rfl, Nat.le_of_ble_eq_true rfl⟩ (by decide) sx_33 rfl rfl rfl hl.1 rfl (Nat.le_of_ble_eq_true rfl) dX3_readLevel_46 ⟨Nat.zero_le _, Nat.zero_le _⟩ (fun u16 H locs q17 hP hS => ?_)
        obtain ⟨hx7, f8⟩ := q17
        rcases e9 : (gLevel gAdd (gLevel gTim (gD 2).1)) ts with ⟨cs10, ts11⟩ | qq14
        · rw [e9] at hx7
          obtain ⟨a12, po13⟩ := hx7
          have po13 : xPo u16 T j a12 ts11 (cs ++ cs10) B := po13
          refine lv_iconst (v := 0) C.1 C.2.1 dX3_readLevel_49 (by decide) ?_
          refine lv_istore (lv' := [(4, .int 0), (0, .ref (mw_a E 33)), (1, .ref (mw_a E (39 + j))), (2, .int 2), (3, .int 3)]) C.1 C.2.1 dX3_readLevel_50 hl (by decide) rfl (fun ls hl => ?_)
          refine lv_iload C.1 C.2.1 dX3_readLevel_52 (lv_at hl 0 rfl) ?_
          refine lv_sipush (v := 160) C.1 C.2.1 dX3_readLevel_54 (by decide) ?_
          refine lv_icmp_ge (tgt := 128) C.1 C.2.1 dX3_readLevel_57 (by decide) (fun c18 => ?_) (fun c18 => ?_)
          · exact absurd c18 (by decide)
          · refine lv_aload_n C.1 C.2.1 dX3_readLevel_60 rfl (lv_at hl 1 rfl) ?_
            refine mw_geti C Z hP (33) 2 (by decide) sx_33 rfl rfl (by decide) inX3 tw_1_155 dX3_readLevel_61 ?_
            refine mw_top (y := -1) (po13.2.2.2.2.1) ?_
            refine lv_iconst (v := -1) C.1 C.2.1 dX3_readLevel_64 (by decide) ?_
            refine lv_icmp_ne (tgt := 128) C.1 C.2.1 dX3_readLevel_65 (by decide) (fun c19 => ?_) (fun c19 => ?_)
            · exact absurd c19 (by decide)
            · refine lv_aload_n C.1 C.2.1 dX3_readLevel_68 rfl (lv_at hl 1 rfl) ?_
              refine mw_getr C Z hP (33) 0 (34) (by decide) sx_33 rfl rfl (by decide) inX3 tw_1_153 dX3_readLevel_69 ?_
              refine lv_aload_n C.1 C.2.1 dX3_readLevel_72 rfl (lv_at hl 1 rfl) ?_
              refine mw_geti C Z hP (33) 1 (by decide) sx_33 rfl rfl (by decide) inX3 tw_1_154 dX3_readLevel_73 ?_
              refine mw_top (y := nI a12) (po13.2.2.2.1) ?_
              refine mw_cVi (As := [.int (nI a12)]) (rest := []) C Z hP hS (34) (cX_tokenAt l E u16 T.length po13.1.2.1 po13.1.1 a12 (by have y1 := po13.1.1; have y2 := po13.2.2.1; omega)) vb_X10_tokenAt tw_2_204 ⟨rfl, rfl⟩ ⟨Nat.le_of_ble_eq_true rfl, Nat.le_of_ble_eq_true rfl⟩ (by decide) sx_34 rfl rfl rfl hl.1 rfl (Nat.le_of_ble_eq_true rfl) dX3_readLevel_76 ⟨Nat.zero_le _, Nat.zero_le _⟩ (fun r20 u21 H locs q22 hP hS => ?_)
              rw [(po13.1.tok a12).1, po13.2.1] at q22
              obtain ⟨rfl, q22u⟩ := q22
              rw [q22u] at hP; clear q22u
              refine lv_istore (lv' := [(5, .int (nI (hdC ts11))), (4, .int 0), (0, .ref (mw_a E 33)), (1, .ref (mw_a E (39 + j))), (2, .int 2), (3, .int 3)]) C.1 C.2.1 dX3_readLevel_79 hl (by decide) rfl (fun ls hl => ?_)
              refine lv_iload C.1 C.2.1 dX3_readLevel_81 (lv_at hl 0 rfl) ?_
              refine mw_cSi (As := [.int (nI (hdC ts11))]) (rest := []) C Z hP hS (cX_levelOf l E u16 (hdC ts11) (by have y := (po13.1.lt a12).1; rw [po13.2.1] at y; omega)) sb_X3_levelOf tw_2_232 ⟨rfl, rfl⟩ ⟨Nat.le_of_ble_eq_true rfl, Nat.le_of_ble_eq_true rfl⟩ rfl hl.1 rfl (Nat.le_of_ble_eq_true rfl) dX3_readLevel_83 ⟨Nat.zero_le _, Nat.zero_le _⟩ (fun r23 u24 H locs q25 hP hS => ?_)
              obtain ⟨rfl, q25u⟩ := q25
              rw [q25u] at hP; clear q25u
              refine lv_iload_n C.1 C.2.1 dX3_readLevel_86 rfl (lv_at hl 4 rfl) ?_
              refine lv_icmp_eq (tgt := 91) C.1 C.2.1 dX3_readLevel_87 (by decide) (fun c26 => ?_) (fun c26 => ?_)
              · have hop := lv_2.mp c26
                have hne : hdC ts11 ≠ 21 := lv_21 c26 (by decide)
                refine lv_aload_n C.1 C.2.1 dX3_readLevel_91 rfl (lv_at hl 2 rfl) ?_
                refine lv_dup C.1 C.2.1 dX3_readLevel_92 rfl ?_
                refine mw_geti C Z hP (33) 1 (by decide) sx_33 rfl rfl (by decide) inX3 tw_1_154 dX3_readLevel_93 ?_
                refine mw_top (y := nI a12) (po13.2.2.2.1) ?_
                refine lv_iconst (v := 1) C.1 C.2.1 dX3_readLevel_96 (by decide) ?_
                refine lv_iadd C.1 C.2.1 dX3_readLevel_97 ?_
                refine mw_top (y := nI (a12 + 1)) (nI_1 _) ?_
                refine mw_puti C Z hP hS (33) 1 (by decide) sx_33 rfl rfl (by decide) inX3 tyX3 tyX3_ok nmX3 rfl tw_1_154 rfl rfl dX3_readLevel_98 (fun H locs hP hS => ?_)
                have pn27 := po13.next hj hne
                have hb28 := pn27.2
                refine lv_aload_n C.1 C.2.1 dX3_readLevel_101 rfl (lv_at hl 2 rfl) ?_
                refine lv_aload_n C.1 C.2.1 dX3_readLevel_102 rfl (lv_at hl 3 rfl) ?_
                refine lv_iload_n C.1 C.2.1 dX3_readLevel_103 rfl (lv_at hl 4 rfl) ?_
                refine lv_iconst (v := 1) C.1 C.2.1 dX3_readLevel_104 (by decide) ?_
                refine lv_iadd C.1 C.2.1 dX3_readLevel_105 ?_
                refine mw_top (y := 3) (by decide) ?_
                refine lv_iload_n C.1 C.2.1 dX3_readLevel_106 rfl (lv_at hl 5 rfl) ?_
                refine mw_cVv (As := [.ref (mw_a E (39 + j)), .int 3, .int 3]) (rest := []) C Z hP hS (33) (cX_l3_3 l E (mw_si u16 33 1 (nI (a12 + 1))) T j hj (a12 + 1) (ts11.tail) ((cs ++ cs10)) (B - 1) (by omega) pn27.1) vb_X3_readLevel tw_2_216 ⟨rfl, rfl⟩ ⟨Nat.le_of_ble_eq_true rfl, Nat.le_of_ble_eq_true rfl⟩ (by decide) sx_33 rfl rfl rfl hl.1 rfl (Nat.le_of_ble_eq_true rfl) dX3_readLevel_107 ⟨Nat.zero_le _, Nat.zero_le _⟩ (fun u38 H locs q39 hP hS => ?_)
                obtain ⟨hx29, f30⟩ := q39
                rcases e31 : (gLevel gAdd (gLevel gTim (gD 2).1)) (ts11.tail) with ⟨cs32, ts33⟩ | qq36
                · rw [e31] at hx29
                  obtain ⟨a34, po35⟩ := hx29
                  have po35 : xPo u38 T j a34 ts33 ((cs ++ cs10) ++ cs32) (B - 1) := po35
                  refine lv_aload_n C.1 C.2.1 dX3_readLevel_110 rfl (lv_at hl 3 rfl) ?_
                  refine lv_iload C.1 C.2.1 dX3_readLevel_111 (lv_at hl 0 rfl) ?_
                  refine mw_cVv (As := [.int (nI (hdC ts11))]) (rest := []) C Z hP hS (39 + j) (cX_add l E u38 j hj (((cs ++ cs10) ++ cs32)).length po35.2.2.2.2.2.1.1 (by have y := po35.2.2.2.2.2.2; omega) (nI (hdC ts11))) vb_X8_add tw_2_224 ⟨rfl, rfl⟩ ⟨Nat.le_of_ble_eq_true rfl, Nat.le_of_ble_eq_true rfl⟩ (by omega) (sx_tx (by omega)) rfl rfl rfl hl.1 rfl (Nat.le_of_ble_eq_true rfl) dX3_readLevel_113 ⟨Nat.zero_le _, Nat.zero_le _⟩ (fun u41 H locs q42 hP hS => ?_)
                  have e43 := q42.1 (by have y := po35.2.2.2.2.2.2; omega)
                  subst e43
                  have po44 := (po35.add hj (hdC ts11)).wk (C := B) (by omega)
                  refine lv_iload_n C.1 C.2.1 dX3_readLevel_116 rfl (lv_at hl 4 rfl) ?_
                  refine lv_iconst (v := 2) C.1 C.2.1 dX3_readLevel_117 (by decide) ?_
                  refine lv_icmp_ne (tgt := 122) C.1 C.2.1 dX3_readLevel_118 (by decide) (fun c45 => ?_) (fun c45 => ?_)
                  · exact absurd c45 (by decide)
                  · exact mw_vret C hr hlk Z hP hS dX3_readLevel_121 (⟨xAf.gd (((congrFun gN_2 ts).trans (gNot_f rfl hn11)).trans (gCmp_g1 e9 hop e31)) (by rw [← List.append_assoc]; rw [← List.append_assoc]; exact po44), (((((xPf.rf j σ).tr f8).rd _ _).tr f30).ad _ _ _)⟩)
                · rw [e31] at hx29
                  have po35 : xPb u38 T j qq36 := hx29
                  refine lv_aload_n C.1 C.2.1 dX3_readLevel_110 rfl (lv_at hl 3 rfl) ?_
                  refine lv_iload C.1 C.2.1 dX3_readLevel_111 (lv_at hl 0 rfl) ?_
                  obtain ⟨k46, hk47, ek48⟩ := po35.2.2.2
                  refine mw_cVv (As := [.int (nI (hdC ts11))]) (rest := []) C Z hP hS (39 + j) (cX_add l E u38 j hj k46 ek48 hk47 (nI (hdC ts11))) vb_X8_add tw_2_224 ⟨rfl, rfl⟩ ⟨Nat.le_of_ble_eq_true rfl, Nat.le_of_ble_eq_true rfl⟩ (by omega) (sx_tx (by omega)) rfl rfl rfl hl.1 rfl (Nat.le_of_ble_eq_true rfl) dX3_readLevel_113 ⟨Nat.zero_le _, Nat.zero_le _⟩ (fun u51 H locs q52 hP hS => ?_)
                  have w49 := xPb.add po35 hj hk47 q52
                  refine lv_iload_n C.1 C.2.1 dX3_readLevel_116 rfl (lv_at hl 4 rfl) ?_
                  refine lv_iconst (v := 2) C.1 C.2.1 dX3_readLevel_117 (by decide) ?_
                  refine lv_icmp_ne (tgt := 122) C.1 C.2.1 dX3_readLevel_118 (by decide) (fun c53 => ?_) (fun c53 => ?_)
                  · exact absurd c53 (by decide)
                  · exact mw_vret C hr hlk Z hP hS dX3_readLevel_121 (⟨xAf.bd (((congrFun gN_2 ts).trans (gNot_f rfl hn11)).trans (gCmp_g2 e9 hop e31)) w49.1, (((((xPf.rf j σ).tr f8).rd _ _).tr f30).tr w49.2)⟩)
              · have hnop : ¬ (hdC ts11 = 18 ∨ hdC ts11 = 19) := fun y => c26 (lv_2.mpr y)
                exact mw_vret C hr hlk Z hP hS dX3_readLevel_90 (⟨xAf.gd (((congrFun gN_2 ts).trans (gNot_f rfl hn11)).trans (gCmp_stop e9 hnop)) po13, ((xPf.rf j σ).tr f8)⟩)
        · rw [e9] at hx7
          have po13 : xPb u16 T j qq14 := hx7
          refine lv_iconst (v := 0) C.1 C.2.1 dX3_readLevel_49 (by decide) ?_
          refine lv_istore (lv' := [(4, .int 0), (0, .ref (mw_a E 33)), (1, .ref (mw_a E (39 + j))), (2, .int 2), (3, .int 3)]) C.1 C.2.1 dX3_readLevel_50 hl (by decide) rfl (fun ls hl => ?_)
          refine lv_iload C.1 C.2.1 dX3_readLevel_52 (lv_at hl 0 rfl) ?_
          refine lv_sipush (v := 160) C.1 C.2.1 dX3_readLevel_54 (by decide) ?_
          refine lv_icmp_ge (tgt := 128) C.1 C.2.1 dX3_readLevel_57 (by decide) (fun c54 => ?_) (fun c54 => ?_)
          · exact absurd c54 (by decide)
          · refine lv_aload_n C.1 C.2.1 dX3_readLevel_60 rfl (lv_at hl 1 rfl) ?_
            refine mw_geti C Z hP (33) 2 (by decide) sx_33 rfl rfl (by decide) inX3 tw_1_155 dX3_readLevel_61 ?_
            refine mw_top (y := nI qq14) (po13.2.2.1.1) ?_
            refine lv_iconst (v := -1) C.1 C.2.1 dX3_readLevel_64 (by decide) ?_
            refine lv_icmp_ne (tgt := 128) C.1 C.2.1 dX3_readLevel_65 (by decide) (fun c55 => ?_) (fun c55 => ?_)
            · exact mw_vret C hr hlk Z hP hS dX3_readLevel_128 (⟨xAf.bd (((congrFun gN_2 ts).trans (gNot_f rfl hn11)).trans (gCmp_b e9)) po13, ((xPf.rf j σ).tr f8)⟩)
            · exact absurd c55 (nI_nm1 (by have y := po13.2.2.1.2; omega))
      · have h11 : hdC ts = 11 := nI_eqI (b := 11) (by omega) (by decide) c6
        refine lv_aload_n C.1 C.2.1 dX3_readLevel_33 rfl (lv_at hl 0 rfl) ?_
        refine lv_aload_n C.1 C.2.1 dX3_readLevel_34 rfl (lv_at hl 1 rfl) ?_
        refine lv_iload_n C.1 C.2.1 dX3_readLevel_35 rfl (lv_at hl 3 rfl) ?_
        refine mw_cVv (As := [.ref (mw_a E (39 + j)), .int 3]) (rest := []) C Z hP hS (33) (cX_not3 l E σ T j hj a ts cs B (by omega) h h11) vb_X3_readNot tw_2_228 ⟨rfl, rfl⟩ ⟨Nat.le_of_ble_eq_true rfl, Nat.le_of_ble_eq_true rfl⟩ (by decide) sx_33 rfl rfl rfl hl.1 rfl (Nat.le_of_ble_eq_true rfl) dX3_readLevel_36 ⟨Nat.zero_le _, Nat.zero_le _⟩ (fun u65 H locs q66 hP hS => ?_)
        obtain ⟨hx56, f57⟩ := q66
        rcases e58 : (gD 2).2.1 ts with ⟨cs59, ts60⟩ | qq63
        · rw [e58] at hx56
          obtain ⟨a61, po62⟩ := hx56
          have po62 : xPo u65 T j a61 ts60 (cs ++ cs59) B := po62
          exact mw_vret C hr hlk Z hP hS dX3_readLevel_39 (⟨xAf.gd rfl po62, ((xPf.rf j σ).tr f57)⟩)
        · rw [e58] at hx56
          have po62 : xPb u65 T j qq63 := hx56
          exact mw_vret C hr hlk Z hP hS dX3_readLevel_39 (⟨xAf.bd rfl po62, ((xPf.rf j σ).tr f57)⟩)
  · exact absurd c1 (by decide)

set_option maxHeartbeats 4000000 in
set_option maxRecDepth 100000 in
theorem cX_l1_3 (l : Launch) (E : mw_E) (σ : mw_M) (T : List (Nat × Nat)) (j : Nat) (hj : j < 6) (a : Nat) (ts : List (Nat × Nat)) (cs : List Nat) (B : Nat) (hB : B ≤ 160) (h : xPo σ T j a ts cs B) : mw_Cv shX 75 gX l yX3_readLevel cX3_readLevel 6 none (rmF 23 595) E [.ref (mw_a E 33), .ref (mw_a E (39 + j)), .int 1, .int 3] σ (fun u => xAf T j B cs ((gLevel gAnd (gD 2).2.1) ts) u ∧ xPf j σ u) := by
  refine mw_of (by decide) gX_ok (Nat.le_of_ble_eq_true rfl) ?_
  intro p_ e_ s_ m_ below meth c_ C hr hlk Z hP ls hl
  have C : CallFix p_ m_ c_ cX3_readLevel 6 s_ _ lw_good RX3 := C
  have hl : lv_has ls 6 [(0, .ref (mw_a E 33)), (1, .ref (mw_a E (39 + j))), (2, .int 1), (3, .int 3)] := hl
  have hS : va_S (mw_A 75 E) s_.heap s_.heap [] := va_S.rf
  have hlt : hdC ts < 20000 := by have y := (h.1.lt a).1; rw [h.2.1] at y; exact y
  refine lv_iload_n C.1 C.2.1 dX3_readLevel_0 rfl (lv_at hl 2 rfl) ?_
  refine lv_iconst (v := 4) C.1 C.2.1 dX3_readLevel_1 (by decide) ?_
  refine lv_icmp_le (tgt := 12) C.1 C.2.1 dX3_readLevel_2 (by decide) (fun c1 => ?_) (fun c1 => ?_)
  · refine lv_iload_n C.1 C.2.1 dX3_readLevel_12 rfl (lv_at hl 2 rfl) ?_
    refine lv_iconst (v := 2) C.1 C.2.1 dX3_readLevel_13 (by decide) ?_
    refine lv_icmp_ne (tgt := 40) C.1 C.2.1 dX3_readLevel_14 (by decide) (fun c2 => ?_) (fun c2 => ?_)
    · refine lv_aload_n C.1 C.2.1 dX3_readLevel_40 rfl (lv_at hl 0 rfl) ?_
      refine lv_aload_n C.1 C.2.1 dX3_readLevel_41 rfl (lv_at hl 1 rfl) ?_
      refine lv_iload_n C.1 C.2.1 dX3_readLevel_42 rfl (lv_at hl 2 rfl) ?_
      refine lv_iconst (v := 1) C.1 C.2.1 dX3_readLevel_43 (by decide) ?_
      refine lv_iadd C.1 C.2.1 dX3_readLevel_44 ?_
      refine mw_top (y := 2) (by decide) ?_
      refine lv_iload_n C.1 C.2.1 dX3_readLevel_45 rfl (lv_at hl 3 rfl) ?_
      refine mw_cVv (As := [.ref (mw_a E (39 + j)), .int 2, .int 3]) (rest := []) C Z hP hS (33) (cX_l2_3 l E σ T j hj a ts cs B (by omega) h) vb_X3_readLevel tw_2_216 ⟨rfl, rfl⟩ ⟨Nat.le_of_ble_eq_true rfl, Nat.le_of_ble_eq_true rfl⟩ (by decide) sx_33 rfl rfl rfl hl.1 rfl (Nat.le_of_ble_eq_true rfl) dX3_readLevel_46 ⟨Nat.zero_le _, Nat.zero_le _⟩ (fun u12 H locs q13 hP hS => ?_)
      obtain ⟨hx3, f4⟩ := q13
      rcases e5 : (gD 2).2.1 ts with ⟨cs6, ts7⟩ | qq10
      · rw [e5] at hx3
        obtain ⟨a8, po9⟩ := hx3
        have po9 : xPo u12 T j a8 ts7 (cs ++ cs6) B := po9
        refine lv_iconst (v := 0) C.1 C.2.1 dX3_readLevel_49 (by decide) ?_
        refine lv_istore (lv' := [(4, .int 0), (0, .ref (mw_a E 33)), (1, .ref (mw_a E (39 + j))), (2, .int 1), (3, .int 3)]) C.1 C.2.1 dX3_readLevel_50 hl (by decide) rfl (fun ls hl => ?_)
        have lpa : ∀ (N : Nat) (a1 : Nat) (t : Nat) (f : Nat) (ts1 : List (Nat × Nat)) (cs1 : List Nat) (ςa : mw_M) (H : Heap) (locs : List Loc), 161 ≤ t + N → (t ≤ 160) → (ts1.length ≤ f) → (t + ts1.length ≤ 160) → ((gLevel gAnd (gD 2).2.1) ts = gLoop gAnd (gD 2).2.1 f cs1 ts1) → (xPo ςa T j a1 ts1 (cs ++ cs1) B) → xPf j σ ςa → va_P (mw_D E) vwCl (mw_ws shX 75 E ςa) H → va_S (mw_A 75 E) s_.heap H locs → ∀ (ls : Array Slot), lv_has ls 6 [(0, .ref (mw_a E 33)), (1, .ref (mw_a E (39 + j))), (2, .int 1), (3, .int 3), (4, .int (nI t))] → xWv p_ l e_ (rmF 23 595) s_ m_ [.ref (mw_a E 33), .ref (mw_a E (39 + j)), .int 1, .int 3] below meth c_ E (fun u => xAf T j B cs ((gLevel gAnd (gD 2).2.1) ts) u ∧ xPf j σ u) H locs (F0 m_ 52 ls []) := by
          intro N
          induction N with
          | zero => intros; exfalso; omega
          | succ N iha =>
            intro a1 t f ts1 cs1 ςa H locs hNa ht hf htl hsp hpo fra hP hS ls hl
            refine lv_iload C.1 C.2.1 dX3_readLevel_52 (lv_at hl 4 rfl) ?_
            refine lv_sipush (v := 160) C.1 C.2.1 dX3_readLevel_54 (by decide) ?_
            refine lv_icmp_ge (tgt := 128) C.1 C.2.1 dX3_readLevel_57 (by decide) (fun c14 => ?_) (fun c14 => ?_)
            · have c14 := (nI_leI (a := 160) (by decide) (by omega)).mp c14
              have e0 : ts1 = [] := List.eq_nil_of_length_eq_zero (by omega)
              exact mw_vret C hr hlk Z hP hS dX3_readLevel_128 (⟨xAf.gd (hsp.trans (gLoop_stop (by rw [e0]; decide))) hpo, fra⟩)
            · have c14 := (not_congr (nI_leI (a := 160) (by decide) (by omega))).mp c14
              refine lv_aload_n C.1 C.2.1 dX3_readLevel_60 rfl (lv_at hl 0 rfl) ?_
              refine mw_geti C Z hP (33) 2 (by decide) sx_33 rfl rfl (by decide) inX3 tw_1_155 dX3_readLevel_61 ?_
              refine mw_top (y := -1) (hpo.2.2.2.2.1) ?_
              refine lv_iconst (v := -1) C.1 C.2.1 dX3_readLevel_64 (by decide) ?_
              refine lv_icmp_ne (tgt := 128) C.1 C.2.1 dX3_readLevel_65 (by decide) (fun c15 => ?_) (fun c15 => ?_)
              · exact absurd c15 (by decide)
              · refine lv_aload_n C.1 C.2.1 dX3_readLevel_68 rfl (lv_at hl 0 rfl) ?_
                refine mw_getr C Z hP (33) 0 (34) (by decide) sx_33 rfl rfl (by decide) inX3 tw_1_153 dX3_readLevel_69 ?_
                refine lv_aload_n C.1 C.2.1 dX3_readLevel_72 rfl (lv_at hl 0 rfl) ?_
                refine mw_geti C Z hP (33) 1 (by decide) sx_33 rfl rfl (by decide) inX3 tw_1_154 dX3_readLevel_73 ?_
                refine mw_top (y := nI a1) (hpo.2.2.2.1) ?_
                refine mw_cVi (As := [.int (nI a1)]) (rest := []) C Z hP hS (34) (cX_tokenAt l E ςa T.length hpo.1.2.1 hpo.1.1 a1 (by have y1 := hpo.1.1; have y2 := hpo.2.2.1; omega)) vb_X10_tokenAt tw_2_204 ⟨rfl, rfl⟩ ⟨Nat.le_of_ble_eq_true rfl, Nat.le_of_ble_eq_true rfl⟩ (by decide) sx_34 rfl rfl rfl hl.1 rfl (Nat.le_of_ble_eq_true rfl) dX3_readLevel_76 ⟨Nat.zero_le _, Nat.zero_le _⟩ (fun r16 u17 H locs q18 hP hS => ?_)
                rw [(hpo.1.tok a1).1, hpo.2.1] at q18
                obtain ⟨rfl, q18u⟩ := q18
                rw [q18u] at hP; clear q18u
                refine lv_istore (lv' := [(5, .int (nI (hdC ts1))), (0, .ref (mw_a E 33)), (1, .ref (mw_a E (39 + j))), (2, .int 1), (3, .int 3), (4, .int (nI t))]) C.1 C.2.1 dX3_readLevel_79 hl (by decide) rfl (fun ls hl => ?_)
                refine lv_iload C.1 C.2.1 dX3_readLevel_81 (lv_at hl 0 rfl) ?_
                refine mw_cSi (As := [.int (nI (hdC ts1))]) (rest := []) C Z hP hS (cX_levelOf l E ςa (hdC ts1) (by have y := (hpo.1.lt a1).1; rw [hpo.2.1] at y; omega)) sb_X3_levelOf tw_2_232 ⟨rfl, rfl⟩ ⟨Nat.le_of_ble_eq_true rfl, Nat.le_of_ble_eq_true rfl⟩ rfl hl.1 rfl (Nat.le_of_ble_eq_true rfl) dX3_readLevel_83 ⟨Nat.zero_le _, Nat.zero_le _⟩ (fun r19 u20 H locs q21 hP hS => ?_)
                obtain ⟨rfl, q21u⟩ := q21
                rw [q21u] at hP; clear q21u
                refine lv_iload_n C.1 C.2.1 dX3_readLevel_86 rfl (lv_at hl 3 rfl) ?_
                refine lv_icmp_eq (tgt := 91) C.1 C.2.1 dX3_readLevel_87 (by decide) (fun c22 => ?_) (fun c22 => ?_)
                · have hop := lv_1.mp c22
                  have hne : hdC ts1 ≠ 21 := lv_21 c22 (by decide)
                  obtain ⟨f2, ef, egl⟩ := gLoop_go (x := (gD 2).2.1) (cs := cs1) hne hop hf
                  refine lv_aload_n C.1 C.2.1 dX3_readLevel_91 rfl (lv_at hl 1 rfl) ?_
                  refine lv_dup C.1 C.2.1 dX3_readLevel_92 rfl ?_
                  refine mw_geti C Z hP (33) 1 (by decide) sx_33 rfl rfl (by decide) inX3 tw_1_154 dX3_readLevel_93 ?_
                  refine mw_top (y := nI a1) (hpo.2.2.2.1) ?_
                  refine lv_iconst (v := 1) C.1 C.2.1 dX3_readLevel_96 (by decide) ?_
                  refine lv_iadd C.1 C.2.1 dX3_readLevel_97 ?_
                  refine mw_top (y := nI (a1 + 1)) (nI_1 _) ?_
                  refine mw_puti C Z hP hS (33) 1 (by decide) sx_33 rfl rfl (by decide) inX3 tyX3 tyX3_ok nmX3 rfl tw_1_154 rfl rfl dX3_readLevel_98 (fun H locs hP hS => ?_)
                  have pn23 := hpo.next hj hne
                  have hb24 := pn23.2
                  refine lv_aload_n C.1 C.2.1 dX3_readLevel_101 rfl (lv_at hl 1 rfl) ?_
                  refine lv_aload_n C.1 C.2.1 dX3_readLevel_102 rfl (lv_at hl 2 rfl) ?_
                  refine lv_iload_n C.1 C.2.1 dX3_readLevel_103 rfl (lv_at hl 3 rfl) ?_
                  refine lv_iconst (v := 1) C.1 C.2.1 dX3_readLevel_104 (by decide) ?_
                  refine lv_iadd C.1 C.2.1 dX3_readLevel_105 ?_
                  refine mw_top (y := 2) (by decide) ?_
                  refine lv_iload_n C.1 C.2.1 dX3_readLevel_106 rfl (lv_at hl 4 rfl) ?_
                  refine mw_cVv (As := [.ref (mw_a E (39 + j)), .int 2, .int 3]) (rest := []) C Z hP hS (33) (cX_l2_3 l E (mw_si ςa 33 1 (nI (a1 + 1))) T j hj (a1 + 1) (ts1.tail) ((cs ++ cs1)) (B - 1) (by omega) pn23.1) vb_X3_readLevel tw_2_216 ⟨rfl, rfl⟩ ⟨Nat.le_of_ble_eq_true rfl, Nat.le_of_ble_eq_true rfl⟩ (by decide) sx_33 rfl rfl rfl hl.1 rfl (Nat.le_of_ble_eq_true rfl) dX3_readLevel_107 ⟨Nat.zero_le _, Nat.zero_le _⟩ (fun u34 H locs q35 hP hS => ?_)
                  obtain ⟨hx25, f26⟩ := q35
                  rcases e27 : (gD 2).2.1 (ts1.tail) with ⟨cs28, ts29⟩ | qq32
                  · rw [e27] at hx25
                    obtain ⟨a30, po31⟩ := hx25
                    have po31 : xPo u34 T j a30 ts29 ((cs ++ cs1) ++ cs28) (B - 1) := po31
                    refine lv_aload_n C.1 C.2.1 dX3_readLevel_110 rfl (lv_at hl 2 rfl) ?_
                    refine lv_iload C.1 C.2.1 dX3_readLevel_111 (lv_at hl 0 rfl) ?_
                    refine mw_cVv (As := [.int (nI (hdC ts1))]) (rest := []) C Z hP hS (39 + j) (cX_add l E u34 j hj (((cs ++ cs1) ++ cs28)).length po31.2.2.2.2.2.1.1 (by have y := po31.2.2.2.2.2.2; omega) (nI (hdC ts1))) vb_X8_add tw_2_224 ⟨rfl, rfl⟩ ⟨Nat.le_of_ble_eq_true rfl, Nat.le_of_ble_eq_true rfl⟩ (by omega) (sx_tx (by omega)) rfl rfl rfl hl.1 rfl (Nat.le_of_ble_eq_true rfl) dX3_readLevel_113 ⟨Nat.zero_le _, Nat.zero_le _⟩ (fun u37 H locs q38 hP hS => ?_)
                    have e39 := q38.1 (by have y := po31.2.2.2.2.2.2; omega)
                    subst e39
                    have po40 := (po31.add hj (hdC ts1)).wk (C := B) (by omega)
                    refine lv_iload_n C.1 C.2.1 dX3_readLevel_116 rfl (lv_at hl 3 rfl) ?_
                    refine lv_iconst (v := 2) C.1 C.2.1 dX3_readLevel_117 (by decide) ?_
                    refine lv_icmp_ne (tgt := 122) C.1 C.2.1 dX3_readLevel_118 (by decide) (fun c41 => ?_) (fun c41 => ?_)
                    · refine lv_iinc (v := nI (t + 1)) (lv' := [(4, .int (nI (t + 1))), (5, .int (nI (hdC ts1))), (0, .ref (mw_a E 33)), (1, .ref (mw_a E (39 + j))), (2, .int 1), (3, .int 3)]) C.1 C.2.1 dX3_readLevel_122 hl (k := 5) rfl (nI_1 _) (by decide) rfl (fun ls hl => ?_)
                      refine lv_goto (tgt := 52) C.1 C.2.1 dX3_readLevel_125 (by decide) ?_
                      exact iha a30 (t + 1) f2 ts29 (cs1 ++ cs28 ++ [hdC ts1]) (mw_si (mw_sa u34 (45 + j) (((cs ++ cs1) ++ cs28)).length (nI (hdC ts1))) (39 + j) 3 (nI ((((cs ++ cs1) ++ cs28)).length + 1))) _ _ (by omega) (by omega) (by have y1 := ((gD_dec 2).2.1) _ _ _ e27; have y2 := tail_len hne; omega) (by have y1 := ((gD_dec 2).2.1) _ _ _ e27; have y2 := tail_len hne; omega) (hsp.trans (egl.trans (by rw [e27]))) ((by rw [← List.append_assoc]; rw [← List.append_assoc]; exact po40)) (((fra.rd _ _).tr f26).ad _ _ _) hP hS ls (lv_sub hl [2, 3, 4, 5, 0] rfl)
                    · exact absurd c41 (by decide)
                  · rw [e27] at hx25
                    have po31 : xPb u34 T j qq32 := hx25
                    refine lv_aload_n C.1 C.2.1 dX3_readLevel_110 rfl (lv_at hl 2 rfl) ?_
                    refine lv_iload C.1 C.2.1 dX3_readLevel_111 (lv_at hl 0 rfl) ?_
                    obtain ⟨k42, hk43, ek44⟩ := po31.2.2.2
                    refine mw_cVv (As := [.int (nI (hdC ts1))]) (rest := []) C Z hP hS (39 + j) (cX_add l E u34 j hj k42 ek44 hk43 (nI (hdC ts1))) vb_X8_add tw_2_224 ⟨rfl, rfl⟩ ⟨Nat.le_of_ble_eq_true rfl, Nat.le_of_ble_eq_true rfl⟩ (by omega) (sx_tx (by omega)) rfl rfl rfl hl.1 rfl (Nat.le_of_ble_eq_true rfl) dX3_readLevel_113 ⟨Nat.zero_le _, Nat.zero_le _⟩ (fun u47 H locs q48 hP hS => ?_)
                    have w45 := xPb.add po31 hj hk43 q48
                    refine lv_iload_n C.1 C.2.1 dX3_readLevel_116 rfl (lv_at hl 3 rfl) ?_
                    refine lv_iconst (v := 2) C.1 C.2.1 dX3_readLevel_117 (by decide) ?_
                    refine lv_icmp_ne (tgt := 122) C.1 C.2.1 dX3_readLevel_118 (by decide) (fun c49 => ?_) (fun c49 => ?_)
                    · refine lv_iinc (v := nI (t + 1)) (lv' := [(4, .int (nI (t + 1))), (5, .int (nI (hdC ts1))), (0, .ref (mw_a E 33)), (1, .ref (mw_a E (39 + j))), (2, .int 1), (3, .int 3)]) C.1 C.2.1 dX3_readLevel_122 hl (k := 5) rfl (nI_1 _) (by decide) rfl (fun ls hl => ?_)
                      refine lv_goto (tgt := 52) C.1 C.2.1 dX3_readLevel_125 (by decide) ?_
                      refine lv_iload C.1 C.2.1 dX3_readLevel_52 (lv_at hl 0 rfl) ?_
                      refine lv_sipush (v := 160) C.1 C.2.1 dX3_readLevel_54 (by decide) ?_
                      refine lv_icmp_ge (tgt := 128) C.1 C.2.1 dX3_readLevel_57 (by decide) (fun c50 => ?_) (fun c50 => ?_)
                      · exact mw_vret C hr hlk Z hP hS dX3_readLevel_128 (⟨xAf.bd (hsp.trans (egl.trans (by rw [e27]))) w45.1, (((fra.rd _ _).tr f26).tr w45.2)⟩)
                      · refine lv_aload_n C.1 C.2.1 dX3_readLevel_60 rfl (lv_at hl 2 rfl) ?_
                        refine mw_geti C Z hP (33) 2 (by decide) sx_33 rfl rfl (by decide) inX3 tw_1_155 dX3_readLevel_61 ?_
                        refine mw_top (y := nI qq32) (w45.1.2.2.1.1) ?_
                        refine lv_iconst (v := -1) C.1 C.2.1 dX3_readLevel_64 (by decide) ?_
                        refine lv_icmp_ne (tgt := 128) C.1 C.2.1 dX3_readLevel_65 (by decide) (fun c51 => ?_) (fun c51 => ?_)
                        · exact mw_vret C hr hlk Z hP hS dX3_readLevel_128 (⟨xAf.bd (hsp.trans (egl.trans (by rw [e27]))) w45.1, (((fra.rd _ _).tr f26).tr w45.2)⟩)
                        · exact absurd c51 (nI_nm1 (by have y := w45.1.2.2.1.2; omega))
                    · exact absurd c49 (by decide)
                · have hnop : ¬ gAnd (hdC ts1) = true := fun y => c22 (lv_1.mpr y)
                  exact mw_vret C hr hlk Z hP hS dX3_readLevel_90 (⟨xAf.gd (hsp.trans (gLoop_stop hnop)) hpo, fra⟩)
        exact lpa (161) a8 0 (ts7.length) ts7 cs6 u12 _ _ (by omega) (by omega) (Nat.le_refl _) (by have y := po9.2.2.2.2.2.2; omega) ((gLevel_g e5)) (po9) ((xPf.rf j σ).tr f4) hP hS ls (lv_sub hl [1, 2, 3, 4, 0] rfl)
      · rw [e5] at hx3
        have po9 : xPb u12 T j qq10 := hx3
        refine lv_iconst (v := 0) C.1 C.2.1 dX3_readLevel_49 (by decide) ?_
        refine lv_istore (lv' := [(4, .int 0), (0, .ref (mw_a E 33)), (1, .ref (mw_a E (39 + j))), (2, .int 1), (3, .int 3)]) C.1 C.2.1 dX3_readLevel_50 hl (by decide) rfl (fun ls hl => ?_)
        refine lv_iload C.1 C.2.1 dX3_readLevel_52 (lv_at hl 0 rfl) ?_
        refine lv_sipush (v := 160) C.1 C.2.1 dX3_readLevel_54 (by decide) ?_
        refine lv_icmp_ge (tgt := 128) C.1 C.2.1 dX3_readLevel_57 (by decide) (fun c52 => ?_) (fun c52 => ?_)
        · exact absurd c52 (by decide)
        · refine lv_aload_n C.1 C.2.1 dX3_readLevel_60 rfl (lv_at hl 1 rfl) ?_
          refine mw_geti C Z hP (33) 2 (by decide) sx_33 rfl rfl (by decide) inX3 tw_1_155 dX3_readLevel_61 ?_
          refine mw_top (y := nI qq10) (po9.2.2.1.1) ?_
          refine lv_iconst (v := -1) C.1 C.2.1 dX3_readLevel_64 (by decide) ?_
          refine lv_icmp_ne (tgt := 128) C.1 C.2.1 dX3_readLevel_65 (by decide) (fun c53 => ?_) (fun c53 => ?_)
          · exact mw_vret C hr hlk Z hP hS dX3_readLevel_128 (⟨xAf.bd ((gLevel_b e5)) po9, ((xPf.rf j σ).tr f4)⟩)
          · exact absurd c53 (nI_nm1 (by have y := po9.2.2.1.2; omega))
    · exact absurd c2 (by decide)
  · exact absurd c1 (by decide)

set_option maxHeartbeats 4000000 in
set_option maxRecDepth 100000 in
theorem cX_l0_3 (l : Launch) (E : mw_E) (σ : mw_M) (T : List (Nat × Nat)) (j : Nat) (hj : j < 6) (a : Nat) (ts : List (Nat × Nat)) (cs : List Nat) (B : Nat) (hB : B ≤ 160) (h : xPo σ T j a ts cs B) : mw_Cv shX 75 gX l yX3_readLevel cX3_readLevel 6 none (rmF 24 620) E [.ref (mw_a E 33), .ref (mw_a E (39 + j)), .int 0, .int 3] σ (fun u => xAf T j B cs ((gD 2).2.2 ts) u ∧ xPf j σ u) := by
  refine mw_of (by decide) gX_ok (Nat.le_of_ble_eq_true rfl) ?_
  intro p_ e_ s_ m_ below meth c_ C hr hlk Z hP ls hl
  have C : CallFix p_ m_ c_ cX3_readLevel 6 s_ _ lw_good RX3 := C
  have hl : lv_has ls 6 [(0, .ref (mw_a E 33)), (1, .ref (mw_a E (39 + j))), (2, .int 0), (3, .int 3)] := hl
  have hS : va_S (mw_A 75 E) s_.heap s_.heap [] := va_S.rf
  have hlt : hdC ts < 20000 := by have y := (h.1.lt a).1; rw [h.2.1] at y; exact y
  refine lv_iload_n C.1 C.2.1 dX3_readLevel_0 rfl (lv_at hl 2 rfl) ?_
  refine lv_iconst (v := 4) C.1 C.2.1 dX3_readLevel_1 (by decide) ?_
  refine lv_icmp_le (tgt := 12) C.1 C.2.1 dX3_readLevel_2 (by decide) (fun c1 => ?_) (fun c1 => ?_)
  · refine lv_iload_n C.1 C.2.1 dX3_readLevel_12 rfl (lv_at hl 2 rfl) ?_
    refine lv_iconst (v := 2) C.1 C.2.1 dX3_readLevel_13 (by decide) ?_
    refine lv_icmp_ne (tgt := 40) C.1 C.2.1 dX3_readLevel_14 (by decide) (fun c2 => ?_) (fun c2 => ?_)
    · refine lv_aload_n C.1 C.2.1 dX3_readLevel_40 rfl (lv_at hl 0 rfl) ?_
      refine lv_aload_n C.1 C.2.1 dX3_readLevel_41 rfl (lv_at hl 1 rfl) ?_
      refine lv_iload_n C.1 C.2.1 dX3_readLevel_42 rfl (lv_at hl 2 rfl) ?_
      refine lv_iconst (v := 1) C.1 C.2.1 dX3_readLevel_43 (by decide) ?_
      refine lv_iadd C.1 C.2.1 dX3_readLevel_44 ?_
      refine mw_top (y := 1) (by decide) ?_
      refine lv_iload_n C.1 C.2.1 dX3_readLevel_45 rfl (lv_at hl 3 rfl) ?_
      refine mw_cVv (As := [.ref (mw_a E (39 + j)), .int 1, .int 3]) (rest := []) C Z hP hS (33) (cX_l1_3 l E σ T j hj a ts cs B (by omega) h) vb_X3_readLevel tw_2_216 ⟨rfl, rfl⟩ ⟨Nat.le_of_ble_eq_true rfl, Nat.le_of_ble_eq_true rfl⟩ (by decide) sx_33 rfl rfl rfl hl.1 rfl (Nat.le_of_ble_eq_true rfl) dX3_readLevel_46 ⟨Nat.zero_le _, Nat.zero_le _⟩ (fun u12 H locs q13 hP hS => ?_)
      obtain ⟨hx3, f4⟩ := q13
      rcases e5 : (gLevel gAnd (gD 2).2.1) ts with ⟨cs6, ts7⟩ | qq10
      · rw [e5] at hx3
        obtain ⟨a8, po9⟩ := hx3
        have po9 : xPo u12 T j a8 ts7 (cs ++ cs6) B := po9
        refine lv_iconst (v := 0) C.1 C.2.1 dX3_readLevel_49 (by decide) ?_
        refine lv_istore (lv' := [(4, .int 0), (0, .ref (mw_a E 33)), (1, .ref (mw_a E (39 + j))), (2, .int 0), (3, .int 3)]) C.1 C.2.1 dX3_readLevel_50 hl (by decide) rfl (fun ls hl => ?_)
        have lpa : ∀ (N : Nat) (a1 : Nat) (t : Nat) (f : Nat) (ts1 : List (Nat × Nat)) (cs1 : List Nat) (ςa : mw_M) (H : Heap) (locs : List Loc), 161 ≤ t + N → (t ≤ 160) → (ts1.length ≤ f) → (t + ts1.length ≤ 160) → ((gD 2).2.2 ts = gLoop gOr (gLevel gAnd (gD 2).2.1) f cs1 ts1) → (xPo ςa T j a1 ts1 (cs ++ cs1) B) → xPf j σ ςa → va_P (mw_D E) vwCl (mw_ws shX 75 E ςa) H → va_S (mw_A 75 E) s_.heap H locs → ∀ (ls : Array Slot), lv_has ls 6 [(0, .ref (mw_a E 33)), (1, .ref (mw_a E (39 + j))), (2, .int 0), (3, .int 3), (4, .int (nI t))] → xWv p_ l e_ (rmF 24 620) s_ m_ [.ref (mw_a E 33), .ref (mw_a E (39 + j)), .int 0, .int 3] below meth c_ E (fun u => xAf T j B cs ((gD 2).2.2 ts) u ∧ xPf j σ u) H locs (F0 m_ 52 ls []) := by
          intro N
          induction N with
          | zero => intros; exfalso; omega
          | succ N iha =>
            intro a1 t f ts1 cs1 ςa H locs hNa ht hf htl hsp hpo fra hP hS ls hl
            refine lv_iload C.1 C.2.1 dX3_readLevel_52 (lv_at hl 4 rfl) ?_
            refine lv_sipush (v := 160) C.1 C.2.1 dX3_readLevel_54 (by decide) ?_
            refine lv_icmp_ge (tgt := 128) C.1 C.2.1 dX3_readLevel_57 (by decide) (fun c14 => ?_) (fun c14 => ?_)
            · have c14 := (nI_leI (a := 160) (by decide) (by omega)).mp c14
              have e0 : ts1 = [] := List.eq_nil_of_length_eq_zero (by omega)
              exact mw_vret C hr hlk Z hP hS dX3_readLevel_128 (⟨xAf.gd (hsp.trans (gLoop_stop (by rw [e0]; decide))) hpo, fra⟩)
            · have c14 := (not_congr (nI_leI (a := 160) (by decide) (by omega))).mp c14
              refine lv_aload_n C.1 C.2.1 dX3_readLevel_60 rfl (lv_at hl 0 rfl) ?_
              refine mw_geti C Z hP (33) 2 (by decide) sx_33 rfl rfl (by decide) inX3 tw_1_155 dX3_readLevel_61 ?_
              refine mw_top (y := -1) (hpo.2.2.2.2.1) ?_
              refine lv_iconst (v := -1) C.1 C.2.1 dX3_readLevel_64 (by decide) ?_
              refine lv_icmp_ne (tgt := 128) C.1 C.2.1 dX3_readLevel_65 (by decide) (fun c15 => ?_) (fun c15 => ?_)
              · exact absurd c15 (by decide)
              · refine lv_aload_n C.1 C.2.1 dX3_readLevel_68 rfl (lv_at hl 0 rfl) ?_
                refine mw_getr C Z hP (33) 0 (34) (by decide) sx_33 rfl rfl (by decide) inX3 tw_1_153 dX3_readLevel_69 ?_
                refine lv_aload_n C.1 C.2.1 dX3_readLevel_72 rfl (lv_at hl 0 rfl) ?_
                refine mw_geti C Z hP (33) 1 (by decide) sx_33 rfl rfl (by decide) inX3 tw_1_154 dX3_readLevel_73 ?_
                refine mw_top (y := nI a1) (hpo.2.2.2.1) ?_
                refine mw_cVi (As := [.int (nI a1)]) (rest := []) C Z hP hS (34) (cX_tokenAt l E ςa T.length hpo.1.2.1 hpo.1.1 a1 (by have y1 := hpo.1.1; have y2 := hpo.2.2.1; omega)) vb_X10_tokenAt tw_2_204 ⟨rfl, rfl⟩ ⟨Nat.le_of_ble_eq_true rfl, Nat.le_of_ble_eq_true rfl⟩ (by decide) sx_34 rfl rfl rfl hl.1 rfl (Nat.le_of_ble_eq_true rfl) dX3_readLevel_76 ⟨Nat.zero_le _, Nat.zero_le _⟩ (fun r16 u17 H locs q18 hP hS => ?_)
                rw [(hpo.1.tok a1).1, hpo.2.1] at q18
                obtain ⟨rfl, q18u⟩ := q18
                rw [q18u] at hP; clear q18u
                refine lv_istore (lv' := [(5, .int (nI (hdC ts1))), (0, .ref (mw_a E 33)), (1, .ref (mw_a E (39 + j))), (2, .int 0), (3, .int 3), (4, .int (nI t))]) C.1 C.2.1 dX3_readLevel_79 hl (by decide) rfl (fun ls hl => ?_)
                refine lv_iload C.1 C.2.1 dX3_readLevel_81 (lv_at hl 0 rfl) ?_
                refine mw_cSi (As := [.int (nI (hdC ts1))]) (rest := []) C Z hP hS (cX_levelOf l E ςa (hdC ts1) (by have y := (hpo.1.lt a1).1; rw [hpo.2.1] at y; omega)) sb_X3_levelOf tw_2_232 ⟨rfl, rfl⟩ ⟨Nat.le_of_ble_eq_true rfl, Nat.le_of_ble_eq_true rfl⟩ rfl hl.1 rfl (Nat.le_of_ble_eq_true rfl) dX3_readLevel_83 ⟨Nat.zero_le _, Nat.zero_le _⟩ (fun r19 u20 H locs q21 hP hS => ?_)
                obtain ⟨rfl, q21u⟩ := q21
                rw [q21u] at hP; clear q21u
                refine lv_iload_n C.1 C.2.1 dX3_readLevel_86 rfl (lv_at hl 3 rfl) ?_
                refine lv_icmp_eq (tgt := 91) C.1 C.2.1 dX3_readLevel_87 (by decide) (fun c22 => ?_) (fun c22 => ?_)
                · have hop := lv_0.mp c22
                  have hne : hdC ts1 ≠ 21 := lv_21 c22 (by decide)
                  obtain ⟨f2, ef, egl⟩ := gLoop_go (x := (gLevel gAnd (gD 2).2.1)) (cs := cs1) hne hop hf
                  refine lv_aload_n C.1 C.2.1 dX3_readLevel_91 rfl (lv_at hl 1 rfl) ?_
                  refine lv_dup C.1 C.2.1 dX3_readLevel_92 rfl ?_
                  refine mw_geti C Z hP (33) 1 (by decide) sx_33 rfl rfl (by decide) inX3 tw_1_154 dX3_readLevel_93 ?_
                  refine mw_top (y := nI a1) (hpo.2.2.2.1) ?_
                  refine lv_iconst (v := 1) C.1 C.2.1 dX3_readLevel_96 (by decide) ?_
                  refine lv_iadd C.1 C.2.1 dX3_readLevel_97 ?_
                  refine mw_top (y := nI (a1 + 1)) (nI_1 _) ?_
                  refine mw_puti C Z hP hS (33) 1 (by decide) sx_33 rfl rfl (by decide) inX3 tyX3 tyX3_ok nmX3 rfl tw_1_154 rfl rfl dX3_readLevel_98 (fun H locs hP hS => ?_)
                  have pn23 := hpo.next hj hne
                  have hb24 := pn23.2
                  refine lv_aload_n C.1 C.2.1 dX3_readLevel_101 rfl (lv_at hl 1 rfl) ?_
                  refine lv_aload_n C.1 C.2.1 dX3_readLevel_102 rfl (lv_at hl 2 rfl) ?_
                  refine lv_iload_n C.1 C.2.1 dX3_readLevel_103 rfl (lv_at hl 3 rfl) ?_
                  refine lv_iconst (v := 1) C.1 C.2.1 dX3_readLevel_104 (by decide) ?_
                  refine lv_iadd C.1 C.2.1 dX3_readLevel_105 ?_
                  refine mw_top (y := 1) (by decide) ?_
                  refine lv_iload_n C.1 C.2.1 dX3_readLevel_106 rfl (lv_at hl 4 rfl) ?_
                  refine mw_cVv (As := [.ref (mw_a E (39 + j)), .int 1, .int 3]) (rest := []) C Z hP hS (33) (cX_l1_3 l E (mw_si ςa 33 1 (nI (a1 + 1))) T j hj (a1 + 1) (ts1.tail) ((cs ++ cs1)) (B - 1) (by omega) pn23.1) vb_X3_readLevel tw_2_216 ⟨rfl, rfl⟩ ⟨Nat.le_of_ble_eq_true rfl, Nat.le_of_ble_eq_true rfl⟩ (by decide) sx_33 rfl rfl rfl hl.1 rfl (Nat.le_of_ble_eq_true rfl) dX3_readLevel_107 ⟨Nat.zero_le _, Nat.zero_le _⟩ (fun u34 H locs q35 hP hS => ?_)
                  obtain ⟨hx25, f26⟩ := q35
                  rcases e27 : (gLevel gAnd (gD 2).2.1) (ts1.tail) with ⟨cs28, ts29⟩ | qq32
                  · rw [e27] at hx25
                    obtain ⟨a30, po31⟩ := hx25
                    have po31 : xPo u34 T j a30 ts29 ((cs ++ cs1) ++ cs28) (B - 1) := po31
                    refine lv_aload_n C.1 C.2.1 dX3_readLevel_110 rfl (lv_at hl 2 rfl) ?_
                    refine lv_iload C.1 C.2.1 dX3_readLevel_111 (lv_at hl 0 rfl) ?_
                    refine mw_cVv (As := [.int (nI (hdC ts1))]) (rest := []) C Z hP hS (39 + j) (cX_add l E u34 j hj (((cs ++ cs1) ++ cs28)).length po31.2.2.2.2.2.1.1 (by have y := po31.2.2.2.2.2.2; omega) (nI (hdC ts1))) vb_X8_add tw_2_224 ⟨rfl, rfl⟩ ⟨Nat.le_of_ble_eq_true rfl, Nat.le_of_ble_eq_true rfl⟩ (by omega) (sx_tx (by omega)) rfl rfl rfl hl.1 rfl (Nat.le_of_ble_eq_true rfl) dX3_readLevel_113 ⟨Nat.zero_le _, Nat.zero_le _⟩ (fun u37 H locs q38 hP hS => ?_)
                    have e39 := q38.1 (by have y := po31.2.2.2.2.2.2; omega)
                    subst e39
                    have po40 := (po31.add hj (hdC ts1)).wk (C := B) (by omega)
                    refine lv_iload_n C.1 C.2.1 dX3_readLevel_116 rfl (lv_at hl 3 rfl) ?_
                    refine lv_iconst (v := 2) C.1 C.2.1 dX3_readLevel_117 (by decide) ?_
                    refine lv_icmp_ne (tgt := 122) C.1 C.2.1 dX3_readLevel_118 (by decide) (fun c41 => ?_) (fun c41 => ?_)
                    · refine lv_iinc (v := nI (t + 1)) (lv' := [(4, .int (nI (t + 1))), (5, .int (nI (hdC ts1))), (0, .ref (mw_a E 33)), (1, .ref (mw_a E (39 + j))), (2, .int 0), (3, .int 3)]) C.1 C.2.1 dX3_readLevel_122 hl (k := 5) rfl (nI_1 _) (by decide) rfl (fun ls hl => ?_)
                      refine lv_goto (tgt := 52) C.1 C.2.1 dX3_readLevel_125 (by decide) ?_
                      exact iha a30 (t + 1) f2 ts29 (cs1 ++ cs28 ++ [hdC ts1]) (mw_si (mw_sa u34 (45 + j) (((cs ++ cs1) ++ cs28)).length (nI (hdC ts1))) (39 + j) 3 (nI ((((cs ++ cs1) ++ cs28)).length + 1))) _ _ (by omega) (by omega) (by have y1 := (gLevel_dec (gD_dec 2).2.1) _ _ _ e27; have y2 := tail_len hne; omega) (by have y1 := (gLevel_dec (gD_dec 2).2.1) _ _ _ e27; have y2 := tail_len hne; omega) (hsp.trans (egl.trans (by rw [e27]))) ((by rw [← List.append_assoc]; rw [← List.append_assoc]; exact po40)) (((fra.rd _ _).tr f26).ad _ _ _) hP hS ls (lv_sub hl [2, 3, 4, 5, 0] rfl)
                    · exact absurd c41 (by decide)
                  · rw [e27] at hx25
                    have po31 : xPb u34 T j qq32 := hx25
                    refine lv_aload_n C.1 C.2.1 dX3_readLevel_110 rfl (lv_at hl 2 rfl) ?_
                    refine lv_iload C.1 C.2.1 dX3_readLevel_111 (lv_at hl 0 rfl) ?_
                    obtain ⟨k42, hk43, ek44⟩ := po31.2.2.2
                    refine mw_cVv (As := [.int (nI (hdC ts1))]) (rest := []) C Z hP hS (39 + j) (cX_add l E u34 j hj k42 ek44 hk43 (nI (hdC ts1))) vb_X8_add tw_2_224 ⟨rfl, rfl⟩ ⟨Nat.le_of_ble_eq_true rfl, Nat.le_of_ble_eq_true rfl⟩ (by omega) (sx_tx (by omega)) rfl rfl rfl hl.1 rfl (Nat.le_of_ble_eq_true rfl) dX3_readLevel_113 ⟨Nat.zero_le _, Nat.zero_le _⟩ (fun u47 H locs q48 hP hS => ?_)
                    have w45 := xPb.add po31 hj hk43 q48
                    refine lv_iload_n C.1 C.2.1 dX3_readLevel_116 rfl (lv_at hl 3 rfl) ?_
                    refine lv_iconst (v := 2) C.1 C.2.1 dX3_readLevel_117 (by decide) ?_
                    refine lv_icmp_ne (tgt := 122) C.1 C.2.1 dX3_readLevel_118 (by decide) (fun c49 => ?_) (fun c49 => ?_)
                    · refine lv_iinc (v := nI (t + 1)) (lv' := [(4, .int (nI (t + 1))), (5, .int (nI (hdC ts1))), (0, .ref (mw_a E 33)), (1, .ref (mw_a E (39 + j))), (2, .int 0), (3, .int 3)]) C.1 C.2.1 dX3_readLevel_122 hl (k := 5) rfl (nI_1 _) (by decide) rfl (fun ls hl => ?_)
                      refine lv_goto (tgt := 52) C.1 C.2.1 dX3_readLevel_125 (by decide) ?_
                      refine lv_iload C.1 C.2.1 dX3_readLevel_52 (lv_at hl 0 rfl) ?_
                      refine lv_sipush (v := 160) C.1 C.2.1 dX3_readLevel_54 (by decide) ?_
                      refine lv_icmp_ge (tgt := 128) C.1 C.2.1 dX3_readLevel_57 (by decide) (fun c50 => ?_) (fun c50 => ?_)
                      · exact mw_vret C hr hlk Z hP hS dX3_readLevel_128 (⟨xAf.bd (hsp.trans (egl.trans (by rw [e27]))) w45.1, (((fra.rd _ _).tr f26).tr w45.2)⟩)
                      · refine lv_aload_n C.1 C.2.1 dX3_readLevel_60 rfl (lv_at hl 2 rfl) ?_
                        refine mw_geti C Z hP (33) 2 (by decide) sx_33 rfl rfl (by decide) inX3 tw_1_155 dX3_readLevel_61 ?_
                        refine mw_top (y := nI qq32) (w45.1.2.2.1.1) ?_
                        refine lv_iconst (v := -1) C.1 C.2.1 dX3_readLevel_64 (by decide) ?_
                        refine lv_icmp_ne (tgt := 128) C.1 C.2.1 dX3_readLevel_65 (by decide) (fun c51 => ?_) (fun c51 => ?_)
                        · exact mw_vret C hr hlk Z hP hS dX3_readLevel_128 (⟨xAf.bd (hsp.trans (egl.trans (by rw [e27]))) w45.1, (((fra.rd _ _).tr f26).tr w45.2)⟩)
                        · exact absurd c51 (nI_nm1 (by have y := w45.1.2.2.1.2; omega))
                    · exact absurd c49 (by decide)
                · have hnop : ¬ gOr (hdC ts1) = true := fun y => c22 (lv_0.mpr y)
                  exact mw_vret C hr hlk Z hP hS dX3_readLevel_90 (⟨xAf.gd (hsp.trans (gLoop_stop hnop)) hpo, fra⟩)
        exact lpa (161) a8 0 (ts7.length) ts7 cs6 u12 _ _ (by omega) (by omega) (Nat.le_refl _) (by have y := po9.2.2.2.2.2.2; omega) ((congrFun gE_2 ts).trans (gLevel_g e5)) (po9) ((xPf.rf j σ).tr f4) hP hS ls (lv_sub hl [1, 2, 3, 4, 0] rfl)
      · rw [e5] at hx3
        have po9 : xPb u12 T j qq10 := hx3
        refine lv_iconst (v := 0) C.1 C.2.1 dX3_readLevel_49 (by decide) ?_
        refine lv_istore (lv' := [(4, .int 0), (0, .ref (mw_a E 33)), (1, .ref (mw_a E (39 + j))), (2, .int 0), (3, .int 3)]) C.1 C.2.1 dX3_readLevel_50 hl (by decide) rfl (fun ls hl => ?_)
        refine lv_iload C.1 C.2.1 dX3_readLevel_52 (lv_at hl 0 rfl) ?_
        refine lv_sipush (v := 160) C.1 C.2.1 dX3_readLevel_54 (by decide) ?_
        refine lv_icmp_ge (tgt := 128) C.1 C.2.1 dX3_readLevel_57 (by decide) (fun c52 => ?_) (fun c52 => ?_)
        · exact absurd c52 (by decide)
        · refine lv_aload_n C.1 C.2.1 dX3_readLevel_60 rfl (lv_at hl 1 rfl) ?_
          refine mw_geti C Z hP (33) 2 (by decide) sx_33 rfl rfl (by decide) inX3 tw_1_155 dX3_readLevel_61 ?_
          refine mw_top (y := nI qq10) (po9.2.2.1.1) ?_
          refine lv_iconst (v := -1) C.1 C.2.1 dX3_readLevel_64 (by decide) ?_
          refine lv_icmp_ne (tgt := 128) C.1 C.2.1 dX3_readLevel_65 (by decide) (fun c53 => ?_) (fun c53 => ?_)
          · exact mw_vret C hr hlk Z hP hS dX3_readLevel_128 (⟨xAf.bd ((congrFun gE_2 ts).trans (gLevel_b e5)) po9, ((xPf.rf j σ).tr f4)⟩)
          · exact absurd c53 (nI_nm1 (by have y := po9.2.2.1.2; omega))
    · exact absurd c2 (by decide)
  · exact absurd c1 (by decide)

set_option maxHeartbeats 4000000 in
set_option maxRecDepth 100000 in
theorem cX_one2 (l : Launch) (E : mw_E) (σ : mw_M) (T : List (Nat × Nat)) (j : Nat) (hj : j < 6) (a : Nat) (ts : List (Nat × Nat)) (cs : List Nat) (B : Nat) (hB : B ≤ 160) (h : xPo σ T j a ts cs B) : mw_Cv shX 75 gX l yX3_readOne cX3_readOne 4 none (rmF 25 645) E [.ref (mw_a E 33), .ref (mw_a E (39 + j)), .int 2] σ (fun u => xAf T j B cs ((gD 3).1 ts) u ∧ xPf j σ u) := by
  refine mw_of (by decide) gX_ok (Nat.le_of_ble_eq_true rfl) ?_
  intro p_ e_ s_ m_ below meth c_ C hr hlk Z hP ls hl
  have C : CallFix p_ m_ c_ cX3_readOne 4 s_ _ lw_good RX3 := C
  have hl : lv_has ls 4 [(0, .ref (mw_a E 33)), (1, .ref (mw_a E (39 + j))), (2, .int 2)] := hl
  have hS : va_S (mw_A 75 E) s_.heap s_.heap [] := va_S.rf
  have hlt : hdC ts < 20000 := by have y := (h.1.lt a).1; rw [h.2.1] at y; exact y
  refine lv_aload_n C.1 C.2.1 dX3_readOne_0 rfl (lv_at hl 0 rfl) ?_
  refine mw_getr C Z hP (33) 0 (34) (by decide) sx_33 rfl rfl (by decide) inX3 tw_1_153 dX3_readOne_1 ?_
  refine lv_aload_n C.1 C.2.1 dX3_readOne_4 rfl (lv_at hl 0 rfl) ?_
  refine mw_geti C Z hP (33) 1 (by decide) sx_33 rfl rfl (by decide) inX3 tw_1_154 dX3_readOne_5 ?_
  refine mw_top (y := nI a) (h.2.2.2.1) ?_
  refine mw_cVi (As := [.int (nI a)]) (rest := []) C Z hP hS (34) (cX_tokenAt l E σ T.length h.1.2.1 h.1.1 a (by have y1 := h.1.1; have y2 := h.2.2.1; omega)) vb_X10_tokenAt tw_2_204 ⟨rfl, rfl⟩ ⟨Nat.le_of_ble_eq_true rfl, Nat.le_of_ble_eq_true rfl⟩ (by decide) sx_34 rfl rfl rfl hl.1 rfl (Nat.le_of_ble_eq_true rfl) dX3_readOne_8 ⟨Nat.zero_le _, Nat.zero_le _⟩ (fun r1 u2 H locs q3 hP hS => ?_)
  rw [(h.1.tok a).1, h.2.1] at q3
  obtain ⟨rfl, q3u⟩ := q3
  rw [q3u] at hP; clear q3u
  refine lv_istore_n (lv' := [(3, .int (nI (hdC ts))), (0, .ref (mw_a E 33)), (1, .ref (mw_a E (39 + j))), (2, .int 2)]) C.1 C.2.1 dX3_readOne_11 rfl hl (by decide) rfl (fun ls hl => ?_)
  refine lv_aload_n C.1 C.2.1 dX3_readOne_12 rfl (lv_at hl 1 rfl) ?_
  refine mw_geti C Z hP (33) 2 (by decide) sx_33 rfl rfl (by decide) inX3 tw_1_155 dX3_readOne_13 ?_
  refine mw_top (y := -1) (h.2.2.2.2.1) ?_
  refine lv_iconst (v := -1) C.1 C.2.1 dX3_readOne_16 (by decide) ?_
  refine lv_icmp_eq (tgt := 21) C.1 C.2.1 dX3_readOne_17 (by decide) (fun c4 => ?_) (fun c4 => ?_)
  · refine lv_iload_n C.1 C.2.1 dX3_readOne_21 rfl (lv_at hl 0 rfl) ?_
    refine lv_iconst (v := 5) C.1 C.2.1 dX3_readOne_22 (by decide) ?_
    refine lv_icmp_le (tgt := 32) C.1 C.2.1 dX3_readOne_23 (by decide) (fun c5 => ?_) (fun c5 => ?_)
    · have c5 := (nI_leI (b := 5) (by omega) (by decide)).mp c5
      have hcl : hdC ts ≤ 5 ∨ 100 ≤ hdC ts := Or.inl c5
      have hne : hdC ts ≠ 21 := by omega
      refine lv_aload_n C.1 C.2.1 dX3_readOne_32 rfl (lv_at hl 1 rfl) ?_
      refine lv_dup C.1 C.2.1 dX3_readOne_33 rfl ?_
      refine mw_geti C Z hP (33) 1 (by decide) sx_33 rfl rfl (by decide) inX3 tw_1_154 dX3_readOne_34 ?_
      refine mw_top (y := nI a) (h.2.2.2.1) ?_
      refine lv_iconst (v := 1) C.1 C.2.1 dX3_readOne_37 (by decide) ?_
      refine lv_iadd C.1 C.2.1 dX3_readOne_38 ?_
      refine mw_top (y := nI (a + 1)) (nI_1 _) ?_
      refine mw_puti C Z hP hS (33) 1 (by decide) sx_33 rfl rfl (by decide) inX3 tyX3 tyX3_ok nmX3 rfl tw_1_154 rfl rfl dX3_readOne_39 (fun H locs hP hS => ?_)
      have pn6 := h.next hj hne
      have hb7 := pn6.2
      refine lv_aload_n C.1 C.2.1 dX3_readOne_42 rfl (lv_at hl 2 rfl) ?_
      refine lv_iload_n C.1 C.2.1 dX3_readOne_43 rfl (lv_at hl 0 rfl) ?_
      refine mw_cVv (As := [.int (nI (hdC ts))]) (rest := []) C Z hP hS (39 + j) (cX_add l E (mw_si σ 33 1 (nI (a + 1))) j hj cs.length pn6.1.2.2.2.2.2.1.1 (by have y := pn6.1.2.2.2.2.2.2; omega) (nI (hdC ts))) vb_X8_add tw_2_224 ⟨rfl, rfl⟩ ⟨Nat.le_of_ble_eq_true rfl, Nat.le_of_ble_eq_true rfl⟩ (by omega) (sx_tx (by omega)) rfl rfl rfl hl.1 rfl (Nat.le_of_ble_eq_true rfl) dX3_readOne_44 ⟨Nat.zero_le _, Nat.zero_le _⟩ (fun u9 H locs q10 hP hS => ?_)
      have e11 := q10.1 (by have y := pn6.1.2.2.2.2.2.2; omega)
      subst e11
      have po12 := (pn6.1.add hj (hdC ts)).wk (C := B) (by omega)
      refine lv_goto (tgt := 131) C.1 C.2.1 dX3_readOne_47 (by decide) ?_
      exact mw_vret C hr hlk Z hP hS dX3_readOne_131 (⟨xAf.gd ((congrFun gA_3 ts).trans (gAt_a hcl)) po12, (((xPf.rf j σ).rd _ _).ad _ _ _)⟩)
    · have c5 := (not_congr (nI_leI (b := 5) (by omega) (by decide))).mp c5
      refine lv_iload_n C.1 C.2.1 dX3_readOne_26 rfl (lv_at hl 0 rfl) ?_
      refine lv_bipush (v := 100) C.1 C.2.1 dX3_readOne_27 (by decide) ?_
      refine lv_icmp_lt (tgt := 50) C.1 C.2.1 dX3_readOne_29 (by decide) (fun c13 => ?_) (fun c13 => ?_)
      · have c13 := (nI_ltI (b := 100) (by omega) (by decide)).mp c13
        have hncl : ¬ (hdC ts ≤ 5 ∨ 100 ≤ hdC ts) := by omega
        refine lv_iload_n C.1 C.2.1 dX3_readOne_50 rfl (lv_at hl 0 rfl) ?_
        refine lv_bipush (v := 16) C.1 C.2.1 dX3_readOne_51 (by decide) ?_
        refine lv_icmp_ne (tgt := 88) C.1 C.2.1 dX3_readOne_53 (by decide) (fun c14 => ?_) (fun c14 => ?_)
        · have h16n : ¬ hdC ts = 16 := fun y => c14 (by rw [y]; rfl)
          refine lv_iload_n C.1 C.2.1 dX3_readOne_88 rfl (lv_at hl 0 rfl) ?_
          refine lv_bipush (v := 12) C.1 C.2.1 dX3_readOne_89 (by decide) ?_
          refine lv_icmp_ne (tgt := 127) C.1 C.2.1 dX3_readOne_91 (by decide) (fun c15 => ?_) (fun c15 => ?_)
          · refine lv_aload_n C.1 C.2.1 dX3_readOne_127 rfl (lv_at hl 1 rfl) ?_
            refine mw_cVv (As := []) (rest := []) C Z hP hS (33) (cX_failG l E σ T j hj a ts cs B (by omega) h) vb_X3_fail tw_2_208 ⟨rfl, rfl⟩ ⟨Nat.le_of_ble_eq_true rfl, Nat.le_of_ble_eq_true rfl⟩ (by decide) sx_33 rfl rfl rfl hl.1 rfl (Nat.le_of_ble_eq_true rfl) dX3_readOne_128 ⟨Nat.zero_le _, Nat.zero_le _⟩ (fun u17 H locs q18 hP hS => ?_)
            subst q18
            exact mw_vret C hr hlk Z hP hS dX3_readOne_131 (⟨xAf.bd ((congrFun gA_3 ts).trans (gAt_x hncl (fun y => absurd y h16n) (fun y => absurd y (fun z => c15 (by rw [z]; rfl))))) (h.fail hj (by have y := h.2.2.2.2.2.2; omega)), ((xPf.rf j σ).rd _ _)⟩)
          · have h12 : hdC ts = 12 := nI_eqI (b := 12) (by omega) (by decide) c15
            have hne : hdC ts ≠ 21 := by omega
            refine lv_iload_n C.1 C.2.1 dX3_readOne_94 rfl (lv_at hl 3 rfl) ?_
            refine lv_iconst (v := 5) C.1 C.2.1 dX3_readOne_95 (by decide) ?_
            refine lv_icmp_ge (tgt := 127) C.1 C.2.1 dX3_readOne_96 (by decide) (fun c19 => ?_) (fun c19 => ?_)
            · exact absurd c19 (by decide)
            · refine lv_aload_n C.1 C.2.1 dX3_readOne_99 rfl (lv_at hl 1 rfl) ?_
              refine lv_dup C.1 C.2.1 dX3_readOne_100 rfl ?_
              refine mw_geti C Z hP (33) 1 (by decide) sx_33 rfl rfl (by decide) inX3 tw_1_154 dX3_readOne_101 ?_
              refine mw_top (y := nI a) (h.2.2.2.1) ?_
              refine lv_iconst (v := 1) C.1 C.2.1 dX3_readOne_104 (by decide) ?_
              refine lv_iadd C.1 C.2.1 dX3_readOne_105 ?_
              refine mw_top (y := nI (a + 1)) (nI_1 _) ?_
              refine mw_puti C Z hP hS (33) 1 (by decide) sx_33 rfl rfl (by decide) inX3 tyX3 tyX3_ok nmX3 rfl tw_1_154 rfl rfl dX3_readOne_106 (fun H locs hP hS => ?_)
              have pn20 := h.next hj hne
              have hb21 := pn20.2
              refine lv_aload_n C.1 C.2.1 dX3_readOne_109 rfl (lv_at hl 1 rfl) ?_
              refine lv_aload_n C.1 C.2.1 dX3_readOne_110 rfl (lv_at hl 2 rfl) ?_
              refine lv_iconst (v := 0) C.1 C.2.1 dX3_readOne_111 (by decide) ?_
              refine lv_iload_n C.1 C.2.1 dX3_readOne_112 rfl (lv_at hl 3 rfl) ?_
              refine lv_iconst (v := 1) C.1 C.2.1 dX3_readOne_113 (by decide) ?_
              refine lv_iadd C.1 C.2.1 dX3_readOne_114 ?_
              refine mw_top (y := 3) (by decide) ?_
              refine mw_cVv (As := [.ref (mw_a E (39 + j)), .int 0, .int 3]) (rest := []) C Z hP hS (33) (cX_l0_3 l E (mw_si σ 33 1 (nI (a + 1))) T j hj (a + 1) (ts.tail) cs (B - 1) (by omega) pn20.1) vb_X3_readLevel tw_2_216 ⟨rfl, rfl⟩ ⟨Nat.le_of_ble_eq_true rfl, Nat.le_of_ble_eq_true rfl⟩ (by decide) sx_33 rfl rfl rfl hl.1 rfl (Nat.le_of_ble_eq_true rfl) dX3_readOne_115 ⟨Nat.zero_le _, Nat.zero_le _⟩ (fun u31 H locs q32 hP hS => ?_)
              obtain ⟨hx22, f23⟩ := q32
              rcases e24 : (gD 2).2.2 (ts.tail) with ⟨cs25, ts26⟩ | qq29
              · rw [e24] at hx22
                obtain ⟨a27, po28⟩ := hx22
                have po28 : xPo u31 T j a27 ts26 (cs ++ cs25) (B - 1) := po28
                refine lv_aload_n C.1 C.2.1 dX3_readOne_118 rfl (lv_at hl 1 rfl) ?_
                refine lv_bipush (v := 13) C.1 C.2.1 dX3_readOne_119 (by decide) ?_
                refine mw_cVv (As := [.int 13]) (rest := []) C Z hP hS (33) (cX_passG l E u31 T j hj a27 ts26 ((cs ++ cs25)) (B - 1) (by omega) po28 13 (by decide)) vb_X3_pass tw_2_200 ⟨rfl, rfl⟩ ⟨Nat.le_of_ble_eq_true rfl, Nat.le_of_ble_eq_true rfl⟩ (by decide) sx_33 rfl rfl rfl hl.1 rfl (Nat.le_of_ble_eq_true rfl) dX3_readOne_121 ⟨Nat.zero_le _, Nat.zero_le _⟩ (fun u36 H locs q37 hP hS => ?_)
                by_cases hc33 : hdC ts26 = 13
                · have e34 := q37.1 hc33; subst e34
                  have pn38 := po28.next hj (by omega)
                  refine lv_goto (tgt := 131) C.1 C.2.1 dX3_readOne_124 (by decide) ?_
                  exact mw_vret C hr hlk Z hP hS dX3_readOne_131 (⟨xAf.gd ((congrFun gA_3 ts).trans (gAt_p1 h12 e24 hc33)) (pn38.1.wk (by omega)), ((((xPf.rf j σ).rd _ _).tr f23).rd _ _)⟩)
                · have e34 := q37.2 hc33; subst e34
                  have pb39 := po28.fail hj (by have y := po28.2.2.2.2.2.2; omega)
                  refine lv_goto (tgt := 131) C.1 C.2.1 dX3_readOne_124 (by decide) ?_
                  exact mw_vret C hr hlk Z hP hS dX3_readOne_131 (⟨xAf.bd ((congrFun gA_3 ts).trans (gAt_p2 h12 e24 hc33)) pb39, ((((xPf.rf j σ).rd _ _).tr f23).rd _ _)⟩)
              · rw [e24] at hx22
                have po28 : xPb u31 T j qq29 := hx22
                refine lv_aload_n C.1 C.2.1 dX3_readOne_118 rfl (lv_at hl 1 rfl) ?_
                refine lv_bipush (v := 13) C.1 C.2.1 dX3_readOne_119 (by decide) ?_
                refine mw_cVv (As := [.int 13]) (rest := []) C Z hP hS (33) (cX_passB l E u31 T j hj qq29 po28 (13 : Int32)) vb_X3_pass tw_2_200 ⟨rfl, rfl⟩ ⟨Nat.le_of_ble_eq_true rfl, Nat.le_of_ble_eq_true rfl⟩ (by decide) sx_33 rfl rfl rfl hl.1 rfl (Nat.le_of_ble_eq_true rfl) dX3_readOne_121 ⟨Nat.zero_le _, Nat.zero_le _⟩ (fun u41 H locs q42 hP hS => ?_)
                rw [q42] at hP; clear q42
                refine lv_goto (tgt := 131) C.1 C.2.1 dX3_readOne_124 (by decide) ?_
                exact mw_vret C hr hlk Z hP hS dX3_readOne_131 (⟨xAf.bd ((congrFun gA_3 ts).trans (gAt_p3 h12 e24)) po28, (((xPf.rf j σ).rd _ _).tr f23)⟩)
        · have h16 : hdC ts = 16 := nI_eqI (b := 16) (by omega) (by decide) c14
          have hne : hdC ts ≠ 21 := by omega
          refine lv_iload_n C.1 C.2.1 dX3_readOne_56 rfl (lv_at hl 3 rfl) ?_
          refine lv_iconst (v := 5) C.1 C.2.1 dX3_readOne_57 (by decide) ?_
          refine lv_icmp_ge (tgt := 88) C.1 C.2.1 dX3_readOne_58 (by decide) (fun c43 => ?_) (fun c43 => ?_)
          · exact absurd c43 (by decide)
          · refine lv_aload_n C.1 C.2.1 dX3_readOne_61 rfl (lv_at hl 1 rfl) ?_
            refine lv_dup C.1 C.2.1 dX3_readOne_62 rfl ?_
            refine mw_geti C Z hP (33) 1 (by decide) sx_33 rfl rfl (by decide) inX3 tw_1_154 dX3_readOne_63 ?_
            refine mw_top (y := nI a) (h.2.2.2.1) ?_
            refine lv_iconst (v := 1) C.1 C.2.1 dX3_readOne_66 (by decide) ?_
            refine lv_iadd C.1 C.2.1 dX3_readOne_67 ?_
            refine mw_top (y := nI (a + 1)) (nI_1 _) ?_
            refine mw_puti C Z hP hS (33) 1 (by decide) sx_33 rfl rfl (by decide) inX3 tyX3 tyX3_ok nmX3 rfl tw_1_154 rfl rfl dX3_readOne_68 (fun H locs hP hS => ?_)
            have pn44 := h.next hj hne
            have hb45 := pn44.2
            refine lv_aload_n C.1 C.2.1 dX3_readOne_71 rfl (lv_at hl 1 rfl) ?_
            refine lv_aload_n C.1 C.2.1 dX3_readOne_72 rfl (lv_at hl 2 rfl) ?_
            refine lv_iload_n C.1 C.2.1 dX3_readOne_73 rfl (lv_at hl 3 rfl) ?_
            refine lv_iconst (v := 1) C.1 C.2.1 dX3_readOne_74 (by decide) ?_
            refine lv_iadd C.1 C.2.1 dX3_readOne_75 ?_
            refine mw_top (y := 3) (by decide) ?_
            refine mw_cVv (As := [.ref (mw_a E (39 + j)), .int 3]) (rest := []) C Z hP hS (33) (cX_one3 l E (mw_si σ 33 1 (nI (a + 1))) T j hj (a + 1) (ts.tail) cs (B - 1) (by omega) pn44.1) vb_X3_readOne tw_2_220 ⟨rfl, rfl⟩ ⟨Nat.le_of_ble_eq_true rfl, Nat.le_of_ble_eq_true rfl⟩ (by decide) sx_33 rfl rfl rfl hl.1 rfl (Nat.le_of_ble_eq_true rfl) dX3_readOne_76 ⟨Nat.zero_le _, Nat.zero_le _⟩ (fun u55 H locs q56 hP hS => ?_)
            obtain ⟨hx46, f47⟩ := q56
            rcases e48 : (gD 2).1 (ts.tail) with ⟨cs49, ts50⟩ | qq53
            · rw [e48] at hx46
              obtain ⟨a51, po52⟩ := hx46
              have po52 : xPo u55 T j a51 ts50 (cs ++ cs49) (B - 1) := po52
              refine lv_aload_n C.1 C.2.1 dX3_readOne_79 rfl (lv_at hl 2 rfl) ?_
              refine lv_bipush (v := 20) C.1 C.2.1 dX3_readOne_80 (by decide) ?_
              refine mw_top (y := nI 20) (rfl) ?_
              refine mw_cVv (As := [.int (nI 20)]) (rest := []) C Z hP hS (39 + j) (cX_add l E u55 j hj ((cs ++ cs49)).length po52.2.2.2.2.2.1.1 (by have y := po52.2.2.2.2.2.2; omega) (nI 20)) vb_X8_add tw_2_224 ⟨rfl, rfl⟩ ⟨Nat.le_of_ble_eq_true rfl, Nat.le_of_ble_eq_true rfl⟩ (by omega) (sx_tx (by omega)) rfl rfl rfl hl.1 rfl (Nat.le_of_ble_eq_true rfl) dX3_readOne_82 ⟨Nat.zero_le _, Nat.zero_le _⟩ (fun u58 H locs q59 hP hS => ?_)
              have e60 := q59.1 (by have y := po52.2.2.2.2.2.2; omega)
              subst e60
              have po61 := (po52.add hj 20).wk (C := B) (by omega)
              refine lv_goto (tgt := 131) C.1 C.2.1 dX3_readOne_85 (by decide) ?_
              exact mw_vret C hr hlk Z hP hS dX3_readOne_131 (⟨xAf.gd ((congrFun gA_3 ts).trans (gAt_m1 h16 e48)) (by rw [← List.append_assoc]; exact po61), ((((xPf.rf j σ).rd _ _).tr f47).ad _ _ _)⟩)
            · rw [e48] at hx46
              have po52 : xPb u55 T j qq53 := hx46
              refine lv_aload_n C.1 C.2.1 dX3_readOne_79 rfl (lv_at hl 2 rfl) ?_
              refine lv_bipush (v := 20) C.1 C.2.1 dX3_readOne_80 (by decide) ?_
              refine mw_top (y := nI 20) (rfl) ?_
              obtain ⟨k62, hk63, ek64⟩ := po52.2.2.2
              refine mw_cVv (As := [.int (nI 20)]) (rest := []) C Z hP hS (39 + j) (cX_add l E u55 j hj k62 ek64 hk63 (nI 20)) vb_X8_add tw_2_224 ⟨rfl, rfl⟩ ⟨Nat.le_of_ble_eq_true rfl, Nat.le_of_ble_eq_true rfl⟩ (by omega) (sx_tx (by omega)) rfl rfl rfl hl.1 rfl (Nat.le_of_ble_eq_true rfl) dX3_readOne_82 ⟨Nat.zero_le _, Nat.zero_le _⟩ (fun u67 H locs q68 hP hS => ?_)
              have w65 := xPb.add po52 hj hk63 q68
              refine lv_goto (tgt := 131) C.1 C.2.1 dX3_readOne_85 (by decide) ?_
              exact mw_vret C hr hlk Z hP hS dX3_readOne_131 (⟨xAf.bd ((congrFun gA_3 ts).trans (gAt_m2 h16 e48)) w65.1, ((((xPf.rf j σ).rd _ _).tr f47).tr w65.2)⟩)
      · have c13 := (not_congr (nI_ltI (b := 100) (by omega) (by decide))).mp c13
        have hcl : hdC ts ≤ 5 ∨ 100 ≤ hdC ts := by omega
        have hne : hdC ts ≠ 21 := by omega
        refine lv_aload_n C.1 C.2.1 dX3_readOne_32 rfl (lv_at hl 1 rfl) ?_
        refine lv_dup C.1 C.2.1 dX3_readOne_33 rfl ?_
        refine mw_geti C Z hP (33) 1 (by decide) sx_33 rfl rfl (by decide) inX3 tw_1_154 dX3_readOne_34 ?_
        refine mw_top (y := nI a) (h.2.2.2.1) ?_
        refine lv_iconst (v := 1) C.1 C.2.1 dX3_readOne_37 (by decide) ?_
        refine lv_iadd C.1 C.2.1 dX3_readOne_38 ?_
        refine mw_top (y := nI (a + 1)) (nI_1 _) ?_
        refine mw_puti C Z hP hS (33) 1 (by decide) sx_33 rfl rfl (by decide) inX3 tyX3 tyX3_ok nmX3 rfl tw_1_154 rfl rfl dX3_readOne_39 (fun H locs hP hS => ?_)
        have pn69 := h.next hj hne
        have hb70 := pn69.2
        refine lv_aload_n C.1 C.2.1 dX3_readOne_42 rfl (lv_at hl 2 rfl) ?_
        refine lv_iload_n C.1 C.2.1 dX3_readOne_43 rfl (lv_at hl 0 rfl) ?_
        refine mw_cVv (As := [.int (nI (hdC ts))]) (rest := []) C Z hP hS (39 + j) (cX_add l E (mw_si σ 33 1 (nI (a + 1))) j hj cs.length pn69.1.2.2.2.2.2.1.1 (by have y := pn69.1.2.2.2.2.2.2; omega) (nI (hdC ts))) vb_X8_add tw_2_224 ⟨rfl, rfl⟩ ⟨Nat.le_of_ble_eq_true rfl, Nat.le_of_ble_eq_true rfl⟩ (by omega) (sx_tx (by omega)) rfl rfl rfl hl.1 rfl (Nat.le_of_ble_eq_true rfl) dX3_readOne_44 ⟨Nat.zero_le _, Nat.zero_le _⟩ (fun u72 H locs q73 hP hS => ?_)
        have e74 := q73.1 (by have y := pn69.1.2.2.2.2.2.2; omega)
        subst e74
        have po75 := (pn69.1.add hj (hdC ts)).wk (C := B) (by omega)
        refine lv_goto (tgt := 131) C.1 C.2.1 dX3_readOne_47 (by decide) ?_
        exact mw_vret C hr hlk Z hP hS dX3_readOne_131 (⟨xAf.gd ((congrFun gA_3 ts).trans (gAt_a hcl)) po75, (((xPf.rf j σ).rd _ _).ad _ _ _)⟩)
  · exact absurd c4 (by decide)

set_option maxHeartbeats 4000000 in
set_option maxRecDepth 100000 in
theorem cX_l5_2 (l : Launch) (E : mw_E) (σ : mw_M) (T : List (Nat × Nat)) (j : Nat) (hj : j < 6) (a : Nat) (ts : List (Nat × Nat)) (cs : List Nat) (B : Nat) (hB : B ≤ 160) (h : xPo σ T j a ts cs B) : mw_Cv shX 75 gX l yX3_readLevel cX3_readLevel 6 none (rmF 26 668) E [.ref (mw_a E 33), .ref (mw_a E (39 + j)), .int 5, .int 2] σ (fun u => xAf T j B cs ((gD 3).1 ts) u ∧ xPf j σ u) := by
  refine mw_of (by decide) gX_ok (Nat.le_of_ble_eq_true rfl) ?_
  intro p_ e_ s_ m_ below meth c_ C hr hlk Z hP ls hl
  have C : CallFix p_ m_ c_ cX3_readLevel 6 s_ _ lw_good RX3 := C
  have hl : lv_has ls 6 [(0, .ref (mw_a E 33)), (1, .ref (mw_a E (39 + j))), (2, .int 5), (3, .int 2)] := hl
  have hS : va_S (mw_A 75 E) s_.heap s_.heap [] := va_S.rf
  have hlt : hdC ts < 20000 := by have y := (h.1.lt a).1; rw [h.2.1] at y; exact y
  refine lv_iload_n C.1 C.2.1 dX3_readLevel_0 rfl (lv_at hl 2 rfl) ?_
  refine lv_iconst (v := 4) C.1 C.2.1 dX3_readLevel_1 (by decide) ?_
  refine lv_icmp_le (tgt := 12) C.1 C.2.1 dX3_readLevel_2 (by decide) (fun c1 => ?_) (fun c1 => ?_)
  · exact absurd c1 (by decide)
  · refine lv_aload_n C.1 C.2.1 dX3_readLevel_5 rfl (lv_at hl 0 rfl) ?_
    refine lv_aload_n C.1 C.2.1 dX3_readLevel_6 rfl (lv_at hl 1 rfl) ?_
    refine lv_iload_n C.1 C.2.1 dX3_readLevel_7 rfl (lv_at hl 3 rfl) ?_
    refine mw_cVv (As := [.ref (mw_a E (39 + j)), .int 2]) (rest := []) C Z hP hS (33) (cX_one2 l E σ T j hj a ts cs B (by omega) h) vb_X3_readOne tw_2_220 ⟨rfl, rfl⟩ ⟨Nat.le_of_ble_eq_true rfl, Nat.le_of_ble_eq_true rfl⟩ (by decide) sx_33 rfl rfl rfl hl.1 rfl (Nat.le_of_ble_eq_true rfl) dX3_readLevel_8 ⟨Nat.zero_le _, Nat.zero_le _⟩ (fun u11 H locs q12 hP hS => ?_)
    obtain ⟨hx2, f3⟩ := q12
    rcases e4 : (gD 3).1 ts with ⟨cs5, ts6⟩ | qq9
    · rw [e4] at hx2
      obtain ⟨a7, po8⟩ := hx2
      have po8 : xPo u11 T j a7 ts6 (cs ++ cs5) B := po8
      exact mw_vret C hr hlk Z hP hS dX3_readLevel_11 (⟨xAf.gd rfl po8, ((xPf.rf j σ).tr f3)⟩)
    · rw [e4] at hx2
      have po8 : xPb u11 T j qq9 := hx2
      exact mw_vret C hr hlk Z hP hS dX3_readLevel_11 (⟨xAf.bd rfl po8, ((xPf.rf j σ).tr f3)⟩)

set_option maxHeartbeats 4000000 in
set_option maxRecDepth 100000 in
theorem cX_l4_2 (l : Launch) (E : mw_E) (σ : mw_M) (T : List (Nat × Nat)) (j : Nat) (hj : j < 6) (a : Nat) (ts : List (Nat × Nat)) (cs : List Nat) (B : Nat) (hB : B ≤ 160) (h : xPo σ T j a ts cs B) : mw_Cv shX 75 gX l yX3_readLevel cX3_readLevel 6 none (rmF 27 693) E [.ref (mw_a E 33), .ref (mw_a E (39 + j)), .int 4, .int 2] σ (fun u => xAf T j B cs ((gLevel gTim (gD 3).1) ts) u ∧ xPf j σ u) := by
  refine mw_of (by decide) gX_ok (Nat.le_of_ble_eq_true rfl) ?_
  intro p_ e_ s_ m_ below meth c_ C hr hlk Z hP ls hl
  have C : CallFix p_ m_ c_ cX3_readLevel 6 s_ _ lw_good RX3 := C
  have hl : lv_has ls 6 [(0, .ref (mw_a E 33)), (1, .ref (mw_a E (39 + j))), (2, .int 4), (3, .int 2)] := hl
  have hS : va_S (mw_A 75 E) s_.heap s_.heap [] := va_S.rf
  have hlt : hdC ts < 20000 := by have y := (h.1.lt a).1; rw [h.2.1] at y; exact y
  refine lv_iload_n C.1 C.2.1 dX3_readLevel_0 rfl (lv_at hl 2 rfl) ?_
  refine lv_iconst (v := 4) C.1 C.2.1 dX3_readLevel_1 (by decide) ?_
  refine lv_icmp_le (tgt := 12) C.1 C.2.1 dX3_readLevel_2 (by decide) (fun c1 => ?_) (fun c1 => ?_)
  · refine lv_iload_n C.1 C.2.1 dX3_readLevel_12 rfl (lv_at hl 2 rfl) ?_
    refine lv_iconst (v := 2) C.1 C.2.1 dX3_readLevel_13 (by decide) ?_
    refine lv_icmp_ne (tgt := 40) C.1 C.2.1 dX3_readLevel_14 (by decide) (fun c2 => ?_) (fun c2 => ?_)
    · refine lv_aload_n C.1 C.2.1 dX3_readLevel_40 rfl (lv_at hl 0 rfl) ?_
      refine lv_aload_n C.1 C.2.1 dX3_readLevel_41 rfl (lv_at hl 1 rfl) ?_
      refine lv_iload_n C.1 C.2.1 dX3_readLevel_42 rfl (lv_at hl 2 rfl) ?_
      refine lv_iconst (v := 1) C.1 C.2.1 dX3_readLevel_43 (by decide) ?_
      refine lv_iadd C.1 C.2.1 dX3_readLevel_44 ?_
      refine mw_top (y := 5) (by decide) ?_
      refine lv_iload_n C.1 C.2.1 dX3_readLevel_45 rfl (lv_at hl 3 rfl) ?_
      refine mw_cVv (As := [.ref (mw_a E (39 + j)), .int 5, .int 2]) (rest := []) C Z hP hS (33) (cX_l5_2 l E σ T j hj a ts cs B (by omega) h) vb_X3_readLevel tw_2_216 ⟨rfl, rfl⟩ ⟨Nat.le_of_ble_eq_true rfl, Nat.le_of_ble_eq_true rfl⟩ (by decide) sx_33 rfl rfl rfl hl.1 rfl (Nat.le_of_ble_eq_true rfl) dX3_readLevel_46 ⟨Nat.zero_le _, Nat.zero_le _⟩ (fun u12 H locs q13 hP hS => ?_)
      obtain ⟨hx3, f4⟩ := q13
      rcases e5 : (gD 3).1 ts with ⟨cs6, ts7⟩ | qq10
      · rw [e5] at hx3
        obtain ⟨a8, po9⟩ := hx3
        have po9 : xPo u12 T j a8 ts7 (cs ++ cs6) B := po9
        refine lv_iconst (v := 0) C.1 C.2.1 dX3_readLevel_49 (by decide) ?_
        refine lv_istore (lv' := [(4, .int 0), (0, .ref (mw_a E 33)), (1, .ref (mw_a E (39 + j))), (2, .int 4), (3, .int 2)]) C.1 C.2.1 dX3_readLevel_50 hl (by decide) rfl (fun ls hl => ?_)
        have lpa : ∀ (N : Nat) (a1 : Nat) (t : Nat) (f : Nat) (ts1 : List (Nat × Nat)) (cs1 : List Nat) (ςa : mw_M) (H : Heap) (locs : List Loc), 161 ≤ t + N → (t ≤ 160) → (ts1.length ≤ f) → (t + ts1.length ≤ 160) → ((gLevel gTim (gD 3).1) ts = gLoop gTim (gD 3).1 f cs1 ts1) → (xPo ςa T j a1 ts1 (cs ++ cs1) B) → xPf j σ ςa → va_P (mw_D E) vwCl (mw_ws shX 75 E ςa) H → va_S (mw_A 75 E) s_.heap H locs → ∀ (ls : Array Slot), lv_has ls 6 [(0, .ref (mw_a E 33)), (1, .ref (mw_a E (39 + j))), (2, .int 4), (3, .int 2), (4, .int (nI t))] → xWv p_ l e_ (rmF 27 693) s_ m_ [.ref (mw_a E 33), .ref (mw_a E (39 + j)), .int 4, .int 2] below meth c_ E (fun u => xAf T j B cs ((gLevel gTim (gD 3).1) ts) u ∧ xPf j σ u) H locs (F0 m_ 52 ls []) := by
          intro N
          induction N with
          | zero => intros; exfalso; omega
          | succ N iha =>
            intro a1 t f ts1 cs1 ςa H locs hNa ht hf htl hsp hpo fra hP hS ls hl
            refine lv_iload C.1 C.2.1 dX3_readLevel_52 (lv_at hl 4 rfl) ?_
            refine lv_sipush (v := 160) C.1 C.2.1 dX3_readLevel_54 (by decide) ?_
            refine lv_icmp_ge (tgt := 128) C.1 C.2.1 dX3_readLevel_57 (by decide) (fun c14 => ?_) (fun c14 => ?_)
            · have c14 := (nI_leI (a := 160) (by decide) (by omega)).mp c14
              have e0 : ts1 = [] := List.eq_nil_of_length_eq_zero (by omega)
              exact mw_vret C hr hlk Z hP hS dX3_readLevel_128 (⟨xAf.gd (hsp.trans (gLoop_stop (by rw [e0]; decide))) hpo, fra⟩)
            · have c14 := (not_congr (nI_leI (a := 160) (by decide) (by omega))).mp c14
              refine lv_aload_n C.1 C.2.1 dX3_readLevel_60 rfl (lv_at hl 0 rfl) ?_
              refine mw_geti C Z hP (33) 2 (by decide) sx_33 rfl rfl (by decide) inX3 tw_1_155 dX3_readLevel_61 ?_
              refine mw_top (y := -1) (hpo.2.2.2.2.1) ?_
              refine lv_iconst (v := -1) C.1 C.2.1 dX3_readLevel_64 (by decide) ?_
              refine lv_icmp_ne (tgt := 128) C.1 C.2.1 dX3_readLevel_65 (by decide) (fun c15 => ?_) (fun c15 => ?_)
              · exact absurd c15 (by decide)
              · refine lv_aload_n C.1 C.2.1 dX3_readLevel_68 rfl (lv_at hl 0 rfl) ?_
                refine mw_getr C Z hP (33) 0 (34) (by decide) sx_33 rfl rfl (by decide) inX3 tw_1_153 dX3_readLevel_69 ?_
                refine lv_aload_n C.1 C.2.1 dX3_readLevel_72 rfl (lv_at hl 0 rfl) ?_
                refine mw_geti C Z hP (33) 1 (by decide) sx_33 rfl rfl (by decide) inX3 tw_1_154 dX3_readLevel_73 ?_
                refine mw_top (y := nI a1) (hpo.2.2.2.1) ?_
                refine mw_cVi (As := [.int (nI a1)]) (rest := []) C Z hP hS (34) (cX_tokenAt l E ςa T.length hpo.1.2.1 hpo.1.1 a1 (by have y1 := hpo.1.1; have y2 := hpo.2.2.1; omega)) vb_X10_tokenAt tw_2_204 ⟨rfl, rfl⟩ ⟨Nat.le_of_ble_eq_true rfl, Nat.le_of_ble_eq_true rfl⟩ (by decide) sx_34 rfl rfl rfl hl.1 rfl (Nat.le_of_ble_eq_true rfl) dX3_readLevel_76 ⟨Nat.zero_le _, Nat.zero_le _⟩ (fun r16 u17 H locs q18 hP hS => ?_)
                rw [(hpo.1.tok a1).1, hpo.2.1] at q18
                obtain ⟨rfl, q18u⟩ := q18
                rw [q18u] at hP; clear q18u
                refine lv_istore (lv' := [(5, .int (nI (hdC ts1))), (0, .ref (mw_a E 33)), (1, .ref (mw_a E (39 + j))), (2, .int 4), (3, .int 2), (4, .int (nI t))]) C.1 C.2.1 dX3_readLevel_79 hl (by decide) rfl (fun ls hl => ?_)
                refine lv_iload C.1 C.2.1 dX3_readLevel_81 (lv_at hl 0 rfl) ?_
                refine mw_cSi (As := [.int (nI (hdC ts1))]) (rest := []) C Z hP hS (cX_levelOf l E ςa (hdC ts1) (by have y := (hpo.1.lt a1).1; rw [hpo.2.1] at y; omega)) sb_X3_levelOf tw_2_232 ⟨rfl, rfl⟩ ⟨Nat.le_of_ble_eq_true rfl, Nat.le_of_ble_eq_true rfl⟩ rfl hl.1 rfl (Nat.le_of_ble_eq_true rfl) dX3_readLevel_83 ⟨Nat.zero_le _, Nat.zero_le _⟩ (fun r19 u20 H locs q21 hP hS => ?_)
                obtain ⟨rfl, q21u⟩ := q21
                rw [q21u] at hP; clear q21u
                refine lv_iload_n C.1 C.2.1 dX3_readLevel_86 rfl (lv_at hl 3 rfl) ?_
                refine lv_icmp_eq (tgt := 91) C.1 C.2.1 dX3_readLevel_87 (by decide) (fun c22 => ?_) (fun c22 => ?_)
                · have hop := lv_4.mp c22
                  have hne : hdC ts1 ≠ 21 := lv_21 c22 (by decide)
                  obtain ⟨f2, ef, egl⟩ := gLoop_go (x := (gD 3).1) (cs := cs1) hne hop hf
                  refine lv_aload_n C.1 C.2.1 dX3_readLevel_91 rfl (lv_at hl 1 rfl) ?_
                  refine lv_dup C.1 C.2.1 dX3_readLevel_92 rfl ?_
                  refine mw_geti C Z hP (33) 1 (by decide) sx_33 rfl rfl (by decide) inX3 tw_1_154 dX3_readLevel_93 ?_
                  refine mw_top (y := nI a1) (hpo.2.2.2.1) ?_
                  refine lv_iconst (v := 1) C.1 C.2.1 dX3_readLevel_96 (by decide) ?_
                  refine lv_iadd C.1 C.2.1 dX3_readLevel_97 ?_
                  refine mw_top (y := nI (a1 + 1)) (nI_1 _) ?_
                  refine mw_puti C Z hP hS (33) 1 (by decide) sx_33 rfl rfl (by decide) inX3 tyX3 tyX3_ok nmX3 rfl tw_1_154 rfl rfl dX3_readLevel_98 (fun H locs hP hS => ?_)
                  have pn23 := hpo.next hj hne
                  have hb24 := pn23.2
                  refine lv_aload_n C.1 C.2.1 dX3_readLevel_101 rfl (lv_at hl 1 rfl) ?_
                  refine lv_aload_n C.1 C.2.1 dX3_readLevel_102 rfl (lv_at hl 2 rfl) ?_
                  refine lv_iload_n C.1 C.2.1 dX3_readLevel_103 rfl (lv_at hl 3 rfl) ?_
                  refine lv_iconst (v := 1) C.1 C.2.1 dX3_readLevel_104 (by decide) ?_
                  refine lv_iadd C.1 C.2.1 dX3_readLevel_105 ?_
                  refine mw_top (y := 5) (by decide) ?_
                  refine lv_iload_n C.1 C.2.1 dX3_readLevel_106 rfl (lv_at hl 4 rfl) ?_
                  refine mw_cVv (As := [.ref (mw_a E (39 + j)), .int 5, .int 2]) (rest := []) C Z hP hS (33) (cX_l5_2 l E (mw_si ςa 33 1 (nI (a1 + 1))) T j hj (a1 + 1) (ts1.tail) ((cs ++ cs1)) (B - 1) (by omega) pn23.1) vb_X3_readLevel tw_2_216 ⟨rfl, rfl⟩ ⟨Nat.le_of_ble_eq_true rfl, Nat.le_of_ble_eq_true rfl⟩ (by decide) sx_33 rfl rfl rfl hl.1 rfl (Nat.le_of_ble_eq_true rfl) dX3_readLevel_107 ⟨Nat.zero_le _, Nat.zero_le _⟩ (fun u34 H locs q35 hP hS => ?_)
                  obtain ⟨hx25, f26⟩ := q35
                  rcases e27 : (gD 3).1 (ts1.tail) with ⟨cs28, ts29⟩ | qq32
                  · rw [e27] at hx25
                    obtain ⟨a30, po31⟩ := hx25
                    have po31 : xPo u34 T j a30 ts29 ((cs ++ cs1) ++ cs28) (B - 1) := po31
                    refine lv_aload_n C.1 C.2.1 dX3_readLevel_110 rfl (lv_at hl 2 rfl) ?_
                    refine lv_iload C.1 C.2.1 dX3_readLevel_111 (lv_at hl 0 rfl) ?_
                    refine mw_cVv (As := [.int (nI (hdC ts1))]) (rest := []) C Z hP hS (39 + j) (cX_add l E u34 j hj (((cs ++ cs1) ++ cs28)).length po31.2.2.2.2.2.1.1 (by have y := po31.2.2.2.2.2.2; omega) (nI (hdC ts1))) vb_X8_add tw_2_224 ⟨rfl, rfl⟩ ⟨Nat.le_of_ble_eq_true rfl, Nat.le_of_ble_eq_true rfl⟩ (by omega) (sx_tx (by omega)) rfl rfl rfl hl.1 rfl (Nat.le_of_ble_eq_true rfl) dX3_readLevel_113 ⟨Nat.zero_le _, Nat.zero_le _⟩ (fun u37 H locs q38 hP hS => ?_)
                    have e39 := q38.1 (by have y := po31.2.2.2.2.2.2; omega)
                    subst e39
                    have po40 := (po31.add hj (hdC ts1)).wk (C := B) (by omega)
                    refine lv_iload_n C.1 C.2.1 dX3_readLevel_116 rfl (lv_at hl 3 rfl) ?_
                    refine lv_iconst (v := 2) C.1 C.2.1 dX3_readLevel_117 (by decide) ?_
                    refine lv_icmp_ne (tgt := 122) C.1 C.2.1 dX3_readLevel_118 (by decide) (fun c41 => ?_) (fun c41 => ?_)
                    · refine lv_iinc (v := nI (t + 1)) (lv' := [(4, .int (nI (t + 1))), (5, .int (nI (hdC ts1))), (0, .ref (mw_a E 33)), (1, .ref (mw_a E (39 + j))), (2, .int 4), (3, .int 2)]) C.1 C.2.1 dX3_readLevel_122 hl (k := 5) rfl (nI_1 _) (by decide) rfl (fun ls hl => ?_)
                      refine lv_goto (tgt := 52) C.1 C.2.1 dX3_readLevel_125 (by decide) ?_
                      exact iha a30 (t + 1) f2 ts29 (cs1 ++ cs28 ++ [hdC ts1]) (mw_si (mw_sa u34 (45 + j) (((cs ++ cs1) ++ cs28)).length (nI (hdC ts1))) (39 + j) 3 (nI ((((cs ++ cs1) ++ cs28)).length + 1))) _ _ (by omega) (by omega) (by have y1 := ((gD_dec 3).1) _ _ _ e27; have y2 := tail_len hne; omega) (by have y1 := ((gD_dec 3).1) _ _ _ e27; have y2 := tail_len hne; omega) (hsp.trans (egl.trans (by rw [e27]))) ((by rw [← List.append_assoc]; rw [← List.append_assoc]; exact po40)) (((fra.rd _ _).tr f26).ad _ _ _) hP hS ls (lv_sub hl [2, 3, 4, 5, 0] rfl)
                    · exact absurd c41 (by decide)
                  · rw [e27] at hx25
                    have po31 : xPb u34 T j qq32 := hx25
                    refine lv_aload_n C.1 C.2.1 dX3_readLevel_110 rfl (lv_at hl 2 rfl) ?_
                    refine lv_iload C.1 C.2.1 dX3_readLevel_111 (lv_at hl 0 rfl) ?_
                    obtain ⟨k42, hk43, ek44⟩ := po31.2.2.2
                    refine mw_cVv (As := [.int (nI (hdC ts1))]) (rest := []) C Z hP hS (39 + j) (cX_add l E u34 j hj k42 ek44 hk43 (nI (hdC ts1))) vb_X8_add tw_2_224 ⟨rfl, rfl⟩ ⟨Nat.le_of_ble_eq_true rfl, Nat.le_of_ble_eq_true rfl⟩ (by omega) (sx_tx (by omega)) rfl rfl rfl hl.1 rfl (Nat.le_of_ble_eq_true rfl) dX3_readLevel_113 ⟨Nat.zero_le _, Nat.zero_le _⟩ (fun u47 H locs q48 hP hS => ?_)
                    have w45 := xPb.add po31 hj hk43 q48
                    refine lv_iload_n C.1 C.2.1 dX3_readLevel_116 rfl (lv_at hl 3 rfl) ?_
                    refine lv_iconst (v := 2) C.1 C.2.1 dX3_readLevel_117 (by decide) ?_
                    refine lv_icmp_ne (tgt := 122) C.1 C.2.1 dX3_readLevel_118 (by decide) (fun c49 => ?_) (fun c49 => ?_)
                    · refine lv_iinc (v := nI (t + 1)) (lv' := [(4, .int (nI (t + 1))), (5, .int (nI (hdC ts1))), (0, .ref (mw_a E 33)), (1, .ref (mw_a E (39 + j))), (2, .int 4), (3, .int 2)]) C.1 C.2.1 dX3_readLevel_122 hl (k := 5) rfl (nI_1 _) (by decide) rfl (fun ls hl => ?_)
                      refine lv_goto (tgt := 52) C.1 C.2.1 dX3_readLevel_125 (by decide) ?_
                      refine lv_iload C.1 C.2.1 dX3_readLevel_52 (lv_at hl 0 rfl) ?_
                      refine lv_sipush (v := 160) C.1 C.2.1 dX3_readLevel_54 (by decide) ?_
                      refine lv_icmp_ge (tgt := 128) C.1 C.2.1 dX3_readLevel_57 (by decide) (fun c50 => ?_) (fun c50 => ?_)
                      · exact mw_vret C hr hlk Z hP hS dX3_readLevel_128 (⟨xAf.bd (hsp.trans (egl.trans (by rw [e27]))) w45.1, (((fra.rd _ _).tr f26).tr w45.2)⟩)
                      · refine lv_aload_n C.1 C.2.1 dX3_readLevel_60 rfl (lv_at hl 2 rfl) ?_
                        refine mw_geti C Z hP (33) 2 (by decide) sx_33 rfl rfl (by decide) inX3 tw_1_155 dX3_readLevel_61 ?_
                        refine mw_top (y := nI qq32) (w45.1.2.2.1.1) ?_
                        refine lv_iconst (v := -1) C.1 C.2.1 dX3_readLevel_64 (by decide) ?_
                        refine lv_icmp_ne (tgt := 128) C.1 C.2.1 dX3_readLevel_65 (by decide) (fun c51 => ?_) (fun c51 => ?_)
                        · exact mw_vret C hr hlk Z hP hS dX3_readLevel_128 (⟨xAf.bd (hsp.trans (egl.trans (by rw [e27]))) w45.1, (((fra.rd _ _).tr f26).tr w45.2)⟩)
                        · exact absurd c51 (nI_nm1 (by have y := w45.1.2.2.1.2; omega))
                    · exact absurd c49 (by decide)
                · have hnop : ¬ gTim (hdC ts1) = true := fun y => c22 (lv_4.mpr y)
                  exact mw_vret C hr hlk Z hP hS dX3_readLevel_90 (⟨xAf.gd (hsp.trans (gLoop_stop hnop)) hpo, fra⟩)
        exact lpa (161) a8 0 (ts7.length) ts7 cs6 u12 _ _ (by omega) (by omega) (Nat.le_refl _) (by have y := po9.2.2.2.2.2.2; omega) ((gLevel_g e5)) (po9) ((xPf.rf j σ).tr f4) hP hS ls (lv_sub hl [1, 2, 3, 4, 0] rfl)
      · rw [e5] at hx3
        have po9 : xPb u12 T j qq10 := hx3
        refine lv_iconst (v := 0) C.1 C.2.1 dX3_readLevel_49 (by decide) ?_
        refine lv_istore (lv' := [(4, .int 0), (0, .ref (mw_a E 33)), (1, .ref (mw_a E (39 + j))), (2, .int 4), (3, .int 2)]) C.1 C.2.1 dX3_readLevel_50 hl (by decide) rfl (fun ls hl => ?_)
        refine lv_iload C.1 C.2.1 dX3_readLevel_52 (lv_at hl 0 rfl) ?_
        refine lv_sipush (v := 160) C.1 C.2.1 dX3_readLevel_54 (by decide) ?_
        refine lv_icmp_ge (tgt := 128) C.1 C.2.1 dX3_readLevel_57 (by decide) (fun c52 => ?_) (fun c52 => ?_)
        · exact absurd c52 (by decide)
        · refine lv_aload_n C.1 C.2.1 dX3_readLevel_60 rfl (lv_at hl 1 rfl) ?_
          refine mw_geti C Z hP (33) 2 (by decide) sx_33 rfl rfl (by decide) inX3 tw_1_155 dX3_readLevel_61 ?_
          refine mw_top (y := nI qq10) (po9.2.2.1.1) ?_
          refine lv_iconst (v := -1) C.1 C.2.1 dX3_readLevel_64 (by decide) ?_
          refine lv_icmp_ne (tgt := 128) C.1 C.2.1 dX3_readLevel_65 (by decide) (fun c53 => ?_) (fun c53 => ?_)
          · exact mw_vret C hr hlk Z hP hS dX3_readLevel_128 (⟨xAf.bd ((gLevel_b e5)) po9, ((xPf.rf j σ).tr f4)⟩)
          · exact absurd c53 (nI_nm1 (by have y := po9.2.2.1.2; omega))
    · exact absurd c2 (by decide)
  · exact absurd c1 (by decide)

set_option maxHeartbeats 4000000 in
set_option maxRecDepth 100000 in
theorem cX_l3_2 (l : Launch) (E : mw_E) (σ : mw_M) (T : List (Nat × Nat)) (j : Nat) (hj : j < 6) (a : Nat) (ts : List (Nat × Nat)) (cs : List Nat) (B : Nat) (hB : B ≤ 160) (h : xPo σ T j a ts cs B) : mw_Cv shX 75 gX l yX3_readLevel cX3_readLevel 6 none (rmF 28 718) E [.ref (mw_a E 33), .ref (mw_a E (39 + j)), .int 3, .int 2] σ (fun u => xAf T j B cs ((gLevel gAdd (gLevel gTim (gD 3).1)) ts) u ∧ xPf j σ u) := by
  refine mw_of (by decide) gX_ok (Nat.le_of_ble_eq_true rfl) ?_
  intro p_ e_ s_ m_ below meth c_ C hr hlk Z hP ls hl
  have C : CallFix p_ m_ c_ cX3_readLevel 6 s_ _ lw_good RX3 := C
  have hl : lv_has ls 6 [(0, .ref (mw_a E 33)), (1, .ref (mw_a E (39 + j))), (2, .int 3), (3, .int 2)] := hl
  have hS : va_S (mw_A 75 E) s_.heap s_.heap [] := va_S.rf
  have hlt : hdC ts < 20000 := by have y := (h.1.lt a).1; rw [h.2.1] at y; exact y
  refine lv_iload_n C.1 C.2.1 dX3_readLevel_0 rfl (lv_at hl 2 rfl) ?_
  refine lv_iconst (v := 4) C.1 C.2.1 dX3_readLevel_1 (by decide) ?_
  refine lv_icmp_le (tgt := 12) C.1 C.2.1 dX3_readLevel_2 (by decide) (fun c1 => ?_) (fun c1 => ?_)
  · refine lv_iload_n C.1 C.2.1 dX3_readLevel_12 rfl (lv_at hl 2 rfl) ?_
    refine lv_iconst (v := 2) C.1 C.2.1 dX3_readLevel_13 (by decide) ?_
    refine lv_icmp_ne (tgt := 40) C.1 C.2.1 dX3_readLevel_14 (by decide) (fun c2 => ?_) (fun c2 => ?_)
    · refine lv_aload_n C.1 C.2.1 dX3_readLevel_40 rfl (lv_at hl 0 rfl) ?_
      refine lv_aload_n C.1 C.2.1 dX3_readLevel_41 rfl (lv_at hl 1 rfl) ?_
      refine lv_iload_n C.1 C.2.1 dX3_readLevel_42 rfl (lv_at hl 2 rfl) ?_
      refine lv_iconst (v := 1) C.1 C.2.1 dX3_readLevel_43 (by decide) ?_
      refine lv_iadd C.1 C.2.1 dX3_readLevel_44 ?_
      refine mw_top (y := 4) (by decide) ?_
      refine lv_iload_n C.1 C.2.1 dX3_readLevel_45 rfl (lv_at hl 3 rfl) ?_
      refine mw_cVv (As := [.ref (mw_a E (39 + j)), .int 4, .int 2]) (rest := []) C Z hP hS (33) (cX_l4_2 l E σ T j hj a ts cs B (by omega) h) vb_X3_readLevel tw_2_216 ⟨rfl, rfl⟩ ⟨Nat.le_of_ble_eq_true rfl, Nat.le_of_ble_eq_true rfl⟩ (by decide) sx_33 rfl rfl rfl hl.1 rfl (Nat.le_of_ble_eq_true rfl) dX3_readLevel_46 ⟨Nat.zero_le _, Nat.zero_le _⟩ (fun u12 H locs q13 hP hS => ?_)
      obtain ⟨hx3, f4⟩ := q13
      rcases e5 : (gLevel gTim (gD 3).1) ts with ⟨cs6, ts7⟩ | qq10
      · rw [e5] at hx3
        obtain ⟨a8, po9⟩ := hx3
        have po9 : xPo u12 T j a8 ts7 (cs ++ cs6) B := po9
        refine lv_iconst (v := 0) C.1 C.2.1 dX3_readLevel_49 (by decide) ?_
        refine lv_istore (lv' := [(4, .int 0), (0, .ref (mw_a E 33)), (1, .ref (mw_a E (39 + j))), (2, .int 3), (3, .int 2)]) C.1 C.2.1 dX3_readLevel_50 hl (by decide) rfl (fun ls hl => ?_)
        have lpa : ∀ (N : Nat) (a1 : Nat) (t : Nat) (f : Nat) (ts1 : List (Nat × Nat)) (cs1 : List Nat) (ςa : mw_M) (H : Heap) (locs : List Loc), 161 ≤ t + N → (t ≤ 160) → (ts1.length ≤ f) → (t + ts1.length ≤ 160) → ((gLevel gAdd (gLevel gTim (gD 3).1)) ts = gLoop gAdd (gLevel gTim (gD 3).1) f cs1 ts1) → (xPo ςa T j a1 ts1 (cs ++ cs1) B) → xPf j σ ςa → va_P (mw_D E) vwCl (mw_ws shX 75 E ςa) H → va_S (mw_A 75 E) s_.heap H locs → ∀ (ls : Array Slot), lv_has ls 6 [(0, .ref (mw_a E 33)), (1, .ref (mw_a E (39 + j))), (2, .int 3), (3, .int 2), (4, .int (nI t))] → xWv p_ l e_ (rmF 28 718) s_ m_ [.ref (mw_a E 33), .ref (mw_a E (39 + j)), .int 3, .int 2] below meth c_ E (fun u => xAf T j B cs ((gLevel gAdd (gLevel gTim (gD 3).1)) ts) u ∧ xPf j σ u) H locs (F0 m_ 52 ls []) := by
          intro N
          induction N with
          | zero => intros; exfalso; omega
          | succ N iha =>
            intro a1 t f ts1 cs1 ςa H locs hNa ht hf htl hsp hpo fra hP hS ls hl
            refine lv_iload C.1 C.2.1 dX3_readLevel_52 (lv_at hl 4 rfl) ?_
            refine lv_sipush (v := 160) C.1 C.2.1 dX3_readLevel_54 (by decide) ?_
            refine lv_icmp_ge (tgt := 128) C.1 C.2.1 dX3_readLevel_57 (by decide) (fun c14 => ?_) (fun c14 => ?_)
            · have c14 := (nI_leI (a := 160) (by decide) (by omega)).mp c14
              have e0 : ts1 = [] := List.eq_nil_of_length_eq_zero (by omega)
              exact mw_vret C hr hlk Z hP hS dX3_readLevel_128 (⟨xAf.gd (hsp.trans (gLoop_stop (by rw [e0]; decide))) hpo, fra⟩)
            · have c14 := (not_congr (nI_leI (a := 160) (by decide) (by omega))).mp c14
              refine lv_aload_n C.1 C.2.1 dX3_readLevel_60 rfl (lv_at hl 0 rfl) ?_
              refine mw_geti C Z hP (33) 2 (by decide) sx_33 rfl rfl (by decide) inX3 tw_1_155 dX3_readLevel_61 ?_
              refine mw_top (y := -1) (hpo.2.2.2.2.1) ?_
              refine lv_iconst (v := -1) C.1 C.2.1 dX3_readLevel_64 (by decide) ?_
              refine lv_icmp_ne (tgt := 128) C.1 C.2.1 dX3_readLevel_65 (by decide) (fun c15 => ?_) (fun c15 => ?_)
              · exact absurd c15 (by decide)
              · refine lv_aload_n C.1 C.2.1 dX3_readLevel_68 rfl (lv_at hl 0 rfl) ?_
                refine mw_getr C Z hP (33) 0 (34) (by decide) sx_33 rfl rfl (by decide) inX3 tw_1_153 dX3_readLevel_69 ?_
                refine lv_aload_n C.1 C.2.1 dX3_readLevel_72 rfl (lv_at hl 0 rfl) ?_
                refine mw_geti C Z hP (33) 1 (by decide) sx_33 rfl rfl (by decide) inX3 tw_1_154 dX3_readLevel_73 ?_
                refine mw_top (y := nI a1) (hpo.2.2.2.1) ?_
                refine mw_cVi (As := [.int (nI a1)]) (rest := []) C Z hP hS (34) (cX_tokenAt l E ςa T.length hpo.1.2.1 hpo.1.1 a1 (by have y1 := hpo.1.1; have y2 := hpo.2.2.1; omega)) vb_X10_tokenAt tw_2_204 ⟨rfl, rfl⟩ ⟨Nat.le_of_ble_eq_true rfl, Nat.le_of_ble_eq_true rfl⟩ (by decide) sx_34 rfl rfl rfl hl.1 rfl (Nat.le_of_ble_eq_true rfl) dX3_readLevel_76 ⟨Nat.zero_le _, Nat.zero_le _⟩ (fun r16 u17 H locs q18 hP hS => ?_)
                rw [(hpo.1.tok a1).1, hpo.2.1] at q18
                obtain ⟨rfl, q18u⟩ := q18
                rw [q18u] at hP; clear q18u
                refine lv_istore (lv' := [(5, .int (nI (hdC ts1))), (0, .ref (mw_a E 33)), (1, .ref (mw_a E (39 + j))), (2, .int 3), (3, .int 2), (4, .int (nI t))]) C.1 C.2.1 dX3_readLevel_79 hl (by decide) rfl (fun ls hl => ?_)
                refine lv_iload C.1 C.2.1 dX3_readLevel_81 (lv_at hl 0 rfl) ?_
                refine mw_cSi (As := [.int (nI (hdC ts1))]) (rest := []) C Z hP hS (cX_levelOf l E ςa (hdC ts1) (by have y := (hpo.1.lt a1).1; rw [hpo.2.1] at y; omega)) sb_X3_levelOf tw_2_232 ⟨rfl, rfl⟩ ⟨Nat.le_of_ble_eq_true rfl, Nat.le_of_ble_eq_true rfl⟩ rfl hl.1 rfl (Nat.le_of_ble_eq_true rfl) dX3_readLevel_83 ⟨Nat.zero_le _, Nat.zero_le _⟩ (fun r19 u20 H locs q21 hP hS => ?_)
                obtain ⟨rfl, q21u⟩ := q21
                rw [q21u] at hP; clear q21u
                refine lv_iload_n C.1 C.2.1 dX3_readLevel_86 rfl (lv_at hl 3 rfl) ?_
                refine lv_icmp_eq (tgt := 91) C.1 C.2.1 dX3_readLevel_87 (by decide) (fun c22 => ?_) (fun c22 => ?_)
                · have hop := lv_3.mp c22
                  have hne : hdC ts1 ≠ 21 := lv_21 c22 (by decide)
                  obtain ⟨f2, ef, egl⟩ := gLoop_go (x := (gLevel gTim (gD 3).1)) (cs := cs1) hne hop hf
                  refine lv_aload_n C.1 C.2.1 dX3_readLevel_91 rfl (lv_at hl 1 rfl) ?_
                  refine lv_dup C.1 C.2.1 dX3_readLevel_92 rfl ?_
                  refine mw_geti C Z hP (33) 1 (by decide) sx_33 rfl rfl (by decide) inX3 tw_1_154 dX3_readLevel_93 ?_
                  refine mw_top (y := nI a1) (hpo.2.2.2.1) ?_
                  refine lv_iconst (v := 1) C.1 C.2.1 dX3_readLevel_96 (by decide) ?_
                  refine lv_iadd C.1 C.2.1 dX3_readLevel_97 ?_
                  refine mw_top (y := nI (a1 + 1)) (nI_1 _) ?_
                  refine mw_puti C Z hP hS (33) 1 (by decide) sx_33 rfl rfl (by decide) inX3 tyX3 tyX3_ok nmX3 rfl tw_1_154 rfl rfl dX3_readLevel_98 (fun H locs hP hS => ?_)
                  have pn23 := hpo.next hj hne
                  have hb24 := pn23.2
                  refine lv_aload_n C.1 C.2.1 dX3_readLevel_101 rfl (lv_at hl 1 rfl) ?_
                  refine lv_aload_n C.1 C.2.1 dX3_readLevel_102 rfl (lv_at hl 2 rfl) ?_
                  refine lv_iload_n C.1 C.2.1 dX3_readLevel_103 rfl (lv_at hl 3 rfl) ?_
                  refine lv_iconst (v := 1) C.1 C.2.1 dX3_readLevel_104 (by decide) ?_
                  refine lv_iadd C.1 C.2.1 dX3_readLevel_105 ?_
                  refine mw_top (y := 4) (by decide) ?_
                  refine lv_iload_n C.1 C.2.1 dX3_readLevel_106 rfl (lv_at hl 4 rfl) ?_
                  refine mw_cVv (As := [.ref (mw_a E (39 + j)), .int 4, .int 2]) (rest := []) C Z hP hS (33) (cX_l4_2 l E (mw_si ςa 33 1 (nI (a1 + 1))) T j hj (a1 + 1) (ts1.tail) ((cs ++ cs1)) (B - 1) (by omega) pn23.1) vb_X3_readLevel tw_2_216 ⟨rfl, rfl⟩ ⟨Nat.le_of_ble_eq_true rfl, Nat.le_of_ble_eq_true rfl⟩ (by decide) sx_33 rfl rfl rfl hl.1 rfl (Nat.le_of_ble_eq_true rfl) dX3_readLevel_107 ⟨Nat.zero_le _, Nat.zero_le _⟩ (fun u34 H locs q35 hP hS => ?_)
                  obtain ⟨hx25, f26⟩ := q35
                  rcases e27 : (gLevel gTim (gD 3).1) (ts1.tail) with ⟨cs28, ts29⟩ | qq32
                  · rw [e27] at hx25
                    obtain ⟨a30, po31⟩ := hx25
                    have po31 : xPo u34 T j a30 ts29 ((cs ++ cs1) ++ cs28) (B - 1) := po31
                    refine lv_aload_n C.1 C.2.1 dX3_readLevel_110 rfl (lv_at hl 2 rfl) ?_
                    refine lv_iload C.1 C.2.1 dX3_readLevel_111 (lv_at hl 0 rfl) ?_
                    refine mw_cVv (As := [.int (nI (hdC ts1))]) (rest := []) C Z hP hS (39 + j) (cX_add l E u34 j hj (((cs ++ cs1) ++ cs28)).length po31.2.2.2.2.2.1.1 (by have y := po31.2.2.2.2.2.2; omega) (nI (hdC ts1))) vb_X8_add tw_2_224 ⟨rfl, rfl⟩ ⟨Nat.le_of_ble_eq_true rfl, Nat.le_of_ble_eq_true rfl⟩ (by omega) (sx_tx (by omega)) rfl rfl rfl hl.1 rfl (Nat.le_of_ble_eq_true rfl) dX3_readLevel_113 ⟨Nat.zero_le _, Nat.zero_le _⟩ (fun u37 H locs q38 hP hS => ?_)
                    have e39 := q38.1 (by have y := po31.2.2.2.2.2.2; omega)
                    subst e39
                    have po40 := (po31.add hj (hdC ts1)).wk (C := B) (by omega)
                    refine lv_iload_n C.1 C.2.1 dX3_readLevel_116 rfl (lv_at hl 3 rfl) ?_
                    refine lv_iconst (v := 2) C.1 C.2.1 dX3_readLevel_117 (by decide) ?_
                    refine lv_icmp_ne (tgt := 122) C.1 C.2.1 dX3_readLevel_118 (by decide) (fun c41 => ?_) (fun c41 => ?_)
                    · refine lv_iinc (v := nI (t + 1)) (lv' := [(4, .int (nI (t + 1))), (5, .int (nI (hdC ts1))), (0, .ref (mw_a E 33)), (1, .ref (mw_a E (39 + j))), (2, .int 3), (3, .int 2)]) C.1 C.2.1 dX3_readLevel_122 hl (k := 5) rfl (nI_1 _) (by decide) rfl (fun ls hl => ?_)
                      refine lv_goto (tgt := 52) C.1 C.2.1 dX3_readLevel_125 (by decide) ?_
                      exact iha a30 (t + 1) f2 ts29 (cs1 ++ cs28 ++ [hdC ts1]) (mw_si (mw_sa u34 (45 + j) (((cs ++ cs1) ++ cs28)).length (nI (hdC ts1))) (39 + j) 3 (nI ((((cs ++ cs1) ++ cs28)).length + 1))) _ _ (by omega) (by omega) (by have y1 := (gLevel_dec (gD_dec 3).1) _ _ _ e27; have y2 := tail_len hne; omega) (by have y1 := (gLevel_dec (gD_dec 3).1) _ _ _ e27; have y2 := tail_len hne; omega) (hsp.trans (egl.trans (by rw [e27]))) ((by rw [← List.append_assoc]; rw [← List.append_assoc]; exact po40)) (((fra.rd _ _).tr f26).ad _ _ _) hP hS ls (lv_sub hl [2, 3, 4, 5, 0] rfl)
                    · exact absurd c41 (by decide)
                  · rw [e27] at hx25
                    have po31 : xPb u34 T j qq32 := hx25
                    refine lv_aload_n C.1 C.2.1 dX3_readLevel_110 rfl (lv_at hl 2 rfl) ?_
                    refine lv_iload C.1 C.2.1 dX3_readLevel_111 (lv_at hl 0 rfl) ?_
                    obtain ⟨k42, hk43, ek44⟩ := po31.2.2.2
                    refine mw_cVv (As := [.int (nI (hdC ts1))]) (rest := []) C Z hP hS (39 + j) (cX_add l E u34 j hj k42 ek44 hk43 (nI (hdC ts1))) vb_X8_add tw_2_224 ⟨rfl, rfl⟩ ⟨Nat.le_of_ble_eq_true rfl, Nat.le_of_ble_eq_true rfl⟩ (by omega) (sx_tx (by omega)) rfl rfl rfl hl.1 rfl (Nat.le_of_ble_eq_true rfl) dX3_readLevel_113 ⟨Nat.zero_le _, Nat.zero_le _⟩ (fun u47 H locs q48 hP hS => ?_)
                    have w45 := xPb.add po31 hj hk43 q48
                    refine lv_iload_n C.1 C.2.1 dX3_readLevel_116 rfl (lv_at hl 3 rfl) ?_
                    refine lv_iconst (v := 2) C.1 C.2.1 dX3_readLevel_117 (by decide) ?_
                    refine lv_icmp_ne (tgt := 122) C.1 C.2.1 dX3_readLevel_118 (by decide) (fun c49 => ?_) (fun c49 => ?_)
                    · refine lv_iinc (v := nI (t + 1)) (lv' := [(4, .int (nI (t + 1))), (5, .int (nI (hdC ts1))), (0, .ref (mw_a E 33)), (1, .ref (mw_a E (39 + j))), (2, .int 3), (3, .int 2)]) C.1 C.2.1 dX3_readLevel_122 hl (k := 5) rfl (nI_1 _) (by decide) rfl (fun ls hl => ?_)
                      refine lv_goto (tgt := 52) C.1 C.2.1 dX3_readLevel_125 (by decide) ?_
                      refine lv_iload C.1 C.2.1 dX3_readLevel_52 (lv_at hl 0 rfl) ?_
                      refine lv_sipush (v := 160) C.1 C.2.1 dX3_readLevel_54 (by decide) ?_
                      refine lv_icmp_ge (tgt := 128) C.1 C.2.1 dX3_readLevel_57 (by decide) (fun c50 => ?_) (fun c50 => ?_)
                      · exact mw_vret C hr hlk Z hP hS dX3_readLevel_128 (⟨xAf.bd (hsp.trans (egl.trans (by rw [e27]))) w45.1, (((fra.rd _ _).tr f26).tr w45.2)⟩)
                      · refine lv_aload_n C.1 C.2.1 dX3_readLevel_60 rfl (lv_at hl 2 rfl) ?_
                        refine mw_geti C Z hP (33) 2 (by decide) sx_33 rfl rfl (by decide) inX3 tw_1_155 dX3_readLevel_61 ?_
                        refine mw_top (y := nI qq32) (w45.1.2.2.1.1) ?_
                        refine lv_iconst (v := -1) C.1 C.2.1 dX3_readLevel_64 (by decide) ?_
                        refine lv_icmp_ne (tgt := 128) C.1 C.2.1 dX3_readLevel_65 (by decide) (fun c51 => ?_) (fun c51 => ?_)
                        · exact mw_vret C hr hlk Z hP hS dX3_readLevel_128 (⟨xAf.bd (hsp.trans (egl.trans (by rw [e27]))) w45.1, (((fra.rd _ _).tr f26).tr w45.2)⟩)
                        · exact absurd c51 (nI_nm1 (by have y := w45.1.2.2.1.2; omega))
                    · exact absurd c49 (by decide)
                · have hnop : ¬ gAdd (hdC ts1) = true := fun y => c22 (lv_3.mpr y)
                  exact mw_vret C hr hlk Z hP hS dX3_readLevel_90 (⟨xAf.gd (hsp.trans (gLoop_stop hnop)) hpo, fra⟩)
        exact lpa (161) a8 0 (ts7.length) ts7 cs6 u12 _ _ (by omega) (by omega) (Nat.le_refl _) (by have y := po9.2.2.2.2.2.2; omega) ((gLevel_g e5)) (po9) ((xPf.rf j σ).tr f4) hP hS ls (lv_sub hl [1, 2, 3, 4, 0] rfl)
      · rw [e5] at hx3
        have po9 : xPb u12 T j qq10 := hx3
        refine lv_iconst (v := 0) C.1 C.2.1 dX3_readLevel_49 (by decide) ?_
        refine lv_istore (lv' := [(4, .int 0), (0, .ref (mw_a E 33)), (1, .ref (mw_a E (39 + j))), (2, .int 3), (3, .int 2)]) C.1 C.2.1 dX3_readLevel_50 hl (by decide) rfl (fun ls hl => ?_)
        refine lv_iload C.1 C.2.1 dX3_readLevel_52 (lv_at hl 0 rfl) ?_
        refine lv_sipush (v := 160) C.1 C.2.1 dX3_readLevel_54 (by decide) ?_
        refine lv_icmp_ge (tgt := 128) C.1 C.2.1 dX3_readLevel_57 (by decide) (fun c52 => ?_) (fun c52 => ?_)
        · exact absurd c52 (by decide)
        · refine lv_aload_n C.1 C.2.1 dX3_readLevel_60 rfl (lv_at hl 1 rfl) ?_
          refine mw_geti C Z hP (33) 2 (by decide) sx_33 rfl rfl (by decide) inX3 tw_1_155 dX3_readLevel_61 ?_
          refine mw_top (y := nI qq10) (po9.2.2.1.1) ?_
          refine lv_iconst (v := -1) C.1 C.2.1 dX3_readLevel_64 (by decide) ?_
          refine lv_icmp_ne (tgt := 128) C.1 C.2.1 dX3_readLevel_65 (by decide) (fun c53 => ?_) (fun c53 => ?_)
          · exact mw_vret C hr hlk Z hP hS dX3_readLevel_128 (⟨xAf.bd ((gLevel_b e5)) po9, ((xPf.rf j σ).tr f4)⟩)
          · exact absurd c53 (nI_nm1 (by have y := po9.2.2.1.2; omega))
    · exact absurd c2 (by decide)
  · exact absurd c1 (by decide)

set_option maxHeartbeats 4000000 in
set_option maxRecDepth 100000 in
theorem cX_not2 (l : Launch) (E : mw_E) (σ : mw_M) (T : List (Nat × Nat)) (j : Nat) (hj : j < 6) (a : Nat) (ts : List (Nat × Nat)) (cs : List Nat) (B : Nat) (hB : B ≤ 160) (h : xPo σ T j a ts cs B) (h11 : hdC ts = 11) : mw_Cv shX 75 gX l yX3_readNot cX3_readNot 3 none (rmF 23 595) E [.ref (mw_a E 33), .ref (mw_a E (39 + j)), .int 2] σ (fun u => xAf T j B cs ((gD 3).2.1 ts) u ∧ xPf j σ u) := by
  refine mw_of (by decide) gX_ok (Nat.le_of_ble_eq_true rfl) ?_
  intro p_ e_ s_ m_ below meth c_ C hr hlk Z hP ls hl
  have C : CallFix p_ m_ c_ cX3_readNot 3 s_ _ lw_good RX3 := C
  have hl : lv_has ls 3 [(0, .ref (mw_a E 33)), (1, .ref (mw_a E (39 + j))), (2, .int 2)] := hl
  have hS : va_S (mw_A 75 E) s_.heap s_.heap [] := va_S.rf
  have hlt : hdC ts < 20000 := by have y := (h.1.lt a).1; rw [h.2.1] at y; exact y
  have hne : hdC ts ≠ 21 := by omega
  refine lv_aload_n C.1 C.2.1 dX3_readNot_0 rfl (lv_at hl 0 rfl) ?_
  refine mw_geti C Z hP (33) 2 (by decide) sx_33 rfl rfl (by decide) inX3 tw_1_155 dX3_readNot_1 ?_
  refine mw_top (y := -1) (h.2.2.2.2.1) ?_
  refine lv_iconst (v := -1) C.1 C.2.1 dX3_readNot_4 (by decide) ?_
  refine lv_icmp_ne (tgt := 13) C.1 C.2.1 dX3_readNot_5 (by decide) (fun c1 => ?_) (fun c1 => ?_)
  · exact absurd c1 (by decide)
  · refine lv_iload_n C.1 C.2.1 dX3_readNot_8 rfl (lv_at hl 2 rfl) ?_
    refine lv_iconst (v := 5) C.1 C.2.1 dX3_readNot_9 (by decide) ?_
    refine lv_icmp_lt (tgt := 18) C.1 C.2.1 dX3_readNot_10 (by decide) (fun c2 => ?_) (fun c2 => ?_)
    · refine lv_aload_n C.1 C.2.1 dX3_readNot_18 rfl (lv_at hl 0 rfl) ?_
      refine lv_dup C.1 C.2.1 dX3_readNot_19 rfl ?_
      refine mw_geti C Z hP (33) 1 (by decide) sx_33 rfl rfl (by decide) inX3 tw_1_154 dX3_readNot_20 ?_
      refine mw_top (y := nI a) (h.2.2.2.1) ?_
      refine lv_iconst (v := 1) C.1 C.2.1 dX3_readNot_23 (by decide) ?_
      refine lv_iadd C.1 C.2.1 dX3_readNot_24 ?_
      refine mw_top (y := nI (a + 1)) (nI_1 _) ?_
      refine mw_puti C Z hP hS (33) 1 (by decide) sx_33 rfl rfl (by decide) inX3 tyX3 tyX3_ok nmX3 rfl tw_1_154 rfl rfl dX3_readNot_25 (fun H locs hP hS => ?_)
      have pn3 := h.next hj hne
      have hb4 := pn3.2
      refine lv_aload_n C.1 C.2.1 dX3_readNot_28 rfl (lv_at hl 0 rfl) ?_
      refine lv_aload_n C.1 C.2.1 dX3_readNot_29 rfl (lv_at hl 1 rfl) ?_
      refine lv_iconst (v := 2) C.1 C.2.1 dX3_readNot_30 (by decide) ?_
      refine lv_iload_n C.1 C.2.1 dX3_readNot_31 rfl (lv_at hl 2 rfl) ?_
      refine lv_iconst (v := 1) C.1 C.2.1 dX3_readNot_32 (by decide) ?_
      refine lv_iadd C.1 C.2.1 dX3_readNot_33 ?_
      refine mw_top (y := 3) (by decide) ?_
      refine mw_cVv (As := [.ref (mw_a E (39 + j)), .int 2, .int 3]) (rest := []) C Z hP hS (33) (cX_l2_3 l E (mw_si σ 33 1 (nI (a + 1))) T j hj (a + 1) (ts.tail) cs (B - 1) (by omega) pn3.1) vb_X3_readLevel tw_2_216 ⟨rfl, rfl⟩ ⟨Nat.le_of_ble_eq_true rfl, Nat.le_of_ble_eq_true rfl⟩ (by decide) sx_33 rfl rfl rfl hl.1 rfl (Nat.le_of_ble_eq_true rfl) dX3_readNot_34 ⟨Nat.zero_le _, Nat.zero_le _⟩ (fun u14 H locs q15 hP hS => ?_)
      obtain ⟨hx5, f6⟩ := q15
      rcases e7 : (gD 2).2.1 (ts.tail) with ⟨cs8, ts9⟩ | qq12
      · rw [e7] at hx5
        obtain ⟨a10, po11⟩ := hx5
        have po11 : xPo u14 T j a10 ts9 (cs ++ cs8) (B - 1) := po11
        refine lv_aload_n C.1 C.2.1 dX3_readNot_37 rfl (lv_at hl 1 rfl) ?_
        refine lv_bipush (v := 11) C.1 C.2.1 dX3_readNot_38 (by decide) ?_
        refine mw_top (y := nI 11) (rfl) ?_
        refine mw_cVv (As := [.int (nI 11)]) (rest := []) C Z hP hS (39 + j) (cX_add l E u14 j hj ((cs ++ cs8)).length po11.2.2.2.2.2.1.1 (by have y := po11.2.2.2.2.2.2; omega) (nI 11)) vb_X8_add tw_2_224 ⟨rfl, rfl⟩ ⟨Nat.le_of_ble_eq_true rfl, Nat.le_of_ble_eq_true rfl⟩ (by omega) (sx_tx (by omega)) rfl rfl rfl hl.1 rfl (Nat.le_of_ble_eq_true rfl) dX3_readNot_40 ⟨Nat.zero_le _, Nat.zero_le _⟩ (fun u17 H locs q18 hP hS => ?_)
        have e19 := q18.1 (by have y := po11.2.2.2.2.2.2; omega)
        subst e19
        have po20 := (po11.add hj 11).wk (C := B) (by omega)
        exact mw_vret C hr hlk Z hP hS dX3_readNot_43 (⟨xAf.gd ((congrFun gN_3 ts).trans (gNot_t1 h11 e7)) (by rw [← List.append_assoc]; exact po20), ((((xPf.rf j σ).rd _ _).tr f6).ad _ _ _)⟩)
      · rw [e7] at hx5
        have po11 : xPb u14 T j qq12 := hx5
        refine lv_aload_n C.1 C.2.1 dX3_readNot_37 rfl (lv_at hl 1 rfl) ?_
        refine lv_bipush (v := 11) C.1 C.2.1 dX3_readNot_38 (by decide) ?_
        refine mw_top (y := nI 11) (rfl) ?_
        obtain ⟨k21, hk22, ek23⟩ := po11.2.2.2
        refine mw_cVv (As := [.int (nI 11)]) (rest := []) C Z hP hS (39 + j) (cX_add l E u14 j hj k21 ek23 hk22 (nI 11)) vb_X8_add tw_2_224 ⟨rfl, rfl⟩ ⟨Nat.le_of_ble_eq_true rfl, Nat.le_of_ble_eq_true rfl⟩ (by omega) (sx_tx (by omega)) rfl rfl rfl hl.1 rfl (Nat.le_of_ble_eq_true rfl) dX3_readNot_40 ⟨Nat.zero_le _, Nat.zero_le _⟩ (fun u26 H locs q27 hP hS => ?_)
        have w24 := xPb.add po11 hj hk22 q27
        exact mw_vret C hr hlk Z hP hS dX3_readNot_43 (⟨xAf.bd ((congrFun gN_3 ts).trans (gNot_t2 h11 e7)) w24.1, ((((xPf.rf j σ).rd _ _).tr f6).tr w24.2)⟩)
    · exact absurd c2 (by decide)

set_option maxHeartbeats 4000000 in
set_option maxRecDepth 100000 in
theorem cX_l2_2 (l : Launch) (E : mw_E) (σ : mw_M) (T : List (Nat × Nat)) (j : Nat) (hj : j < 6) (a : Nat) (ts : List (Nat × Nat)) (cs : List Nat) (B : Nat) (hB : B ≤ 160) (h : xPo σ T j a ts cs B) : mw_Cv shX 75 gX l yX3_readLevel cX3_readLevel 6 none (rmF 29 743) E [.ref (mw_a E 33), .ref (mw_a E (39 + j)), .int 2, .int 2] σ (fun u => xAf T j B cs ((gD 3).2.1 ts) u ∧ xPf j σ u) := by
  refine mw_of (by decide) gX_ok (Nat.le_of_ble_eq_true rfl) ?_
  intro p_ e_ s_ m_ below meth c_ C hr hlk Z hP ls hl
  have C : CallFix p_ m_ c_ cX3_readLevel 6 s_ _ lw_good RX3 := C
  have hl : lv_has ls 6 [(0, .ref (mw_a E 33)), (1, .ref (mw_a E (39 + j))), (2, .int 2), (3, .int 2)] := hl
  have hS : va_S (mw_A 75 E) s_.heap s_.heap [] := va_S.rf
  have hlt : hdC ts < 20000 := by have y := (h.1.lt a).1; rw [h.2.1] at y; exact y
  refine lv_iload_n C.1 C.2.1 dX3_readLevel_0 rfl (lv_at hl 2 rfl) ?_
  refine lv_iconst (v := 4) C.1 C.2.1 dX3_readLevel_1 (by decide) ?_
  refine lv_icmp_le (tgt := 12) C.1 C.2.1 dX3_readLevel_2 (by decide) (fun c1 => ?_) (fun c1 => ?_)
  · refine lv_iload_n C.1 C.2.1 dX3_readLevel_12 rfl (lv_at hl 2 rfl) ?_
    refine lv_iconst (v := 2) C.1 C.2.1 dX3_readLevel_13 (by decide) ?_
    refine lv_icmp_ne (tgt := 40) C.1 C.2.1 dX3_readLevel_14 (by decide) (fun c2 => ?_) (fun c2 => ?_)
    · exact absurd c2 (by decide)
    · refine lv_aload_n C.1 C.2.1 dX3_readLevel_17 rfl (lv_at hl 0 rfl) ?_
      refine mw_getr C Z hP (33) 0 (34) (by decide) sx_33 rfl rfl (by decide) inX3 tw_1_153 dX3_readLevel_18 ?_
      refine lv_aload_n C.1 C.2.1 dX3_readLevel_21 rfl (lv_at hl 0 rfl) ?_
      refine mw_geti C Z hP (33) 1 (by decide) sx_33 rfl rfl (by decide) inX3 tw_1_154 dX3_readLevel_22 ?_
      refine mw_top (y := nI a) (h.2.2.2.1) ?_
      refine mw_cVi (As := [.int (nI a)]) (rest := []) C Z hP hS (34) (cX_tokenAt l E σ T.length h.1.2.1 h.1.1 a (by have y1 := h.1.1; have y2 := h.2.2.1; omega)) vb_X10_tokenAt tw_2_204 ⟨rfl, rfl⟩ ⟨Nat.le_of_ble_eq_true rfl, Nat.le_of_ble_eq_true rfl⟩ (by decide) sx_34 rfl rfl rfl hl.1 rfl (Nat.le_of_ble_eq_true rfl) dX3_readLevel_25 ⟨Nat.zero_le _, Nat.zero_le _⟩ (fun r3 u4 H locs q5 hP hS => ?_)
      rw [(h.1.tok a).1, h.2.1] at q5
      obtain ⟨rfl, q5u⟩ := q5
      rw [q5u] at hP; clear q5u
      refine lv_bipush (v := 11) C.1 C.2.1 dX3_readLevel_28 (by decide) ?_
      refine lv_icmp_ne (tgt := 40) C.1 C.2.1 dX3_readLevel_30 (by decide) (fun c6 => ?_) (fun c6 => ?_)
      · have hn11 : ¬ hdC ts = 11 := fun y => c6 (by rw [y]; rfl)
        refine lv_aload_n C.1 C.2.1 dX3_readLevel_40 rfl (lv_at hl 0 rfl) ?_
        refine lv_aload_n C.1 C.2.1 dX3_readLevel_41 rfl (lv_at hl 1 rfl) ?_
        refine lv_iload_n C.1 C.2.1 dX3_readLevel_42 rfl (lv_at hl 2 rfl) ?_
        refine lv_iconst (v := 1) C.1 C.2.1 dX3_readLevel_43 (by decide) ?_
        refine lv_iadd C.1 C.2.1 dX3_readLevel_44 ?_
        refine mw_top (y := 3) (by decide) ?_
        refine lv_iload_n C.1 C.2.1 dX3_readLevel_45 rfl (lv_at hl 3 rfl) ?_
        refine mw_cVv (As := [.ref (mw_a E (39 + j)), .int 3, .int 2]) (rest := []) C Z hP hS (33) (cX_l3_2 l E σ T j hj a ts cs B (by omega) h) vb_X3_readLevel tw_2_216 ⟨rfl, rfl⟩ ⟨Nat.le_of_ble_eq_true rfl, Nat.le_of_ble_eq_true rfl⟩ (by decide) sx_33 rfl rfl rfl hl.1 rfl (Nat.le_of_ble_eq_true rfl) dX3_readLevel_46 ⟨Nat.zero_le _, Nat.zero_le _⟩ (fun u16 H locs q17 hP hS => ?_)
        obtain ⟨hx7, f8⟩ := q17
        rcases e9 : (gLevel gAdd (gLevel gTim (gD 3).1)) ts with ⟨cs10, ts11⟩ | qq14
        · rw [e9] at hx7
          obtain ⟨a12, po13⟩ := hx7
          have po13 : xPo u16 T j a12 ts11 (cs ++ cs10) B := po13
          refine lv_iconst (v := 0) C.1 C.2.1 dX3_readLevel_49 (by decide) ?_
          refine lv_istore (lv' := [(4, .int 0), (0, .ref (mw_a E 33)), (1, .ref (mw_a E (39 + j))), (2, .int 2), (3, .int 2)]) C.1 C.2.1 dX3_readLevel_50 hl (by decide) rfl (fun ls hl => ?_)
          refine lv_iload C.1 C.2.1 dX3_readLevel_52 (lv_at hl 0 rfl) ?_
          refine lv_sipush (v := 160) C.1 C.2.1 dX3_readLevel_54 (by decide) ?_
          refine lv_icmp_ge (tgt := 128) C.1 C.2.1 dX3_readLevel_57 (by decide) (fun c18 => ?_) (fun c18 => ?_)
          · exact absurd c18 (by decide)
          · refine lv_aload_n C.1 C.2.1 dX3_readLevel_60 rfl (lv_at hl 1 rfl) ?_
            refine mw_geti C Z hP (33) 2 (by decide) sx_33 rfl rfl (by decide) inX3 tw_1_155 dX3_readLevel_61 ?_
            refine mw_top (y := -1) (po13.2.2.2.2.1) ?_
            refine lv_iconst (v := -1) C.1 C.2.1 dX3_readLevel_64 (by decide) ?_
            refine lv_icmp_ne (tgt := 128) C.1 C.2.1 dX3_readLevel_65 (by decide) (fun c19 => ?_) (fun c19 => ?_)
            · exact absurd c19 (by decide)
            · refine lv_aload_n C.1 C.2.1 dX3_readLevel_68 rfl (lv_at hl 1 rfl) ?_
              refine mw_getr C Z hP (33) 0 (34) (by decide) sx_33 rfl rfl (by decide) inX3 tw_1_153 dX3_readLevel_69 ?_
              refine lv_aload_n C.1 C.2.1 dX3_readLevel_72 rfl (lv_at hl 1 rfl) ?_
              refine mw_geti C Z hP (33) 1 (by decide) sx_33 rfl rfl (by decide) inX3 tw_1_154 dX3_readLevel_73 ?_
              refine mw_top (y := nI a12) (po13.2.2.2.1) ?_
              refine mw_cVi (As := [.int (nI a12)]) (rest := []) C Z hP hS (34) (cX_tokenAt l E u16 T.length po13.1.2.1 po13.1.1 a12 (by have y1 := po13.1.1; have y2 := po13.2.2.1; omega)) vb_X10_tokenAt tw_2_204 ⟨rfl, rfl⟩ ⟨Nat.le_of_ble_eq_true rfl, Nat.le_of_ble_eq_true rfl⟩ (by decide) sx_34 rfl rfl rfl hl.1 rfl (Nat.le_of_ble_eq_true rfl) dX3_readLevel_76 ⟨Nat.zero_le _, Nat.zero_le _⟩ (fun r20 u21 H locs q22 hP hS => ?_)
              rw [(po13.1.tok a12).1, po13.2.1] at q22
              obtain ⟨rfl, q22u⟩ := q22
              rw [q22u] at hP; clear q22u
              refine lv_istore (lv' := [(5, .int (nI (hdC ts11))), (4, .int 0), (0, .ref (mw_a E 33)), (1, .ref (mw_a E (39 + j))), (2, .int 2), (3, .int 2)]) C.1 C.2.1 dX3_readLevel_79 hl (by decide) rfl (fun ls hl => ?_)
              refine lv_iload C.1 C.2.1 dX3_readLevel_81 (lv_at hl 0 rfl) ?_
              refine mw_cSi (As := [.int (nI (hdC ts11))]) (rest := []) C Z hP hS (cX_levelOf l E u16 (hdC ts11) (by have y := (po13.1.lt a12).1; rw [po13.2.1] at y; omega)) sb_X3_levelOf tw_2_232 ⟨rfl, rfl⟩ ⟨Nat.le_of_ble_eq_true rfl, Nat.le_of_ble_eq_true rfl⟩ rfl hl.1 rfl (Nat.le_of_ble_eq_true rfl) dX3_readLevel_83 ⟨Nat.zero_le _, Nat.zero_le _⟩ (fun r23 u24 H locs q25 hP hS => ?_)
              obtain ⟨rfl, q25u⟩ := q25
              rw [q25u] at hP; clear q25u
              refine lv_iload_n C.1 C.2.1 dX3_readLevel_86 rfl (lv_at hl 4 rfl) ?_
              refine lv_icmp_eq (tgt := 91) C.1 C.2.1 dX3_readLevel_87 (by decide) (fun c26 => ?_) (fun c26 => ?_)
              · have hop := lv_2.mp c26
                have hne : hdC ts11 ≠ 21 := lv_21 c26 (by decide)
                refine lv_aload_n C.1 C.2.1 dX3_readLevel_91 rfl (lv_at hl 2 rfl) ?_
                refine lv_dup C.1 C.2.1 dX3_readLevel_92 rfl ?_
                refine mw_geti C Z hP (33) 1 (by decide) sx_33 rfl rfl (by decide) inX3 tw_1_154 dX3_readLevel_93 ?_
                refine mw_top (y := nI a12) (po13.2.2.2.1) ?_
                refine lv_iconst (v := 1) C.1 C.2.1 dX3_readLevel_96 (by decide) ?_
                refine lv_iadd C.1 C.2.1 dX3_readLevel_97 ?_
                refine mw_top (y := nI (a12 + 1)) (nI_1 _) ?_
                refine mw_puti C Z hP hS (33) 1 (by decide) sx_33 rfl rfl (by decide) inX3 tyX3 tyX3_ok nmX3 rfl tw_1_154 rfl rfl dX3_readLevel_98 (fun H locs hP hS => ?_)
                have pn27 := po13.next hj hne
                have hb28 := pn27.2
                refine lv_aload_n C.1 C.2.1 dX3_readLevel_101 rfl (lv_at hl 2 rfl) ?_
                refine lv_aload_n C.1 C.2.1 dX3_readLevel_102 rfl (lv_at hl 3 rfl) ?_
                refine lv_iload_n C.1 C.2.1 dX3_readLevel_103 rfl (lv_at hl 4 rfl) ?_
                refine lv_iconst (v := 1) C.1 C.2.1 dX3_readLevel_104 (by decide) ?_
                refine lv_iadd C.1 C.2.1 dX3_readLevel_105 ?_
                refine mw_top (y := 3) (by decide) ?_
                refine lv_iload_n C.1 C.2.1 dX3_readLevel_106 rfl (lv_at hl 5 rfl) ?_
                refine mw_cVv (As := [.ref (mw_a E (39 + j)), .int 3, .int 2]) (rest := []) C Z hP hS (33) (cX_l3_2 l E (mw_si u16 33 1 (nI (a12 + 1))) T j hj (a12 + 1) (ts11.tail) ((cs ++ cs10)) (B - 1) (by omega) pn27.1) vb_X3_readLevel tw_2_216 ⟨rfl, rfl⟩ ⟨Nat.le_of_ble_eq_true rfl, Nat.le_of_ble_eq_true rfl⟩ (by decide) sx_33 rfl rfl rfl hl.1 rfl (Nat.le_of_ble_eq_true rfl) dX3_readLevel_107 ⟨Nat.zero_le _, Nat.zero_le _⟩ (fun u38 H locs q39 hP hS => ?_)
                obtain ⟨hx29, f30⟩ := q39
                rcases e31 : (gLevel gAdd (gLevel gTim (gD 3).1)) (ts11.tail) with ⟨cs32, ts33⟩ | qq36
                · rw [e31] at hx29
                  obtain ⟨a34, po35⟩ := hx29
                  have po35 : xPo u38 T j a34 ts33 ((cs ++ cs10) ++ cs32) (B - 1) := po35
                  refine lv_aload_n C.1 C.2.1 dX3_readLevel_110 rfl (lv_at hl 3 rfl) ?_
                  refine lv_iload C.1 C.2.1 dX3_readLevel_111 (lv_at hl 0 rfl) ?_
                  refine mw_cVv (As := [.int (nI (hdC ts11))]) (rest := []) C Z hP hS (39 + j) (cX_add l E u38 j hj (((cs ++ cs10) ++ cs32)).length po35.2.2.2.2.2.1.1 (by have y := po35.2.2.2.2.2.2; omega) (nI (hdC ts11))) vb_X8_add tw_2_224 ⟨rfl, rfl⟩ ⟨Nat.le_of_ble_eq_true rfl, Nat.le_of_ble_eq_true rfl⟩ (by omega) (sx_tx (by omega)) rfl rfl rfl hl.1 rfl (Nat.le_of_ble_eq_true rfl) dX3_readLevel_113 ⟨Nat.zero_le _, Nat.zero_le _⟩ (fun u41 H locs q42 hP hS => ?_)
                  have e43 := q42.1 (by have y := po35.2.2.2.2.2.2; omega)
                  subst e43
                  have po44 := (po35.add hj (hdC ts11)).wk (C := B) (by omega)
                  refine lv_iload_n C.1 C.2.1 dX3_readLevel_116 rfl (lv_at hl 4 rfl) ?_
                  refine lv_iconst (v := 2) C.1 C.2.1 dX3_readLevel_117 (by decide) ?_
                  refine lv_icmp_ne (tgt := 122) C.1 C.2.1 dX3_readLevel_118 (by decide) (fun c45 => ?_) (fun c45 => ?_)
                  · exact absurd c45 (by decide)
                  · exact mw_vret C hr hlk Z hP hS dX3_readLevel_121 (⟨xAf.gd (((congrFun gN_3 ts).trans (gNot_f rfl hn11)).trans (gCmp_g1 e9 hop e31)) (by rw [← List.append_assoc]; rw [← List.append_assoc]; exact po44), (((((xPf.rf j σ).tr f8).rd _ _).tr f30).ad _ _ _)⟩)
                · rw [e31] at hx29
                  have po35 : xPb u38 T j qq36 := hx29
                  refine lv_aload_n C.1 C.2.1 dX3_readLevel_110 rfl (lv_at hl 3 rfl) ?_
                  refine lv_iload C.1 C.2.1 dX3_readLevel_111 (lv_at hl 0 rfl) ?_
                  obtain ⟨k46, hk47, ek48⟩ := po35.2.2.2
                  refine mw_cVv (As := [.int (nI (hdC ts11))]) (rest := []) C Z hP hS (39 + j) (cX_add l E u38 j hj k46 ek48 hk47 (nI (hdC ts11))) vb_X8_add tw_2_224 ⟨rfl, rfl⟩ ⟨Nat.le_of_ble_eq_true rfl, Nat.le_of_ble_eq_true rfl⟩ (by omega) (sx_tx (by omega)) rfl rfl rfl hl.1 rfl (Nat.le_of_ble_eq_true rfl) dX3_readLevel_113 ⟨Nat.zero_le _, Nat.zero_le _⟩ (fun u51 H locs q52 hP hS => ?_)
                  have w49 := xPb.add po35 hj hk47 q52
                  refine lv_iload_n C.1 C.2.1 dX3_readLevel_116 rfl (lv_at hl 4 rfl) ?_
                  refine lv_iconst (v := 2) C.1 C.2.1 dX3_readLevel_117 (by decide) ?_
                  refine lv_icmp_ne (tgt := 122) C.1 C.2.1 dX3_readLevel_118 (by decide) (fun c53 => ?_) (fun c53 => ?_)
                  · exact absurd c53 (by decide)
                  · exact mw_vret C hr hlk Z hP hS dX3_readLevel_121 (⟨xAf.bd (((congrFun gN_3 ts).trans (gNot_f rfl hn11)).trans (gCmp_g2 e9 hop e31)) w49.1, (((((xPf.rf j σ).tr f8).rd _ _).tr f30).tr w49.2)⟩)
              · have hnop : ¬ (hdC ts11 = 18 ∨ hdC ts11 = 19) := fun y => c26 (lv_2.mpr y)
                exact mw_vret C hr hlk Z hP hS dX3_readLevel_90 (⟨xAf.gd (((congrFun gN_3 ts).trans (gNot_f rfl hn11)).trans (gCmp_stop e9 hnop)) po13, ((xPf.rf j σ).tr f8)⟩)
        · rw [e9] at hx7
          have po13 : xPb u16 T j qq14 := hx7
          refine lv_iconst (v := 0) C.1 C.2.1 dX3_readLevel_49 (by decide) ?_
          refine lv_istore (lv' := [(4, .int 0), (0, .ref (mw_a E 33)), (1, .ref (mw_a E (39 + j))), (2, .int 2), (3, .int 2)]) C.1 C.2.1 dX3_readLevel_50 hl (by decide) rfl (fun ls hl => ?_)
          refine lv_iload C.1 C.2.1 dX3_readLevel_52 (lv_at hl 0 rfl) ?_
          refine lv_sipush (v := 160) C.1 C.2.1 dX3_readLevel_54 (by decide) ?_
          refine lv_icmp_ge (tgt := 128) C.1 C.2.1 dX3_readLevel_57 (by decide) (fun c54 => ?_) (fun c54 => ?_)
          · exact absurd c54 (by decide)
          · refine lv_aload_n C.1 C.2.1 dX3_readLevel_60 rfl (lv_at hl 1 rfl) ?_
            refine mw_geti C Z hP (33) 2 (by decide) sx_33 rfl rfl (by decide) inX3 tw_1_155 dX3_readLevel_61 ?_
            refine mw_top (y := nI qq14) (po13.2.2.1.1) ?_
            refine lv_iconst (v := -1) C.1 C.2.1 dX3_readLevel_64 (by decide) ?_
            refine lv_icmp_ne (tgt := 128) C.1 C.2.1 dX3_readLevel_65 (by decide) (fun c55 => ?_) (fun c55 => ?_)
            · exact mw_vret C hr hlk Z hP hS dX3_readLevel_128 (⟨xAf.bd (((congrFun gN_3 ts).trans (gNot_f rfl hn11)).trans (gCmp_b e9)) po13, ((xPf.rf j σ).tr f8)⟩)
            · exact absurd c55 (nI_nm1 (by have y := po13.2.2.1.2; omega))
      · have h11 : hdC ts = 11 := nI_eqI (b := 11) (by omega) (by decide) c6
        refine lv_aload_n C.1 C.2.1 dX3_readLevel_33 rfl (lv_at hl 0 rfl) ?_
        refine lv_aload_n C.1 C.2.1 dX3_readLevel_34 rfl (lv_at hl 1 rfl) ?_
        refine lv_iload_n C.1 C.2.1 dX3_readLevel_35 rfl (lv_at hl 3 rfl) ?_
        refine mw_cVv (As := [.ref (mw_a E (39 + j)), .int 2]) (rest := []) C Z hP hS (33) (cX_not2 l E σ T j hj a ts cs B (by omega) h h11) vb_X3_readNot tw_2_228 ⟨rfl, rfl⟩ ⟨Nat.le_of_ble_eq_true rfl, Nat.le_of_ble_eq_true rfl⟩ (by decide) sx_33 rfl rfl rfl hl.1 rfl (Nat.le_of_ble_eq_true rfl) dX3_readLevel_36 ⟨Nat.zero_le _, Nat.zero_le _⟩ (fun u65 H locs q66 hP hS => ?_)
        obtain ⟨hx56, f57⟩ := q66
        rcases e58 : (gD 3).2.1 ts with ⟨cs59, ts60⟩ | qq63
        · rw [e58] at hx56
          obtain ⟨a61, po62⟩ := hx56
          have po62 : xPo u65 T j a61 ts60 (cs ++ cs59) B := po62
          exact mw_vret C hr hlk Z hP hS dX3_readLevel_39 (⟨xAf.gd rfl po62, ((xPf.rf j σ).tr f57)⟩)
        · rw [e58] at hx56
          have po62 : xPb u65 T j qq63 := hx56
          exact mw_vret C hr hlk Z hP hS dX3_readLevel_39 (⟨xAf.bd rfl po62, ((xPf.rf j σ).tr f57)⟩)
  · exact absurd c1 (by decide)

set_option maxHeartbeats 4000000 in
set_option maxRecDepth 100000 in
theorem cX_l1_2 (l : Launch) (E : mw_E) (σ : mw_M) (T : List (Nat × Nat)) (j : Nat) (hj : j < 6) (a : Nat) (ts : List (Nat × Nat)) (cs : List Nat) (B : Nat) (hB : B ≤ 160) (h : xPo σ T j a ts cs B) : mw_Cv shX 75 gX l yX3_readLevel cX3_readLevel 6 none (rmF 30 768) E [.ref (mw_a E 33), .ref (mw_a E (39 + j)), .int 1, .int 2] σ (fun u => xAf T j B cs ((gLevel gAnd (gD 3).2.1) ts) u ∧ xPf j σ u) := by
  refine mw_of (by decide) gX_ok (Nat.le_of_ble_eq_true rfl) ?_
  intro p_ e_ s_ m_ below meth c_ C hr hlk Z hP ls hl
  have C : CallFix p_ m_ c_ cX3_readLevel 6 s_ _ lw_good RX3 := C
  have hl : lv_has ls 6 [(0, .ref (mw_a E 33)), (1, .ref (mw_a E (39 + j))), (2, .int 1), (3, .int 2)] := hl
  have hS : va_S (mw_A 75 E) s_.heap s_.heap [] := va_S.rf
  have hlt : hdC ts < 20000 := by have y := (h.1.lt a).1; rw [h.2.1] at y; exact y
  refine lv_iload_n C.1 C.2.1 dX3_readLevel_0 rfl (lv_at hl 2 rfl) ?_
  refine lv_iconst (v := 4) C.1 C.2.1 dX3_readLevel_1 (by decide) ?_
  refine lv_icmp_le (tgt := 12) C.1 C.2.1 dX3_readLevel_2 (by decide) (fun c1 => ?_) (fun c1 => ?_)
  · refine lv_iload_n C.1 C.2.1 dX3_readLevel_12 rfl (lv_at hl 2 rfl) ?_
    refine lv_iconst (v := 2) C.1 C.2.1 dX3_readLevel_13 (by decide) ?_
    refine lv_icmp_ne (tgt := 40) C.1 C.2.1 dX3_readLevel_14 (by decide) (fun c2 => ?_) (fun c2 => ?_)
    · refine lv_aload_n C.1 C.2.1 dX3_readLevel_40 rfl (lv_at hl 0 rfl) ?_
      refine lv_aload_n C.1 C.2.1 dX3_readLevel_41 rfl (lv_at hl 1 rfl) ?_
      refine lv_iload_n C.1 C.2.1 dX3_readLevel_42 rfl (lv_at hl 2 rfl) ?_
      refine lv_iconst (v := 1) C.1 C.2.1 dX3_readLevel_43 (by decide) ?_
      refine lv_iadd C.1 C.2.1 dX3_readLevel_44 ?_
      refine mw_top (y := 2) (by decide) ?_
      refine lv_iload_n C.1 C.2.1 dX3_readLevel_45 rfl (lv_at hl 3 rfl) ?_
      refine mw_cVv (As := [.ref (mw_a E (39 + j)), .int 2, .int 2]) (rest := []) C Z hP hS (33) (cX_l2_2 l E σ T j hj a ts cs B (by omega) h) vb_X3_readLevel tw_2_216 ⟨rfl, rfl⟩ ⟨Nat.le_of_ble_eq_true rfl, Nat.le_of_ble_eq_true rfl⟩ (by decide) sx_33 rfl rfl rfl hl.1 rfl (Nat.le_of_ble_eq_true rfl) dX3_readLevel_46 ⟨Nat.zero_le _, Nat.zero_le _⟩ (fun u12 H locs q13 hP hS => ?_)
      obtain ⟨hx3, f4⟩ := q13
      rcases e5 : (gD 3).2.1 ts with ⟨cs6, ts7⟩ | qq10
      · rw [e5] at hx3
        obtain ⟨a8, po9⟩ := hx3
        have po9 : xPo u12 T j a8 ts7 (cs ++ cs6) B := po9
        refine lv_iconst (v := 0) C.1 C.2.1 dX3_readLevel_49 (by decide) ?_
        refine lv_istore (lv' := [(4, .int 0), (0, .ref (mw_a E 33)), (1, .ref (mw_a E (39 + j))), (2, .int 1), (3, .int 2)]) C.1 C.2.1 dX3_readLevel_50 hl (by decide) rfl (fun ls hl => ?_)
        have lpa : ∀ (N : Nat) (a1 : Nat) (t : Nat) (f : Nat) (ts1 : List (Nat × Nat)) (cs1 : List Nat) (ςa : mw_M) (H : Heap) (locs : List Loc), 161 ≤ t + N → (t ≤ 160) → (ts1.length ≤ f) → (t + ts1.length ≤ 160) → ((gLevel gAnd (gD 3).2.1) ts = gLoop gAnd (gD 3).2.1 f cs1 ts1) → (xPo ςa T j a1 ts1 (cs ++ cs1) B) → xPf j σ ςa → va_P (mw_D E) vwCl (mw_ws shX 75 E ςa) H → va_S (mw_A 75 E) s_.heap H locs → ∀ (ls : Array Slot), lv_has ls 6 [(0, .ref (mw_a E 33)), (1, .ref (mw_a E (39 + j))), (2, .int 1), (3, .int 2), (4, .int (nI t))] → xWv p_ l e_ (rmF 30 768) s_ m_ [.ref (mw_a E 33), .ref (mw_a E (39 + j)), .int 1, .int 2] below meth c_ E (fun u => xAf T j B cs ((gLevel gAnd (gD 3).2.1) ts) u ∧ xPf j σ u) H locs (F0 m_ 52 ls []) := by
          intro N
          induction N with
          | zero => intros; exfalso; omega
          | succ N iha =>
            intro a1 t f ts1 cs1 ςa H locs hNa ht hf htl hsp hpo fra hP hS ls hl
            refine lv_iload C.1 C.2.1 dX3_readLevel_52 (lv_at hl 4 rfl) ?_
            refine lv_sipush (v := 160) C.1 C.2.1 dX3_readLevel_54 (by decide) ?_
            refine lv_icmp_ge (tgt := 128) C.1 C.2.1 dX3_readLevel_57 (by decide) (fun c14 => ?_) (fun c14 => ?_)
            · have c14 := (nI_leI (a := 160) (by decide) (by omega)).mp c14
              have e0 : ts1 = [] := List.eq_nil_of_length_eq_zero (by omega)
              exact mw_vret C hr hlk Z hP hS dX3_readLevel_128 (⟨xAf.gd (hsp.trans (gLoop_stop (by rw [e0]; decide))) hpo, fra⟩)
            · have c14 := (not_congr (nI_leI (a := 160) (by decide) (by omega))).mp c14
              refine lv_aload_n C.1 C.2.1 dX3_readLevel_60 rfl (lv_at hl 0 rfl) ?_
              refine mw_geti C Z hP (33) 2 (by decide) sx_33 rfl rfl (by decide) inX3 tw_1_155 dX3_readLevel_61 ?_
              refine mw_top (y := -1) (hpo.2.2.2.2.1) ?_
              refine lv_iconst (v := -1) C.1 C.2.1 dX3_readLevel_64 (by decide) ?_
              refine lv_icmp_ne (tgt := 128) C.1 C.2.1 dX3_readLevel_65 (by decide) (fun c15 => ?_) (fun c15 => ?_)
              · exact absurd c15 (by decide)
              · refine lv_aload_n C.1 C.2.1 dX3_readLevel_68 rfl (lv_at hl 0 rfl) ?_
                refine mw_getr C Z hP (33) 0 (34) (by decide) sx_33 rfl rfl (by decide) inX3 tw_1_153 dX3_readLevel_69 ?_
                refine lv_aload_n C.1 C.2.1 dX3_readLevel_72 rfl (lv_at hl 0 rfl) ?_
                refine mw_geti C Z hP (33) 1 (by decide) sx_33 rfl rfl (by decide) inX3 tw_1_154 dX3_readLevel_73 ?_
                refine mw_top (y := nI a1) (hpo.2.2.2.1) ?_
                refine mw_cVi (As := [.int (nI a1)]) (rest := []) C Z hP hS (34) (cX_tokenAt l E ςa T.length hpo.1.2.1 hpo.1.1 a1 (by have y1 := hpo.1.1; have y2 := hpo.2.2.1; omega)) vb_X10_tokenAt tw_2_204 ⟨rfl, rfl⟩ ⟨Nat.le_of_ble_eq_true rfl, Nat.le_of_ble_eq_true rfl⟩ (by decide) sx_34 rfl rfl rfl hl.1 rfl (Nat.le_of_ble_eq_true rfl) dX3_readLevel_76 ⟨Nat.zero_le _, Nat.zero_le _⟩ (fun r16 u17 H locs q18 hP hS => ?_)
                rw [(hpo.1.tok a1).1, hpo.2.1] at q18
                obtain ⟨rfl, q18u⟩ := q18
                rw [q18u] at hP; clear q18u
                refine lv_istore (lv' := [(5, .int (nI (hdC ts1))), (0, .ref (mw_a E 33)), (1, .ref (mw_a E (39 + j))), (2, .int 1), (3, .int 2), (4, .int (nI t))]) C.1 C.2.1 dX3_readLevel_79 hl (by decide) rfl (fun ls hl => ?_)
                refine lv_iload C.1 C.2.1 dX3_readLevel_81 (lv_at hl 0 rfl) ?_
                refine mw_cSi (As := [.int (nI (hdC ts1))]) (rest := []) C Z hP hS (cX_levelOf l E ςa (hdC ts1) (by have y := (hpo.1.lt a1).1; rw [hpo.2.1] at y; omega)) sb_X3_levelOf tw_2_232 ⟨rfl, rfl⟩ ⟨Nat.le_of_ble_eq_true rfl, Nat.le_of_ble_eq_true rfl⟩ rfl hl.1 rfl (Nat.le_of_ble_eq_true rfl) dX3_readLevel_83 ⟨Nat.zero_le _, Nat.zero_le _⟩ (fun r19 u20 H locs q21 hP hS => ?_)
                obtain ⟨rfl, q21u⟩ := q21
                rw [q21u] at hP; clear q21u
                refine lv_iload_n C.1 C.2.1 dX3_readLevel_86 rfl (lv_at hl 3 rfl) ?_
                refine lv_icmp_eq (tgt := 91) C.1 C.2.1 dX3_readLevel_87 (by decide) (fun c22 => ?_) (fun c22 => ?_)
                · have hop := lv_1.mp c22
                  have hne : hdC ts1 ≠ 21 := lv_21 c22 (by decide)
                  obtain ⟨f2, ef, egl⟩ := gLoop_go (x := (gD 3).2.1) (cs := cs1) hne hop hf
                  refine lv_aload_n C.1 C.2.1 dX3_readLevel_91 rfl (lv_at hl 1 rfl) ?_
                  refine lv_dup C.1 C.2.1 dX3_readLevel_92 rfl ?_
                  refine mw_geti C Z hP (33) 1 (by decide) sx_33 rfl rfl (by decide) inX3 tw_1_154 dX3_readLevel_93 ?_
                  refine mw_top (y := nI a1) (hpo.2.2.2.1) ?_
                  refine lv_iconst (v := 1) C.1 C.2.1 dX3_readLevel_96 (by decide) ?_
                  refine lv_iadd C.1 C.2.1 dX3_readLevel_97 ?_
                  refine mw_top (y := nI (a1 + 1)) (nI_1 _) ?_
                  refine mw_puti C Z hP hS (33) 1 (by decide) sx_33 rfl rfl (by decide) inX3 tyX3 tyX3_ok nmX3 rfl tw_1_154 rfl rfl dX3_readLevel_98 (fun H locs hP hS => ?_)
                  have pn23 := hpo.next hj hne
                  have hb24 := pn23.2
                  refine lv_aload_n C.1 C.2.1 dX3_readLevel_101 rfl (lv_at hl 1 rfl) ?_
                  refine lv_aload_n C.1 C.2.1 dX3_readLevel_102 rfl (lv_at hl 2 rfl) ?_
                  refine lv_iload_n C.1 C.2.1 dX3_readLevel_103 rfl (lv_at hl 3 rfl) ?_
                  refine lv_iconst (v := 1) C.1 C.2.1 dX3_readLevel_104 (by decide) ?_
                  refine lv_iadd C.1 C.2.1 dX3_readLevel_105 ?_
                  refine mw_top (y := 2) (by decide) ?_
                  refine lv_iload_n C.1 C.2.1 dX3_readLevel_106 rfl (lv_at hl 4 rfl) ?_
                  refine mw_cVv (As := [.ref (mw_a E (39 + j)), .int 2, .int 2]) (rest := []) C Z hP hS (33) (cX_l2_2 l E (mw_si ςa 33 1 (nI (a1 + 1))) T j hj (a1 + 1) (ts1.tail) ((cs ++ cs1)) (B - 1) (by omega) pn23.1) vb_X3_readLevel tw_2_216 ⟨rfl, rfl⟩ ⟨Nat.le_of_ble_eq_true rfl, Nat.le_of_ble_eq_true rfl⟩ (by decide) sx_33 rfl rfl rfl hl.1 rfl (Nat.le_of_ble_eq_true rfl) dX3_readLevel_107 ⟨Nat.zero_le _, Nat.zero_le _⟩ (fun u34 H locs q35 hP hS => ?_)
                  obtain ⟨hx25, f26⟩ := q35
                  rcases e27 : (gD 3).2.1 (ts1.tail) with ⟨cs28, ts29⟩ | qq32
                  · rw [e27] at hx25
                    obtain ⟨a30, po31⟩ := hx25
                    have po31 : xPo u34 T j a30 ts29 ((cs ++ cs1) ++ cs28) (B - 1) := po31
                    refine lv_aload_n C.1 C.2.1 dX3_readLevel_110 rfl (lv_at hl 2 rfl) ?_
                    refine lv_iload C.1 C.2.1 dX3_readLevel_111 (lv_at hl 0 rfl) ?_
                    refine mw_cVv (As := [.int (nI (hdC ts1))]) (rest := []) C Z hP hS (39 + j) (cX_add l E u34 j hj (((cs ++ cs1) ++ cs28)).length po31.2.2.2.2.2.1.1 (by have y := po31.2.2.2.2.2.2; omega) (nI (hdC ts1))) vb_X8_add tw_2_224 ⟨rfl, rfl⟩ ⟨Nat.le_of_ble_eq_true rfl, Nat.le_of_ble_eq_true rfl⟩ (by omega) (sx_tx (by omega)) rfl rfl rfl hl.1 rfl (Nat.le_of_ble_eq_true rfl) dX3_readLevel_113 ⟨Nat.zero_le _, Nat.zero_le _⟩ (fun u37 H locs q38 hP hS => ?_)
                    have e39 := q38.1 (by have y := po31.2.2.2.2.2.2; omega)
                    subst e39
                    have po40 := (po31.add hj (hdC ts1)).wk (C := B) (by omega)
                    refine lv_iload_n C.1 C.2.1 dX3_readLevel_116 rfl (lv_at hl 3 rfl) ?_
                    refine lv_iconst (v := 2) C.1 C.2.1 dX3_readLevel_117 (by decide) ?_
                    refine lv_icmp_ne (tgt := 122) C.1 C.2.1 dX3_readLevel_118 (by decide) (fun c41 => ?_) (fun c41 => ?_)
                    · refine lv_iinc (v := nI (t + 1)) (lv' := [(4, .int (nI (t + 1))), (5, .int (nI (hdC ts1))), (0, .ref (mw_a E 33)), (1, .ref (mw_a E (39 + j))), (2, .int 1), (3, .int 2)]) C.1 C.2.1 dX3_readLevel_122 hl (k := 5) rfl (nI_1 _) (by decide) rfl (fun ls hl => ?_)
                      refine lv_goto (tgt := 52) C.1 C.2.1 dX3_readLevel_125 (by decide) ?_
                      exact iha a30 (t + 1) f2 ts29 (cs1 ++ cs28 ++ [hdC ts1]) (mw_si (mw_sa u34 (45 + j) (((cs ++ cs1) ++ cs28)).length (nI (hdC ts1))) (39 + j) 3 (nI ((((cs ++ cs1) ++ cs28)).length + 1))) _ _ (by omega) (by omega) (by have y1 := ((gD_dec 3).2.1) _ _ _ e27; have y2 := tail_len hne; omega) (by have y1 := ((gD_dec 3).2.1) _ _ _ e27; have y2 := tail_len hne; omega) (hsp.trans (egl.trans (by rw [e27]))) ((by rw [← List.append_assoc]; rw [← List.append_assoc]; exact po40)) (((fra.rd _ _).tr f26).ad _ _ _) hP hS ls (lv_sub hl [2, 3, 4, 5, 0] rfl)
                    · exact absurd c41 (by decide)
                  · rw [e27] at hx25
                    have po31 : xPb u34 T j qq32 := hx25
                    refine lv_aload_n C.1 C.2.1 dX3_readLevel_110 rfl (lv_at hl 2 rfl) ?_
                    refine lv_iload C.1 C.2.1 dX3_readLevel_111 (lv_at hl 0 rfl) ?_
                    obtain ⟨k42, hk43, ek44⟩ := po31.2.2.2
                    refine mw_cVv (As := [.int (nI (hdC ts1))]) (rest := []) C Z hP hS (39 + j) (cX_add l E u34 j hj k42 ek44 hk43 (nI (hdC ts1))) vb_X8_add tw_2_224 ⟨rfl, rfl⟩ ⟨Nat.le_of_ble_eq_true rfl, Nat.le_of_ble_eq_true rfl⟩ (by omega) (sx_tx (by omega)) rfl rfl rfl hl.1 rfl (Nat.le_of_ble_eq_true rfl) dX3_readLevel_113 ⟨Nat.zero_le _, Nat.zero_le _⟩ (fun u47 H locs q48 hP hS => ?_)
                    have w45 := xPb.add po31 hj hk43 q48
                    refine lv_iload_n C.1 C.2.1 dX3_readLevel_116 rfl (lv_at hl 3 rfl) ?_
                    refine lv_iconst (v := 2) C.1 C.2.1 dX3_readLevel_117 (by decide) ?_
                    refine lv_icmp_ne (tgt := 122) C.1 C.2.1 dX3_readLevel_118 (by decide) (fun c49 => ?_) (fun c49 => ?_)
                    · refine lv_iinc (v := nI (t + 1)) (lv' := [(4, .int (nI (t + 1))), (5, .int (nI (hdC ts1))), (0, .ref (mw_a E 33)), (1, .ref (mw_a E (39 + j))), (2, .int 1), (3, .int 2)]) C.1 C.2.1 dX3_readLevel_122 hl (k := 5) rfl (nI_1 _) (by decide) rfl (fun ls hl => ?_)
                      refine lv_goto (tgt := 52) C.1 C.2.1 dX3_readLevel_125 (by decide) ?_
                      refine lv_iload C.1 C.2.1 dX3_readLevel_52 (lv_at hl 0 rfl) ?_
                      refine lv_sipush (v := 160) C.1 C.2.1 dX3_readLevel_54 (by decide) ?_
                      refine lv_icmp_ge (tgt := 128) C.1 C.2.1 dX3_readLevel_57 (by decide) (fun c50 => ?_) (fun c50 => ?_)
                      · exact mw_vret C hr hlk Z hP hS dX3_readLevel_128 (⟨xAf.bd (hsp.trans (egl.trans (by rw [e27]))) w45.1, (((fra.rd _ _).tr f26).tr w45.2)⟩)
                      · refine lv_aload_n C.1 C.2.1 dX3_readLevel_60 rfl (lv_at hl 2 rfl) ?_
                        refine mw_geti C Z hP (33) 2 (by decide) sx_33 rfl rfl (by decide) inX3 tw_1_155 dX3_readLevel_61 ?_
                        refine mw_top (y := nI qq32) (w45.1.2.2.1.1) ?_
                        refine lv_iconst (v := -1) C.1 C.2.1 dX3_readLevel_64 (by decide) ?_
                        refine lv_icmp_ne (tgt := 128) C.1 C.2.1 dX3_readLevel_65 (by decide) (fun c51 => ?_) (fun c51 => ?_)
                        · exact mw_vret C hr hlk Z hP hS dX3_readLevel_128 (⟨xAf.bd (hsp.trans (egl.trans (by rw [e27]))) w45.1, (((fra.rd _ _).tr f26).tr w45.2)⟩)
                        · exact absurd c51 (nI_nm1 (by have y := w45.1.2.2.1.2; omega))
                    · exact absurd c49 (by decide)
                · have hnop : ¬ gAnd (hdC ts1) = true := fun y => c22 (lv_1.mpr y)
                  exact mw_vret C hr hlk Z hP hS dX3_readLevel_90 (⟨xAf.gd (hsp.trans (gLoop_stop hnop)) hpo, fra⟩)
        exact lpa (161) a8 0 (ts7.length) ts7 cs6 u12 _ _ (by omega) (by omega) (Nat.le_refl _) (by have y := po9.2.2.2.2.2.2; omega) ((gLevel_g e5)) (po9) ((xPf.rf j σ).tr f4) hP hS ls (lv_sub hl [1, 2, 3, 4, 0] rfl)
      · rw [e5] at hx3
        have po9 : xPb u12 T j qq10 := hx3
        refine lv_iconst (v := 0) C.1 C.2.1 dX3_readLevel_49 (by decide) ?_
        refine lv_istore (lv' := [(4, .int 0), (0, .ref (mw_a E 33)), (1, .ref (mw_a E (39 + j))), (2, .int 1), (3, .int 2)]) C.1 C.2.1 dX3_readLevel_50 hl (by decide) rfl (fun ls hl => ?_)
        refine lv_iload C.1 C.2.1 dX3_readLevel_52 (lv_at hl 0 rfl) ?_
        refine lv_sipush (v := 160) C.1 C.2.1 dX3_readLevel_54 (by decide) ?_
        refine lv_icmp_ge (tgt := 128) C.1 C.2.1 dX3_readLevel_57 (by decide) (fun c52 => ?_) (fun c52 => ?_)
        · exact absurd c52 (by decide)
        · refine lv_aload_n C.1 C.2.1 dX3_readLevel_60 rfl (lv_at hl 1 rfl) ?_
          refine mw_geti C Z hP (33) 2 (by decide) sx_33 rfl rfl (by decide) inX3 tw_1_155 dX3_readLevel_61 ?_
          refine mw_top (y := nI qq10) (po9.2.2.1.1) ?_
          refine lv_iconst (v := -1) C.1 C.2.1 dX3_readLevel_64 (by decide) ?_
          refine lv_icmp_ne (tgt := 128) C.1 C.2.1 dX3_readLevel_65 (by decide) (fun c53 => ?_) (fun c53 => ?_)
          · exact mw_vret C hr hlk Z hP hS dX3_readLevel_128 (⟨xAf.bd ((gLevel_b e5)) po9, ((xPf.rf j σ).tr f4)⟩)
          · exact absurd c53 (nI_nm1 (by have y := po9.2.2.1.2; omega))
    · exact absurd c2 (by decide)
  · exact absurd c1 (by decide)

set_option maxHeartbeats 4000000 in
set_option maxRecDepth 100000 in
theorem cX_l0_2 (l : Launch) (E : mw_E) (σ : mw_M) (T : List (Nat × Nat)) (j : Nat) (hj : j < 6) (a : Nat) (ts : List (Nat × Nat)) (cs : List Nat) (B : Nat) (hB : B ≤ 160) (h : xPo σ T j a ts cs B) : mw_Cv shX 75 gX l yX3_readLevel cX3_readLevel 6 none (rmF 31 793) E [.ref (mw_a E 33), .ref (mw_a E (39 + j)), .int 0, .int 2] σ (fun u => xAf T j B cs ((gD 3).2.2 ts) u ∧ xPf j σ u) := by
  refine mw_of (by decide) gX_ok (Nat.le_of_ble_eq_true rfl) ?_
  intro p_ e_ s_ m_ below meth c_ C hr hlk Z hP ls hl
  have C : CallFix p_ m_ c_ cX3_readLevel 6 s_ _ lw_good RX3 := C
  have hl : lv_has ls 6 [(0, .ref (mw_a E 33)), (1, .ref (mw_a E (39 + j))), (2, .int 0), (3, .int 2)] := hl
  have hS : va_S (mw_A 75 E) s_.heap s_.heap [] := va_S.rf
  have hlt : hdC ts < 20000 := by have y := (h.1.lt a).1; rw [h.2.1] at y; exact y
  refine lv_iload_n C.1 C.2.1 dX3_readLevel_0 rfl (lv_at hl 2 rfl) ?_
  refine lv_iconst (v := 4) C.1 C.2.1 dX3_readLevel_1 (by decide) ?_
  refine lv_icmp_le (tgt := 12) C.1 C.2.1 dX3_readLevel_2 (by decide) (fun c1 => ?_) (fun c1 => ?_)
  · refine lv_iload_n C.1 C.2.1 dX3_readLevel_12 rfl (lv_at hl 2 rfl) ?_
    refine lv_iconst (v := 2) C.1 C.2.1 dX3_readLevel_13 (by decide) ?_
    refine lv_icmp_ne (tgt := 40) C.1 C.2.1 dX3_readLevel_14 (by decide) (fun c2 => ?_) (fun c2 => ?_)
    · refine lv_aload_n C.1 C.2.1 dX3_readLevel_40 rfl (lv_at hl 0 rfl) ?_
      refine lv_aload_n C.1 C.2.1 dX3_readLevel_41 rfl (lv_at hl 1 rfl) ?_
      refine lv_iload_n C.1 C.2.1 dX3_readLevel_42 rfl (lv_at hl 2 rfl) ?_
      refine lv_iconst (v := 1) C.1 C.2.1 dX3_readLevel_43 (by decide) ?_
      refine lv_iadd C.1 C.2.1 dX3_readLevel_44 ?_
      refine mw_top (y := 1) (by decide) ?_
      refine lv_iload_n C.1 C.2.1 dX3_readLevel_45 rfl (lv_at hl 3 rfl) ?_
      refine mw_cVv (As := [.ref (mw_a E (39 + j)), .int 1, .int 2]) (rest := []) C Z hP hS (33) (cX_l1_2 l E σ T j hj a ts cs B (by omega) h) vb_X3_readLevel tw_2_216 ⟨rfl, rfl⟩ ⟨Nat.le_of_ble_eq_true rfl, Nat.le_of_ble_eq_true rfl⟩ (by decide) sx_33 rfl rfl rfl hl.1 rfl (Nat.le_of_ble_eq_true rfl) dX3_readLevel_46 ⟨Nat.zero_le _, Nat.zero_le _⟩ (fun u12 H locs q13 hP hS => ?_)
      obtain ⟨hx3, f4⟩ := q13
      rcases e5 : (gLevel gAnd (gD 3).2.1) ts with ⟨cs6, ts7⟩ | qq10
      · rw [e5] at hx3
        obtain ⟨a8, po9⟩ := hx3
        have po9 : xPo u12 T j a8 ts7 (cs ++ cs6) B := po9
        refine lv_iconst (v := 0) C.1 C.2.1 dX3_readLevel_49 (by decide) ?_
        refine lv_istore (lv' := [(4, .int 0), (0, .ref (mw_a E 33)), (1, .ref (mw_a E (39 + j))), (2, .int 0), (3, .int 2)]) C.1 C.2.1 dX3_readLevel_50 hl (by decide) rfl (fun ls hl => ?_)
        have lpa : ∀ (N : Nat) (a1 : Nat) (t : Nat) (f : Nat) (ts1 : List (Nat × Nat)) (cs1 : List Nat) (ςa : mw_M) (H : Heap) (locs : List Loc), 161 ≤ t + N → (t ≤ 160) → (ts1.length ≤ f) → (t + ts1.length ≤ 160) → ((gD 3).2.2 ts = gLoop gOr (gLevel gAnd (gD 3).2.1) f cs1 ts1) → (xPo ςa T j a1 ts1 (cs ++ cs1) B) → xPf j σ ςa → va_P (mw_D E) vwCl (mw_ws shX 75 E ςa) H → va_S (mw_A 75 E) s_.heap H locs → ∀ (ls : Array Slot), lv_has ls 6 [(0, .ref (mw_a E 33)), (1, .ref (mw_a E (39 + j))), (2, .int 0), (3, .int 2), (4, .int (nI t))] → xWv p_ l e_ (rmF 31 793) s_ m_ [.ref (mw_a E 33), .ref (mw_a E (39 + j)), .int 0, .int 2] below meth c_ E (fun u => xAf T j B cs ((gD 3).2.2 ts) u ∧ xPf j σ u) H locs (F0 m_ 52 ls []) := by
          intro N
          induction N with
          | zero => intros; exfalso; omega
          | succ N iha =>
            intro a1 t f ts1 cs1 ςa H locs hNa ht hf htl hsp hpo fra hP hS ls hl
            refine lv_iload C.1 C.2.1 dX3_readLevel_52 (lv_at hl 4 rfl) ?_
            refine lv_sipush (v := 160) C.1 C.2.1 dX3_readLevel_54 (by decide) ?_
            refine lv_icmp_ge (tgt := 128) C.1 C.2.1 dX3_readLevel_57 (by decide) (fun c14 => ?_) (fun c14 => ?_)
            · have c14 := (nI_leI (a := 160) (by decide) (by omega)).mp c14
              have e0 : ts1 = [] := List.eq_nil_of_length_eq_zero (by omega)
              exact mw_vret C hr hlk Z hP hS dX3_readLevel_128 (⟨xAf.gd (hsp.trans (gLoop_stop (by rw [e0]; decide))) hpo, fra⟩)
            · have c14 := (not_congr (nI_leI (a := 160) (by decide) (by omega))).mp c14
              refine lv_aload_n C.1 C.2.1 dX3_readLevel_60 rfl (lv_at hl 0 rfl) ?_
              refine mw_geti C Z hP (33) 2 (by decide) sx_33 rfl rfl (by decide) inX3 tw_1_155 dX3_readLevel_61 ?_
              refine mw_top (y := -1) (hpo.2.2.2.2.1) ?_
              refine lv_iconst (v := -1) C.1 C.2.1 dX3_readLevel_64 (by decide) ?_
              refine lv_icmp_ne (tgt := 128) C.1 C.2.1 dX3_readLevel_65 (by decide) (fun c15 => ?_) (fun c15 => ?_)
              · exact absurd c15 (by decide)
              · refine lv_aload_n C.1 C.2.1 dX3_readLevel_68 rfl (lv_at hl 0 rfl) ?_
                refine mw_getr C Z hP (33) 0 (34) (by decide) sx_33 rfl rfl (by decide) inX3 tw_1_153 dX3_readLevel_69 ?_
                refine lv_aload_n C.1 C.2.1 dX3_readLevel_72 rfl (lv_at hl 0 rfl) ?_
                refine mw_geti C Z hP (33) 1 (by decide) sx_33 rfl rfl (by decide) inX3 tw_1_154 dX3_readLevel_73 ?_
                refine mw_top (y := nI a1) (hpo.2.2.2.1) ?_
                refine mw_cVi (As := [.int (nI a1)]) (rest := []) C Z hP hS (34) (cX_tokenAt l E ςa T.length hpo.1.2.1 hpo.1.1 a1 (by have y1 := hpo.1.1; have y2 := hpo.2.2.1; omega)) vb_X10_tokenAt tw_2_204 ⟨rfl, rfl⟩ ⟨Nat.le_of_ble_eq_true rfl, Nat.le_of_ble_eq_true rfl⟩ (by decide) sx_34 rfl rfl rfl hl.1 rfl (Nat.le_of_ble_eq_true rfl) dX3_readLevel_76 ⟨Nat.zero_le _, Nat.zero_le _⟩ (fun r16 u17 H locs q18 hP hS => ?_)
                rw [(hpo.1.tok a1).1, hpo.2.1] at q18
                obtain ⟨rfl, q18u⟩ := q18
                rw [q18u] at hP; clear q18u
                refine lv_istore (lv' := [(5, .int (nI (hdC ts1))), (0, .ref (mw_a E 33)), (1, .ref (mw_a E (39 + j))), (2, .int 0), (3, .int 2), (4, .int (nI t))]) C.1 C.2.1 dX3_readLevel_79 hl (by decide) rfl (fun ls hl => ?_)
                refine lv_iload C.1 C.2.1 dX3_readLevel_81 (lv_at hl 0 rfl) ?_
                refine mw_cSi (As := [.int (nI (hdC ts1))]) (rest := []) C Z hP hS (cX_levelOf l E ςa (hdC ts1) (by have y := (hpo.1.lt a1).1; rw [hpo.2.1] at y; omega)) sb_X3_levelOf tw_2_232 ⟨rfl, rfl⟩ ⟨Nat.le_of_ble_eq_true rfl, Nat.le_of_ble_eq_true rfl⟩ rfl hl.1 rfl (Nat.le_of_ble_eq_true rfl) dX3_readLevel_83 ⟨Nat.zero_le _, Nat.zero_le _⟩ (fun r19 u20 H locs q21 hP hS => ?_)
                obtain ⟨rfl, q21u⟩ := q21
                rw [q21u] at hP; clear q21u
                refine lv_iload_n C.1 C.2.1 dX3_readLevel_86 rfl (lv_at hl 3 rfl) ?_
                refine lv_icmp_eq (tgt := 91) C.1 C.2.1 dX3_readLevel_87 (by decide) (fun c22 => ?_) (fun c22 => ?_)
                · have hop := lv_0.mp c22
                  have hne : hdC ts1 ≠ 21 := lv_21 c22 (by decide)
                  obtain ⟨f2, ef, egl⟩ := gLoop_go (x := (gLevel gAnd (gD 3).2.1)) (cs := cs1) hne hop hf
                  refine lv_aload_n C.1 C.2.1 dX3_readLevel_91 rfl (lv_at hl 1 rfl) ?_
                  refine lv_dup C.1 C.2.1 dX3_readLevel_92 rfl ?_
                  refine mw_geti C Z hP (33) 1 (by decide) sx_33 rfl rfl (by decide) inX3 tw_1_154 dX3_readLevel_93 ?_
                  refine mw_top (y := nI a1) (hpo.2.2.2.1) ?_
                  refine lv_iconst (v := 1) C.1 C.2.1 dX3_readLevel_96 (by decide) ?_
                  refine lv_iadd C.1 C.2.1 dX3_readLevel_97 ?_
                  refine mw_top (y := nI (a1 + 1)) (nI_1 _) ?_
                  refine mw_puti C Z hP hS (33) 1 (by decide) sx_33 rfl rfl (by decide) inX3 tyX3 tyX3_ok nmX3 rfl tw_1_154 rfl rfl dX3_readLevel_98 (fun H locs hP hS => ?_)
                  have pn23 := hpo.next hj hne
                  have hb24 := pn23.2
                  refine lv_aload_n C.1 C.2.1 dX3_readLevel_101 rfl (lv_at hl 1 rfl) ?_
                  refine lv_aload_n C.1 C.2.1 dX3_readLevel_102 rfl (lv_at hl 2 rfl) ?_
                  refine lv_iload_n C.1 C.2.1 dX3_readLevel_103 rfl (lv_at hl 3 rfl) ?_
                  refine lv_iconst (v := 1) C.1 C.2.1 dX3_readLevel_104 (by decide) ?_
                  refine lv_iadd C.1 C.2.1 dX3_readLevel_105 ?_
                  refine mw_top (y := 1) (by decide) ?_
                  refine lv_iload_n C.1 C.2.1 dX3_readLevel_106 rfl (lv_at hl 4 rfl) ?_
                  refine mw_cVv (As := [.ref (mw_a E (39 + j)), .int 1, .int 2]) (rest := []) C Z hP hS (33) (cX_l1_2 l E (mw_si ςa 33 1 (nI (a1 + 1))) T j hj (a1 + 1) (ts1.tail) ((cs ++ cs1)) (B - 1) (by omega) pn23.1) vb_X3_readLevel tw_2_216 ⟨rfl, rfl⟩ ⟨Nat.le_of_ble_eq_true rfl, Nat.le_of_ble_eq_true rfl⟩ (by decide) sx_33 rfl rfl rfl hl.1 rfl (Nat.le_of_ble_eq_true rfl) dX3_readLevel_107 ⟨Nat.zero_le _, Nat.zero_le _⟩ (fun u34 H locs q35 hP hS => ?_)
                  obtain ⟨hx25, f26⟩ := q35
                  rcases e27 : (gLevel gAnd (gD 3).2.1) (ts1.tail) with ⟨cs28, ts29⟩ | qq32
                  · rw [e27] at hx25
                    obtain ⟨a30, po31⟩ := hx25
                    have po31 : xPo u34 T j a30 ts29 ((cs ++ cs1) ++ cs28) (B - 1) := po31
                    refine lv_aload_n C.1 C.2.1 dX3_readLevel_110 rfl (lv_at hl 2 rfl) ?_
                    refine lv_iload C.1 C.2.1 dX3_readLevel_111 (lv_at hl 0 rfl) ?_
                    refine mw_cVv (As := [.int (nI (hdC ts1))]) (rest := []) C Z hP hS (39 + j) (cX_add l E u34 j hj (((cs ++ cs1) ++ cs28)).length po31.2.2.2.2.2.1.1 (by have y := po31.2.2.2.2.2.2; omega) (nI (hdC ts1))) vb_X8_add tw_2_224 ⟨rfl, rfl⟩ ⟨Nat.le_of_ble_eq_true rfl, Nat.le_of_ble_eq_true rfl⟩ (by omega) (sx_tx (by omega)) rfl rfl rfl hl.1 rfl (Nat.le_of_ble_eq_true rfl) dX3_readLevel_113 ⟨Nat.zero_le _, Nat.zero_le _⟩ (fun u37 H locs q38 hP hS => ?_)
                    have e39 := q38.1 (by have y := po31.2.2.2.2.2.2; omega)
                    subst e39
                    have po40 := (po31.add hj (hdC ts1)).wk (C := B) (by omega)
                    refine lv_iload_n C.1 C.2.1 dX3_readLevel_116 rfl (lv_at hl 3 rfl) ?_
                    refine lv_iconst (v := 2) C.1 C.2.1 dX3_readLevel_117 (by decide) ?_
                    refine lv_icmp_ne (tgt := 122) C.1 C.2.1 dX3_readLevel_118 (by decide) (fun c41 => ?_) (fun c41 => ?_)
                    · refine lv_iinc (v := nI (t + 1)) (lv' := [(4, .int (nI (t + 1))), (5, .int (nI (hdC ts1))), (0, .ref (mw_a E 33)), (1, .ref (mw_a E (39 + j))), (2, .int 0), (3, .int 2)]) C.1 C.2.1 dX3_readLevel_122 hl (k := 5) rfl (nI_1 _) (by decide) rfl (fun ls hl => ?_)
                      refine lv_goto (tgt := 52) C.1 C.2.1 dX3_readLevel_125 (by decide) ?_
                      exact iha a30 (t + 1) f2 ts29 (cs1 ++ cs28 ++ [hdC ts1]) (mw_si (mw_sa u34 (45 + j) (((cs ++ cs1) ++ cs28)).length (nI (hdC ts1))) (39 + j) 3 (nI ((((cs ++ cs1) ++ cs28)).length + 1))) _ _ (by omega) (by omega) (by have y1 := (gLevel_dec (gD_dec 3).2.1) _ _ _ e27; have y2 := tail_len hne; omega) (by have y1 := (gLevel_dec (gD_dec 3).2.1) _ _ _ e27; have y2 := tail_len hne; omega) (hsp.trans (egl.trans (by rw [e27]))) ((by rw [← List.append_assoc]; rw [← List.append_assoc]; exact po40)) (((fra.rd _ _).tr f26).ad _ _ _) hP hS ls (lv_sub hl [2, 3, 4, 5, 0] rfl)
                    · exact absurd c41 (by decide)
                  · rw [e27] at hx25
                    have po31 : xPb u34 T j qq32 := hx25
                    refine lv_aload_n C.1 C.2.1 dX3_readLevel_110 rfl (lv_at hl 2 rfl) ?_
                    refine lv_iload C.1 C.2.1 dX3_readLevel_111 (lv_at hl 0 rfl) ?_
                    obtain ⟨k42, hk43, ek44⟩ := po31.2.2.2
                    refine mw_cVv (As := [.int (nI (hdC ts1))]) (rest := []) C Z hP hS (39 + j) (cX_add l E u34 j hj k42 ek44 hk43 (nI (hdC ts1))) vb_X8_add tw_2_224 ⟨rfl, rfl⟩ ⟨Nat.le_of_ble_eq_true rfl, Nat.le_of_ble_eq_true rfl⟩ (by omega) (sx_tx (by omega)) rfl rfl rfl hl.1 rfl (Nat.le_of_ble_eq_true rfl) dX3_readLevel_113 ⟨Nat.zero_le _, Nat.zero_le _⟩ (fun u47 H locs q48 hP hS => ?_)
                    have w45 := xPb.add po31 hj hk43 q48
                    refine lv_iload_n C.1 C.2.1 dX3_readLevel_116 rfl (lv_at hl 3 rfl) ?_
                    refine lv_iconst (v := 2) C.1 C.2.1 dX3_readLevel_117 (by decide) ?_
                    refine lv_icmp_ne (tgt := 122) C.1 C.2.1 dX3_readLevel_118 (by decide) (fun c49 => ?_) (fun c49 => ?_)
                    · refine lv_iinc (v := nI (t + 1)) (lv' := [(4, .int (nI (t + 1))), (5, .int (nI (hdC ts1))), (0, .ref (mw_a E 33)), (1, .ref (mw_a E (39 + j))), (2, .int 0), (3, .int 2)]) C.1 C.2.1 dX3_readLevel_122 hl (k := 5) rfl (nI_1 _) (by decide) rfl (fun ls hl => ?_)
                      refine lv_goto (tgt := 52) C.1 C.2.1 dX3_readLevel_125 (by decide) ?_
                      refine lv_iload C.1 C.2.1 dX3_readLevel_52 (lv_at hl 0 rfl) ?_
                      refine lv_sipush (v := 160) C.1 C.2.1 dX3_readLevel_54 (by decide) ?_
                      refine lv_icmp_ge (tgt := 128) C.1 C.2.1 dX3_readLevel_57 (by decide) (fun c50 => ?_) (fun c50 => ?_)
                      · exact mw_vret C hr hlk Z hP hS dX3_readLevel_128 (⟨xAf.bd (hsp.trans (egl.trans (by rw [e27]))) w45.1, (((fra.rd _ _).tr f26).tr w45.2)⟩)
                      · refine lv_aload_n C.1 C.2.1 dX3_readLevel_60 rfl (lv_at hl 2 rfl) ?_
                        refine mw_geti C Z hP (33) 2 (by decide) sx_33 rfl rfl (by decide) inX3 tw_1_155 dX3_readLevel_61 ?_
                        refine mw_top (y := nI qq32) (w45.1.2.2.1.1) ?_
                        refine lv_iconst (v := -1) C.1 C.2.1 dX3_readLevel_64 (by decide) ?_
                        refine lv_icmp_ne (tgt := 128) C.1 C.2.1 dX3_readLevel_65 (by decide) (fun c51 => ?_) (fun c51 => ?_)
                        · exact mw_vret C hr hlk Z hP hS dX3_readLevel_128 (⟨xAf.bd (hsp.trans (egl.trans (by rw [e27]))) w45.1, (((fra.rd _ _).tr f26).tr w45.2)⟩)
                        · exact absurd c51 (nI_nm1 (by have y := w45.1.2.2.1.2; omega))
                    · exact absurd c49 (by decide)
                · have hnop : ¬ gOr (hdC ts1) = true := fun y => c22 (lv_0.mpr y)
                  exact mw_vret C hr hlk Z hP hS dX3_readLevel_90 (⟨xAf.gd (hsp.trans (gLoop_stop hnop)) hpo, fra⟩)
        exact lpa (161) a8 0 (ts7.length) ts7 cs6 u12 _ _ (by omega) (by omega) (Nat.le_refl _) (by have y := po9.2.2.2.2.2.2; omega) ((congrFun gE_3 ts).trans (gLevel_g e5)) (po9) ((xPf.rf j σ).tr f4) hP hS ls (lv_sub hl [1, 2, 3, 4, 0] rfl)
      · rw [e5] at hx3
        have po9 : xPb u12 T j qq10 := hx3
        refine lv_iconst (v := 0) C.1 C.2.1 dX3_readLevel_49 (by decide) ?_
        refine lv_istore (lv' := [(4, .int 0), (0, .ref (mw_a E 33)), (1, .ref (mw_a E (39 + j))), (2, .int 0), (3, .int 2)]) C.1 C.2.1 dX3_readLevel_50 hl (by decide) rfl (fun ls hl => ?_)
        refine lv_iload C.1 C.2.1 dX3_readLevel_52 (lv_at hl 0 rfl) ?_
        refine lv_sipush (v := 160) C.1 C.2.1 dX3_readLevel_54 (by decide) ?_
        refine lv_icmp_ge (tgt := 128) C.1 C.2.1 dX3_readLevel_57 (by decide) (fun c52 => ?_) (fun c52 => ?_)
        · exact absurd c52 (by decide)
        · refine lv_aload_n C.1 C.2.1 dX3_readLevel_60 rfl (lv_at hl 1 rfl) ?_
          refine mw_geti C Z hP (33) 2 (by decide) sx_33 rfl rfl (by decide) inX3 tw_1_155 dX3_readLevel_61 ?_
          refine mw_top (y := nI qq10) (po9.2.2.1.1) ?_
          refine lv_iconst (v := -1) C.1 C.2.1 dX3_readLevel_64 (by decide) ?_
          refine lv_icmp_ne (tgt := 128) C.1 C.2.1 dX3_readLevel_65 (by decide) (fun c53 => ?_) (fun c53 => ?_)
          · exact mw_vret C hr hlk Z hP hS dX3_readLevel_128 (⟨xAf.bd ((congrFun gE_3 ts).trans (gLevel_b e5)) po9, ((xPf.rf j σ).tr f4)⟩)
          · exact absurd c53 (nI_nm1 (by have y := po9.2.2.1.2; omega))
    · exact absurd c2 (by decide)
  · exact absurd c1 (by decide)

set_option maxHeartbeats 4000000 in
set_option maxRecDepth 100000 in
theorem cX_one1 (l : Launch) (E : mw_E) (σ : mw_M) (T : List (Nat × Nat)) (j : Nat) (hj : j < 6) (a : Nat) (ts : List (Nat × Nat)) (cs : List Nat) (B : Nat) (hB : B ≤ 160) (h : xPo σ T j a ts cs B) : mw_Cv shX 75 gX l yX3_readOne cX3_readOne 4 none (rmF 32 818) E [.ref (mw_a E 33), .ref (mw_a E (39 + j)), .int 1] σ (fun u => xAf T j B cs ((gD 4).1 ts) u ∧ xPf j σ u) := by
  refine mw_of (by decide) gX_ok (Nat.le_of_ble_eq_true rfl) ?_
  intro p_ e_ s_ m_ below meth c_ C hr hlk Z hP ls hl
  have C : CallFix p_ m_ c_ cX3_readOne 4 s_ _ lw_good RX3 := C
  have hl : lv_has ls 4 [(0, .ref (mw_a E 33)), (1, .ref (mw_a E (39 + j))), (2, .int 1)] := hl
  have hS : va_S (mw_A 75 E) s_.heap s_.heap [] := va_S.rf
  have hlt : hdC ts < 20000 := by have y := (h.1.lt a).1; rw [h.2.1] at y; exact y
  refine lv_aload_n C.1 C.2.1 dX3_readOne_0 rfl (lv_at hl 0 rfl) ?_
  refine mw_getr C Z hP (33) 0 (34) (by decide) sx_33 rfl rfl (by decide) inX3 tw_1_153 dX3_readOne_1 ?_
  refine lv_aload_n C.1 C.2.1 dX3_readOne_4 rfl (lv_at hl 0 rfl) ?_
  refine mw_geti C Z hP (33) 1 (by decide) sx_33 rfl rfl (by decide) inX3 tw_1_154 dX3_readOne_5 ?_
  refine mw_top (y := nI a) (h.2.2.2.1) ?_
  refine mw_cVi (As := [.int (nI a)]) (rest := []) C Z hP hS (34) (cX_tokenAt l E σ T.length h.1.2.1 h.1.1 a (by have y1 := h.1.1; have y2 := h.2.2.1; omega)) vb_X10_tokenAt tw_2_204 ⟨rfl, rfl⟩ ⟨Nat.le_of_ble_eq_true rfl, Nat.le_of_ble_eq_true rfl⟩ (by decide) sx_34 rfl rfl rfl hl.1 rfl (Nat.le_of_ble_eq_true rfl) dX3_readOne_8 ⟨Nat.zero_le _, Nat.zero_le _⟩ (fun r1 u2 H locs q3 hP hS => ?_)
  rw [(h.1.tok a).1, h.2.1] at q3
  obtain ⟨rfl, q3u⟩ := q3
  rw [q3u] at hP; clear q3u
  refine lv_istore_n (lv' := [(3, .int (nI (hdC ts))), (0, .ref (mw_a E 33)), (1, .ref (mw_a E (39 + j))), (2, .int 1)]) C.1 C.2.1 dX3_readOne_11 rfl hl (by decide) rfl (fun ls hl => ?_)
  refine lv_aload_n C.1 C.2.1 dX3_readOne_12 rfl (lv_at hl 1 rfl) ?_
  refine mw_geti C Z hP (33) 2 (by decide) sx_33 rfl rfl (by decide) inX3 tw_1_155 dX3_readOne_13 ?_
  refine mw_top (y := -1) (h.2.2.2.2.1) ?_
  refine lv_iconst (v := -1) C.1 C.2.1 dX3_readOne_16 (by decide) ?_
  refine lv_icmp_eq (tgt := 21) C.1 C.2.1 dX3_readOne_17 (by decide) (fun c4 => ?_) (fun c4 => ?_)
  · refine lv_iload_n C.1 C.2.1 dX3_readOne_21 rfl (lv_at hl 0 rfl) ?_
    refine lv_iconst (v := 5) C.1 C.2.1 dX3_readOne_22 (by decide) ?_
    refine lv_icmp_le (tgt := 32) C.1 C.2.1 dX3_readOne_23 (by decide) (fun c5 => ?_) (fun c5 => ?_)
    · have c5 := (nI_leI (b := 5) (by omega) (by decide)).mp c5
      have hcl : hdC ts ≤ 5 ∨ 100 ≤ hdC ts := Or.inl c5
      have hne : hdC ts ≠ 21 := by omega
      refine lv_aload_n C.1 C.2.1 dX3_readOne_32 rfl (lv_at hl 1 rfl) ?_
      refine lv_dup C.1 C.2.1 dX3_readOne_33 rfl ?_
      refine mw_geti C Z hP (33) 1 (by decide) sx_33 rfl rfl (by decide) inX3 tw_1_154 dX3_readOne_34 ?_
      refine mw_top (y := nI a) (h.2.2.2.1) ?_
      refine lv_iconst (v := 1) C.1 C.2.1 dX3_readOne_37 (by decide) ?_
      refine lv_iadd C.1 C.2.1 dX3_readOne_38 ?_
      refine mw_top (y := nI (a + 1)) (nI_1 _) ?_
      refine mw_puti C Z hP hS (33) 1 (by decide) sx_33 rfl rfl (by decide) inX3 tyX3 tyX3_ok nmX3 rfl tw_1_154 rfl rfl dX3_readOne_39 (fun H locs hP hS => ?_)
      have pn6 := h.next hj hne
      have hb7 := pn6.2
      refine lv_aload_n C.1 C.2.1 dX3_readOne_42 rfl (lv_at hl 2 rfl) ?_
      refine lv_iload_n C.1 C.2.1 dX3_readOne_43 rfl (lv_at hl 0 rfl) ?_
      refine mw_cVv (As := [.int (nI (hdC ts))]) (rest := []) C Z hP hS (39 + j) (cX_add l E (mw_si σ 33 1 (nI (a + 1))) j hj cs.length pn6.1.2.2.2.2.2.1.1 (by have y := pn6.1.2.2.2.2.2.2; omega) (nI (hdC ts))) vb_X8_add tw_2_224 ⟨rfl, rfl⟩ ⟨Nat.le_of_ble_eq_true rfl, Nat.le_of_ble_eq_true rfl⟩ (by omega) (sx_tx (by omega)) rfl rfl rfl hl.1 rfl (Nat.le_of_ble_eq_true rfl) dX3_readOne_44 ⟨Nat.zero_le _, Nat.zero_le _⟩ (fun u9 H locs q10 hP hS => ?_)
      have e11 := q10.1 (by have y := pn6.1.2.2.2.2.2.2; omega)
      subst e11
      have po12 := (pn6.1.add hj (hdC ts)).wk (C := B) (by omega)
      refine lv_goto (tgt := 131) C.1 C.2.1 dX3_readOne_47 (by decide) ?_
      exact mw_vret C hr hlk Z hP hS dX3_readOne_131 (⟨xAf.gd ((congrFun gA_4 ts).trans (gAt_a hcl)) po12, (((xPf.rf j σ).rd _ _).ad _ _ _)⟩)
    · have c5 := (not_congr (nI_leI (b := 5) (by omega) (by decide))).mp c5
      refine lv_iload_n C.1 C.2.1 dX3_readOne_26 rfl (lv_at hl 0 rfl) ?_
      refine lv_bipush (v := 100) C.1 C.2.1 dX3_readOne_27 (by decide) ?_
      refine lv_icmp_lt (tgt := 50) C.1 C.2.1 dX3_readOne_29 (by decide) (fun c13 => ?_) (fun c13 => ?_)
      · have c13 := (nI_ltI (b := 100) (by omega) (by decide)).mp c13
        have hncl : ¬ (hdC ts ≤ 5 ∨ 100 ≤ hdC ts) := by omega
        refine lv_iload_n C.1 C.2.1 dX3_readOne_50 rfl (lv_at hl 0 rfl) ?_
        refine lv_bipush (v := 16) C.1 C.2.1 dX3_readOne_51 (by decide) ?_
        refine lv_icmp_ne (tgt := 88) C.1 C.2.1 dX3_readOne_53 (by decide) (fun c14 => ?_) (fun c14 => ?_)
        · have h16n : ¬ hdC ts = 16 := fun y => c14 (by rw [y]; rfl)
          refine lv_iload_n C.1 C.2.1 dX3_readOne_88 rfl (lv_at hl 0 rfl) ?_
          refine lv_bipush (v := 12) C.1 C.2.1 dX3_readOne_89 (by decide) ?_
          refine lv_icmp_ne (tgt := 127) C.1 C.2.1 dX3_readOne_91 (by decide) (fun c15 => ?_) (fun c15 => ?_)
          · refine lv_aload_n C.1 C.2.1 dX3_readOne_127 rfl (lv_at hl 1 rfl) ?_
            refine mw_cVv (As := []) (rest := []) C Z hP hS (33) (cX_failG l E σ T j hj a ts cs B (by omega) h) vb_X3_fail tw_2_208 ⟨rfl, rfl⟩ ⟨Nat.le_of_ble_eq_true rfl, Nat.le_of_ble_eq_true rfl⟩ (by decide) sx_33 rfl rfl rfl hl.1 rfl (Nat.le_of_ble_eq_true rfl) dX3_readOne_128 ⟨Nat.zero_le _, Nat.zero_le _⟩ (fun u17 H locs q18 hP hS => ?_)
            subst q18
            exact mw_vret C hr hlk Z hP hS dX3_readOne_131 (⟨xAf.bd ((congrFun gA_4 ts).trans (gAt_x hncl (fun y => absurd y h16n) (fun y => absurd y (fun z => c15 (by rw [z]; rfl))))) (h.fail hj (by have y := h.2.2.2.2.2.2; omega)), ((xPf.rf j σ).rd _ _)⟩)
          · have h12 : hdC ts = 12 := nI_eqI (b := 12) (by omega) (by decide) c15
            have hne : hdC ts ≠ 21 := by omega
            refine lv_iload_n C.1 C.2.1 dX3_readOne_94 rfl (lv_at hl 3 rfl) ?_
            refine lv_iconst (v := 5) C.1 C.2.1 dX3_readOne_95 (by decide) ?_
            refine lv_icmp_ge (tgt := 127) C.1 C.2.1 dX3_readOne_96 (by decide) (fun c19 => ?_) (fun c19 => ?_)
            · exact absurd c19 (by decide)
            · refine lv_aload_n C.1 C.2.1 dX3_readOne_99 rfl (lv_at hl 1 rfl) ?_
              refine lv_dup C.1 C.2.1 dX3_readOne_100 rfl ?_
              refine mw_geti C Z hP (33) 1 (by decide) sx_33 rfl rfl (by decide) inX3 tw_1_154 dX3_readOne_101 ?_
              refine mw_top (y := nI a) (h.2.2.2.1) ?_
              refine lv_iconst (v := 1) C.1 C.2.1 dX3_readOne_104 (by decide) ?_
              refine lv_iadd C.1 C.2.1 dX3_readOne_105 ?_
              refine mw_top (y := nI (a + 1)) (nI_1 _) ?_
              refine mw_puti C Z hP hS (33) 1 (by decide) sx_33 rfl rfl (by decide) inX3 tyX3 tyX3_ok nmX3 rfl tw_1_154 rfl rfl dX3_readOne_106 (fun H locs hP hS => ?_)
              have pn20 := h.next hj hne
              have hb21 := pn20.2
              refine lv_aload_n C.1 C.2.1 dX3_readOne_109 rfl (lv_at hl 1 rfl) ?_
              refine lv_aload_n C.1 C.2.1 dX3_readOne_110 rfl (lv_at hl 2 rfl) ?_
              refine lv_iconst (v := 0) C.1 C.2.1 dX3_readOne_111 (by decide) ?_
              refine lv_iload_n C.1 C.2.1 dX3_readOne_112 rfl (lv_at hl 3 rfl) ?_
              refine lv_iconst (v := 1) C.1 C.2.1 dX3_readOne_113 (by decide) ?_
              refine lv_iadd C.1 C.2.1 dX3_readOne_114 ?_
              refine mw_top (y := 2) (by decide) ?_
              refine mw_cVv (As := [.ref (mw_a E (39 + j)), .int 0, .int 2]) (rest := []) C Z hP hS (33) (cX_l0_2 l E (mw_si σ 33 1 (nI (a + 1))) T j hj (a + 1) (ts.tail) cs (B - 1) (by omega) pn20.1) vb_X3_readLevel tw_2_216 ⟨rfl, rfl⟩ ⟨Nat.le_of_ble_eq_true rfl, Nat.le_of_ble_eq_true rfl⟩ (by decide) sx_33 rfl rfl rfl hl.1 rfl (Nat.le_of_ble_eq_true rfl) dX3_readOne_115 ⟨Nat.zero_le _, Nat.zero_le _⟩ (fun u31 H locs q32 hP hS => ?_)
              obtain ⟨hx22, f23⟩ := q32
              rcases e24 : (gD 3).2.2 (ts.tail) with ⟨cs25, ts26⟩ | qq29
              · rw [e24] at hx22
                obtain ⟨a27, po28⟩ := hx22
                have po28 : xPo u31 T j a27 ts26 (cs ++ cs25) (B - 1) := po28
                refine lv_aload_n C.1 C.2.1 dX3_readOne_118 rfl (lv_at hl 1 rfl) ?_
                refine lv_bipush (v := 13) C.1 C.2.1 dX3_readOne_119 (by decide) ?_
                refine mw_cVv (As := [.int 13]) (rest := []) C Z hP hS (33) (cX_passG l E u31 T j hj a27 ts26 ((cs ++ cs25)) (B - 1) (by omega) po28 13 (by decide)) vb_X3_pass tw_2_200 ⟨rfl, rfl⟩ ⟨Nat.le_of_ble_eq_true rfl, Nat.le_of_ble_eq_true rfl⟩ (by decide) sx_33 rfl rfl rfl hl.1 rfl (Nat.le_of_ble_eq_true rfl) dX3_readOne_121 ⟨Nat.zero_le _, Nat.zero_le _⟩ (fun u36 H locs q37 hP hS => ?_)
                by_cases hc33 : hdC ts26 = 13
                · have e34 := q37.1 hc33; subst e34
                  have pn38 := po28.next hj (by omega)
                  refine lv_goto (tgt := 131) C.1 C.2.1 dX3_readOne_124 (by decide) ?_
                  exact mw_vret C hr hlk Z hP hS dX3_readOne_131 (⟨xAf.gd ((congrFun gA_4 ts).trans (gAt_p1 h12 e24 hc33)) (pn38.1.wk (by omega)), ((((xPf.rf j σ).rd _ _).tr f23).rd _ _)⟩)
                · have e34 := q37.2 hc33; subst e34
                  have pb39 := po28.fail hj (by have y := po28.2.2.2.2.2.2; omega)
                  refine lv_goto (tgt := 131) C.1 C.2.1 dX3_readOne_124 (by decide) ?_
                  exact mw_vret C hr hlk Z hP hS dX3_readOne_131 (⟨xAf.bd ((congrFun gA_4 ts).trans (gAt_p2 h12 e24 hc33)) pb39, ((((xPf.rf j σ).rd _ _).tr f23).rd _ _)⟩)
              · rw [e24] at hx22
                have po28 : xPb u31 T j qq29 := hx22
                refine lv_aload_n C.1 C.2.1 dX3_readOne_118 rfl (lv_at hl 1 rfl) ?_
                refine lv_bipush (v := 13) C.1 C.2.1 dX3_readOne_119 (by decide) ?_
                refine mw_cVv (As := [.int 13]) (rest := []) C Z hP hS (33) (cX_passB l E u31 T j hj qq29 po28 (13 : Int32)) vb_X3_pass tw_2_200 ⟨rfl, rfl⟩ ⟨Nat.le_of_ble_eq_true rfl, Nat.le_of_ble_eq_true rfl⟩ (by decide) sx_33 rfl rfl rfl hl.1 rfl (Nat.le_of_ble_eq_true rfl) dX3_readOne_121 ⟨Nat.zero_le _, Nat.zero_le _⟩ (fun u41 H locs q42 hP hS => ?_)
                rw [q42] at hP; clear q42
                refine lv_goto (tgt := 131) C.1 C.2.1 dX3_readOne_124 (by decide) ?_
                exact mw_vret C hr hlk Z hP hS dX3_readOne_131 (⟨xAf.bd ((congrFun gA_4 ts).trans (gAt_p3 h12 e24)) po28, (((xPf.rf j σ).rd _ _).tr f23)⟩)
        · have h16 : hdC ts = 16 := nI_eqI (b := 16) (by omega) (by decide) c14
          have hne : hdC ts ≠ 21 := by omega
          refine lv_iload_n C.1 C.2.1 dX3_readOne_56 rfl (lv_at hl 3 rfl) ?_
          refine lv_iconst (v := 5) C.1 C.2.1 dX3_readOne_57 (by decide) ?_
          refine lv_icmp_ge (tgt := 88) C.1 C.2.1 dX3_readOne_58 (by decide) (fun c43 => ?_) (fun c43 => ?_)
          · exact absurd c43 (by decide)
          · refine lv_aload_n C.1 C.2.1 dX3_readOne_61 rfl (lv_at hl 1 rfl) ?_
            refine lv_dup C.1 C.2.1 dX3_readOne_62 rfl ?_
            refine mw_geti C Z hP (33) 1 (by decide) sx_33 rfl rfl (by decide) inX3 tw_1_154 dX3_readOne_63 ?_
            refine mw_top (y := nI a) (h.2.2.2.1) ?_
            refine lv_iconst (v := 1) C.1 C.2.1 dX3_readOne_66 (by decide) ?_
            refine lv_iadd C.1 C.2.1 dX3_readOne_67 ?_
            refine mw_top (y := nI (a + 1)) (nI_1 _) ?_
            refine mw_puti C Z hP hS (33) 1 (by decide) sx_33 rfl rfl (by decide) inX3 tyX3 tyX3_ok nmX3 rfl tw_1_154 rfl rfl dX3_readOne_68 (fun H locs hP hS => ?_)
            have pn44 := h.next hj hne
            have hb45 := pn44.2
            refine lv_aload_n C.1 C.2.1 dX3_readOne_71 rfl (lv_at hl 1 rfl) ?_
            refine lv_aload_n C.1 C.2.1 dX3_readOne_72 rfl (lv_at hl 2 rfl) ?_
            refine lv_iload_n C.1 C.2.1 dX3_readOne_73 rfl (lv_at hl 3 rfl) ?_
            refine lv_iconst (v := 1) C.1 C.2.1 dX3_readOne_74 (by decide) ?_
            refine lv_iadd C.1 C.2.1 dX3_readOne_75 ?_
            refine mw_top (y := 2) (by decide) ?_
            refine mw_cVv (As := [.ref (mw_a E (39 + j)), .int 2]) (rest := []) C Z hP hS (33) (cX_one2 l E (mw_si σ 33 1 (nI (a + 1))) T j hj (a + 1) (ts.tail) cs (B - 1) (by omega) pn44.1) vb_X3_readOne tw_2_220 ⟨rfl, rfl⟩ ⟨Nat.le_of_ble_eq_true rfl, Nat.le_of_ble_eq_true rfl⟩ (by decide) sx_33 rfl rfl rfl hl.1 rfl (Nat.le_of_ble_eq_true rfl) dX3_readOne_76 ⟨Nat.zero_le _, Nat.zero_le _⟩ (fun u55 H locs q56 hP hS => ?_)
            obtain ⟨hx46, f47⟩ := q56
            rcases e48 : (gD 3).1 (ts.tail) with ⟨cs49, ts50⟩ | qq53
            · rw [e48] at hx46
              obtain ⟨a51, po52⟩ := hx46
              have po52 : xPo u55 T j a51 ts50 (cs ++ cs49) (B - 1) := po52
              refine lv_aload_n C.1 C.2.1 dX3_readOne_79 rfl (lv_at hl 2 rfl) ?_
              refine lv_bipush (v := 20) C.1 C.2.1 dX3_readOne_80 (by decide) ?_
              refine mw_top (y := nI 20) (rfl) ?_
              refine mw_cVv (As := [.int (nI 20)]) (rest := []) C Z hP hS (39 + j) (cX_add l E u55 j hj ((cs ++ cs49)).length po52.2.2.2.2.2.1.1 (by have y := po52.2.2.2.2.2.2; omega) (nI 20)) vb_X8_add tw_2_224 ⟨rfl, rfl⟩ ⟨Nat.le_of_ble_eq_true rfl, Nat.le_of_ble_eq_true rfl⟩ (by omega) (sx_tx (by omega)) rfl rfl rfl hl.1 rfl (Nat.le_of_ble_eq_true rfl) dX3_readOne_82 ⟨Nat.zero_le _, Nat.zero_le _⟩ (fun u58 H locs q59 hP hS => ?_)
              have e60 := q59.1 (by have y := po52.2.2.2.2.2.2; omega)
              subst e60
              have po61 := (po52.add hj 20).wk (C := B) (by omega)
              refine lv_goto (tgt := 131) C.1 C.2.1 dX3_readOne_85 (by decide) ?_
              exact mw_vret C hr hlk Z hP hS dX3_readOne_131 (⟨xAf.gd ((congrFun gA_4 ts).trans (gAt_m1 h16 e48)) (by rw [← List.append_assoc]; exact po61), ((((xPf.rf j σ).rd _ _).tr f47).ad _ _ _)⟩)
            · rw [e48] at hx46
              have po52 : xPb u55 T j qq53 := hx46
              refine lv_aload_n C.1 C.2.1 dX3_readOne_79 rfl (lv_at hl 2 rfl) ?_
              refine lv_bipush (v := 20) C.1 C.2.1 dX3_readOne_80 (by decide) ?_
              refine mw_top (y := nI 20) (rfl) ?_
              obtain ⟨k62, hk63, ek64⟩ := po52.2.2.2
              refine mw_cVv (As := [.int (nI 20)]) (rest := []) C Z hP hS (39 + j) (cX_add l E u55 j hj k62 ek64 hk63 (nI 20)) vb_X8_add tw_2_224 ⟨rfl, rfl⟩ ⟨Nat.le_of_ble_eq_true rfl, Nat.le_of_ble_eq_true rfl⟩ (by omega) (sx_tx (by omega)) rfl rfl rfl hl.1 rfl (Nat.le_of_ble_eq_true rfl) dX3_readOne_82 ⟨Nat.zero_le _, Nat.zero_le _⟩ (fun u67 H locs q68 hP hS => ?_)
              have w65 := xPb.add po52 hj hk63 q68
              refine lv_goto (tgt := 131) C.1 C.2.1 dX3_readOne_85 (by decide) ?_
              exact mw_vret C hr hlk Z hP hS dX3_readOne_131 (⟨xAf.bd ((congrFun gA_4 ts).trans (gAt_m2 h16 e48)) w65.1, ((((xPf.rf j σ).rd _ _).tr f47).tr w65.2)⟩)
      · have c13 := (not_congr (nI_ltI (b := 100) (by omega) (by decide))).mp c13
        have hcl : hdC ts ≤ 5 ∨ 100 ≤ hdC ts := by omega
        have hne : hdC ts ≠ 21 := by omega
        refine lv_aload_n C.1 C.2.1 dX3_readOne_32 rfl (lv_at hl 1 rfl) ?_
        refine lv_dup C.1 C.2.1 dX3_readOne_33 rfl ?_
        refine mw_geti C Z hP (33) 1 (by decide) sx_33 rfl rfl (by decide) inX3 tw_1_154 dX3_readOne_34 ?_
        refine mw_top (y := nI a) (h.2.2.2.1) ?_
        refine lv_iconst (v := 1) C.1 C.2.1 dX3_readOne_37 (by decide) ?_
        refine lv_iadd C.1 C.2.1 dX3_readOne_38 ?_
        refine mw_top (y := nI (a + 1)) (nI_1 _) ?_
        refine mw_puti C Z hP hS (33) 1 (by decide) sx_33 rfl rfl (by decide) inX3 tyX3 tyX3_ok nmX3 rfl tw_1_154 rfl rfl dX3_readOne_39 (fun H locs hP hS => ?_)
        have pn69 := h.next hj hne
        have hb70 := pn69.2
        refine lv_aload_n C.1 C.2.1 dX3_readOne_42 rfl (lv_at hl 2 rfl) ?_
        refine lv_iload_n C.1 C.2.1 dX3_readOne_43 rfl (lv_at hl 0 rfl) ?_
        refine mw_cVv (As := [.int (nI (hdC ts))]) (rest := []) C Z hP hS (39 + j) (cX_add l E (mw_si σ 33 1 (nI (a + 1))) j hj cs.length pn69.1.2.2.2.2.2.1.1 (by have y := pn69.1.2.2.2.2.2.2; omega) (nI (hdC ts))) vb_X8_add tw_2_224 ⟨rfl, rfl⟩ ⟨Nat.le_of_ble_eq_true rfl, Nat.le_of_ble_eq_true rfl⟩ (by omega) (sx_tx (by omega)) rfl rfl rfl hl.1 rfl (Nat.le_of_ble_eq_true rfl) dX3_readOne_44 ⟨Nat.zero_le _, Nat.zero_le _⟩ (fun u72 H locs q73 hP hS => ?_)
        have e74 := q73.1 (by have y := pn69.1.2.2.2.2.2.2; omega)
        subst e74
        have po75 := (pn69.1.add hj (hdC ts)).wk (C := B) (by omega)
        refine lv_goto (tgt := 131) C.1 C.2.1 dX3_readOne_47 (by decide) ?_
        exact mw_vret C hr hlk Z hP hS dX3_readOne_131 (⟨xAf.gd ((congrFun gA_4 ts).trans (gAt_a hcl)) po75, (((xPf.rf j σ).rd _ _).ad _ _ _)⟩)
  · exact absurd c4 (by decide)

set_option maxHeartbeats 4000000 in
set_option maxRecDepth 100000 in
theorem cX_l5_1 (l : Launch) (E : mw_E) (σ : mw_M) (T : List (Nat × Nat)) (j : Nat) (hj : j < 6) (a : Nat) (ts : List (Nat × Nat)) (cs : List Nat) (B : Nat) (hB : B ≤ 160) (h : xPo σ T j a ts cs B) : mw_Cv shX 75 gX l yX3_readLevel cX3_readLevel 6 none (rmF 33 841) E [.ref (mw_a E 33), .ref (mw_a E (39 + j)), .int 5, .int 1] σ (fun u => xAf T j B cs ((gD 4).1 ts) u ∧ xPf j σ u) := by
  refine mw_of (by decide) gX_ok (Nat.le_of_ble_eq_true rfl) ?_
  intro p_ e_ s_ m_ below meth c_ C hr hlk Z hP ls hl
  have C : CallFix p_ m_ c_ cX3_readLevel 6 s_ _ lw_good RX3 := C
  have hl : lv_has ls 6 [(0, .ref (mw_a E 33)), (1, .ref (mw_a E (39 + j))), (2, .int 5), (3, .int 1)] := hl
  have hS : va_S (mw_A 75 E) s_.heap s_.heap [] := va_S.rf
  have hlt : hdC ts < 20000 := by have y := (h.1.lt a).1; rw [h.2.1] at y; exact y
  refine lv_iload_n C.1 C.2.1 dX3_readLevel_0 rfl (lv_at hl 2 rfl) ?_
  refine lv_iconst (v := 4) C.1 C.2.1 dX3_readLevel_1 (by decide) ?_
  refine lv_icmp_le (tgt := 12) C.1 C.2.1 dX3_readLevel_2 (by decide) (fun c1 => ?_) (fun c1 => ?_)
  · exact absurd c1 (by decide)
  · refine lv_aload_n C.1 C.2.1 dX3_readLevel_5 rfl (lv_at hl 0 rfl) ?_
    refine lv_aload_n C.1 C.2.1 dX3_readLevel_6 rfl (lv_at hl 1 rfl) ?_
    refine lv_iload_n C.1 C.2.1 dX3_readLevel_7 rfl (lv_at hl 3 rfl) ?_
    refine mw_cVv (As := [.ref (mw_a E (39 + j)), .int 1]) (rest := []) C Z hP hS (33) (cX_one1 l E σ T j hj a ts cs B (by omega) h) vb_X3_readOne tw_2_220 ⟨rfl, rfl⟩ ⟨Nat.le_of_ble_eq_true rfl, Nat.le_of_ble_eq_true rfl⟩ (by decide) sx_33 rfl rfl rfl hl.1 rfl (Nat.le_of_ble_eq_true rfl) dX3_readLevel_8 ⟨Nat.zero_le _, Nat.zero_le _⟩ (fun u11 H locs q12 hP hS => ?_)
    obtain ⟨hx2, f3⟩ := q12
    rcases e4 : (gD 4).1 ts with ⟨cs5, ts6⟩ | qq9
    · rw [e4] at hx2
      obtain ⟨a7, po8⟩ := hx2
      have po8 : xPo u11 T j a7 ts6 (cs ++ cs5) B := po8
      exact mw_vret C hr hlk Z hP hS dX3_readLevel_11 (⟨xAf.gd rfl po8, ((xPf.rf j σ).tr f3)⟩)
    · rw [e4] at hx2
      have po8 : xPb u11 T j qq9 := hx2
      exact mw_vret C hr hlk Z hP hS dX3_readLevel_11 (⟨xAf.bd rfl po8, ((xPf.rf j σ).tr f3)⟩)

set_option maxHeartbeats 4000000 in
set_option maxRecDepth 100000 in
theorem cX_l4_1 (l : Launch) (E : mw_E) (σ : mw_M) (T : List (Nat × Nat)) (j : Nat) (hj : j < 6) (a : Nat) (ts : List (Nat × Nat)) (cs : List Nat) (B : Nat) (hB : B ≤ 160) (h : xPo σ T j a ts cs B) : mw_Cv shX 75 gX l yX3_readLevel cX3_readLevel 6 none (rmF 34 866) E [.ref (mw_a E 33), .ref (mw_a E (39 + j)), .int 4, .int 1] σ (fun u => xAf T j B cs ((gLevel gTim (gD 4).1) ts) u ∧ xPf j σ u) := by
  refine mw_of (by decide) gX_ok (Nat.le_of_ble_eq_true rfl) ?_
  intro p_ e_ s_ m_ below meth c_ C hr hlk Z hP ls hl
  have C : CallFix p_ m_ c_ cX3_readLevel 6 s_ _ lw_good RX3 := C
  have hl : lv_has ls 6 [(0, .ref (mw_a E 33)), (1, .ref (mw_a E (39 + j))), (2, .int 4), (3, .int 1)] := hl
  have hS : va_S (mw_A 75 E) s_.heap s_.heap [] := va_S.rf
  have hlt : hdC ts < 20000 := by have y := (h.1.lt a).1; rw [h.2.1] at y; exact y
  refine lv_iload_n C.1 C.2.1 dX3_readLevel_0 rfl (lv_at hl 2 rfl) ?_
  refine lv_iconst (v := 4) C.1 C.2.1 dX3_readLevel_1 (by decide) ?_
  refine lv_icmp_le (tgt := 12) C.1 C.2.1 dX3_readLevel_2 (by decide) (fun c1 => ?_) (fun c1 => ?_)
  · refine lv_iload_n C.1 C.2.1 dX3_readLevel_12 rfl (lv_at hl 2 rfl) ?_
    refine lv_iconst (v := 2) C.1 C.2.1 dX3_readLevel_13 (by decide) ?_
    refine lv_icmp_ne (tgt := 40) C.1 C.2.1 dX3_readLevel_14 (by decide) (fun c2 => ?_) (fun c2 => ?_)
    · refine lv_aload_n C.1 C.2.1 dX3_readLevel_40 rfl (lv_at hl 0 rfl) ?_
      refine lv_aload_n C.1 C.2.1 dX3_readLevel_41 rfl (lv_at hl 1 rfl) ?_
      refine lv_iload_n C.1 C.2.1 dX3_readLevel_42 rfl (lv_at hl 2 rfl) ?_
      refine lv_iconst (v := 1) C.1 C.2.1 dX3_readLevel_43 (by decide) ?_
      refine lv_iadd C.1 C.2.1 dX3_readLevel_44 ?_
      refine mw_top (y := 5) (by decide) ?_
      refine lv_iload_n C.1 C.2.1 dX3_readLevel_45 rfl (lv_at hl 3 rfl) ?_
      refine mw_cVv (As := [.ref (mw_a E (39 + j)), .int 5, .int 1]) (rest := []) C Z hP hS (33) (cX_l5_1 l E σ T j hj a ts cs B (by omega) h) vb_X3_readLevel tw_2_216 ⟨rfl, rfl⟩ ⟨Nat.le_of_ble_eq_true rfl, Nat.le_of_ble_eq_true rfl⟩ (by decide) sx_33 rfl rfl rfl hl.1 rfl (Nat.le_of_ble_eq_true rfl) dX3_readLevel_46 ⟨Nat.zero_le _, Nat.zero_le _⟩ (fun u12 H locs q13 hP hS => ?_)
      obtain ⟨hx3, f4⟩ := q13
      rcases e5 : (gD 4).1 ts with ⟨cs6, ts7⟩ | qq10
      · rw [e5] at hx3
        obtain ⟨a8, po9⟩ := hx3
        have po9 : xPo u12 T j a8 ts7 (cs ++ cs6) B := po9
        refine lv_iconst (v := 0) C.1 C.2.1 dX3_readLevel_49 (by decide) ?_
        refine lv_istore (lv' := [(4, .int 0), (0, .ref (mw_a E 33)), (1, .ref (mw_a E (39 + j))), (2, .int 4), (3, .int 1)]) C.1 C.2.1 dX3_readLevel_50 hl (by decide) rfl (fun ls hl => ?_)
        have lpa : ∀ (N : Nat) (a1 : Nat) (t : Nat) (f : Nat) (ts1 : List (Nat × Nat)) (cs1 : List Nat) (ςa : mw_M) (H : Heap) (locs : List Loc), 161 ≤ t + N → (t ≤ 160) → (ts1.length ≤ f) → (t + ts1.length ≤ 160) → ((gLevel gTim (gD 4).1) ts = gLoop gTim (gD 4).1 f cs1 ts1) → (xPo ςa T j a1 ts1 (cs ++ cs1) B) → xPf j σ ςa → va_P (mw_D E) vwCl (mw_ws shX 75 E ςa) H → va_S (mw_A 75 E) s_.heap H locs → ∀ (ls : Array Slot), lv_has ls 6 [(0, .ref (mw_a E 33)), (1, .ref (mw_a E (39 + j))), (2, .int 4), (3, .int 1), (4, .int (nI t))] → xWv p_ l e_ (rmF 34 866) s_ m_ [.ref (mw_a E 33), .ref (mw_a E (39 + j)), .int 4, .int 1] below meth c_ E (fun u => xAf T j B cs ((gLevel gTim (gD 4).1) ts) u ∧ xPf j σ u) H locs (F0 m_ 52 ls []) := by
          intro N
          induction N with
          | zero => intros; exfalso; omega
          | succ N iha =>
            intro a1 t f ts1 cs1 ςa H locs hNa ht hf htl hsp hpo fra hP hS ls hl
            refine lv_iload C.1 C.2.1 dX3_readLevel_52 (lv_at hl 4 rfl) ?_
            refine lv_sipush (v := 160) C.1 C.2.1 dX3_readLevel_54 (by decide) ?_
            refine lv_icmp_ge (tgt := 128) C.1 C.2.1 dX3_readLevel_57 (by decide) (fun c14 => ?_) (fun c14 => ?_)
            · have c14 := (nI_leI (a := 160) (by decide) (by omega)).mp c14
              have e0 : ts1 = [] := List.eq_nil_of_length_eq_zero (by omega)
              exact mw_vret C hr hlk Z hP hS dX3_readLevel_128 (⟨xAf.gd (hsp.trans (gLoop_stop (by rw [e0]; decide))) hpo, fra⟩)
            · have c14 := (not_congr (nI_leI (a := 160) (by decide) (by omega))).mp c14
              refine lv_aload_n C.1 C.2.1 dX3_readLevel_60 rfl (lv_at hl 0 rfl) ?_
              refine mw_geti C Z hP (33) 2 (by decide) sx_33 rfl rfl (by decide) inX3 tw_1_155 dX3_readLevel_61 ?_
              refine mw_top (y := -1) (hpo.2.2.2.2.1) ?_
              refine lv_iconst (v := -1) C.1 C.2.1 dX3_readLevel_64 (by decide) ?_
              refine lv_icmp_ne (tgt := 128) C.1 C.2.1 dX3_readLevel_65 (by decide) (fun c15 => ?_) (fun c15 => ?_)
              · exact absurd c15 (by decide)
              · refine lv_aload_n C.1 C.2.1 dX3_readLevel_68 rfl (lv_at hl 0 rfl) ?_
                refine mw_getr C Z hP (33) 0 (34) (by decide) sx_33 rfl rfl (by decide) inX3 tw_1_153 dX3_readLevel_69 ?_
                refine lv_aload_n C.1 C.2.1 dX3_readLevel_72 rfl (lv_at hl 0 rfl) ?_
                refine mw_geti C Z hP (33) 1 (by decide) sx_33 rfl rfl (by decide) inX3 tw_1_154 dX3_readLevel_73 ?_
                refine mw_top (y := nI a1) (hpo.2.2.2.1) ?_
                refine mw_cVi (As := [.int (nI a1)]) (rest := []) C Z hP hS (34) (cX_tokenAt l E ςa T.length hpo.1.2.1 hpo.1.1 a1 (by have y1 := hpo.1.1; have y2 := hpo.2.2.1; omega)) vb_X10_tokenAt tw_2_204 ⟨rfl, rfl⟩ ⟨Nat.le_of_ble_eq_true rfl, Nat.le_of_ble_eq_true rfl⟩ (by decide) sx_34 rfl rfl rfl hl.1 rfl (Nat.le_of_ble_eq_true rfl) dX3_readLevel_76 ⟨Nat.zero_le _, Nat.zero_le _⟩ (fun r16 u17 H locs q18 hP hS => ?_)
                rw [(hpo.1.tok a1).1, hpo.2.1] at q18
                obtain ⟨rfl, q18u⟩ := q18
                rw [q18u] at hP; clear q18u
                refine lv_istore (lv' := [(5, .int (nI (hdC ts1))), (0, .ref (mw_a E 33)), (1, .ref (mw_a E (39 + j))), (2, .int 4), (3, .int 1), (4, .int (nI t))]) C.1 C.2.1 dX3_readLevel_79 hl (by decide) rfl (fun ls hl => ?_)
                refine lv_iload C.1 C.2.1 dX3_readLevel_81 (lv_at hl 0 rfl) ?_
                refine mw_cSi (As := [.int (nI (hdC ts1))]) (rest := []) C Z hP hS (cX_levelOf l E ςa (hdC ts1) (by have y := (hpo.1.lt a1).1; rw [hpo.2.1] at y; omega)) sb_X3_levelOf tw_2_232 ⟨rfl, rfl⟩ ⟨Nat.le_of_ble_eq_true rfl, Nat.le_of_ble_eq_true rfl⟩ rfl hl.1 rfl (Nat.le_of_ble_eq_true rfl) dX3_readLevel_83 ⟨Nat.zero_le _, Nat.zero_le _⟩ (fun r19 u20 H locs q21 hP hS => ?_)
                obtain ⟨rfl, q21u⟩ := q21
                rw [q21u] at hP; clear q21u
                refine lv_iload_n C.1 C.2.1 dX3_readLevel_86 rfl (lv_at hl 3 rfl) ?_
                refine lv_icmp_eq (tgt := 91) C.1 C.2.1 dX3_readLevel_87 (by decide) (fun c22 => ?_) (fun c22 => ?_)
                · have hop := lv_4.mp c22
                  have hne : hdC ts1 ≠ 21 := lv_21 c22 (by decide)
                  obtain ⟨f2, ef, egl⟩ := gLoop_go (x := (gD 4).1) (cs := cs1) hne hop hf
                  refine lv_aload_n C.1 C.2.1 dX3_readLevel_91 rfl (lv_at hl 1 rfl) ?_
                  refine lv_dup C.1 C.2.1 dX3_readLevel_92 rfl ?_
                  refine mw_geti C Z hP (33) 1 (by decide) sx_33 rfl rfl (by decide) inX3 tw_1_154 dX3_readLevel_93 ?_
                  refine mw_top (y := nI a1) (hpo.2.2.2.1) ?_
                  refine lv_iconst (v := 1) C.1 C.2.1 dX3_readLevel_96 (by decide) ?_
                  refine lv_iadd C.1 C.2.1 dX3_readLevel_97 ?_
                  refine mw_top (y := nI (a1 + 1)) (nI_1 _) ?_
                  refine mw_puti C Z hP hS (33) 1 (by decide) sx_33 rfl rfl (by decide) inX3 tyX3 tyX3_ok nmX3 rfl tw_1_154 rfl rfl dX3_readLevel_98 (fun H locs hP hS => ?_)
                  have pn23 := hpo.next hj hne
                  have hb24 := pn23.2
                  refine lv_aload_n C.1 C.2.1 dX3_readLevel_101 rfl (lv_at hl 1 rfl) ?_
                  refine lv_aload_n C.1 C.2.1 dX3_readLevel_102 rfl (lv_at hl 2 rfl) ?_
                  refine lv_iload_n C.1 C.2.1 dX3_readLevel_103 rfl (lv_at hl 3 rfl) ?_
                  refine lv_iconst (v := 1) C.1 C.2.1 dX3_readLevel_104 (by decide) ?_
                  refine lv_iadd C.1 C.2.1 dX3_readLevel_105 ?_
                  refine mw_top (y := 5) (by decide) ?_
                  refine lv_iload_n C.1 C.2.1 dX3_readLevel_106 rfl (lv_at hl 4 rfl) ?_
                  refine mw_cVv (As := [.ref (mw_a E (39 + j)), .int 5, .int 1]) (rest := []) C Z hP hS (33) (cX_l5_1 l E (mw_si ςa 33 1 (nI (a1 + 1))) T j hj (a1 + 1) (ts1.tail) ((cs ++ cs1)) (B - 1) (by omega) pn23.1) vb_X3_readLevel tw_2_216 ⟨rfl, rfl⟩ ⟨Nat.le_of_ble_eq_true rfl, Nat.le_of_ble_eq_true rfl⟩ (by decide) sx_33 rfl rfl rfl hl.1 rfl (Nat.le_of_ble_eq_true rfl) dX3_readLevel_107 ⟨Nat.zero_le _, Nat.zero_le _⟩ (fun u34 H locs q35 hP hS => ?_)
                  obtain ⟨hx25, f26⟩ := q35
                  rcases e27 : (gD 4).1 (ts1.tail) with ⟨cs28, ts29⟩ | qq32
                  · rw [e27] at hx25
                    obtain ⟨a30, po31⟩ := hx25
                    have po31 : xPo u34 T j a30 ts29 ((cs ++ cs1) ++ cs28) (B - 1) := po31
                    refine lv_aload_n C.1 C.2.1 dX3_readLevel_110 rfl (lv_at hl 2 rfl) ?_
                    refine lv_iload C.1 C.2.1 dX3_readLevel_111 (lv_at hl 0 rfl) ?_
                    refine mw_cVv (As := [.int (nI (hdC ts1))]) (rest := []) C Z hP hS (39 + j) (cX_add l E u34 j hj (((cs ++ cs1) ++ cs28)).length po31.2.2.2.2.2.1.1 (by have y := po31.2.2.2.2.2.2; omega) (nI (hdC ts1))) vb_X8_add tw_2_224 ⟨rfl, rfl⟩ ⟨Nat.le_of_ble_eq_true rfl, Nat.le_of_ble_eq_true rfl⟩ (by omega) (sx_tx (by omega)) rfl rfl rfl hl.1 rfl (Nat.le_of_ble_eq_true rfl) dX3_readLevel_113 ⟨Nat.zero_le _, Nat.zero_le _⟩ (fun u37 H locs q38 hP hS => ?_)
                    have e39 := q38.1 (by have y := po31.2.2.2.2.2.2; omega)
                    subst e39
                    have po40 := (po31.add hj (hdC ts1)).wk (C := B) (by omega)
                    refine lv_iload_n C.1 C.2.1 dX3_readLevel_116 rfl (lv_at hl 3 rfl) ?_
                    refine lv_iconst (v := 2) C.1 C.2.1 dX3_readLevel_117 (by decide) ?_
                    refine lv_icmp_ne (tgt := 122) C.1 C.2.1 dX3_readLevel_118 (by decide) (fun c41 => ?_) (fun c41 => ?_)
                    · refine lv_iinc (v := nI (t + 1)) (lv' := [(4, .int (nI (t + 1))), (5, .int (nI (hdC ts1))), (0, .ref (mw_a E 33)), (1, .ref (mw_a E (39 + j))), (2, .int 4), (3, .int 1)]) C.1 C.2.1 dX3_readLevel_122 hl (k := 5) rfl (nI_1 _) (by decide) rfl (fun ls hl => ?_)
                      refine lv_goto (tgt := 52) C.1 C.2.1 dX3_readLevel_125 (by decide) ?_
                      exact iha a30 (t + 1) f2 ts29 (cs1 ++ cs28 ++ [hdC ts1]) (mw_si (mw_sa u34 (45 + j) (((cs ++ cs1) ++ cs28)).length (nI (hdC ts1))) (39 + j) 3 (nI ((((cs ++ cs1) ++ cs28)).length + 1))) _ _ (by omega) (by omega) (by have y1 := ((gD_dec 4).1) _ _ _ e27; have y2 := tail_len hne; omega) (by have y1 := ((gD_dec 4).1) _ _ _ e27; have y2 := tail_len hne; omega) (hsp.trans (egl.trans (by rw [e27]))) ((by rw [← List.append_assoc]; rw [← List.append_assoc]; exact po40)) (((fra.rd _ _).tr f26).ad _ _ _) hP hS ls (lv_sub hl [2, 3, 4, 5, 0] rfl)
                    · exact absurd c41 (by decide)
                  · rw [e27] at hx25
                    have po31 : xPb u34 T j qq32 := hx25
                    refine lv_aload_n C.1 C.2.1 dX3_readLevel_110 rfl (lv_at hl 2 rfl) ?_
                    refine lv_iload C.1 C.2.1 dX3_readLevel_111 (lv_at hl 0 rfl) ?_
                    obtain ⟨k42, hk43, ek44⟩ := po31.2.2.2
                    refine mw_cVv (As := [.int (nI (hdC ts1))]) (rest := []) C Z hP hS (39 + j) (cX_add l E u34 j hj k42 ek44 hk43 (nI (hdC ts1))) vb_X8_add tw_2_224 ⟨rfl, rfl⟩ ⟨Nat.le_of_ble_eq_true rfl, Nat.le_of_ble_eq_true rfl⟩ (by omega) (sx_tx (by omega)) rfl rfl rfl hl.1 rfl (Nat.le_of_ble_eq_true rfl) dX3_readLevel_113 ⟨Nat.zero_le _, Nat.zero_le _⟩ (fun u47 H locs q48 hP hS => ?_)
                    have w45 := xPb.add po31 hj hk43 q48
                    refine lv_iload_n C.1 C.2.1 dX3_readLevel_116 rfl (lv_at hl 3 rfl) ?_
                    refine lv_iconst (v := 2) C.1 C.2.1 dX3_readLevel_117 (by decide) ?_
                    refine lv_icmp_ne (tgt := 122) C.1 C.2.1 dX3_readLevel_118 (by decide) (fun c49 => ?_) (fun c49 => ?_)
                    · refine lv_iinc (v := nI (t + 1)) (lv' := [(4, .int (nI (t + 1))), (5, .int (nI (hdC ts1))), (0, .ref (mw_a E 33)), (1, .ref (mw_a E (39 + j))), (2, .int 4), (3, .int 1)]) C.1 C.2.1 dX3_readLevel_122 hl (k := 5) rfl (nI_1 _) (by decide) rfl (fun ls hl => ?_)
                      refine lv_goto (tgt := 52) C.1 C.2.1 dX3_readLevel_125 (by decide) ?_
                      refine lv_iload C.1 C.2.1 dX3_readLevel_52 (lv_at hl 0 rfl) ?_
                      refine lv_sipush (v := 160) C.1 C.2.1 dX3_readLevel_54 (by decide) ?_
                      refine lv_icmp_ge (tgt := 128) C.1 C.2.1 dX3_readLevel_57 (by decide) (fun c50 => ?_) (fun c50 => ?_)
                      · exact mw_vret C hr hlk Z hP hS dX3_readLevel_128 (⟨xAf.bd (hsp.trans (egl.trans (by rw [e27]))) w45.1, (((fra.rd _ _).tr f26).tr w45.2)⟩)
                      · refine lv_aload_n C.1 C.2.1 dX3_readLevel_60 rfl (lv_at hl 2 rfl) ?_
                        refine mw_geti C Z hP (33) 2 (by decide) sx_33 rfl rfl (by decide) inX3 tw_1_155 dX3_readLevel_61 ?_
                        refine mw_top (y := nI qq32) (w45.1.2.2.1.1) ?_
                        refine lv_iconst (v := -1) C.1 C.2.1 dX3_readLevel_64 (by decide) ?_
                        refine lv_icmp_ne (tgt := 128) C.1 C.2.1 dX3_readLevel_65 (by decide) (fun c51 => ?_) (fun c51 => ?_)
                        · exact mw_vret C hr hlk Z hP hS dX3_readLevel_128 (⟨xAf.bd (hsp.trans (egl.trans (by rw [e27]))) w45.1, (((fra.rd _ _).tr f26).tr w45.2)⟩)
                        · exact absurd c51 (nI_nm1 (by have y := w45.1.2.2.1.2; omega))
                    · exact absurd c49 (by decide)
                · have hnop : ¬ gTim (hdC ts1) = true := fun y => c22 (lv_4.mpr y)
                  exact mw_vret C hr hlk Z hP hS dX3_readLevel_90 (⟨xAf.gd (hsp.trans (gLoop_stop hnop)) hpo, fra⟩)
        exact lpa (161) a8 0 (ts7.length) ts7 cs6 u12 _ _ (by omega) (by omega) (Nat.le_refl _) (by have y := po9.2.2.2.2.2.2; omega) ((gLevel_g e5)) (po9) ((xPf.rf j σ).tr f4) hP hS ls (lv_sub hl [1, 2, 3, 4, 0] rfl)
      · rw [e5] at hx3
        have po9 : xPb u12 T j qq10 := hx3
        refine lv_iconst (v := 0) C.1 C.2.1 dX3_readLevel_49 (by decide) ?_
        refine lv_istore (lv' := [(4, .int 0), (0, .ref (mw_a E 33)), (1, .ref (mw_a E (39 + j))), (2, .int 4), (3, .int 1)]) C.1 C.2.1 dX3_readLevel_50 hl (by decide) rfl (fun ls hl => ?_)
        refine lv_iload C.1 C.2.1 dX3_readLevel_52 (lv_at hl 0 rfl) ?_
        refine lv_sipush (v := 160) C.1 C.2.1 dX3_readLevel_54 (by decide) ?_
        refine lv_icmp_ge (tgt := 128) C.1 C.2.1 dX3_readLevel_57 (by decide) (fun c52 => ?_) (fun c52 => ?_)
        · exact absurd c52 (by decide)
        · refine lv_aload_n C.1 C.2.1 dX3_readLevel_60 rfl (lv_at hl 1 rfl) ?_
          refine mw_geti C Z hP (33) 2 (by decide) sx_33 rfl rfl (by decide) inX3 tw_1_155 dX3_readLevel_61 ?_
          refine mw_top (y := nI qq10) (po9.2.2.1.1) ?_
          refine lv_iconst (v := -1) C.1 C.2.1 dX3_readLevel_64 (by decide) ?_
          refine lv_icmp_ne (tgt := 128) C.1 C.2.1 dX3_readLevel_65 (by decide) (fun c53 => ?_) (fun c53 => ?_)
          · exact mw_vret C hr hlk Z hP hS dX3_readLevel_128 (⟨xAf.bd ((gLevel_b e5)) po9, ((xPf.rf j σ).tr f4)⟩)
          · exact absurd c53 (nI_nm1 (by have y := po9.2.2.1.2; omega))
    · exact absurd c2 (by decide)
  · exact absurd c1 (by decide)

set_option maxHeartbeats 4000000 in
set_option maxRecDepth 100000 in
theorem cX_l3_1 (l : Launch) (E : mw_E) (σ : mw_M) (T : List (Nat × Nat)) (j : Nat) (hj : j < 6) (a : Nat) (ts : List (Nat × Nat)) (cs : List Nat) (B : Nat) (hB : B ≤ 160) (h : xPo σ T j a ts cs B) : mw_Cv shX 75 gX l yX3_readLevel cX3_readLevel 6 none (rmF 35 891) E [.ref (mw_a E 33), .ref (mw_a E (39 + j)), .int 3, .int 1] σ (fun u => xAf T j B cs ((gLevel gAdd (gLevel gTim (gD 4).1)) ts) u ∧ xPf j σ u) := by
  refine mw_of (by decide) gX_ok (Nat.le_of_ble_eq_true rfl) ?_
  intro p_ e_ s_ m_ below meth c_ C hr hlk Z hP ls hl
  have C : CallFix p_ m_ c_ cX3_readLevel 6 s_ _ lw_good RX3 := C
  have hl : lv_has ls 6 [(0, .ref (mw_a E 33)), (1, .ref (mw_a E (39 + j))), (2, .int 3), (3, .int 1)] := hl
  have hS : va_S (mw_A 75 E) s_.heap s_.heap [] := va_S.rf
  have hlt : hdC ts < 20000 := by have y := (h.1.lt a).1; rw [h.2.1] at y; exact y
  refine lv_iload_n C.1 C.2.1 dX3_readLevel_0 rfl (lv_at hl 2 rfl) ?_
  refine lv_iconst (v := 4) C.1 C.2.1 dX3_readLevel_1 (by decide) ?_
  refine lv_icmp_le (tgt := 12) C.1 C.2.1 dX3_readLevel_2 (by decide) (fun c1 => ?_) (fun c1 => ?_)
  · refine lv_iload_n C.1 C.2.1 dX3_readLevel_12 rfl (lv_at hl 2 rfl) ?_
    refine lv_iconst (v := 2) C.1 C.2.1 dX3_readLevel_13 (by decide) ?_
    refine lv_icmp_ne (tgt := 40) C.1 C.2.1 dX3_readLevel_14 (by decide) (fun c2 => ?_) (fun c2 => ?_)
    · refine lv_aload_n C.1 C.2.1 dX3_readLevel_40 rfl (lv_at hl 0 rfl) ?_
      refine lv_aload_n C.1 C.2.1 dX3_readLevel_41 rfl (lv_at hl 1 rfl) ?_
      refine lv_iload_n C.1 C.2.1 dX3_readLevel_42 rfl (lv_at hl 2 rfl) ?_
      refine lv_iconst (v := 1) C.1 C.2.1 dX3_readLevel_43 (by decide) ?_
      refine lv_iadd C.1 C.2.1 dX3_readLevel_44 ?_
      refine mw_top (y := 4) (by decide) ?_
      refine lv_iload_n C.1 C.2.1 dX3_readLevel_45 rfl (lv_at hl 3 rfl) ?_
      refine mw_cVv (As := [.ref (mw_a E (39 + j)), .int 4, .int 1]) (rest := []) C Z hP hS (33) (cX_l4_1 l E σ T j hj a ts cs B (by omega) h) vb_X3_readLevel tw_2_216 ⟨rfl, rfl⟩ ⟨Nat.le_of_ble_eq_true rfl, Nat.le_of_ble_eq_true rfl⟩ (by decide) sx_33 rfl rfl rfl hl.1 rfl (Nat.le_of_ble_eq_true rfl) dX3_readLevel_46 ⟨Nat.zero_le _, Nat.zero_le _⟩ (fun u12 H locs q13 hP hS => ?_)
      obtain ⟨hx3, f4⟩ := q13
      rcases e5 : (gLevel gTim (gD 4).1) ts with ⟨cs6, ts7⟩ | qq10
      · rw [e5] at hx3
        obtain ⟨a8, po9⟩ := hx3
        have po9 : xPo u12 T j a8 ts7 (cs ++ cs6) B := po9
        refine lv_iconst (v := 0) C.1 C.2.1 dX3_readLevel_49 (by decide) ?_
        refine lv_istore (lv' := [(4, .int 0), (0, .ref (mw_a E 33)), (1, .ref (mw_a E (39 + j))), (2, .int 3), (3, .int 1)]) C.1 C.2.1 dX3_readLevel_50 hl (by decide) rfl (fun ls hl => ?_)
        have lpa : ∀ (N : Nat) (a1 : Nat) (t : Nat) (f : Nat) (ts1 : List (Nat × Nat)) (cs1 : List Nat) (ςa : mw_M) (H : Heap) (locs : List Loc), 161 ≤ t + N → (t ≤ 160) → (ts1.length ≤ f) → (t + ts1.length ≤ 160) → ((gLevel gAdd (gLevel gTim (gD 4).1)) ts = gLoop gAdd (gLevel gTim (gD 4).1) f cs1 ts1) → (xPo ςa T j a1 ts1 (cs ++ cs1) B) → xPf j σ ςa → va_P (mw_D E) vwCl (mw_ws shX 75 E ςa) H → va_S (mw_A 75 E) s_.heap H locs → ∀ (ls : Array Slot), lv_has ls 6 [(0, .ref (mw_a E 33)), (1, .ref (mw_a E (39 + j))), (2, .int 3), (3, .int 1), (4, .int (nI t))] → xWv p_ l e_ (rmF 35 891) s_ m_ [.ref (mw_a E 33), .ref (mw_a E (39 + j)), .int 3, .int 1] below meth c_ E (fun u => xAf T j B cs ((gLevel gAdd (gLevel gTim (gD 4).1)) ts) u ∧ xPf j σ u) H locs (F0 m_ 52 ls []) := by
          intro N
          induction N with
          | zero => intros; exfalso; omega
          | succ N iha =>
            intro a1 t f ts1 cs1 ςa H locs hNa ht hf htl hsp hpo fra hP hS ls hl
            refine lv_iload C.1 C.2.1 dX3_readLevel_52 (lv_at hl 4 rfl) ?_
            refine lv_sipush (v := 160) C.1 C.2.1 dX3_readLevel_54 (by decide) ?_
            refine lv_icmp_ge (tgt := 128) C.1 C.2.1 dX3_readLevel_57 (by decide) (fun c14 => ?_) (fun c14 => ?_)
            · have c14 := (nI_leI (a := 160) (by decide) (by omega)).mp c14
              have e0 : ts1 = [] := List.eq_nil_of_length_eq_zero (by omega)
              exact mw_vret C hr hlk Z hP hS dX3_readLevel_128 (⟨xAf.gd (hsp.trans (gLoop_stop (by rw [e0]; decide))) hpo, fra⟩)
            · have c14 := (not_congr (nI_leI (a := 160) (by decide) (by omega))).mp c14
              refine lv_aload_n C.1 C.2.1 dX3_readLevel_60 rfl (lv_at hl 0 rfl) ?_
              refine mw_geti C Z hP (33) 2 (by decide) sx_33 rfl rfl (by decide) inX3 tw_1_155 dX3_readLevel_61 ?_
              refine mw_top (y := -1) (hpo.2.2.2.2.1) ?_
              refine lv_iconst (v := -1) C.1 C.2.1 dX3_readLevel_64 (by decide) ?_
              refine lv_icmp_ne (tgt := 128) C.1 C.2.1 dX3_readLevel_65 (by decide) (fun c15 => ?_) (fun c15 => ?_)
              · exact absurd c15 (by decide)
              · refine lv_aload_n C.1 C.2.1 dX3_readLevel_68 rfl (lv_at hl 0 rfl) ?_
                refine mw_getr C Z hP (33) 0 (34) (by decide) sx_33 rfl rfl (by decide) inX3 tw_1_153 dX3_readLevel_69 ?_
                refine lv_aload_n C.1 C.2.1 dX3_readLevel_72 rfl (lv_at hl 0 rfl) ?_
                refine mw_geti C Z hP (33) 1 (by decide) sx_33 rfl rfl (by decide) inX3 tw_1_154 dX3_readLevel_73 ?_
                refine mw_top (y := nI a1) (hpo.2.2.2.1) ?_
                refine mw_cVi (As := [.int (nI a1)]) (rest := []) C Z hP hS (34) (cX_tokenAt l E ςa T.length hpo.1.2.1 hpo.1.1 a1 (by have y1 := hpo.1.1; have y2 := hpo.2.2.1; omega)) vb_X10_tokenAt tw_2_204 ⟨rfl, rfl⟩ ⟨Nat.le_of_ble_eq_true rfl, Nat.le_of_ble_eq_true rfl⟩ (by decide) sx_34 rfl rfl rfl hl.1 rfl (Nat.le_of_ble_eq_true rfl) dX3_readLevel_76 ⟨Nat.zero_le _, Nat.zero_le _⟩ (fun r16 u17 H locs q18 hP hS => ?_)
                rw [(hpo.1.tok a1).1, hpo.2.1] at q18
                obtain ⟨rfl, q18u⟩ := q18
                rw [q18u] at hP; clear q18u
                refine lv_istore (lv' := [(5, .int (nI (hdC ts1))), (0, .ref (mw_a E 33)), (1, .ref (mw_a E (39 + j))), (2, .int 3), (3, .int 1), (4, .int (nI t))]) C.1 C.2.1 dX3_readLevel_79 hl (by decide) rfl (fun ls hl => ?_)
                refine lv_iload C.1 C.2.1 dX3_readLevel_81 (lv_at hl 0 rfl) ?_
                refine mw_cSi (As := [.int (nI (hdC ts1))]) (rest := []) C Z hP hS (cX_levelOf l E ςa (hdC ts1) (by have y := (hpo.1.lt a1).1; rw [hpo.2.1] at y; omega)) sb_X3_levelOf tw_2_232 ⟨rfl, rfl⟩ ⟨Nat.le_of_ble_eq_true rfl, Nat.le_of_ble_eq_true rfl⟩ rfl hl.1 rfl (Nat.le_of_ble_eq_true rfl) dX3_readLevel_83 ⟨Nat.zero_le _, Nat.zero_le _⟩ (fun r19 u20 H locs q21 hP hS => ?_)
                obtain ⟨rfl, q21u⟩ := q21
                rw [q21u] at hP; clear q21u
                refine lv_iload_n C.1 C.2.1 dX3_readLevel_86 rfl (lv_at hl 3 rfl) ?_
                refine lv_icmp_eq (tgt := 91) C.1 C.2.1 dX3_readLevel_87 (by decide) (fun c22 => ?_) (fun c22 => ?_)
                · have hop := lv_3.mp c22
                  have hne : hdC ts1 ≠ 21 := lv_21 c22 (by decide)
                  obtain ⟨f2, ef, egl⟩ := gLoop_go (x := (gLevel gTim (gD 4).1)) (cs := cs1) hne hop hf
                  refine lv_aload_n C.1 C.2.1 dX3_readLevel_91 rfl (lv_at hl 1 rfl) ?_
                  refine lv_dup C.1 C.2.1 dX3_readLevel_92 rfl ?_
                  refine mw_geti C Z hP (33) 1 (by decide) sx_33 rfl rfl (by decide) inX3 tw_1_154 dX3_readLevel_93 ?_
                  refine mw_top (y := nI a1) (hpo.2.2.2.1) ?_
                  refine lv_iconst (v := 1) C.1 C.2.1 dX3_readLevel_96 (by decide) ?_
                  refine lv_iadd C.1 C.2.1 dX3_readLevel_97 ?_
                  refine mw_top (y := nI (a1 + 1)) (nI_1 _) ?_
                  refine mw_puti C Z hP hS (33) 1 (by decide) sx_33 rfl rfl (by decide) inX3 tyX3 tyX3_ok nmX3 rfl tw_1_154 rfl rfl dX3_readLevel_98 (fun H locs hP hS => ?_)
                  have pn23 := hpo.next hj hne
                  have hb24 := pn23.2
                  refine lv_aload_n C.1 C.2.1 dX3_readLevel_101 rfl (lv_at hl 1 rfl) ?_
                  refine lv_aload_n C.1 C.2.1 dX3_readLevel_102 rfl (lv_at hl 2 rfl) ?_
                  refine lv_iload_n C.1 C.2.1 dX3_readLevel_103 rfl (lv_at hl 3 rfl) ?_
                  refine lv_iconst (v := 1) C.1 C.2.1 dX3_readLevel_104 (by decide) ?_
                  refine lv_iadd C.1 C.2.1 dX3_readLevel_105 ?_
                  refine mw_top (y := 4) (by decide) ?_
                  refine lv_iload_n C.1 C.2.1 dX3_readLevel_106 rfl (lv_at hl 4 rfl) ?_
                  refine mw_cVv (As := [.ref (mw_a E (39 + j)), .int 4, .int 1]) (rest := []) C Z hP hS (33) (cX_l4_1 l E (mw_si ςa 33 1 (nI (a1 + 1))) T j hj (a1 + 1) (ts1.tail) ((cs ++ cs1)) (B - 1) (by omega) pn23.1) vb_X3_readLevel tw_2_216 ⟨rfl, rfl⟩ ⟨Nat.le_of_ble_eq_true rfl, Nat.le_of_ble_eq_true rfl⟩ (by decide) sx_33 rfl rfl rfl hl.1 rfl (Nat.le_of_ble_eq_true rfl) dX3_readLevel_107 ⟨Nat.zero_le _, Nat.zero_le _⟩ (fun u34 H locs q35 hP hS => ?_)
                  obtain ⟨hx25, f26⟩ := q35
                  rcases e27 : (gLevel gTim (gD 4).1) (ts1.tail) with ⟨cs28, ts29⟩ | qq32
                  · rw [e27] at hx25
                    obtain ⟨a30, po31⟩ := hx25
                    have po31 : xPo u34 T j a30 ts29 ((cs ++ cs1) ++ cs28) (B - 1) := po31
                    refine lv_aload_n C.1 C.2.1 dX3_readLevel_110 rfl (lv_at hl 2 rfl) ?_
                    refine lv_iload C.1 C.2.1 dX3_readLevel_111 (lv_at hl 0 rfl) ?_
                    refine mw_cVv (As := [.int (nI (hdC ts1))]) (rest := []) C Z hP hS (39 + j) (cX_add l E u34 j hj (((cs ++ cs1) ++ cs28)).length po31.2.2.2.2.2.1.1 (by have y := po31.2.2.2.2.2.2; omega) (nI (hdC ts1))) vb_X8_add tw_2_224 ⟨rfl, rfl⟩ ⟨Nat.le_of_ble_eq_true rfl, Nat.le_of_ble_eq_true rfl⟩ (by omega) (sx_tx (by omega)) rfl rfl rfl hl.1 rfl (Nat.le_of_ble_eq_true rfl) dX3_readLevel_113 ⟨Nat.zero_le _, Nat.zero_le _⟩ (fun u37 H locs q38 hP hS => ?_)
                    have e39 := q38.1 (by have y := po31.2.2.2.2.2.2; omega)
                    subst e39
                    have po40 := (po31.add hj (hdC ts1)).wk (C := B) (by omega)
                    refine lv_iload_n C.1 C.2.1 dX3_readLevel_116 rfl (lv_at hl 3 rfl) ?_
                    refine lv_iconst (v := 2) C.1 C.2.1 dX3_readLevel_117 (by decide) ?_
                    refine lv_icmp_ne (tgt := 122) C.1 C.2.1 dX3_readLevel_118 (by decide) (fun c41 => ?_) (fun c41 => ?_)
                    · refine lv_iinc (v := nI (t + 1)) (lv' := [(4, .int (nI (t + 1))), (5, .int (nI (hdC ts1))), (0, .ref (mw_a E 33)), (1, .ref (mw_a E (39 + j))), (2, .int 3), (3, .int 1)]) C.1 C.2.1 dX3_readLevel_122 hl (k := 5) rfl (nI_1 _) (by decide) rfl (fun ls hl => ?_)
                      refine lv_goto (tgt := 52) C.1 C.2.1 dX3_readLevel_125 (by decide) ?_
                      exact iha a30 (t + 1) f2 ts29 (cs1 ++ cs28 ++ [hdC ts1]) (mw_si (mw_sa u34 (45 + j) (((cs ++ cs1) ++ cs28)).length (nI (hdC ts1))) (39 + j) 3 (nI ((((cs ++ cs1) ++ cs28)).length + 1))) _ _ (by omega) (by omega) (by have y1 := (gLevel_dec (gD_dec 4).1) _ _ _ e27; have y2 := tail_len hne; omega) (by have y1 := (gLevel_dec (gD_dec 4).1) _ _ _ e27; have y2 := tail_len hne; omega) (hsp.trans (egl.trans (by rw [e27]))) ((by rw [← List.append_assoc]; rw [← List.append_assoc]; exact po40)) (((fra.rd _ _).tr f26).ad _ _ _) hP hS ls (lv_sub hl [2, 3, 4, 5, 0] rfl)
                    · exact absurd c41 (by decide)
                  · rw [e27] at hx25
                    have po31 : xPb u34 T j qq32 := hx25
                    refine lv_aload_n C.1 C.2.1 dX3_readLevel_110 rfl (lv_at hl 2 rfl) ?_
                    refine lv_iload C.1 C.2.1 dX3_readLevel_111 (lv_at hl 0 rfl) ?_
                    obtain ⟨k42, hk43, ek44⟩ := po31.2.2.2
                    refine mw_cVv (As := [.int (nI (hdC ts1))]) (rest := []) C Z hP hS (39 + j) (cX_add l E u34 j hj k42 ek44 hk43 (nI (hdC ts1))) vb_X8_add tw_2_224 ⟨rfl, rfl⟩ ⟨Nat.le_of_ble_eq_true rfl, Nat.le_of_ble_eq_true rfl⟩ (by omega) (sx_tx (by omega)) rfl rfl rfl hl.1 rfl (Nat.le_of_ble_eq_true rfl) dX3_readLevel_113 ⟨Nat.zero_le _, Nat.zero_le _⟩ (fun u47 H locs q48 hP hS => ?_)
                    have w45 := xPb.add po31 hj hk43 q48
                    refine lv_iload_n C.1 C.2.1 dX3_readLevel_116 rfl (lv_at hl 3 rfl) ?_
                    refine lv_iconst (v := 2) C.1 C.2.1 dX3_readLevel_117 (by decide) ?_
                    refine lv_icmp_ne (tgt := 122) C.1 C.2.1 dX3_readLevel_118 (by decide) (fun c49 => ?_) (fun c49 => ?_)
                    · refine lv_iinc (v := nI (t + 1)) (lv' := [(4, .int (nI (t + 1))), (5, .int (nI (hdC ts1))), (0, .ref (mw_a E 33)), (1, .ref (mw_a E (39 + j))), (2, .int 3), (3, .int 1)]) C.1 C.2.1 dX3_readLevel_122 hl (k := 5) rfl (nI_1 _) (by decide) rfl (fun ls hl => ?_)
                      refine lv_goto (tgt := 52) C.1 C.2.1 dX3_readLevel_125 (by decide) ?_
                      refine lv_iload C.1 C.2.1 dX3_readLevel_52 (lv_at hl 0 rfl) ?_
                      refine lv_sipush (v := 160) C.1 C.2.1 dX3_readLevel_54 (by decide) ?_
                      refine lv_icmp_ge (tgt := 128) C.1 C.2.1 dX3_readLevel_57 (by decide) (fun c50 => ?_) (fun c50 => ?_)
                      · exact mw_vret C hr hlk Z hP hS dX3_readLevel_128 (⟨xAf.bd (hsp.trans (egl.trans (by rw [e27]))) w45.1, (((fra.rd _ _).tr f26).tr w45.2)⟩)
                      · refine lv_aload_n C.1 C.2.1 dX3_readLevel_60 rfl (lv_at hl 2 rfl) ?_
                        refine mw_geti C Z hP (33) 2 (by decide) sx_33 rfl rfl (by decide) inX3 tw_1_155 dX3_readLevel_61 ?_
                        refine mw_top (y := nI qq32) (w45.1.2.2.1.1) ?_
                        refine lv_iconst (v := -1) C.1 C.2.1 dX3_readLevel_64 (by decide) ?_
                        refine lv_icmp_ne (tgt := 128) C.1 C.2.1 dX3_readLevel_65 (by decide) (fun c51 => ?_) (fun c51 => ?_)
                        · exact mw_vret C hr hlk Z hP hS dX3_readLevel_128 (⟨xAf.bd (hsp.trans (egl.trans (by rw [e27]))) w45.1, (((fra.rd _ _).tr f26).tr w45.2)⟩)
                        · exact absurd c51 (nI_nm1 (by have y := w45.1.2.2.1.2; omega))
                    · exact absurd c49 (by decide)
                · have hnop : ¬ gAdd (hdC ts1) = true := fun y => c22 (lv_3.mpr y)
                  exact mw_vret C hr hlk Z hP hS dX3_readLevel_90 (⟨xAf.gd (hsp.trans (gLoop_stop hnop)) hpo, fra⟩)
        exact lpa (161) a8 0 (ts7.length) ts7 cs6 u12 _ _ (by omega) (by omega) (Nat.le_refl _) (by have y := po9.2.2.2.2.2.2; omega) ((gLevel_g e5)) (po9) ((xPf.rf j σ).tr f4) hP hS ls (lv_sub hl [1, 2, 3, 4, 0] rfl)
      · rw [e5] at hx3
        have po9 : xPb u12 T j qq10 := hx3
        refine lv_iconst (v := 0) C.1 C.2.1 dX3_readLevel_49 (by decide) ?_
        refine lv_istore (lv' := [(4, .int 0), (0, .ref (mw_a E 33)), (1, .ref (mw_a E (39 + j))), (2, .int 3), (3, .int 1)]) C.1 C.2.1 dX3_readLevel_50 hl (by decide) rfl (fun ls hl => ?_)
        refine lv_iload C.1 C.2.1 dX3_readLevel_52 (lv_at hl 0 rfl) ?_
        refine lv_sipush (v := 160) C.1 C.2.1 dX3_readLevel_54 (by decide) ?_
        refine lv_icmp_ge (tgt := 128) C.1 C.2.1 dX3_readLevel_57 (by decide) (fun c52 => ?_) (fun c52 => ?_)
        · exact absurd c52 (by decide)
        · refine lv_aload_n C.1 C.2.1 dX3_readLevel_60 rfl (lv_at hl 1 rfl) ?_
          refine mw_geti C Z hP (33) 2 (by decide) sx_33 rfl rfl (by decide) inX3 tw_1_155 dX3_readLevel_61 ?_
          refine mw_top (y := nI qq10) (po9.2.2.1.1) ?_
          refine lv_iconst (v := -1) C.1 C.2.1 dX3_readLevel_64 (by decide) ?_
          refine lv_icmp_ne (tgt := 128) C.1 C.2.1 dX3_readLevel_65 (by decide) (fun c53 => ?_) (fun c53 => ?_)
          · exact mw_vret C hr hlk Z hP hS dX3_readLevel_128 (⟨xAf.bd ((gLevel_b e5)) po9, ((xPf.rf j σ).tr f4)⟩)
          · exact absurd c53 (nI_nm1 (by have y := po9.2.2.1.2; omega))
    · exact absurd c2 (by decide)
  · exact absurd c1 (by decide)

set_option maxHeartbeats 4000000 in
set_option maxRecDepth 100000 in
theorem cX_not1 (l : Launch) (E : mw_E) (σ : mw_M) (T : List (Nat × Nat)) (j : Nat) (hj : j < 6) (a : Nat) (ts : List (Nat × Nat)) (cs : List Nat) (B : Nat) (hB : B ≤ 160) (h : xPo σ T j a ts cs B) (h11 : hdC ts = 11) : mw_Cv shX 75 gX l yX3_readNot cX3_readNot 3 none (rmF 30 768) E [.ref (mw_a E 33), .ref (mw_a E (39 + j)), .int 1] σ (fun u => xAf T j B cs ((gD 4).2.1 ts) u ∧ xPf j σ u) := by
  refine mw_of (by decide) gX_ok (Nat.le_of_ble_eq_true rfl) ?_
  intro p_ e_ s_ m_ below meth c_ C hr hlk Z hP ls hl
  have C : CallFix p_ m_ c_ cX3_readNot 3 s_ _ lw_good RX3 := C
  have hl : lv_has ls 3 [(0, .ref (mw_a E 33)), (1, .ref (mw_a E (39 + j))), (2, .int 1)] := hl
  have hS : va_S (mw_A 75 E) s_.heap s_.heap [] := va_S.rf
  have hlt : hdC ts < 20000 := by have y := (h.1.lt a).1; rw [h.2.1] at y; exact y
  have hne : hdC ts ≠ 21 := by omega
  refine lv_aload_n C.1 C.2.1 dX3_readNot_0 rfl (lv_at hl 0 rfl) ?_
  refine mw_geti C Z hP (33) 2 (by decide) sx_33 rfl rfl (by decide) inX3 tw_1_155 dX3_readNot_1 ?_
  refine mw_top (y := -1) (h.2.2.2.2.1) ?_
  refine lv_iconst (v := -1) C.1 C.2.1 dX3_readNot_4 (by decide) ?_
  refine lv_icmp_ne (tgt := 13) C.1 C.2.1 dX3_readNot_5 (by decide) (fun c1 => ?_) (fun c1 => ?_)
  · exact absurd c1 (by decide)
  · refine lv_iload_n C.1 C.2.1 dX3_readNot_8 rfl (lv_at hl 2 rfl) ?_
    refine lv_iconst (v := 5) C.1 C.2.1 dX3_readNot_9 (by decide) ?_
    refine lv_icmp_lt (tgt := 18) C.1 C.2.1 dX3_readNot_10 (by decide) (fun c2 => ?_) (fun c2 => ?_)
    · refine lv_aload_n C.1 C.2.1 dX3_readNot_18 rfl (lv_at hl 0 rfl) ?_
      refine lv_dup C.1 C.2.1 dX3_readNot_19 rfl ?_
      refine mw_geti C Z hP (33) 1 (by decide) sx_33 rfl rfl (by decide) inX3 tw_1_154 dX3_readNot_20 ?_
      refine mw_top (y := nI a) (h.2.2.2.1) ?_
      refine lv_iconst (v := 1) C.1 C.2.1 dX3_readNot_23 (by decide) ?_
      refine lv_iadd C.1 C.2.1 dX3_readNot_24 ?_
      refine mw_top (y := nI (a + 1)) (nI_1 _) ?_
      refine mw_puti C Z hP hS (33) 1 (by decide) sx_33 rfl rfl (by decide) inX3 tyX3 tyX3_ok nmX3 rfl tw_1_154 rfl rfl dX3_readNot_25 (fun H locs hP hS => ?_)
      have pn3 := h.next hj hne
      have hb4 := pn3.2
      refine lv_aload_n C.1 C.2.1 dX3_readNot_28 rfl (lv_at hl 0 rfl) ?_
      refine lv_aload_n C.1 C.2.1 dX3_readNot_29 rfl (lv_at hl 1 rfl) ?_
      refine lv_iconst (v := 2) C.1 C.2.1 dX3_readNot_30 (by decide) ?_
      refine lv_iload_n C.1 C.2.1 dX3_readNot_31 rfl (lv_at hl 2 rfl) ?_
      refine lv_iconst (v := 1) C.1 C.2.1 dX3_readNot_32 (by decide) ?_
      refine lv_iadd C.1 C.2.1 dX3_readNot_33 ?_
      refine mw_top (y := 2) (by decide) ?_
      refine mw_cVv (As := [.ref (mw_a E (39 + j)), .int 2, .int 2]) (rest := []) C Z hP hS (33) (cX_l2_2 l E (mw_si σ 33 1 (nI (a + 1))) T j hj (a + 1) (ts.tail) cs (B - 1) (by omega) pn3.1) vb_X3_readLevel tw_2_216 ⟨rfl, rfl⟩ ⟨Nat.le_of_ble_eq_true rfl, Nat.le_of_ble_eq_true rfl⟩ (by decide) sx_33 rfl rfl rfl hl.1 rfl (Nat.le_of_ble_eq_true rfl) dX3_readNot_34 ⟨Nat.zero_le _, Nat.zero_le _⟩ (fun u14 H locs q15 hP hS => ?_)
      obtain ⟨hx5, f6⟩ := q15
      rcases e7 : (gD 3).2.1 (ts.tail) with ⟨cs8, ts9⟩ | qq12
      · rw [e7] at hx5
        obtain ⟨a10, po11⟩ := hx5
        have po11 : xPo u14 T j a10 ts9 (cs ++ cs8) (B - 1) := po11
        refine lv_aload_n C.1 C.2.1 dX3_readNot_37 rfl (lv_at hl 1 rfl) ?_
        refine lv_bipush (v := 11) C.1 C.2.1 dX3_readNot_38 (by decide) ?_
        refine mw_top (y := nI 11) (rfl) ?_
        refine mw_cVv (As := [.int (nI 11)]) (rest := []) C Z hP hS (39 + j) (cX_add l E u14 j hj ((cs ++ cs8)).length po11.2.2.2.2.2.1.1 (by have y := po11.2.2.2.2.2.2; omega) (nI 11)) vb_X8_add tw_2_224 ⟨rfl, rfl⟩ ⟨Nat.le_of_ble_eq_true rfl, Nat.le_of_ble_eq_true rfl⟩ (by omega) (sx_tx (by omega)) rfl rfl rfl hl.1 rfl (Nat.le_of_ble_eq_true rfl) dX3_readNot_40 ⟨Nat.zero_le _, Nat.zero_le _⟩ (fun u17 H locs q18 hP hS => ?_)
        have e19 := q18.1 (by have y := po11.2.2.2.2.2.2; omega)
        subst e19
        have po20 := (po11.add hj 11).wk (C := B) (by omega)
        exact mw_vret C hr hlk Z hP hS dX3_readNot_43 (⟨xAf.gd ((congrFun gN_4 ts).trans (gNot_t1 h11 e7)) (by rw [← List.append_assoc]; exact po20), ((((xPf.rf j σ).rd _ _).tr f6).ad _ _ _)⟩)
      · rw [e7] at hx5
        have po11 : xPb u14 T j qq12 := hx5
        refine lv_aload_n C.1 C.2.1 dX3_readNot_37 rfl (lv_at hl 1 rfl) ?_
        refine lv_bipush (v := 11) C.1 C.2.1 dX3_readNot_38 (by decide) ?_
        refine mw_top (y := nI 11) (rfl) ?_
        obtain ⟨k21, hk22, ek23⟩ := po11.2.2.2
        refine mw_cVv (As := [.int (nI 11)]) (rest := []) C Z hP hS (39 + j) (cX_add l E u14 j hj k21 ek23 hk22 (nI 11)) vb_X8_add tw_2_224 ⟨rfl, rfl⟩ ⟨Nat.le_of_ble_eq_true rfl, Nat.le_of_ble_eq_true rfl⟩ (by omega) (sx_tx (by omega)) rfl rfl rfl hl.1 rfl (Nat.le_of_ble_eq_true rfl) dX3_readNot_40 ⟨Nat.zero_le _, Nat.zero_le _⟩ (fun u26 H locs q27 hP hS => ?_)
        have w24 := xPb.add po11 hj hk22 q27
        exact mw_vret C hr hlk Z hP hS dX3_readNot_43 (⟨xAf.bd ((congrFun gN_4 ts).trans (gNot_t2 h11 e7)) w24.1, ((((xPf.rf j σ).rd _ _).tr f6).tr w24.2)⟩)
    · exact absurd c2 (by decide)

set_option maxHeartbeats 4000000 in
set_option maxRecDepth 100000 in
theorem cX_l2_1 (l : Launch) (E : mw_E) (σ : mw_M) (T : List (Nat × Nat)) (j : Nat) (hj : j < 6) (a : Nat) (ts : List (Nat × Nat)) (cs : List Nat) (B : Nat) (hB : B ≤ 160) (h : xPo σ T j a ts cs B) : mw_Cv shX 75 gX l yX3_readLevel cX3_readLevel 6 none (rmF 36 916) E [.ref (mw_a E 33), .ref (mw_a E (39 + j)), .int 2, .int 1] σ (fun u => xAf T j B cs ((gD 4).2.1 ts) u ∧ xPf j σ u) := by
  refine mw_of (by decide) gX_ok (Nat.le_of_ble_eq_true rfl) ?_
  intro p_ e_ s_ m_ below meth c_ C hr hlk Z hP ls hl
  have C : CallFix p_ m_ c_ cX3_readLevel 6 s_ _ lw_good RX3 := C
  have hl : lv_has ls 6 [(0, .ref (mw_a E 33)), (1, .ref (mw_a E (39 + j))), (2, .int 2), (3, .int 1)] := hl
  have hS : va_S (mw_A 75 E) s_.heap s_.heap [] := va_S.rf
  have hlt : hdC ts < 20000 := by have y := (h.1.lt a).1; rw [h.2.1] at y; exact y
  refine lv_iload_n C.1 C.2.1 dX3_readLevel_0 rfl (lv_at hl 2 rfl) ?_
  refine lv_iconst (v := 4) C.1 C.2.1 dX3_readLevel_1 (by decide) ?_
  refine lv_icmp_le (tgt := 12) C.1 C.2.1 dX3_readLevel_2 (by decide) (fun c1 => ?_) (fun c1 => ?_)
  · refine lv_iload_n C.1 C.2.1 dX3_readLevel_12 rfl (lv_at hl 2 rfl) ?_
    refine lv_iconst (v := 2) C.1 C.2.1 dX3_readLevel_13 (by decide) ?_
    refine lv_icmp_ne (tgt := 40) C.1 C.2.1 dX3_readLevel_14 (by decide) (fun c2 => ?_) (fun c2 => ?_)
    · exact absurd c2 (by decide)
    · refine lv_aload_n C.1 C.2.1 dX3_readLevel_17 rfl (lv_at hl 0 rfl) ?_
      refine mw_getr C Z hP (33) 0 (34) (by decide) sx_33 rfl rfl (by decide) inX3 tw_1_153 dX3_readLevel_18 ?_
      refine lv_aload_n C.1 C.2.1 dX3_readLevel_21 rfl (lv_at hl 0 rfl) ?_
      refine mw_geti C Z hP (33) 1 (by decide) sx_33 rfl rfl (by decide) inX3 tw_1_154 dX3_readLevel_22 ?_
      refine mw_top (y := nI a) (h.2.2.2.1) ?_
      refine mw_cVi (As := [.int (nI a)]) (rest := []) C Z hP hS (34) (cX_tokenAt l E σ T.length h.1.2.1 h.1.1 a (by have y1 := h.1.1; have y2 := h.2.2.1; omega)) vb_X10_tokenAt tw_2_204 ⟨rfl, rfl⟩ ⟨Nat.le_of_ble_eq_true rfl, Nat.le_of_ble_eq_true rfl⟩ (by decide) sx_34 rfl rfl rfl hl.1 rfl (Nat.le_of_ble_eq_true rfl) dX3_readLevel_25 ⟨Nat.zero_le _, Nat.zero_le _⟩ (fun r3 u4 H locs q5 hP hS => ?_)
      rw [(h.1.tok a).1, h.2.1] at q5
      obtain ⟨rfl, q5u⟩ := q5
      rw [q5u] at hP; clear q5u
      refine lv_bipush (v := 11) C.1 C.2.1 dX3_readLevel_28 (by decide) ?_
      refine lv_icmp_ne (tgt := 40) C.1 C.2.1 dX3_readLevel_30 (by decide) (fun c6 => ?_) (fun c6 => ?_)
      · have hn11 : ¬ hdC ts = 11 := fun y => c6 (by rw [y]; rfl)
        refine lv_aload_n C.1 C.2.1 dX3_readLevel_40 rfl (lv_at hl 0 rfl) ?_
        refine lv_aload_n C.1 C.2.1 dX3_readLevel_41 rfl (lv_at hl 1 rfl) ?_
        refine lv_iload_n C.1 C.2.1 dX3_readLevel_42 rfl (lv_at hl 2 rfl) ?_
        refine lv_iconst (v := 1) C.1 C.2.1 dX3_readLevel_43 (by decide) ?_
        refine lv_iadd C.1 C.2.1 dX3_readLevel_44 ?_
        refine mw_top (y := 3) (by decide) ?_
        refine lv_iload_n C.1 C.2.1 dX3_readLevel_45 rfl (lv_at hl 3 rfl) ?_
        refine mw_cVv (As := [.ref (mw_a E (39 + j)), .int 3, .int 1]) (rest := []) C Z hP hS (33) (cX_l3_1 l E σ T j hj a ts cs B (by omega) h) vb_X3_readLevel tw_2_216 ⟨rfl, rfl⟩ ⟨Nat.le_of_ble_eq_true rfl, Nat.le_of_ble_eq_true rfl⟩ (by decide) sx_33 rfl rfl rfl hl.1 rfl (Nat.le_of_ble_eq_true rfl) dX3_readLevel_46 ⟨Nat.zero_le _, Nat.zero_le _⟩ (fun u16 H locs q17 hP hS => ?_)
        obtain ⟨hx7, f8⟩ := q17
        rcases e9 : (gLevel gAdd (gLevel gTim (gD 4).1)) ts with ⟨cs10, ts11⟩ | qq14
        · rw [e9] at hx7
          obtain ⟨a12, po13⟩ := hx7
          have po13 : xPo u16 T j a12 ts11 (cs ++ cs10) B := po13
          refine lv_iconst (v := 0) C.1 C.2.1 dX3_readLevel_49 (by decide) ?_
          refine lv_istore (lv' := [(4, .int 0), (0, .ref (mw_a E 33)), (1, .ref (mw_a E (39 + j))), (2, .int 2), (3, .int 1)]) C.1 C.2.1 dX3_readLevel_50 hl (by decide) rfl (fun ls hl => ?_)
          refine lv_iload C.1 C.2.1 dX3_readLevel_52 (lv_at hl 0 rfl) ?_
          refine lv_sipush (v := 160) C.1 C.2.1 dX3_readLevel_54 (by decide) ?_
          refine lv_icmp_ge (tgt := 128) C.1 C.2.1 dX3_readLevel_57 (by decide) (fun c18 => ?_) (fun c18 => ?_)
          · exact absurd c18 (by decide)
          · refine lv_aload_n C.1 C.2.1 dX3_readLevel_60 rfl (lv_at hl 1 rfl) ?_
            refine mw_geti C Z hP (33) 2 (by decide) sx_33 rfl rfl (by decide) inX3 tw_1_155 dX3_readLevel_61 ?_
            refine mw_top (y := -1) (po13.2.2.2.2.1) ?_
            refine lv_iconst (v := -1) C.1 C.2.1 dX3_readLevel_64 (by decide) ?_
            refine lv_icmp_ne (tgt := 128) C.1 C.2.1 dX3_readLevel_65 (by decide) (fun c19 => ?_) (fun c19 => ?_)
            · exact absurd c19 (by decide)
            · refine lv_aload_n C.1 C.2.1 dX3_readLevel_68 rfl (lv_at hl 1 rfl) ?_
              refine mw_getr C Z hP (33) 0 (34) (by decide) sx_33 rfl rfl (by decide) inX3 tw_1_153 dX3_readLevel_69 ?_
              refine lv_aload_n C.1 C.2.1 dX3_readLevel_72 rfl (lv_at hl 1 rfl) ?_
              refine mw_geti C Z hP (33) 1 (by decide) sx_33 rfl rfl (by decide) inX3 tw_1_154 dX3_readLevel_73 ?_
              refine mw_top (y := nI a12) (po13.2.2.2.1) ?_
              refine mw_cVi (As := [.int (nI a12)]) (rest := []) C Z hP hS (34) (cX_tokenAt l E u16 T.length po13.1.2.1 po13.1.1 a12 (by have y1 := po13.1.1; have y2 := po13.2.2.1; omega)) vb_X10_tokenAt tw_2_204 ⟨rfl, rfl⟩ ⟨Nat.le_of_ble_eq_true rfl, Nat.le_of_ble_eq_true rfl⟩ (by decide) sx_34 rfl rfl rfl hl.1 rfl (Nat.le_of_ble_eq_true rfl) dX3_readLevel_76 ⟨Nat.zero_le _, Nat.zero_le _⟩ (fun r20 u21 H locs q22 hP hS => ?_)
              rw [(po13.1.tok a12).1, po13.2.1] at q22
              obtain ⟨rfl, q22u⟩ := q22
              rw [q22u] at hP; clear q22u
              refine lv_istore (lv' := [(5, .int (nI (hdC ts11))), (4, .int 0), (0, .ref (mw_a E 33)), (1, .ref (mw_a E (39 + j))), (2, .int 2), (3, .int 1)]) C.1 C.2.1 dX3_readLevel_79 hl (by decide) rfl (fun ls hl => ?_)
              refine lv_iload C.1 C.2.1 dX3_readLevel_81 (lv_at hl 0 rfl) ?_
              refine mw_cSi (As := [.int (nI (hdC ts11))]) (rest := []) C Z hP hS (cX_levelOf l E u16 (hdC ts11) (by have y := (po13.1.lt a12).1; rw [po13.2.1] at y; omega)) sb_X3_levelOf tw_2_232 ⟨rfl, rfl⟩ ⟨Nat.le_of_ble_eq_true rfl, Nat.le_of_ble_eq_true rfl⟩ rfl hl.1 rfl (Nat.le_of_ble_eq_true rfl) dX3_readLevel_83 ⟨Nat.zero_le _, Nat.zero_le _⟩ (fun r23 u24 H locs q25 hP hS => ?_)
              obtain ⟨rfl, q25u⟩ := q25
              rw [q25u] at hP; clear q25u
              refine lv_iload_n C.1 C.2.1 dX3_readLevel_86 rfl (lv_at hl 4 rfl) ?_
              refine lv_icmp_eq (tgt := 91) C.1 C.2.1 dX3_readLevel_87 (by decide) (fun c26 => ?_) (fun c26 => ?_)
              · have hop := lv_2.mp c26
                have hne : hdC ts11 ≠ 21 := lv_21 c26 (by decide)
                refine lv_aload_n C.1 C.2.1 dX3_readLevel_91 rfl (lv_at hl 2 rfl) ?_
                refine lv_dup C.1 C.2.1 dX3_readLevel_92 rfl ?_
                refine mw_geti C Z hP (33) 1 (by decide) sx_33 rfl rfl (by decide) inX3 tw_1_154 dX3_readLevel_93 ?_
                refine mw_top (y := nI a12) (po13.2.2.2.1) ?_
                refine lv_iconst (v := 1) C.1 C.2.1 dX3_readLevel_96 (by decide) ?_
                refine lv_iadd C.1 C.2.1 dX3_readLevel_97 ?_
                refine mw_top (y := nI (a12 + 1)) (nI_1 _) ?_
                refine mw_puti C Z hP hS (33) 1 (by decide) sx_33 rfl rfl (by decide) inX3 tyX3 tyX3_ok nmX3 rfl tw_1_154 rfl rfl dX3_readLevel_98 (fun H locs hP hS => ?_)
                have pn27 := po13.next hj hne
                have hb28 := pn27.2
                refine lv_aload_n C.1 C.2.1 dX3_readLevel_101 rfl (lv_at hl 2 rfl) ?_
                refine lv_aload_n C.1 C.2.1 dX3_readLevel_102 rfl (lv_at hl 3 rfl) ?_
                refine lv_iload_n C.1 C.2.1 dX3_readLevel_103 rfl (lv_at hl 4 rfl) ?_
                refine lv_iconst (v := 1) C.1 C.2.1 dX3_readLevel_104 (by decide) ?_
                refine lv_iadd C.1 C.2.1 dX3_readLevel_105 ?_
                refine mw_top (y := 3) (by decide) ?_
                refine lv_iload_n C.1 C.2.1 dX3_readLevel_106 rfl (lv_at hl 5 rfl) ?_
                refine mw_cVv (As := [.ref (mw_a E (39 + j)), .int 3, .int 1]) (rest := []) C Z hP hS (33) (cX_l3_1 l E (mw_si u16 33 1 (nI (a12 + 1))) T j hj (a12 + 1) (ts11.tail) ((cs ++ cs10)) (B - 1) (by omega) pn27.1) vb_X3_readLevel tw_2_216 ⟨rfl, rfl⟩ ⟨Nat.le_of_ble_eq_true rfl, Nat.le_of_ble_eq_true rfl⟩ (by decide) sx_33 rfl rfl rfl hl.1 rfl (Nat.le_of_ble_eq_true rfl) dX3_readLevel_107 ⟨Nat.zero_le _, Nat.zero_le _⟩ (fun u38 H locs q39 hP hS => ?_)
                obtain ⟨hx29, f30⟩ := q39
                rcases e31 : (gLevel gAdd (gLevel gTim (gD 4).1)) (ts11.tail) with ⟨cs32, ts33⟩ | qq36
                · rw [e31] at hx29
                  obtain ⟨a34, po35⟩ := hx29
                  have po35 : xPo u38 T j a34 ts33 ((cs ++ cs10) ++ cs32) (B - 1) := po35
                  refine lv_aload_n C.1 C.2.1 dX3_readLevel_110 rfl (lv_at hl 3 rfl) ?_
                  refine lv_iload C.1 C.2.1 dX3_readLevel_111 (lv_at hl 0 rfl) ?_
                  refine mw_cVv (As := [.int (nI (hdC ts11))]) (rest := []) C Z hP hS (39 + j) (cX_add l E u38 j hj (((cs ++ cs10) ++ cs32)).length po35.2.2.2.2.2.1.1 (by have y := po35.2.2.2.2.2.2; omega) (nI (hdC ts11))) vb_X8_add tw_2_224 ⟨rfl, rfl⟩ ⟨Nat.le_of_ble_eq_true rfl, Nat.le_of_ble_eq_true rfl⟩ (by omega) (sx_tx (by omega)) rfl rfl rfl hl.1 rfl (Nat.le_of_ble_eq_true rfl) dX3_readLevel_113 ⟨Nat.zero_le _, Nat.zero_le _⟩ (fun u41 H locs q42 hP hS => ?_)
                  have e43 := q42.1 (by have y := po35.2.2.2.2.2.2; omega)
                  subst e43
                  have po44 := (po35.add hj (hdC ts11)).wk (C := B) (by omega)
                  refine lv_iload_n C.1 C.2.1 dX3_readLevel_116 rfl (lv_at hl 4 rfl) ?_
                  refine lv_iconst (v := 2) C.1 C.2.1 dX3_readLevel_117 (by decide) ?_
                  refine lv_icmp_ne (tgt := 122) C.1 C.2.1 dX3_readLevel_118 (by decide) (fun c45 => ?_) (fun c45 => ?_)
                  · exact absurd c45 (by decide)
                  · exact mw_vret C hr hlk Z hP hS dX3_readLevel_121 (⟨xAf.gd (((congrFun gN_4 ts).trans (gNot_f rfl hn11)).trans (gCmp_g1 e9 hop e31)) (by rw [← List.append_assoc]; rw [← List.append_assoc]; exact po44), (((((xPf.rf j σ).tr f8).rd _ _).tr f30).ad _ _ _)⟩)
                · rw [e31] at hx29
                  have po35 : xPb u38 T j qq36 := hx29
                  refine lv_aload_n C.1 C.2.1 dX3_readLevel_110 rfl (lv_at hl 3 rfl) ?_
                  refine lv_iload C.1 C.2.1 dX3_readLevel_111 (lv_at hl 0 rfl) ?_
                  obtain ⟨k46, hk47, ek48⟩ := po35.2.2.2
                  refine mw_cVv (As := [.int (nI (hdC ts11))]) (rest := []) C Z hP hS (39 + j) (cX_add l E u38 j hj k46 ek48 hk47 (nI (hdC ts11))) vb_X8_add tw_2_224 ⟨rfl, rfl⟩ ⟨Nat.le_of_ble_eq_true rfl, Nat.le_of_ble_eq_true rfl⟩ (by omega) (sx_tx (by omega)) rfl rfl rfl hl.1 rfl (Nat.le_of_ble_eq_true rfl) dX3_readLevel_113 ⟨Nat.zero_le _, Nat.zero_le _⟩ (fun u51 H locs q52 hP hS => ?_)
                  have w49 := xPb.add po35 hj hk47 q52
                  refine lv_iload_n C.1 C.2.1 dX3_readLevel_116 rfl (lv_at hl 4 rfl) ?_
                  refine lv_iconst (v := 2) C.1 C.2.1 dX3_readLevel_117 (by decide) ?_
                  refine lv_icmp_ne (tgt := 122) C.1 C.2.1 dX3_readLevel_118 (by decide) (fun c53 => ?_) (fun c53 => ?_)
                  · exact absurd c53 (by decide)
                  · exact mw_vret C hr hlk Z hP hS dX3_readLevel_121 (⟨xAf.bd (((congrFun gN_4 ts).trans (gNot_f rfl hn11)).trans (gCmp_g2 e9 hop e31)) w49.1, (((((xPf.rf j σ).tr f8).rd _ _).tr f30).tr w49.2)⟩)
              · have hnop : ¬ (hdC ts11 = 18 ∨ hdC ts11 = 19) := fun y => c26 (lv_2.mpr y)
                exact mw_vret C hr hlk Z hP hS dX3_readLevel_90 (⟨xAf.gd (((congrFun gN_4 ts).trans (gNot_f rfl hn11)).trans (gCmp_stop e9 hnop)) po13, ((xPf.rf j σ).tr f8)⟩)
        · rw [e9] at hx7
          have po13 : xPb u16 T j qq14 := hx7
          refine lv_iconst (v := 0) C.1 C.2.1 dX3_readLevel_49 (by decide) ?_
          refine lv_istore (lv' := [(4, .int 0), (0, .ref (mw_a E 33)), (1, .ref (mw_a E (39 + j))), (2, .int 2), (3, .int 1)]) C.1 C.2.1 dX3_readLevel_50 hl (by decide) rfl (fun ls hl => ?_)
          refine lv_iload C.1 C.2.1 dX3_readLevel_52 (lv_at hl 0 rfl) ?_
          refine lv_sipush (v := 160) C.1 C.2.1 dX3_readLevel_54 (by decide) ?_
          refine lv_icmp_ge (tgt := 128) C.1 C.2.1 dX3_readLevel_57 (by decide) (fun c54 => ?_) (fun c54 => ?_)
          · exact absurd c54 (by decide)
          · refine lv_aload_n C.1 C.2.1 dX3_readLevel_60 rfl (lv_at hl 1 rfl) ?_
            refine mw_geti C Z hP (33) 2 (by decide) sx_33 rfl rfl (by decide) inX3 tw_1_155 dX3_readLevel_61 ?_
            refine mw_top (y := nI qq14) (po13.2.2.1.1) ?_
            refine lv_iconst (v := -1) C.1 C.2.1 dX3_readLevel_64 (by decide) ?_
            refine lv_icmp_ne (tgt := 128) C.1 C.2.1 dX3_readLevel_65 (by decide) (fun c55 => ?_) (fun c55 => ?_)
            · exact mw_vret C hr hlk Z hP hS dX3_readLevel_128 (⟨xAf.bd (((congrFun gN_4 ts).trans (gNot_f rfl hn11)).trans (gCmp_b e9)) po13, ((xPf.rf j σ).tr f8)⟩)
            · exact absurd c55 (nI_nm1 (by have y := po13.2.2.1.2; omega))
      · have h11 : hdC ts = 11 := nI_eqI (b := 11) (by omega) (by decide) c6
        refine lv_aload_n C.1 C.2.1 dX3_readLevel_33 rfl (lv_at hl 0 rfl) ?_
        refine lv_aload_n C.1 C.2.1 dX3_readLevel_34 rfl (lv_at hl 1 rfl) ?_
        refine lv_iload_n C.1 C.2.1 dX3_readLevel_35 rfl (lv_at hl 3 rfl) ?_
        refine mw_cVv (As := [.ref (mw_a E (39 + j)), .int 1]) (rest := []) C Z hP hS (33) (cX_not1 l E σ T j hj a ts cs B (by omega) h h11) vb_X3_readNot tw_2_228 ⟨rfl, rfl⟩ ⟨Nat.le_of_ble_eq_true rfl, Nat.le_of_ble_eq_true rfl⟩ (by decide) sx_33 rfl rfl rfl hl.1 rfl (Nat.le_of_ble_eq_true rfl) dX3_readLevel_36 ⟨Nat.zero_le _, Nat.zero_le _⟩ (fun u65 H locs q66 hP hS => ?_)
        obtain ⟨hx56, f57⟩ := q66
        rcases e58 : (gD 4).2.1 ts with ⟨cs59, ts60⟩ | qq63
        · rw [e58] at hx56
          obtain ⟨a61, po62⟩ := hx56
          have po62 : xPo u65 T j a61 ts60 (cs ++ cs59) B := po62
          exact mw_vret C hr hlk Z hP hS dX3_readLevel_39 (⟨xAf.gd rfl po62, ((xPf.rf j σ).tr f57)⟩)
        · rw [e58] at hx56
          have po62 : xPb u65 T j qq63 := hx56
          exact mw_vret C hr hlk Z hP hS dX3_readLevel_39 (⟨xAf.bd rfl po62, ((xPf.rf j σ).tr f57)⟩)
  · exact absurd c1 (by decide)

set_option maxHeartbeats 4000000 in
set_option maxRecDepth 100000 in
theorem cX_l1_1 (l : Launch) (E : mw_E) (σ : mw_M) (T : List (Nat × Nat)) (j : Nat) (hj : j < 6) (a : Nat) (ts : List (Nat × Nat)) (cs : List Nat) (B : Nat) (hB : B ≤ 160) (h : xPo σ T j a ts cs B) : mw_Cv shX 75 gX l yX3_readLevel cX3_readLevel 6 none (rmF 37 941) E [.ref (mw_a E 33), .ref (mw_a E (39 + j)), .int 1, .int 1] σ (fun u => xAf T j B cs ((gLevel gAnd (gD 4).2.1) ts) u ∧ xPf j σ u) := by
  refine mw_of (by decide) gX_ok (Nat.le_of_ble_eq_true rfl) ?_
  intro p_ e_ s_ m_ below meth c_ C hr hlk Z hP ls hl
  have C : CallFix p_ m_ c_ cX3_readLevel 6 s_ _ lw_good RX3 := C
  have hl : lv_has ls 6 [(0, .ref (mw_a E 33)), (1, .ref (mw_a E (39 + j))), (2, .int 1), (3, .int 1)] := hl
  have hS : va_S (mw_A 75 E) s_.heap s_.heap [] := va_S.rf
  have hlt : hdC ts < 20000 := by have y := (h.1.lt a).1; rw [h.2.1] at y; exact y
  refine lv_iload_n C.1 C.2.1 dX3_readLevel_0 rfl (lv_at hl 2 rfl) ?_
  refine lv_iconst (v := 4) C.1 C.2.1 dX3_readLevel_1 (by decide) ?_
  refine lv_icmp_le (tgt := 12) C.1 C.2.1 dX3_readLevel_2 (by decide) (fun c1 => ?_) (fun c1 => ?_)
  · refine lv_iload_n C.1 C.2.1 dX3_readLevel_12 rfl (lv_at hl 2 rfl) ?_
    refine lv_iconst (v := 2) C.1 C.2.1 dX3_readLevel_13 (by decide) ?_
    refine lv_icmp_ne (tgt := 40) C.1 C.2.1 dX3_readLevel_14 (by decide) (fun c2 => ?_) (fun c2 => ?_)
    · refine lv_aload_n C.1 C.2.1 dX3_readLevel_40 rfl (lv_at hl 0 rfl) ?_
      refine lv_aload_n C.1 C.2.1 dX3_readLevel_41 rfl (lv_at hl 1 rfl) ?_
      refine lv_iload_n C.1 C.2.1 dX3_readLevel_42 rfl (lv_at hl 2 rfl) ?_
      refine lv_iconst (v := 1) C.1 C.2.1 dX3_readLevel_43 (by decide) ?_
      refine lv_iadd C.1 C.2.1 dX3_readLevel_44 ?_
      refine mw_top (y := 2) (by decide) ?_
      refine lv_iload_n C.1 C.2.1 dX3_readLevel_45 rfl (lv_at hl 3 rfl) ?_
      refine mw_cVv (As := [.ref (mw_a E (39 + j)), .int 2, .int 1]) (rest := []) C Z hP hS (33) (cX_l2_1 l E σ T j hj a ts cs B (by omega) h) vb_X3_readLevel tw_2_216 ⟨rfl, rfl⟩ ⟨Nat.le_of_ble_eq_true rfl, Nat.le_of_ble_eq_true rfl⟩ (by decide) sx_33 rfl rfl rfl hl.1 rfl (Nat.le_of_ble_eq_true rfl) dX3_readLevel_46 ⟨Nat.zero_le _, Nat.zero_le _⟩ (fun u12 H locs q13 hP hS => ?_)
      obtain ⟨hx3, f4⟩ := q13
      rcases e5 : (gD 4).2.1 ts with ⟨cs6, ts7⟩ | qq10
      · rw [e5] at hx3
        obtain ⟨a8, po9⟩ := hx3
        have po9 : xPo u12 T j a8 ts7 (cs ++ cs6) B := po9
        refine lv_iconst (v := 0) C.1 C.2.1 dX3_readLevel_49 (by decide) ?_
        refine lv_istore (lv' := [(4, .int 0), (0, .ref (mw_a E 33)), (1, .ref (mw_a E (39 + j))), (2, .int 1), (3, .int 1)]) C.1 C.2.1 dX3_readLevel_50 hl (by decide) rfl (fun ls hl => ?_)
        have lpa : ∀ (N : Nat) (a1 : Nat) (t : Nat) (f : Nat) (ts1 : List (Nat × Nat)) (cs1 : List Nat) (ςa : mw_M) (H : Heap) (locs : List Loc), 161 ≤ t + N → (t ≤ 160) → (ts1.length ≤ f) → (t + ts1.length ≤ 160) → ((gLevel gAnd (gD 4).2.1) ts = gLoop gAnd (gD 4).2.1 f cs1 ts1) → (xPo ςa T j a1 ts1 (cs ++ cs1) B) → xPf j σ ςa → va_P (mw_D E) vwCl (mw_ws shX 75 E ςa) H → va_S (mw_A 75 E) s_.heap H locs → ∀ (ls : Array Slot), lv_has ls 6 [(0, .ref (mw_a E 33)), (1, .ref (mw_a E (39 + j))), (2, .int 1), (3, .int 1), (4, .int (nI t))] → xWv p_ l e_ (rmF 37 941) s_ m_ [.ref (mw_a E 33), .ref (mw_a E (39 + j)), .int 1, .int 1] below meth c_ E (fun u => xAf T j B cs ((gLevel gAnd (gD 4).2.1) ts) u ∧ xPf j σ u) H locs (F0 m_ 52 ls []) := by
          intro N
          induction N with
          | zero => intros; exfalso; omega
          | succ N iha =>
            intro a1 t f ts1 cs1 ςa H locs hNa ht hf htl hsp hpo fra hP hS ls hl
            refine lv_iload C.1 C.2.1 dX3_readLevel_52 (lv_at hl 4 rfl) ?_
            refine lv_sipush (v := 160) C.1 C.2.1 dX3_readLevel_54 (by decide) ?_
            refine lv_icmp_ge (tgt := 128) C.1 C.2.1 dX3_readLevel_57 (by decide) (fun c14 => ?_) (fun c14 => ?_)
            · have c14 := (nI_leI (a := 160) (by decide) (by omega)).mp c14
              have e0 : ts1 = [] := List.eq_nil_of_length_eq_zero (by omega)
              exact mw_vret C hr hlk Z hP hS dX3_readLevel_128 (⟨xAf.gd (hsp.trans (gLoop_stop (by rw [e0]; decide))) hpo, fra⟩)
            · have c14 := (not_congr (nI_leI (a := 160) (by decide) (by omega))).mp c14
              refine lv_aload_n C.1 C.2.1 dX3_readLevel_60 rfl (lv_at hl 0 rfl) ?_
              refine mw_geti C Z hP (33) 2 (by decide) sx_33 rfl rfl (by decide) inX3 tw_1_155 dX3_readLevel_61 ?_
              refine mw_top (y := -1) (hpo.2.2.2.2.1) ?_
              refine lv_iconst (v := -1) C.1 C.2.1 dX3_readLevel_64 (by decide) ?_
              refine lv_icmp_ne (tgt := 128) C.1 C.2.1 dX3_readLevel_65 (by decide) (fun c15 => ?_) (fun c15 => ?_)
              · exact absurd c15 (by decide)
              · refine lv_aload_n C.1 C.2.1 dX3_readLevel_68 rfl (lv_at hl 0 rfl) ?_
                refine mw_getr C Z hP (33) 0 (34) (by decide) sx_33 rfl rfl (by decide) inX3 tw_1_153 dX3_readLevel_69 ?_
                refine lv_aload_n C.1 C.2.1 dX3_readLevel_72 rfl (lv_at hl 0 rfl) ?_
                refine mw_geti C Z hP (33) 1 (by decide) sx_33 rfl rfl (by decide) inX3 tw_1_154 dX3_readLevel_73 ?_
                refine mw_top (y := nI a1) (hpo.2.2.2.1) ?_
                refine mw_cVi (As := [.int (nI a1)]) (rest := []) C Z hP hS (34) (cX_tokenAt l E ςa T.length hpo.1.2.1 hpo.1.1 a1 (by have y1 := hpo.1.1; have y2 := hpo.2.2.1; omega)) vb_X10_tokenAt tw_2_204 ⟨rfl, rfl⟩ ⟨Nat.le_of_ble_eq_true rfl, Nat.le_of_ble_eq_true rfl⟩ (by decide) sx_34 rfl rfl rfl hl.1 rfl (Nat.le_of_ble_eq_true rfl) dX3_readLevel_76 ⟨Nat.zero_le _, Nat.zero_le _⟩ (fun r16 u17 H locs q18 hP hS => ?_)
                rw [(hpo.1.tok a1).1, hpo.2.1] at q18
                obtain ⟨rfl, q18u⟩ := q18
                rw [q18u] at hP; clear q18u
                refine lv_istore (lv' := [(5, .int (nI (hdC ts1))), (0, .ref (mw_a E 33)), (1, .ref (mw_a E (39 + j))), (2, .int 1), (3, .int 1), (4, .int (nI t))]) C.1 C.2.1 dX3_readLevel_79 hl (by decide) rfl (fun ls hl => ?_)
                refine lv_iload C.1 C.2.1 dX3_readLevel_81 (lv_at hl 0 rfl) ?_
                refine mw_cSi (As := [.int (nI (hdC ts1))]) (rest := []) C Z hP hS (cX_levelOf l E ςa (hdC ts1) (by have y := (hpo.1.lt a1).1; rw [hpo.2.1] at y; omega)) sb_X3_levelOf tw_2_232 ⟨rfl, rfl⟩ ⟨Nat.le_of_ble_eq_true rfl, Nat.le_of_ble_eq_true rfl⟩ rfl hl.1 rfl (Nat.le_of_ble_eq_true rfl) dX3_readLevel_83 ⟨Nat.zero_le _, Nat.zero_le _⟩ (fun r19 u20 H locs q21 hP hS => ?_)
                obtain ⟨rfl, q21u⟩ := q21
                rw [q21u] at hP; clear q21u
                refine lv_iload_n C.1 C.2.1 dX3_readLevel_86 rfl (lv_at hl 3 rfl) ?_
                refine lv_icmp_eq (tgt := 91) C.1 C.2.1 dX3_readLevel_87 (by decide) (fun c22 => ?_) (fun c22 => ?_)
                · have hop := lv_1.mp c22
                  have hne : hdC ts1 ≠ 21 := lv_21 c22 (by decide)
                  obtain ⟨f2, ef, egl⟩ := gLoop_go (x := (gD 4).2.1) (cs := cs1) hne hop hf
                  refine lv_aload_n C.1 C.2.1 dX3_readLevel_91 rfl (lv_at hl 1 rfl) ?_
                  refine lv_dup C.1 C.2.1 dX3_readLevel_92 rfl ?_
                  refine mw_geti C Z hP (33) 1 (by decide) sx_33 rfl rfl (by decide) inX3 tw_1_154 dX3_readLevel_93 ?_
                  refine mw_top (y := nI a1) (hpo.2.2.2.1) ?_
                  refine lv_iconst (v := 1) C.1 C.2.1 dX3_readLevel_96 (by decide) ?_
                  refine lv_iadd C.1 C.2.1 dX3_readLevel_97 ?_
                  refine mw_top (y := nI (a1 + 1)) (nI_1 _) ?_
                  refine mw_puti C Z hP hS (33) 1 (by decide) sx_33 rfl rfl (by decide) inX3 tyX3 tyX3_ok nmX3 rfl tw_1_154 rfl rfl dX3_readLevel_98 (fun H locs hP hS => ?_)
                  have pn23 := hpo.next hj hne
                  have hb24 := pn23.2
                  refine lv_aload_n C.1 C.2.1 dX3_readLevel_101 rfl (lv_at hl 1 rfl) ?_
                  refine lv_aload_n C.1 C.2.1 dX3_readLevel_102 rfl (lv_at hl 2 rfl) ?_
                  refine lv_iload_n C.1 C.2.1 dX3_readLevel_103 rfl (lv_at hl 3 rfl) ?_
                  refine lv_iconst (v := 1) C.1 C.2.1 dX3_readLevel_104 (by decide) ?_
                  refine lv_iadd C.1 C.2.1 dX3_readLevel_105 ?_
                  refine mw_top (y := 2) (by decide) ?_
                  refine lv_iload_n C.1 C.2.1 dX3_readLevel_106 rfl (lv_at hl 4 rfl) ?_
                  refine mw_cVv (As := [.ref (mw_a E (39 + j)), .int 2, .int 1]) (rest := []) C Z hP hS (33) (cX_l2_1 l E (mw_si ςa 33 1 (nI (a1 + 1))) T j hj (a1 + 1) (ts1.tail) ((cs ++ cs1)) (B - 1) (by omega) pn23.1) vb_X3_readLevel tw_2_216 ⟨rfl, rfl⟩ ⟨Nat.le_of_ble_eq_true rfl, Nat.le_of_ble_eq_true rfl⟩ (by decide) sx_33 rfl rfl rfl hl.1 rfl (Nat.le_of_ble_eq_true rfl) dX3_readLevel_107 ⟨Nat.zero_le _, Nat.zero_le _⟩ (fun u34 H locs q35 hP hS => ?_)
                  obtain ⟨hx25, f26⟩ := q35
                  rcases e27 : (gD 4).2.1 (ts1.tail) with ⟨cs28, ts29⟩ | qq32
                  · rw [e27] at hx25
                    obtain ⟨a30, po31⟩ := hx25
                    have po31 : xPo u34 T j a30 ts29 ((cs ++ cs1) ++ cs28) (B - 1) := po31
                    refine lv_aload_n C.1 C.2.1 dX3_readLevel_110 rfl (lv_at hl 2 rfl) ?_
                    refine lv_iload C.1 C.2.1 dX3_readLevel_111 (lv_at hl 0 rfl) ?_
                    refine mw_cVv (As := [.int (nI (hdC ts1))]) (rest := []) C Z hP hS (39 + j) (cX_add l E u34 j hj (((cs ++ cs1) ++ cs28)).length po31.2.2.2.2.2.1.1 (by have y := po31.2.2.2.2.2.2; omega) (nI (hdC ts1))) vb_X8_add tw_2_224 ⟨rfl, rfl⟩ ⟨Nat.le_of_ble_eq_true rfl, Nat.le_of_ble_eq_true rfl⟩ (by omega) (sx_tx (by omega)) rfl rfl rfl hl.1 rfl (Nat.le_of_ble_eq_true rfl) dX3_readLevel_113 ⟨Nat.zero_le _, Nat.zero_le _⟩ (fun u37 H locs q38 hP hS => ?_)
                    have e39 := q38.1 (by have y := po31.2.2.2.2.2.2; omega)
                    subst e39
                    have po40 := (po31.add hj (hdC ts1)).wk (C := B) (by omega)
                    refine lv_iload_n C.1 C.2.1 dX3_readLevel_116 rfl (lv_at hl 3 rfl) ?_
                    refine lv_iconst (v := 2) C.1 C.2.1 dX3_readLevel_117 (by decide) ?_
                    refine lv_icmp_ne (tgt := 122) C.1 C.2.1 dX3_readLevel_118 (by decide) (fun c41 => ?_) (fun c41 => ?_)
                    · refine lv_iinc (v := nI (t + 1)) (lv' := [(4, .int (nI (t + 1))), (5, .int (nI (hdC ts1))), (0, .ref (mw_a E 33)), (1, .ref (mw_a E (39 + j))), (2, .int 1), (3, .int 1)]) C.1 C.2.1 dX3_readLevel_122 hl (k := 5) rfl (nI_1 _) (by decide) rfl (fun ls hl => ?_)
                      refine lv_goto (tgt := 52) C.1 C.2.1 dX3_readLevel_125 (by decide) ?_
                      exact iha a30 (t + 1) f2 ts29 (cs1 ++ cs28 ++ [hdC ts1]) (mw_si (mw_sa u34 (45 + j) (((cs ++ cs1) ++ cs28)).length (nI (hdC ts1))) (39 + j) 3 (nI ((((cs ++ cs1) ++ cs28)).length + 1))) _ _ (by omega) (by omega) (by have y1 := ((gD_dec 4).2.1) _ _ _ e27; have y2 := tail_len hne; omega) (by have y1 := ((gD_dec 4).2.1) _ _ _ e27; have y2 := tail_len hne; omega) (hsp.trans (egl.trans (by rw [e27]))) ((by rw [← List.append_assoc]; rw [← List.append_assoc]; exact po40)) (((fra.rd _ _).tr f26).ad _ _ _) hP hS ls (lv_sub hl [2, 3, 4, 5, 0] rfl)
                    · exact absurd c41 (by decide)
                  · rw [e27] at hx25
                    have po31 : xPb u34 T j qq32 := hx25
                    refine lv_aload_n C.1 C.2.1 dX3_readLevel_110 rfl (lv_at hl 2 rfl) ?_
                    refine lv_iload C.1 C.2.1 dX3_readLevel_111 (lv_at hl 0 rfl) ?_
                    obtain ⟨k42, hk43, ek44⟩ := po31.2.2.2
                    refine mw_cVv (As := [.int (nI (hdC ts1))]) (rest := []) C Z hP hS (39 + j) (cX_add l E u34 j hj k42 ek44 hk43 (nI (hdC ts1))) vb_X8_add tw_2_224 ⟨rfl, rfl⟩ ⟨Nat.le_of_ble_eq_true rfl, Nat.le_of_ble_eq_true rfl⟩ (by omega) (sx_tx (by omega)) rfl rfl rfl hl.1 rfl (Nat.le_of_ble_eq_true rfl) dX3_readLevel_113 ⟨Nat.zero_le _, Nat.zero_le _⟩ (fun u47 H locs q48 hP hS => ?_)
                    have w45 := xPb.add po31 hj hk43 q48
                    refine lv_iload_n C.1 C.2.1 dX3_readLevel_116 rfl (lv_at hl 3 rfl) ?_
                    refine lv_iconst (v := 2) C.1 C.2.1 dX3_readLevel_117 (by decide) ?_
                    refine lv_icmp_ne (tgt := 122) C.1 C.2.1 dX3_readLevel_118 (by decide) (fun c49 => ?_) (fun c49 => ?_)
                    · refine lv_iinc (v := nI (t + 1)) (lv' := [(4, .int (nI (t + 1))), (5, .int (nI (hdC ts1))), (0, .ref (mw_a E 33)), (1, .ref (mw_a E (39 + j))), (2, .int 1), (3, .int 1)]) C.1 C.2.1 dX3_readLevel_122 hl (k := 5) rfl (nI_1 _) (by decide) rfl (fun ls hl => ?_)
                      refine lv_goto (tgt := 52) C.1 C.2.1 dX3_readLevel_125 (by decide) ?_
                      refine lv_iload C.1 C.2.1 dX3_readLevel_52 (lv_at hl 0 rfl) ?_
                      refine lv_sipush (v := 160) C.1 C.2.1 dX3_readLevel_54 (by decide) ?_
                      refine lv_icmp_ge (tgt := 128) C.1 C.2.1 dX3_readLevel_57 (by decide) (fun c50 => ?_) (fun c50 => ?_)
                      · exact mw_vret C hr hlk Z hP hS dX3_readLevel_128 (⟨xAf.bd (hsp.trans (egl.trans (by rw [e27]))) w45.1, (((fra.rd _ _).tr f26).tr w45.2)⟩)
                      · refine lv_aload_n C.1 C.2.1 dX3_readLevel_60 rfl (lv_at hl 2 rfl) ?_
                        refine mw_geti C Z hP (33) 2 (by decide) sx_33 rfl rfl (by decide) inX3 tw_1_155 dX3_readLevel_61 ?_
                        refine mw_top (y := nI qq32) (w45.1.2.2.1.1) ?_
                        refine lv_iconst (v := -1) C.1 C.2.1 dX3_readLevel_64 (by decide) ?_
                        refine lv_icmp_ne (tgt := 128) C.1 C.2.1 dX3_readLevel_65 (by decide) (fun c51 => ?_) (fun c51 => ?_)
                        · exact mw_vret C hr hlk Z hP hS dX3_readLevel_128 (⟨xAf.bd (hsp.trans (egl.trans (by rw [e27]))) w45.1, (((fra.rd _ _).tr f26).tr w45.2)⟩)
                        · exact absurd c51 (nI_nm1 (by have y := w45.1.2.2.1.2; omega))
                    · exact absurd c49 (by decide)
                · have hnop : ¬ gAnd (hdC ts1) = true := fun y => c22 (lv_1.mpr y)
                  exact mw_vret C hr hlk Z hP hS dX3_readLevel_90 (⟨xAf.gd (hsp.trans (gLoop_stop hnop)) hpo, fra⟩)
        exact lpa (161) a8 0 (ts7.length) ts7 cs6 u12 _ _ (by omega) (by omega) (Nat.le_refl _) (by have y := po9.2.2.2.2.2.2; omega) ((gLevel_g e5)) (po9) ((xPf.rf j σ).tr f4) hP hS ls (lv_sub hl [1, 2, 3, 4, 0] rfl)
      · rw [e5] at hx3
        have po9 : xPb u12 T j qq10 := hx3
        refine lv_iconst (v := 0) C.1 C.2.1 dX3_readLevel_49 (by decide) ?_
        refine lv_istore (lv' := [(4, .int 0), (0, .ref (mw_a E 33)), (1, .ref (mw_a E (39 + j))), (2, .int 1), (3, .int 1)]) C.1 C.2.1 dX3_readLevel_50 hl (by decide) rfl (fun ls hl => ?_)
        refine lv_iload C.1 C.2.1 dX3_readLevel_52 (lv_at hl 0 rfl) ?_
        refine lv_sipush (v := 160) C.1 C.2.1 dX3_readLevel_54 (by decide) ?_
        refine lv_icmp_ge (tgt := 128) C.1 C.2.1 dX3_readLevel_57 (by decide) (fun c52 => ?_) (fun c52 => ?_)
        · exact absurd c52 (by decide)
        · refine lv_aload_n C.1 C.2.1 dX3_readLevel_60 rfl (lv_at hl 1 rfl) ?_
          refine mw_geti C Z hP (33) 2 (by decide) sx_33 rfl rfl (by decide) inX3 tw_1_155 dX3_readLevel_61 ?_
          refine mw_top (y := nI qq10) (po9.2.2.1.1) ?_
          refine lv_iconst (v := -1) C.1 C.2.1 dX3_readLevel_64 (by decide) ?_
          refine lv_icmp_ne (tgt := 128) C.1 C.2.1 dX3_readLevel_65 (by decide) (fun c53 => ?_) (fun c53 => ?_)
          · exact mw_vret C hr hlk Z hP hS dX3_readLevel_128 (⟨xAf.bd ((gLevel_b e5)) po9, ((xPf.rf j σ).tr f4)⟩)
          · exact absurd c53 (nI_nm1 (by have y := po9.2.2.1.2; omega))
    · exact absurd c2 (by decide)
  · exact absurd c1 (by decide)

set_option maxHeartbeats 4000000 in
set_option maxRecDepth 100000 in
theorem cX_l0_1 (l : Launch) (E : mw_E) (σ : mw_M) (T : List (Nat × Nat)) (j : Nat) (hj : j < 6) (a : Nat) (ts : List (Nat × Nat)) (cs : List Nat) (B : Nat) (hB : B ≤ 160) (h : xPo σ T j a ts cs B) : mw_Cv shX 75 gX l yX3_readLevel cX3_readLevel 6 none (rmF 38 966) E [.ref (mw_a E 33), .ref (mw_a E (39 + j)), .int 0, .int 1] σ (fun u => xAf T j B cs ((gD 4).2.2 ts) u ∧ xPf j σ u) := by
  refine mw_of (by decide) gX_ok (Nat.le_of_ble_eq_true rfl) ?_
  intro p_ e_ s_ m_ below meth c_ C hr hlk Z hP ls hl
  have C : CallFix p_ m_ c_ cX3_readLevel 6 s_ _ lw_good RX3 := C
  have hl : lv_has ls 6 [(0, .ref (mw_a E 33)), (1, .ref (mw_a E (39 + j))), (2, .int 0), (3, .int 1)] := hl
  have hS : va_S (mw_A 75 E) s_.heap s_.heap [] := va_S.rf
  have hlt : hdC ts < 20000 := by have y := (h.1.lt a).1; rw [h.2.1] at y; exact y
  refine lv_iload_n C.1 C.2.1 dX3_readLevel_0 rfl (lv_at hl 2 rfl) ?_
  refine lv_iconst (v := 4) C.1 C.2.1 dX3_readLevel_1 (by decide) ?_
  refine lv_icmp_le (tgt := 12) C.1 C.2.1 dX3_readLevel_2 (by decide) (fun c1 => ?_) (fun c1 => ?_)
  · refine lv_iload_n C.1 C.2.1 dX3_readLevel_12 rfl (lv_at hl 2 rfl) ?_
    refine lv_iconst (v := 2) C.1 C.2.1 dX3_readLevel_13 (by decide) ?_
    refine lv_icmp_ne (tgt := 40) C.1 C.2.1 dX3_readLevel_14 (by decide) (fun c2 => ?_) (fun c2 => ?_)
    · refine lv_aload_n C.1 C.2.1 dX3_readLevel_40 rfl (lv_at hl 0 rfl) ?_
      refine lv_aload_n C.1 C.2.1 dX3_readLevel_41 rfl (lv_at hl 1 rfl) ?_
      refine lv_iload_n C.1 C.2.1 dX3_readLevel_42 rfl (lv_at hl 2 rfl) ?_
      refine lv_iconst (v := 1) C.1 C.2.1 dX3_readLevel_43 (by decide) ?_
      refine lv_iadd C.1 C.2.1 dX3_readLevel_44 ?_
      refine mw_top (y := 1) (by decide) ?_
      refine lv_iload_n C.1 C.2.1 dX3_readLevel_45 rfl (lv_at hl 3 rfl) ?_
      refine mw_cVv (As := [.ref (mw_a E (39 + j)), .int 1, .int 1]) (rest := []) C Z hP hS (33) (cX_l1_1 l E σ T j hj a ts cs B (by omega) h) vb_X3_readLevel tw_2_216 ⟨rfl, rfl⟩ ⟨Nat.le_of_ble_eq_true rfl, Nat.le_of_ble_eq_true rfl⟩ (by decide) sx_33 rfl rfl rfl hl.1 rfl (Nat.le_of_ble_eq_true rfl) dX3_readLevel_46 ⟨Nat.zero_le _, Nat.zero_le _⟩ (fun u12 H locs q13 hP hS => ?_)
      obtain ⟨hx3, f4⟩ := q13
      rcases e5 : (gLevel gAnd (gD 4).2.1) ts with ⟨cs6, ts7⟩ | qq10
      · rw [e5] at hx3
        obtain ⟨a8, po9⟩ := hx3
        have po9 : xPo u12 T j a8 ts7 (cs ++ cs6) B := po9
        refine lv_iconst (v := 0) C.1 C.2.1 dX3_readLevel_49 (by decide) ?_
        refine lv_istore (lv' := [(4, .int 0), (0, .ref (mw_a E 33)), (1, .ref (mw_a E (39 + j))), (2, .int 0), (3, .int 1)]) C.1 C.2.1 dX3_readLevel_50 hl (by decide) rfl (fun ls hl => ?_)
        have lpa : ∀ (N : Nat) (a1 : Nat) (t : Nat) (f : Nat) (ts1 : List (Nat × Nat)) (cs1 : List Nat) (ςa : mw_M) (H : Heap) (locs : List Loc), 161 ≤ t + N → (t ≤ 160) → (ts1.length ≤ f) → (t + ts1.length ≤ 160) → ((gD 4).2.2 ts = gLoop gOr (gLevel gAnd (gD 4).2.1) f cs1 ts1) → (xPo ςa T j a1 ts1 (cs ++ cs1) B) → xPf j σ ςa → va_P (mw_D E) vwCl (mw_ws shX 75 E ςa) H → va_S (mw_A 75 E) s_.heap H locs → ∀ (ls : Array Slot), lv_has ls 6 [(0, .ref (mw_a E 33)), (1, .ref (mw_a E (39 + j))), (2, .int 0), (3, .int 1), (4, .int (nI t))] → xWv p_ l e_ (rmF 38 966) s_ m_ [.ref (mw_a E 33), .ref (mw_a E (39 + j)), .int 0, .int 1] below meth c_ E (fun u => xAf T j B cs ((gD 4).2.2 ts) u ∧ xPf j σ u) H locs (F0 m_ 52 ls []) := by
          intro N
          induction N with
          | zero => intros; exfalso; omega
          | succ N iha =>
            intro a1 t f ts1 cs1 ςa H locs hNa ht hf htl hsp hpo fra hP hS ls hl
            refine lv_iload C.1 C.2.1 dX3_readLevel_52 (lv_at hl 4 rfl) ?_
            refine lv_sipush (v := 160) C.1 C.2.1 dX3_readLevel_54 (by decide) ?_
            refine lv_icmp_ge (tgt := 128) C.1 C.2.1 dX3_readLevel_57 (by decide) (fun c14 => ?_) (fun c14 => ?_)
            · have c14 := (nI_leI (a := 160) (by decide) (by omega)).mp c14
              have e0 : ts1 = [] := List.eq_nil_of_length_eq_zero (by omega)
              exact mw_vret C hr hlk Z hP hS dX3_readLevel_128 (⟨xAf.gd (hsp.trans (gLoop_stop (by rw [e0]; decide))) hpo, fra⟩)
            · have c14 := (not_congr (nI_leI (a := 160) (by decide) (by omega))).mp c14
              refine lv_aload_n C.1 C.2.1 dX3_readLevel_60 rfl (lv_at hl 0 rfl) ?_
              refine mw_geti C Z hP (33) 2 (by decide) sx_33 rfl rfl (by decide) inX3 tw_1_155 dX3_readLevel_61 ?_
              refine mw_top (y := -1) (hpo.2.2.2.2.1) ?_
              refine lv_iconst (v := -1) C.1 C.2.1 dX3_readLevel_64 (by decide) ?_
              refine lv_icmp_ne (tgt := 128) C.1 C.2.1 dX3_readLevel_65 (by decide) (fun c15 => ?_) (fun c15 => ?_)
              · exact absurd c15 (by decide)
              · refine lv_aload_n C.1 C.2.1 dX3_readLevel_68 rfl (lv_at hl 0 rfl) ?_
                refine mw_getr C Z hP (33) 0 (34) (by decide) sx_33 rfl rfl (by decide) inX3 tw_1_153 dX3_readLevel_69 ?_
                refine lv_aload_n C.1 C.2.1 dX3_readLevel_72 rfl (lv_at hl 0 rfl) ?_
                refine mw_geti C Z hP (33) 1 (by decide) sx_33 rfl rfl (by decide) inX3 tw_1_154 dX3_readLevel_73 ?_
                refine mw_top (y := nI a1) (hpo.2.2.2.1) ?_
                refine mw_cVi (As := [.int (nI a1)]) (rest := []) C Z hP hS (34) (cX_tokenAt l E ςa T.length hpo.1.2.1 hpo.1.1 a1 (by have y1 := hpo.1.1; have y2 := hpo.2.2.1; omega)) vb_X10_tokenAt tw_2_204 ⟨rfl, rfl⟩ ⟨Nat.le_of_ble_eq_true rfl, Nat.le_of_ble_eq_true rfl⟩ (by decide) sx_34 rfl rfl rfl hl.1 rfl (Nat.le_of_ble_eq_true rfl) dX3_readLevel_76 ⟨Nat.zero_le _, Nat.zero_le _⟩ (fun r16 u17 H locs q18 hP hS => ?_)
                rw [(hpo.1.tok a1).1, hpo.2.1] at q18
                obtain ⟨rfl, q18u⟩ := q18
                rw [q18u] at hP; clear q18u
                refine lv_istore (lv' := [(5, .int (nI (hdC ts1))), (0, .ref (mw_a E 33)), (1, .ref (mw_a E (39 + j))), (2, .int 0), (3, .int 1), (4, .int (nI t))]) C.1 C.2.1 dX3_readLevel_79 hl (by decide) rfl (fun ls hl => ?_)
                refine lv_iload C.1 C.2.1 dX3_readLevel_81 (lv_at hl 0 rfl) ?_
                refine mw_cSi (As := [.int (nI (hdC ts1))]) (rest := []) C Z hP hS (cX_levelOf l E ςa (hdC ts1) (by have y := (hpo.1.lt a1).1; rw [hpo.2.1] at y; omega)) sb_X3_levelOf tw_2_232 ⟨rfl, rfl⟩ ⟨Nat.le_of_ble_eq_true rfl, Nat.le_of_ble_eq_true rfl⟩ rfl hl.1 rfl (Nat.le_of_ble_eq_true rfl) dX3_readLevel_83 ⟨Nat.zero_le _, Nat.zero_le _⟩ (fun r19 u20 H locs q21 hP hS => ?_)
                obtain ⟨rfl, q21u⟩ := q21
                rw [q21u] at hP; clear q21u
                refine lv_iload_n C.1 C.2.1 dX3_readLevel_86 rfl (lv_at hl 3 rfl) ?_
                refine lv_icmp_eq (tgt := 91) C.1 C.2.1 dX3_readLevel_87 (by decide) (fun c22 => ?_) (fun c22 => ?_)
                · have hop := lv_0.mp c22
                  have hne : hdC ts1 ≠ 21 := lv_21 c22 (by decide)
                  obtain ⟨f2, ef, egl⟩ := gLoop_go (x := (gLevel gAnd (gD 4).2.1)) (cs := cs1) hne hop hf
                  refine lv_aload_n C.1 C.2.1 dX3_readLevel_91 rfl (lv_at hl 1 rfl) ?_
                  refine lv_dup C.1 C.2.1 dX3_readLevel_92 rfl ?_
                  refine mw_geti C Z hP (33) 1 (by decide) sx_33 rfl rfl (by decide) inX3 tw_1_154 dX3_readLevel_93 ?_
                  refine mw_top (y := nI a1) (hpo.2.2.2.1) ?_
                  refine lv_iconst (v := 1) C.1 C.2.1 dX3_readLevel_96 (by decide) ?_
                  refine lv_iadd C.1 C.2.1 dX3_readLevel_97 ?_
                  refine mw_top (y := nI (a1 + 1)) (nI_1 _) ?_
                  refine mw_puti C Z hP hS (33) 1 (by decide) sx_33 rfl rfl (by decide) inX3 tyX3 tyX3_ok nmX3 rfl tw_1_154 rfl rfl dX3_readLevel_98 (fun H locs hP hS => ?_)
                  have pn23 := hpo.next hj hne
                  have hb24 := pn23.2
                  refine lv_aload_n C.1 C.2.1 dX3_readLevel_101 rfl (lv_at hl 1 rfl) ?_
                  refine lv_aload_n C.1 C.2.1 dX3_readLevel_102 rfl (lv_at hl 2 rfl) ?_
                  refine lv_iload_n C.1 C.2.1 dX3_readLevel_103 rfl (lv_at hl 3 rfl) ?_
                  refine lv_iconst (v := 1) C.1 C.2.1 dX3_readLevel_104 (by decide) ?_
                  refine lv_iadd C.1 C.2.1 dX3_readLevel_105 ?_
                  refine mw_top (y := 1) (by decide) ?_
                  refine lv_iload_n C.1 C.2.1 dX3_readLevel_106 rfl (lv_at hl 4 rfl) ?_
                  refine mw_cVv (As := [.ref (mw_a E (39 + j)), .int 1, .int 1]) (rest := []) C Z hP hS (33) (cX_l1_1 l E (mw_si ςa 33 1 (nI (a1 + 1))) T j hj (a1 + 1) (ts1.tail) ((cs ++ cs1)) (B - 1) (by omega) pn23.1) vb_X3_readLevel tw_2_216 ⟨rfl, rfl⟩ ⟨Nat.le_of_ble_eq_true rfl, Nat.le_of_ble_eq_true rfl⟩ (by decide) sx_33 rfl rfl rfl hl.1 rfl (Nat.le_of_ble_eq_true rfl) dX3_readLevel_107 ⟨Nat.zero_le _, Nat.zero_le _⟩ (fun u34 H locs q35 hP hS => ?_)
                  obtain ⟨hx25, f26⟩ := q35
                  rcases e27 : (gLevel gAnd (gD 4).2.1) (ts1.tail) with ⟨cs28, ts29⟩ | qq32
                  · rw [e27] at hx25
                    obtain ⟨a30, po31⟩ := hx25
                    have po31 : xPo u34 T j a30 ts29 ((cs ++ cs1) ++ cs28) (B - 1) := po31
                    refine lv_aload_n C.1 C.2.1 dX3_readLevel_110 rfl (lv_at hl 2 rfl) ?_
                    refine lv_iload C.1 C.2.1 dX3_readLevel_111 (lv_at hl 0 rfl) ?_
                    refine mw_cVv (As := [.int (nI (hdC ts1))]) (rest := []) C Z hP hS (39 + j) (cX_add l E u34 j hj (((cs ++ cs1) ++ cs28)).length po31.2.2.2.2.2.1.1 (by have y := po31.2.2.2.2.2.2; omega) (nI (hdC ts1))) vb_X8_add tw_2_224 ⟨rfl, rfl⟩ ⟨Nat.le_of_ble_eq_true rfl, Nat.le_of_ble_eq_true rfl⟩ (by omega) (sx_tx (by omega)) rfl rfl rfl hl.1 rfl (Nat.le_of_ble_eq_true rfl) dX3_readLevel_113 ⟨Nat.zero_le _, Nat.zero_le _⟩ (fun u37 H locs q38 hP hS => ?_)
                    have e39 := q38.1 (by have y := po31.2.2.2.2.2.2; omega)
                    subst e39
                    have po40 := (po31.add hj (hdC ts1)).wk (C := B) (by omega)
                    refine lv_iload_n C.1 C.2.1 dX3_readLevel_116 rfl (lv_at hl 3 rfl) ?_
                    refine lv_iconst (v := 2) C.1 C.2.1 dX3_readLevel_117 (by decide) ?_
                    refine lv_icmp_ne (tgt := 122) C.1 C.2.1 dX3_readLevel_118 (by decide) (fun c41 => ?_) (fun c41 => ?_)
                    · refine lv_iinc (v := nI (t + 1)) (lv' := [(4, .int (nI (t + 1))), (5, .int (nI (hdC ts1))), (0, .ref (mw_a E 33)), (1, .ref (mw_a E (39 + j))), (2, .int 0), (3, .int 1)]) C.1 C.2.1 dX3_readLevel_122 hl (k := 5) rfl (nI_1 _) (by decide) rfl (fun ls hl => ?_)
                      refine lv_goto (tgt := 52) C.1 C.2.1 dX3_readLevel_125 (by decide) ?_
                      exact iha a30 (t + 1) f2 ts29 (cs1 ++ cs28 ++ [hdC ts1]) (mw_si (mw_sa u34 (45 + j) (((cs ++ cs1) ++ cs28)).length (nI (hdC ts1))) (39 + j) 3 (nI ((((cs ++ cs1) ++ cs28)).length + 1))) _ _ (by omega) (by omega) (by have y1 := (gLevel_dec (gD_dec 4).2.1) _ _ _ e27; have y2 := tail_len hne; omega) (by have y1 := (gLevel_dec (gD_dec 4).2.1) _ _ _ e27; have y2 := tail_len hne; omega) (hsp.trans (egl.trans (by rw [e27]))) ((by rw [← List.append_assoc]; rw [← List.append_assoc]; exact po40)) (((fra.rd _ _).tr f26).ad _ _ _) hP hS ls (lv_sub hl [2, 3, 4, 5, 0] rfl)
                    · exact absurd c41 (by decide)
                  · rw [e27] at hx25
                    have po31 : xPb u34 T j qq32 := hx25
                    refine lv_aload_n C.1 C.2.1 dX3_readLevel_110 rfl (lv_at hl 2 rfl) ?_
                    refine lv_iload C.1 C.2.1 dX3_readLevel_111 (lv_at hl 0 rfl) ?_
                    obtain ⟨k42, hk43, ek44⟩ := po31.2.2.2
                    refine mw_cVv (As := [.int (nI (hdC ts1))]) (rest := []) C Z hP hS (39 + j) (cX_add l E u34 j hj k42 ek44 hk43 (nI (hdC ts1))) vb_X8_add tw_2_224 ⟨rfl, rfl⟩ ⟨Nat.le_of_ble_eq_true rfl, Nat.le_of_ble_eq_true rfl⟩ (by omega) (sx_tx (by omega)) rfl rfl rfl hl.1 rfl (Nat.le_of_ble_eq_true rfl) dX3_readLevel_113 ⟨Nat.zero_le _, Nat.zero_le _⟩ (fun u47 H locs q48 hP hS => ?_)
                    have w45 := xPb.add po31 hj hk43 q48
                    refine lv_iload_n C.1 C.2.1 dX3_readLevel_116 rfl (lv_at hl 3 rfl) ?_
                    refine lv_iconst (v := 2) C.1 C.2.1 dX3_readLevel_117 (by decide) ?_
                    refine lv_icmp_ne (tgt := 122) C.1 C.2.1 dX3_readLevel_118 (by decide) (fun c49 => ?_) (fun c49 => ?_)
                    · refine lv_iinc (v := nI (t + 1)) (lv' := [(4, .int (nI (t + 1))), (5, .int (nI (hdC ts1))), (0, .ref (mw_a E 33)), (1, .ref (mw_a E (39 + j))), (2, .int 0), (3, .int 1)]) C.1 C.2.1 dX3_readLevel_122 hl (k := 5) rfl (nI_1 _) (by decide) rfl (fun ls hl => ?_)
                      refine lv_goto (tgt := 52) C.1 C.2.1 dX3_readLevel_125 (by decide) ?_
                      refine lv_iload C.1 C.2.1 dX3_readLevel_52 (lv_at hl 0 rfl) ?_
                      refine lv_sipush (v := 160) C.1 C.2.1 dX3_readLevel_54 (by decide) ?_
                      refine lv_icmp_ge (tgt := 128) C.1 C.2.1 dX3_readLevel_57 (by decide) (fun c50 => ?_) (fun c50 => ?_)
                      · exact mw_vret C hr hlk Z hP hS dX3_readLevel_128 (⟨xAf.bd (hsp.trans (egl.trans (by rw [e27]))) w45.1, (((fra.rd _ _).tr f26).tr w45.2)⟩)
                      · refine lv_aload_n C.1 C.2.1 dX3_readLevel_60 rfl (lv_at hl 2 rfl) ?_
                        refine mw_geti C Z hP (33) 2 (by decide) sx_33 rfl rfl (by decide) inX3 tw_1_155 dX3_readLevel_61 ?_
                        refine mw_top (y := nI qq32) (w45.1.2.2.1.1) ?_
                        refine lv_iconst (v := -1) C.1 C.2.1 dX3_readLevel_64 (by decide) ?_
                        refine lv_icmp_ne (tgt := 128) C.1 C.2.1 dX3_readLevel_65 (by decide) (fun c51 => ?_) (fun c51 => ?_)
                        · exact mw_vret C hr hlk Z hP hS dX3_readLevel_128 (⟨xAf.bd (hsp.trans (egl.trans (by rw [e27]))) w45.1, (((fra.rd _ _).tr f26).tr w45.2)⟩)
                        · exact absurd c51 (nI_nm1 (by have y := w45.1.2.2.1.2; omega))
                    · exact absurd c49 (by decide)
                · have hnop : ¬ gOr (hdC ts1) = true := fun y => c22 (lv_0.mpr y)
                  exact mw_vret C hr hlk Z hP hS dX3_readLevel_90 (⟨xAf.gd (hsp.trans (gLoop_stop hnop)) hpo, fra⟩)
        exact lpa (161) a8 0 (ts7.length) ts7 cs6 u12 _ _ (by omega) (by omega) (Nat.le_refl _) (by have y := po9.2.2.2.2.2.2; omega) ((congrFun gE_4 ts).trans (gLevel_g e5)) (po9) ((xPf.rf j σ).tr f4) hP hS ls (lv_sub hl [1, 2, 3, 4, 0] rfl)
      · rw [e5] at hx3
        have po9 : xPb u12 T j qq10 := hx3
        refine lv_iconst (v := 0) C.1 C.2.1 dX3_readLevel_49 (by decide) ?_
        refine lv_istore (lv' := [(4, .int 0), (0, .ref (mw_a E 33)), (1, .ref (mw_a E (39 + j))), (2, .int 0), (3, .int 1)]) C.1 C.2.1 dX3_readLevel_50 hl (by decide) rfl (fun ls hl => ?_)
        refine lv_iload C.1 C.2.1 dX3_readLevel_52 (lv_at hl 0 rfl) ?_
        refine lv_sipush (v := 160) C.1 C.2.1 dX3_readLevel_54 (by decide) ?_
        refine lv_icmp_ge (tgt := 128) C.1 C.2.1 dX3_readLevel_57 (by decide) (fun c52 => ?_) (fun c52 => ?_)
        · exact absurd c52 (by decide)
        · refine lv_aload_n C.1 C.2.1 dX3_readLevel_60 rfl (lv_at hl 1 rfl) ?_
          refine mw_geti C Z hP (33) 2 (by decide) sx_33 rfl rfl (by decide) inX3 tw_1_155 dX3_readLevel_61 ?_
          refine mw_top (y := nI qq10) (po9.2.2.1.1) ?_
          refine lv_iconst (v := -1) C.1 C.2.1 dX3_readLevel_64 (by decide) ?_
          refine lv_icmp_ne (tgt := 128) C.1 C.2.1 dX3_readLevel_65 (by decide) (fun c53 => ?_) (fun c53 => ?_)
          · exact mw_vret C hr hlk Z hP hS dX3_readLevel_128 (⟨xAf.bd ((congrFun gE_4 ts).trans (gLevel_b e5)) po9, ((xPf.rf j σ).tr f4)⟩)
          · exact absurd c53 (nI_nm1 (by have y := po9.2.2.1.2; omega))
    · exact absurd c2 (by decide)
  · exact absurd c1 (by decide)

set_option maxHeartbeats 4000000 in
set_option maxRecDepth 100000 in
theorem cX_one0 (l : Launch) (E : mw_E) (σ : mw_M) (T : List (Nat × Nat)) (j : Nat) (hj : j < 6) (a : Nat) (ts : List (Nat × Nat)) (cs : List Nat) (B : Nat) (hB : B ≤ 160) (h : xPo σ T j a ts cs B) : mw_Cv shX 75 gX l yX3_readOne cX3_readOne 4 none (rmF 39 991) E [.ref (mw_a E 33), .ref (mw_a E (39 + j)), .int 0] σ (fun u => xAf T j B cs ((gD 5).1 ts) u ∧ xPf j σ u) := by
  refine mw_of (by decide) gX_ok (Nat.le_of_ble_eq_true rfl) ?_
  intro p_ e_ s_ m_ below meth c_ C hr hlk Z hP ls hl
  have C : CallFix p_ m_ c_ cX3_readOne 4 s_ _ lw_good RX3 := C
  have hl : lv_has ls 4 [(0, .ref (mw_a E 33)), (1, .ref (mw_a E (39 + j))), (2, .int 0)] := hl
  have hS : va_S (mw_A 75 E) s_.heap s_.heap [] := va_S.rf
  have hlt : hdC ts < 20000 := by have y := (h.1.lt a).1; rw [h.2.1] at y; exact y
  refine lv_aload_n C.1 C.2.1 dX3_readOne_0 rfl (lv_at hl 0 rfl) ?_
  refine mw_getr C Z hP (33) 0 (34) (by decide) sx_33 rfl rfl (by decide) inX3 tw_1_153 dX3_readOne_1 ?_
  refine lv_aload_n C.1 C.2.1 dX3_readOne_4 rfl (lv_at hl 0 rfl) ?_
  refine mw_geti C Z hP (33) 1 (by decide) sx_33 rfl rfl (by decide) inX3 tw_1_154 dX3_readOne_5 ?_
  refine mw_top (y := nI a) (h.2.2.2.1) ?_
  refine mw_cVi (As := [.int (nI a)]) (rest := []) C Z hP hS (34) (cX_tokenAt l E σ T.length h.1.2.1 h.1.1 a (by have y1 := h.1.1; have y2 := h.2.2.1; omega)) vb_X10_tokenAt tw_2_204 ⟨rfl, rfl⟩ ⟨Nat.le_of_ble_eq_true rfl, Nat.le_of_ble_eq_true rfl⟩ (by decide) sx_34 rfl rfl rfl hl.1 rfl (Nat.le_of_ble_eq_true rfl) dX3_readOne_8 ⟨Nat.zero_le _, Nat.zero_le _⟩ (fun r1 u2 H locs q3 hP hS => ?_)
  rw [(h.1.tok a).1, h.2.1] at q3
  obtain ⟨rfl, q3u⟩ := q3
  rw [q3u] at hP; clear q3u
  refine lv_istore_n (lv' := [(3, .int (nI (hdC ts))), (0, .ref (mw_a E 33)), (1, .ref (mw_a E (39 + j))), (2, .int 0)]) C.1 C.2.1 dX3_readOne_11 rfl hl (by decide) rfl (fun ls hl => ?_)
  refine lv_aload_n C.1 C.2.1 dX3_readOne_12 rfl (lv_at hl 1 rfl) ?_
  refine mw_geti C Z hP (33) 2 (by decide) sx_33 rfl rfl (by decide) inX3 tw_1_155 dX3_readOne_13 ?_
  refine mw_top (y := -1) (h.2.2.2.2.1) ?_
  refine lv_iconst (v := -1) C.1 C.2.1 dX3_readOne_16 (by decide) ?_
  refine lv_icmp_eq (tgt := 21) C.1 C.2.1 dX3_readOne_17 (by decide) (fun c4 => ?_) (fun c4 => ?_)
  · refine lv_iload_n C.1 C.2.1 dX3_readOne_21 rfl (lv_at hl 0 rfl) ?_
    refine lv_iconst (v := 5) C.1 C.2.1 dX3_readOne_22 (by decide) ?_
    refine lv_icmp_le (tgt := 32) C.1 C.2.1 dX3_readOne_23 (by decide) (fun c5 => ?_) (fun c5 => ?_)
    · have c5 := (nI_leI (b := 5) (by omega) (by decide)).mp c5
      have hcl : hdC ts ≤ 5 ∨ 100 ≤ hdC ts := Or.inl c5
      have hne : hdC ts ≠ 21 := by omega
      refine lv_aload_n C.1 C.2.1 dX3_readOne_32 rfl (lv_at hl 1 rfl) ?_
      refine lv_dup C.1 C.2.1 dX3_readOne_33 rfl ?_
      refine mw_geti C Z hP (33) 1 (by decide) sx_33 rfl rfl (by decide) inX3 tw_1_154 dX3_readOne_34 ?_
      refine mw_top (y := nI a) (h.2.2.2.1) ?_
      refine lv_iconst (v := 1) C.1 C.2.1 dX3_readOne_37 (by decide) ?_
      refine lv_iadd C.1 C.2.1 dX3_readOne_38 ?_
      refine mw_top (y := nI (a + 1)) (nI_1 _) ?_
      refine mw_puti C Z hP hS (33) 1 (by decide) sx_33 rfl rfl (by decide) inX3 tyX3 tyX3_ok nmX3 rfl tw_1_154 rfl rfl dX3_readOne_39 (fun H locs hP hS => ?_)
      have pn6 := h.next hj hne
      have hb7 := pn6.2
      refine lv_aload_n C.1 C.2.1 dX3_readOne_42 rfl (lv_at hl 2 rfl) ?_
      refine lv_iload_n C.1 C.2.1 dX3_readOne_43 rfl (lv_at hl 0 rfl) ?_
      refine mw_cVv (As := [.int (nI (hdC ts))]) (rest := []) C Z hP hS (39 + j) (cX_add l E (mw_si σ 33 1 (nI (a + 1))) j hj cs.length pn6.1.2.2.2.2.2.1.1 (by have y := pn6.1.2.2.2.2.2.2; omega) (nI (hdC ts))) vb_X8_add tw_2_224 ⟨rfl, rfl⟩ ⟨Nat.le_of_ble_eq_true rfl, Nat.le_of_ble_eq_true rfl⟩ (by omega) (sx_tx (by omega)) rfl rfl rfl hl.1 rfl (Nat.le_of_ble_eq_true rfl) dX3_readOne_44 ⟨Nat.zero_le _, Nat.zero_le _⟩ (fun u9 H locs q10 hP hS => ?_)
      have e11 := q10.1 (by have y := pn6.1.2.2.2.2.2.2; omega)
      subst e11
      have po12 := (pn6.1.add hj (hdC ts)).wk (C := B) (by omega)
      refine lv_goto (tgt := 131) C.1 C.2.1 dX3_readOne_47 (by decide) ?_
      exact mw_vret C hr hlk Z hP hS dX3_readOne_131 (⟨xAf.gd ((congrFun gA_5 ts).trans (gAt_a hcl)) po12, (((xPf.rf j σ).rd _ _).ad _ _ _)⟩)
    · have c5 := (not_congr (nI_leI (b := 5) (by omega) (by decide))).mp c5
      refine lv_iload_n C.1 C.2.1 dX3_readOne_26 rfl (lv_at hl 0 rfl) ?_
      refine lv_bipush (v := 100) C.1 C.2.1 dX3_readOne_27 (by decide) ?_
      refine lv_icmp_lt (tgt := 50) C.1 C.2.1 dX3_readOne_29 (by decide) (fun c13 => ?_) (fun c13 => ?_)
      · have c13 := (nI_ltI (b := 100) (by omega) (by decide)).mp c13
        have hncl : ¬ (hdC ts ≤ 5 ∨ 100 ≤ hdC ts) := by omega
        refine lv_iload_n C.1 C.2.1 dX3_readOne_50 rfl (lv_at hl 0 rfl) ?_
        refine lv_bipush (v := 16) C.1 C.2.1 dX3_readOne_51 (by decide) ?_
        refine lv_icmp_ne (tgt := 88) C.1 C.2.1 dX3_readOne_53 (by decide) (fun c14 => ?_) (fun c14 => ?_)
        · have h16n : ¬ hdC ts = 16 := fun y => c14 (by rw [y]; rfl)
          refine lv_iload_n C.1 C.2.1 dX3_readOne_88 rfl (lv_at hl 0 rfl) ?_
          refine lv_bipush (v := 12) C.1 C.2.1 dX3_readOne_89 (by decide) ?_
          refine lv_icmp_ne (tgt := 127) C.1 C.2.1 dX3_readOne_91 (by decide) (fun c15 => ?_) (fun c15 => ?_)
          · refine lv_aload_n C.1 C.2.1 dX3_readOne_127 rfl (lv_at hl 1 rfl) ?_
            refine mw_cVv (As := []) (rest := []) C Z hP hS (33) (cX_failG l E σ T j hj a ts cs B (by omega) h) vb_X3_fail tw_2_208 ⟨rfl, rfl⟩ ⟨Nat.le_of_ble_eq_true rfl, Nat.le_of_ble_eq_true rfl⟩ (by decide) sx_33 rfl rfl rfl hl.1 rfl (Nat.le_of_ble_eq_true rfl) dX3_readOne_128 ⟨Nat.zero_le _, Nat.zero_le _⟩ (fun u17 H locs q18 hP hS => ?_)
            subst q18
            exact mw_vret C hr hlk Z hP hS dX3_readOne_131 (⟨xAf.bd ((congrFun gA_5 ts).trans (gAt_x hncl (fun y => absurd y h16n) (fun y => absurd y (fun z => c15 (by rw [z]; rfl))))) (h.fail hj (by have y := h.2.2.2.2.2.2; omega)), ((xPf.rf j σ).rd _ _)⟩)
          · have h12 : hdC ts = 12 := nI_eqI (b := 12) (by omega) (by decide) c15
            have hne : hdC ts ≠ 21 := by omega
            refine lv_iload_n C.1 C.2.1 dX3_readOne_94 rfl (lv_at hl 3 rfl) ?_
            refine lv_iconst (v := 5) C.1 C.2.1 dX3_readOne_95 (by decide) ?_
            refine lv_icmp_ge (tgt := 127) C.1 C.2.1 dX3_readOne_96 (by decide) (fun c19 => ?_) (fun c19 => ?_)
            · exact absurd c19 (by decide)
            · refine lv_aload_n C.1 C.2.1 dX3_readOne_99 rfl (lv_at hl 1 rfl) ?_
              refine lv_dup C.1 C.2.1 dX3_readOne_100 rfl ?_
              refine mw_geti C Z hP (33) 1 (by decide) sx_33 rfl rfl (by decide) inX3 tw_1_154 dX3_readOne_101 ?_
              refine mw_top (y := nI a) (h.2.2.2.1) ?_
              refine lv_iconst (v := 1) C.1 C.2.1 dX3_readOne_104 (by decide) ?_
              refine lv_iadd C.1 C.2.1 dX3_readOne_105 ?_
              refine mw_top (y := nI (a + 1)) (nI_1 _) ?_
              refine mw_puti C Z hP hS (33) 1 (by decide) sx_33 rfl rfl (by decide) inX3 tyX3 tyX3_ok nmX3 rfl tw_1_154 rfl rfl dX3_readOne_106 (fun H locs hP hS => ?_)
              have pn20 := h.next hj hne
              have hb21 := pn20.2
              refine lv_aload_n C.1 C.2.1 dX3_readOne_109 rfl (lv_at hl 1 rfl) ?_
              refine lv_aload_n C.1 C.2.1 dX3_readOne_110 rfl (lv_at hl 2 rfl) ?_
              refine lv_iconst (v := 0) C.1 C.2.1 dX3_readOne_111 (by decide) ?_
              refine lv_iload_n C.1 C.2.1 dX3_readOne_112 rfl (lv_at hl 3 rfl) ?_
              refine lv_iconst (v := 1) C.1 C.2.1 dX3_readOne_113 (by decide) ?_
              refine lv_iadd C.1 C.2.1 dX3_readOne_114 ?_
              refine mw_top (y := 1) (by decide) ?_
              refine mw_cVv (As := [.ref (mw_a E (39 + j)), .int 0, .int 1]) (rest := []) C Z hP hS (33) (cX_l0_1 l E (mw_si σ 33 1 (nI (a + 1))) T j hj (a + 1) (ts.tail) cs (B - 1) (by omega) pn20.1) vb_X3_readLevel tw_2_216 ⟨rfl, rfl⟩ ⟨Nat.le_of_ble_eq_true rfl, Nat.le_of_ble_eq_true rfl⟩ (by decide) sx_33 rfl rfl rfl hl.1 rfl (Nat.le_of_ble_eq_true rfl) dX3_readOne_115 ⟨Nat.zero_le _, Nat.zero_le _⟩ (fun u31 H locs q32 hP hS => ?_)
              obtain ⟨hx22, f23⟩ := q32
              rcases e24 : (gD 4).2.2 (ts.tail) with ⟨cs25, ts26⟩ | qq29
              · rw [e24] at hx22
                obtain ⟨a27, po28⟩ := hx22
                have po28 : xPo u31 T j a27 ts26 (cs ++ cs25) (B - 1) := po28
                refine lv_aload_n C.1 C.2.1 dX3_readOne_118 rfl (lv_at hl 1 rfl) ?_
                refine lv_bipush (v := 13) C.1 C.2.1 dX3_readOne_119 (by decide) ?_
                refine mw_cVv (As := [.int 13]) (rest := []) C Z hP hS (33) (cX_passG l E u31 T j hj a27 ts26 ((cs ++ cs25)) (B - 1) (by omega) po28 13 (by decide)) vb_X3_pass tw_2_200 ⟨rfl, rfl⟩ ⟨Nat.le_of_ble_eq_true rfl, Nat.le_of_ble_eq_true rfl⟩ (by decide) sx_33 rfl rfl rfl hl.1 rfl (Nat.le_of_ble_eq_true rfl) dX3_readOne_121 ⟨Nat.zero_le _, Nat.zero_le _⟩ (fun u36 H locs q37 hP hS => ?_)
                by_cases hc33 : hdC ts26 = 13
                · have e34 := q37.1 hc33; subst e34
                  have pn38 := po28.next hj (by omega)
                  refine lv_goto (tgt := 131) C.1 C.2.1 dX3_readOne_124 (by decide) ?_
                  exact mw_vret C hr hlk Z hP hS dX3_readOne_131 (⟨xAf.gd ((congrFun gA_5 ts).trans (gAt_p1 h12 e24 hc33)) (pn38.1.wk (by omega)), ((((xPf.rf j σ).rd _ _).tr f23).rd _ _)⟩)
                · have e34 := q37.2 hc33; subst e34
                  have pb39 := po28.fail hj (by have y := po28.2.2.2.2.2.2; omega)
                  refine lv_goto (tgt := 131) C.1 C.2.1 dX3_readOne_124 (by decide) ?_
                  exact mw_vret C hr hlk Z hP hS dX3_readOne_131 (⟨xAf.bd ((congrFun gA_5 ts).trans (gAt_p2 h12 e24 hc33)) pb39, ((((xPf.rf j σ).rd _ _).tr f23).rd _ _)⟩)
              · rw [e24] at hx22
                have po28 : xPb u31 T j qq29 := hx22
                refine lv_aload_n C.1 C.2.1 dX3_readOne_118 rfl (lv_at hl 1 rfl) ?_
                refine lv_bipush (v := 13) C.1 C.2.1 dX3_readOne_119 (by decide) ?_
                refine mw_cVv (As := [.int 13]) (rest := []) C Z hP hS (33) (cX_passB l E u31 T j hj qq29 po28 (13 : Int32)) vb_X3_pass tw_2_200 ⟨rfl, rfl⟩ ⟨Nat.le_of_ble_eq_true rfl, Nat.le_of_ble_eq_true rfl⟩ (by decide) sx_33 rfl rfl rfl hl.1 rfl (Nat.le_of_ble_eq_true rfl) dX3_readOne_121 ⟨Nat.zero_le _, Nat.zero_le _⟩ (fun u41 H locs q42 hP hS => ?_)
                rw [q42] at hP; clear q42
                refine lv_goto (tgt := 131) C.1 C.2.1 dX3_readOne_124 (by decide) ?_
                exact mw_vret C hr hlk Z hP hS dX3_readOne_131 (⟨xAf.bd ((congrFun gA_5 ts).trans (gAt_p3 h12 e24)) po28, (((xPf.rf j σ).rd _ _).tr f23)⟩)
        · have h16 : hdC ts = 16 := nI_eqI (b := 16) (by omega) (by decide) c14
          have hne : hdC ts ≠ 21 := by omega
          refine lv_iload_n C.1 C.2.1 dX3_readOne_56 rfl (lv_at hl 3 rfl) ?_
          refine lv_iconst (v := 5) C.1 C.2.1 dX3_readOne_57 (by decide) ?_
          refine lv_icmp_ge (tgt := 88) C.1 C.2.1 dX3_readOne_58 (by decide) (fun c43 => ?_) (fun c43 => ?_)
          · exact absurd c43 (by decide)
          · refine lv_aload_n C.1 C.2.1 dX3_readOne_61 rfl (lv_at hl 1 rfl) ?_
            refine lv_dup C.1 C.2.1 dX3_readOne_62 rfl ?_
            refine mw_geti C Z hP (33) 1 (by decide) sx_33 rfl rfl (by decide) inX3 tw_1_154 dX3_readOne_63 ?_
            refine mw_top (y := nI a) (h.2.2.2.1) ?_
            refine lv_iconst (v := 1) C.1 C.2.1 dX3_readOne_66 (by decide) ?_
            refine lv_iadd C.1 C.2.1 dX3_readOne_67 ?_
            refine mw_top (y := nI (a + 1)) (nI_1 _) ?_
            refine mw_puti C Z hP hS (33) 1 (by decide) sx_33 rfl rfl (by decide) inX3 tyX3 tyX3_ok nmX3 rfl tw_1_154 rfl rfl dX3_readOne_68 (fun H locs hP hS => ?_)
            have pn44 := h.next hj hne
            have hb45 := pn44.2
            refine lv_aload_n C.1 C.2.1 dX3_readOne_71 rfl (lv_at hl 1 rfl) ?_
            refine lv_aload_n C.1 C.2.1 dX3_readOne_72 rfl (lv_at hl 2 rfl) ?_
            refine lv_iload_n C.1 C.2.1 dX3_readOne_73 rfl (lv_at hl 3 rfl) ?_
            refine lv_iconst (v := 1) C.1 C.2.1 dX3_readOne_74 (by decide) ?_
            refine lv_iadd C.1 C.2.1 dX3_readOne_75 ?_
            refine mw_top (y := 1) (by decide) ?_
            refine mw_cVv (As := [.ref (mw_a E (39 + j)), .int 1]) (rest := []) C Z hP hS (33) (cX_one1 l E (mw_si σ 33 1 (nI (a + 1))) T j hj (a + 1) (ts.tail) cs (B - 1) (by omega) pn44.1) vb_X3_readOne tw_2_220 ⟨rfl, rfl⟩ ⟨Nat.le_of_ble_eq_true rfl, Nat.le_of_ble_eq_true rfl⟩ (by decide) sx_33 rfl rfl rfl hl.1 rfl (Nat.le_of_ble_eq_true rfl) dX3_readOne_76 ⟨Nat.zero_le _, Nat.zero_le _⟩ (fun u55 H locs q56 hP hS => ?_)
            obtain ⟨hx46, f47⟩ := q56
            rcases e48 : (gD 4).1 (ts.tail) with ⟨cs49, ts50⟩ | qq53
            · rw [e48] at hx46
              obtain ⟨a51, po52⟩ := hx46
              have po52 : xPo u55 T j a51 ts50 (cs ++ cs49) (B - 1) := po52
              refine lv_aload_n C.1 C.2.1 dX3_readOne_79 rfl (lv_at hl 2 rfl) ?_
              refine lv_bipush (v := 20) C.1 C.2.1 dX3_readOne_80 (by decide) ?_
              refine mw_top (y := nI 20) (rfl) ?_
              refine mw_cVv (As := [.int (nI 20)]) (rest := []) C Z hP hS (39 + j) (cX_add l E u55 j hj ((cs ++ cs49)).length po52.2.2.2.2.2.1.1 (by have y := po52.2.2.2.2.2.2; omega) (nI 20)) vb_X8_add tw_2_224 ⟨rfl, rfl⟩ ⟨Nat.le_of_ble_eq_true rfl, Nat.le_of_ble_eq_true rfl⟩ (by omega) (sx_tx (by omega)) rfl rfl rfl hl.1 rfl (Nat.le_of_ble_eq_true rfl) dX3_readOne_82 ⟨Nat.zero_le _, Nat.zero_le _⟩ (fun u58 H locs q59 hP hS => ?_)
              have e60 := q59.1 (by have y := po52.2.2.2.2.2.2; omega)
              subst e60
              have po61 := (po52.add hj 20).wk (C := B) (by omega)
              refine lv_goto (tgt := 131) C.1 C.2.1 dX3_readOne_85 (by decide) ?_
              exact mw_vret C hr hlk Z hP hS dX3_readOne_131 (⟨xAf.gd ((congrFun gA_5 ts).trans (gAt_m1 h16 e48)) (by rw [← List.append_assoc]; exact po61), ((((xPf.rf j σ).rd _ _).tr f47).ad _ _ _)⟩)
            · rw [e48] at hx46
              have po52 : xPb u55 T j qq53 := hx46
              refine lv_aload_n C.1 C.2.1 dX3_readOne_79 rfl (lv_at hl 2 rfl) ?_
              refine lv_bipush (v := 20) C.1 C.2.1 dX3_readOne_80 (by decide) ?_
              refine mw_top (y := nI 20) (rfl) ?_
              obtain ⟨k62, hk63, ek64⟩ := po52.2.2.2
              refine mw_cVv (As := [.int (nI 20)]) (rest := []) C Z hP hS (39 + j) (cX_add l E u55 j hj k62 ek64 hk63 (nI 20)) vb_X8_add tw_2_224 ⟨rfl, rfl⟩ ⟨Nat.le_of_ble_eq_true rfl, Nat.le_of_ble_eq_true rfl⟩ (by omega) (sx_tx (by omega)) rfl rfl rfl hl.1 rfl (Nat.le_of_ble_eq_true rfl) dX3_readOne_82 ⟨Nat.zero_le _, Nat.zero_le _⟩ (fun u67 H locs q68 hP hS => ?_)
              have w65 := xPb.add po52 hj hk63 q68
              refine lv_goto (tgt := 131) C.1 C.2.1 dX3_readOne_85 (by decide) ?_
              exact mw_vret C hr hlk Z hP hS dX3_readOne_131 (⟨xAf.bd ((congrFun gA_5 ts).trans (gAt_m2 h16 e48)) w65.1, ((((xPf.rf j σ).rd _ _).tr f47).tr w65.2)⟩)
      · have c13 := (not_congr (nI_ltI (b := 100) (by omega) (by decide))).mp c13
        have hcl : hdC ts ≤ 5 ∨ 100 ≤ hdC ts := by omega
        have hne : hdC ts ≠ 21 := by omega
        refine lv_aload_n C.1 C.2.1 dX3_readOne_32 rfl (lv_at hl 1 rfl) ?_
        refine lv_dup C.1 C.2.1 dX3_readOne_33 rfl ?_
        refine mw_geti C Z hP (33) 1 (by decide) sx_33 rfl rfl (by decide) inX3 tw_1_154 dX3_readOne_34 ?_
        refine mw_top (y := nI a) (h.2.2.2.1) ?_
        refine lv_iconst (v := 1) C.1 C.2.1 dX3_readOne_37 (by decide) ?_
        refine lv_iadd C.1 C.2.1 dX3_readOne_38 ?_
        refine mw_top (y := nI (a + 1)) (nI_1 _) ?_
        refine mw_puti C Z hP hS (33) 1 (by decide) sx_33 rfl rfl (by decide) inX3 tyX3 tyX3_ok nmX3 rfl tw_1_154 rfl rfl dX3_readOne_39 (fun H locs hP hS => ?_)
        have pn69 := h.next hj hne
        have hb70 := pn69.2
        refine lv_aload_n C.1 C.2.1 dX3_readOne_42 rfl (lv_at hl 2 rfl) ?_
        refine lv_iload_n C.1 C.2.1 dX3_readOne_43 rfl (lv_at hl 0 rfl) ?_
        refine mw_cVv (As := [.int (nI (hdC ts))]) (rest := []) C Z hP hS (39 + j) (cX_add l E (mw_si σ 33 1 (nI (a + 1))) j hj cs.length pn69.1.2.2.2.2.2.1.1 (by have y := pn69.1.2.2.2.2.2.2; omega) (nI (hdC ts))) vb_X8_add tw_2_224 ⟨rfl, rfl⟩ ⟨Nat.le_of_ble_eq_true rfl, Nat.le_of_ble_eq_true rfl⟩ (by omega) (sx_tx (by omega)) rfl rfl rfl hl.1 rfl (Nat.le_of_ble_eq_true rfl) dX3_readOne_44 ⟨Nat.zero_le _, Nat.zero_le _⟩ (fun u72 H locs q73 hP hS => ?_)
        have e74 := q73.1 (by have y := pn69.1.2.2.2.2.2.2; omega)
        subst e74
        have po75 := (pn69.1.add hj (hdC ts)).wk (C := B) (by omega)
        refine lv_goto (tgt := 131) C.1 C.2.1 dX3_readOne_47 (by decide) ?_
        exact mw_vret C hr hlk Z hP hS dX3_readOne_131 (⟨xAf.gd ((congrFun gA_5 ts).trans (gAt_a hcl)) po75, (((xPf.rf j σ).rd _ _).ad _ _ _)⟩)
  · exact absurd c4 (by decide)

set_option maxHeartbeats 4000000 in
set_option maxRecDepth 100000 in
theorem cX_l5_0 (l : Launch) (E : mw_E) (σ : mw_M) (T : List (Nat × Nat)) (j : Nat) (hj : j < 6) (a : Nat) (ts : List (Nat × Nat)) (cs : List Nat) (B : Nat) (hB : B ≤ 160) (h : xPo σ T j a ts cs B) : mw_Cv shX 75 gX l yX3_readLevel cX3_readLevel 6 none (rmF 40 1014) E [.ref (mw_a E 33), .ref (mw_a E (39 + j)), .int 5, .int 0] σ (fun u => xAf T j B cs ((gD 5).1 ts) u ∧ xPf j σ u) := by
  refine mw_of (by decide) gX_ok (Nat.le_of_ble_eq_true rfl) ?_
  intro p_ e_ s_ m_ below meth c_ C hr hlk Z hP ls hl
  have C : CallFix p_ m_ c_ cX3_readLevel 6 s_ _ lw_good RX3 := C
  have hl : lv_has ls 6 [(0, .ref (mw_a E 33)), (1, .ref (mw_a E (39 + j))), (2, .int 5), (3, .int 0)] := hl
  have hS : va_S (mw_A 75 E) s_.heap s_.heap [] := va_S.rf
  have hlt : hdC ts < 20000 := by have y := (h.1.lt a).1; rw [h.2.1] at y; exact y
  refine lv_iload_n C.1 C.2.1 dX3_readLevel_0 rfl (lv_at hl 2 rfl) ?_
  refine lv_iconst (v := 4) C.1 C.2.1 dX3_readLevel_1 (by decide) ?_
  refine lv_icmp_le (tgt := 12) C.1 C.2.1 dX3_readLevel_2 (by decide) (fun c1 => ?_) (fun c1 => ?_)
  · exact absurd c1 (by decide)
  · refine lv_aload_n C.1 C.2.1 dX3_readLevel_5 rfl (lv_at hl 0 rfl) ?_
    refine lv_aload_n C.1 C.2.1 dX3_readLevel_6 rfl (lv_at hl 1 rfl) ?_
    refine lv_iload_n C.1 C.2.1 dX3_readLevel_7 rfl (lv_at hl 3 rfl) ?_
    refine mw_cVv (As := [.ref (mw_a E (39 + j)), .int 0]) (rest := []) C Z hP hS (33) (cX_one0 l E σ T j hj a ts cs B (by omega) h) vb_X3_readOne tw_2_220 ⟨rfl, rfl⟩ ⟨Nat.le_of_ble_eq_true rfl, Nat.le_of_ble_eq_true rfl⟩ (by decide) sx_33 rfl rfl rfl hl.1 rfl (Nat.le_of_ble_eq_true rfl) dX3_readLevel_8 ⟨Nat.zero_le _, Nat.zero_le _⟩ (fun u11 H locs q12 hP hS => ?_)
    obtain ⟨hx2, f3⟩ := q12
    rcases e4 : (gD 5).1 ts with ⟨cs5, ts6⟩ | qq9
    · rw [e4] at hx2
      obtain ⟨a7, po8⟩ := hx2
      have po8 : xPo u11 T j a7 ts6 (cs ++ cs5) B := po8
      exact mw_vret C hr hlk Z hP hS dX3_readLevel_11 (⟨xAf.gd rfl po8, ((xPf.rf j σ).tr f3)⟩)
    · rw [e4] at hx2
      have po8 : xPb u11 T j qq9 := hx2
      exact mw_vret C hr hlk Z hP hS dX3_readLevel_11 (⟨xAf.bd rfl po8, ((xPf.rf j σ).tr f3)⟩)

set_option maxHeartbeats 4000000 in
set_option maxRecDepth 100000 in
theorem cX_l4_0 (l : Launch) (E : mw_E) (σ : mw_M) (T : List (Nat × Nat)) (j : Nat) (hj : j < 6) (a : Nat) (ts : List (Nat × Nat)) (cs : List Nat) (B : Nat) (hB : B ≤ 160) (h : xPo σ T j a ts cs B) : mw_Cv shX 75 gX l yX3_readLevel cX3_readLevel 6 none (rmF 41 1039) E [.ref (mw_a E 33), .ref (mw_a E (39 + j)), .int 4, .int 0] σ (fun u => xAf T j B cs ((gLevel gTim (gD 5).1) ts) u ∧ xPf j σ u) := by
  refine mw_of (by decide) gX_ok (Nat.le_of_ble_eq_true rfl) ?_
  intro p_ e_ s_ m_ below meth c_ C hr hlk Z hP ls hl
  have C : CallFix p_ m_ c_ cX3_readLevel 6 s_ _ lw_good RX3 := C
  have hl : lv_has ls 6 [(0, .ref (mw_a E 33)), (1, .ref (mw_a E (39 + j))), (2, .int 4), (3, .int 0)] := hl
  have hS : va_S (mw_A 75 E) s_.heap s_.heap [] := va_S.rf
  have hlt : hdC ts < 20000 := by have y := (h.1.lt a).1; rw [h.2.1] at y; exact y
  refine lv_iload_n C.1 C.2.1 dX3_readLevel_0 rfl (lv_at hl 2 rfl) ?_
  refine lv_iconst (v := 4) C.1 C.2.1 dX3_readLevel_1 (by decide) ?_
  refine lv_icmp_le (tgt := 12) C.1 C.2.1 dX3_readLevel_2 (by decide) (fun c1 => ?_) (fun c1 => ?_)
  · refine lv_iload_n C.1 C.2.1 dX3_readLevel_12 rfl (lv_at hl 2 rfl) ?_
    refine lv_iconst (v := 2) C.1 C.2.1 dX3_readLevel_13 (by decide) ?_
    refine lv_icmp_ne (tgt := 40) C.1 C.2.1 dX3_readLevel_14 (by decide) (fun c2 => ?_) (fun c2 => ?_)
    · refine lv_aload_n C.1 C.2.1 dX3_readLevel_40 rfl (lv_at hl 0 rfl) ?_
      refine lv_aload_n C.1 C.2.1 dX3_readLevel_41 rfl (lv_at hl 1 rfl) ?_
      refine lv_iload_n C.1 C.2.1 dX3_readLevel_42 rfl (lv_at hl 2 rfl) ?_
      refine lv_iconst (v := 1) C.1 C.2.1 dX3_readLevel_43 (by decide) ?_
      refine lv_iadd C.1 C.2.1 dX3_readLevel_44 ?_
      refine mw_top (y := 5) (by decide) ?_
      refine lv_iload_n C.1 C.2.1 dX3_readLevel_45 rfl (lv_at hl 3 rfl) ?_
      refine mw_cVv (As := [.ref (mw_a E (39 + j)), .int 5, .int 0]) (rest := []) C Z hP hS (33) (cX_l5_0 l E σ T j hj a ts cs B (by omega) h) vb_X3_readLevel tw_2_216 ⟨rfl, rfl⟩ ⟨Nat.le_of_ble_eq_true rfl, Nat.le_of_ble_eq_true rfl⟩ (by decide) sx_33 rfl rfl rfl hl.1 rfl (Nat.le_of_ble_eq_true rfl) dX3_readLevel_46 ⟨Nat.zero_le _, Nat.zero_le _⟩ (fun u12 H locs q13 hP hS => ?_)
      obtain ⟨hx3, f4⟩ := q13
      rcases e5 : (gD 5).1 ts with ⟨cs6, ts7⟩ | qq10
      · rw [e5] at hx3
        obtain ⟨a8, po9⟩ := hx3
        have po9 : xPo u12 T j a8 ts7 (cs ++ cs6) B := po9
        refine lv_iconst (v := 0) C.1 C.2.1 dX3_readLevel_49 (by decide) ?_
        refine lv_istore (lv' := [(4, .int 0), (0, .ref (mw_a E 33)), (1, .ref (mw_a E (39 + j))), (2, .int 4), (3, .int 0)]) C.1 C.2.1 dX3_readLevel_50 hl (by decide) rfl (fun ls hl => ?_)
        have lpa : ∀ (N : Nat) (a1 : Nat) (t : Nat) (f : Nat) (ts1 : List (Nat × Nat)) (cs1 : List Nat) (ςa : mw_M) (H : Heap) (locs : List Loc), 161 ≤ t + N → (t ≤ 160) → (ts1.length ≤ f) → (t + ts1.length ≤ 160) → ((gLevel gTim (gD 5).1) ts = gLoop gTim (gD 5).1 f cs1 ts1) → (xPo ςa T j a1 ts1 (cs ++ cs1) B) → xPf j σ ςa → va_P (mw_D E) vwCl (mw_ws shX 75 E ςa) H → va_S (mw_A 75 E) s_.heap H locs → ∀ (ls : Array Slot), lv_has ls 6 [(0, .ref (mw_a E 33)), (1, .ref (mw_a E (39 + j))), (2, .int 4), (3, .int 0), (4, .int (nI t))] → xWv p_ l e_ (rmF 41 1039) s_ m_ [.ref (mw_a E 33), .ref (mw_a E (39 + j)), .int 4, .int 0] below meth c_ E (fun u => xAf T j B cs ((gLevel gTim (gD 5).1) ts) u ∧ xPf j σ u) H locs (F0 m_ 52 ls []) := by
          intro N
          induction N with
          | zero => intros; exfalso; omega
          | succ N iha =>
            intro a1 t f ts1 cs1 ςa H locs hNa ht hf htl hsp hpo fra hP hS ls hl
            refine lv_iload C.1 C.2.1 dX3_readLevel_52 (lv_at hl 4 rfl) ?_
            refine lv_sipush (v := 160) C.1 C.2.1 dX3_readLevel_54 (by decide) ?_
            refine lv_icmp_ge (tgt := 128) C.1 C.2.1 dX3_readLevel_57 (by decide) (fun c14 => ?_) (fun c14 => ?_)
            · have c14 := (nI_leI (a := 160) (by decide) (by omega)).mp c14
              have e0 : ts1 = [] := List.eq_nil_of_length_eq_zero (by omega)
              exact mw_vret C hr hlk Z hP hS dX3_readLevel_128 (⟨xAf.gd (hsp.trans (gLoop_stop (by rw [e0]; decide))) hpo, fra⟩)
            · have c14 := (not_congr (nI_leI (a := 160) (by decide) (by omega))).mp c14
              refine lv_aload_n C.1 C.2.1 dX3_readLevel_60 rfl (lv_at hl 0 rfl) ?_
              refine mw_geti C Z hP (33) 2 (by decide) sx_33 rfl rfl (by decide) inX3 tw_1_155 dX3_readLevel_61 ?_
              refine mw_top (y := -1) (hpo.2.2.2.2.1) ?_
              refine lv_iconst (v := -1) C.1 C.2.1 dX3_readLevel_64 (by decide) ?_
              refine lv_icmp_ne (tgt := 128) C.1 C.2.1 dX3_readLevel_65 (by decide) (fun c15 => ?_) (fun c15 => ?_)
              · exact absurd c15 (by decide)
              · refine lv_aload_n C.1 C.2.1 dX3_readLevel_68 rfl (lv_at hl 0 rfl) ?_
                refine mw_getr C Z hP (33) 0 (34) (by decide) sx_33 rfl rfl (by decide) inX3 tw_1_153 dX3_readLevel_69 ?_
                refine lv_aload_n C.1 C.2.1 dX3_readLevel_72 rfl (lv_at hl 0 rfl) ?_
                refine mw_geti C Z hP (33) 1 (by decide) sx_33 rfl rfl (by decide) inX3 tw_1_154 dX3_readLevel_73 ?_
                refine mw_top (y := nI a1) (hpo.2.2.2.1) ?_
                refine mw_cVi (As := [.int (nI a1)]) (rest := []) C Z hP hS (34) (cX_tokenAt l E ςa T.length hpo.1.2.1 hpo.1.1 a1 (by have y1 := hpo.1.1; have y2 := hpo.2.2.1; omega)) vb_X10_tokenAt tw_2_204 ⟨rfl, rfl⟩ ⟨Nat.le_of_ble_eq_true rfl, Nat.le_of_ble_eq_true rfl⟩ (by decide) sx_34 rfl rfl rfl hl.1 rfl (Nat.le_of_ble_eq_true rfl) dX3_readLevel_76 ⟨Nat.zero_le _, Nat.zero_le _⟩ (fun r16 u17 H locs q18 hP hS => ?_)
                rw [(hpo.1.tok a1).1, hpo.2.1] at q18
                obtain ⟨rfl, q18u⟩ := q18
                rw [q18u] at hP; clear q18u
                refine lv_istore (lv' := [(5, .int (nI (hdC ts1))), (0, .ref (mw_a E 33)), (1, .ref (mw_a E (39 + j))), (2, .int 4), (3, .int 0), (4, .int (nI t))]) C.1 C.2.1 dX3_readLevel_79 hl (by decide) rfl (fun ls hl => ?_)
                refine lv_iload C.1 C.2.1 dX3_readLevel_81 (lv_at hl 0 rfl) ?_
                refine mw_cSi (As := [.int (nI (hdC ts1))]) (rest := []) C Z hP hS (cX_levelOf l E ςa (hdC ts1) (by have y := (hpo.1.lt a1).1; rw [hpo.2.1] at y; omega)) sb_X3_levelOf tw_2_232 ⟨rfl, rfl⟩ ⟨Nat.le_of_ble_eq_true rfl, Nat.le_of_ble_eq_true rfl⟩ rfl hl.1 rfl (Nat.le_of_ble_eq_true rfl) dX3_readLevel_83 ⟨Nat.zero_le _, Nat.zero_le _⟩ (fun r19 u20 H locs q21 hP hS => ?_)
                obtain ⟨rfl, q21u⟩ := q21
                rw [q21u] at hP; clear q21u
                refine lv_iload_n C.1 C.2.1 dX3_readLevel_86 rfl (lv_at hl 3 rfl) ?_
                refine lv_icmp_eq (tgt := 91) C.1 C.2.1 dX3_readLevel_87 (by decide) (fun c22 => ?_) (fun c22 => ?_)
                · have hop := lv_4.mp c22
                  have hne : hdC ts1 ≠ 21 := lv_21 c22 (by decide)
                  obtain ⟨f2, ef, egl⟩ := gLoop_go (x := (gD 5).1) (cs := cs1) hne hop hf
                  refine lv_aload_n C.1 C.2.1 dX3_readLevel_91 rfl (lv_at hl 1 rfl) ?_
                  refine lv_dup C.1 C.2.1 dX3_readLevel_92 rfl ?_
                  refine mw_geti C Z hP (33) 1 (by decide) sx_33 rfl rfl (by decide) inX3 tw_1_154 dX3_readLevel_93 ?_
                  refine mw_top (y := nI a1) (hpo.2.2.2.1) ?_
                  refine lv_iconst (v := 1) C.1 C.2.1 dX3_readLevel_96 (by decide) ?_
                  refine lv_iadd C.1 C.2.1 dX3_readLevel_97 ?_
                  refine mw_top (y := nI (a1 + 1)) (nI_1 _) ?_
                  refine mw_puti C Z hP hS (33) 1 (by decide) sx_33 rfl rfl (by decide) inX3 tyX3 tyX3_ok nmX3 rfl tw_1_154 rfl rfl dX3_readLevel_98 (fun H locs hP hS => ?_)
                  have pn23 := hpo.next hj hne
                  have hb24 := pn23.2
                  refine lv_aload_n C.1 C.2.1 dX3_readLevel_101 rfl (lv_at hl 1 rfl) ?_
                  refine lv_aload_n C.1 C.2.1 dX3_readLevel_102 rfl (lv_at hl 2 rfl) ?_
                  refine lv_iload_n C.1 C.2.1 dX3_readLevel_103 rfl (lv_at hl 3 rfl) ?_
                  refine lv_iconst (v := 1) C.1 C.2.1 dX3_readLevel_104 (by decide) ?_
                  refine lv_iadd C.1 C.2.1 dX3_readLevel_105 ?_
                  refine mw_top (y := 5) (by decide) ?_
                  refine lv_iload_n C.1 C.2.1 dX3_readLevel_106 rfl (lv_at hl 4 rfl) ?_
                  refine mw_cVv (As := [.ref (mw_a E (39 + j)), .int 5, .int 0]) (rest := []) C Z hP hS (33) (cX_l5_0 l E (mw_si ςa 33 1 (nI (a1 + 1))) T j hj (a1 + 1) (ts1.tail) ((cs ++ cs1)) (B - 1) (by omega) pn23.1) vb_X3_readLevel tw_2_216 ⟨rfl, rfl⟩ ⟨Nat.le_of_ble_eq_true rfl, Nat.le_of_ble_eq_true rfl⟩ (by decide) sx_33 rfl rfl rfl hl.1 rfl (Nat.le_of_ble_eq_true rfl) dX3_readLevel_107 ⟨Nat.zero_le _, Nat.zero_le _⟩ (fun u34 H locs q35 hP hS => ?_)
                  obtain ⟨hx25, f26⟩ := q35
                  rcases e27 : (gD 5).1 (ts1.tail) with ⟨cs28, ts29⟩ | qq32
                  · rw [e27] at hx25
                    obtain ⟨a30, po31⟩ := hx25
                    have po31 : xPo u34 T j a30 ts29 ((cs ++ cs1) ++ cs28) (B - 1) := po31
                    refine lv_aload_n C.1 C.2.1 dX3_readLevel_110 rfl (lv_at hl 2 rfl) ?_
                    refine lv_iload C.1 C.2.1 dX3_readLevel_111 (lv_at hl 0 rfl) ?_
                    refine mw_cVv (As := [.int (nI (hdC ts1))]) (rest := []) C Z hP hS (39 + j) (cX_add l E u34 j hj (((cs ++ cs1) ++ cs28)).length po31.2.2.2.2.2.1.1 (by have y := po31.2.2.2.2.2.2; omega) (nI (hdC ts1))) vb_X8_add tw_2_224 ⟨rfl, rfl⟩ ⟨Nat.le_of_ble_eq_true rfl, Nat.le_of_ble_eq_true rfl⟩ (by omega) (sx_tx (by omega)) rfl rfl rfl hl.1 rfl (Nat.le_of_ble_eq_true rfl) dX3_readLevel_113 ⟨Nat.zero_le _, Nat.zero_le _⟩ (fun u37 H locs q38 hP hS => ?_)
                    have e39 := q38.1 (by have y := po31.2.2.2.2.2.2; omega)
                    subst e39
                    have po40 := (po31.add hj (hdC ts1)).wk (C := B) (by omega)
                    refine lv_iload_n C.1 C.2.1 dX3_readLevel_116 rfl (lv_at hl 3 rfl) ?_
                    refine lv_iconst (v := 2) C.1 C.2.1 dX3_readLevel_117 (by decide) ?_
                    refine lv_icmp_ne (tgt := 122) C.1 C.2.1 dX3_readLevel_118 (by decide) (fun c41 => ?_) (fun c41 => ?_)
                    · refine lv_iinc (v := nI (t + 1)) (lv' := [(4, .int (nI (t + 1))), (5, .int (nI (hdC ts1))), (0, .ref (mw_a E 33)), (1, .ref (mw_a E (39 + j))), (2, .int 4), (3, .int 0)]) C.1 C.2.1 dX3_readLevel_122 hl (k := 5) rfl (nI_1 _) (by decide) rfl (fun ls hl => ?_)
                      refine lv_goto (tgt := 52) C.1 C.2.1 dX3_readLevel_125 (by decide) ?_
                      exact iha a30 (t + 1) f2 ts29 (cs1 ++ cs28 ++ [hdC ts1]) (mw_si (mw_sa u34 (45 + j) (((cs ++ cs1) ++ cs28)).length (nI (hdC ts1))) (39 + j) 3 (nI ((((cs ++ cs1) ++ cs28)).length + 1))) _ _ (by omega) (by omega) (by have y1 := ((gD_dec 5).1) _ _ _ e27; have y2 := tail_len hne; omega) (by have y1 := ((gD_dec 5).1) _ _ _ e27; have y2 := tail_len hne; omega) (hsp.trans (egl.trans (by rw [e27]))) ((by rw [← List.append_assoc]; rw [← List.append_assoc]; exact po40)) (((fra.rd _ _).tr f26).ad _ _ _) hP hS ls (lv_sub hl [2, 3, 4, 5, 0] rfl)
                    · exact absurd c41 (by decide)
                  · rw [e27] at hx25
                    have po31 : xPb u34 T j qq32 := hx25
                    refine lv_aload_n C.1 C.2.1 dX3_readLevel_110 rfl (lv_at hl 2 rfl) ?_
                    refine lv_iload C.1 C.2.1 dX3_readLevel_111 (lv_at hl 0 rfl) ?_
                    obtain ⟨k42, hk43, ek44⟩ := po31.2.2.2
                    refine mw_cVv (As := [.int (nI (hdC ts1))]) (rest := []) C Z hP hS (39 + j) (cX_add l E u34 j hj k42 ek44 hk43 (nI (hdC ts1))) vb_X8_add tw_2_224 ⟨rfl, rfl⟩ ⟨Nat.le_of_ble_eq_true rfl, Nat.le_of_ble_eq_true rfl⟩ (by omega) (sx_tx (by omega)) rfl rfl rfl hl.1 rfl (Nat.le_of_ble_eq_true rfl) dX3_readLevel_113 ⟨Nat.zero_le _, Nat.zero_le _⟩ (fun u47 H locs q48 hP hS => ?_)
                    have w45 := xPb.add po31 hj hk43 q48
                    refine lv_iload_n C.1 C.2.1 dX3_readLevel_116 rfl (lv_at hl 3 rfl) ?_
                    refine lv_iconst (v := 2) C.1 C.2.1 dX3_readLevel_117 (by decide) ?_
                    refine lv_icmp_ne (tgt := 122) C.1 C.2.1 dX3_readLevel_118 (by decide) (fun c49 => ?_) (fun c49 => ?_)
                    · refine lv_iinc (v := nI (t + 1)) (lv' := [(4, .int (nI (t + 1))), (5, .int (nI (hdC ts1))), (0, .ref (mw_a E 33)), (1, .ref (mw_a E (39 + j))), (2, .int 4), (3, .int 0)]) C.1 C.2.1 dX3_readLevel_122 hl (k := 5) rfl (nI_1 _) (by decide) rfl (fun ls hl => ?_)
                      refine lv_goto (tgt := 52) C.1 C.2.1 dX3_readLevel_125 (by decide) ?_
                      refine lv_iload C.1 C.2.1 dX3_readLevel_52 (lv_at hl 0 rfl) ?_
                      refine lv_sipush (v := 160) C.1 C.2.1 dX3_readLevel_54 (by decide) ?_
                      refine lv_icmp_ge (tgt := 128) C.1 C.2.1 dX3_readLevel_57 (by decide) (fun c50 => ?_) (fun c50 => ?_)
                      · exact mw_vret C hr hlk Z hP hS dX3_readLevel_128 (⟨xAf.bd (hsp.trans (egl.trans (by rw [e27]))) w45.1, (((fra.rd _ _).tr f26).tr w45.2)⟩)
                      · refine lv_aload_n C.1 C.2.1 dX3_readLevel_60 rfl (lv_at hl 2 rfl) ?_
                        refine mw_geti C Z hP (33) 2 (by decide) sx_33 rfl rfl (by decide) inX3 tw_1_155 dX3_readLevel_61 ?_
                        refine mw_top (y := nI qq32) (w45.1.2.2.1.1) ?_
                        refine lv_iconst (v := -1) C.1 C.2.1 dX3_readLevel_64 (by decide) ?_
                        refine lv_icmp_ne (tgt := 128) C.1 C.2.1 dX3_readLevel_65 (by decide) (fun c51 => ?_) (fun c51 => ?_)
                        · exact mw_vret C hr hlk Z hP hS dX3_readLevel_128 (⟨xAf.bd (hsp.trans (egl.trans (by rw [e27]))) w45.1, (((fra.rd _ _).tr f26).tr w45.2)⟩)
                        · exact absurd c51 (nI_nm1 (by have y := w45.1.2.2.1.2; omega))
                    · exact absurd c49 (by decide)
                · have hnop : ¬ gTim (hdC ts1) = true := fun y => c22 (lv_4.mpr y)
                  exact mw_vret C hr hlk Z hP hS dX3_readLevel_90 (⟨xAf.gd (hsp.trans (gLoop_stop hnop)) hpo, fra⟩)
        exact lpa (161) a8 0 (ts7.length) ts7 cs6 u12 _ _ (by omega) (by omega) (Nat.le_refl _) (by have y := po9.2.2.2.2.2.2; omega) ((gLevel_g e5)) (po9) ((xPf.rf j σ).tr f4) hP hS ls (lv_sub hl [1, 2, 3, 4, 0] rfl)
      · rw [e5] at hx3
        have po9 : xPb u12 T j qq10 := hx3
        refine lv_iconst (v := 0) C.1 C.2.1 dX3_readLevel_49 (by decide) ?_
        refine lv_istore (lv' := [(4, .int 0), (0, .ref (mw_a E 33)), (1, .ref (mw_a E (39 + j))), (2, .int 4), (3, .int 0)]) C.1 C.2.1 dX3_readLevel_50 hl (by decide) rfl (fun ls hl => ?_)
        refine lv_iload C.1 C.2.1 dX3_readLevel_52 (lv_at hl 0 rfl) ?_
        refine lv_sipush (v := 160) C.1 C.2.1 dX3_readLevel_54 (by decide) ?_
        refine lv_icmp_ge (tgt := 128) C.1 C.2.1 dX3_readLevel_57 (by decide) (fun c52 => ?_) (fun c52 => ?_)
        · exact absurd c52 (by decide)
        · refine lv_aload_n C.1 C.2.1 dX3_readLevel_60 rfl (lv_at hl 1 rfl) ?_
          refine mw_geti C Z hP (33) 2 (by decide) sx_33 rfl rfl (by decide) inX3 tw_1_155 dX3_readLevel_61 ?_
          refine mw_top (y := nI qq10) (po9.2.2.1.1) ?_
          refine lv_iconst (v := -1) C.1 C.2.1 dX3_readLevel_64 (by decide) ?_
          refine lv_icmp_ne (tgt := 128) C.1 C.2.1 dX3_readLevel_65 (by decide) (fun c53 => ?_) (fun c53 => ?_)
          · exact mw_vret C hr hlk Z hP hS dX3_readLevel_128 (⟨xAf.bd ((gLevel_b e5)) po9, ((xPf.rf j σ).tr f4)⟩)
          · exact absurd c53 (nI_nm1 (by have y := po9.2.2.1.2; omega))
    · exact absurd c2 (by decide)
  · exact absurd c1 (by decide)

set_option maxHeartbeats 4000000 in
set_option maxRecDepth 100000 in
theorem cX_l3_0 (l : Launch) (E : mw_E) (σ : mw_M) (T : List (Nat × Nat)) (j : Nat) (hj : j < 6) (a : Nat) (ts : List (Nat × Nat)) (cs : List Nat) (B : Nat) (hB : B ≤ 160) (h : xPo σ T j a ts cs B) : mw_Cv shX 75 gX l yX3_readLevel cX3_readLevel 6 none (rmF 42 1064) E [.ref (mw_a E 33), .ref (mw_a E (39 + j)), .int 3, .int 0] σ (fun u => xAf T j B cs ((gLevel gAdd (gLevel gTim (gD 5).1)) ts) u ∧ xPf j σ u) := by
  refine mw_of (by decide) gX_ok (Nat.le_of_ble_eq_true rfl) ?_
  intro p_ e_ s_ m_ below meth c_ C hr hlk Z hP ls hl
  have C : CallFix p_ m_ c_ cX3_readLevel 6 s_ _ lw_good RX3 := C
  have hl : lv_has ls 6 [(0, .ref (mw_a E 33)), (1, .ref (mw_a E (39 + j))), (2, .int 3), (3, .int 0)] := hl
  have hS : va_S (mw_A 75 E) s_.heap s_.heap [] := va_S.rf
  have hlt : hdC ts < 20000 := by have y := (h.1.lt a).1; rw [h.2.1] at y; exact y
  refine lv_iload_n C.1 C.2.1 dX3_readLevel_0 rfl (lv_at hl 2 rfl) ?_
  refine lv_iconst (v := 4) C.1 C.2.1 dX3_readLevel_1 (by decide) ?_
  refine lv_icmp_le (tgt := 12) C.1 C.2.1 dX3_readLevel_2 (by decide) (fun c1 => ?_) (fun c1 => ?_)
  · refine lv_iload_n C.1 C.2.1 dX3_readLevel_12 rfl (lv_at hl 2 rfl) ?_
    refine lv_iconst (v := 2) C.1 C.2.1 dX3_readLevel_13 (by decide) ?_
    refine lv_icmp_ne (tgt := 40) C.1 C.2.1 dX3_readLevel_14 (by decide) (fun c2 => ?_) (fun c2 => ?_)
    · refine lv_aload_n C.1 C.2.1 dX3_readLevel_40 rfl (lv_at hl 0 rfl) ?_
      refine lv_aload_n C.1 C.2.1 dX3_readLevel_41 rfl (lv_at hl 1 rfl) ?_
      refine lv_iload_n C.1 C.2.1 dX3_readLevel_42 rfl (lv_at hl 2 rfl) ?_
      refine lv_iconst (v := 1) C.1 C.2.1 dX3_readLevel_43 (by decide) ?_
      refine lv_iadd C.1 C.2.1 dX3_readLevel_44 ?_
      refine mw_top (y := 4) (by decide) ?_
      refine lv_iload_n C.1 C.2.1 dX3_readLevel_45 rfl (lv_at hl 3 rfl) ?_
      refine mw_cVv (As := [.ref (mw_a E (39 + j)), .int 4, .int 0]) (rest := []) C Z hP hS (33) (cX_l4_0 l E σ T j hj a ts cs B (by omega) h) vb_X3_readLevel tw_2_216 ⟨rfl, rfl⟩ ⟨Nat.le_of_ble_eq_true rfl, Nat.le_of_ble_eq_true rfl⟩ (by decide) sx_33 rfl rfl rfl hl.1 rfl (Nat.le_of_ble_eq_true rfl) dX3_readLevel_46 ⟨Nat.zero_le _, Nat.zero_le _⟩ (fun u12 H locs q13 hP hS => ?_)
      obtain ⟨hx3, f4⟩ := q13
      rcases e5 : (gLevel gTim (gD 5).1) ts with ⟨cs6, ts7⟩ | qq10
      · rw [e5] at hx3
        obtain ⟨a8, po9⟩ := hx3
        have po9 : xPo u12 T j a8 ts7 (cs ++ cs6) B := po9
        refine lv_iconst (v := 0) C.1 C.2.1 dX3_readLevel_49 (by decide) ?_
        refine lv_istore (lv' := [(4, .int 0), (0, .ref (mw_a E 33)), (1, .ref (mw_a E (39 + j))), (2, .int 3), (3, .int 0)]) C.1 C.2.1 dX3_readLevel_50 hl (by decide) rfl (fun ls hl => ?_)
        have lpa : ∀ (N : Nat) (a1 : Nat) (t : Nat) (f : Nat) (ts1 : List (Nat × Nat)) (cs1 : List Nat) (ςa : mw_M) (H : Heap) (locs : List Loc), 161 ≤ t + N → (t ≤ 160) → (ts1.length ≤ f) → (t + ts1.length ≤ 160) → ((gLevel gAdd (gLevel gTim (gD 5).1)) ts = gLoop gAdd (gLevel gTim (gD 5).1) f cs1 ts1) → (xPo ςa T j a1 ts1 (cs ++ cs1) B) → xPf j σ ςa → va_P (mw_D E) vwCl (mw_ws shX 75 E ςa) H → va_S (mw_A 75 E) s_.heap H locs → ∀ (ls : Array Slot), lv_has ls 6 [(0, .ref (mw_a E 33)), (1, .ref (mw_a E (39 + j))), (2, .int 3), (3, .int 0), (4, .int (nI t))] → xWv p_ l e_ (rmF 42 1064) s_ m_ [.ref (mw_a E 33), .ref (mw_a E (39 + j)), .int 3, .int 0] below meth c_ E (fun u => xAf T j B cs ((gLevel gAdd (gLevel gTim (gD 5).1)) ts) u ∧ xPf j σ u) H locs (F0 m_ 52 ls []) := by
          intro N
          induction N with
          | zero => intros; exfalso; omega
          | succ N iha =>
            intro a1 t f ts1 cs1 ςa H locs hNa ht hf htl hsp hpo fra hP hS ls hl
            refine lv_iload C.1 C.2.1 dX3_readLevel_52 (lv_at hl 4 rfl) ?_
            refine lv_sipush (v := 160) C.1 C.2.1 dX3_readLevel_54 (by decide) ?_
            refine lv_icmp_ge (tgt := 128) C.1 C.2.1 dX3_readLevel_57 (by decide) (fun c14 => ?_) (fun c14 => ?_)
            · have c14 := (nI_leI (a := 160) (by decide) (by omega)).mp c14
              have e0 : ts1 = [] := List.eq_nil_of_length_eq_zero (by omega)
              exact mw_vret C hr hlk Z hP hS dX3_readLevel_128 (⟨xAf.gd (hsp.trans (gLoop_stop (by rw [e0]; decide))) hpo, fra⟩)
            · have c14 := (not_congr (nI_leI (a := 160) (by decide) (by omega))).mp c14
              refine lv_aload_n C.1 C.2.1 dX3_readLevel_60 rfl (lv_at hl 0 rfl) ?_
              refine mw_geti C Z hP (33) 2 (by decide) sx_33 rfl rfl (by decide) inX3 tw_1_155 dX3_readLevel_61 ?_
              refine mw_top (y := -1) (hpo.2.2.2.2.1) ?_
              refine lv_iconst (v := -1) C.1 C.2.1 dX3_readLevel_64 (by decide) ?_
              refine lv_icmp_ne (tgt := 128) C.1 C.2.1 dX3_readLevel_65 (by decide) (fun c15 => ?_) (fun c15 => ?_)
              · exact absurd c15 (by decide)
              · refine lv_aload_n C.1 C.2.1 dX3_readLevel_68 rfl (lv_at hl 0 rfl) ?_
                refine mw_getr C Z hP (33) 0 (34) (by decide) sx_33 rfl rfl (by decide) inX3 tw_1_153 dX3_readLevel_69 ?_
                refine lv_aload_n C.1 C.2.1 dX3_readLevel_72 rfl (lv_at hl 0 rfl) ?_
                refine mw_geti C Z hP (33) 1 (by decide) sx_33 rfl rfl (by decide) inX3 tw_1_154 dX3_readLevel_73 ?_
                refine mw_top (y := nI a1) (hpo.2.2.2.1) ?_
                refine mw_cVi (As := [.int (nI a1)]) (rest := []) C Z hP hS (34) (cX_tokenAt l E ςa T.length hpo.1.2.1 hpo.1.1 a1 (by have y1 := hpo.1.1; have y2 := hpo.2.2.1; omega)) vb_X10_tokenAt tw_2_204 ⟨rfl, rfl⟩ ⟨Nat.le_of_ble_eq_true rfl, Nat.le_of_ble_eq_true rfl⟩ (by decide) sx_34 rfl rfl rfl hl.1 rfl (Nat.le_of_ble_eq_true rfl) dX3_readLevel_76 ⟨Nat.zero_le _, Nat.zero_le _⟩ (fun r16 u17 H locs q18 hP hS => ?_)
                rw [(hpo.1.tok a1).1, hpo.2.1] at q18
                obtain ⟨rfl, q18u⟩ := q18
                rw [q18u] at hP; clear q18u
                refine lv_istore (lv' := [(5, .int (nI (hdC ts1))), (0, .ref (mw_a E 33)), (1, .ref (mw_a E (39 + j))), (2, .int 3), (3, .int 0), (4, .int (nI t))]) C.1 C.2.1 dX3_readLevel_79 hl (by decide) rfl (fun ls hl => ?_)
                refine lv_iload C.1 C.2.1 dX3_readLevel_81 (lv_at hl 0 rfl) ?_
                refine mw_cSi (As := [.int (nI (hdC ts1))]) (rest := []) C Z hP hS (cX_levelOf l E ςa (hdC ts1) (by have y := (hpo.1.lt a1).1; rw [hpo.2.1] at y; omega)) sb_X3_levelOf tw_2_232 ⟨rfl, rfl⟩ ⟨Nat.le_of_ble_eq_true rfl, Nat.le_of_ble_eq_true rfl⟩ rfl hl.1 rfl (Nat.le_of_ble_eq_true rfl) dX3_readLevel_83 ⟨Nat.zero_le _, Nat.zero_le _⟩ (fun r19 u20 H locs q21 hP hS => ?_)
                obtain ⟨rfl, q21u⟩ := q21
                rw [q21u] at hP; clear q21u
                refine lv_iload_n C.1 C.2.1 dX3_readLevel_86 rfl (lv_at hl 3 rfl) ?_
                refine lv_icmp_eq (tgt := 91) C.1 C.2.1 dX3_readLevel_87 (by decide) (fun c22 => ?_) (fun c22 => ?_)
                · have hop := lv_3.mp c22
                  have hne : hdC ts1 ≠ 21 := lv_21 c22 (by decide)
                  obtain ⟨f2, ef, egl⟩ := gLoop_go (x := (gLevel gTim (gD 5).1)) (cs := cs1) hne hop hf
                  refine lv_aload_n C.1 C.2.1 dX3_readLevel_91 rfl (lv_at hl 1 rfl) ?_
                  refine lv_dup C.1 C.2.1 dX3_readLevel_92 rfl ?_
                  refine mw_geti C Z hP (33) 1 (by decide) sx_33 rfl rfl (by decide) inX3 tw_1_154 dX3_readLevel_93 ?_
                  refine mw_top (y := nI a1) (hpo.2.2.2.1) ?_
                  refine lv_iconst (v := 1) C.1 C.2.1 dX3_readLevel_96 (by decide) ?_
                  refine lv_iadd C.1 C.2.1 dX3_readLevel_97 ?_
                  refine mw_top (y := nI (a1 + 1)) (nI_1 _) ?_
                  refine mw_puti C Z hP hS (33) 1 (by decide) sx_33 rfl rfl (by decide) inX3 tyX3 tyX3_ok nmX3 rfl tw_1_154 rfl rfl dX3_readLevel_98 (fun H locs hP hS => ?_)
                  have pn23 := hpo.next hj hne
                  have hb24 := pn23.2
                  refine lv_aload_n C.1 C.2.1 dX3_readLevel_101 rfl (lv_at hl 1 rfl) ?_
                  refine lv_aload_n C.1 C.2.1 dX3_readLevel_102 rfl (lv_at hl 2 rfl) ?_
                  refine lv_iload_n C.1 C.2.1 dX3_readLevel_103 rfl (lv_at hl 3 rfl) ?_
                  refine lv_iconst (v := 1) C.1 C.2.1 dX3_readLevel_104 (by decide) ?_
                  refine lv_iadd C.1 C.2.1 dX3_readLevel_105 ?_
                  refine mw_top (y := 4) (by decide) ?_
                  refine lv_iload_n C.1 C.2.1 dX3_readLevel_106 rfl (lv_at hl 4 rfl) ?_
                  refine mw_cVv (As := [.ref (mw_a E (39 + j)), .int 4, .int 0]) (rest := []) C Z hP hS (33) (cX_l4_0 l E (mw_si ςa 33 1 (nI (a1 + 1))) T j hj (a1 + 1) (ts1.tail) ((cs ++ cs1)) (B - 1) (by omega) pn23.1) vb_X3_readLevel tw_2_216 ⟨rfl, rfl⟩ ⟨Nat.le_of_ble_eq_true rfl, Nat.le_of_ble_eq_true rfl⟩ (by decide) sx_33 rfl rfl rfl hl.1 rfl (Nat.le_of_ble_eq_true rfl) dX3_readLevel_107 ⟨Nat.zero_le _, Nat.zero_le _⟩ (fun u34 H locs q35 hP hS => ?_)
                  obtain ⟨hx25, f26⟩ := q35
                  rcases e27 : (gLevel gTim (gD 5).1) (ts1.tail) with ⟨cs28, ts29⟩ | qq32
                  · rw [e27] at hx25
                    obtain ⟨a30, po31⟩ := hx25
                    have po31 : xPo u34 T j a30 ts29 ((cs ++ cs1) ++ cs28) (B - 1) := po31
                    refine lv_aload_n C.1 C.2.1 dX3_readLevel_110 rfl (lv_at hl 2 rfl) ?_
                    refine lv_iload C.1 C.2.1 dX3_readLevel_111 (lv_at hl 0 rfl) ?_
                    refine mw_cVv (As := [.int (nI (hdC ts1))]) (rest := []) C Z hP hS (39 + j) (cX_add l E u34 j hj (((cs ++ cs1) ++ cs28)).length po31.2.2.2.2.2.1.1 (by have y := po31.2.2.2.2.2.2; omega) (nI (hdC ts1))) vb_X8_add tw_2_224 ⟨rfl, rfl⟩ ⟨Nat.le_of_ble_eq_true rfl, Nat.le_of_ble_eq_true rfl⟩ (by omega) (sx_tx (by omega)) rfl rfl rfl hl.1 rfl (Nat.le_of_ble_eq_true rfl) dX3_readLevel_113 ⟨Nat.zero_le _, Nat.zero_le _⟩ (fun u37 H locs q38 hP hS => ?_)
                    have e39 := q38.1 (by have y := po31.2.2.2.2.2.2; omega)
                    subst e39
                    have po40 := (po31.add hj (hdC ts1)).wk (C := B) (by omega)
                    refine lv_iload_n C.1 C.2.1 dX3_readLevel_116 rfl (lv_at hl 3 rfl) ?_
                    refine lv_iconst (v := 2) C.1 C.2.1 dX3_readLevel_117 (by decide) ?_
                    refine lv_icmp_ne (tgt := 122) C.1 C.2.1 dX3_readLevel_118 (by decide) (fun c41 => ?_) (fun c41 => ?_)
                    · refine lv_iinc (v := nI (t + 1)) (lv' := [(4, .int (nI (t + 1))), (5, .int (nI (hdC ts1))), (0, .ref (mw_a E 33)), (1, .ref (mw_a E (39 + j))), (2, .int 3), (3, .int 0)]) C.1 C.2.1 dX3_readLevel_122 hl (k := 5) rfl (nI_1 _) (by decide) rfl (fun ls hl => ?_)
                      refine lv_goto (tgt := 52) C.1 C.2.1 dX3_readLevel_125 (by decide) ?_
                      exact iha a30 (t + 1) f2 ts29 (cs1 ++ cs28 ++ [hdC ts1]) (mw_si (mw_sa u34 (45 + j) (((cs ++ cs1) ++ cs28)).length (nI (hdC ts1))) (39 + j) 3 (nI ((((cs ++ cs1) ++ cs28)).length + 1))) _ _ (by omega) (by omega) (by have y1 := (gLevel_dec (gD_dec 5).1) _ _ _ e27; have y2 := tail_len hne; omega) (by have y1 := (gLevel_dec (gD_dec 5).1) _ _ _ e27; have y2 := tail_len hne; omega) (hsp.trans (egl.trans (by rw [e27]))) ((by rw [← List.append_assoc]; rw [← List.append_assoc]; exact po40)) (((fra.rd _ _).tr f26).ad _ _ _) hP hS ls (lv_sub hl [2, 3, 4, 5, 0] rfl)
                    · exact absurd c41 (by decide)
                  · rw [e27] at hx25
                    have po31 : xPb u34 T j qq32 := hx25
                    refine lv_aload_n C.1 C.2.1 dX3_readLevel_110 rfl (lv_at hl 2 rfl) ?_
                    refine lv_iload C.1 C.2.1 dX3_readLevel_111 (lv_at hl 0 rfl) ?_
                    obtain ⟨k42, hk43, ek44⟩ := po31.2.2.2
                    refine mw_cVv (As := [.int (nI (hdC ts1))]) (rest := []) C Z hP hS (39 + j) (cX_add l E u34 j hj k42 ek44 hk43 (nI (hdC ts1))) vb_X8_add tw_2_224 ⟨rfl, rfl⟩ ⟨Nat.le_of_ble_eq_true rfl, Nat.le_of_ble_eq_true rfl⟩ (by omega) (sx_tx (by omega)) rfl rfl rfl hl.1 rfl (Nat.le_of_ble_eq_true rfl) dX3_readLevel_113 ⟨Nat.zero_le _, Nat.zero_le _⟩ (fun u47 H locs q48 hP hS => ?_)
                    have w45 := xPb.add po31 hj hk43 q48
                    refine lv_iload_n C.1 C.2.1 dX3_readLevel_116 rfl (lv_at hl 3 rfl) ?_
                    refine lv_iconst (v := 2) C.1 C.2.1 dX3_readLevel_117 (by decide) ?_
                    refine lv_icmp_ne (tgt := 122) C.1 C.2.1 dX3_readLevel_118 (by decide) (fun c49 => ?_) (fun c49 => ?_)
                    · refine lv_iinc (v := nI (t + 1)) (lv' := [(4, .int (nI (t + 1))), (5, .int (nI (hdC ts1))), (0, .ref (mw_a E 33)), (1, .ref (mw_a E (39 + j))), (2, .int 3), (3, .int 0)]) C.1 C.2.1 dX3_readLevel_122 hl (k := 5) rfl (nI_1 _) (by decide) rfl (fun ls hl => ?_)
                      refine lv_goto (tgt := 52) C.1 C.2.1 dX3_readLevel_125 (by decide) ?_
                      refine lv_iload C.1 C.2.1 dX3_readLevel_52 (lv_at hl 0 rfl) ?_
                      refine lv_sipush (v := 160) C.1 C.2.1 dX3_readLevel_54 (by decide) ?_
                      refine lv_icmp_ge (tgt := 128) C.1 C.2.1 dX3_readLevel_57 (by decide) (fun c50 => ?_) (fun c50 => ?_)
                      · exact mw_vret C hr hlk Z hP hS dX3_readLevel_128 (⟨xAf.bd (hsp.trans (egl.trans (by rw [e27]))) w45.1, (((fra.rd _ _).tr f26).tr w45.2)⟩)
                      · refine lv_aload_n C.1 C.2.1 dX3_readLevel_60 rfl (lv_at hl 2 rfl) ?_
                        refine mw_geti C Z hP (33) 2 (by decide) sx_33 rfl rfl (by decide) inX3 tw_1_155 dX3_readLevel_61 ?_
                        refine mw_top (y := nI qq32) (w45.1.2.2.1.1) ?_
                        refine lv_iconst (v := -1) C.1 C.2.1 dX3_readLevel_64 (by decide) ?_
                        refine lv_icmp_ne (tgt := 128) C.1 C.2.1 dX3_readLevel_65 (by decide) (fun c51 => ?_) (fun c51 => ?_)
                        · exact mw_vret C hr hlk Z hP hS dX3_readLevel_128 (⟨xAf.bd (hsp.trans (egl.trans (by rw [e27]))) w45.1, (((fra.rd _ _).tr f26).tr w45.2)⟩)
                        · exact absurd c51 (nI_nm1 (by have y := w45.1.2.2.1.2; omega))
                    · exact absurd c49 (by decide)
                · have hnop : ¬ gAdd (hdC ts1) = true := fun y => c22 (lv_3.mpr y)
                  exact mw_vret C hr hlk Z hP hS dX3_readLevel_90 (⟨xAf.gd (hsp.trans (gLoop_stop hnop)) hpo, fra⟩)
        exact lpa (161) a8 0 (ts7.length) ts7 cs6 u12 _ _ (by omega) (by omega) (Nat.le_refl _) (by have y := po9.2.2.2.2.2.2; omega) ((gLevel_g e5)) (po9) ((xPf.rf j σ).tr f4) hP hS ls (lv_sub hl [1, 2, 3, 4, 0] rfl)
      · rw [e5] at hx3
        have po9 : xPb u12 T j qq10 := hx3
        refine lv_iconst (v := 0) C.1 C.2.1 dX3_readLevel_49 (by decide) ?_
        refine lv_istore (lv' := [(4, .int 0), (0, .ref (mw_a E 33)), (1, .ref (mw_a E (39 + j))), (2, .int 3), (3, .int 0)]) C.1 C.2.1 dX3_readLevel_50 hl (by decide) rfl (fun ls hl => ?_)
        refine lv_iload C.1 C.2.1 dX3_readLevel_52 (lv_at hl 0 rfl) ?_
        refine lv_sipush (v := 160) C.1 C.2.1 dX3_readLevel_54 (by decide) ?_
        refine lv_icmp_ge (tgt := 128) C.1 C.2.1 dX3_readLevel_57 (by decide) (fun c52 => ?_) (fun c52 => ?_)
        · exact absurd c52 (by decide)
        · refine lv_aload_n C.1 C.2.1 dX3_readLevel_60 rfl (lv_at hl 1 rfl) ?_
          refine mw_geti C Z hP (33) 2 (by decide) sx_33 rfl rfl (by decide) inX3 tw_1_155 dX3_readLevel_61 ?_
          refine mw_top (y := nI qq10) (po9.2.2.1.1) ?_
          refine lv_iconst (v := -1) C.1 C.2.1 dX3_readLevel_64 (by decide) ?_
          refine lv_icmp_ne (tgt := 128) C.1 C.2.1 dX3_readLevel_65 (by decide) (fun c53 => ?_) (fun c53 => ?_)
          · exact mw_vret C hr hlk Z hP hS dX3_readLevel_128 (⟨xAf.bd ((gLevel_b e5)) po9, ((xPf.rf j σ).tr f4)⟩)
          · exact absurd c53 (nI_nm1 (by have y := po9.2.2.1.2; omega))
    · exact absurd c2 (by decide)
  · exact absurd c1 (by decide)

set_option maxHeartbeats 4000000 in
set_option maxRecDepth 100000 in
theorem cX_not0 (l : Launch) (E : mw_E) (σ : mw_M) (T : List (Nat × Nat)) (j : Nat) (hj : j < 6) (a : Nat) (ts : List (Nat × Nat)) (cs : List Nat) (B : Nat) (hB : B ≤ 160) (h : xPo σ T j a ts cs B) (h11 : hdC ts = 11) : mw_Cv shX 75 gX l yX3_readNot cX3_readNot 3 none (rmF 37 941) E [.ref (mw_a E 33), .ref (mw_a E (39 + j)), .int 0] σ (fun u => xAf T j B cs ((gD 5).2.1 ts) u ∧ xPf j σ u) := by
  refine mw_of (by decide) gX_ok (Nat.le_of_ble_eq_true rfl) ?_
  intro p_ e_ s_ m_ below meth c_ C hr hlk Z hP ls hl
  have C : CallFix p_ m_ c_ cX3_readNot 3 s_ _ lw_good RX3 := C
  have hl : lv_has ls 3 [(0, .ref (mw_a E 33)), (1, .ref (mw_a E (39 + j))), (2, .int 0)] := hl
  have hS : va_S (mw_A 75 E) s_.heap s_.heap [] := va_S.rf
  have hlt : hdC ts < 20000 := by have y := (h.1.lt a).1; rw [h.2.1] at y; exact y
  have hne : hdC ts ≠ 21 := by omega
  refine lv_aload_n C.1 C.2.1 dX3_readNot_0 rfl (lv_at hl 0 rfl) ?_
  refine mw_geti C Z hP (33) 2 (by decide) sx_33 rfl rfl (by decide) inX3 tw_1_155 dX3_readNot_1 ?_
  refine mw_top (y := -1) (h.2.2.2.2.1) ?_
  refine lv_iconst (v := -1) C.1 C.2.1 dX3_readNot_4 (by decide) ?_
  refine lv_icmp_ne (tgt := 13) C.1 C.2.1 dX3_readNot_5 (by decide) (fun c1 => ?_) (fun c1 => ?_)
  · exact absurd c1 (by decide)
  · refine lv_iload_n C.1 C.2.1 dX3_readNot_8 rfl (lv_at hl 2 rfl) ?_
    refine lv_iconst (v := 5) C.1 C.2.1 dX3_readNot_9 (by decide) ?_
    refine lv_icmp_lt (tgt := 18) C.1 C.2.1 dX3_readNot_10 (by decide) (fun c2 => ?_) (fun c2 => ?_)
    · refine lv_aload_n C.1 C.2.1 dX3_readNot_18 rfl (lv_at hl 0 rfl) ?_
      refine lv_dup C.1 C.2.1 dX3_readNot_19 rfl ?_
      refine mw_geti C Z hP (33) 1 (by decide) sx_33 rfl rfl (by decide) inX3 tw_1_154 dX3_readNot_20 ?_
      refine mw_top (y := nI a) (h.2.2.2.1) ?_
      refine lv_iconst (v := 1) C.1 C.2.1 dX3_readNot_23 (by decide) ?_
      refine lv_iadd C.1 C.2.1 dX3_readNot_24 ?_
      refine mw_top (y := nI (a + 1)) (nI_1 _) ?_
      refine mw_puti C Z hP hS (33) 1 (by decide) sx_33 rfl rfl (by decide) inX3 tyX3 tyX3_ok nmX3 rfl tw_1_154 rfl rfl dX3_readNot_25 (fun H locs hP hS => ?_)
      have pn3 := h.next hj hne
      have hb4 := pn3.2
      refine lv_aload_n C.1 C.2.1 dX3_readNot_28 rfl (lv_at hl 0 rfl) ?_
      refine lv_aload_n C.1 C.2.1 dX3_readNot_29 rfl (lv_at hl 1 rfl) ?_
      refine lv_iconst (v := 2) C.1 C.2.1 dX3_readNot_30 (by decide) ?_
      refine lv_iload_n C.1 C.2.1 dX3_readNot_31 rfl (lv_at hl 2 rfl) ?_
      refine lv_iconst (v := 1) C.1 C.2.1 dX3_readNot_32 (by decide) ?_
      refine lv_iadd C.1 C.2.1 dX3_readNot_33 ?_
      refine mw_top (y := 1) (by decide) ?_
      refine mw_cVv (As := [.ref (mw_a E (39 + j)), .int 2, .int 1]) (rest := []) C Z hP hS (33) (cX_l2_1 l E (mw_si σ 33 1 (nI (a + 1))) T j hj (a + 1) (ts.tail) cs (B - 1) (by omega) pn3.1) vb_X3_readLevel tw_2_216 ⟨rfl, rfl⟩ ⟨Nat.le_of_ble_eq_true rfl, Nat.le_of_ble_eq_true rfl⟩ (by decide) sx_33 rfl rfl rfl hl.1 rfl (Nat.le_of_ble_eq_true rfl) dX3_readNot_34 ⟨Nat.zero_le _, Nat.zero_le _⟩ (fun u14 H locs q15 hP hS => ?_)
      obtain ⟨hx5, f6⟩ := q15
      rcases e7 : (gD 4).2.1 (ts.tail) with ⟨cs8, ts9⟩ | qq12
      · rw [e7] at hx5
        obtain ⟨a10, po11⟩ := hx5
        have po11 : xPo u14 T j a10 ts9 (cs ++ cs8) (B - 1) := po11
        refine lv_aload_n C.1 C.2.1 dX3_readNot_37 rfl (lv_at hl 1 rfl) ?_
        refine lv_bipush (v := 11) C.1 C.2.1 dX3_readNot_38 (by decide) ?_
        refine mw_top (y := nI 11) (rfl) ?_
        refine mw_cVv (As := [.int (nI 11)]) (rest := []) C Z hP hS (39 + j) (cX_add l E u14 j hj ((cs ++ cs8)).length po11.2.2.2.2.2.1.1 (by have y := po11.2.2.2.2.2.2; omega) (nI 11)) vb_X8_add tw_2_224 ⟨rfl, rfl⟩ ⟨Nat.le_of_ble_eq_true rfl, Nat.le_of_ble_eq_true rfl⟩ (by omega) (sx_tx (by omega)) rfl rfl rfl hl.1 rfl (Nat.le_of_ble_eq_true rfl) dX3_readNot_40 ⟨Nat.zero_le _, Nat.zero_le _⟩ (fun u17 H locs q18 hP hS => ?_)
        have e19 := q18.1 (by have y := po11.2.2.2.2.2.2; omega)
        subst e19
        have po20 := (po11.add hj 11).wk (C := B) (by omega)
        exact mw_vret C hr hlk Z hP hS dX3_readNot_43 (⟨xAf.gd ((congrFun gN_5 ts).trans (gNot_t1 h11 e7)) (by rw [← List.append_assoc]; exact po20), ((((xPf.rf j σ).rd _ _).tr f6).ad _ _ _)⟩)
      · rw [e7] at hx5
        have po11 : xPb u14 T j qq12 := hx5
        refine lv_aload_n C.1 C.2.1 dX3_readNot_37 rfl (lv_at hl 1 rfl) ?_
        refine lv_bipush (v := 11) C.1 C.2.1 dX3_readNot_38 (by decide) ?_
        refine mw_top (y := nI 11) (rfl) ?_
        obtain ⟨k21, hk22, ek23⟩ := po11.2.2.2
        refine mw_cVv (As := [.int (nI 11)]) (rest := []) C Z hP hS (39 + j) (cX_add l E u14 j hj k21 ek23 hk22 (nI 11)) vb_X8_add tw_2_224 ⟨rfl, rfl⟩ ⟨Nat.le_of_ble_eq_true rfl, Nat.le_of_ble_eq_true rfl⟩ (by omega) (sx_tx (by omega)) rfl rfl rfl hl.1 rfl (Nat.le_of_ble_eq_true rfl) dX3_readNot_40 ⟨Nat.zero_le _, Nat.zero_le _⟩ (fun u26 H locs q27 hP hS => ?_)
        have w24 := xPb.add po11 hj hk22 q27
        exact mw_vret C hr hlk Z hP hS dX3_readNot_43 (⟨xAf.bd ((congrFun gN_5 ts).trans (gNot_t2 h11 e7)) w24.1, ((((xPf.rf j σ).rd _ _).tr f6).tr w24.2)⟩)
    · exact absurd c2 (by decide)

set_option maxHeartbeats 4000000 in
set_option maxRecDepth 100000 in
theorem cX_l2_0 (l : Launch) (E : mw_E) (σ : mw_M) (T : List (Nat × Nat)) (j : Nat) (hj : j < 6) (a : Nat) (ts : List (Nat × Nat)) (cs : List Nat) (B : Nat) (hB : B ≤ 160) (h : xPo σ T j a ts cs B) : mw_Cv shX 75 gX l yX3_readLevel cX3_readLevel 6 none (rmF 43 1089) E [.ref (mw_a E 33), .ref (mw_a E (39 + j)), .int 2, .int 0] σ (fun u => xAf T j B cs ((gD 5).2.1 ts) u ∧ xPf j σ u) := by
  refine mw_of (by decide) gX_ok (Nat.le_of_ble_eq_true rfl) ?_
  intro p_ e_ s_ m_ below meth c_ C hr hlk Z hP ls hl
  have C : CallFix p_ m_ c_ cX3_readLevel 6 s_ _ lw_good RX3 := C
  have hl : lv_has ls 6 [(0, .ref (mw_a E 33)), (1, .ref (mw_a E (39 + j))), (2, .int 2), (3, .int 0)] := hl
  have hS : va_S (mw_A 75 E) s_.heap s_.heap [] := va_S.rf
  have hlt : hdC ts < 20000 := by have y := (h.1.lt a).1; rw [h.2.1] at y; exact y
  refine lv_iload_n C.1 C.2.1 dX3_readLevel_0 rfl (lv_at hl 2 rfl) ?_
  refine lv_iconst (v := 4) C.1 C.2.1 dX3_readLevel_1 (by decide) ?_
  refine lv_icmp_le (tgt := 12) C.1 C.2.1 dX3_readLevel_2 (by decide) (fun c1 => ?_) (fun c1 => ?_)
  · refine lv_iload_n C.1 C.2.1 dX3_readLevel_12 rfl (lv_at hl 2 rfl) ?_
    refine lv_iconst (v := 2) C.1 C.2.1 dX3_readLevel_13 (by decide) ?_
    refine lv_icmp_ne (tgt := 40) C.1 C.2.1 dX3_readLevel_14 (by decide) (fun c2 => ?_) (fun c2 => ?_)
    · exact absurd c2 (by decide)
    · refine lv_aload_n C.1 C.2.1 dX3_readLevel_17 rfl (lv_at hl 0 rfl) ?_
      refine mw_getr C Z hP (33) 0 (34) (by decide) sx_33 rfl rfl (by decide) inX3 tw_1_153 dX3_readLevel_18 ?_
      refine lv_aload_n C.1 C.2.1 dX3_readLevel_21 rfl (lv_at hl 0 rfl) ?_
      refine mw_geti C Z hP (33) 1 (by decide) sx_33 rfl rfl (by decide) inX3 tw_1_154 dX3_readLevel_22 ?_
      refine mw_top (y := nI a) (h.2.2.2.1) ?_
      refine mw_cVi (As := [.int (nI a)]) (rest := []) C Z hP hS (34) (cX_tokenAt l E σ T.length h.1.2.1 h.1.1 a (by have y1 := h.1.1; have y2 := h.2.2.1; omega)) vb_X10_tokenAt tw_2_204 ⟨rfl, rfl⟩ ⟨Nat.le_of_ble_eq_true rfl, Nat.le_of_ble_eq_true rfl⟩ (by decide) sx_34 rfl rfl rfl hl.1 rfl (Nat.le_of_ble_eq_true rfl) dX3_readLevel_25 ⟨Nat.zero_le _, Nat.zero_le _⟩ (fun r3 u4 H locs q5 hP hS => ?_)
      rw [(h.1.tok a).1, h.2.1] at q5
      obtain ⟨rfl, q5u⟩ := q5
      rw [q5u] at hP; clear q5u
      refine lv_bipush (v := 11) C.1 C.2.1 dX3_readLevel_28 (by decide) ?_
      refine lv_icmp_ne (tgt := 40) C.1 C.2.1 dX3_readLevel_30 (by decide) (fun c6 => ?_) (fun c6 => ?_)
      · have hn11 : ¬ hdC ts = 11 := fun y => c6 (by rw [y]; rfl)
        refine lv_aload_n C.1 C.2.1 dX3_readLevel_40 rfl (lv_at hl 0 rfl) ?_
        refine lv_aload_n C.1 C.2.1 dX3_readLevel_41 rfl (lv_at hl 1 rfl) ?_
        refine lv_iload_n C.1 C.2.1 dX3_readLevel_42 rfl (lv_at hl 2 rfl) ?_
        refine lv_iconst (v := 1) C.1 C.2.1 dX3_readLevel_43 (by decide) ?_
        refine lv_iadd C.1 C.2.1 dX3_readLevel_44 ?_
        refine mw_top (y := 3) (by decide) ?_
        refine lv_iload_n C.1 C.2.1 dX3_readLevel_45 rfl (lv_at hl 3 rfl) ?_
        refine mw_cVv (As := [.ref (mw_a E (39 + j)), .int 3, .int 0]) (rest := []) C Z hP hS (33) (cX_l3_0 l E σ T j hj a ts cs B (by omega) h) vb_X3_readLevel tw_2_216 ⟨rfl, rfl⟩ ⟨Nat.le_of_ble_eq_true rfl, Nat.le_of_ble_eq_true rfl⟩ (by decide) sx_33 rfl rfl rfl hl.1 rfl (Nat.le_of_ble_eq_true rfl) dX3_readLevel_46 ⟨Nat.zero_le _, Nat.zero_le _⟩ (fun u16 H locs q17 hP hS => ?_)
        obtain ⟨hx7, f8⟩ := q17
        rcases e9 : (gLevel gAdd (gLevel gTim (gD 5).1)) ts with ⟨cs10, ts11⟩ | qq14
        · rw [e9] at hx7
          obtain ⟨a12, po13⟩ := hx7
          have po13 : xPo u16 T j a12 ts11 (cs ++ cs10) B := po13
          refine lv_iconst (v := 0) C.1 C.2.1 dX3_readLevel_49 (by decide) ?_
          refine lv_istore (lv' := [(4, .int 0), (0, .ref (mw_a E 33)), (1, .ref (mw_a E (39 + j))), (2, .int 2), (3, .int 0)]) C.1 C.2.1 dX3_readLevel_50 hl (by decide) rfl (fun ls hl => ?_)
          refine lv_iload C.1 C.2.1 dX3_readLevel_52 (lv_at hl 0 rfl) ?_
          refine lv_sipush (v := 160) C.1 C.2.1 dX3_readLevel_54 (by decide) ?_
          refine lv_icmp_ge (tgt := 128) C.1 C.2.1 dX3_readLevel_57 (by decide) (fun c18 => ?_) (fun c18 => ?_)
          · exact absurd c18 (by decide)
          · refine lv_aload_n C.1 C.2.1 dX3_readLevel_60 rfl (lv_at hl 1 rfl) ?_
            refine mw_geti C Z hP (33) 2 (by decide) sx_33 rfl rfl (by decide) inX3 tw_1_155 dX3_readLevel_61 ?_
            refine mw_top (y := -1) (po13.2.2.2.2.1) ?_
            refine lv_iconst (v := -1) C.1 C.2.1 dX3_readLevel_64 (by decide) ?_
            refine lv_icmp_ne (tgt := 128) C.1 C.2.1 dX3_readLevel_65 (by decide) (fun c19 => ?_) (fun c19 => ?_)
            · exact absurd c19 (by decide)
            · refine lv_aload_n C.1 C.2.1 dX3_readLevel_68 rfl (lv_at hl 1 rfl) ?_
              refine mw_getr C Z hP (33) 0 (34) (by decide) sx_33 rfl rfl (by decide) inX3 tw_1_153 dX3_readLevel_69 ?_
              refine lv_aload_n C.1 C.2.1 dX3_readLevel_72 rfl (lv_at hl 1 rfl) ?_
              refine mw_geti C Z hP (33) 1 (by decide) sx_33 rfl rfl (by decide) inX3 tw_1_154 dX3_readLevel_73 ?_
              refine mw_top (y := nI a12) (po13.2.2.2.1) ?_
              refine mw_cVi (As := [.int (nI a12)]) (rest := []) C Z hP hS (34) (cX_tokenAt l E u16 T.length po13.1.2.1 po13.1.1 a12 (by have y1 := po13.1.1; have y2 := po13.2.2.1; omega)) vb_X10_tokenAt tw_2_204 ⟨rfl, rfl⟩ ⟨Nat.le_of_ble_eq_true rfl, Nat.le_of_ble_eq_true rfl⟩ (by decide) sx_34 rfl rfl rfl hl.1 rfl (Nat.le_of_ble_eq_true rfl) dX3_readLevel_76 ⟨Nat.zero_le _, Nat.zero_le _⟩ (fun r20 u21 H locs q22 hP hS => ?_)
              rw [(po13.1.tok a12).1, po13.2.1] at q22
              obtain ⟨rfl, q22u⟩ := q22
              rw [q22u] at hP; clear q22u
              refine lv_istore (lv' := [(5, .int (nI (hdC ts11))), (4, .int 0), (0, .ref (mw_a E 33)), (1, .ref (mw_a E (39 + j))), (2, .int 2), (3, .int 0)]) C.1 C.2.1 dX3_readLevel_79 hl (by decide) rfl (fun ls hl => ?_)
              refine lv_iload C.1 C.2.1 dX3_readLevel_81 (lv_at hl 0 rfl) ?_
              refine mw_cSi (As := [.int (nI (hdC ts11))]) (rest := []) C Z hP hS (cX_levelOf l E u16 (hdC ts11) (by have y := (po13.1.lt a12).1; rw [po13.2.1] at y; omega)) sb_X3_levelOf tw_2_232 ⟨rfl, rfl⟩ ⟨Nat.le_of_ble_eq_true rfl, Nat.le_of_ble_eq_true rfl⟩ rfl hl.1 rfl (Nat.le_of_ble_eq_true rfl) dX3_readLevel_83 ⟨Nat.zero_le _, Nat.zero_le _⟩ (fun r23 u24 H locs q25 hP hS => ?_)
              obtain ⟨rfl, q25u⟩ := q25
              rw [q25u] at hP; clear q25u
              refine lv_iload_n C.1 C.2.1 dX3_readLevel_86 rfl (lv_at hl 4 rfl) ?_
              refine lv_icmp_eq (tgt := 91) C.1 C.2.1 dX3_readLevel_87 (by decide) (fun c26 => ?_) (fun c26 => ?_)
              · have hop := lv_2.mp c26
                have hne : hdC ts11 ≠ 21 := lv_21 c26 (by decide)
                refine lv_aload_n C.1 C.2.1 dX3_readLevel_91 rfl (lv_at hl 2 rfl) ?_
                refine lv_dup C.1 C.2.1 dX3_readLevel_92 rfl ?_
                refine mw_geti C Z hP (33) 1 (by decide) sx_33 rfl rfl (by decide) inX3 tw_1_154 dX3_readLevel_93 ?_
                refine mw_top (y := nI a12) (po13.2.2.2.1) ?_
                refine lv_iconst (v := 1) C.1 C.2.1 dX3_readLevel_96 (by decide) ?_
                refine lv_iadd C.1 C.2.1 dX3_readLevel_97 ?_
                refine mw_top (y := nI (a12 + 1)) (nI_1 _) ?_
                refine mw_puti C Z hP hS (33) 1 (by decide) sx_33 rfl rfl (by decide) inX3 tyX3 tyX3_ok nmX3 rfl tw_1_154 rfl rfl dX3_readLevel_98 (fun H locs hP hS => ?_)
                have pn27 := po13.next hj hne
                have hb28 := pn27.2
                refine lv_aload_n C.1 C.2.1 dX3_readLevel_101 rfl (lv_at hl 2 rfl) ?_
                refine lv_aload_n C.1 C.2.1 dX3_readLevel_102 rfl (lv_at hl 3 rfl) ?_
                refine lv_iload_n C.1 C.2.1 dX3_readLevel_103 rfl (lv_at hl 4 rfl) ?_
                refine lv_iconst (v := 1) C.1 C.2.1 dX3_readLevel_104 (by decide) ?_
                refine lv_iadd C.1 C.2.1 dX3_readLevel_105 ?_
                refine mw_top (y := 3) (by decide) ?_
                refine lv_iload_n C.1 C.2.1 dX3_readLevel_106 rfl (lv_at hl 5 rfl) ?_
                refine mw_cVv (As := [.ref (mw_a E (39 + j)), .int 3, .int 0]) (rest := []) C Z hP hS (33) (cX_l3_0 l E (mw_si u16 33 1 (nI (a12 + 1))) T j hj (a12 + 1) (ts11.tail) ((cs ++ cs10)) (B - 1) (by omega) pn27.1) vb_X3_readLevel tw_2_216 ⟨rfl, rfl⟩ ⟨Nat.le_of_ble_eq_true rfl, Nat.le_of_ble_eq_true rfl⟩ (by decide) sx_33 rfl rfl rfl hl.1 rfl (Nat.le_of_ble_eq_true rfl) dX3_readLevel_107 ⟨Nat.zero_le _, Nat.zero_le _⟩ (fun u38 H locs q39 hP hS => ?_)
                obtain ⟨hx29, f30⟩ := q39
                rcases e31 : (gLevel gAdd (gLevel gTim (gD 5).1)) (ts11.tail) with ⟨cs32, ts33⟩ | qq36
                · rw [e31] at hx29
                  obtain ⟨a34, po35⟩ := hx29
                  have po35 : xPo u38 T j a34 ts33 ((cs ++ cs10) ++ cs32) (B - 1) := po35
                  refine lv_aload_n C.1 C.2.1 dX3_readLevel_110 rfl (lv_at hl 3 rfl) ?_
                  refine lv_iload C.1 C.2.1 dX3_readLevel_111 (lv_at hl 0 rfl) ?_
                  refine mw_cVv (As := [.int (nI (hdC ts11))]) (rest := []) C Z hP hS (39 + j) (cX_add l E u38 j hj (((cs ++ cs10) ++ cs32)).length po35.2.2.2.2.2.1.1 (by have y := po35.2.2.2.2.2.2; omega) (nI (hdC ts11))) vb_X8_add tw_2_224 ⟨rfl, rfl⟩ ⟨Nat.le_of_ble_eq_true rfl, Nat.le_of_ble_eq_true rfl⟩ (by omega) (sx_tx (by omega)) rfl rfl rfl hl.1 rfl (Nat.le_of_ble_eq_true rfl) dX3_readLevel_113 ⟨Nat.zero_le _, Nat.zero_le _⟩ (fun u41 H locs q42 hP hS => ?_)
                  have e43 := q42.1 (by have y := po35.2.2.2.2.2.2; omega)
                  subst e43
                  have po44 := (po35.add hj (hdC ts11)).wk (C := B) (by omega)
                  refine lv_iload_n C.1 C.2.1 dX3_readLevel_116 rfl (lv_at hl 4 rfl) ?_
                  refine lv_iconst (v := 2) C.1 C.2.1 dX3_readLevel_117 (by decide) ?_
                  refine lv_icmp_ne (tgt := 122) C.1 C.2.1 dX3_readLevel_118 (by decide) (fun c45 => ?_) (fun c45 => ?_)
                  · exact absurd c45 (by decide)
                  · exact mw_vret C hr hlk Z hP hS dX3_readLevel_121 (⟨xAf.gd (((congrFun gN_5 ts).trans (gNot_f rfl hn11)).trans (gCmp_g1 e9 hop e31)) (by rw [← List.append_assoc]; rw [← List.append_assoc]; exact po44), (((((xPf.rf j σ).tr f8).rd _ _).tr f30).ad _ _ _)⟩)
                · rw [e31] at hx29
                  have po35 : xPb u38 T j qq36 := hx29
                  refine lv_aload_n C.1 C.2.1 dX3_readLevel_110 rfl (lv_at hl 3 rfl) ?_
                  refine lv_iload C.1 C.2.1 dX3_readLevel_111 (lv_at hl 0 rfl) ?_
                  obtain ⟨k46, hk47, ek48⟩ := po35.2.2.2
                  refine mw_cVv (As := [.int (nI (hdC ts11))]) (rest := []) C Z hP hS (39 + j) (cX_add l E u38 j hj k46 ek48 hk47 (nI (hdC ts11))) vb_X8_add tw_2_224 ⟨rfl, rfl⟩ ⟨Nat.le_of_ble_eq_true rfl, Nat.le_of_ble_eq_true rfl⟩ (by omega) (sx_tx (by omega)) rfl rfl rfl hl.1 rfl (Nat.le_of_ble_eq_true rfl) dX3_readLevel_113 ⟨Nat.zero_le _, Nat.zero_le _⟩ (fun u51 H locs q52 hP hS => ?_)
                  have w49 := xPb.add po35 hj hk47 q52
                  refine lv_iload_n C.1 C.2.1 dX3_readLevel_116 rfl (lv_at hl 4 rfl) ?_
                  refine lv_iconst (v := 2) C.1 C.2.1 dX3_readLevel_117 (by decide) ?_
                  refine lv_icmp_ne (tgt := 122) C.1 C.2.1 dX3_readLevel_118 (by decide) (fun c53 => ?_) (fun c53 => ?_)
                  · exact absurd c53 (by decide)
                  · exact mw_vret C hr hlk Z hP hS dX3_readLevel_121 (⟨xAf.bd (((congrFun gN_5 ts).trans (gNot_f rfl hn11)).trans (gCmp_g2 e9 hop e31)) w49.1, (((((xPf.rf j σ).tr f8).rd _ _).tr f30).tr w49.2)⟩)
              · have hnop : ¬ (hdC ts11 = 18 ∨ hdC ts11 = 19) := fun y => c26 (lv_2.mpr y)
                exact mw_vret C hr hlk Z hP hS dX3_readLevel_90 (⟨xAf.gd (((congrFun gN_5 ts).trans (gNot_f rfl hn11)).trans (gCmp_stop e9 hnop)) po13, ((xPf.rf j σ).tr f8)⟩)
        · rw [e9] at hx7
          have po13 : xPb u16 T j qq14 := hx7
          refine lv_iconst (v := 0) C.1 C.2.1 dX3_readLevel_49 (by decide) ?_
          refine lv_istore (lv' := [(4, .int 0), (0, .ref (mw_a E 33)), (1, .ref (mw_a E (39 + j))), (2, .int 2), (3, .int 0)]) C.1 C.2.1 dX3_readLevel_50 hl (by decide) rfl (fun ls hl => ?_)
          refine lv_iload C.1 C.2.1 dX3_readLevel_52 (lv_at hl 0 rfl) ?_
          refine lv_sipush (v := 160) C.1 C.2.1 dX3_readLevel_54 (by decide) ?_
          refine lv_icmp_ge (tgt := 128) C.1 C.2.1 dX3_readLevel_57 (by decide) (fun c54 => ?_) (fun c54 => ?_)
          · exact absurd c54 (by decide)
          · refine lv_aload_n C.1 C.2.1 dX3_readLevel_60 rfl (lv_at hl 1 rfl) ?_
            refine mw_geti C Z hP (33) 2 (by decide) sx_33 rfl rfl (by decide) inX3 tw_1_155 dX3_readLevel_61 ?_
            refine mw_top (y := nI qq14) (po13.2.2.1.1) ?_
            refine lv_iconst (v := -1) C.1 C.2.1 dX3_readLevel_64 (by decide) ?_
            refine lv_icmp_ne (tgt := 128) C.1 C.2.1 dX3_readLevel_65 (by decide) (fun c55 => ?_) (fun c55 => ?_)
            · exact mw_vret C hr hlk Z hP hS dX3_readLevel_128 (⟨xAf.bd (((congrFun gN_5 ts).trans (gNot_f rfl hn11)).trans (gCmp_b e9)) po13, ((xPf.rf j σ).tr f8)⟩)
            · exact absurd c55 (nI_nm1 (by have y := po13.2.2.1.2; omega))
      · have h11 : hdC ts = 11 := nI_eqI (b := 11) (by omega) (by decide) c6
        refine lv_aload_n C.1 C.2.1 dX3_readLevel_33 rfl (lv_at hl 0 rfl) ?_
        refine lv_aload_n C.1 C.2.1 dX3_readLevel_34 rfl (lv_at hl 1 rfl) ?_
        refine lv_iload_n C.1 C.2.1 dX3_readLevel_35 rfl (lv_at hl 3 rfl) ?_
        refine mw_cVv (As := [.ref (mw_a E (39 + j)), .int 0]) (rest := []) C Z hP hS (33) (cX_not0 l E σ T j hj a ts cs B (by omega) h h11) vb_X3_readNot tw_2_228 ⟨rfl, rfl⟩ ⟨Nat.le_of_ble_eq_true rfl, Nat.le_of_ble_eq_true rfl⟩ (by decide) sx_33 rfl rfl rfl hl.1 rfl (Nat.le_of_ble_eq_true rfl) dX3_readLevel_36 ⟨Nat.zero_le _, Nat.zero_le _⟩ (fun u65 H locs q66 hP hS => ?_)
        obtain ⟨hx56, f57⟩ := q66
        rcases e58 : (gD 5).2.1 ts with ⟨cs59, ts60⟩ | qq63
        · rw [e58] at hx56
          obtain ⟨a61, po62⟩ := hx56
          have po62 : xPo u65 T j a61 ts60 (cs ++ cs59) B := po62
          exact mw_vret C hr hlk Z hP hS dX3_readLevel_39 (⟨xAf.gd rfl po62, ((xPf.rf j σ).tr f57)⟩)
        · rw [e58] at hx56
          have po62 : xPb u65 T j qq63 := hx56
          exact mw_vret C hr hlk Z hP hS dX3_readLevel_39 (⟨xAf.bd rfl po62, ((xPf.rf j σ).tr f57)⟩)
  · exact absurd c1 (by decide)

set_option maxHeartbeats 4000000 in
set_option maxRecDepth 100000 in
theorem cX_l1_0 (l : Launch) (E : mw_E) (σ : mw_M) (T : List (Nat × Nat)) (j : Nat) (hj : j < 6) (a : Nat) (ts : List (Nat × Nat)) (cs : List Nat) (B : Nat) (hB : B ≤ 160) (h : xPo σ T j a ts cs B) : mw_Cv shX 75 gX l yX3_readLevel cX3_readLevel 6 none (rmF 44 1114) E [.ref (mw_a E 33), .ref (mw_a E (39 + j)), .int 1, .int 0] σ (fun u => xAf T j B cs ((gLevel gAnd (gD 5).2.1) ts) u ∧ xPf j σ u) := by
  refine mw_of (by decide) gX_ok (Nat.le_of_ble_eq_true rfl) ?_
  intro p_ e_ s_ m_ below meth c_ C hr hlk Z hP ls hl
  have C : CallFix p_ m_ c_ cX3_readLevel 6 s_ _ lw_good RX3 := C
  have hl : lv_has ls 6 [(0, .ref (mw_a E 33)), (1, .ref (mw_a E (39 + j))), (2, .int 1), (3, .int 0)] := hl
  have hS : va_S (mw_A 75 E) s_.heap s_.heap [] := va_S.rf
  have hlt : hdC ts < 20000 := by have y := (h.1.lt a).1; rw [h.2.1] at y; exact y
  refine lv_iload_n C.1 C.2.1 dX3_readLevel_0 rfl (lv_at hl 2 rfl) ?_
  refine lv_iconst (v := 4) C.1 C.2.1 dX3_readLevel_1 (by decide) ?_
  refine lv_icmp_le (tgt := 12) C.1 C.2.1 dX3_readLevel_2 (by decide) (fun c1 => ?_) (fun c1 => ?_)
  · refine lv_iload_n C.1 C.2.1 dX3_readLevel_12 rfl (lv_at hl 2 rfl) ?_
    refine lv_iconst (v := 2) C.1 C.2.1 dX3_readLevel_13 (by decide) ?_
    refine lv_icmp_ne (tgt := 40) C.1 C.2.1 dX3_readLevel_14 (by decide) (fun c2 => ?_) (fun c2 => ?_)
    · refine lv_aload_n C.1 C.2.1 dX3_readLevel_40 rfl (lv_at hl 0 rfl) ?_
      refine lv_aload_n C.1 C.2.1 dX3_readLevel_41 rfl (lv_at hl 1 rfl) ?_
      refine lv_iload_n C.1 C.2.1 dX3_readLevel_42 rfl (lv_at hl 2 rfl) ?_
      refine lv_iconst (v := 1) C.1 C.2.1 dX3_readLevel_43 (by decide) ?_
      refine lv_iadd C.1 C.2.1 dX3_readLevel_44 ?_
      refine mw_top (y := 2) (by decide) ?_
      refine lv_iload_n C.1 C.2.1 dX3_readLevel_45 rfl (lv_at hl 3 rfl) ?_
      refine mw_cVv (As := [.ref (mw_a E (39 + j)), .int 2, .int 0]) (rest := []) C Z hP hS (33) (cX_l2_0 l E σ T j hj a ts cs B (by omega) h) vb_X3_readLevel tw_2_216 ⟨rfl, rfl⟩ ⟨Nat.le_of_ble_eq_true rfl, Nat.le_of_ble_eq_true rfl⟩ (by decide) sx_33 rfl rfl rfl hl.1 rfl (Nat.le_of_ble_eq_true rfl) dX3_readLevel_46 ⟨Nat.zero_le _, Nat.zero_le _⟩ (fun u12 H locs q13 hP hS => ?_)
      obtain ⟨hx3, f4⟩ := q13
      rcases e5 : (gD 5).2.1 ts with ⟨cs6, ts7⟩ | qq10
      · rw [e5] at hx3
        obtain ⟨a8, po9⟩ := hx3
        have po9 : xPo u12 T j a8 ts7 (cs ++ cs6) B := po9
        refine lv_iconst (v := 0) C.1 C.2.1 dX3_readLevel_49 (by decide) ?_
        refine lv_istore (lv' := [(4, .int 0), (0, .ref (mw_a E 33)), (1, .ref (mw_a E (39 + j))), (2, .int 1), (3, .int 0)]) C.1 C.2.1 dX3_readLevel_50 hl (by decide) rfl (fun ls hl => ?_)
        have lpa : ∀ (N : Nat) (a1 : Nat) (t : Nat) (f : Nat) (ts1 : List (Nat × Nat)) (cs1 : List Nat) (ςa : mw_M) (H : Heap) (locs : List Loc), 161 ≤ t + N → (t ≤ 160) → (ts1.length ≤ f) → (t + ts1.length ≤ 160) → ((gLevel gAnd (gD 5).2.1) ts = gLoop gAnd (gD 5).2.1 f cs1 ts1) → (xPo ςa T j a1 ts1 (cs ++ cs1) B) → xPf j σ ςa → va_P (mw_D E) vwCl (mw_ws shX 75 E ςa) H → va_S (mw_A 75 E) s_.heap H locs → ∀ (ls : Array Slot), lv_has ls 6 [(0, .ref (mw_a E 33)), (1, .ref (mw_a E (39 + j))), (2, .int 1), (3, .int 0), (4, .int (nI t))] → xWv p_ l e_ (rmF 44 1114) s_ m_ [.ref (mw_a E 33), .ref (mw_a E (39 + j)), .int 1, .int 0] below meth c_ E (fun u => xAf T j B cs ((gLevel gAnd (gD 5).2.1) ts) u ∧ xPf j σ u) H locs (F0 m_ 52 ls []) := by
          intro N
          induction N with
          | zero => intros; exfalso; omega
          | succ N iha =>
            intro a1 t f ts1 cs1 ςa H locs hNa ht hf htl hsp hpo fra hP hS ls hl
            refine lv_iload C.1 C.2.1 dX3_readLevel_52 (lv_at hl 4 rfl) ?_
            refine lv_sipush (v := 160) C.1 C.2.1 dX3_readLevel_54 (by decide) ?_
            refine lv_icmp_ge (tgt := 128) C.1 C.2.1 dX3_readLevel_57 (by decide) (fun c14 => ?_) (fun c14 => ?_)
            · have c14 := (nI_leI (a := 160) (by decide) (by omega)).mp c14
              have e0 : ts1 = [] := List.eq_nil_of_length_eq_zero (by omega)
              exact mw_vret C hr hlk Z hP hS dX3_readLevel_128 (⟨xAf.gd (hsp.trans (gLoop_stop (by rw [e0]; decide))) hpo, fra⟩)
            · have c14 := (not_congr (nI_leI (a := 160) (by decide) (by omega))).mp c14
              refine lv_aload_n C.1 C.2.1 dX3_readLevel_60 rfl (lv_at hl 0 rfl) ?_
              refine mw_geti C Z hP (33) 2 (by decide) sx_33 rfl rfl (by decide) inX3 tw_1_155 dX3_readLevel_61 ?_
              refine mw_top (y := -1) (hpo.2.2.2.2.1) ?_
              refine lv_iconst (v := -1) C.1 C.2.1 dX3_readLevel_64 (by decide) ?_
              refine lv_icmp_ne (tgt := 128) C.1 C.2.1 dX3_readLevel_65 (by decide) (fun c15 => ?_) (fun c15 => ?_)
              · exact absurd c15 (by decide)
              · refine lv_aload_n C.1 C.2.1 dX3_readLevel_68 rfl (lv_at hl 0 rfl) ?_
                refine mw_getr C Z hP (33) 0 (34) (by decide) sx_33 rfl rfl (by decide) inX3 tw_1_153 dX3_readLevel_69 ?_
                refine lv_aload_n C.1 C.2.1 dX3_readLevel_72 rfl (lv_at hl 0 rfl) ?_
                refine mw_geti C Z hP (33) 1 (by decide) sx_33 rfl rfl (by decide) inX3 tw_1_154 dX3_readLevel_73 ?_
                refine mw_top (y := nI a1) (hpo.2.2.2.1) ?_
                refine mw_cVi (As := [.int (nI a1)]) (rest := []) C Z hP hS (34) (cX_tokenAt l E ςa T.length hpo.1.2.1 hpo.1.1 a1 (by have y1 := hpo.1.1; have y2 := hpo.2.2.1; omega)) vb_X10_tokenAt tw_2_204 ⟨rfl, rfl⟩ ⟨Nat.le_of_ble_eq_true rfl, Nat.le_of_ble_eq_true rfl⟩ (by decide) sx_34 rfl rfl rfl hl.1 rfl (Nat.le_of_ble_eq_true rfl) dX3_readLevel_76 ⟨Nat.zero_le _, Nat.zero_le _⟩ (fun r16 u17 H locs q18 hP hS => ?_)
                rw [(hpo.1.tok a1).1, hpo.2.1] at q18
                obtain ⟨rfl, q18u⟩ := q18
                rw [q18u] at hP; clear q18u
                refine lv_istore (lv' := [(5, .int (nI (hdC ts1))), (0, .ref (mw_a E 33)), (1, .ref (mw_a E (39 + j))), (2, .int 1), (3, .int 0), (4, .int (nI t))]) C.1 C.2.1 dX3_readLevel_79 hl (by decide) rfl (fun ls hl => ?_)
                refine lv_iload C.1 C.2.1 dX3_readLevel_81 (lv_at hl 0 rfl) ?_
                refine mw_cSi (As := [.int (nI (hdC ts1))]) (rest := []) C Z hP hS (cX_levelOf l E ςa (hdC ts1) (by have y := (hpo.1.lt a1).1; rw [hpo.2.1] at y; omega)) sb_X3_levelOf tw_2_232 ⟨rfl, rfl⟩ ⟨Nat.le_of_ble_eq_true rfl, Nat.le_of_ble_eq_true rfl⟩ rfl hl.1 rfl (Nat.le_of_ble_eq_true rfl) dX3_readLevel_83 ⟨Nat.zero_le _, Nat.zero_le _⟩ (fun r19 u20 H locs q21 hP hS => ?_)
                obtain ⟨rfl, q21u⟩ := q21
                rw [q21u] at hP; clear q21u
                refine lv_iload_n C.1 C.2.1 dX3_readLevel_86 rfl (lv_at hl 3 rfl) ?_
                refine lv_icmp_eq (tgt := 91) C.1 C.2.1 dX3_readLevel_87 (by decide) (fun c22 => ?_) (fun c22 => ?_)
                · have hop := lv_1.mp c22
                  have hne : hdC ts1 ≠ 21 := lv_21 c22 (by decide)
                  obtain ⟨f2, ef, egl⟩ := gLoop_go (x := (gD 5).2.1) (cs := cs1) hne hop hf
                  refine lv_aload_n C.1 C.2.1 dX3_readLevel_91 rfl (lv_at hl 1 rfl) ?_
                  refine lv_dup C.1 C.2.1 dX3_readLevel_92 rfl ?_
                  refine mw_geti C Z hP (33) 1 (by decide) sx_33 rfl rfl (by decide) inX3 tw_1_154 dX3_readLevel_93 ?_
                  refine mw_top (y := nI a1) (hpo.2.2.2.1) ?_
                  refine lv_iconst (v := 1) C.1 C.2.1 dX3_readLevel_96 (by decide) ?_
                  refine lv_iadd C.1 C.2.1 dX3_readLevel_97 ?_
                  refine mw_top (y := nI (a1 + 1)) (nI_1 _) ?_
                  refine mw_puti C Z hP hS (33) 1 (by decide) sx_33 rfl rfl (by decide) inX3 tyX3 tyX3_ok nmX3 rfl tw_1_154 rfl rfl dX3_readLevel_98 (fun H locs hP hS => ?_)
                  have pn23 := hpo.next hj hne
                  have hb24 := pn23.2
                  refine lv_aload_n C.1 C.2.1 dX3_readLevel_101 rfl (lv_at hl 1 rfl) ?_
                  refine lv_aload_n C.1 C.2.1 dX3_readLevel_102 rfl (lv_at hl 2 rfl) ?_
                  refine lv_iload_n C.1 C.2.1 dX3_readLevel_103 rfl (lv_at hl 3 rfl) ?_
                  refine lv_iconst (v := 1) C.1 C.2.1 dX3_readLevel_104 (by decide) ?_
                  refine lv_iadd C.1 C.2.1 dX3_readLevel_105 ?_
                  refine mw_top (y := 2) (by decide) ?_
                  refine lv_iload_n C.1 C.2.1 dX3_readLevel_106 rfl (lv_at hl 4 rfl) ?_
                  refine mw_cVv (As := [.ref (mw_a E (39 + j)), .int 2, .int 0]) (rest := []) C Z hP hS (33) (cX_l2_0 l E (mw_si ςa 33 1 (nI (a1 + 1))) T j hj (a1 + 1) (ts1.tail) ((cs ++ cs1)) (B - 1) (by omega) pn23.1) vb_X3_readLevel tw_2_216 ⟨rfl, rfl⟩ ⟨Nat.le_of_ble_eq_true rfl, Nat.le_of_ble_eq_true rfl⟩ (by decide) sx_33 rfl rfl rfl hl.1 rfl (Nat.le_of_ble_eq_true rfl) dX3_readLevel_107 ⟨Nat.zero_le _, Nat.zero_le _⟩ (fun u34 H locs q35 hP hS => ?_)
                  obtain ⟨hx25, f26⟩ := q35
                  rcases e27 : (gD 5).2.1 (ts1.tail) with ⟨cs28, ts29⟩ | qq32
                  · rw [e27] at hx25
                    obtain ⟨a30, po31⟩ := hx25
                    have po31 : xPo u34 T j a30 ts29 ((cs ++ cs1) ++ cs28) (B - 1) := po31
                    refine lv_aload_n C.1 C.2.1 dX3_readLevel_110 rfl (lv_at hl 2 rfl) ?_
                    refine lv_iload C.1 C.2.1 dX3_readLevel_111 (lv_at hl 0 rfl) ?_
                    refine mw_cVv (As := [.int (nI (hdC ts1))]) (rest := []) C Z hP hS (39 + j) (cX_add l E u34 j hj (((cs ++ cs1) ++ cs28)).length po31.2.2.2.2.2.1.1 (by have y := po31.2.2.2.2.2.2; omega) (nI (hdC ts1))) vb_X8_add tw_2_224 ⟨rfl, rfl⟩ ⟨Nat.le_of_ble_eq_true rfl, Nat.le_of_ble_eq_true rfl⟩ (by omega) (sx_tx (by omega)) rfl rfl rfl hl.1 rfl (Nat.le_of_ble_eq_true rfl) dX3_readLevel_113 ⟨Nat.zero_le _, Nat.zero_le _⟩ (fun u37 H locs q38 hP hS => ?_)
                    have e39 := q38.1 (by have y := po31.2.2.2.2.2.2; omega)
                    subst e39
                    have po40 := (po31.add hj (hdC ts1)).wk (C := B) (by omega)
                    refine lv_iload_n C.1 C.2.1 dX3_readLevel_116 rfl (lv_at hl 3 rfl) ?_
                    refine lv_iconst (v := 2) C.1 C.2.1 dX3_readLevel_117 (by decide) ?_
                    refine lv_icmp_ne (tgt := 122) C.1 C.2.1 dX3_readLevel_118 (by decide) (fun c41 => ?_) (fun c41 => ?_)
                    · refine lv_iinc (v := nI (t + 1)) (lv' := [(4, .int (nI (t + 1))), (5, .int (nI (hdC ts1))), (0, .ref (mw_a E 33)), (1, .ref (mw_a E (39 + j))), (2, .int 1), (3, .int 0)]) C.1 C.2.1 dX3_readLevel_122 hl (k := 5) rfl (nI_1 _) (by decide) rfl (fun ls hl => ?_)
                      refine lv_goto (tgt := 52) C.1 C.2.1 dX3_readLevel_125 (by decide) ?_
                      exact iha a30 (t + 1) f2 ts29 (cs1 ++ cs28 ++ [hdC ts1]) (mw_si (mw_sa u34 (45 + j) (((cs ++ cs1) ++ cs28)).length (nI (hdC ts1))) (39 + j) 3 (nI ((((cs ++ cs1) ++ cs28)).length + 1))) _ _ (by omega) (by omega) (by have y1 := ((gD_dec 5).2.1) _ _ _ e27; have y2 := tail_len hne; omega) (by have y1 := ((gD_dec 5).2.1) _ _ _ e27; have y2 := tail_len hne; omega) (hsp.trans (egl.trans (by rw [e27]))) ((by rw [← List.append_assoc]; rw [← List.append_assoc]; exact po40)) (((fra.rd _ _).tr f26).ad _ _ _) hP hS ls (lv_sub hl [2, 3, 4, 5, 0] rfl)
                    · exact absurd c41 (by decide)
                  · rw [e27] at hx25
                    have po31 : xPb u34 T j qq32 := hx25
                    refine lv_aload_n C.1 C.2.1 dX3_readLevel_110 rfl (lv_at hl 2 rfl) ?_
                    refine lv_iload C.1 C.2.1 dX3_readLevel_111 (lv_at hl 0 rfl) ?_
                    obtain ⟨k42, hk43, ek44⟩ := po31.2.2.2
                    refine mw_cVv (As := [.int (nI (hdC ts1))]) (rest := []) C Z hP hS (39 + j) (cX_add l E u34 j hj k42 ek44 hk43 (nI (hdC ts1))) vb_X8_add tw_2_224 ⟨rfl, rfl⟩ ⟨Nat.le_of_ble_eq_true rfl, Nat.le_of_ble_eq_true rfl⟩ (by omega) (sx_tx (by omega)) rfl rfl rfl hl.1 rfl (Nat.le_of_ble_eq_true rfl) dX3_readLevel_113 ⟨Nat.zero_le _, Nat.zero_le _⟩ (fun u47 H locs q48 hP hS => ?_)
                    have w45 := xPb.add po31 hj hk43 q48
                    refine lv_iload_n C.1 C.2.1 dX3_readLevel_116 rfl (lv_at hl 3 rfl) ?_
                    refine lv_iconst (v := 2) C.1 C.2.1 dX3_readLevel_117 (by decide) ?_
                    refine lv_icmp_ne (tgt := 122) C.1 C.2.1 dX3_readLevel_118 (by decide) (fun c49 => ?_) (fun c49 => ?_)
                    · refine lv_iinc (v := nI (t + 1)) (lv' := [(4, .int (nI (t + 1))), (5, .int (nI (hdC ts1))), (0, .ref (mw_a E 33)), (1, .ref (mw_a E (39 + j))), (2, .int 1), (3, .int 0)]) C.1 C.2.1 dX3_readLevel_122 hl (k := 5) rfl (nI_1 _) (by decide) rfl (fun ls hl => ?_)
                      refine lv_goto (tgt := 52) C.1 C.2.1 dX3_readLevel_125 (by decide) ?_
                      refine lv_iload C.1 C.2.1 dX3_readLevel_52 (lv_at hl 0 rfl) ?_
                      refine lv_sipush (v := 160) C.1 C.2.1 dX3_readLevel_54 (by decide) ?_
                      refine lv_icmp_ge (tgt := 128) C.1 C.2.1 dX3_readLevel_57 (by decide) (fun c50 => ?_) (fun c50 => ?_)
                      · exact mw_vret C hr hlk Z hP hS dX3_readLevel_128 (⟨xAf.bd (hsp.trans (egl.trans (by rw [e27]))) w45.1, (((fra.rd _ _).tr f26).tr w45.2)⟩)
                      · refine lv_aload_n C.1 C.2.1 dX3_readLevel_60 rfl (lv_at hl 2 rfl) ?_
                        refine mw_geti C Z hP (33) 2 (by decide) sx_33 rfl rfl (by decide) inX3 tw_1_155 dX3_readLevel_61 ?_
                        refine mw_top (y := nI qq32) (w45.1.2.2.1.1) ?_
                        refine lv_iconst (v := -1) C.1 C.2.1 dX3_readLevel_64 (by decide) ?_
                        refine lv_icmp_ne (tgt := 128) C.1 C.2.1 dX3_readLevel_65 (by decide) (fun c51 => ?_) (fun c51 => ?_)
                        · exact mw_vret C hr hlk Z hP hS dX3_readLevel_128 (⟨xAf.bd (hsp.trans (egl.trans (by rw [e27]))) w45.1, (((fra.rd _ _).tr f26).tr w45.2)⟩)
                        · exact absurd c51 (nI_nm1 (by have y := w45.1.2.2.1.2; omega))
                    · exact absurd c49 (by decide)
                · have hnop : ¬ gAnd (hdC ts1) = true := fun y => c22 (lv_1.mpr y)
                  exact mw_vret C hr hlk Z hP hS dX3_readLevel_90 (⟨xAf.gd (hsp.trans (gLoop_stop hnop)) hpo, fra⟩)
        exact lpa (161) a8 0 (ts7.length) ts7 cs6 u12 _ _ (by omega) (by omega) (Nat.le_refl _) (by have y := po9.2.2.2.2.2.2; omega) ((gLevel_g e5)) (po9) ((xPf.rf j σ).tr f4) hP hS ls (lv_sub hl [1, 2, 3, 4, 0] rfl)
      · rw [e5] at hx3
        have po9 : xPb u12 T j qq10 := hx3
        refine lv_iconst (v := 0) C.1 C.2.1 dX3_readLevel_49 (by decide) ?_
        refine lv_istore (lv' := [(4, .int 0), (0, .ref (mw_a E 33)), (1, .ref (mw_a E (39 + j))), (2, .int 1), (3, .int 0)]) C.1 C.2.1 dX3_readLevel_50 hl (by decide) rfl (fun ls hl => ?_)
        refine lv_iload C.1 C.2.1 dX3_readLevel_52 (lv_at hl 0 rfl) ?_
        refine lv_sipush (v := 160) C.1 C.2.1 dX3_readLevel_54 (by decide) ?_
        refine lv_icmp_ge (tgt := 128) C.1 C.2.1 dX3_readLevel_57 (by decide) (fun c52 => ?_) (fun c52 => ?_)
        · exact absurd c52 (by decide)
        · refine lv_aload_n C.1 C.2.1 dX3_readLevel_60 rfl (lv_at hl 1 rfl) ?_
          refine mw_geti C Z hP (33) 2 (by decide) sx_33 rfl rfl (by decide) inX3 tw_1_155 dX3_readLevel_61 ?_
          refine mw_top (y := nI qq10) (po9.2.2.1.1) ?_
          refine lv_iconst (v := -1) C.1 C.2.1 dX3_readLevel_64 (by decide) ?_
          refine lv_icmp_ne (tgt := 128) C.1 C.2.1 dX3_readLevel_65 (by decide) (fun c53 => ?_) (fun c53 => ?_)
          · exact mw_vret C hr hlk Z hP hS dX3_readLevel_128 (⟨xAf.bd ((gLevel_b e5)) po9, ((xPf.rf j σ).tr f4)⟩)
          · exact absurd c53 (nI_nm1 (by have y := po9.2.2.1.2; omega))
    · exact absurd c2 (by decide)
  · exact absurd c1 (by decide)

set_option maxHeartbeats 4000000 in
set_option maxRecDepth 100000 in
theorem cX_l0_0 (l : Launch) (E : mw_E) (σ : mw_M) (T : List (Nat × Nat)) (j : Nat) (hj : j < 6) (a : Nat) (ts : List (Nat × Nat)) (cs : List Nat) (B : Nat) (hB : B ≤ 160) (h : xPo σ T j a ts cs B) : mw_Cv shX 75 gX l yX3_readLevel cX3_readLevel 6 none (rmF 45 1139) E [.ref (mw_a E 33), .ref (mw_a E (39 + j)), .int 0, .int 0] σ (fun u => xAf T j B cs ((gD 5).2.2 ts) u ∧ xPf j σ u) := by
  refine mw_of (by decide) gX_ok (Nat.le_of_ble_eq_true rfl) ?_
  intro p_ e_ s_ m_ below meth c_ C hr hlk Z hP ls hl
  have C : CallFix p_ m_ c_ cX3_readLevel 6 s_ _ lw_good RX3 := C
  have hl : lv_has ls 6 [(0, .ref (mw_a E 33)), (1, .ref (mw_a E (39 + j))), (2, .int 0), (3, .int 0)] := hl
  have hS : va_S (mw_A 75 E) s_.heap s_.heap [] := va_S.rf
  have hlt : hdC ts < 20000 := by have y := (h.1.lt a).1; rw [h.2.1] at y; exact y
  refine lv_iload_n C.1 C.2.1 dX3_readLevel_0 rfl (lv_at hl 2 rfl) ?_
  refine lv_iconst (v := 4) C.1 C.2.1 dX3_readLevel_1 (by decide) ?_
  refine lv_icmp_le (tgt := 12) C.1 C.2.1 dX3_readLevel_2 (by decide) (fun c1 => ?_) (fun c1 => ?_)
  · refine lv_iload_n C.1 C.2.1 dX3_readLevel_12 rfl (lv_at hl 2 rfl) ?_
    refine lv_iconst (v := 2) C.1 C.2.1 dX3_readLevel_13 (by decide) ?_
    refine lv_icmp_ne (tgt := 40) C.1 C.2.1 dX3_readLevel_14 (by decide) (fun c2 => ?_) (fun c2 => ?_)
    · refine lv_aload_n C.1 C.2.1 dX3_readLevel_40 rfl (lv_at hl 0 rfl) ?_
      refine lv_aload_n C.1 C.2.1 dX3_readLevel_41 rfl (lv_at hl 1 rfl) ?_
      refine lv_iload_n C.1 C.2.1 dX3_readLevel_42 rfl (lv_at hl 2 rfl) ?_
      refine lv_iconst (v := 1) C.1 C.2.1 dX3_readLevel_43 (by decide) ?_
      refine lv_iadd C.1 C.2.1 dX3_readLevel_44 ?_
      refine mw_top (y := 1) (by decide) ?_
      refine lv_iload_n C.1 C.2.1 dX3_readLevel_45 rfl (lv_at hl 3 rfl) ?_
      refine mw_cVv (As := [.ref (mw_a E (39 + j)), .int 1, .int 0]) (rest := []) C Z hP hS (33) (cX_l1_0 l E σ T j hj a ts cs B (by omega) h) vb_X3_readLevel tw_2_216 ⟨rfl, rfl⟩ ⟨Nat.le_of_ble_eq_true rfl, Nat.le_of_ble_eq_true rfl⟩ (by decide) sx_33 rfl rfl rfl hl.1 rfl (Nat.le_of_ble_eq_true rfl) dX3_readLevel_46 ⟨Nat.zero_le _, Nat.zero_le _⟩ (fun u12 H locs q13 hP hS => ?_)
      obtain ⟨hx3, f4⟩ := q13
      rcases e5 : (gLevel gAnd (gD 5).2.1) ts with ⟨cs6, ts7⟩ | qq10
      · rw [e5] at hx3
        obtain ⟨a8, po9⟩ := hx3
        have po9 : xPo u12 T j a8 ts7 (cs ++ cs6) B := po9
        refine lv_iconst (v := 0) C.1 C.2.1 dX3_readLevel_49 (by decide) ?_
        refine lv_istore (lv' := [(4, .int 0), (0, .ref (mw_a E 33)), (1, .ref (mw_a E (39 + j))), (2, .int 0), (3, .int 0)]) C.1 C.2.1 dX3_readLevel_50 hl (by decide) rfl (fun ls hl => ?_)
        have lpa : ∀ (N : Nat) (a1 : Nat) (t : Nat) (f : Nat) (ts1 : List (Nat × Nat)) (cs1 : List Nat) (ςa : mw_M) (H : Heap) (locs : List Loc), 161 ≤ t + N → (t ≤ 160) → (ts1.length ≤ f) → (t + ts1.length ≤ 160) → ((gD 5).2.2 ts = gLoop gOr (gLevel gAnd (gD 5).2.1) f cs1 ts1) → (xPo ςa T j a1 ts1 (cs ++ cs1) B) → xPf j σ ςa → va_P (mw_D E) vwCl (mw_ws shX 75 E ςa) H → va_S (mw_A 75 E) s_.heap H locs → ∀ (ls : Array Slot), lv_has ls 6 [(0, .ref (mw_a E 33)), (1, .ref (mw_a E (39 + j))), (2, .int 0), (3, .int 0), (4, .int (nI t))] → xWv p_ l e_ (rmF 45 1139) s_ m_ [.ref (mw_a E 33), .ref (mw_a E (39 + j)), .int 0, .int 0] below meth c_ E (fun u => xAf T j B cs ((gD 5).2.2 ts) u ∧ xPf j σ u) H locs (F0 m_ 52 ls []) := by
          intro N
          induction N with
          | zero => intros; exfalso; omega
          | succ N iha =>
            intro a1 t f ts1 cs1 ςa H locs hNa ht hf htl hsp hpo fra hP hS ls hl
            refine lv_iload C.1 C.2.1 dX3_readLevel_52 (lv_at hl 4 rfl) ?_
            refine lv_sipush (v := 160) C.1 C.2.1 dX3_readLevel_54 (by decide) ?_
            refine lv_icmp_ge (tgt := 128) C.1 C.2.1 dX3_readLevel_57 (by decide) (fun c14 => ?_) (fun c14 => ?_)
            · have c14 := (nI_leI (a := 160) (by decide) (by omega)).mp c14
              have e0 : ts1 = [] := List.eq_nil_of_length_eq_zero (by omega)
              exact mw_vret C hr hlk Z hP hS dX3_readLevel_128 (⟨xAf.gd (hsp.trans (gLoop_stop (by rw [e0]; decide))) hpo, fra⟩)
            · have c14 := (not_congr (nI_leI (a := 160) (by decide) (by omega))).mp c14
              refine lv_aload_n C.1 C.2.1 dX3_readLevel_60 rfl (lv_at hl 0 rfl) ?_
              refine mw_geti C Z hP (33) 2 (by decide) sx_33 rfl rfl (by decide) inX3 tw_1_155 dX3_readLevel_61 ?_
              refine mw_top (y := -1) (hpo.2.2.2.2.1) ?_
              refine lv_iconst (v := -1) C.1 C.2.1 dX3_readLevel_64 (by decide) ?_
              refine lv_icmp_ne (tgt := 128) C.1 C.2.1 dX3_readLevel_65 (by decide) (fun c15 => ?_) (fun c15 => ?_)
              · exact absurd c15 (by decide)
              · refine lv_aload_n C.1 C.2.1 dX3_readLevel_68 rfl (lv_at hl 0 rfl) ?_
                refine mw_getr C Z hP (33) 0 (34) (by decide) sx_33 rfl rfl (by decide) inX3 tw_1_153 dX3_readLevel_69 ?_
                refine lv_aload_n C.1 C.2.1 dX3_readLevel_72 rfl (lv_at hl 0 rfl) ?_
                refine mw_geti C Z hP (33) 1 (by decide) sx_33 rfl rfl (by decide) inX3 tw_1_154 dX3_readLevel_73 ?_
                refine mw_top (y := nI a1) (hpo.2.2.2.1) ?_
                refine mw_cVi (As := [.int (nI a1)]) (rest := []) C Z hP hS (34) (cX_tokenAt l E ςa T.length hpo.1.2.1 hpo.1.1 a1 (by have y1 := hpo.1.1; have y2 := hpo.2.2.1; omega)) vb_X10_tokenAt tw_2_204 ⟨rfl, rfl⟩ ⟨Nat.le_of_ble_eq_true rfl, Nat.le_of_ble_eq_true rfl⟩ (by decide) sx_34 rfl rfl rfl hl.1 rfl (Nat.le_of_ble_eq_true rfl) dX3_readLevel_76 ⟨Nat.zero_le _, Nat.zero_le _⟩ (fun r16 u17 H locs q18 hP hS => ?_)
                rw [(hpo.1.tok a1).1, hpo.2.1] at q18
                obtain ⟨rfl, q18u⟩ := q18
                rw [q18u] at hP; clear q18u
                refine lv_istore (lv' := [(5, .int (nI (hdC ts1))), (0, .ref (mw_a E 33)), (1, .ref (mw_a E (39 + j))), (2, .int 0), (3, .int 0), (4, .int (nI t))]) C.1 C.2.1 dX3_readLevel_79 hl (by decide) rfl (fun ls hl => ?_)
                refine lv_iload C.1 C.2.1 dX3_readLevel_81 (lv_at hl 0 rfl) ?_
                refine mw_cSi (As := [.int (nI (hdC ts1))]) (rest := []) C Z hP hS (cX_levelOf l E ςa (hdC ts1) (by have y := (hpo.1.lt a1).1; rw [hpo.2.1] at y; omega)) sb_X3_levelOf tw_2_232 ⟨rfl, rfl⟩ ⟨Nat.le_of_ble_eq_true rfl, Nat.le_of_ble_eq_true rfl⟩ rfl hl.1 rfl (Nat.le_of_ble_eq_true rfl) dX3_readLevel_83 ⟨Nat.zero_le _, Nat.zero_le _⟩ (fun r19 u20 H locs q21 hP hS => ?_)
                obtain ⟨rfl, q21u⟩ := q21
                rw [q21u] at hP; clear q21u
                refine lv_iload_n C.1 C.2.1 dX3_readLevel_86 rfl (lv_at hl 3 rfl) ?_
                refine lv_icmp_eq (tgt := 91) C.1 C.2.1 dX3_readLevel_87 (by decide) (fun c22 => ?_) (fun c22 => ?_)
                · have hop := lv_0.mp c22
                  have hne : hdC ts1 ≠ 21 := lv_21 c22 (by decide)
                  obtain ⟨f2, ef, egl⟩ := gLoop_go (x := (gLevel gAnd (gD 5).2.1)) (cs := cs1) hne hop hf
                  refine lv_aload_n C.1 C.2.1 dX3_readLevel_91 rfl (lv_at hl 1 rfl) ?_
                  refine lv_dup C.1 C.2.1 dX3_readLevel_92 rfl ?_
                  refine mw_geti C Z hP (33) 1 (by decide) sx_33 rfl rfl (by decide) inX3 tw_1_154 dX3_readLevel_93 ?_
                  refine mw_top (y := nI a1) (hpo.2.2.2.1) ?_
                  refine lv_iconst (v := 1) C.1 C.2.1 dX3_readLevel_96 (by decide) ?_
                  refine lv_iadd C.1 C.2.1 dX3_readLevel_97 ?_
                  refine mw_top (y := nI (a1 + 1)) (nI_1 _) ?_
                  refine mw_puti C Z hP hS (33) 1 (by decide) sx_33 rfl rfl (by decide) inX3 tyX3 tyX3_ok nmX3 rfl tw_1_154 rfl rfl dX3_readLevel_98 (fun H locs hP hS => ?_)
                  have pn23 := hpo.next hj hne
                  have hb24 := pn23.2
                  refine lv_aload_n C.1 C.2.1 dX3_readLevel_101 rfl (lv_at hl 1 rfl) ?_
                  refine lv_aload_n C.1 C.2.1 dX3_readLevel_102 rfl (lv_at hl 2 rfl) ?_
                  refine lv_iload_n C.1 C.2.1 dX3_readLevel_103 rfl (lv_at hl 3 rfl) ?_
                  refine lv_iconst (v := 1) C.1 C.2.1 dX3_readLevel_104 (by decide) ?_
                  refine lv_iadd C.1 C.2.1 dX3_readLevel_105 ?_
                  refine mw_top (y := 1) (by decide) ?_
                  refine lv_iload_n C.1 C.2.1 dX3_readLevel_106 rfl (lv_at hl 4 rfl) ?_
                  refine mw_cVv (As := [.ref (mw_a E (39 + j)), .int 1, .int 0]) (rest := []) C Z hP hS (33) (cX_l1_0 l E (mw_si ςa 33 1 (nI (a1 + 1))) T j hj (a1 + 1) (ts1.tail) ((cs ++ cs1)) (B - 1) (by omega) pn23.1) vb_X3_readLevel tw_2_216 ⟨rfl, rfl⟩ ⟨Nat.le_of_ble_eq_true rfl, Nat.le_of_ble_eq_true rfl⟩ (by decide) sx_33 rfl rfl rfl hl.1 rfl (Nat.le_of_ble_eq_true rfl) dX3_readLevel_107 ⟨Nat.zero_le _, Nat.zero_le _⟩ (fun u34 H locs q35 hP hS => ?_)
                  obtain ⟨hx25, f26⟩ := q35
                  rcases e27 : (gLevel gAnd (gD 5).2.1) (ts1.tail) with ⟨cs28, ts29⟩ | qq32
                  · rw [e27] at hx25
                    obtain ⟨a30, po31⟩ := hx25
                    have po31 : xPo u34 T j a30 ts29 ((cs ++ cs1) ++ cs28) (B - 1) := po31
                    refine lv_aload_n C.1 C.2.1 dX3_readLevel_110 rfl (lv_at hl 2 rfl) ?_
                    refine lv_iload C.1 C.2.1 dX3_readLevel_111 (lv_at hl 0 rfl) ?_
                    refine mw_cVv (As := [.int (nI (hdC ts1))]) (rest := []) C Z hP hS (39 + j) (cX_add l E u34 j hj (((cs ++ cs1) ++ cs28)).length po31.2.2.2.2.2.1.1 (by have y := po31.2.2.2.2.2.2; omega) (nI (hdC ts1))) vb_X8_add tw_2_224 ⟨rfl, rfl⟩ ⟨Nat.le_of_ble_eq_true rfl, Nat.le_of_ble_eq_true rfl⟩ (by omega) (sx_tx (by omega)) rfl rfl rfl hl.1 rfl (Nat.le_of_ble_eq_true rfl) dX3_readLevel_113 ⟨Nat.zero_le _, Nat.zero_le _⟩ (fun u37 H locs q38 hP hS => ?_)
                    have e39 := q38.1 (by have y := po31.2.2.2.2.2.2; omega)
                    subst e39
                    have po40 := (po31.add hj (hdC ts1)).wk (C := B) (by omega)
                    refine lv_iload_n C.1 C.2.1 dX3_readLevel_116 rfl (lv_at hl 3 rfl) ?_
                    refine lv_iconst (v := 2) C.1 C.2.1 dX3_readLevel_117 (by decide) ?_
                    refine lv_icmp_ne (tgt := 122) C.1 C.2.1 dX3_readLevel_118 (by decide) (fun c41 => ?_) (fun c41 => ?_)
                    · refine lv_iinc (v := nI (t + 1)) (lv' := [(4, .int (nI (t + 1))), (5, .int (nI (hdC ts1))), (0, .ref (mw_a E 33)), (1, .ref (mw_a E (39 + j))), (2, .int 0), (3, .int 0)]) C.1 C.2.1 dX3_readLevel_122 hl (k := 5) rfl (nI_1 _) (by decide) rfl (fun ls hl => ?_)
                      refine lv_goto (tgt := 52) C.1 C.2.1 dX3_readLevel_125 (by decide) ?_
                      exact iha a30 (t + 1) f2 ts29 (cs1 ++ cs28 ++ [hdC ts1]) (mw_si (mw_sa u34 (45 + j) (((cs ++ cs1) ++ cs28)).length (nI (hdC ts1))) (39 + j) 3 (nI ((((cs ++ cs1) ++ cs28)).length + 1))) _ _ (by omega) (by omega) (by have y1 := (gLevel_dec (gD_dec 5).2.1) _ _ _ e27; have y2 := tail_len hne; omega) (by have y1 := (gLevel_dec (gD_dec 5).2.1) _ _ _ e27; have y2 := tail_len hne; omega) (hsp.trans (egl.trans (by rw [e27]))) ((by rw [← List.append_assoc]; rw [← List.append_assoc]; exact po40)) (((fra.rd _ _).tr f26).ad _ _ _) hP hS ls (lv_sub hl [2, 3, 4, 5, 0] rfl)
                    · exact absurd c41 (by decide)
                  · rw [e27] at hx25
                    have po31 : xPb u34 T j qq32 := hx25
                    refine lv_aload_n C.1 C.2.1 dX3_readLevel_110 rfl (lv_at hl 2 rfl) ?_
                    refine lv_iload C.1 C.2.1 dX3_readLevel_111 (lv_at hl 0 rfl) ?_
                    obtain ⟨k42, hk43, ek44⟩ := po31.2.2.2
                    refine mw_cVv (As := [.int (nI (hdC ts1))]) (rest := []) C Z hP hS (39 + j) (cX_add l E u34 j hj k42 ek44 hk43 (nI (hdC ts1))) vb_X8_add tw_2_224 ⟨rfl, rfl⟩ ⟨Nat.le_of_ble_eq_true rfl, Nat.le_of_ble_eq_true rfl⟩ (by omega) (sx_tx (by omega)) rfl rfl rfl hl.1 rfl (Nat.le_of_ble_eq_true rfl) dX3_readLevel_113 ⟨Nat.zero_le _, Nat.zero_le _⟩ (fun u47 H locs q48 hP hS => ?_)
                    have w45 := xPb.add po31 hj hk43 q48
                    refine lv_iload_n C.1 C.2.1 dX3_readLevel_116 rfl (lv_at hl 3 rfl) ?_
                    refine lv_iconst (v := 2) C.1 C.2.1 dX3_readLevel_117 (by decide) ?_
                    refine lv_icmp_ne (tgt := 122) C.1 C.2.1 dX3_readLevel_118 (by decide) (fun c49 => ?_) (fun c49 => ?_)
                    · refine lv_iinc (v := nI (t + 1)) (lv' := [(4, .int (nI (t + 1))), (5, .int (nI (hdC ts1))), (0, .ref (mw_a E 33)), (1, .ref (mw_a E (39 + j))), (2, .int 0), (3, .int 0)]) C.1 C.2.1 dX3_readLevel_122 hl (k := 5) rfl (nI_1 _) (by decide) rfl (fun ls hl => ?_)
                      refine lv_goto (tgt := 52) C.1 C.2.1 dX3_readLevel_125 (by decide) ?_
                      refine lv_iload C.1 C.2.1 dX3_readLevel_52 (lv_at hl 0 rfl) ?_
                      refine lv_sipush (v := 160) C.1 C.2.1 dX3_readLevel_54 (by decide) ?_
                      refine lv_icmp_ge (tgt := 128) C.1 C.2.1 dX3_readLevel_57 (by decide) (fun c50 => ?_) (fun c50 => ?_)
                      · exact mw_vret C hr hlk Z hP hS dX3_readLevel_128 (⟨xAf.bd (hsp.trans (egl.trans (by rw [e27]))) w45.1, (((fra.rd _ _).tr f26).tr w45.2)⟩)
                      · refine lv_aload_n C.1 C.2.1 dX3_readLevel_60 rfl (lv_at hl 2 rfl) ?_
                        refine mw_geti C Z hP (33) 2 (by decide) sx_33 rfl rfl (by decide) inX3 tw_1_155 dX3_readLevel_61 ?_
                        refine mw_top (y := nI qq32) (w45.1.2.2.1.1) ?_
                        refine lv_iconst (v := -1) C.1 C.2.1 dX3_readLevel_64 (by decide) ?_
                        refine lv_icmp_ne (tgt := 128) C.1 C.2.1 dX3_readLevel_65 (by decide) (fun c51 => ?_) (fun c51 => ?_)
                        · exact mw_vret C hr hlk Z hP hS dX3_readLevel_128 (⟨xAf.bd (hsp.trans (egl.trans (by rw [e27]))) w45.1, (((fra.rd _ _).tr f26).tr w45.2)⟩)
                        · exact absurd c51 (nI_nm1 (by have y := w45.1.2.2.1.2; omega))
                    · exact absurd c49 (by decide)
                · have hnop : ¬ gOr (hdC ts1) = true := fun y => c22 (lv_0.mpr y)
                  exact mw_vret C hr hlk Z hP hS dX3_readLevel_90 (⟨xAf.gd (hsp.trans (gLoop_stop hnop)) hpo, fra⟩)
        exact lpa (161) a8 0 (ts7.length) ts7 cs6 u12 _ _ (by omega) (by omega) (Nat.le_refl _) (by have y := po9.2.2.2.2.2.2; omega) ((congrFun gE_5 ts).trans (gLevel_g e5)) (po9) ((xPf.rf j σ).tr f4) hP hS ls (lv_sub hl [1, 2, 3, 4, 0] rfl)
      · rw [e5] at hx3
        have po9 : xPb u12 T j qq10 := hx3
        refine lv_iconst (v := 0) C.1 C.2.1 dX3_readLevel_49 (by decide) ?_
        refine lv_istore (lv' := [(4, .int 0), (0, .ref (mw_a E 33)), (1, .ref (mw_a E (39 + j))), (2, .int 0), (3, .int 0)]) C.1 C.2.1 dX3_readLevel_50 hl (by decide) rfl (fun ls hl => ?_)
        refine lv_iload C.1 C.2.1 dX3_readLevel_52 (lv_at hl 0 rfl) ?_
        refine lv_sipush (v := 160) C.1 C.2.1 dX3_readLevel_54 (by decide) ?_
        refine lv_icmp_ge (tgt := 128) C.1 C.2.1 dX3_readLevel_57 (by decide) (fun c52 => ?_) (fun c52 => ?_)
        · exact absurd c52 (by decide)
        · refine lv_aload_n C.1 C.2.1 dX3_readLevel_60 rfl (lv_at hl 1 rfl) ?_
          refine mw_geti C Z hP (33) 2 (by decide) sx_33 rfl rfl (by decide) inX3 tw_1_155 dX3_readLevel_61 ?_
          refine mw_top (y := nI qq10) (po9.2.2.1.1) ?_
          refine lv_iconst (v := -1) C.1 C.2.1 dX3_readLevel_64 (by decide) ?_
          refine lv_icmp_ne (tgt := 128) C.1 C.2.1 dX3_readLevel_65 (by decide) (fun c53 => ?_) (fun c53 => ?_)
          · exact mw_vret C hr hlk Z hP hS dX3_readLevel_128 (⟨xAf.bd ((congrFun gE_5 ts).trans (gLevel_b e5)) po9, ((xPf.rf j σ).tr f4)⟩)
          · exact absurd c53 (nI_nm1 (by have y := po9.2.2.1.2; omega))
    · exact absurd c2 (by decide)
  · exact absurd c1 (by decide)
