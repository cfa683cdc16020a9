/-! THE CLASS: CHANCE, COUNT, FAIR, BUYSONE -/
theorem xw_ldcw {p : Program} {l : Launch} {e : Env} {R : Room} {s : State} {m : MethodId} {args : Array Value} {below : List Frame} {meth : Method} {c : Code} {H : Heap} {locs : List Loc} {cells slots : Nat} {Q : State → Prop} {cc : ByteArray} {pc : Nat} {ls : Array Slot} {rest : List Value}
    (hexec : p.tables.exec = Jvm.exec) (hb : c.code = cc) {own : String} {index : Nat} {v : Int32} (hown : s.vm.findClass own = some m.cls) (hconst : (Jvm.Cond.constant own index v).before args s = true) (hdg : decode cc pc = .ok (.ldc_w index, 3)) (k : W p l e R s m args below meth c H locs cells slots Q (F0 m (pc + 3) ls (.int v :: rest))) : W p l e R s m args below meth c H locs cells slots Q (F0 m pc ls rest) := by
  intro T hT X
  obtain ⟨t, a, b⟩ := k T hT X
  refine ⟨t, ?_, b⟩
  obtain ⟨kk, cf, bytes, hk, hcf, hcp, hbb⟩ := Cond.constant_spec hown hconst
  obtain ⟨k', hk', he⟩ := X.warmed.alike.2.2 _ _ hk
  have hdg : decode c.code (F0 m pc ls rest).pc = .ok (.ldc_w index, 3) := by rw [hb]; exact hdg
  jvm_step X.here [hexec, hdg, ldc_w.wp_int (s := T) (f := F0 m pc ls rest) X.here.top hk' (by rw [he]; exact hcf) hcp, hbb]
  exact a
theorem sdZ_cg {st st2 : Nat → Int32} {cu cu2 : Nat → Nat → Int32} (hs : st = st2) (seed : Int32) : ∀ {n : Nat}, (∀ p, p < n → cu p = cu2 p) → sdZ st cu seed n = sdZ st2 cu2 seed n
  | 0, _ => rfl
  | n + 1, h => by
    subst hs
    show (if _ then _ else _) = (if _ then _ else _)
    rw [sdZ_cg rfl seed (fun p hp => h p (by omega)), h n (by omega)]
theorem sdS_cg {st st2 : Nat → Int32} {cu cu2 : Nat → Nat → Int32} (hs : st = st2) (z : zP) (seed : Int32) {n : Nat} (h : ∀ p, p < n → cu p = cu2 p) : sdS z st cu seed n = sdS z st2 cu2 seed n := by
  subst hs
  unfold sdS
  refine sumP_cg (fun p hp => ?_)
  unfold sdB
  rw [sdZ_cg (cu2 := cu2) (n := p + 1) rfl seed (fun q hq => h q (by omega)), h p hp]
theorem xQs.draw {σ u : mw_M} (h : xQs σ u) {n : Nat} (h8 : n ≤ 8) (z : zP) (seed : Int32) : sdS z (u.1 0) (cuX u 0) seed n = sdS z (σ.1 0) (cuX σ 0) seed n := sdS_cg (h.1 0 (by decide)) z seed (fun p hp => h.cu (by omega))

set_option maxHeartbeats 4000000 in
set_option maxRecDepth 100000 in
theorem cX_chance (l : Launch) (E : mw_E) (σ : mw_M) (n : Nat) (hn : σ.1 0 6 = nI n) (h8 : n ≤ 8) (z : zP) (hru : xRu σ 0 z) (seed m1 kk w : Int32) : mw_Cl shX 75 gX l yX11_chance cX11_chance 7 (some .long) (rmF 6 183) E [.ref (mw_a E 30), .int seed, .int m1, .int kk, .int w] σ (fun r u => r = chaF z (σ.1 0) (cuX σ 0) n seed m1 kk w ∧ xQs σ u) := by
  refine mw_of (by decide) gX_ok (Nat.le_of_ble_eq_true rfl) ?_
  intro p_ e_ s_ m_ below meth c_ C hr hlk Z hP ls hl
  have C : CallFix p_ m_ c_ cX11_chance 7 s_ _ lw_good RX11 := C
  have hl : lv_has ls 7 [(0, .ref (mw_a E 30)), (1, .int seed), (2, .int m1), (3, .int kk), (4, .int w)] := hl
  have hS : va_S (mw_A 75 E) s_.heap s_.heap [] := va_S.rf
  refine lv_iload_n C.1 C.2.1 dX11_chance_0 rfl (lv_at hl 2 rfl) ?_
  refine lv_iconst (v := 1) C.1 C.2.1 dX11_chance_1 (by decide) ?_
  refine lv_bipush (v := 20) C.1 C.2.1 dX11_chance_2 (by decide) ?_
  refine mw_cSi (As := [.int m1, .int 1, .int 20]) (rest := []) C Z hP hS (cX_isWithin2 l E σ m1 (1 : Int32) (20 : Int32) (1 ≤ m1.toInt ∧ m1.toInt ≤ 20) Iff.rfl) sb_X11_isWithin tw_3_42 ⟨rfl, rfl⟩ ⟨Nat.le_of_ble_eq_true rfl, Nat.le_of_ble_eq_true rfl⟩ rfl hl.1 rfl (Nat.le_of_ble_eq_true rfl) dX11_chance_4 ⟨Nat.zero_le _, Nat.zero_le _⟩ (fun r1 u2 H locs q3 hP hS => ?_)
  obtain ⟨rfl, q3u⟩ := q3
  rw [q3u] at hP; clear q3u
  refine lv_if_eq (tgt := 29) C.1 C.2.1 dX11_chance_7 (by decide) (fun c4 => ?_) (fun c4 => ?_)
  · have c4 := bI_0.mp c4
    refine lv_ldc2 (own := RX11) C.1 C.2.1 C.2.2.2.1 (C.2.2.2.2 _ tw_3_205) dX11_chance_29 ?_
    exact mw_lret C hr hlk Z hP hS dX11_chance_32 (⟨by unfold chaF; rw [if_pos (Or.inl c4)], (xQs.rf σ)⟩)
  · have c4 := bI_n.mp c4
    refine lv_iload_n C.1 C.2.1 dX11_chance_10 rfl (lv_at hl 3 rfl) ?_
    refine lv_iconst (v := 0) C.1 C.2.1 dX11_chance_11 (by decide) ?_
    refine lv_sipush (v := 9999) C.1 C.2.1 dX11_chance_12 (by decide) ?_
    refine mw_cSi (As := [.int kk, .int 0, .int 9999]) (rest := []) C Z hP hS (cX_isWithin2 l E σ kk (0 : Int32) (9999 : Int32) (0 ≤ kk.toInt ∧ kk.toInt ≤ 9999) Iff.rfl) sb_X11_isWithin tw_3_42 ⟨rfl, rfl⟩ ⟨Nat.le_of_ble_eq_true rfl, Nat.le_of_ble_eq_true rfl⟩ rfl hl.1 rfl (Nat.le_of_ble_eq_true rfl) dX11_chance_15 ⟨Nat.zero_le _, Nat.zero_le _⟩ (fun r5 u6 H locs q7 hP hS => ?_)
    obtain ⟨rfl, q7u⟩ := q7
    rw [q7u] at hP; clear q7u
    refine lv_if_eq (tgt := 29) C.1 C.2.1 dX11_chance_18 (by decide) (fun c8 => ?_) (fun c8 => ?_)
    · have c8 := bI_0.mp c8
      refine lv_ldc2 (own := RX11) C.1 C.2.1 C.2.2.2.1 (C.2.2.2.2 _ tw_3_205) dX11_chance_29 ?_
      exact mw_lret C hr hlk Z hP hS dX11_chance_32 (⟨by unfold chaF; rw [if_pos (Or.inr (Or.inl c8))], (xQs.rf σ)⟩)
    · have c8 := bI_n.mp c8
      refine lv_iload C.1 C.2.1 dX11_chance_21 (lv_at hl 4 rfl) ?_
      refine mw_cSi (As := [.int w]) (rest := []) C Z hP hS (cX_is01 l E σ w) sb_X11_isZeroOrOne tw_3_202 ⟨rfl, rfl⟩ ⟨Nat.le_of_ble_eq_true rfl, Nat.le_of_ble_eq_true rfl⟩ rfl hl.1 rfl (Nat.le_of_ble_eq_true rfl) dX11_chance_23 ⟨Nat.zero_le _, Nat.zero_le _⟩ (fun r9 u10 H locs q11 hP hS => ?_)
      obtain ⟨rfl, q11u⟩ := q11
      rw [q11u] at hP; clear q11u
      refine lv_if_ne (tgt := 33) C.1 C.2.1 dX11_chance_26 (by decide) (fun c12 => ?_) (fun c12 => ?_)
      · have c12 := bI_n.mp c12
        have hgood : ¬ (¬ (1 ≤ m1.toInt ∧ m1.toInt ≤ 20) ∨ ¬ (0 ≤ kk.toInt ∧ kk.toInt ≤ 9999) ∨ ¬ (0 ≤ w.toInt ∧ w.toInt ≤ 1)) := fun y => y.elim (fun y => y c4) (fun y => y.elim (fun y => y c8) (fun y => y c12))
        have hrm := c4
        obtain ⟨mm, hmm, emm⟩ := nI_ofI (k := 20) (by omega) hrm.2
        subst emm
        have hm1 : 1 ≤ mm := by have := hrm.1; rw [nI_toInt (by omega)] at this; omega
        refine lv_iconst (v := 0) C.1 C.2.1 dX11_chance_33 (by decide) ?_
        refine lv_istore (lv' := [(5, .int 0), (0, .ref (mw_a E 30)), (1, .int seed), (2, .int (nI mm)), (3, .int kk), (4, .int w)]) C.1 C.2.1 dX11_chance_34 hl (by decide) rfl (fun ls hl => ?_)
        refine lv_iconst (v := 0) C.1 C.2.1 dX11_chance_36 (by decide) ?_
        refine lv_istore (lv' := [(6, .int 0), (5, .int 0), (0, .ref (mw_a E 30)), (1, .int seed), (2, .int (nI mm)), (3, .int kk), (4, .int w)]) C.1 C.2.1 dX11_chance_37 hl (by decide) rfl (fun ls hl => ?_)
        have lpa : ∀ (N : Nat) (j : Nat) (A : Nat) (ςa : mw_M) (H : Heap) (locs : List Loc), mm + 1 ≤ j + N → (j ≤ mm) → (A = cnF (fun t => sdS z (σ.1 0) (cuX σ 0) (seed + nI t) n) kk j) → xQs σ ςa → va_P (mw_D E) vwCl (mw_ws shX 75 E ςa) H → va_S (mw_A 75 E) s_.heap H locs → ∀ (ls : Array Slot), lv_has ls 7 [(0, .ref (mw_a E 30)), (1, .int seed), (2, .int (nI mm)), (3, .int kk), (4, .int w), (5, .int (nI A)), (6, .int (nI j))] → xWl p_ l e_ (rmF 6 183) s_ m_ [.ref (mw_a E 30), .int seed, .int (nI mm), .int kk, .int w] below meth c_ E (fun r u => r = chaF z (σ.1 0) (cuX σ 0) n seed (nI mm) kk w ∧ xQs σ u) H locs (F0 m_ 39 ls []) := by
          intro N
          induction N with
          | zero => intros; exfalso; omega
          | succ N iha =>
            intro j A ςa H locs hNa hj eA fra hP hS ls hl
            refine lv_iload C.1 C.2.1 dX11_chance_39 (lv_at hl 6 rfl) ?_
            refine lv_iload_n C.1 C.2.1 dX11_chance_41 rfl (lv_at hl 2 rfl) ?_
            refine lv_icmp_ge (tgt := 74) C.1 C.2.1 dX11_chance_42 (by decide) (fun c13 => ?_) (fun c13 => ?_)
            · have c13 := (nI_leI (by omega) (by omega)).mp c13
              rw [show j = mm by omega] at eA
              have hA := cnF_le (fun t => sdS z (σ.1 0) (cuX σ 0) (seed + nI t) n) kk mm
              refine lv_aload_n C.1 C.2.1 dX11_chance_74 rfl (lv_at hl 0 rfl) ?_
              refine mw_getr C Z hP (30) 9 (65) (by decide) sx_30 rfl rfl (by decide) inX11 tw_3_8 dX11_chance_75 ?_
              refine lv_iload C.1 C.2.1 dX11_chance_78 (lv_at hl 5 rfl) ?_
              refine lv_i2l C.1 C.2.1 dX11_chance_80 rfl ?_
              refine mw_topl (y := lN A) (nI_l (by omega)) ?_
              refine lv_iload_n C.1 C.2.1 dX11_chance_81 rfl (lv_at hl 2 rfl) ?_
              refine lv_i2l C.1 C.2.1 dX11_chance_82 rfl ?_
              refine mw_topl (y := lN mm) (nI_l (by omega)) ?_
              refine mw_cVv (As := [.long (lN A), .long (lN mm)]) (rest := []) C Z hP hS (65) (cX_layF l E ςa A mm (by omega) (by omega)) vb_X2_lay tw_3_206 ⟨rfl, rfl⟩ ⟨Nat.le_of_ble_eq_true rfl, Nat.le_of_ble_eq_true rfl⟩ (by decide) sx_65 rfl rfl rfl hl.1 rfl (Nat.le_of_ble_eq_true rfl) dX11_chance_83 ⟨Nat.zero_le _, Nat.zero_le _⟩ (fun u15 H locs q16 hP hS => ?_)
              subst q16
              refine lv_aload_n C.1 C.2.1 dX11_chance_86 rfl (lv_at hl 0 rfl) ?_
              refine mw_getr C Z hP (30) 9 (65) (by decide) sx_30 rfl rfl (by decide) inX11 tw_3_8 dX11_chance_87 ?_
              refine lv_iload C.1 C.2.1 dX11_chance_90 (lv_at hl 4 rfl) ?_
              refine mw_cVl (As := [.int w]) (rest := []) C Z hP hS (65) (cX_part l E (fraM ςa A mm) w) vb_X2_part tw_3_222 ⟨rfl, rfl⟩ ⟨Nat.le_of_ble_eq_true rfl, Nat.le_of_ble_eq_true rfl⟩ (by decide) sx_65 rfl rfl rfl hl.1 rfl (Nat.le_of_ble_eq_true rfl) dX11_chance_92 ⟨Nat.zero_le _, Nat.zero_le _⟩ (fun r17 u18 H locs q19 hP hS => ?_)
              obtain ⟨rfl, q19u⟩ := q19
              rw [q19u] at hP; clear q19u
              exact mw_lret C hr hlk Z hP hS dX11_chance_95 (⟨by unfold chaF; rw [if_neg hgood, nI_clamp (n := mm) (by omega)]; unfold chaA; rw [← eA]; rfl, fra.fra _ _⟩)
            · have c13 : _ := (not_congr (nI_leI (by omega) (by omega))).mp c13
              refine lv_aload_n C.1 C.2.1 dX11_chance_45 rfl (lv_at hl 0 rfl) ?_
              refine mw_getr C Z hP (30) 7 (63) (by decide) sx_30 rfl rfl (by decide) inX11 tw_3_6 dX11_chance_46 ?_
              refine lv_aload_n C.1 C.2.1 dX11_chance_49 rfl (lv_at hl 0 rfl) ?_
              refine mw_getr C Z hP (30) 0 (0) (by decide) sx_30 rfl rfl (by decide) inX11 tw_2_239 dX11_chance_50 ?_
              refine lv_iload_n C.1 C.2.1 dX11_chance_53 rfl (lv_at hl 1 rfl) ?_
              refine lv_iload C.1 C.2.1 dX11_chance_54 (lv_at hl 6 rfl) ?_
              refine lv_iadd C.1 C.2.1 dX11_chance_56 ?_
              refine lv_iconst (v := 0) C.1 C.2.1 dX11_chance_57 (by decide) ?_
              refine mw_cVi (As := [.ref (mw_a E 0), .int (seed + (nI j)), .int 0]) (rest := []) C Z hP hS (63) (cX_drawn0 l E ςa 0 (by decide) n ((congrFun (fra.1 0 (by decide)) _).trans hn) h8 z (fra.ru (by decide) hru) (seed + (nI j))) vb_X4_drawn tw_4_94 ⟨rfl, rfl⟩ ⟨Nat.le_of_ble_eq_true rfl, Nat.le_of_ble_eq_true rfl⟩ (by decide) sx_63 rfl rfl rfl hl.1 rfl (Nat.le_of_ble_eq_true rfl) dX11_chance_58 ⟨Nat.zero_le _, Nat.zero_le _⟩ (fun r20 u21 H locs q22 hP hS => ?_)
              obtain ⟨e24, f23⟩ := q22
              rw [fra.draw h8 z (seed + (nI j))] at e24
              subst e24
              refine lv_iload_n C.1 C.2.1 dX11_chance_61 rfl (lv_at hl 3 rfl) ?_
              refine lv_icmp_lt (tgt := 68) C.1 C.2.1 dX11_chance_62 (by decide) (fun c25 => ?_) (fun c25 => ?_)
              · refine lv_iinc (v := nI (j + 1)) (lv' := [(6, .int (nI (j + 1))), (0, .ref (mw_a E 30)), (1, .int seed), (2, .int (nI mm)), (3, .int kk), (4, .int w), (5, .int (nI A))]) C.1 C.2.1 dX11_chance_68 hl (k := 6) rfl (nI_1 _) (by decide) rfl (fun ls hl => ?_)
                refine lv_goto (tgt := 39) C.1 C.2.1 dX11_chance_71 (by decide) ?_
                exact iha (j + 1) A u21 _ _ (by omega) (by omega) (by rw [eA]; show _ = _ + (if _ then _ else _); rw [if_pos c25]; rfl) (fra.fs f23) hP hS ls (lv_sub hl [1, 2, 3, 4, 5, 6, 0] rfl)
              · refine lv_iinc (v := nI (A + 1)) (lv' := [(5, .int (nI (A + 1))), (0, .ref (mw_a E 30)), (1, .int seed), (2, .int (nI mm)), (3, .int kk), (4, .int w), (6, .int (nI j))]) C.1 C.2.1 dX11_chance_65 hl (k := 5) rfl (nI_1 _) (by decide) rfl (fun ls hl => ?_)
                refine lv_iinc (v := nI (j + 1)) (lv' := [(6, .int (nI (j + 1))), (5, .int (nI (A + 1))), (0, .ref (mw_a E 30)), (1, .int seed), (2, .int (nI mm)), (3, .int kk), (4, .int w)]) C.1 C.2.1 dX11_chance_68 hl (k := 6) rfl (nI_1 _) (by decide) rfl (fun ls hl => ?_)
                refine lv_goto (tgt := 39) C.1 C.2.1 dX11_chance_71 (by decide) ?_
                exact iha (j + 1) (A + 1) u21 _ _ (by omega) (by omega) (by rw [eA]; show _ = _ + (if _ then _ else _); rw [if_neg c25]) (fra.fs f23) hP hS ls (lv_sub hl [2, 3, 4, 5, 6, 1, 0] rfl)
        exact lpa (mm + 1) 0 0 σ _ _ (by omega) (by omega) (rfl) (xQs.rf σ) hP hS ls (lv_sub hl [2, 3, 4, 5, 6, 1, 0] rfl)
      · have c12 := bI_0.mp c12
        refine lv_ldc2 (own := RX11) C.1 C.2.1 C.2.2.2.1 (C.2.2.2.2 _ tw_3_205) dX11_chance_29 ?_
        exact mw_lret C hr hlk Z hP hS dX11_chance_32 (⟨by unfold chaF; rw [if_pos (Or.inr (Or.inr c12))], (xQs.rf σ)⟩)

def bitsF (x : Int32) : Int32 := (((((((x - (((x.toUInt32 >>> ((1 : Int32).toUInt32 &&& Int32.toUInt32 31)).toInt32) &&& 1431655765)) &&& 858993459) + ((((x - (((x.toUInt32 >>> ((1 : Int32).toUInt32 &&& Int32.toUInt32 31)).toInt32) &&& 1431655765)).toUInt32 >>> ((2 : Int32).toUInt32 &&& Int32.toUInt32 31)).toInt32) &&& 858993459)) + (((((x - (((x.toUInt32 >>> ((1 : Int32).toUInt32 &&& Int32.toUInt32 31)).toInt32) &&& 1431655765)) &&& 858993459) + ((((x - (((x.toUInt32 >>> ((1 : Int32).toUInt32 &&& Int32.toUInt32 31)).toInt32) &&& 1431655765)).toUInt32 >>> ((2 : Int32).toUInt32 &&& Int32.toUInt32 31)).toInt32) &&& 858993459)).toUInt32 >>> ((4 : Int32).toUInt32 &&& Int32.toUInt32 31)).toInt32)) &&& 252645135) + (((((((x - (((x.toUInt32 >>> ((1 : Int32).toUInt32 &&& Int32.toUInt32 31)).toInt32) &&& 1431655765)) &&& 858993459) + ((((x - (((x.toUInt32 >>> ((1 : Int32).toUInt32 &&& Int32.toUInt32 31)).toInt32) &&& 1431655765)).toUInt32 >>> ((2 : Int32).toUInt32 &&& Int32.toUInt32 31)).toInt32) &&& 858993459)) + (((((x - (((x.toUInt32 >>> ((1 : Int32).toUInt32 &&& Int32.toUInt32 31)).toInt32) &&& 1431655765)) &&& 858993459) + ((((x - (((x.toUInt32 >>> ((1 : Int32).toUInt32 &&& Int32.toUInt32 31)).toInt32) &&& 1431655765)).toUInt32 >>> ((2 : Int32).toUInt32 &&& Int32.toUInt32 31)).toInt32) &&& 858993459)).toUInt32 >>> ((4 : Int32).toUInt32 &&& Int32.toUInt32 31)).toInt32)) &&& 252645135).toUInt32 >>> ((8 : Int32).toUInt32 &&& Int32.toUInt32 31)).toInt32)) + ((((((((x - (((x.toUInt32 >>> ((1 : Int32).toUInt32 &&& Int32.toUInt32 31)).toInt32) &&& 1431655765)) &&& 858993459) + ((((x - (((x.toUInt32 >>> ((1 : Int32).toUInt32 &&& Int32.toUInt32 31)).toInt32) &&& 1431655765)).toUInt32 >>> ((2 : Int32).toUInt32 &&& Int32.toUInt32 31)).toInt32) &&& 858993459)) + (((((x - (((x.toUInt32 >>> ((1 : Int32).toUInt32 &&& Int32.toUInt32 31)).toInt32) &&& 1431655765)) &&& 858993459) + ((((x - (((x.toUInt32 >>> ((1 : Int32).toUInt32 &&& Int32.toUInt32 31)).toInt32) &&& 1431655765)).toUInt32 >>> ((2 : Int32).toUInt32 &&& Int32.toUInt32 31)).toInt32) &&& 858993459)).toUInt32 >>> ((4 : Int32).toUInt32 &&& Int32.toUInt32 31)).toInt32)) &&& 252645135) + (((((((x - (((x.toUInt32 >>> ((1 : Int32).toUInt32 &&& Int32.toUInt32 31)).toInt32) &&& 1431655765)) &&& 858993459) + ((((x - (((x.toUInt32 >>> ((1 : Int32).toUInt32 &&& Int32.toUInt32 31)).toInt32) &&& 1431655765)).toUInt32 >>> ((2 : Int32).toUInt32 &&& Int32.toUInt32 31)).toInt32) &&& 858993459)) + (((((x - (((x.toUInt32 >>> ((1 : Int32).toUInt32 &&& Int32.toUInt32 31)).toInt32) &&& 1431655765)) &&& 858993459) + ((((x - (((x.toUInt32 >>> ((1 : Int32).toUInt32 &&& Int32.toUInt32 31)).toInt32) &&& 1431655765)).toUInt32 >>> ((2 : Int32).toUInt32 &&& Int32.toUInt32 31)).toInt32) &&& 858993459)).toUInt32 >>> ((4 : Int32).toUInt32 &&& Int32.toUInt32 31)).toInt32)) &&& 252645135).toUInt32 >>> ((8 : Int32).toUInt32 &&& Int32.toUInt32 31)).toInt32)).toUInt32 >>> ((16 : Int32).toUInt32 &&& Int32.toUInt32 31)).toInt32)) &&& 63
set_option maxHeartbeats 4000000 in
set_option maxRecDepth 100000 in
theorem cX_bits (l : Launch) (E : mw_E) (σ : mw_M) (x : Int32) : mw_Ci shX 75 gX l yJ6_bitCount_0f7a4 cJ6_bitCount_0f7a4 1 (some .int) (rmF 1 64) E [.int x] σ (fun r u => r = bitsF x ∧ u = σ) := by
  refine mw_ofJ (by decide +kernel) gX_ok (Nat.le_of_ble_eq_true rfl) ?_
  intro p_ e_ s_ m_ below meth c_ C hr hlk Z hP ls hl
  have C : CallFix p_ m_ c_ cJ6_bitCount_0f7a4 1 s_ _ lw_good RJ6 := C
  have hl : lv_has ls 1 [(0, .int x)] := hl
  have hS : va_S (mw_A 75 E) s_.heap s_.heap [] := va_S.rf
  refine lv_iload_n C.1 C.2.1 dJ6_bitCount_0f7a4_0 rfl (lv_at hl 0 rfl) ?_
  refine lv_iload_n C.1 C.2.1 dJ6_bitCount_0f7a4_1 rfl (lv_at hl 0 rfl) ?_
  refine lv_iconst (v := 1) C.1 C.2.1 dJ6_bitCount_0f7a4_2 (by decide) ?_
  refine lv_iushr C.1 C.2.1 dJ6_bitCount_0f7a4_3 rfl ?_
  refine xw_ldcw (own := RJ6) C.1 C.2.1 C.2.2.2.1 (C.2.2.2.2 _ tw_4_118) dJ6_bitCount_0f7a4_4 ?_
  refine lv_iand C.1 C.2.1 dJ6_bitCount_0f7a4_7 ?_
  refine lv_isub C.1 C.2.1 dJ6_bitCount_0f7a4_8 ?_
  refine lv_istore_n (lv' := [(0, .int (x - (((x.toUInt32 >>> ((1 : Int32).toUInt32 &&& Int32.toUInt32 31)).toInt32) &&& 1431655765)))]) C.1 C.2.1 dJ6_bitCount_0f7a4_9 rfl hl (by decide) rfl (fun ls hl => ?_)
  refine lv_iload_n C.1 C.2.1 dJ6_bitCount_0f7a4_10 rfl (lv_at hl 0 rfl) ?_
  refine xw_ldcw (own := RJ6) C.1 C.2.1 C.2.2.2.1 (C.2.2.2.2 _ tw_4_119) dJ6_bitCount_0f7a4_11 ?_
  refine lv_iand C.1 C.2.1 dJ6_bitCount_0f7a4_14 ?_
  refine lv_iload_n C.1 C.2.1 dJ6_bitCount_0f7a4_15 rfl (lv_at hl 0 rfl) ?_
  refine lv_iconst (v := 2) C.1 C.2.1 dJ6_bitCount_0f7a4_16 (by decide) ?_
  refine lv_iushr C.1 C.2.1 dJ6_bitCount_0f7a4_17 rfl ?_
  refine xw_ldcw (own := RJ6) C.1 C.2.1 C.2.2.2.1 (C.2.2.2.2 _ tw_4_119) dJ6_bitCount_0f7a4_18 ?_
  refine lv_iand C.1 C.2.1 dJ6_bitCount_0f7a4_21 ?_
  refine lv_iadd C.1 C.2.1 dJ6_bitCount_0f7a4_22 ?_
  refine lv_istore_n (lv' := [(0, .int (((x - (((x.toUInt32 >>> ((1 : Int32).toUInt32 &&& Int32.toUInt32 31)).toInt32) &&& 1431655765)) &&& 858993459) + ((((x - (((x.toUInt32 >>> ((1 : Int32).toUInt32 &&& Int32.toUInt32 31)).toInt32) &&& 1431655765)).toUInt32 >>> ((2 : Int32).toUInt32 &&& Int32.toUInt32 31)).toInt32) &&& 858993459)))]) C.1 C.2.1 dJ6_bitCount_0f7a4_23 rfl hl (by decide) rfl (fun ls hl => ?_)
  refine lv_iload_n C.1 C.2.1 dJ6_bitCount_0f7a4_24 rfl (lv_at hl 0 rfl) ?_
  refine lv_iload_n C.1 C.2.1 dJ6_bitCount_0f7a4_25 rfl (lv_at hl 0 rfl) ?_
  refine lv_iconst (v := 4) C.1 C.2.1 dJ6_bitCount_0f7a4_26 (by decide) ?_
  refine lv_iushr C.1 C.2.1 dJ6_bitCount_0f7a4_27 rfl ?_
  refine lv_iadd C.1 C.2.1 dJ6_bitCount_0f7a4_28 ?_
  refine xw_ldcw (own := RJ6) C.1 C.2.1 C.2.2.2.1 (C.2.2.2.2 _ tw_4_120) dJ6_bitCount_0f7a4_29 ?_
  refine lv_iand C.1 C.2.1 dJ6_bitCount_0f7a4_32 ?_
  refine lv_istore_n (lv' := [(0, .int (((((x - (((x.toUInt32 >>> ((1 : Int32).toUInt32 &&& Int32.toUInt32 31)).toInt32) &&& 1431655765)) &&& 858993459) + ((((x - (((x.toUInt32 >>> ((1 : Int32).toUInt32 &&& Int32.toUInt32 31)).toInt32) &&& 1431655765)).toUInt32 >>> ((2 : Int32).toUInt32 &&& Int32.toUInt32 31)).toInt32) &&& 858993459)) + (((((x - (((x.toUInt32 >>> ((1 : Int32).toUInt32 &&& Int32.toUInt32 31)).toInt32) &&& 1431655765)) &&& 858993459) + ((((x - (((x.toUInt32 >>> ((1 : Int32).toUInt32 &&& Int32.toUInt32 31)).toInt32) &&& 1431655765)).toUInt32 >>> ((2 : Int32).toUInt32 &&& Int32.toUInt32 31)).toInt32) &&& 858993459)).toUInt32 >>> ((4 : Int32).toUInt32 &&& Int32.toUInt32 31)).toInt32)) &&& 252645135))]) C.1 C.2.1 dJ6_bitCount_0f7a4_33 rfl hl (by decide) rfl (fun ls hl => ?_)
  refine lv_iload_n C.1 C.2.1 dJ6_bitCount_0f7a4_34 rfl (lv_at hl 0 rfl) ?_
  refine lv_iload_n C.1 C.2.1 dJ6_bitCount_0f7a4_35 rfl (lv_at hl 0 rfl) ?_
  refine lv_bipush (v := 8) C.1 C.2.1 dJ6_bitCount_0f7a4_36 (by decide) ?_
  refine lv_iushr C.1 C.2.1 dJ6_bitCount_0f7a4_38 rfl ?_
  refine lv_iadd C.1 C.2.1 dJ6_bitCount_0f7a4_39 ?_
  refine lv_istore_n (lv' := [(0, .int ((((((x - (((x.toUInt32 >>> ((1 : Int32).toUInt32 &&& Int32.toUInt32 31)).toInt32) &&& 1431655765)) &&& 858993459) + ((((x - (((x.toUInt32 >>> ((1 : Int32).toUInt32 &&& Int32.toUInt32 31)).toInt32) &&& 1431655765)).toUInt32 >>> ((2 : Int32).toUInt32 &&& Int32.toUInt32 31)).toInt32) &&& 858993459)) + (((((x - (((x.toUInt32 >>> ((1 : Int32).toUInt32 &&& Int32.toUInt32 31)).toInt32) &&& 1431655765)) &&& 858993459) + ((((x - (((x.toUInt32 >>> ((1 : Int32).toUInt32 &&& Int32.toUInt32 31)).toInt32) &&& 1431655765)).toUInt32 >>> ((2 : Int32).toUInt32 &&& Int32.toUInt32 31)).toInt32) &&& 858993459)).toUInt32 >>> ((4 : Int32).toUInt32 &&& Int32.toUInt32 31)).toInt32)) &&& 252645135) + (((((((x - (((x.toUInt32 >>> ((1 : Int32).toUInt32 &&& Int32.toUInt32 31)).toInt32) &&& 1431655765)) &&& 858993459) + ((((x - (((x.toUInt32 >>> ((1 : Int32).toUInt32 &&& Int32.toUInt32 31)).toInt32) &&& 1431655765)).toUInt32 >>> ((2 : Int32).toUInt32 &&& Int32.toUInt32 31)).toInt32) &&& 858993459)) + (((((x - (((x.toUInt32 >>> ((1 : Int32).toUInt32 &&& Int32.toUInt32 31)).toInt32) &&& 1431655765)) &&& 858993459) + ((((x - (((x.toUInt32 >>> ((1 : Int32).toUInt32 &&& Int32.toUInt32 31)).toInt32) &&& 1431655765)).toUInt32 >>> ((2 : Int32).toUInt32 &&& Int32.toUInt32 31)).toInt32) &&& 858993459)).toUInt32 >>> ((4 : Int32).toUInt32 &&& Int32.toUInt32 31)).toInt32)) &&& 252645135).toUInt32 >>> ((8 : Int32).toUInt32 &&& Int32.toUInt32 31)).toInt32)))]) C.1 C.2.1 dJ6_bitCount_0f7a4_40 rfl hl (by decide) rfl (fun ls hl => ?_)
  refine lv_iload_n C.1 C.2.1 dJ6_bitCount_0f7a4_41 rfl (lv_at hl 0 rfl) ?_
  refine lv_iload_n C.1 C.2.1 dJ6_bitCount_0f7a4_42 rfl (lv_at hl 0 rfl) ?_
  refine lv_bipush (v := 16) C.1 C.2.1 dJ6_bitCount_0f7a4_43 (by decide) ?_
  refine lv_iushr C.1 C.2.1 dJ6_bitCount_0f7a4_45 rfl ?_
  refine lv_iadd C.1 C.2.1 dJ6_bitCount_0f7a4_46 ?_
  refine lv_istore_n (lv' := [(0, .int (((((((x - (((x.toUInt32 >>> ((1 : Int32).toUInt32 &&& Int32.toUInt32 31)).toInt32) &&& 1431655765)) &&& 858993459) + ((((x - (((x.toUInt32 >>> ((1 : Int32).toUInt32 &&& Int32.toUInt32 31)).toInt32) &&& 1431655765)).toUInt32 >>> ((2 : Int32).toUInt32 &&& Int32.toUInt32 31)).toInt32) &&& 858993459)) + (((((x - (((x.toUInt32 >>> ((1 : Int32).toUInt32 &&& Int32.toUInt32 31)).toInt32) &&& 1431655765)) &&& 858993459) + ((((x - (((x.toUInt32 >>> ((1 : Int32).toUInt32 &&& Int32.toUInt32 31)).toInt32) &&& 1431655765)).toUInt32 >>> ((2 : Int32).toUInt32 &&& Int32.toUInt32 31)).toInt32) &&& 858993459)).toUInt32 >>> ((4 : Int32).toUInt32 &&& Int32.toUInt32 31)).toInt32)) &&& 252645135) + (((((((x - (((x.toUInt32 >>> ((1 : Int32).toUInt32 &&& Int32.toUInt32 31)).toInt32) &&& 1431655765)) &&& 858993459) + ((((x - (((x.toUInt32 >>> ((1 : Int32).toUInt32 &&& Int32.toUInt32 31)).toInt32) &&& 1431655765)).toUInt32 >>> ((2 : Int32).toUInt32 &&& Int32.toUInt32 31)).toInt32) &&& 858993459)) + (((((x - (((x.toUInt32 >>> ((1 : Int32).toUInt32 &&& Int32.toUInt32 31)).toInt32) &&& 1431655765)) &&& 858993459) + ((((x - (((x.toUInt32 >>> ((1 : Int32).toUInt32 &&& Int32.toUInt32 31)).toInt32) &&& 1431655765)).toUInt32 >>> ((2 : Int32).toUInt32 &&& Int32.toUInt32 31)).toInt32) &&& 858993459)).toUInt32 >>> ((4 : Int32).toUInt32 &&& Int32.toUInt32 31)).toInt32)) &&& 252645135).toUInt32 >>> ((8 : Int32).toUInt32 &&& Int32.toUInt32 31)).toInt32)) + ((((((((x - (((x.toUInt32 >>> ((1 : Int32).toUInt32 &&& Int32.toUInt32 31)).toInt32) &&& 1431655765)) &&& 858993459) + ((((x - (((x.toUInt32 >>> ((1 : Int32).toUInt32 &&& Int32.toUInt32 31)).toInt32) &&& 1431655765)).toUInt32 >>> ((2 : Int32).toUInt32 &&& Int32.toUInt32 31)).toInt32) &&& 858993459)) + (((((x - (((x.toUInt32 >>> ((1 : Int32).toUInt32 &&& Int32.toUInt32 31)).toInt32) &&& 1431655765)) &&& 858993459) + ((((x - (((x.toUInt32 >>> ((1 : Int32).toUInt32 &&& Int32.toUInt32 31)).toInt32) &&& 1431655765)).toUInt32 >>> ((2 : Int32).toUInt32 &&& Int32.toUInt32 31)).toInt32) &&& 858993459)).toUInt32 >>> ((4 : Int32).toUInt32 &&& Int32.toUInt32 31)).toInt32)) &&& 252645135) + (((((((x - (((x.toUInt32 >>> ((1 : Int32).toUInt32 &&& Int32.toUInt32 31)).toInt32) &&& 1431655765)) &&& 858993459) + ((((x - (((x.toUInt32 >>> ((1 : Int32).toUInt32 &&& Int32.toUInt32 31)).toInt32) &&& 1431655765)).toUInt32 >>> ((2 : Int32).toUInt32 &&& Int32.toUInt32 31)).toInt32) &&& 858993459)) + (((((x - (((x.toUInt32 >>> ((1 : Int32).toUInt32 &&& Int32.toUInt32 31)).toInt32) &&& 1431655765)) &&& 858993459) + ((((x - (((x.toUInt32 >>> ((1 : Int32).toUInt32 &&& Int32.toUInt32 31)).toInt32) &&& 1431655765)).toUInt32 >>> ((2 : Int32).toUInt32 &&& Int32.toUInt32 31)).toInt32) &&& 858993459)).toUInt32 >>> ((4 : Int32).toUInt32 &&& Int32.toUInt32 31)).toInt32)) &&& 252645135).toUInt32 >>> ((8 : Int32).toUInt32 &&& Int32.toUInt32 31)).toInt32)).toUInt32 >>> ((16 : Int32).toUInt32 &&& Int32.toUInt32 31)).toInt32)))]) C.1 C.2.1 dJ6_bitCount_0f7a4_47 rfl hl (by decide) rfl (fun ls hl => ?_)
  refine lv_iload_n C.1 C.2.1 dJ6_bitCount_0f7a4_48 rfl (lv_at hl 0 rfl) ?_
  refine lv_bipush (v := 63) C.1 C.2.1 dJ6_bitCount_0f7a4_49 (by decide) ?_
  refine lv_iand C.1 C.2.1 dJ6_bitCount_0f7a4_51 ?_
  exact mw_iret C hr hlk Z hP hS dJ6_bitCount_0f7a4_52 (⟨rfl, rfl⟩)

set_option maxRecDepth 100000 in
theorem bits_all : ∀ k : Fin 1024, bitsF (nI k.val) = sumP (fun h => (nI k.val >>> (nI h &&& 31)) &&& 1) 10 := by decide +kernel
theorem bits_hours {st : Nat → Int32} {k : Nat} (hk : k ≤ 1023) (h : st 3 = nI k) : bitsF (st 3) = hoursF st := by
  unfold hoursF
  rw [h]
  exact bits_all ⟨k, by omega⟩

set_option maxHeartbeats 4000000 in
set_option maxRecDepth 100000 in
theorem cX_count (l : Launch) (E : mw_E) (σ : mw_M) (n : Nat) (hn : σ.1 0 6 = nI n) (h8 : n ≤ 8) (k3 : Nat) (hk3 : k3 ≤ 1023) (ek3 : σ.1 0 3 = nI k3) (w : Int32) : mw_Ci shX 75 gX l yX11_count cX11_count 2 (some .int) (rmF 2 86) E [.ref (mw_a E 30), .int w] σ (fun r u => r = countF (σ.1 0) (cuX σ 0) n (σ.1 37 1) (σ.1 31 1) (σ.1 0 5) w ∧ u = σ) := by
  refine mw_of (by decide) gX_ok (Nat.le_of_ble_eq_true rfl) ?_
  intro p_ e_ s_ m_ below meth c_ C hr hlk Z hP ls hl
  have C : CallFix p_ m_ c_ cX11_count 2 s_ _ lw_good RX11 := C
  have hl : lv_has ls 2 [(0, .ref (mw_a E 30)), (1, .int w)] := hl
  have hS : va_S (mw_A 75 E) s_.heap s_.heap [] := va_S.rf
  refine lv_iload_n C.1 C.2.1 dX11_count_0 rfl (lv_at hl 1 rfl) ?_
  by_cases c1 : w = 0
  · refine lv_tableIn (off := 39) (tgt := 40) C.1 C.2.1 dX11_count_1 (by rw [c1]; decide) (by rw [c1]; decide) (by rw [c1]; decide) (by decide) ?_
    refine lv_aload_n C.1 C.2.1 dX11_count_40 rfl (lv_at hl 0 rfl) ?_
    refine mw_getr C Z hP (30) 0 (0) (by decide) sx_30 rfl rfl (by decide) inX11 tw_2_239 dX11_count_41 ?_
    refine mw_geti C Z hP (0) 6 (by decide) sx_0 rfl rfl (by decide) inX6 tw_1_93 dX11_count_44 ?_
    refine mw_top (y := nI n) (hn) ?_
    exact mw_iret C hr hlk Z hP hS dX11_count_47 (⟨by rw [c1]; rfl, rfl⟩)
  by_cases c2 : w = 1
  · refine lv_tableIn (off := 47) (tgt := 48) C.1 C.2.1 dX11_count_1 (by rw [c2]; decide) (by rw [c2]; decide) (by rw [c2]; decide) (by decide) ?_
    refine lv_aload_n C.1 C.2.1 dX11_count_48 rfl (lv_at hl 0 rfl) ?_
    refine mw_getr C Z hP (30) 0 (0) (by decide) sx_30 rfl rfl (by decide) inX11 tw_2_239 dX11_count_49 ?_
    refine mw_geti C Z hP (0) 3 (by decide) sx_0 rfl rfl (by decide) inX6 tw_1_86 dX11_count_52 ?_
    refine mw_cSi (As := [.int (σ.1 0 3)]) (rest := []) C Z hP hS (cX_bits l E σ (σ.1 0 3)) sb_J6_bitCount_0f7a4 tw_4_115 ⟨rfl, rfl⟩ ⟨Nat.le_of_ble_eq_true rfl, Nat.le_of_ble_eq_true rfl⟩ rfl hl.1 rfl (Nat.le_of_ble_eq_true rfl) dX11_count_55 ⟨Nat.zero_le _, Nat.zero_le _⟩ (fun r3 u4 H locs q5 hP hS => ?_)
    obtain ⟨rfl, q5u⟩ := q5
    rw [q5u] at hP; clear q5u
    exact mw_iret C hr hlk Z hP hS dX11_count_58 (⟨by rw [c2]; exact bits_hours hk3 ek3, rfl⟩)
  by_cases c6 : w = 2
  · refine lv_tableIn (off := 58) (tgt := 59) C.1 C.2.1 dX11_count_1 (by rw [c6]; decide) (by rw [c6]; decide) (by rw [c6]; decide) (by decide) ?_
    refine lv_aload_n C.1 C.2.1 dX11_count_59 rfl (lv_at hl 0 rfl) ?_
    refine mw_getr C Z hP (30) 0 (0) (by decide) sx_30 rfl rfl (by decide) inX11 tw_2_239 dX11_count_60 ?_
    refine mw_cVi (As := []) (rest := []) C Z hP hS (0) (cX_bought l E σ 0 (by decide) n hn h8) vb_X6_boughtByAll tw_4_121 ⟨rfl, rfl⟩ ⟨Nat.le_of_ble_eq_true rfl, Nat.le_of_ble_eq_true rfl⟩ (by decide) sx_0 rfl rfl rfl hl.1 rfl (Nat.le_of_ble_eq_true rfl) dX11_count_63 ⟨Nat.zero_le _, Nat.zero_le _⟩ (fun r7 u8 H locs q9 hP hS => ?_)
    obtain ⟨rfl, q9u⟩ := q9
    rw [q9u] at hP; clear q9u
    exact mw_iret C hr hlk Z hP hS dX11_count_66 (⟨by rw [c6]; rfl, rfl⟩)
  by_cases c10 : w = 3
  · refine lv_tableIn (off := 66) (tgt := 67) C.1 C.2.1 dX11_count_1 (by rw [c10]; decide) (by rw [c10]; decide) (by rw [c10]; decide) (by decide) ?_
    refine lv_aload_n C.1 C.2.1 dX11_count_67 rfl (lv_at hl 0 rfl) ?_
    refine mw_getr C Z hP (30) 6 (37) (by decide) sx_30 rfl rfl (by decide) inX11 tw_3_5 dX11_count_68 ?_
    refine mw_geti C Z hP (37) 1 (by decide) sx_37 rfl rfl (by decide) inX9 tw_1_193 dX11_count_71 ?_
    exact mw_iret C hr hlk Z hP hS dX11_count_74 (⟨by rw [c10]; rfl, rfl⟩)
  by_cases c11 : w = 4
  · refine lv_tableIn (off := 74) (tgt := 75) C.1 C.2.1 dX11_count_1 (by rw [c11]; decide) (by rw [c11]; decide) (by rw [c11]; decide) (by decide) ?_
    refine lv_aload_n C.1 C.2.1 dX11_count_75 rfl (lv_at hl 0 rfl) ?_
    refine mw_getr C Z hP (30) 4 (31) (by decide) sx_30 rfl rfl (by decide) inX11 tw_3_3 dX11_count_76 ?_
    refine mw_geti C Z hP (31) 1 (by decide) sx_31 rfl rfl (by decide) inX7 tw_1_124 dX11_count_79 ?_
    exact mw_iret C hr hlk Z hP hS dX11_count_82 (⟨by rw [c11]; rfl, rfl⟩)
  by_cases c12 : w = 5
  · refine lv_tableIn (off := 82) (tgt := 83) C.1 C.2.1 dX11_count_1 (by rw [c12]; decide) (by rw [c12]; decide) (by rw [c12]; decide) (by decide) ?_
    refine lv_aload_n C.1 C.2.1 dX11_count_83 rfl (lv_at hl 0 rfl) ?_
    refine mw_getr C Z hP (30) 0 (0) (by decide) sx_30 rfl rfl (by decide) inX11 tw_2_239 dX11_count_84 ?_
    refine mw_geti C Z hP (0) 5 (by decide) sx_0 rfl rfl (by decide) inX6 tw_1_91 dX11_count_87 ?_
    exact mw_iret C hr hlk Z hP hS dX11_count_90 (⟨by rw [c12]; rfl, rfl⟩)
  refine lv_tableOut (tgt := 91) C.1 C.2.1 dX11_count_1 (by have z0 := (not_congr (ni_eq _ _)).mp c1; have y0 : (0 : Int32).toInt = 0 := rfl; have z1 := (not_congr (ni_eq _ _)).mp c2; have y1 : (1 : Int32).toInt = 1 := rfl; have z2 := (not_congr (ni_eq _ _)).mp c6; have y2 : (2 : Int32).toInt = 2 := rfl; have z3 := (not_congr (ni_eq _ _)).mp c10; have y3 : (3 : Int32).toInt = 3 := rfl; have z4 := (not_congr (ni_eq _ _)).mp c11; have y4 : (4 : Int32).toInt = 4 := rfl; have z5 := (not_congr (ni_eq _ _)).mp c12; have y5 : (5 : Int32).toInt = 5 := rfl; omega) (by decide) ?_
  refine lv_bipush (v := -2) C.1 C.2.1 dX11_count_91 (by decide) ?_
  exact mw_iret C hr hlk Z hP hS dX11_count_93 (⟨by unfold countF; rw [if_pos (fun y => by simp only [ni_lt, ni_le, ni_eq] at c1 c2 c6 c10 c11 c12; have q0 : (0 : Int32).toInt = 0 := rfl; have q1 : (1 : Int32).toInt = 1 := rfl; have q2 : (2 : Int32).toInt = 2 := rfl; have q3 : (3 : Int32).toInt = 3 := rfl; have q4 : (4 : Int32).toInt = 4 := rfl; have q5 : (5 : Int32).toInt = 5 := rfl; omega)], rfl⟩)
