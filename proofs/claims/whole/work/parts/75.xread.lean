/-! THE CLASS'S READER: READ, TEXT -/
theorem gPart_0 {key : Nat} {ts : List (Nat × Nat)} (h : ¬ hdC ts = key) : gPart key ts = .inr (hdP ts) := by
  cases ts with
  | nil => rfl
  | cons k t =>
    obtain ⟨c, p⟩ := k
    have h : ¬ c = key := h
    show (if _ then _ else _) = _
    rw [if_neg h]
    rfl
theorem gPart_t {key : Nat} {ts : List (Nat × Nat)} (hk : key ≠ 21) (h : hdC ts = key) : gPart key ts = (match (gD 5).2.2 ts.tail with | .inr q => .inr q | .inl (_, []) => .inr 0 | .inl (cs, (c2, p2) :: ts2) => if c2 = 14 then .inl (cs, ts2) else .inr p2) := by
  cases ts with
  | nil => exact absurd h (fun y => hk (by rw [← y]; rfl))
  | cons k t =>
    obtain ⟨c, p⟩ := k
    have h : c = key := h
    show (if _ then _ else _) = _
    rw [if_pos h]
    rfl
theorem gPart_1 {key : Nat} {ts ts2 : List (Nat × Nat)} {cs : List Nat} (hk : key ≠ 21) (h : hdC ts = key) (e : (gD 5).2.2 ts.tail = .inl (cs, ts2)) (h2 : hdC ts2 = 14) : gPart key ts = .inl (cs, ts2.tail) := by
  rw [gPart_t hk h, e]
  exact gCl_t 14 (by decide) h2
theorem gPart_2 {key : Nat} {ts ts2 : List (Nat × Nat)} {cs : List Nat} (hk : key ≠ 21) (h : hdC ts = key) (e : (gD 5).2.2 ts.tail = .inl (cs, ts2)) (h2 : ¬ hdC ts2 = 14) : gPart key ts = .inr (hdP ts2) := by
  rw [gPart_t hk h, e]
  exact gCl_f 14 h2
theorem gPart_3 {key : Nat} {ts : List (Nat × Nat)} {q : Nat} (hk : key ≠ 21) (h : hdC ts = key) (e : (gD 5).2.2 ts.tail = .inr q) : gPart key ts = .inr q := by
  rw [gPart_t hk h, e]
theorem eL.tail {ts : List (Nat × Nat)} (h : eL ts) (hc : hdC ts ≠ 21) : eL ts.tail := by
  cases ts with
  | nil => exact absurd rfl h.ne
  | cons k t => exact h.tl hc
theorem gPart_eL {key : Nat} {ts ts2 : List (Nat × Nat)} {cs : List Nat} (hk : key ≠ 21) (he : eL ts) (h : hdC ts = key) (e : (gD 5).2.2 ts.tail = .inl (cs, ts2)) (h2 : hdC ts2 = 14) : eL ts2.tail := ((gD_eL 5).2.2 _ _ _ (he.tail (by omega)) e).tail (by omega)
theorem xText_1 {T : List (Nat × Nat)} {q : Nat} (h : gPart 6 T = .inr q) : gText T = .inr q := by unfold gText; rw [h]
theorem xText_2 {T t1 : List (Nat × Nat)} {a : List Nat} {q : Nat} (h : gPart 6 T = .inl (a, t1)) (h2 : gPart 7 t1 = .inr q) : gText T = .inr q := by unfold gText; rw [h]; dsimp only; rw [h2]
theorem xText_3 {T t1 t2 : List (Nat × Nat)} {a b : List Nat} {q : Nat} (h : gPart 6 T = .inl (a, t1)) (h2 : gPart 7 t1 = .inl (b, t2)) (h3 : gPart 8 t2 = .inr q) : gText T = .inr q := by unfold gText; rw [h]; dsimp only; rw [h2]; dsimp only; rw [h3]
theorem xText_4 {T t1 t2 t3 : List (Nat × Nat)} {a b c : List Nat} (h : gPart 6 T = .inl (a, t1)) (h2 : gPart 7 t1 = .inl (b, t2)) (h3 : gPart 8 t2 = .inl (c, t3)) (he : eL t3) : (hdC t3 = 21 → gText T = .inl (a, b, c)) ∧ (¬ hdC t3 = 21 → gText T = .inr (hdP t3)) := by
  unfold gText
  rw [h]
  dsimp only
  rw [h2]
  dsimp only
  rw [h3]
  cases t3 with
  | nil => exact absurd rfl he.ne
  | cons k t =>
    obtain ⟨d, p⟩ := k
    exact ⟨fun y => by have y : d = 21 := y; dsimp only; rw [if_pos y], fun y => by have y : ¬ d = 21 := y; dsimp only; rw [if_neg y]; rfl⟩
def xRf (j : Nat) (σ u : mw_M) : Prop := (∀ k, k ≠ 33 → k ≠ 34 → k ≠ 39 + j → u.1 k = σ.1 k) ∧ (∀ k, k ≠ 35 → k ≠ 36 → k ≠ 45 + j → k ≠ 51 + j → u.2.1 k = σ.2.1 k) ∧ u.2.2 = σ.2.2
theorem xCu.rf {σ u : mw_M} {T : List (Nat × Nat)} (h : xCu σ T u) (j : Nat) : xRf j σ u := ⟨fun k _ k2 _ => h.2.2.1 k k2, fun k k1 k2 _ _ => h.2.2.2.1 k k1 k2, h.2.2.2.2⟩
theorem xRf.pf {j : Nat} {a b c : mw_M} (h : xRf j a b) (h2 : xPf j b c) : xRf j a c := ⟨fun k k1 k2 k3 => (h2.1 k k1 k3).trans (h.1 k k1 k2 k3), fun k k1 k2 k3 k4 => (h2.2.1 k k3).trans (h.2.1 k k1 k2 k3 k4), h2.2.2.trans h.2.2⟩
theorem xRf.rd {j : Nat} {σ u : mw_M} (h : xRf j σ u) (f : Nat) (v : Int32) : xRf j σ (mw_si u 33 f v) := ⟨fun k k1 k2 k3 => (mw_npF k1).trans (h.1 k k1 k2 k3), h.2.1, h.2.2⟩
theorem xRf.tr {j : Nat} {a b c : mw_M} (h : xRf j a b) (h2 : xPf j b c) : xRf j a c := h.pf h2
theorem xRf.sz {j : Nat} {σ u : mw_M} (h : xRf j σ u) (f : Nat) (v : Int32) : xRf j σ (mw_si u (39 + j) f v) := ⟨fun k k1 k2 k3 => (mw_npF k3).trans (h.1 k k1 k2 k3), h.2.1, h.2.2⟩
theorem xRf.en {j : Nat} {σ u : mw_M} (h : xRf j σ u) (i : Nat) (v : Int32) : xRf j σ (mw_sa u (51 + j) i v) := ⟨h.1, fun k k1 k2 k3 k4 => (mw_sap k4).trans (h.2.1 k k1 k2 k3 k4), h.2.2⟩
theorem xPo.begin {σ u : mw_M} {T : List (Nat × Nat)} {j : Nat} (hj : j < 6) (h : xCu σ T u) (hl : T.length ≤ 161) (ho : tkOK T) (hp : ∀ k, k ∈ T → k.2 ≤ 160) : xPo (mw_si (mw_si (mw_si u 33 1 0) 33 2 (-1)) (39 + j) 3 0) T j 0 T [] 161 := by
  refine ⟨⟨hl, ?_, h.2.1, ho, hp⟩, rfl, Nat.zero_le _, ?_, ?_, ⟨mw_sf, fun i hi => absurd hi (Nat.not_lt_zero i)⟩, by rw [List.length_nil]; omega⟩
  · rw [mw_np (by omega)]; exact h.1
  · rw [mw_np (by omega)]; exact (mw_nf (by decide)).trans mw_sf
  · rw [mw_np (by omega)]; exact mw_sf
theorem xPo.en {σ : mw_M} {T : List (Nat × Nat)} {j a B : Nat} {ts : List (Nat × Nat)} {cs : List Nat} (h : xPo σ T j a ts cs B) (hj : j < 6) (i : Nat) (v : Int32) : xPo (mw_sa σ (51 + j) i v) T j a ts cs B := by
  obtain ⟨h1, h2, h3, h4, h5, h6, h7⟩ := h
  exact ⟨h1.mv rfl (mw_sap (by omega)) (mw_sap (by omega)), h2, h3, h4, h5, ⟨h6.1, fun i hi => by rw [mw_sap (by omega)]; exact h6.2 i hi⟩, h7⟩
theorem xPb.en {σ : mw_M} {T : List (Nat × Nat)} {j q : Nat} (h : xPb σ T j q) (hj : j < 6) (i : Nat) (v : Int32) : xPb (mw_sa σ (51 + j) i v) T j q := ⟨h.1.mv rfl (mw_sap (by omega)) (mw_sap (by omega)), h.2⟩
theorem tkA_len {bs : Nat → Int32} {n : Nat} (hn : n ≤ 160) : (tkA bs n 0).length ≤ 161 := by
  have h : ∀ f h, h ≤ n → (tkF bs n f h).length ≤ n - h + 1 := by
    intro f
    induction f with
    | zero => intro h _; exact Nat.le_add_left 1 _
    | succ f ih =>
      intro h hh
      unfold tkF
      split
      · exact Nat.le_add_left 1 _
      · split
        · have := ih (h + 1) (by omega); omega
        · have y1 := ih (enF bs n h) (enF_le (by omega))
          have y2 := @enF_gt bs n h
          rw [List.length_cons]
          have y3 := enF_le (bs := bs) (n := n) (q := h) (by omega)
          omega
  have := h 161 0 (Nat.zero_le n)
  exact Nat.le_trans this (by omega)
theorem xTx_of {u : mw_M} {j : Nat} (hj : j < 6) {a b c : List Nat} (hs : ∀ i, i < (a ++ b ++ c).length → u.2.1 (45 + j) i = nI ((a ++ b ++ c).getD i 0)) (hl : (a ++ b ++ c).length ≤ 160) (e0 : u.2.1 (51 + j) 0 = nI a.length) (e1 : u.2.1 (51 + j) 1 = nI (a ++ b).length) (e2 : u.2.1 (51 + j) 2 = nI (a ++ b ++ c).length) (w0 : wE a 31) (w1 : wE b 31) (w2 : wE c 31) : xTx u j (a, b, c) := by
  have hlen : (a ++ b ++ c).length = a.length + b.length + c.length := by rw [List.length_append, List.length_append]
  have hlen2 : (a ++ b).length = a.length + b.length := List.length_append
  refine ⟨hj, e0, by rw [e1, hlen2], by rw [e2, hlen], by show a.length + b.length + c.length ≤ 160; omega, ⟨fun i hi => ?_, w0⟩, ⟨fun i hi => ?_, w1⟩, ⟨fun i hi => ?_, w2⟩⟩
  · have hi : i < a.length := hi
    rw [Nat.zero_add, hs i (by omega), List.append_assoc, getD_app _ _ _ hi]
  · have hi : i < b.length := hi
    show u.2.1 (45 + j) (a.length + i) = nI (b.getD i 0)
    rw [hs _ (by omega), getD_app _ _ _ (by omega)]
    congr 1
    simp [List.getD, List.getElem?_append_right]
  · have hi : i < c.length := hi
    show u.2.1 (45 + j) (a.length + b.length + i) = nI (c.getD i 0)
    rw [hs _ (by omega)]
    congr 1
    rw [← hlen2]
    simp only [List.getD]
    rw [List.getElem?_append_right (Nat.le_add_right _ _), Nat.add_sub_cancel_left]
def xRes (j : Nat) (R : zP ⊕ Nat) (r : Int32) (u : mw_M) : Prop := match R with
  | .inl z => r = -1 ∧ xTx u j z
  | .inr q => r = nI q ∧ q ≤ 160
theorem xRes.gd {j : Nat} {R : zP ⊕ Nat} {z : zP} {u : mw_M} (e : R = .inl z) (h : xTx u j z) : xRes j R (-1) u := by rw [e]; exact ⟨rfl, h⟩
theorem xRes.bd {j : Nat} {R : zP ⊕ Nat} {q : Nat} {u : mw_M} (e : R = .inr q) (h : q ≤ 160) : xRes j R (nI q) u := by rw [e]; exact ⟨rfl, h⟩

set_option maxHeartbeats 4000000 in
set_option maxRecDepth 100000 in
theorem cX_oneB (l : Launch) (E : mw_E) (σ : mw_M) (T : List (Nat × Nat)) (j : Nat) (hj : j < 6) (q : Nat) (h : xPb σ T j q) : mw_Cv shX 75 gX l yX3_readOne cX3_readOne 4 none (rmF 39 991) E [.ref (mw_a E 33), .ref (mw_a E (39 + j)), .int 0] σ (fun u => u = σ) := by
  refine mw_of (by decide) gX_ok (Nat.le_of_ble_eq_true rfl) ?_
  intro p_ e_ s_ m_ below meth c_ C hr hlk Z hP ls hl
  have C : CallFix p_ m_ c_ cX3_readOne 4 s_ _ lw_good RX3 := C
  have hl : lv_has ls 4 [(0, .ref (mw_a E 33)), (1, .ref (mw_a E (39 + j))), (2, .int 0)] := hl
  have hS : va_S (mw_A 75 E) s_.heap s_.heap [] := va_S.rf
  obtain ⟨a0, ha0, ea0⟩ := h.2.1
  refine lv_aload_n C.1 C.2.1 dX3_readOne_0 rfl (lv_at hl 0 rfl) ?_
  refine mw_getr C Z hP (33) 0 (34) (by decide) sx_33 rfl rfl (by decide) inX3 tw_1_153 dX3_readOne_1 ?_
  refine lv_aload_n C.1 C.2.1 dX3_readOne_4 rfl (lv_at hl 0 rfl) ?_
  refine mw_geti C Z hP (33) 1 (by decide) sx_33 rfl rfl (by decide) inX3 tw_1_154 dX3_readOne_5 ?_
  refine mw_top (y := nI a0) (ea0) ?_
  refine mw_cVi (As := [.int (nI a0)]) (rest := []) C Z hP hS (34) (cX_tokenAt l E σ T.length h.1.2.1 h.1.1 a0 (by omega)) vb_X10_tokenAt tw_2_204 ⟨rfl, rfl⟩ ⟨Nat.le_of_ble_eq_true rfl, Nat.le_of_ble_eq_true rfl⟩ (by decide) sx_34 rfl rfl rfl hl.1 rfl (Nat.le_of_ble_eq_true rfl) dX3_readOne_8 ⟨Nat.zero_le _, Nat.zero_le _⟩ (fun r1 u2 H locs q3 hP hS => ?_)
  obtain ⟨-, q3u⟩ := q3; rw [q3u] at hP; clear q3u
  refine lv_istore_n (lv' := [(3, .int r1), (0, .ref (mw_a E 33)), (1, .ref (mw_a E (39 + j))), (2, .int 0)]) C.1 C.2.1 dX3_readOne_11 rfl hl (by decide) rfl (fun ls hl => ?_)
  refine lv_aload_n C.1 C.2.1 dX3_readOne_12 rfl (lv_at hl 1 rfl) ?_
  refine mw_geti C Z hP (33) 2 (by decide) sx_33 rfl rfl (by decide) inX3 tw_1_155 dX3_readOne_13 ?_
  refine mw_top (y := nI q) (h.2.2.1.1) ?_
  refine lv_iconst (v := -1) C.1 C.2.1 dX3_readOne_16 (by decide) ?_
  refine lv_icmp_eq (tgt := 21) C.1 C.2.1 dX3_readOne_17 (by decide) (fun c4 => ?_) (fun c4 => ?_)
  · exact absurd c4 (nI_nm1 (by have y := h.2.2.1.2; omega))
  · exact mw_vret C hr hlk Z hP hS dX3_readOne_20 (rfl)

set_option maxHeartbeats 4000000 in
set_option maxRecDepth 100000 in
theorem cX_notB (l : Launch) (E : mw_E) (σ : mw_M) (T : List (Nat × Nat)) (j : Nat) (hj : j < 6) (q : Nat) (h : xPb σ T j q) : mw_Cv shX 75 gX l yX3_readNot cX3_readNot 3 none (rmF 37 941) E [.ref (mw_a E 33), .ref (mw_a E (39 + j)), .int 0] σ (fun u => u = σ) := by
  refine mw_of (by decide) gX_ok (Nat.le_of_ble_eq_true rfl) ?_
  intro p_ e_ s_ m_ below meth c_ C hr hlk Z hP ls hl
  have C : CallFix p_ m_ c_ cX3_readNot 3 s_ _ lw_good RX3 := C
  have hl : lv_has ls 3 [(0, .ref (mw_a E 33)), (1, .ref (mw_a E (39 + j))), (2, .int 0)] := hl
  have hS : va_S (mw_A 75 E) s_.heap s_.heap [] := va_S.rf
  obtain ⟨a0, ha0, ea0⟩ := h.2.1
  refine lv_aload_n C.1 C.2.1 dX3_readNot_0 rfl (lv_at hl 0 rfl) ?_
  refine mw_geti C Z hP (33) 2 (by decide) sx_33 rfl rfl (by decide) inX3 tw_1_155 dX3_readNot_1 ?_
  refine mw_top (y := nI q) (h.2.2.1.1) ?_
  refine lv_iconst (v := -1) C.1 C.2.1 dX3_readNot_4 (by decide) ?_
  refine lv_icmp_ne (tgt := 13) C.1 C.2.1 dX3_readNot_5 (by decide) (fun c1 => ?_) (fun c1 => ?_)
  · refine lv_aload_n C.1 C.2.1 dX3_readNot_13 rfl (lv_at hl 0 rfl) ?_
    refine mw_cVv (As := []) (rest := []) C Z hP hS (33) (cX_failB l E σ T j hj q h) vb_X3_fail tw_2_208 ⟨rfl, rfl⟩ ⟨Nat.le_of_ble_eq_true rfl, Nat.le_of_ble_eq_true rfl⟩ (by decide) sx_33 rfl rfl rfl hl.1 rfl (Nat.le_of_ble_eq_true rfl) dX3_readNot_14 ⟨Nat.zero_le _, Nat.zero_le _⟩ (fun u3 H locs q4 hP hS => ?_)
    rw [q4] at hP; clear q4
    exact mw_vret C hr hlk Z hP hS dX3_readNot_17 (rfl)
  · exact absurd c1 (nI_nm1 (by have y := h.2.2.1.2; omega))

set_option maxHeartbeats 4000000 in
set_option maxRecDepth 100000 in
theorem cX_l5B (l : Launch) (E : mw_E) (σ : mw_M) (T : List (Nat × Nat)) (j : Nat) (hj : j < 6) (q : Nat) (h : xPb σ T j q) : mw_Cv shX 75 gX l yX3_readLevel cX3_readLevel 6 none (rmF 40 1014) E [.ref (mw_a E 33), .ref (mw_a E (39 + j)), .int 5, .int 0] σ (fun u => u = σ) := by
  refine mw_of (by decide) gX_ok (Nat.le_of_ble_eq_true rfl) ?_
  intro p_ e_ s_ m_ below meth c_ C hr hlk Z hP ls hl
  have C : CallFix p_ m_ c_ cX3_readLevel 6 s_ _ lw_good RX3 := C
  have hl : lv_has ls 6 [(0, .ref (mw_a E 33)), (1, .ref (mw_a E (39 + j))), (2, .int 5), (3, .int 0)] := hl
  have hS : va_S (mw_A 75 E) s_.heap s_.heap [] := va_S.rf
  obtain ⟨a0, ha0, ea0⟩ := h.2.1
  refine lv_iload_n C.1 C.2.1 dX3_readLevel_0 rfl (lv_at hl 2 rfl) ?_
  refine lv_iconst (v := 4) C.1 C.2.1 dX3_readLevel_1 (by decide) ?_
  refine lv_icmp_le (tgt := 12) C.1 C.2.1 dX3_readLevel_2 (by decide) (fun c1 => ?_) (fun c1 => ?_)
  · exact absurd c1 (by decide)
  · refine lv_aload_n C.1 C.2.1 dX3_readLevel_5 rfl (lv_at hl 0 rfl) ?_
    refine lv_aload_n C.1 C.2.1 dX3_readLevel_6 rfl (lv_at hl 1 rfl) ?_
    refine lv_iload_n C.1 C.2.1 dX3_readLevel_7 rfl (lv_at hl 3 rfl) ?_
    refine mw_cVv (As := [.ref (mw_a E (39 + j)), .int 0]) (rest := []) C Z hP hS (33) (cX_oneB l E σ T j hj q h) vb_X3_readOne tw_2_220 ⟨rfl, rfl⟩ ⟨Nat.le_of_ble_eq_true rfl, Nat.le_of_ble_eq_true rfl⟩ (by decide) sx_33 rfl rfl rfl hl.1 rfl (Nat.le_of_ble_eq_true rfl) dX3_readLevel_8 ⟨Nat.zero_le _, Nat.zero_le _⟩ (fun u3 H locs q4 hP hS => ?_)
    rw [q4] at hP; clear q4
    exact mw_vret C hr hlk Z hP hS dX3_readLevel_11 (rfl)

set_option maxHeartbeats 4000000 in
set_option maxRecDepth 100000 in
theorem cX_l4B (l : Launch) (E : mw_E) (σ : mw_M) (T : List (Nat × Nat)) (j : Nat) (hj : j < 6) (q : Nat) (h : xPb σ T j q) : mw_Cv shX 75 gX l yX3_readLevel cX3_readLevel 6 none (rmF 41 1039) E [.ref (mw_a E 33), .ref (mw_a E (39 + j)), .int 4, .int 0] σ (fun u => u = σ) := by
  refine mw_of (by decide) gX_ok (Nat.le_of_ble_eq_true rfl) ?_
  intro p_ e_ s_ m_ below meth c_ C hr hlk Z hP ls hl
  have C : CallFix p_ m_ c_ cX3_readLevel 6 s_ _ lw_good RX3 := C
  have hl : lv_has ls 6 [(0, .ref (mw_a E 33)), (1, .ref (mw_a E (39 + j))), (2, .int 4), (3, .int 0)] := hl
  have hS : va_S (mw_A 75 E) s_.heap s_.heap [] := va_S.rf
  obtain ⟨a0, ha0, ea0⟩ := h.2.1
  refine lv_iload_n C.1 C.2.1 dX3_readLevel_0 rfl (lv_at hl 2 rfl) ?_
  refine lv_iconst (v := 4) C.1 C.2.1 dX3_readLevel_1 (by decide) ?_
  refine lv_icmp_le (tgt := 12) C.1 C.2.1 dX3_readLevel_2 (by decide) (fun c1 => ?_) (fun c1 => ?_)
  · refine lv_iload_n C.1 C.2.1 dX3_readLevel_12 rfl (lv_at hl 2 rfl) ?_
    refine lv_iconst (v := 2) C.1 C.2.1 dX3_readLevel_13 (by decide) ?_
    refine lv_icmp_ne (tgt := 40) C.1 C.2.1 dX3_readLevel_14 (by decide) (fun c2 => ?_) (fun c2 => ?_)
    · refine lv_aload_n C.1 C.2.1 dX3_readLevel_40 rfl (lv_at hl 0 rfl) ?_
      refine lv_aload_n C.1 C.2.1 dX3_readLevel_41 rfl (lv_at hl 1 rfl) ?_
      refine lv_iload_n C.1 C.2.1 dX3_readLevel_42 rfl (lv_at hl 2 rfl) ?_
      refine lv_iconst (v := 1) C.1 C.2.1 dX3_readLevel_43 (by decide) ?_
      refine lv_iadd C.1 C.2.1 dX3_readLevel_44 ?_
      refine mw_top (y := 5) (by decide) ?_
      refine lv_iload_n C.1 C.2.1 dX3_readLevel_45 rfl (lv_at hl 3 rfl) ?_
      refine mw_cVv (As := [.ref (mw_a E (39 + j)), .int 5, .int 0]) (rest := []) C Z hP hS (33) (cX_l5B l E σ T j hj q h) vb_X3_readLevel tw_2_216 ⟨rfl, rfl⟩ ⟨Nat.le_of_ble_eq_true rfl, Nat.le_of_ble_eq_true rfl⟩ (by decide) sx_33 rfl rfl rfl hl.1 rfl (Nat.le_of_ble_eq_true rfl) dX3_readLevel_46 ⟨Nat.zero_le _, Nat.zero_le _⟩ (fun u4 H locs q5 hP hS => ?_)
      rw [q5] at hP; clear q5
      refine lv_iconst (v := 0) C.1 C.2.1 dX3_readLevel_49 (by decide) ?_
      refine lv_istore (lv' := [(4, .int 0), (0, .ref (mw_a E 33)), (1, .ref (mw_a E (39 + j))), (2, .int 4), (3, .int 0)]) C.1 C.2.1 dX3_readLevel_50 hl (by decide) rfl (fun ls hl => ?_)
      refine lv_iload C.1 C.2.1 dX3_readLevel_52 (lv_at hl 0 rfl) ?_
      refine lv_sipush (v := 160) C.1 C.2.1 dX3_readLevel_54 (by decide) ?_
      refine lv_icmp_ge (tgt := 128) C.1 C.2.1 dX3_readLevel_57 (by decide) (fun c6 => ?_) (fun c6 => ?_)
      · exact absurd c6 (by decide)
      · refine lv_aload_n C.1 C.2.1 dX3_readLevel_60 rfl (lv_at hl 1 rfl) ?_
        refine mw_geti C Z hP (33) 2 (by decide) sx_33 rfl rfl (by decide) inX3 tw_1_155 dX3_readLevel_61 ?_
        refine mw_top (y := nI q) (h.2.2.1.1) ?_
        refine lv_iconst (v := -1) C.1 C.2.1 dX3_readLevel_64 (by decide) ?_
        refine lv_icmp_ne (tgt := 128) C.1 C.2.1 dX3_readLevel_65 (by decide) (fun c7 => ?_) (fun c7 => ?_)
        · exact mw_vret C hr hlk Z hP hS dX3_readLevel_128 (rfl)
        · exact absurd c7 (nI_nm1 (by have y := h.2.2.1.2; omega))
    · exact absurd c2 (by decide)
  · exact absurd c1 (by decide)

set_option maxHeartbeats 4000000 in
set_option maxRecDepth 100000 in
theorem cX_l3B (l : Launch) (E : mw_E) (σ : mw_M) (T : List (Nat × Nat)) (j : Nat) (hj : j < 6) (q : Nat) (h : xPb σ T j q) : mw_Cv shX 75 gX l yX3_readLevel cX3_readLevel 6 none (rmF 42 1064) E [.ref (mw_a E 33), .ref (mw_a E (39 + j)), .int 3, .int 0] σ (fun u => u = σ) := by
  refine mw_of (by decide) gX_ok (Nat.le_of_ble_eq_true rfl) ?_
  intro p_ e_ s_ m_ below meth c_ C hr hlk Z hP ls hl
  have C : CallFix p_ m_ c_ cX3_readLevel 6 s_ _ lw_good RX3 := C
  have hl : lv_has ls 6 [(0, .ref (mw_a E 33)), (1, .ref (mw_a E (39 + j))), (2, .int 3), (3, .int 0)] := hl
  have hS : va_S (mw_A 75 E) s_.heap s_.heap [] := va_S.rf
  obtain ⟨a0, ha0, ea0⟩ := h.2.1
  refine lv_iload_n C.1 C.2.1 dX3_readLevel_0 rfl (lv_at hl 2 rfl) ?_
  refine lv_iconst (v := 4) C.1 C.2.1 dX3_readLevel_1 (by decide) ?_
  refine lv_icmp_le (tgt := 12) C.1 C.2.1 dX3_readLevel_2 (by decide) (fun c1 => ?_) (fun c1 => ?_)
  · refine lv_iload_n C.1 C.2.1 dX3_readLevel_12 rfl (lv_at hl 2 rfl) ?_
    refine lv_iconst (v := 2) C.1 C.2.1 dX3_readLevel_13 (by decide) ?_
    refine lv_icmp_ne (tgt := 40) C.1 C.2.1 dX3_readLevel_14 (by decide) (fun c2 => ?_) (fun c2 => ?_)
    · refine lv_aload_n C.1 C.2.1 dX3_readLevel_40 rfl (lv_at hl 0 rfl) ?_
      refine lv_aload_n C.1 C.2.1 dX3_readLevel_41 rfl (lv_at hl 1 rfl) ?_
      refine lv_iload_n C.1 C.2.1 dX3_readLevel_42 rfl (lv_at hl 2 rfl) ?_
      refine lv_iconst (v := 1) C.1 C.2.1 dX3_readLevel_43 (by decide) ?_
      refine lv_iadd C.1 C.2.1 dX3_readLevel_44 ?_
      refine mw_top (y := 4) (by decide) ?_
      refine lv_iload_n C.1 C.2.1 dX3_readLevel_45 rfl (lv_at hl 3 rfl) ?_
      refine mw_cVv (As := [.ref (mw_a E (39 + j)), .int 4, .int 0]) (rest := []) C Z hP hS (33) (cX_l4B l E σ T j hj q h) vb_X3_readLevel tw_2_216 ⟨rfl, rfl⟩ ⟨Nat.le_of_ble_eq_true rfl, Nat.le_of_ble_eq_true rfl⟩ (by decide) sx_33 rfl rfl rfl hl.1 rfl (Nat.le_of_ble_eq_true rfl) dX3_readLevel_46 ⟨Nat.zero_le _, Nat.zero_le _⟩ (fun u4 H locs q5 hP hS => ?_)
      rw [q5] at hP; clear q5
      refine lv_iconst (v := 0) C.1 C.2.1 dX3_readLevel_49 (by decide) ?_
      refine lv_istore (lv' := [(4, .int 0), (0, .ref (mw_a E 33)), (1, .ref (mw_a E (39 + j))), (2, .int 3), (3, .int 0)]) C.1 C.2.1 dX3_readLevel_50 hl (by decide) rfl (fun ls hl => ?_)
      refine lv_iload C.1 C.2.1 dX3_readLevel_52 (lv_at hl 0 rfl) ?_
      refine lv_sipush (v := 160) C.1 C.2.1 dX3_readLevel_54 (by decide) ?_
      refine lv_icmp_ge (tgt := 128) C.1 C.2.1 dX3_readLevel_57 (by decide) (fun c6 => ?_) (fun c6 => ?_)
      · exact absurd c6 (by decide)
      · refine lv_aload_n C.1 C.2.1 dX3_readLevel_60 rfl (lv_at hl 1 rfl) ?_
        refine mw_geti C Z hP (33) 2 (by decide) sx_33 rfl rfl (by decide) inX3 tw_1_155 dX3_readLevel_61 ?_
        refine mw_top (y := nI q) (h.2.2.1.1) ?_
        refine lv_iconst (v := -1) C.1 C.2.1 dX3_readLevel_64 (by decide) ?_
        refine lv_icmp_ne (tgt := 128) C.1 C.2.1 dX3_readLevel_65 (by decide) (fun c7 => ?_) (fun c7 => ?_)
        · exact mw_vret C hr hlk Z hP hS dX3_readLevel_128 (rfl)
        · exact absurd c7 (nI_nm1 (by have y := h.2.2.1.2; omega))
    · exact absurd c2 (by decide)
  · exact absurd c1 (by decide)

set_option maxHeartbeats 4000000 in
set_option maxRecDepth 100000 in
theorem cX_l2B (l : Launch) (E : mw_E) (σ : mw_M) (T : List (Nat × Nat)) (j : Nat) (hj : j < 6) (q : Nat) (h : xPb σ T j q) : mw_Cv shX 75 gX l yX3_readLevel cX3_readLevel 6 none (rmF 43 1089) E [.ref (mw_a E 33), .ref (mw_a E (39 + j)), .int 2, .int 0] σ (fun u => u = σ) := by
  refine mw_of (by decide) gX_ok (Nat.le_of_ble_eq_true rfl) ?_
  intro p_ e_ s_ m_ below meth c_ C hr hlk Z hP ls hl
  have C : CallFix p_ m_ c_ cX3_readLevel 6 s_ _ lw_good RX3 := C
  have hl : lv_has ls 6 [(0, .ref (mw_a E 33)), (1, .ref (mw_a E (39 + j))), (2, .int 2), (3, .int 0)] := hl
  have hS : va_S (mw_A 75 E) s_.heap s_.heap [] := va_S.rf
  obtain ⟨a0, ha0, ea0⟩ := h.2.1
  refine lv_iload_n C.1 C.2.1 dX3_readLevel_0 rfl (lv_at hl 2 rfl) ?_
  refine lv_iconst (v := 4) C.1 C.2.1 dX3_readLevel_1 (by decide) ?_
  refine lv_icmp_le (tgt := 12) C.1 C.2.1 dX3_readLevel_2 (by decide) (fun c1 => ?_) (fun c1 => ?_)
  · refine lv_iload_n C.1 C.2.1 dX3_readLevel_12 rfl (lv_at hl 2 rfl) ?_
    refine lv_iconst (v := 2) C.1 C.2.1 dX3_readLevel_13 (by decide) ?_
    refine lv_icmp_ne (tgt := 40) C.1 C.2.1 dX3_readLevel_14 (by decide) (fun c2 => ?_) (fun c2 => ?_)
    · exact absurd c2 (by decide)
    · refine lv_aload_n C.1 C.2.1 dX3_readLevel_17 rfl (lv_at hl 0 rfl) ?_
      refine mw_getr C Z hP (33) 0 (34) (by decide) sx_33 rfl rfl (by decide) inX3 tw_1_153 dX3_readLevel_18 ?_
      refine lv_aload_n C.1 C.2.1 dX3_readLevel_21 rfl (lv_at hl 0 rfl) ?_
      refine mw_geti C Z hP (33) 1 (by decide) sx_33 rfl rfl (by decide) inX3 tw_1_154 dX3_readLevel_22 ?_
      refine mw_top (y := nI a0) (ea0) ?_
      refine mw_cVi (As := [.int (nI a0)]) (rest := []) C Z hP hS (34) (cX_tokenAt l E σ T.length h.1.2.1 h.1.1 a0 (by omega)) vb_X10_tokenAt tw_2_204 ⟨rfl, rfl⟩ ⟨Nat.le_of_ble_eq_true rfl, Nat.le_of_ble_eq_true rfl⟩ (by decide) sx_34 rfl rfl rfl hl.1 rfl (Nat.le_of_ble_eq_true rfl) dX3_readLevel_25 ⟨Nat.zero_le _, Nat.zero_le _⟩ (fun r3 u4 H locs q5 hP hS => ?_)
      obtain ⟨-, q5u⟩ := q5; rw [q5u] at hP; clear q5u
      refine lv_bipush (v := 11) C.1 C.2.1 dX3_readLevel_28 (by decide) ?_
      refine lv_icmp_ne (tgt := 40) C.1 C.2.1 dX3_readLevel_30 (by decide) (fun c6 => ?_) (fun c6 => ?_)
      · refine lv_aload_n C.1 C.2.1 dX3_readLevel_40 rfl (lv_at hl 0 rfl) ?_
        refine lv_aload_n C.1 C.2.1 dX3_readLevel_41 rfl (lv_at hl 1 rfl) ?_
        refine lv_iload_n C.1 C.2.1 dX3_readLevel_42 rfl (lv_at hl 2 rfl) ?_
        refine lv_iconst (v := 1) C.1 C.2.1 dX3_readLevel_43 (by decide) ?_
        refine lv_iadd C.1 C.2.1 dX3_readLevel_44 ?_
        refine mw_top (y := 3) (by decide) ?_
        refine lv_iload_n C.1 C.2.1 dX3_readLevel_45 rfl (lv_at hl 3 rfl) ?_
        refine mw_cVv (As := [.ref (mw_a E (39 + j)), .int 3, .int 0]) (rest := []) C Z hP hS (33) (cX_l3B l E σ T j hj q h) vb_X3_readLevel tw_2_216 ⟨rfl, rfl⟩ ⟨Nat.le_of_ble_eq_true rfl, Nat.le_of_ble_eq_true rfl⟩ (by decide) sx_33 rfl rfl rfl hl.1 rfl (Nat.le_of_ble_eq_true rfl) dX3_readLevel_46 ⟨Nat.zero_le _, Nat.zero_le _⟩ (fun u8 H locs q9 hP hS => ?_)
        rw [q9] at hP; clear q9
        refine lv_iconst (v := 0) C.1 C.2.1 dX3_readLevel_49 (by decide) ?_
        refine lv_istore (lv' := [(4, .int 0), (0, .ref (mw_a E 33)), (1, .ref (mw_a E (39 + j))), (2, .int 2), (3, .int 0)]) C.1 C.2.1 dX3_readLevel_50 hl (by decide) rfl (fun ls hl => ?_)
        refine lv_iload C.1 C.2.1 dX3_readLevel_52 (lv_at hl 0 rfl) ?_
        refine lv_sipush (v := 160) C.1 C.2.1 dX3_readLevel_54 (by decide) ?_
        refine lv_icmp_ge (tgt := 128) C.1 C.2.1 dX3_readLevel_57 (by decide) (fun c10 => ?_) (fun c10 => ?_)
        · exact absurd c10 (by decide)
        · refine lv_aload_n C.1 C.2.1 dX3_readLevel_60 rfl (lv_at hl 1 rfl) ?_
          refine mw_geti C Z hP (33) 2 (by decide) sx_33 rfl rfl (by decide) inX3 tw_1_155 dX3_readLevel_61 ?_
          refine mw_top (y := nI q) (h.2.2.1.1) ?_
          refine lv_iconst (v := -1) C.1 C.2.1 dX3_readLevel_64 (by decide) ?_
          refine lv_icmp_ne (tgt := 128) C.1 C.2.1 dX3_readLevel_65 (by decide) (fun c11 => ?_) (fun c11 => ?_)
          · exact mw_vret C hr hlk Z hP hS dX3_readLevel_128 (rfl)
          · exact absurd c11 (nI_nm1 (by have y := h.2.2.1.2; omega))
      · refine lv_aload_n C.1 C.2.1 dX3_readLevel_33 rfl (lv_at hl 0 rfl) ?_
        refine lv_aload_n C.1 C.2.1 dX3_readLevel_34 rfl (lv_at hl 1 rfl) ?_
        refine lv_iload_n C.1 C.2.1 dX3_readLevel_35 rfl (lv_at hl 3 rfl) ?_
        refine mw_cVv (As := [.ref (mw_a E (39 + j)), .int 0]) (rest := []) C Z hP hS (33) (cX_notB l E σ T j hj q h) vb_X3_readNot tw_2_228 ⟨rfl, rfl⟩ ⟨Nat.le_of_ble_eq_true rfl, Nat.le_of_ble_eq_true rfl⟩ (by decide) sx_33 rfl rfl rfl hl.1 rfl (Nat.le_of_ble_eq_true rfl) dX3_readLevel_36 ⟨Nat.zero_le _, Nat.zero_le _⟩ (fun u13 H locs q14 hP hS => ?_)
        rw [q14] at hP; clear q14
        exact mw_vret C hr hlk Z hP hS dX3_readLevel_39 (rfl)
  · exact absurd c1 (by decide)

set_option maxHeartbeats 4000000 in
set_option maxRecDepth 100000 in
theorem cX_l1B (l : Launch) (E : mw_E) (σ : mw_M) (T : List (Nat × Nat)) (j : Nat) (hj : j < 6) (q : Nat) (h : xPb σ T j q) : mw_Cv shX 75 gX l yX3_readLevel cX3_readLevel 6 none (rmF 44 1114) E [.ref (mw_a E 33), .ref (mw_a E (39 + j)), .int 1, .int 0] σ (fun u => u = σ) := by
  refine mw_of (by decide) gX_ok (Nat.le_of_ble_eq_true rfl) ?_
  intro p_ e_ s_ m_ below meth c_ C hr hlk Z hP ls hl
  have C : CallFix p_ m_ c_ cX3_readLevel 6 s_ _ lw_good RX3 := C
  have hl : lv_has ls 6 [(0, .ref (mw_a E 33)), (1, .ref (mw_a E (39 + j))), (2, .int 1), (3, .int 0)] := hl
  have hS : va_S (mw_A 75 E) s_.heap s_.heap [] := va_S.rf
  obtain ⟨a0, ha0, ea0⟩ := h.2.1
  refine lv_iload_n C.1 C.2.1 dX3_readLevel_0 rfl (lv_at hl 2 rfl) ?_
  refine lv_iconst (v := 4) C.1 C.2.1 dX3_readLevel_1 (by decide) ?_
  refine lv_icmp_le (tgt := 12) C.1 C.2.1 dX3_readLevel_2 (by decide) (fun c1 => ?_) (fun c1 => ?_)
  · refine lv_iload_n C.1 C.2.1 dX3_readLevel_12 rfl (lv_at hl 2 rfl) ?_
    refine lv_iconst (v := 2) C.1 C.2.1 dX3_readLevel_13 (by decide) ?_
    refine lv_icmp_ne (tgt := 40) C.1 C.2.1 dX3_readLevel_14 (by decide) (fun c2 => ?_) (fun c2 => ?_)
    · refine lv_aload_n C.1 C.2.1 dX3_readLevel_40 rfl (lv_at hl 0 rfl) ?_
      refine lv_aload_n C.1 C.2.1 dX3_readLevel_41 rfl (lv_at hl 1 rfl) ?_
      refine lv_iload_n C.1 C.2.1 dX3_readLevel_42 rfl (lv_at hl 2 rfl) ?_
      refine lv_iconst (v := 1) C.1 C.2.1 dX3_readLevel_43 (by decide) ?_
      refine lv_iadd C.1 C.2.1 dX3_readLevel_44 ?_
      refine mw_top (y := 2) (by decide) ?_
      refine lv_iload_n C.1 C.2.1 dX3_readLevel_45 rfl (lv_at hl 3 rfl) ?_
      refine mw_cVv (As := [.ref (mw_a E (39 + j)), .int 2, .int 0]) (rest := []) C Z hP hS (33) (cX_l2B l E σ T j hj q h) vb_X3_readLevel tw_2_216 ⟨rfl, rfl⟩ ⟨Nat.le_of_ble_eq_true rfl, Nat.le_of_ble_eq_true rfl⟩ (by decide) sx_33 rfl rfl rfl hl.1 rfl (Nat.le_of_ble_eq_true rfl) dX3_readLevel_46 ⟨Nat.zero_le _, Nat.zero_le _⟩ (fun u4 H locs q5 hP hS => ?_)
      rw [q5] at hP; clear q5
      refine lv_iconst (v := 0) C.1 C.2.1 dX3_readLevel_49 (by decide) ?_
      refine lv_istore (lv' := [(4, .int 0), (0, .ref (mw_a E 33)), (1, .ref (mw_a E (39 + j))), (2, .int 1), (3, .int 0)]) C.1 C.2.1 dX3_readLevel_50 hl (by decide) rfl (fun ls hl => ?_)
      refine lv_iload C.1 C.2.1 dX3_readLevel_52 (lv_at hl 0 rfl) ?_
      refine lv_sipush (v := 160) C.1 C.2.1 dX3_readLevel_54 (by decide) ?_
      refine lv_icmp_ge (tgt := 128) C.1 C.2.1 dX3_readLevel_57 (by decide) (fun c6 => ?_) (fun c6 => ?_)
      · exact absurd c6 (by decide)
      · refine lv_aload_n C.1 C.2.1 dX3_readLevel_60 rfl (lv_at hl 1 rfl) ?_
        refine mw_geti C Z hP (33) 2 (by decide) sx_33 rfl rfl (by decide) inX3 tw_1_155 dX3_readLevel_61 ?_
        refine mw_top (y := nI q) (h.2.2.1.1) ?_
        refine lv_iconst (v := -1) C.1 C.2.1 dX3_readLevel_64 (by decide) ?_
        refine lv_icmp_ne (tgt := 128) C.1 C.2.1 dX3_readLevel_65 (by decide) (fun c7 => ?_) (fun c7 => ?_)
        · exact mw_vret C hr hlk Z hP hS dX3_readLevel_128 (rfl)
        · exact absurd c7 (nI_nm1 (by have y := h.2.2.1.2; omega))
    · exact absurd c2 (by decide)
  · exact absurd c1 (by decide)

set_option maxHeartbeats 4000000 in
set_option maxRecDepth 100000 in
theorem cX_l0B (l : Launch) (E : mw_E) (σ : mw_M) (T : List (Nat × Nat)) (j : Nat) (hj : j < 6) (q : Nat) (h : xPb σ T j q) : mw_Cv shX 75 gX l yX3_readLevel cX3_readLevel 6 none (rmF 45 1139) E [.ref (mw_a E 33), .ref (mw_a E (39 + j)), .int 0, .int 0] σ (fun u => u = σ) := by
  refine mw_of (by decide) gX_ok (Nat.le_of_ble_eq_true rfl) ?_
  intro p_ e_ s_ m_ below meth c_ C hr hlk Z hP ls hl
  have C : CallFix p_ m_ c_ cX3_readLevel 6 s_ _ lw_good RX3 := C
  have hl : lv_has ls 6 [(0, .ref (mw_a E 33)), (1, .ref (mw_a E (39 + j))), (2, .int 0), (3, .int 0)] := hl
  have hS : va_S (mw_A 75 E) s_.heap s_.heap [] := va_S.rf
  obtain ⟨a0, ha0, ea0⟩ := h.2.1
  refine lv_iload_n C.1 C.2.1 dX3_readLevel_0 rfl (lv_at hl 2 rfl) ?_
  refine lv_iconst (v := 4) C.1 C.2.1 dX3_readLevel_1 (by decide) ?_
  refine lv_icmp_le (tgt := 12) C.1 C.2.1 dX3_readLevel_2 (by decide) (fun c1 => ?_) (fun c1 => ?_)
  · refine lv_iload_n C.1 C.2.1 dX3_readLevel_12 rfl (lv_at hl 2 rfl) ?_
    refine lv_iconst (v := 2) C.1 C.2.1 dX3_readLevel_13 (by decide) ?_
    refine lv_icmp_ne (tgt := 40) C.1 C.2.1 dX3_readLevel_14 (by decide) (fun c2 => ?_) (fun c2 => ?_)
    · refine lv_aload_n C.1 C.2.1 dX3_readLevel_40 rfl (lv_at hl 0 rfl) ?_
      refine lv_aload_n C.1 C.2.1 dX3_readLevel_41 rfl (lv_at hl 1 rfl) ?_
      refine lv_iload_n C.1 C.2.1 dX3_readLevel_42 rfl (lv_at hl 2 rfl) ?_
      refine lv_iconst (v := 1) C.1 C.2.1 dX3_readLevel_43 (by decide) ?_
      refine lv_iadd C.1 C.2.1 dX3_readLevel_44 ?_
      refine mw_top (y := 1) (by decide) ?_
      refine lv_iload_n C.1 C.2.1 dX3_readLevel_45 rfl (lv_at hl 3 rfl) ?_
      refine mw_cVv (As := [.ref (mw_a E (39 + j)), .int 1, .int 0]) (rest := []) C Z hP hS (33) (cX_l1B l E σ T j hj q h) vb_X3_readLevel tw_2_216 ⟨rfl, rfl⟩ ⟨Nat.le_of_ble_eq_true rfl, Nat.le_of_ble_eq_true rfl⟩ (by decide) sx_33 rfl rfl rfl hl.1 rfl (Nat.le_of_ble_eq_true rfl) dX3_readLevel_46 ⟨Nat.zero_le _, Nat.zero_le _⟩ (fun u4 H locs q5 hP hS => ?_)
      rw [q5] at hP; clear q5
      refine lv_iconst (v := 0) C.1 C.2.1 dX3_readLevel_49 (by decide) ?_
      refine lv_istore (lv' := [(4, .int 0), (0, .ref (mw_a E 33)), (1, .ref (mw_a E (39 + j))), (2, .int 0), (3, .int 0)]) C.1 C.2.1 dX3_readLevel_50 hl (by decide) rfl (fun ls hl => ?_)
      refine lv_iload C.1 C.2.1 dX3_readLevel_52 (lv_at hl 0 rfl) ?_
      refine lv_sipush (v := 160) C.1 C.2.1 dX3_readLevel_54 (by decide) ?_
      refine lv_icmp_ge (tgt := 128) C.1 C.2.1 dX3_readLevel_57 (by decide) (fun c6 => ?_) (fun c6 => ?_)
      · exact absurd c6 (by decide)
      · refine lv_aload_n C.1 C.2.1 dX3_readLevel_60 rfl (lv_at hl 1 rfl) ?_
        refine mw_geti C Z hP (33) 2 (by decide) sx_33 rfl rfl (by decide) inX3 tw_1_155 dX3_readLevel_61 ?_
        refine mw_top (y := nI q) (h.2.2.1.1) ?_
        refine lv_iconst (v := -1) C.1 C.2.1 dX3_readLevel_64 (by decide) ?_
        refine lv_icmp_ne (tgt := 128) C.1 C.2.1 dX3_readLevel_65 (by decide) (fun c7 => ?_) (fun c7 => ?_)
        · exact mw_vret C hr hlk Z hP hS dX3_readLevel_128 (rfl)
        · exact absurd c7 (nI_nm1 (by have y := h.2.2.1.2; omega))
    · exact absurd c2 (by decide)
  · exact absurd c1 (by decide)

theorem tkOK.sf {ts ts2 : List (Nat × Nat)} (h : tkOK ts) (s : ts2 <:+ ts) : tkOK ts2 := fun k hk => h k (s.subset hk)

set_option maxHeartbeats 4000000 in
set_option maxRecDepth 100000 in
theorem cX_read (l : Launch) (E : mw_E) (σ : mw_M) (n : Nat) (hn : σ.1 31 1 = nI n) (h6 : n ≤ 160) (hby : ∀ i, i < n → ∃ k : Nat, k ≤ 255 ∧ σ.2.1 32 i = nI k) (j : Nat) (hj : j < 6) : mw_Ci shX 75 gX l yX3_read cX3_read 4 (some .int) (rmF 46 1164) E [.ref (mw_a E 33), .ref (mw_a E 31), .ref (mw_a E (39 + j))] σ (fun r u => xRes j (gText (tkA (σ.2.1 32) n 0)) r u ∧ xRf j σ u) := by
  refine mw_of (by decide) gX_ok (Nat.le_of_ble_eq_true rfl) ?_
  intro p_ e_ s_ m_ below meth c_ C hr hlk Z hP ls hl
  have C : CallFix p_ m_ c_ cX3_read 4 s_ _ lw_good RX3 := C
  have hl : lv_has ls 4 [(0, .ref (mw_a E 33)), (1, .ref (mw_a E 31)), (2, .ref (mw_a E (39 + j)))] := hl
  have hS : va_S (mw_A 75 E) s_.heap s_.heap [] := va_S.rf
  obtain ⟨T, hT⟩ : ∃ T, T = tkA (σ.2.1 32) n 0 := ⟨_, rfl⟩
  rw [← hT]
  have hTl : T.length ≤ 161 := by rw [hT]; exact tkA_len h6
  have hTo : tkOK T := by rw [hT]; exact tkA_ok _ _ _
  have hTp : ∀ k, k ∈ T → k.2 ≤ 160 := fun k hk => Nat.le_trans (tkF_pl (σ.2.1 32) n 161 0 (Nat.zero_le n) k (by rw [hT] at hk; exact hk)) h6
  have hTe : eL T := by rw [hT]; exact tkF_eL _ _ _ _
  refine lv_aload_n C.1 C.2.1 dX3_read_0 rfl (lv_at hl 0 rfl) ?_
  refine mw_getr C Z hP (33) 0 (34) (by decide) sx_33 rfl rfl (by decide) inX3 tw_1_153 dX3_read_1 ?_
  refine lv_aload_n C.1 C.2.1 dX3_read_4 rfl (lv_at hl 1 rfl) ?_
  refine mw_cVv (As := [.ref (mw_a E 31)]) (rest := []) C Z hP hS (34) (cX_cut l E σ n hn h6 hby) vb_X10_cut tw_2_82 ⟨rfl, rfl⟩ ⟨Nat.le_of_ble_eq_true rfl, Nat.le_of_ble_eq_true rfl⟩ (by decide) sx_34 rfl rfl rfl hl.1 rfl (Nat.le_of_ble_eq_true rfl) dX3_read_5 ⟨Nat.zero_le _, Nat.zero_le _⟩ (fun u2 H locs q3 hP hS => ?_)
  rw [← hT] at q3
  refine lv_aload_n C.1 C.2.1 dX3_read_8 rfl (lv_at hl 0 rfl) ?_
  refine lv_iconst (v := 0) C.1 C.2.1 dX3_read_9 (by decide) ?_
  refine mw_puti C Z hP hS (33) 1 (by decide) sx_33 rfl rfl (by decide) inX3 tyX3 tyX3_ok nmX3 rfl tw_1_154 rfl rfl dX3_read_10 (fun H locs hP hS => ?_)
  refine lv_aload_n C.1 C.2.1 dX3_read_13 rfl (lv_at hl 0 rfl) ?_
  refine lv_iconst (v := -1) C.1 C.2.1 dX3_read_14 (by decide) ?_
  refine mw_puti C Z hP hS (33) 2 (by decide) sx_33 rfl rfl (by decide) inX3 tyX3 tyX3_ok nmX3 rfl tw_1_155 rfl rfl dX3_read_15 (fun H locs hP hS => ?_)
  refine lv_aload_n C.1 C.2.1 dX3_read_18 rfl (lv_at hl 2 rfl) ?_
  refine lv_iconst (v := 0) C.1 C.2.1 dX3_read_19 (by decide) ?_
  refine mw_puti C Z hP hS (39 + j) 3 (by omega) (sx_tx (by omega)) rfl rfl (by decide) inX8 tyX8 tyX8_ok nmX8 rfl tw_1_180 rfl rfl dX3_read_20 (fun H locs hP hS => ?_)
  have po0 := xPo.begin hj q3 hTl hTo hTp
  refine lv_iconst (v := 0) C.1 C.2.1 dX3_read_23 (by decide) ?_
  refine lv_istore_n (lv' := [(3, .int 0), (0, .ref (mw_a E 33)), (1, .ref (mw_a E 31)), (2, .ref (mw_a E (39 + j)))]) C.1 C.2.1 dX3_read_24 rfl hl (by decide) rfl (fun ls hl => ?_)
  refine lv_iload_n C.1 C.2.1 dX3_read_25 rfl (lv_at hl 0 rfl) ?_
  refine lv_iconst (v := 3) C.1 C.2.1 dX3_read_26 (by decide) ?_
  refine lv_icmp_ge (tgt := 62) C.1 C.2.1 dX3_read_27 (by decide) (fun c4 => ?_) (fun c4 => ?_)
  · exact absurd c4 (by decide)
  · refine lv_aload_n C.1 C.2.1 dX3_read_30 rfl (lv_at hl 1 rfl) ?_
    refine lv_bipush (v := 6) C.1 C.2.1 dX3_read_31 (by decide) ?_
    refine lv_iload_n C.1 C.2.1 dX3_read_33 rfl (lv_at hl 0 rfl) ?_
    refine lv_iadd C.1 C.2.1 dX3_read_34 ?_
    refine mw_top (y := 6) (by decide) ?_
    refine mw_cVv (As := [.int 6]) (rest := []) C Z hP hS (33) (cX_passG l E (mw_si (mw_si (mw_si u2 33 1 0) 33 2 (-1)) (39 + j) 3 0) T j hj 0 T ([]) 161 (by omega) po0 6 (by decide)) vb_X3_pass tw_2_200 ⟨rfl, rfl⟩ ⟨Nat.le_of_ble_eq_true rfl, Nat.le_of_ble_eq_true rfl⟩ (by decide) sx_33 rfl rfl rfl hl.1 rfl (Nat.le_of_ble_eq_true rfl) dX3_read_35 ⟨Nat.zero_le _, Nat.zero_le _⟩ (fun u8 H locs q9 hP hS => ?_)
    by_cases hc5 : hdC T = 6
    · have e6 := q9.1 hc5; subst e6
      have pn10 := po0.next hj (by omega)
      refine lv_aload_n C.1 C.2.1 dX3_read_38 rfl (lv_at hl 1 rfl) ?_
      refine lv_aload_n C.1 C.2.1 dX3_read_39 rfl (lv_at hl 3 rfl) ?_
      refine lv_iconst (v := 0) C.1 C.2.1 dX3_read_40 (by decide) ?_
      refine lv_iconst (v := 0) C.1 C.2.1 dX3_read_41 (by decide) ?_
      refine mw_cVv (As := [.ref (mw_a E (39 + j)), .int 0, .int 0]) (rest := []) C Z hP hS (33) (cX_l0_0 l E (mw_si (mw_si (mw_si (mw_si u2 33 1 0) 33 2 (-1)) (39 + j) 3 0) 33 1 (nI (0 + 1))) T j hj (0 + 1) (T.tail) ([]) (161 - 1) (by omega) pn10.1) vb_X3_readLevel tw_2_216 ⟨rfl, rfl⟩ ⟨Nat.le_of_ble_eq_true rfl, Nat.le_of_ble_eq_true rfl⟩ (by decide) sx_33 rfl rfl rfl hl.1 rfl (Nat.le_of_ble_eq_true rfl) dX3_read_42 ⟨Nat.zero_le _, Nat.zero_le _⟩ (fun u20 H locs q21 hP hS => ?_)
      obtain ⟨hx11, f12⟩ := q21
      rcases e13 : (gD 5).2.2 (T.tail) with ⟨cs14, ts15⟩ | qq18
      · rw [e13] at hx11
        obtain ⟨a16, po17⟩ := hx11
        have po17 : xPo u20 T j a16 ts15 ([] ++ cs14) (161 - 1) := po17
        refine lv_aload_n C.1 C.2.1 dX3_read_45 rfl (lv_at hl 1 rfl) ?_
        refine lv_bipush (v := 14) C.1 C.2.1 dX3_read_46 (by decide) ?_
        refine mw_cVv (As := [.int 14]) (rest := []) C Z hP hS (33) (cX_passG l E u20 T j hj a16 ts15 (([] ++ cs14)) (161 - 1) (by omega) po17 14 (by decide)) vb_X3_pass tw_2_200 ⟨rfl, rfl⟩ ⟨Nat.le_of_ble_eq_true rfl, Nat.le_of_ble_eq_true rfl⟩ (by decide) sx_33 rfl rfl rfl hl.1 rfl (Nat.le_of_ble_eq_true rfl) dX3_read_48 ⟨Nat.zero_le _, Nat.zero_le _⟩ (fun u25 H locs q26 hP hS => ?_)
        by_cases hc22 : hdC ts15 = 14
        · have e23 := q26.1 hc22; subst e23
          have pn27 := po17.next hj (by omega)
          refine lv_aload_n C.1 C.2.1 dX3_read_51 rfl (lv_at hl 3 rfl) ?_
          refine lv_iload_n C.1 C.2.1 dX3_read_52 rfl (lv_at hl 0 rfl) ?_
          refine mw_cVv (As := [.int 0]) (rest := []) C Z hP hS (39 + j) (cX_endPart l E (mw_si u20 33 1 (nI (a16 + 1))) j hj 0 (by decide)) vb_X8_endPart tw_2_235 ⟨rfl, rfl⟩ ⟨Nat.le_of_ble_eq_true rfl, Nat.le_of_ble_eq_true rfl⟩ (by omega) (sx_tx (by omega)) rfl rfl rfl hl.1 rfl (Nat.le_of_ble_eq_true rfl) dX3_read_53 ⟨Nat.zero_le _, Nat.zero_le _⟩ (fun u29 H locs q30 hP hS => ?_)
          subst q30
          have po31 := pn27.1.en hj 0 ((mw_si u20 33 1 (nI (a16 + 1))).1 (39 + j) 3)
          have en32 : (mw_sa (mw_si u20 33 1 (nI (a16 + 1))) (51 + j) 0 ((mw_si u20 33 1 (nI (a16 + 1))).1 (39 + j) 3)).2.1 (51 + j) 0 = nI ([] ++ cs14).length := (mw_sa_at _ _ _ _).trans pn27.1.2.2.2.2.2.1.1
          refine lv_iinc (v := 1) (lv' := [(3, .int 1), (0, .ref (mw_a E 33)), (1, .ref (mw_a E 31)), (2, .ref (mw_a E (39 + j)))]) C.1 C.2.1 dX3_read_56 hl (k := 0) rfl (by decide) (by decide) rfl (fun ls hl => ?_)
          refine lv_goto (tgt := 25) C.1 C.2.1 dX3_read_59 (by decide) ?_
          refine lv_iload_n C.1 C.2.1 dX3_read_25 rfl (lv_at hl 0 rfl) ?_
          refine lv_iconst (v := 3) C.1 C.2.1 dX3_read_26 (by decide) ?_
          refine lv_icmp_ge (tgt := 62) C.1 C.2.1 dX3_read_27 (by decide) (fun c33 => ?_) (fun c33 => ?_)
          · exact absurd c33 (by decide)
          · refine lv_aload_n C.1 C.2.1 dX3_read_30 rfl (lv_at hl 1 rfl) ?_
            refine lv_bipush (v := 6) C.1 C.2.1 dX3_read_31 (by decide) ?_
            refine lv_iload_n C.1 C.2.1 dX3_read_33 rfl (lv_at hl 0 rfl) ?_
            refine lv_iadd C.1 C.2.1 dX3_read_34 ?_
            refine mw_top (y := 7) (by decide) ?_
            refine mw_cVv (As := [.int 7]) (rest := []) C Z hP hS (33) (cX_passG l E (mw_sa (mw_si u20 33 1 (nI (a16 + 1))) (51 + j) 0 ((mw_si u20 33 1 (nI (a16 + 1))).1 (39 + j) 3)) T j hj (a16 + 1) (ts15.tail) (([] ++ cs14)) (161 - 1 - 1) (by omega) po31 7 (by decide)) vb_X3_pass tw_2_200 ⟨rfl, rfl⟩ ⟨Nat.le_of_ble_eq_true rfl, Nat.le_of_ble_eq_true rfl⟩ (by decide) sx_33 rfl rfl rfl hl.1 rfl (Nat.le_of_ble_eq_true rfl) dX3_read_35 ⟨Nat.zero_le _, Nat.zero_le _⟩ (fun u37 H locs q38 hP hS => ?_)
            by_cases hc34 : hdC (ts15.tail) = 7
            · have e35 := q38.1 hc34; subst e35
              have pn39 := po31.next hj (by omega)
              refine lv_aload_n C.1 C.2.1 dX3_read_38 rfl (lv_at hl 1 rfl) ?_
              refine lv_aload_n C.1 C.2.1 dX3_read_39 rfl (lv_at hl 3 rfl) ?_
              refine lv_iconst (v := 0) C.1 C.2.1 dX3_read_40 (by decide) ?_
              refine lv_iconst (v := 0) C.1 C.2.1 dX3_read_41 (by decide) ?_
              refine mw_cVv (As := [.ref (mw_a E (39 + j)), .int 0, .int 0]) (rest := []) C Z hP hS (33) (cX_l0_0 l E (mw_si (mw_sa (mw_si u20 33 1 (nI (a16 + 1))) (51 + j) 0 ((mw_si u20 33 1 (nI (a16 + 1))).1 (39 + j) 3)) 33 1 (nI (a16 + 1 + 1))) T j hj (a16 + 1 + 1) ((ts15.tail).tail) (([] ++ cs14)) (161 - 1 - 1 - 1) (by omega) pn39.1) vb_X3_readLevel tw_2_216 ⟨rfl, rfl⟩ ⟨Nat.le_of_ble_eq_true rfl, Nat.le_of_ble_eq_true rfl⟩ (by decide) sx_33 rfl rfl rfl hl.1 rfl (Nat.le_of_ble_eq_true rfl) dX3_read_42 ⟨Nat.zero_le _, Nat.zero_le _⟩ (fun u49 H locs q50 hP hS => ?_)
              obtain ⟨hx40, f41⟩ := q50
              rcases e42 : (gD 5).2.2 ((ts15.tail).tail) with ⟨cs43, ts44⟩ | qq47
              · rw [e42] at hx40
                obtain ⟨a45, po46⟩ := hx40
                have po46 : xPo u49 T j a45 ts44 (([] ++ cs14) ++ cs43) (161 - 1 - 1 - 1) := po46
                refine lv_aload_n C.1 C.2.1 dX3_read_45 rfl (lv_at hl 1 rfl) ?_
                refine lv_bipush (v := 14) C.1 C.2.1 dX3_read_46 (by decide) ?_
                refine mw_cVv (As := [.int 14]) (rest := []) C Z hP hS (33) (cX_passG l E u49 T j hj a45 ts44 ((([] ++ cs14) ++ cs43)) (161 - 1 - 1 - 1) (by omega) po46 14 (by decide)) vb_X3_pass tw_2_200 ⟨rfl, rfl⟩ ⟨Nat.le_of_ble_eq_true rfl, Nat.le_of_ble_eq_true rfl⟩ (by decide) sx_33 rfl rfl rfl hl.1 rfl (Nat.le_of_ble_eq_true rfl) dX3_read_48 ⟨Nat.zero_le _, Nat.zero_le _⟩ (fun u54 H locs q55 hP hS => ?_)
                by_cases hc51 : hdC ts44 = 14
                · have e52 := q55.1 hc51; subst e52
                  have pn56 := po46.next hj (by omega)
                  refine lv_aload_n C.1 C.2.1 dX3_read_51 rfl (lv_at hl 3 rfl) ?_
                  refine lv_iload_n C.1 C.2.1 dX3_read_52 rfl (lv_at hl 0 rfl) ?_
                  refine mw_cVv (As := [.int 1]) (rest := []) C Z hP hS (39 + j) (cX_endPart l E (mw_si u49 33 1 (nI (a45 + 1))) j hj 1 (by decide)) vb_X8_endPart tw_2_235 ⟨rfl, rfl⟩ ⟨Nat.le_of_ble_eq_true rfl, Nat.le_of_ble_eq_true rfl⟩ (by omega) (sx_tx (by omega)) rfl rfl rfl hl.1 rfl (Nat.le_of_ble_eq_true rfl) dX3_read_53 ⟨Nat.zero_le _, Nat.zero_le _⟩ (fun u58 H locs q59 hP hS => ?_)
                  subst q59
                  have po60 := pn56.1.en hj 1 ((mw_si u49 33 1 (nI (a45 + 1))).1 (39 + j) 3)
                  have en61 : (mw_sa (mw_si u49 33 1 (nI (a45 + 1))) (51 + j) 1 ((mw_si u49 33 1 (nI (a45 + 1))).1 (39 + j) 3)).2.1 (51 + j) 1 = nI (([] ++ cs14) ++ cs43).length := (mw_sa_at _ _ _ _).trans pn56.1.2.2.2.2.2.1.1
                  refine lv_iinc (v := 2) (lv' := [(3, .int 2), (0, .ref (mw_a E 33)), (1, .ref (mw_a E 31)), (2, .ref (mw_a E (39 + j)))]) C.1 C.2.1 dX3_read_56 hl (k := 0) rfl (by decide) (by decide) rfl (fun ls hl => ?_)
                  refine lv_goto (tgt := 25) C.1 C.2.1 dX3_read_59 (by decide) ?_
                  refine lv_iload_n C.1 C.2.1 dX3_read_25 rfl (lv_at hl 0 rfl) ?_
                  refine lv_iconst (v := 3) C.1 C.2.1 dX3_read_26 (by decide) ?_
                  refine lv_icmp_ge (tgt := 62) C.1 C.2.1 dX3_read_27 (by decide) (fun c62 => ?_) (fun c62 => ?_)
                  · exact absurd c62 (by decide)
                  · refine lv_aload_n C.1 C.2.1 dX3_read_30 rfl (lv_at hl 1 rfl) ?_
                    refine lv_bipush (v := 6) C.1 C.2.1 dX3_read_31 (by decide) ?_
                    refine lv_iload_n C.1 C.2.1 dX3_read_33 rfl (lv_at hl 0 rfl) ?_
                    refine lv_iadd C.1 C.2.1 dX3_read_34 ?_
                    refine mw_top (y := 8) (by decide) ?_
                    refine mw_cVv (As := [.int 8]) (rest := []) C Z hP hS (33) (cX_passG l E (mw_sa (mw_si u49 33 1 (nI (a45 + 1))) (51 + j) 1 ((mw_si u49 33 1 (nI (a45 + 1))).1 (39 + j) 3)) T j hj (a45 + 1) (ts44.tail) ((([] ++ cs14) ++ cs43)) (161 - 1 - 1 - 1 - 1) (by omega) po60 8 (by decide)) vb_X3_pass tw_2_200 ⟨rfl, rfl⟩ ⟨Nat.le_of_ble_eq_true rfl, Nat.le_of_ble_eq_true rfl⟩ (by decide) sx_33 rfl rfl rfl hl.1 rfl (Nat.le_of_ble_eq_true rfl) dX3_read_35 ⟨Nat.zero_le _, Nat.zero_le _⟩ (fun u66 H locs q67 hP hS => ?_)
                    by_cases hc63 : hdC (ts44.tail) = 8
                    · have e64 := q67.1 hc63; subst e64
                      have pn68 := po60.next hj (by omega)
                      refine lv_aload_n C.1 C.2.1 dX3_read_38 rfl (lv_at hl 1 rfl) ?_
                      refine lv_aload_n C.1 C.2.1 dX3_read_39 rfl (lv_at hl 3 rfl) ?_
                      refine lv_iconst (v := 0) C.1 C.2.1 dX3_read_40 (by decide) ?_
                      refine lv_iconst (v := 0) C.1 C.2.1 dX3_read_41 (by decide) ?_
                      refine mw_cVv (As := [.ref (mw_a E (39 + j)), .int 0, .int 0]) (rest := []) C Z hP hS (33) (cX_l0_0 l E (mw_si (mw_sa (mw_si u49 33 1 (nI (a45 + 1))) (51 + j) 1 ((mw_si u49 33 1 (nI (a45 + 1))).1 (39 + j) 3)) 33 1 (nI (a45 + 1 + 1))) T j hj (a45 + 1 + 1) ((ts44.tail).tail) ((([] ++ cs14) ++ cs43)) (161 - 1 - 1 - 1 - 1 - 1) (by omega) pn68.1) vb_X3_readLevel tw_2_216 ⟨rfl, rfl⟩ ⟨Nat.le_of_ble_eq_true rfl, Nat.le_of_ble_eq_true rfl⟩ (by decide) sx_33 rfl rfl rfl hl.1 rfl (Nat.le_of_ble_eq_true rfl) dX3_read_42 ⟨Nat.zero_le _, Nat.zero_le _⟩ (fun u78 H locs q79 hP hS => ?_)
                      obtain ⟨hx69, f70⟩ := q79
                      rcases e71 : (gD 5).2.2 ((ts44.tail).tail) with ⟨cs72, ts73⟩ | qq76
                      · rw [e71] at hx69
                        obtain ⟨a74, po75⟩ := hx69
                        have po75 : xPo u78 T j a74 ts73 ((([] ++ cs14) ++ cs43) ++ cs72) (161 - 1 - 1 - 1 - 1 - 1) := po75
                        refine lv_aload_n C.1 C.2.1 dX3_read_45 rfl (lv_at hl 1 rfl) ?_
                        refine lv_bipush (v := 14) C.1 C.2.1 dX3_read_46 (by decide) ?_
                        refine mw_cVv (As := [.int 14]) (rest := []) C Z hP hS (33) (cX_passG l E u78 T j hj a74 ts73 (((([] ++ cs14) ++ cs43) ++ cs72)) (161 - 1 - 1 - 1 - 1 - 1) (by omega) po75 14 (by decide)) vb_X3_pass tw_2_200 ⟨rfl, rfl⟩ ⟨Nat.le_of_ble_eq_true rfl, Nat.le_of_ble_eq_true rfl⟩ (by decide) sx_33 rfl rfl rfl hl.1 rfl (Nat.le_of_ble_eq_true rfl) dX3_read_48 ⟨Nat.zero_le _, Nat.zero_le _⟩ (fun u83 H locs q84 hP hS => ?_)
                        by_cases hc80 : hdC ts73 = 14
                        · have e81 := q84.1 hc80; subst e81
                          have pn85 := po75.next hj (by omega)
                          refine lv_aload_n C.1 C.2.1 dX3_read_51 rfl (lv_at hl 3 rfl) ?_
                          refine lv_iload_n C.1 C.2.1 dX3_read_52 rfl (lv_at hl 0 rfl) ?_
                          refine mw_cVv (As := [.int 2]) (rest := []) C Z hP hS (39 + j) (cX_endPart l E (mw_si u78 33 1 (nI (a74 + 1))) j hj 2 (by decide)) vb_X8_endPart tw_2_235 ⟨rfl, rfl⟩ ⟨Nat.le_of_ble_eq_true rfl, Nat.le_of_ble_eq_true rfl⟩ (by omega) (sx_tx (by omega)) rfl rfl rfl hl.1 rfl (Nat.le_of_ble_eq_true rfl) dX3_read_53 ⟨Nat.zero_le _, Nat.zero_le _⟩ (fun u87 H locs q88 hP hS => ?_)
                          subst q88
                          have po89 := pn85.1.en hj 2 ((mw_si u78 33 1 (nI (a74 + 1))).1 (39 + j) 3)
                          have en90 : (mw_sa (mw_si u78 33 1 (nI (a74 + 1))) (51 + j) 2 ((mw_si u78 33 1 (nI (a74 + 1))).1 (39 + j) 3)).2.1 (51 + j) 2 = nI ((([] ++ cs14) ++ cs43) ++ cs72).length := (mw_sa_at _ _ _ _).trans pn85.1.2.2.2.2.2.1.1
                          refine lv_iinc (v := 3) (lv' := [(3, .int 3), (0, .ref (mw_a E 33)), (1, .ref (mw_a E 31)), (2, .ref (mw_a E (39 + j)))]) C.1 C.2.1 dX3_read_56 hl (k := 0) rfl (by decide) (by decide) rfl (fun ls hl => ?_)
                          refine lv_goto (tgt := 25) C.1 C.2.1 dX3_read_59 (by decide) ?_
                          refine lv_iload_n C.1 C.2.1 dX3_read_25 rfl (lv_at hl 0 rfl) ?_
                          refine lv_iconst (v := 3) C.1 C.2.1 dX3_read_26 (by decide) ?_
                          refine lv_icmp_ge (tgt := 62) C.1 C.2.1 dX3_read_27 (by decide) (fun c91 => ?_) (fun c91 => ?_)
                          · refine lv_aload_n C.1 C.2.1 dX3_read_62 rfl (lv_at hl 1 rfl) ?_
                            refine lv_bipush (v := 21) C.1 C.2.1 dX3_read_63 (by decide) ?_
                            refine mw_cVv (As := [.int 21]) (rest := []) C Z hP hS (33) (cX_passG l E (mw_sa (mw_si u78 33 1 (nI (a74 + 1))) (51 + j) 2 ((mw_si u78 33 1 (nI (a74 + 1))).1 (39 + j) 3)) T j hj (a74 + 1) (ts73.tail) (((([] ++ cs14) ++ cs43) ++ cs72)) (161 - 1 - 1 - 1 - 1 - 1 - 1) (by omega) po89 21 (by decide)) vb_X3_pass tw_2_200 ⟨rfl, rfl⟩ ⟨Nat.le_of_ble_eq_true rfl, Nat.le_of_ble_eq_true rfl⟩ (by decide) sx_33 rfl rfl rfl hl.1 rfl (Nat.le_of_ble_eq_true rfl) dX3_read_65 ⟨Nat.zero_le _, Nat.zero_le _⟩ (fun u95 H locs q96 hP hS => ?_)
                            by_cases hc92 : hdC (ts73.tail) = 21
                            · have e93 := q96.1 hc92; subst e93
                              refine lv_aload_n C.1 C.2.1 dX3_read_68 rfl (lv_at hl 1 rfl) ?_
                              refine mw_geti C Z hP (33) 2 (by decide) sx_33 rfl rfl (by decide) inX3 tw_1_155 dX3_read_69 ?_
                              refine mw_top (y := -1) ((mw_nf (by decide)).trans po89.2.2.2.2.1) ?_
                              have g0 : gPart 6 T = .inl (cs14, ts15.tail) := gPart_1 (by decide) hc5 e13 hc22
                              have l0 : eL (ts15.tail) := gPart_eL (by decide) hTe hc5 e13 hc22
                              have g1 : gPart 7 (ts15.tail) = .inl (cs43, ts44.tail) := gPart_1 (by decide) hc34 e42 hc51
                              have l1 : eL (ts44.tail) := gPart_eL (by decide) l0 hc34 e42 hc51
                              have g2 : gPart 8 (ts44.tail) = .inl (cs72, ts73.tail) := gPart_1 (by decide) hc63 e71 hc80
                              have l2 : eL (ts73.tail) := gPart_eL (by decide) l1 hc63 e71 hc80
                              have w0 := gPart_w hTo g0
                              have w1 := gPart_w (hTo.sf w0.1) g1
                              have w2 := gPart_w ((hTo.sf w0.1).sf w1.1) g2
                              have htx : xTx (mw_si (mw_sa (mw_si u78 33 1 (nI (a74 + 1))) (51 + j) 2 ((mw_si u78 33 1 (nI (a74 + 1))).1 (39 + j) 3)) 33 1 (nI (a74 + 1 + 1))) j (cs14, cs43, cs72) := xTx_of (a := cs14) (b := cs43) (c := cs72) hj po89.2.2.2.2.2.1.2 (Nat.le_trans (Nat.le_add_right _ _) (Nat.le_trans po89.2.2.2.2.2.2 (by omega))) ((mw_san (by decide)).trans ((congrFun (f70.2.1 (51 + j) (by omega)) 0).trans ((mw_san (by decide)).trans ((congrFun (f41.2.1 (51 + j) (by omega)) 0).trans en32)))) ((mw_san (by decide)).trans ((congrFun (f70.2.1 (51 + j) (by omega)) 1).trans en61)) en90 w0.2.2 w1.2.2 w2.2.2
                              exact mw_iret C hr hlk Z hP hS dX3_read_72 (⟨xRes.gd ((xText_4 g0 g1 g2 l2).1 hc92) htx, (((((((((((((((((q3.rf j).rd _ _).rd _ _).sz _ _).rd _ _).tr f12).rd _ _).en _ _).rd _ _).tr f41).rd _ _).en _ _).rd _ _).tr f70).rd _ _).en _ _).rd _ _)⟩)
                            · have e93 := q96.2 hc92; subst e93
                              have pb97 := po89.fail hj (by have y := po89.2.2.2.2.2.2; omega)
                              refine lv_aload_n C.1 C.2.1 dX3_read_68 rfl (lv_at hl 1 rfl) ?_
                              refine mw_geti C Z hP (33) 2 (by decide) sx_33 rfl rfl (by decide) inX3 tw_1_155 dX3_read_69 ?_
                              refine mw_top (y := nI ((hdP (ts73.tail)))) (pb97.2.2.1.1) ?_
                              have g0 : gPart 6 T = .inl (cs14, ts15.tail) := gPart_1 (by decide) hc5 e13 hc22
                              have l0 : eL (ts15.tail) := gPart_eL (by decide) hTe hc5 e13 hc22
                              have g1 : gPart 7 (ts15.tail) = .inl (cs43, ts44.tail) := gPart_1 (by decide) hc34 e42 hc51
                              have l1 : eL (ts44.tail) := gPart_eL (by decide) l0 hc34 e42 hc51
                              have g2 : gPart 8 (ts44.tail) = .inl (cs72, ts73.tail) := gPart_1 (by decide) hc63 e71 hc80
                              have l2 : eL (ts73.tail) := gPart_eL (by decide) l1 hc63 e71 hc80
                              exact mw_iret C hr hlk Z hP hS dX3_read_72 (⟨xRes.bd ((xText_4 g0 g1 g2 l2).2 hc92) pb97.2.2.1.2, (((((((((((((((((q3.rf j).rd _ _).rd _ _).sz _ _).rd _ _).tr f12).rd _ _).en _ _).rd _ _).tr f41).rd _ _).en _ _).rd _ _).tr f70).rd _ _).en _ _).rd _ _)⟩)
                          · exact absurd c91 (by decide)
                        · have e81 := q84.2 hc80; subst e81
                          have pb98 := po75.fail hj (by have y := po75.2.2.2.2.2.2; omega)
                          refine lv_aload_n C.1 C.2.1 dX3_read_51 rfl (lv_at hl 3 rfl) ?_
                          refine lv_iload_n C.1 C.2.1 dX3_read_52 rfl (lv_at hl 0 rfl) ?_
                          refine mw_cVv (As := [.int 2]) (rest := []) C Z hP hS (39 + j) (cX_endPart l E (mw_si u78 33 2 (nI (hdP ts73))) j hj 2 (by decide)) vb_X8_endPart tw_2_235 ⟨rfl, rfl⟩ ⟨Nat.le_of_ble_eq_true rfl, Nat.le_of_ble_eq_true rfl⟩ (by omega) (sx_tx (by omega)) rfl rfl rfl hl.1 rfl (Nat.le_of_ble_eq_true rfl) dX3_read_53 ⟨Nat.zero_le _, Nat.zero_le _⟩ (fun u100 H locs q101 hP hS => ?_)
                          subst q101
                          have pb102 := pb98.en hj 2 ((mw_si u78 33 2 (nI (hdP ts73))).1 (39 + j) 3)
                          refine lv_iinc (v := 3) (lv' := [(3, .int 3), (0, .ref (mw_a E 33)), (1, .ref (mw_a E 31)), (2, .ref (mw_a E (39 + j)))]) C.1 C.2.1 dX3_read_56 hl (k := 0) rfl (by decide) (by decide) rfl (fun ls hl => ?_)
                          refine lv_goto (tgt := 25) C.1 C.2.1 dX3_read_59 (by decide) ?_
                          refine lv_iload_n C.1 C.2.1 dX3_read_25 rfl (lv_at hl 0 rfl) ?_
                          refine lv_iconst (v := 3) C.1 C.2.1 dX3_read_26 (by decide) ?_
                          refine lv_icmp_ge (tgt := 62) C.1 C.2.1 dX3_read_27 (by decide) (fun c103 => ?_) (fun c103 => ?_)
                          · refine lv_aload_n C.1 C.2.1 dX3_read_62 rfl (lv_at hl 1 rfl) ?_
                            refine lv_bipush (v := 21) C.1 C.2.1 dX3_read_63 (by decide) ?_
                            refine mw_cVv (As := [.int 21]) (rest := []) C Z hP hS (33) (cX_passB l E (mw_sa (mw_si u78 33 2 (nI (hdP ts73))) (51 + j) 2 ((mw_si u78 33 2 (nI (hdP ts73))).1 (39 + j) 3)) T j hj ((hdP ts73)) pb102 (21 : Int32)) vb_X3_pass tw_2_200 ⟨rfl, rfl⟩ ⟨Nat.le_of_ble_eq_true rfl, Nat.le_of_ble_eq_true rfl⟩ (by decide) sx_33 rfl rfl rfl hl.1 rfl (Nat.le_of_ble_eq_true rfl) dX3_read_65 ⟨Nat.zero_le _, Nat.zero_le _⟩ (fun u105 H locs q106 hP hS => ?_)
                            rw [q106] at hP; clear q106
                            refine lv_aload_n C.1 C.2.1 dX3_read_68 rfl (lv_at hl 1 rfl) ?_
                            refine mw_geti C Z hP (33) 2 (by decide) sx_33 rfl rfl (by decide) inX3 tw_1_155 dX3_read_69 ?_
                            refine mw_top (y := nI ((hdP ts73))) (pb102.2.2.1.1) ?_
                            have g0 : gPart 6 T = .inl (cs14, ts15.tail) := gPart_1 (by decide) hc5 e13 hc22
                            have l0 : eL (ts15.tail) := gPart_eL (by decide) hTe hc5 e13 hc22
                            have g1 : gPart 7 (ts15.tail) = .inl (cs43, ts44.tail) := gPart_1 (by decide) hc34 e42 hc51
                            have l1 : eL (ts44.tail) := gPart_eL (by decide) l0 hc34 e42 hc51
                            exact mw_iret C hr hlk Z hP hS dX3_read_72 (⟨xRes.bd (xText_3 g0 g1 (gPart_2 (by decide) hc63 e71 hc80)) pb102.2.2.1.2, ((((((((((((((((q3.rf j).rd _ _).rd _ _).sz _ _).rd _ _).tr f12).rd _ _).en _ _).rd _ _).tr f41).rd _ _).en _ _).rd _ _).tr f70).rd _ _).en _ _)⟩)
                          · exact absurd c103 (by decide)
                      · rw [e71] at hx69
                        have po75 : xPb u78 T j qq76 := hx69
                        refine lv_aload_n C.1 C.2.1 dX3_read_45 rfl (lv_at hl 1 rfl) ?_
                        refine lv_bipush (v := 14) C.1 C.2.1 dX3_read_46 (by decide) ?_
                        refine mw_cVv (As := [.int 14]) (rest := []) C Z hP hS (33) (cX_passB l E u78 T j hj qq76 po75 (14 : Int32)) vb_X3_pass tw_2_200 ⟨rfl, rfl⟩ ⟨Nat.le_of_ble_eq_true rfl, Nat.le_of_ble_eq_true rfl⟩ (by decide) sx_33 rfl rfl rfl hl.1 rfl (Nat.le_of_ble_eq_true rfl) dX3_read_48 ⟨Nat.zero_le _, Nat.zero_le _⟩ (fun u108 H locs q109 hP hS => ?_)
                        rw [q109] at hP; clear q109
                        refine lv_aload_n C.1 C.2.1 dX3_read_51 rfl (lv_at hl 3 rfl) ?_
                        refine lv_iload_n C.1 C.2.1 dX3_read_52 rfl (lv_at hl 0 rfl) ?_
                        refine mw_cVv (As := [.int 2]) (rest := []) C Z hP hS (39 + j) (cX_endPart l E u78 j hj 2 (by decide)) vb_X8_endPart tw_2_235 ⟨rfl, rfl⟩ ⟨Nat.le_of_ble_eq_true rfl, Nat.le_of_ble_eq_true rfl⟩ (by omega) (sx_tx (by omega)) rfl rfl rfl hl.1 rfl (Nat.le_of_ble_eq_true rfl) dX3_read_53 ⟨Nat.zero_le _, Nat.zero_le _⟩ (fun u111 H locs q112 hP hS => ?_)
                        subst q112
                        have pb113 := po75.en hj 2 (u78.1 (39 + j) 3)
                        refine lv_iinc (v := 3) (lv' := [(3, .int 3), (0, .ref (mw_a E 33)), (1, .ref (mw_a E 31)), (2, .ref (mw_a E (39 + j)))]) C.1 C.2.1 dX3_read_56 hl (k := 0) rfl (by decide) (by decide) rfl (fun ls hl => ?_)
                        refine lv_goto (tgt := 25) C.1 C.2.1 dX3_read_59 (by decide) ?_
                        refine lv_iload_n C.1 C.2.1 dX3_read_25 rfl (lv_at hl 0 rfl) ?_
                        refine lv_iconst (v := 3) C.1 C.2.1 dX3_read_26 (by decide) ?_
                        refine lv_icmp_ge (tgt := 62) C.1 C.2.1 dX3_read_27 (by decide) (fun c114 => ?_) (fun c114 => ?_)
                        · refine lv_aload_n C.1 C.2.1 dX3_read_62 rfl (lv_at hl 1 rfl) ?_
                          refine lv_bipush (v := 21) C.1 C.2.1 dX3_read_63 (by decide) ?_
                          refine mw_cVv (As := [.int 21]) (rest := []) C Z hP hS (33) (cX_passB l E (mw_sa u78 (51 + j) 2 (u78.1 (39 + j) 3)) T j hj qq76 pb113 (21 : Int32)) vb_X3_pass tw_2_200 ⟨rfl, rfl⟩ ⟨Nat.le_of_ble_eq_true rfl, Nat.le_of_ble_eq_true rfl⟩ (by decide) sx_33 rfl rfl rfl hl.1 rfl (Nat.le_of_ble_eq_true rfl) dX3_read_65 ⟨Nat.zero_le _, Nat.zero_le _⟩ (fun u116 H locs q117 hP hS => ?_)
                          rw [q117] at hP; clear q117
                          refine lv_aload_n C.1 C.2.1 dX3_read_68 rfl (lv_at hl 1 rfl) ?_
                          refine mw_geti C Z hP (33) 2 (by decide) sx_33 rfl rfl (by decide) inX3 tw_1_155 dX3_read_69 ?_
                          refine mw_top (y := nI qq76) (pb113.2.2.1.1) ?_
                          have g0 : gPart 6 T = .inl (cs14, ts15.tail) := gPart_1 (by decide) hc5 e13 hc22
                          have l0 : eL (ts15.tail) := gPart_eL (by decide) hTe hc5 e13 hc22
                          have g1 : gPart 7 (ts15.tail) = .inl (cs43, ts44.tail) := gPart_1 (by decide) hc34 e42 hc51
                          have l1 : eL (ts44.tail) := gPart_eL (by decide) l0 hc34 e42 hc51
                          exact mw_iret C hr hlk Z hP hS dX3_read_72 (⟨xRes.bd (xText_3 g0 g1 (gPart_3 (by decide) hc63 e71)) pb113.2.2.1.2, (((((((((((((((q3.rf j).rd _ _).rd _ _).sz _ _).rd _ _).tr f12).rd _ _).en _ _).rd _ _).tr f41).rd _ _).en _ _).rd _ _).tr f70).en _ _)⟩)
                        · exact absurd c114 (by decide)
                    · have e64 := q67.2 hc63; subst e64
                      have pb118 := po60.fail hj (by have y := po60.2.2.2.2.2.2; omega)
                      refine lv_aload_n C.1 C.2.1 dX3_read_38 rfl (lv_at hl 1 rfl) ?_
                      refine lv_aload_n C.1 C.2.1 dX3_read_39 rfl (lv_at hl 3 rfl) ?_
                      refine lv_iconst (v := 0) C.1 C.2.1 dX3_read_40 (by decide) ?_
                      refine lv_iconst (v := 0) C.1 C.2.1 dX3_read_41 (by decide) ?_
                      refine mw_cVv (As := [.ref (mw_a E (39 + j)), .int 0, .int 0]) (rest := []) C Z hP hS (33) (cX_l0B l E (mw_si (mw_sa (mw_si u49 33 1 (nI (a45 + 1))) (51 + j) 1 ((mw_si u49 33 1 (nI (a45 + 1))).1 (39 + j) 3)) 33 2 (nI (hdP (ts44.tail)))) T j hj ((hdP (ts44.tail))) pb118) vb_X3_readLevel tw_2_216 ⟨rfl, rfl⟩ ⟨Nat.le_of_ble_eq_true rfl, Nat.le_of_ble_eq_true rfl⟩ (by decide) sx_33 rfl rfl rfl hl.1 rfl (Nat.le_of_ble_eq_true rfl) dX3_read_42 ⟨Nat.zero_le _, Nat.zero_le _⟩ (fun u120 H locs q121 hP hS => ?_)
                      rw [q121] at hP; clear q121
                      refine lv_aload_n C.1 C.2.1 dX3_read_45 rfl (lv_at hl 1 rfl) ?_
                      refine lv_bipush (v := 14) C.1 C.2.1 dX3_read_46 (by decide) ?_
                      refine mw_cVv (As := [.int 14]) (rest := []) C Z hP hS (33) (cX_passB l E (mw_si (mw_sa (mw_si u49 33 1 (nI (a45 + 1))) (51 + j) 1 ((mw_si u49 33 1 (nI (a45 + 1))).1 (39 + j) 3)) 33 2 (nI (hdP (ts44.tail)))) T j hj ((hdP (ts44.tail))) pb118 (14 : Int32)) vb_X3_pass tw_2_200 ⟨rfl, rfl⟩ ⟨Nat.le_of_ble_eq_true rfl, Nat.le_of_ble_eq_true rfl⟩ (by decide) sx_33 rfl rfl rfl hl.1 rfl (Nat.le_of_ble_eq_true rfl) dX3_read_48 ⟨Nat.zero_le _, Nat.zero_le _⟩ (fun u123 H locs q124 hP hS => ?_)
                      rw [q124] at hP; clear q124
                      refine lv_aload_n C.1 C.2.1 dX3_read_51 rfl (lv_at hl 3 rfl) ?_
                      refine lv_iload_n C.1 C.2.1 dX3_read_52 rfl (lv_at hl 0 rfl) ?_
                      refine mw_cVv (As := [.int 2]) (rest := []) C Z hP hS (39 + j) (cX_endPart l E (mw_si (mw_sa (mw_si u49 33 1 (nI (a45 + 1))) (51 + j) 1 ((mw_si u49 33 1 (nI (a45 + 1))).1 (39 + j) 3)) 33 2 (nI (hdP (ts44.tail)))) j hj 2 (by decide)) vb_X8_endPart tw_2_235 ⟨rfl, rfl⟩ ⟨Nat.le_of_ble_eq_true rfl, Nat.le_of_ble_eq_true rfl⟩ (by omega) (sx_tx (by omega)) rfl rfl rfl hl.1 rfl (Nat.le_of_ble_eq_true rfl) dX3_read_53 ⟨Nat.zero_le _, Nat.zero_le _⟩ (fun u126 H locs q127 hP hS => ?_)
                      subst q127
                      have pb128 := pb118.en hj 2 ((mw_si (mw_sa (mw_si u49 33 1 (nI (a45 + 1))) (51 + j) 1 ((mw_si u49 33 1 (nI (a45 + 1))).1 (39 + j) 3)) 33 2 (nI (hdP (ts44.tail)))).1 (39 + j) 3)
                      refine lv_iinc (v := 3) (lv' := [(3, .int 3), (0, .ref (mw_a E 33)), (1, .ref (mw_a E 31)), (2, .ref (mw_a E (39 + j)))]) C.1 C.2.1 dX3_read_56 hl (k := 0) rfl (by decide) (by decide) rfl (fun ls hl => ?_)
                      refine lv_goto (tgt := 25) C.1 C.2.1 dX3_read_59 (by decide) ?_
                      refine lv_iload_n C.1 C.2.1 dX3_read_25 rfl (lv_at hl 0 rfl) ?_
                      refine lv_iconst (v := 3) C.1 C.2.1 dX3_read_26 (by decide) ?_
                      refine lv_icmp_ge (tgt := 62) C.1 C.2.1 dX3_read_27 (by decide) (fun c129 => ?_) (fun c129 => ?_)
                      · refine lv_aload_n C.1 C.2.1 dX3_read_62 rfl (lv_at hl 1 rfl) ?_
                        refine lv_bipush (v := 21) C.1 C.2.1 dX3_read_63 (by decide) ?_
                        refine mw_cVv (As := [.int 21]) (rest := []) C Z hP hS (33) (cX_passB l E (mw_sa (mw_si (mw_sa (mw_si u49 33 1 (nI (a45 + 1))) (51 + j) 1 ((mw_si u49 33 1 (nI (a45 + 1))).1 (39 + j) 3)) 33 2 (nI (hdP (ts44.tail)))) (51 + j) 2 ((mw_si (mw_sa (mw_si u49 33 1 (nI (a45 + 1))) (51 + j) 1 ((mw_si u49 33 1 (nI (a45 + 1))).1 (39 + j) 3)) 33 2 (nI (hdP (ts44.tail)))).1 (39 + j) 3)) T j hj ((hdP (ts44.tail))) pb128 (21 : Int32)) vb_X3_pass tw_2_200 ⟨rfl, rfl⟩ ⟨Nat.le_of_ble_eq_true rfl, Nat.le_of_ble_eq_true rfl⟩ (by decide) sx_33 rfl rfl rfl hl.1 rfl (Nat.le_of_ble_eq_true rfl) dX3_read_65 ⟨Nat.zero_le _, Nat.zero_le _⟩ (fun u131 H locs q132 hP hS => ?_)
                        rw [q132] at hP; clear q132
                        refine lv_aload_n C.1 C.2.1 dX3_read_68 rfl (lv_at hl 1 rfl) ?_
                        refine mw_geti C Z hP (33) 2 (by decide) sx_33 rfl rfl (by decide) inX3 tw_1_155 dX3_read_69 ?_
                        refine mw_top (y := nI ((hdP (ts44.tail)))) (pb128.2.2.1.1) ?_
                        have g0 : gPart 6 T = .inl (cs14, ts15.tail) := gPart_1 (by decide) hc5 e13 hc22
                        have l0 : eL (ts15.tail) := gPart_eL (by decide) hTe hc5 e13 hc22
                        have g1 : gPart 7 (ts15.tail) = .inl (cs43, ts44.tail) := gPart_1 (by decide) hc34 e42 hc51
                        have l1 : eL (ts44.tail) := gPart_eL (by decide) l0 hc34 e42 hc51
                        exact mw_iret C hr hlk Z hP hS dX3_read_72 (⟨xRes.bd (xText_3 g0 g1 (gPart_0 hc63)) pb128.2.2.1.2, ((((((((((((((q3.rf j).rd _ _).rd _ _).sz _ _).rd _ _).tr f12).rd _ _).en _ _).rd _ _).tr f41).rd _ _).en _ _).rd _ _).en _ _)⟩)
                      · exact absurd c129 (by decide)
                · have e52 := q55.2 hc51; subst e52
                  have pb133 := po46.fail hj (by have y := po46.2.2.2.2.2.2; omega)
                  refine lv_aload_n C.1 C.2.1 dX3_read_51 rfl (lv_at hl 3 rfl) ?_
                  refine lv_iload_n C.1 C.2.1 dX3_read_52 rfl (lv_at hl 0 rfl) ?_
                  refine mw_cVv (As := [.int 1]) (rest := []) C Z hP hS (39 + j) (cX_endPart l E (mw_si u49 33 2 (nI (hdP ts44))) j hj 1 (by decide)) vb_X8_endPart tw_2_235 ⟨rfl, rfl⟩ ⟨Nat.le_of_ble_eq_true rfl, Nat.le_of_ble_eq_true rfl⟩ (by omega) (sx_tx (by omega)) rfl rfl rfl hl.1 rfl (Nat.le_of_ble_eq_true rfl) dX3_read_53 ⟨Nat.zero_le _, Nat.zero_le _⟩ (fun u135 H locs q136 hP hS => ?_)
                  subst q136
                  have pb137 := pb133.en hj 1 ((mw_si u49 33 2 (nI (hdP ts44))).1 (39 + j) 3)
                  refine lv_iinc (v := 2) (lv' := [(3, .int 2), (0, .ref (mw_a E 33)), (1, .ref (mw_a E 31)), (2, .ref (mw_a E (39 + j)))]) C.1 C.2.1 dX3_read_56 hl (k := 0) rfl (by decide) (by decide) rfl (fun ls hl => ?_)
                  refine lv_goto (tgt := 25) C.1 C.2.1 dX3_read_59 (by decide) ?_
                  refine lv_iload_n C.1 C.2.1 dX3_read_25 rfl (lv_at hl 0 rfl) ?_
                  refine lv_iconst (v := 3) C.1 C.2.1 dX3_read_26 (by decide) ?_
                  refine lv_icmp_ge (tgt := 62) C.1 C.2.1 dX3_read_27 (by decide) (fun c138 => ?_) (fun c138 => ?_)
                  · exact absurd c138 (by decide)
                  · refine lv_aload_n C.1 C.2.1 dX3_read_30 rfl (lv_at hl 1 rfl) ?_
                    refine lv_bipush (v := 6) C.1 C.2.1 dX3_read_31 (by decide) ?_
                    refine lv_iload_n C.1 C.2.1 dX3_read_33 rfl (lv_at hl 0 rfl) ?_
                    refine lv_iadd C.1 C.2.1 dX3_read_34 ?_
                    refine mw_top (y := 8) (by decide) ?_
                    refine mw_cVv (As := [.int 8]) (rest := []) C Z hP hS (33) (cX_passB l E (mw_sa (mw_si u49 33 2 (nI (hdP ts44))) (51 + j) 1 ((mw_si u49 33 2 (nI (hdP ts44))).1 (39 + j) 3)) T j hj ((hdP ts44)) pb137 (8 : Int32)) vb_X3_pass tw_2_200 ⟨rfl, rfl⟩ ⟨Nat.le_of_ble_eq_true rfl, Nat.le_of_ble_eq_true rfl⟩ (by decide) sx_33 rfl rfl rfl hl.1 rfl (Nat.le_of_ble_eq_true rfl) dX3_read_35 ⟨Nat.zero_le _, Nat.zero_le _⟩ (fun u140 H locs q141 hP hS => ?_)
                    rw [q141] at hP; clear q141
                    refine lv_aload_n C.1 C.2.1 dX3_read_38 rfl (lv_at hl 1 rfl) ?_
                    refine lv_aload_n C.1 C.2.1 dX3_read_39 rfl (lv_at hl 3 rfl) ?_
                    refine lv_iconst (v := 0) C.1 C.2.1 dX3_read_40 (by decide) ?_
                    refine lv_iconst (v := 0) C.1 C.2.1 dX3_read_41 (by decide) ?_
                    refine mw_cVv (As := [.ref (mw_a E (39 + j)), .int 0, .int 0]) (rest := []) C Z hP hS (33) (cX_l0B l E (mw_sa (mw_si u49 33 2 (nI (hdP ts44))) (51 + j) 1 ((mw_si u49 33 2 (nI (hdP ts44))).1 (39 + j) 3)) T j hj ((hdP ts44)) pb137) vb_X3_readLevel tw_2_216 ⟨rfl, rfl⟩ ⟨Nat.le_of_ble_eq_true rfl, Nat.le_of_ble_eq_true rfl⟩ (by decide) sx_33 rfl rfl rfl hl.1 rfl (Nat.le_of_ble_eq_true rfl) dX3_read_42 ⟨Nat.zero_le _, Nat.zero_le _⟩ (fun u143 H locs q144 hP hS => ?_)
                    rw [q144] at hP; clear q144
                    refine lv_aload_n C.1 C.2.1 dX3_read_45 rfl (lv_at hl 1 rfl) ?_
                    refine lv_bipush (v := 14) C.1 C.2.1 dX3_read_46 (by decide) ?_
                    refine mw_cVv (As := [.int 14]) (rest := []) C Z hP hS (33) (cX_passB l E (mw_sa (mw_si u49 33 2 (nI (hdP ts44))) (51 + j) 1 ((mw_si u49 33 2 (nI (hdP ts44))).1 (39 + j) 3)) T j hj ((hdP ts44)) pb137 (14 : Int32)) vb_X3_pass tw_2_200 ⟨rfl, rfl⟩ ⟨Nat.le_of_ble_eq_true rfl, Nat.le_of_ble_eq_true rfl⟩ (by decide) sx_33 rfl rfl rfl hl.1 rfl (Nat.le_of_ble_eq_true rfl) dX3_read_48 ⟨Nat.zero_le _, Nat.zero_le _⟩ (fun u146 H locs q147 hP hS => ?_)
                    rw [q147] at hP; clear q147
                    refine lv_aload_n C.1 C.2.1 dX3_read_51 rfl (lv_at hl 3 rfl) ?_
                    refine lv_iload_n C.1 C.2.1 dX3_read_52 rfl (lv_at hl 0 rfl) ?_
                    refine mw_cVv (As := [.int 2]) (rest := []) C Z hP hS (39 + j) (cX_endPart l E (mw_sa (mw_si u49 33 2 (nI (hdP ts44))) (51 + j) 1 ((mw_si u49 33 2 (nI (hdP ts44))).1 (39 + j) 3)) j hj 2 (by decide)) vb_X8_endPart tw_2_235 ⟨rfl, rfl⟩ ⟨Nat.le_of_ble_eq_true rfl, Nat.le_of_ble_eq_true rfl⟩ (by omega) (sx_tx (by omega)) rfl rfl rfl hl.1 rfl (Nat.le_of_ble_eq_true rfl) dX3_read_53 ⟨Nat.zero_le _, Nat.zero_le _⟩ (fun u149 H locs q150 hP hS => ?_)
                    subst q150
                    have pb151 := pb137.en hj 2 ((mw_sa (mw_si u49 33 2 (nI (hdP ts44))) (51 + j) 1 ((mw_si u49 33 2 (nI (hdP ts44))).1 (39 + j) 3)).1 (39 + j) 3)
                    refine lv_iinc (v := 3) (lv' := [(3, .int 3), (0, .ref (mw_a E 33)), (1, .ref (mw_a E 31)), (2, .ref (mw_a E (39 + j)))]) C.1 C.2.1 dX3_read_56 hl (k := 0) rfl (by decide) (by decide) rfl (fun ls hl => ?_)
                    refine lv_goto (tgt := 25) C.1 C.2.1 dX3_read_59 (by decide) ?_
                    refine lv_iload_n C.1 C.2.1 dX3_read_25 rfl (lv_at hl 0 rfl) ?_
                    refine lv_iconst (v := 3) C.1 C.2.1 dX3_read_26 (by decide) ?_
                    refine lv_icmp_ge (tgt := 62) C.1 C.2.1 dX3_read_27 (by decide) (fun c152 => ?_) (fun c152 => ?_)
                    · refine lv_aload_n C.1 C.2.1 dX3_read_62 rfl (lv_at hl 1 rfl) ?_
                      refine lv_bipush (v := 21) C.1 C.2.1 dX3_read_63 (by decide) ?_
                      refine mw_cVv (As := [.int 21]) (rest := []) C Z hP hS (33) (cX_passB l E (mw_sa (mw_sa (mw_si u49 33 2 (nI (hdP ts44))) (51 + j) 1 ((mw_si u49 33 2 (nI (hdP ts44))).1 (39 + j) 3)) (51 + j) 2 ((mw_sa (mw_si u49 33 2 (nI (hdP ts44))) (51 + j) 1 ((mw_si u49 33 2 (nI (hdP ts44))).1 (39 + j) 3)).1 (39 + j) 3)) T j hj ((hdP ts44)) pb151 (21 : Int32)) vb_X3_pass tw_2_200 ⟨rfl, rfl⟩ ⟨Nat.le_of_ble_eq_true rfl, Nat.le_of_ble_eq_true rfl⟩ (by decide) sx_33 rfl rfl rfl hl.1 rfl (Nat.le_of_ble_eq_true rfl) dX3_read_65 ⟨Nat.zero_le _, Nat.zero_le _⟩ (fun u154 H locs q155 hP hS => ?_)
                      rw [q155] at hP; clear q155
                      refine lv_aload_n C.1 C.2.1 dX3_read_68 rfl (lv_at hl 1 rfl) ?_
                      refine mw_geti C Z hP (33) 2 (by decide) sx_33 rfl rfl (by decide) inX3 tw_1_155 dX3_read_69 ?_
                      refine mw_top (y := nI ((hdP ts44))) (pb151.2.2.1.1) ?_
                      have g0 : gPart 6 T = .inl (cs14, ts15.tail) := gPart_1 (by decide) hc5 e13 hc22
                      have l0 : eL (ts15.tail) := gPart_eL (by decide) hTe hc5 e13 hc22
                      exact mw_iret C hr hlk Z hP hS dX3_read_72 (⟨xRes.bd (xText_2 g0 (gPart_2 (by decide) hc34 e42 hc51)) pb151.2.2.1.2, (((((((((((((q3.rf j).rd _ _).rd _ _).sz _ _).rd _ _).tr f12).rd _ _).en _ _).rd _ _).tr f41).rd _ _).en _ _).en _ _)⟩)
                    · exact absurd c152 (by decide)
              · rw [e42] at hx40
                have po46 : xPb u49 T j qq47 := hx40
                refine lv_aload_n C.1 C.2.1 dX3_read_45 rfl (lv_at hl 1 rfl) ?_
                refine lv_bipush (v := 14) C.1 C.2.1 dX3_read_46 (by decide) ?_
                refine mw_cVv (As := [.int 14]) (rest := []) C Z hP hS (33) (cX_passB l E u49 T j hj qq47 po46 (14 : Int32)) vb_X3_pass tw_2_200 ⟨rfl, rfl⟩ ⟨Nat.le_of_ble_eq_true rfl, Nat.le_of_ble_eq_true rfl⟩ (by decide) sx_33 rfl rfl rfl hl.1 rfl (Nat.le_of_ble_eq_true rfl) dX3_read_48 ⟨Nat.zero_le _, Nat.zero_le _⟩ (fun u157 H locs q158 hP hS => ?_)
                rw [q158] at hP; clear q158
                refine lv_aload_n C.1 C.2.1 dX3_read_51 rfl (lv_at hl 3 rfl) ?_
                refine lv_iload_n C.1 C.2.1 dX3_read_52 rfl (lv_at hl 0 rfl) ?_
                refine mw_cVv (As := [.int 1]) (rest := []) C Z hP hS (39 + j) (cX_endPart l E u49 j hj 1 (by decide)) vb_X8_endPart tw_2_235 ⟨rfl, rfl⟩ ⟨Nat.le_of_ble_eq_true rfl, Nat.le_of_ble_eq_true rfl⟩ (by omega) (sx_tx (by omega)) rfl rfl rfl hl.1 rfl (Nat.le_of_ble_eq_true rfl) dX3_read_53 ⟨Nat.zero_le _, Nat.zero_le _⟩ (fun u160 H locs q161 hP hS => ?_)
                subst q161
                have pb162 := po46.en hj 1 (u49.1 (39 + j) 3)
                refine lv_iinc (v := 2) (lv' := [(3, .int 2), (0, .ref (mw_a E 33)), (1, .ref (mw_a E 31)), (2, .ref (mw_a E (39 + j)))]) C.1 C.2.1 dX3_read_56 hl (k := 0) rfl (by decide) (by decide) rfl (fun ls hl => ?_)
                refine lv_goto (tgt := 25) C.1 C.2.1 dX3_read_59 (by decide) ?_
                refine lv_iload_n C.1 C.2.1 dX3_read_25 rfl (lv_at hl 0 rfl) ?_
                refine lv_iconst (v := 3) C.1 C.2.1 dX3_read_26 (by decide) ?_
                refine lv_icmp_ge (tgt := 62) C.1 C.2.1 dX3_read_27 (by decide) (fun c163 => ?_) (fun c163 => ?_)
                · exact absurd c163 (by decide)
                · refine lv_aload_n C.1 C.2.1 dX3_read_30 rfl (lv_at hl 1 rfl) ?_
                  refine lv_bipush (v := 6) C.1 C.2.1 dX3_read_31 (by decide) ?_
                  refine lv_iload_n C.1 C.2.1 dX3_read_33 rfl (lv_at hl 0 rfl) ?_
                  refine lv_iadd C.1 C.2.1 dX3_read_34 ?_
                  refine mw_top (y := 8) (by decide) ?_
                  refine mw_cVv (As := [.int 8]) (rest := []) C Z hP hS (33) (cX_passB l E (mw_sa u49 (51 + j) 1 (u49.1 (39 + j) 3)) T j hj qq47 pb162 (8 : Int32)) vb_X3_pass tw_2_200 ⟨rfl, rfl⟩ ⟨Nat.le_of_ble_eq_true rfl, Nat.le_of_ble_eq_true rfl⟩ (by decide) sx_33 rfl rfl rfl hl.1 rfl (Nat.le_of_ble_eq_true rfl) dX3_read_35 ⟨Nat.zero_le _, Nat.zero_le _⟩ (fun u165 H locs q166 hP hS => ?_)
                  rw [q166] at hP; clear q166
                  refine lv_aload_n C.1 C.2.1 dX3_read_38 rfl (lv_at hl 1 rfl) ?_
                  refine lv_aload_n C.1 C.2.1 dX3_read_39 rfl (lv_at hl 3 rfl) ?_
                  refine lv_iconst (v := 0) C.1 C.2.1 dX3_read_40 (by decide) ?_
                  refine lv_iconst (v := 0) C.1 C.2.1 dX3_read_41 (by decide) ?_
                  refine mw_cVv (As := [.ref (mw_a E (39 + j)), .int 0, .int 0]) (rest := []) C Z hP hS (33) (cX_l0B l E (mw_sa u49 (51 + j) 1 (u49.1 (39 + j) 3)) T j hj qq47 pb162) vb_X3_readLevel tw_2_216 ⟨rfl, rfl⟩ ⟨Nat.le_of_ble_eq_true rfl, Nat.le_of_ble_eq_true rfl⟩ (by decide) sx_33 rfl rfl rfl hl.1 rfl (Nat.le_of_ble_eq_true rfl) dX3_read_42 ⟨Nat.zero_le _, Nat.zero_le _⟩ (fun u168 H locs q169 hP hS => ?_)
                  rw [q169] at hP; clear q169
                  refine lv_aload_n C.1 C.2.1 dX3_read_45 rfl (lv_at hl 1 rfl) ?_
                  refine lv_bipush (v := 14) C.1 C.2.1 dX3_read_46 (by decide) ?_
                  refine mw_cVv (As := [.int 14]) (rest := []) C Z hP hS (33) (cX_passB l E (mw_sa u49 (51 + j) 1 (u49.1 (39 + j) 3)) T j hj qq47 pb162 (14 : Int32)) vb_X3_pass tw_2_200 ⟨rfl, rfl⟩ ⟨Nat.le_of_ble_eq_true rfl, Nat.le_of_ble_eq_true rfl⟩ (by decide) sx_33 rfl rfl rfl hl.1 rfl (Nat.le_of_ble_eq_true rfl) dX3_read_48 ⟨Nat.zero_le _, Nat.zero_le _⟩ (fun u171 H locs q172 hP hS => ?_)
                  rw [q172] at hP; clear q172
                  refine lv_aload_n C.1 C.2.1 dX3_read_51 rfl (lv_at hl 3 rfl) ?_
                  refine lv_iload_n C.1 C.2.1 dX3_read_52 rfl (lv_at hl 0 rfl) ?_
                  refine mw_cVv (As := [.int 2]) (rest := []) C Z hP hS (39 + j) (cX_endPart l E (mw_sa u49 (51 + j) 1 (u49.1 (39 + j) 3)) j hj 2 (by decide)) vb_X8_endPart tw_2_235 ⟨rfl, rfl⟩ ⟨Nat.le_of_ble_eq_true rfl, Nat.le_of_ble_eq_true rfl⟩ (by omega) (sx_tx (by omega)) rfl rfl rfl hl.1 rfl (Nat.le_of_ble_eq_true rfl) dX3_read_53 ⟨Nat.zero_le _, Nat.zero_le _⟩ (fun u174 H locs q175 hP hS => ?_)
                  subst q175
                  have pb176 := pb162.en hj 2 ((mw_sa u49 (51 + j) 1 (u49.1 (39 + j) 3)).1 (39 + j) 3)
                  refine lv_iinc (v := 3) (lv' := [(3, .int 3), (0, .ref (mw_a E 33)), (1, .ref (mw_a E 31)), (2, .ref (mw_a E (39 + j)))]) C.1 C.2.1 dX3_read_56 hl (k := 0) rfl (by decide) (by decide) rfl (fun ls hl => ?_)
                  refine lv_goto (tgt := 25) C.1 C.2.1 dX3_read_59 (by decide) ?_
                  refine lv_iload_n C.1 C.2.1 dX3_read_25 rfl (lv_at hl 0 rfl) ?_
                  refine lv_iconst (v := 3) C.1 C.2.1 dX3_read_26 (by decide) ?_
                  refine lv_icmp_ge (tgt := 62) C.1 C.2.1 dX3_read_27 (by decide) (fun c177 => ?_) (fun c177 => ?_)
                  · refine lv_aload_n C.1 C.2.1 dX3_read_62 rfl (lv_at hl 1 rfl) ?_
                    refine lv_bipush (v := 21) C.1 C.2.1 dX3_read_63 (by decide) ?_
                    refine mw_cVv (As := [.int 21]) (rest := []) C Z hP hS (33) (cX_passB l E (mw_sa (mw_sa u49 (51 + j) 1 (u49.1 (39 + j) 3)) (51 + j) 2 ((mw_sa u49 (51 + j) 1 (u49.1 (39 + j) 3)).1 (39 + j) 3)) T j hj qq47 pb176 (21 : Int32)) vb_X3_pass tw_2_200 ⟨rfl, rfl⟩ ⟨Nat.le_of_ble_eq_true rfl, Nat.le_of_ble_eq_true rfl⟩ (by decide) sx_33 rfl rfl rfl hl.1 rfl (Nat.le_of_ble_eq_true rfl) dX3_read_65 ⟨Nat.zero_le _, Nat.zero_le _⟩ (fun u179 H locs q180 hP hS => ?_)
                    rw [q180] at hP; clear q180
                    refine lv_aload_n C.1 C.2.1 dX3_read_68 rfl (lv_at hl 1 rfl) ?_
                    refine mw_geti C Z hP (33) 2 (by decide) sx_33 rfl rfl (by decide) inX3 tw_1_155 dX3_read_69 ?_
                    refine mw_top (y := nI qq47) (pb176.2.2.1.1) ?_
                    have g0 : gPart 6 T = .inl (cs14, ts15.tail) := gPart_1 (by decide) hc5 e13 hc22
                    have l0 : eL (ts15.tail) := gPart_eL (by decide) hTe hc5 e13 hc22
                    exact mw_iret C hr hlk Z hP hS dX3_read_72 (⟨xRes.bd (xText_2 g0 (gPart_3 (by decide) hc34 e42)) pb176.2.2.1.2, ((((((((((((q3.rf j).rd _ _).rd _ _).sz _ _).rd _ _).tr f12).rd _ _).en _ _).rd _ _).tr f41).en _ _).en _ _)⟩)
                  · exact absurd c177 (by decide)
            · have e35 := q38.2 hc34; subst e35
              have pb181 := po31.fail hj (by have y := po31.2.2.2.2.2.2; omega)
              refine lv_aload_n C.1 C.2.1 dX3_read_38 rfl (lv_at hl 1 rfl) ?_
              refine lv_aload_n C.1 C.2.1 dX3_read_39 rfl (lv_at hl 3 rfl) ?_
              refine lv_iconst (v := 0) C.1 C.2.1 dX3_read_40 (by decide) ?_
              refine lv_iconst (v := 0) C.1 C.2.1 dX3_read_41 (by decide) ?_
              refine mw_cVv (As := [.ref (mw_a E (39 + j)), .int 0, .int 0]) (rest := []) C Z hP hS (33) (cX_l0B l E (mw_si (mw_sa (mw_si u20 33 1 (nI (a16 + 1))) (51 + j) 0 ((mw_si u20 33 1 (nI (a16 + 1))).1 (39 + j) 3)) 33 2 (nI (hdP (ts15.tail)))) T j hj ((hdP (ts15.tail))) pb181) vb_X3_readLevel tw_2_216 ⟨rfl, rfl⟩ ⟨Nat.le_of_ble_eq_true rfl, Nat.le_of_ble_eq_true rfl⟩ (by decide) sx_33 rfl rfl rfl hl.1 rfl (Nat.le_of_ble_eq_true rfl) dX3_read_42 ⟨Nat.zero_le _, Nat.zero_le _⟩ (fun u183 H locs q184 hP hS => ?_)
              rw [q184] at hP; clear q184
              refine lv_aload_n C.1 C.2.1 dX3_read_45 rfl (lv_at hl 1 rfl) ?_
              refine lv_bipush (v := 14) C.1 C.2.1 dX3_read_46 (by decide) ?_
              refine mw_cVv (As := [.int 14]) (rest := []) C Z hP hS (33) (cX_passB l E (mw_si (mw_sa (mw_si u20 33 1 (nI (a16 + 1))) (51 + j) 0 ((mw_si u20 33 1 (nI (a16 + 1))).1 (39 + j) 3)) 33 2 (nI (hdP (ts15.tail)))) T j hj ((hdP (ts15.tail))) pb181 (14 : Int32)) vb_X3_pass tw_2_200 ⟨rfl, rfl⟩ ⟨Nat.le_of_ble_eq_true rfl, Nat.le_of_ble_eq_true rfl⟩ (by decide) sx_33 rfl rfl rfl hl.1 rfl (Nat.le_of_ble_eq_true rfl) dX3_read_48 ⟨Nat.zero_le _, Nat.zero_le _⟩ (fun u186 H locs q187 hP hS => ?_)
              rw [q187] at hP; clear q187
              refine lv_aload_n C.1 C.2.1 dX3_read_51 rfl (lv_at hl 3 rfl) ?_
              refine lv_iload_n C.1 C.2.1 dX3_read_52 rfl (lv_at hl 0 rfl) ?_
              refine mw_cVv (As := [.int 1]) (rest := []) C Z hP hS (39 + j) (cX_endPart l E (mw_si (mw_sa (mw_si u20 33 1 (nI (a16 + 1))) (51 + j) 0 ((mw_si u20 33 1 (nI (a16 + 1))).1 (39 + j) 3)) 33 2 (nI (hdP (ts15.tail)))) j hj 1 (by decide)) vb_X8_endPart tw_2_235 ⟨rfl, rfl⟩ ⟨Nat.le_of_ble_eq_true rfl, Nat.le_of_ble_eq_true rfl⟩ (by omega) (sx_tx (by omega)) rfl rfl rfl hl.1 rfl (Nat.le_of_ble_eq_true rfl) dX3_read_53 ⟨Nat.zero_le _, Nat.zero_le _⟩ (fun u189 H locs q190 hP hS => ?_)
              subst q190
              have pb191 := pb181.en hj 1 ((mw_si (mw_sa (mw_si u20 33 1 (nI (a16 + 1))) (51 + j) 0 ((mw_si u20 33 1 (nI (a16 + 1))).1 (39 + j) 3)) 33 2 (nI (hdP (ts15.tail)))).1 (39 + j) 3)
              refine lv_iinc (v := 2) (lv' := [(3, .int 2), (0, .ref (mw_a E 33)), (1, .ref (mw_a E 31)), (2, .ref (mw_a E (39 + j)))]) C.1 C.2.1 dX3_read_56 hl (k := 0) rfl (by decide) (by decide) rfl (fun ls hl => ?_)
              refine lv_goto (tgt := 25) C.1 C.2.1 dX3_read_59 (by decide) ?_
              refine lv_iload_n C.1 C.2.1 dX3_read_25 rfl (lv_at hl 0 rfl) ?_
              refine lv_iconst (v := 3) C.1 C.2.1 dX3_read_26 (by decide) ?_
              refine lv_icmp_ge (tgt := 62) C.1 C.2.1 dX3_read_27 (by decide) (fun c192 => ?_) (fun c192 => ?_)
              · exact absurd c192 (by decide)
              · refine lv_aload_n C.1 C.2.1 dX3_read_30 rfl (lv_at hl 1 rfl) ?_
                refine lv_bipush (v := 6) C.1 C.2.1 dX3_read_31 (by decide) ?_
                refine lv_iload_n C.1 C.2.1 dX3_read_33 rfl (lv_at hl 0 rfl) ?_
                refine lv_iadd C.1 C.2.1 dX3_read_34 ?_
                refine mw_top (y := 8) (by decide) ?_
                refine mw_cVv (As := [.int 8]) (rest := []) C Z hP hS (33) (cX_passB l E (mw_sa (mw_si (mw_sa (mw_si u20 33 1 (nI (a16 + 1))) (51 + j) 0 ((mw_si u20 33 1 (nI (a16 + 1))).1 (39 + j) 3)) 33 2 (nI (hdP (ts15.tail)))) (51 + j) 1 ((mw_si (mw_sa (mw_si u20 33 1 (nI (a16 + 1))) (51 + j) 0 ((mw_si u20 33 1 (nI (a16 + 1))).1 (39 + j) 3)) 33 2 (nI (hdP (ts15.tail)))).1 (39 + j) 3)) T j hj ((hdP (ts15.tail))) pb191 (8 : Int32)) vb_X3_pass tw_2_200 ⟨rfl, rfl⟩ ⟨Nat.le_of_ble_eq_true rfl, Nat.le_of_ble_eq_true rfl⟩ (by decide) sx_33 rfl rfl rfl hl.1 rfl (Nat.le_of_ble_eq_true rfl) dX3_read_35 ⟨Nat.zero_le _, Nat.zero_le _⟩ (fun u194 H locs q195 hP hS => ?_)
                rw [q195] at hP; clear q195
                refine lv_aload_n C.1 C.2.1 dX3_read_38 rfl (lv_at hl 1 rfl) ?_
                refine lv_aload_n C.1 C.2.1 dX3_read_39 rfl (lv_at hl 3 rfl) ?_
                refine lv_iconst (v := 0) C.1 C.2.1 dX3_read_40 (by decide) ?_
                refine lv_iconst (v := 0) C.1 C.2.1 dX3_read_41 (by decide) ?_
                refine mw_cVv (As := [.ref (mw_a E (39 + j)), .int 0, .int 0]) (rest := []) C Z hP hS (33) (cX_l0B l E (mw_sa (mw_si (mw_sa (mw_si u20 33 1 (nI (a16 + 1))) (51 + j) 0 ((mw_si u20 33 1 (nI (a16 + 1))).1 (39 + j) 3)) 33 2 (nI (hdP (ts15.tail)))) (51 + j) 1 ((mw_si (mw_sa (mw_si u20 33 1 (nI (a16 + 1))) (51 + j) 0 ((mw_si u20 33 1 (nI (a16 + 1))).1 (39 + j) 3)) 33 2 (nI (hdP (ts15.tail)))).1 (39 + j) 3)) T j hj ((hdP (ts15.tail))) pb191) vb_X3_readLevel tw_2_216 ⟨rfl, rfl⟩ ⟨Nat.le_of_ble_eq_true rfl, Nat.le_of_ble_eq_true rfl⟩ (by decide) sx_33 rfl rfl rfl hl.1 rfl (Nat.le_of_ble_eq_true rfl) dX3_read_42 ⟨Nat.zero_le _, Nat.zero_le _⟩ (fun u197 H locs q198 hP hS => ?_)
                rw [q198] at hP; clear q198
                refine lv_aload_n C.1 C.2.1 dX3_read_45 rfl (lv_at hl 1 rfl) ?_
                refine lv_bipush (v := 14) C.1 C.2.1 dX3_read_46 (by decide) ?_
                refine mw_cVv (As := [.int 14]) (rest := []) C Z hP hS (33) (cX_passB l E (mw_sa (mw_si (mw_sa (mw_si u20 33 1 (nI (a16 + 1))) (51 + j) 0 ((mw_si u20 33 1 (nI (a16 + 1))).1 (39 + j) 3)) 33 2 (nI (hdP (ts15.tail)))) (51 + j) 1 ((mw_si (mw_sa (mw_si u20 33 1 (nI (a16 + 1))) (51 + j) 0 ((mw_si u20 33 1 (nI (a16 + 1))).1 (39 + j) 3)) 33 2 (nI (hdP (ts15.tail)))).1 (39 + j) 3)) T j hj ((hdP (ts15.tail))) pb191 (14 : Int32)) vb_X3_pass tw_2_200 ⟨rfl, rfl⟩ ⟨Nat.le_of_ble_eq_true rfl, Nat.le_of_ble_eq_true rfl⟩ (by decide) sx_33 rfl rfl rfl hl.1 rfl (Nat.le_of_ble_eq_true rfl) dX3_read_48 ⟨Nat.zero_le _, Nat.zero_le _⟩ (fun u200 H locs q201 hP hS => ?_)
                rw [q201] at hP; clear q201
                refine lv_aload_n C.1 C.2.1 dX3_read_51 rfl (lv_at hl 3 rfl) ?_
                refine lv_iload_n C.1 C.2.1 dX3_read_52 rfl (lv_at hl 0 rfl) ?_
                refine mw_cVv (As := [.int 2]) (rest := []) C Z hP hS (39 + j) (cX_endPart l E (mw_sa (mw_si (mw_sa (mw_si u20 33 1 (nI (a16 + 1))) (51 + j) 0 ((mw_si u20 33 1 (nI (a16 + 1))).1 (39 + j) 3)) 33 2 (nI (hdP (ts15.tail)))) (51 + j) 1 ((mw_si (mw_sa (mw_si u20 33 1 (nI (a16 + 1))) (51 + j) 0 ((mw_si u20 33 1 (nI (a16 + 1))).1 (39 + j) 3)) 33 2 (nI (hdP (ts15.tail)))).1 (39 + j) 3)) j hj 2 (by decide)) vb_X8_endPart tw_2_235 ⟨rfl, rfl⟩ ⟨Nat.le_of_ble_eq_true rfl, Nat.le_of_ble_eq_true rfl⟩ (by omega) (sx_tx (by omega)) rfl rfl rfl hl.1 rfl (Nat.le_of_ble_eq_true rfl) dX3_read_53 ⟨Nat.zero_le _, Nat.zero_le _⟩ (fun u203 H locs q204 hP hS => ?_)
                subst q204
                have pb205 := pb191.en hj 2 ((mw_sa (mw_si (mw_sa (mw_si u20 33 1 (nI (a16 + 1))) (51 + j) 0 ((mw_si u20 33 1 (nI (a16 + 1))).1 (39 + j) 3)) 33 2 (nI (hdP (ts15.tail)))) (51 + j) 1 ((mw_si (mw_sa (mw_si u20 33 1 (nI (a16 + 1))) (51 + j) 0 ((mw_si u20 33 1 (nI (a16 + 1))).1 (39 + j) 3)) 33 2 (nI (hdP (ts15.tail)))).1 (39 + j) 3)).1 (39 + j) 3)
                refine lv_iinc (v := 3) (lv' := [(3, .int 3), (0, .ref (mw_a E 33)), (1, .ref (mw_a E 31)), (2, .ref (mw_a E (39 + j)))]) C.1 C.2.1 dX3_read_56 hl (k := 0) rfl (by decide) (by decide) rfl (fun ls hl => ?_)
                refine lv_goto (tgt := 25) C.1 C.2.1 dX3_read_59 (by decide) ?_
                refine lv_iload_n C.1 C.2.1 dX3_read_25 rfl (lv_at hl 0 rfl) ?_
                refine lv_iconst (v := 3) C.1 C.2.1 dX3_read_26 (by decide) ?_
                refine lv_icmp_ge (tgt := 62) C.1 C.2.1 dX3_read_27 (by decide) (fun c206 => ?_) (fun c206 => ?_)
                · refine lv_aload_n C.1 C.2.1 dX3_read_62 rfl (lv_at hl 1 rfl) ?_
                  refine lv_bipush (v := 21) C.1 C.2.1 dX3_read_63 (by decide) ?_
                  refine mw_cVv (As := [.int 21]) (rest := []) C Z hP hS (33) (cX_passB l E (mw_sa (mw_sa (mw_si (mw_sa (mw_si u20 33 1 (nI (a16 + 1))) (51 + j) 0 ((mw_si u20 33 1 (nI (a16 + 1))).1 (39 + j) 3)) 33 2 (nI (hdP (ts15.tail)))) (51 + j) 1 ((mw_si (mw_sa (mw_si u20 33 1 (nI (a16 + 1))) (51 + j) 0 ((mw_si u20 33 1 (nI (a16 + 1))).1 (39 + j) 3)) 33 2 (nI (hdP (ts15.tail)))).1 (39 + j) 3)) (51 + j) 2 ((mw_sa (mw_si (mw_sa (mw_si u20 33 1 (nI (a16 + 1))) (51 + j) 0 ((mw_si u20 33 1 (nI (a16 + 1))).1 (39 + j) 3)) 33 2 (nI (hdP (ts15.tail)))) (51 + j) 1 ((mw_si (mw_sa (mw_si u20 33 1 (nI (a16 + 1))) (51 + j) 0 ((mw_si u20 33 1 (nI (a16 + 1))).1 (39 + j) 3)) 33 2 (nI (hdP (ts15.tail)))).1 (39 + j) 3)).1 (39 + j) 3)) T j hj ((hdP (ts15.tail))) pb205 (21 : Int32)) vb_X3_pass tw_2_200 ⟨rfl, rfl⟩ ⟨Nat.le_of_ble_eq_true rfl, Nat.le_of_ble_eq_true rfl⟩ (by decide) sx_33 rfl rfl rfl hl.1 rfl (Nat.le_of_ble_eq_true rfl) dX3_read_65 ⟨Nat.zero_le _, Nat.zero_le _⟩ (fun u208 H locs q209 hP hS => ?_)
                  rw [q209] at hP; clear q209
                  refine lv_aload_n C.1 C.2.1 dX3_read_68 rfl (lv_at hl 1 rfl) ?_
                  refine mw_geti C Z hP (33) 2 (by decide) sx_33 rfl rfl (by decide) inX3 tw_1_155 dX3_read_69 ?_
                  refine mw_top (y := nI ((hdP (ts15.tail)))) (pb205.2.2.1.1) ?_
                  have g0 : gPart 6 T = .inl (cs14, ts15.tail) := gPart_1 (by decide) hc5 e13 hc22
                  have l0 : eL (ts15.tail) := gPart_eL (by decide) hTe hc5 e13 hc22
                  exact mw_iret C hr hlk Z hP hS dX3_read_72 (⟨xRes.bd (xText_2 g0 (gPart_0 hc34)) pb205.2.2.1.2, (((((((((((q3.rf j).rd _ _).rd _ _).sz _ _).rd _ _).tr f12).rd _ _).en _ _).rd _ _).en _ _).en _ _)⟩)
                · exact absurd c206 (by decide)
        · have e23 := q26.2 hc22; subst e23
          have pb210 := po17.fail hj (by have y := po17.2.2.2.2.2.2; omega)
          refine lv_aload_n C.1 C.2.1 dX3_read_51 rfl (lv_at hl 3 rfl) ?_
          refine lv_iload_n C.1 C.2.1 dX3_read_52 rfl (lv_at hl 0 rfl) ?_
          refine mw_cVv (As := [.int 0]) (rest := []) C Z hP hS (39 + j) (cX_endPart l E (mw_si u20 33 2 (nI (hdP ts15))) j hj 0 (by decide)) vb_X8_endPart tw_2_235 ⟨rfl, rfl⟩ ⟨Nat.le_of_ble_eq_true rfl, Nat.le_of_ble_eq_true rfl⟩ (by omega) (sx_tx (by omega)) rfl rfl rfl hl.1 rfl (Nat.le_of_ble_eq_true rfl) dX3_read_53 ⟨Nat.zero_le _, Nat.zero_le _⟩ (fun u212 H locs q213 hP hS => ?_)
          subst q213
          have pb214 := pb210.en hj 0 ((mw_si u20 33 2 (nI (hdP ts15))).1 (39 + j) 3)
          refine lv_iinc (v := 1) (lv' := [(3, .int 1), (0, .ref (mw_a E 33)), (1, .ref (mw_a E 31)), (2, .ref (mw_a E (39 + j)))]) C.1 C.2.1 dX3_read_56 hl (k := 0) rfl (by decide) (by decide) rfl (fun ls hl => ?_)
          refine lv_goto (tgt := 25) C.1 C.2.1 dX3_read_59 (by decide) ?_
          refine lv_iload_n C.1 C.2.1 dX3_read_25 rfl (lv_at hl 0 rfl) ?_
          refine lv_iconst (v := 3) C.1 C.2.1 dX3_read_26 (by decide) ?_
          refine lv_icmp_ge (tgt := 62) C.1 C.2.1 dX3_read_27 (by decide) (fun c215 => ?_) (fun c215 => ?_)
          · exact absurd c215 (by decide)
          · refine lv_aload_n C.1 C.2.1 dX3_read_30 rfl (lv_at hl 1 rfl) ?_
            refine lv_bipush (v := 6) C.1 C.2.1 dX3_read_31 (by decide) ?_
            refine lv_iload_n C.1 C.2.1 dX3_read_33 rfl (lv_at hl 0 rfl) ?_
            refine lv_iadd C.1 C.2.1 dX3_read_34 ?_
            refine mw_top (y := 7) (by decide) ?_
            refine mw_cVv (As := [.int 7]) (rest := []) C Z hP hS (33) (cX_passB l E (mw_sa (mw_si u20 33 2 (nI (hdP ts15))) (51 + j) 0 ((mw_si u20 33 2 (nI (hdP ts15))).1 (39 + j) 3)) T j hj ((hdP ts15)) pb214 (7 : Int32)) vb_X3_pass tw_2_200 ⟨rfl, rfl⟩ ⟨Nat.le_of_ble_eq_true rfl, Nat.le_of_ble_eq_true rfl⟩ (by decide) sx_33 rfl rfl rfl hl.1 rfl (Nat.le_of_ble_eq_true rfl) dX3_read_35 ⟨Nat.zero_le _, Nat.zero_le _⟩ (fun u217 H locs q218 hP hS => ?_)
            rw [q218] at hP; clear q218
            refine lv_aload_n C.1 C.2.1 dX3_read_38 rfl (lv_at hl 1 rfl) ?_
            refine lv_aload_n C.1 C.2.1 dX3_read_39 rfl (lv_at hl 3 rfl) ?_
            refine lv_iconst (v := 0) C.1 C.2.1 dX3_read_40 (by decide) ?_
            refine lv_iconst (v := 0) C.1 C.2.1 dX3_read_41 (by decide) ?_
            refine mw_cVv (As := [.ref (mw_a E (39 + j)), .int 0, .int 0]) (rest := []) C Z hP hS (33) (cX_l0B l E (mw_sa (mw_si u20 33 2 (nI (hdP ts15))) (51 + j) 0 ((mw_si u20 33 2 (nI (hdP ts15))).1 (39 + j) 3)) T j hj ((hdP ts15)) pb214) vb_X3_readLevel tw_2_216 ⟨rfl, rfl⟩ ⟨Nat.le_of_ble_eq_true rfl, Nat.le_of_ble_eq_true rfl⟩ (by decide) sx_33 rfl rfl rfl hl.1 rfl (Nat.le_of_ble_eq_true rfl) dX3_read_42 ⟨Nat.zero_le _, Nat.zero_le _⟩ (fun u220 H locs q221 hP hS => ?_)
            rw [q221] at hP; clear q221
            refine lv_aload_n C.1 C.2.1 dX3_read_45 rfl (lv_at hl 1 rfl) ?_
            refine lv_bipush (v := 14) C.1 C.2.1 dX3_read_46 (by decide) ?_
            refine mw_cVv (As := [.int 14]) (rest := []) C Z hP hS (33) (cX_passB l E (mw_sa (mw_si u20 33 2 (nI (hdP ts15))) (51 + j) 0 ((mw_si u20 33 2 (nI (hdP ts15))).1 (39 + j) 3)) T j hj ((hdP ts15)) pb214 (14 : Int32)) vb_X3_pass tw_2_200 ⟨rfl, rfl⟩ ⟨Nat.le_of_ble_eq_true rfl, Nat.le_of_ble_eq_true rfl⟩ (by decide) sx_33 rfl rfl rfl hl.1 rfl (Nat.le_of_ble_eq_true rfl) dX3_read_48 ⟨Nat.zero_le _, Nat.zero_le _⟩ (fun u223 H locs q224 hP hS => ?_)
            rw [q224] at hP; clear q224
            refine lv_aload_n C.1 C.2.1 dX3_read_51 rfl (lv_at hl 3 rfl) ?_
            refine lv_iload_n C.1 C.2.1 dX3_read_52 rfl (lv_at hl 0 rfl) ?_
            refine mw_cVv (As := [.int 1]) (rest := []) C Z hP hS (39 + j) (cX_endPart l E (mw_sa (mw_si u20 33 2 (nI (hdP ts15))) (51 + j) 0 ((mw_si u20 33 2 (nI (hdP ts15))).1 (39 + j) 3)) j hj 1 (by decide)) vb_X8_endPart tw_2_235 ⟨rfl, rfl⟩ ⟨Nat.le_of_ble_eq_true rfl, Nat.le_of_ble_eq_true rfl⟩ (by omega) (sx_tx (by omega)) rfl rfl rfl hl.1 rfl (Nat.le_of_ble_eq_true rfl) dX3_read_53 ⟨Nat.zero_le _, Nat.zero_le _⟩ (fun u226 H locs q227 hP hS => ?_)
            subst q227
            have pb228 := pb214.en hj 1 ((mw_sa (mw_si u20 33 2 (nI (hdP ts15))) (51 + j) 0 ((mw_si u20 33 2 (nI (hdP ts15))).1 (39 + j) 3)).1 (39 + j) 3)
            refine lv_iinc (v := 2) (lv' := [(3, .int 2), (0, .ref (mw_a E 33)), (1, .ref (mw_a E 31)), (2, .ref (mw_a E (39 + j)))]) C.1 C.2.1 dX3_read_56 hl (k := 0) rfl (by decide) (by decide) rfl (fun ls hl => ?_)
            refine lv_goto (tgt := 25) C.1 C.2.1 dX3_read_59 (by decide) ?_
            refine lv_iload_n C.1 C.2.1 dX3_read_25 rfl (lv_at hl 0 rfl) ?_
            refine lv_iconst (v := 3) C.1 C.2.1 dX3_read_26 (by decide) ?_
            refine lv_icmp_ge (tgt := 62) C.1 C.2.1 dX3_read_27 (by decide) (fun c229 => ?_) (fun c229 => ?_)
            · exact absurd c229 (by decide)
            · refine lv_aload_n C.1 C.2.1 dX3_read_30 rfl (lv_at hl 1 rfl) ?_
              refine lv_bipush (v := 6) C.1 C.2.1 dX3_read_31 (by decide) ?_
              refine lv_iload_n C.1 C.2.1 dX3_read_33 rfl (lv_at hl 0 rfl) ?_
              refine lv_iadd C.1 C.2.1 dX3_read_34 ?_
              refine mw_top (y := 8) (by decide) ?_
              refine mw_cVv (As := [.int 8]) (rest := []) C Z hP hS (33) (cX_passB l E (mw_sa (mw_sa (mw_si u20 33 2 (nI (hdP ts15))) (51 + j) 0 ((mw_si u20 33 2 (nI (hdP ts15))).1 (39 + j) 3)) (51 + j) 1 ((mw_sa (mw_si u20 33 2 (nI (hdP ts15))) (51 + j) 0 ((mw_si u20 33 2 (nI (hdP ts15))).1 (39 + j) 3)).1 (39 + j) 3)) T j hj ((hdP ts15)) pb228 (8 : Int32)) vb_X3_pass tw_2_200 ⟨rfl, rfl⟩ ⟨Nat.le_of_ble_eq_true rfl, Nat.le_of_ble_eq_true rfl⟩ (by decide) sx_33 rfl rfl rfl hl.1 rfl (Nat.le_of_ble_eq_true rfl) dX3_read_35 ⟨Nat.zero_le _, Nat.zero_le _⟩ (fun u231 H locs q232 hP hS => ?_)
              rw [q232] at hP; clear q232
              refine lv_aload_n C.1 C.2.1 dX3_read_38 rfl (lv_at hl 1 rfl) ?_
              refine lv_aload_n C.1 C.2.1 dX3_read_39 rfl (lv_at hl 3 rfl) ?_
              refine lv_iconst (v := 0) C.1 C.2.1 dX3_read_40 (by decide) ?_
              refine lv_iconst (v := 0) C.1 C.2.1 dX3_read_41 (by decide) ?_
              refine mw_cVv (As := [.ref (mw_a E (39 + j)), .int 0, .int 0]) (rest := []) C Z hP hS (33) (cX_l0B l E (mw_sa (mw_sa (mw_si u20 33 2 (nI (hdP ts15))) (51 + j) 0 ((mw_si u20 33 2 (nI (hdP ts15))).1 (39 + j) 3)) (51 + j) 1 ((mw_sa (mw_si u20 33 2 (nI (hdP ts15))) (51 + j) 0 ((mw_si u20 33 2 (nI (hdP ts15))).1 (39 + j) 3)).1 (39 + j) 3)) T j hj ((hdP ts15)) pb228) vb_X3_readLevel tw_2_216 ⟨rfl, rfl⟩ ⟨Nat.le_of_ble_eq_true rfl, Nat.le_of_ble_eq_true rfl⟩ (by decide) sx_33 rfl rfl rfl hl.1 rfl (Nat.le_of_ble_eq_true rfl) dX3_read_42 ⟨Nat.zero_le _, Nat.zero_le _⟩ (fun u234 H locs q235 hP hS => ?_)
              rw [q235] at hP; clear q235
              refine lv_aload_n C.1 C.2.1 dX3_read_45 rfl (lv_at hl 1 rfl) ?_
              refine lv_bipush (v := 14) C.1 C.2.1 dX3_read_46 (by decide) ?_
              refine mw_cVv (As := [.int 14]) (rest := []) C Z hP hS (33) (cX_passB l E (mw_sa (mw_sa (mw_si u20 33 2 (nI (hdP ts15))) (51 + j) 0 ((mw_si u20 33 2 (nI (hdP ts15))).1 (39 + j) 3)) (51 + j) 1 ((mw_sa (mw_si u20 33 2 (nI (hdP ts15))) (51 + j) 0 ((mw_si u20 33 2 (nI (hdP ts15))).1 (39 + j) 3)).1 (39 + j) 3)) T j hj ((hdP ts15)) pb228 (14 : Int32)) vb_X3_pass tw_2_200 ⟨rfl, rfl⟩ ⟨Nat.le_of_ble_eq_true rfl, Nat.le_of_ble_eq_true rfl⟩ (by decide) sx_33 rfl rfl rfl hl.1 rfl (Nat.le_of_ble_eq_true rfl) dX3_read_48 ⟨Nat.zero_le _, Nat.zero_le _⟩ (fun u237 H locs q238 hP hS => ?_)
              rw [q238] at hP; clear q238
              refine lv_aload_n C.1 C.2.1 dX3_read_51 rfl (lv_at hl 3 rfl) ?_
              refine lv_iload_n C.1 C.2.1 dX3_read_52 rfl (lv_at hl 0 rfl) ?_
              refine mw_cVv (As := [.int 2]) (rest := []) C Z hP hS (39 + j) (cX_endPart l E (mw_sa (mw_sa (mw_si u20 33 2 (nI (hdP ts15))) (51 + j) 0 ((mw_si u20 33 2 (nI (hdP ts15))).1 (39 + j) 3)) (51 + j) 1 ((mw_sa (mw_si u20 33 2 (nI (hdP ts15))) (51 + j) 0 ((mw_si u20 33 2 (nI (hdP ts15))).1 (39 + j) 3)).1 (39 + j) 3)) j hj 2 (by decide)) vb_X8_endPart tw_2_235 ⟨rfl, rfl⟩ ⟨Nat.le_of_ble_eq_true rfl, Nat.le_of_ble_eq_true rfl⟩ (by omega) (sx_tx (by omega)) rfl rfl rfl hl.1 rfl (Nat.le_of_ble_eq_true rfl) dX3_read_53 ⟨Nat.zero_le _, Nat.zero_le _⟩ (fun u240 H locs q241 hP hS => ?_)
              subst q241
              have pb242 := pb228.en hj 2 ((mw_sa (mw_sa (mw_si u20 33 2 (nI (hdP ts15))) (51 + j) 0 ((mw_si u20 33 2 (nI (hdP ts15))).1 (39 + j) 3)) (51 + j) 1 ((mw_sa (mw_si u20 33 2 (nI (hdP ts15))) (51 + j) 0 ((mw_si u20 33 2 (nI (hdP ts15))).1 (39 + j) 3)).1 (39 + j) 3)).1 (39 + j) 3)
              refine lv_iinc (v := 3) (lv' := [(3, .int 3), (0, .ref (mw_a E 33)), (1, .ref (mw_a E 31)), (2, .ref (mw_a E (39 + j)))]) C.1 C.2.1 dX3_read_56 hl (k := 0) rfl (by decide) (by decide) rfl (fun ls hl => ?_)
              refine lv_goto (tgt := 25) C.1 C.2.1 dX3_read_59 (by decide) ?_
              refine lv_iload_n C.1 C.2.1 dX3_read_25 rfl (lv_at hl 0 rfl) ?_
              refine lv_iconst (v := 3) C.1 C.2.1 dX3_read_26 (by decide) ?_
              refine lv_icmp_ge (tgt := 62) C.1 C.2.1 dX3_read_27 (by decide) (fun c243 => ?_) (fun c243 => ?_)
              · refine lv_aload_n C.1 C.2.1 dX3_read_62 rfl (lv_at hl 1 rfl) ?_
                refine lv_bipush (v := 21) C.1 C.2.1 dX3_read_63 (by decide) ?_
                refine mw_cVv (As := [.int 21]) (rest := []) C Z hP hS (33) (cX_passB l E (mw_sa (mw_sa (mw_sa (mw_si u20 33 2 (nI (hdP ts15))) (51 + j) 0 ((mw_si u20 33 2 (nI (hdP ts15))).1 (39 + j) 3)) (51 + j) 1 ((mw_sa (mw_si u20 33 2 (nI (hdP ts15))) (51 + j) 0 ((mw_si u20 33 2 (nI (hdP ts15))).1 (39 + j) 3)).1 (39 + j) 3)) (51 + j) 2 ((mw_sa (mw_sa (mw_si u20 33 2 (nI (hdP ts15))) (51 + j) 0 ((mw_si u20 33 2 (nI (hdP ts15))).1 (39 + j) 3)) (51 + j) 1 ((mw_sa (mw_si u20 33 2 (nI (hdP ts15))) (51 + j) 0 ((mw_si u20 33 2 (nI (hdP ts15))).1 (39 + j) 3)).1 (39 + j) 3)).1 (39 + j) 3)) T j hj ((hdP ts15)) pb242 (21 : Int32)) vb_X3_pass tw_2_200 ⟨rfl, rfl⟩ ⟨Nat.le_of_ble_eq_true rfl, Nat.le_of_ble_eq_true rfl⟩ (by decide) sx_33 rfl rfl rfl hl.1 rfl (Nat.le_of_ble_eq_true rfl) dX3_read_65 ⟨Nat.zero_le _, Nat.zero_le _⟩ (fun u245 H locs q246 hP hS => ?_)
                rw [q246] at hP; clear q246
                refine lv_aload_n C.1 C.2.1 dX3_read_68 rfl (lv_at hl 1 rfl) ?_
                refine mw_geti C Z hP (33) 2 (by decide) sx_33 rfl rfl (by decide) inX3 tw_1_155 dX3_read_69 ?_
                refine mw_top (y := nI ((hdP ts15))) (pb242.2.2.1.1) ?_
                exact mw_iret C hr hlk Z hP hS dX3_read_72 (⟨xRes.bd (xText_1  (gPart_2 (by decide) hc5 e13 hc22)) pb242.2.2.1.2, ((((((((((q3.rf j).rd _ _).rd _ _).sz _ _).rd _ _).tr f12).rd _ _).en _ _).en _ _).en _ _)⟩)
              · exact absurd c243 (by decide)
      · rw [e13] at hx11
        have po17 : xPb u20 T j qq18 := hx11
        refine lv_aload_n C.1 C.2.1 dX3_read_45 rfl (lv_at hl 1 rfl) ?_
        refine lv_bipush (v := 14) C.1 C.2.1 dX3_read_46 (by decide) ?_
        refine mw_cVv (As := [.int 14]) (rest := []) C Z hP hS (33) (cX_passB l E u20 T j hj qq18 po17 (14 : Int32)) vb_X3_pass tw_2_200 ⟨rfl, rfl⟩ ⟨Nat.le_of_ble_eq_true rfl, Nat.le_of_ble_eq_true rfl⟩ (by decide) sx_33 rfl rfl rfl hl.1 rfl (Nat.le_of_ble_eq_true rfl) dX3_read_48 ⟨Nat.zero_le _, Nat.zero_le _⟩ (fun u248 H locs q249 hP hS => ?_)
        rw [q249] at hP; clear q249
        refine lv_aload_n C.1 C.2.1 dX3_read_51 rfl (lv_at hl 3 rfl) ?_
        refine lv_iload_n C.1 C.2.1 dX3_read_52 rfl (lv_at hl 0 rfl) ?_
        refine mw_cVv (As := [.int 0]) (rest := []) C Z hP hS (39 + j) (cX_endPart l E u20 j hj 0 (by decide)) vb_X8_endPart tw_2_235 ⟨rfl, rfl⟩ ⟨Nat.le_of_ble_eq_true rfl, Nat.le_of_ble_eq_true rfl⟩ (by omega) (sx_tx (by omega)) rfl rfl rfl hl.1 rfl (Nat.le_of_ble_eq_true rfl) dX3_read_53 ⟨Nat.zero_le _, Nat.zero_le _⟩ (fun u251 H locs q252 hP hS => ?_)
        subst q252
        have pb253 := po17.en hj 0 (u20.1 (39 + j) 3)
        refine lv_iinc (v := 1) (lv' := [(3, .int 1), (0, .ref (mw_a E 33)), (1, .ref (mw_a E 31)), (2, .ref (mw_a E (39 + j)))]) C.1 C.2.1 dX3_read_56 hl (k := 0) rfl (by decide) (by decide) rfl (fun ls hl => ?_)
        refine lv_goto (tgt := 25) C.1 C.2.1 dX3_read_59 (by decide) ?_
        refine lv_iload_n C.1 C.2.1 dX3_read_25 rfl (lv_at hl 0 rfl) ?_
        refine lv_iconst (v := 3) C.1 C.2.1 dX3_read_26 (by decide) ?_
        refine lv_icmp_ge (tgt := 62) C.1 C.2.1 dX3_read_27 (by decide) (fun c254 => ?_) (fun c254 => ?_)
        · exact absurd c254 (by decide)
        · refine lv_aload_n C.1 C.2.1 dX3_read_30 rfl (lv_at hl 1 rfl) ?_
          refine lv_bipush (v := 6) C.1 C.2.1 dX3_read_31 (by decide) ?_
          refine lv_iload_n C.1 C.2.1 dX3_read_33 rfl (lv_at hl 0 rfl) ?_
          refine lv_iadd C.1 C.2.1 dX3_read_34 ?_
          refine mw_top (y := 7) (by decide) ?_
          refine mw_cVv (As := [.int 7]) (rest := []) C Z hP hS (33) (cX_passB l E (mw_sa u20 (51 + j) 0 (u20.1 (39 + j) 3)) T j hj qq18 pb253 (7 : Int32)) vb_X3_pass tw_2_200 ⟨rfl, rfl⟩ ⟨Nat.le_of_ble_eq_true rfl, Nat.le_of_ble_eq_true rfl⟩ (by decide) sx_33 rfl rfl rfl hl.1 rfl (Nat.le_of_ble_eq_true rfl) dX3_read_35 ⟨Nat.zero_le _, Nat.zero_le _⟩ (fun u256 H locs q257 hP hS => ?_)
          rw [q257] at hP; clear q257
          refine lv_aload_n C.1 C.2.1 dX3_read_38 rfl (lv_at hl 1 rfl) ?_
          refine lv_aload_n C.1 C.2.1 dX3_read_39 rfl (lv_at hl 3 rfl) ?_
          refine lv_iconst (v := 0) C.1 C.2.1 dX3_read_40 (by decide) ?_
          refine lv_iconst (v := 0) C.1 C.2.1 dX3_read_41 (by decide) ?_
          refine mw_cVv (As := [.ref (mw_a E (39 + j)), .int 0, .int 0]) (rest := []) C Z hP hS (33) (cX_l0B l E (mw_sa u20 (51 + j) 0 (u20.1 (39 + j) 3)) T j hj qq18 pb253) vb_X3_readLevel tw_2_216 ⟨rfl, rfl⟩ ⟨Nat.le_of_ble_eq_true rfl, Nat.le_of_ble_eq_true rfl⟩ (by decide) sx_33 rfl rfl rfl hl.1 rfl (Nat.le_of_ble_eq_true rfl) dX3_read_42 ⟨Nat.zero_le _, Nat.zero_le _⟩ (fun u259 H locs q260 hP hS => ?_)
          rw [q260] at hP; clear q260
          refine lv_aload_n C.1 C.2.1 dX3_read_45 rfl (lv_at hl 1 rfl) ?_
          refine lv_bipush (v := 14) C.1 C.2.1 dX3_read_46 (by decide) ?_
          refine mw_cVv (As := [.int 14]) (rest := []) C Z hP hS (33) (cX_passB l E (mw_sa u20 (51 + j) 0 (u20.1 (39 + j) 3)) T j hj qq18 pb253 (14 : Int32)) vb_X3_pass tw_2_200 ⟨rfl, rfl⟩ ⟨Nat.le_of_ble_eq_true rfl, Nat.le_of_ble_eq_true rfl⟩ (by decide) sx_33 rfl rfl rfl hl.1 rfl (Nat.le_of_ble_eq_true rfl) dX3_read_48 ⟨Nat.zero_le _, Nat.zero_le _⟩ (fun u262 H locs q263 hP hS => ?_)
          rw [q263] at hP; clear q263
          refine lv_aload_n C.1 C.2.1 dX3_read_51 rfl (lv_at hl 3 rfl) ?_
          refine lv_iload_n C.1 C.2.1 dX3_read_52 rfl (lv_at hl 0 rfl) ?_
          refine mw_cVv (As := [.int 1]) (rest := []) C Z hP hS (39 + j) (cX_endPart l E (mw_sa u20 (51 + j) 0 (u20.1 (39 + j) 3)) j hj 1 (by decide)) vb_X8_endPart tw_2_235 ⟨rfl, rfl⟩ ⟨Nat.le_of_ble_eq_true rfl, Nat.le_of_ble_eq_true rfl⟩ (by omega) (sx_tx (by omega)) rfl rfl rfl hl.1 rfl (Nat.le_of_ble_eq_true rfl) dX3_read_53 ⟨Nat.zero_le _, Nat.zero_le _⟩ (fun u265 H locs q266 hP hS => ?_)
          subst q266
          have pb267 := pb253.en hj 1 ((mw_sa u20 (51 + j) 0 (u20.1 (39 + j) 3)).1 (39 + j) 3)
          refine lv_iinc (v := 2) (lv' := [(3, .int 2), (0, .ref (mw_a E 33)), (1, .ref (mw_a E 31)), (2, .ref (mw_a E (39 + j)))]) C.1 C.2.1 dX3_read_56 hl (k := 0) rfl (by decide) (by decide) rfl (fun ls hl => ?_)
          refine lv_goto (tgt := 25) C.1 C.2.1 dX3_read_59 (by decide) ?_
          refine lv_iload_n C.1 C.2.1 dX3_read_25 rfl (lv_at hl 0 rfl) ?_
          refine lv_iconst (v := 3) C.1 C.2.1 dX3_read_26 (by decide) ?_
          refine lv_icmp_ge (tgt := 62) C.1 C.2.1 dX3_read_27 (by decide) (fun c268 => ?_) (fun c268 => ?_)
          · exact absurd c268 (by decide)
          · refine lv_aload_n C.1 C.2.1 dX3_read_30 rfl (lv_at hl 1 rfl) ?_
            refine lv_bipush (v := 6) C.1 C.2.1 dX3_read_31 (by decide) ?_
            refine lv_iload_n C.1 C.2.1 dX3_read_33 rfl (lv_at hl 0 rfl) ?_
            refine lv_iadd C.1 C.2.1 dX3_read_34 ?_
            refine mw_top (y := 8) (by decide) ?_
            refine mw_cVv (As := [.int 8]) (rest := []) C Z hP hS (33) (cX_passB l E (mw_sa (mw_sa u20 (51 + j) 0 (u20.1 (39 + j) 3)) (51 + j) 1 ((mw_sa u20 (51 + j) 0 (u20.1 (39 + j) 3)).1 (39 + j) 3)) T j hj qq18 pb267 (8 : Int32)) vb_X3_pass tw_2_200 ⟨rfl, rfl⟩ ⟨Nat.le_of_ble_eq_true rfl, Nat.le_of_ble_eq_true rfl⟩ (by decide) sx_33 rfl rfl rfl hl.1 rfl (Nat.le_of_ble_eq_true rfl) dX3_read_35 ⟨Nat.zero_le _, Nat.zero_le _⟩ (fun u270 H locs q271 hP hS => ?_)
            rw [q271] at hP; clear q271
            refine lv_aload_n C.1 C.2.1 dX3_read_38 rfl (lv_at hl 1 rfl) ?_
            refine lv_aload_n C.1 C.2.1 dX3_read_39 rfl (lv_at hl 3 rfl) ?_
            refine lv_iconst (v := 0) C.1 C.2.1 dX3_read_40 (by decide) ?_
            refine lv_iconst (v := 0) C.1 C.2.1 dX3_read_41 (by decide) ?_
            refine mw_cVv (As := [.ref (mw_a E (39 + j)), .int 0, .int 0]) (rest := []) C Z hP hS (33) (cX_l0B l E (mw_sa (mw_sa u20 (51 + j) 0 (u20.1 (39 + j) 3)) (51 + j) 1 ((mw_sa u20 (51 + j) 0 (u20.1 (39 + j) 3)).1 (39 + j) 3)) T j hj qq18 pb267) vb_X3_readLevel tw_2_216 ⟨rfl, rfl⟩ ⟨Nat.le_of_ble_eq_true rfl, Nat.le_of_ble_eq_true rfl⟩ (by decide) sx_33 rfl rfl rfl hl.1 rfl (Nat.le_of_ble_eq_true rfl) dX3_read_42 ⟨Nat.zero_le _, Nat.zero_le _⟩ (fun u273 H locs q274 hP hS => ?_)
            rw [q274] at hP; clear q274
            refine lv_aload_n C.1 C.2.1 dX3_read_45 rfl (lv_at hl 1 rfl) ?_
            refine lv_bipush (v := 14) C.1 C.2.1 dX3_read_46 (by decide) ?_
            refine mw_cVv (As := [.int 14]) (rest := []) C Z hP hS (33) (cX_passB l E (mw_sa (mw_sa u20 (51 + j) 0 (u20.1 (39 + j) 3)) (51 + j) 1 ((mw_sa u20 (51 + j) 0 (u20.1 (39 + j) 3)).1 (39 + j) 3)) T j hj qq18 pb267 (14 : Int32)) vb_X3_pass tw_2_200 ⟨rfl, rfl⟩ ⟨Nat.le_of_ble_eq_true rfl, Nat.le_of_ble_eq_true rfl⟩ (by decide) sx_33 rfl rfl rfl hl.1 rfl (Nat.le_of_ble_eq_true rfl) dX3_read_48 ⟨Nat.zero_le _, Nat.zero_le _⟩ (fun u276 H locs q277 hP hS => ?_)
            rw [q277] at hP; clear q277
            refine lv_aload_n C.1 C.2.1 dX3_read_51 rfl (lv_at hl 3 rfl) ?_
            refine lv_iload_n C.1 C.2.1 dX3_read_52 rfl (lv_at hl 0 rfl) ?_
            refine mw_cVv (As := [.int 2]) (rest := []) C Z hP hS (39 + j) (cX_endPart l E (mw_sa (mw_sa u20 (51 + j) 0 (u20.1 (39 + j) 3)) (51 + j) 1 ((mw_sa u20 (51 + j) 0 (u20.1 (39 + j) 3)).1 (39 + j) 3)) j hj 2 (by decide)) vb_X8_endPart tw_2_235 ⟨rfl, rfl⟩ ⟨Nat.le_of_ble_eq_true rfl, Nat.le_of_ble_eq_true rfl⟩ (by omega) (sx_tx (by omega)) rfl rfl rfl hl.1 rfl (Nat.le_of_ble_eq_true rfl) dX3_read_53 ⟨Nat.zero_le _, Nat.zero_le _⟩ (fun u279 H locs q280 hP hS => ?_)
            subst q280
            have pb281 := pb267.en hj 2 ((mw_sa (mw_sa u20 (51 + j) 0 (u20.1 (39 + j) 3)) (51 + j) 1 ((mw_sa u20 (51 + j) 0 (u20.1 (39 + j) 3)).1 (39 + j) 3)).1 (39 + j) 3)
            refine lv_iinc (v := 3) (lv' := [(3, .int 3), (0, .ref (mw_a E 33)), (1, .ref (mw_a E 31)), (2, .ref (mw_a E (39 + j)))]) C.1 C.2.1 dX3_read_56 hl (k := 0) rfl (by decide) (by decide) rfl (fun ls hl => ?_)
            refine lv_goto (tgt := 25) C.1 C.2.1 dX3_read_59 (by decide) ?_
            refine lv_iload_n C.1 C.2.1 dX3_read_25 rfl (lv_at hl 0 rfl) ?_
            refine lv_iconst (v := 3) C.1 C.2.1 dX3_read_26 (by decide) ?_
            refine lv_icmp_ge (tgt := 62) C.1 C.2.1 dX3_read_27 (by decide) (fun c282 => ?_) (fun c282 => ?_)
            · refine lv_aload_n C.1 C.2.1 dX3_read_62 rfl (lv_at hl 1 rfl) ?_
              refine lv_bipush (v := 21) C.1 C.2.1 dX3_read_63 (by decide) ?_
              refine mw_cVv (As := [.int 21]) (rest := []) C Z hP hS (33) (cX_passB l E (mw_sa (mw_sa (mw_sa u20 (51 + j) 0 (u20.1 (39 + j) 3)) (51 + j) 1 ((mw_sa u20 (51 + j) 0 (u20.1 (39 + j) 3)).1 (39 + j) 3)) (51 + j) 2 ((mw_sa (mw_sa u20 (51 + j) 0 (u20.1 (39 + j) 3)) (51 + j) 1 ((mw_sa u20 (51 + j) 0 (u20.1 (39 + j) 3)).1 (39 + j) 3)).1 (39 + j) 3)) T j hj qq18 pb281 (21 : Int32)) vb_X3_pass tw_2_200 ⟨rfl, rfl⟩ ⟨Nat.le_of_ble_eq_true rfl, Nat.le_of_ble_eq_true rfl⟩ (by decide) sx_33 rfl rfl rfl hl.1 rfl (Nat.le_of_ble_eq_true rfl) dX3_read_65 ⟨Nat.zero_le _, Nat.zero_le _⟩ (fun u284 H locs q285 hP hS => ?_)
              rw [q285] at hP; clear q285
              refine lv_aload_n C.1 C.2.1 dX3_read_68 rfl (lv_at hl 1 rfl) ?_
              refine mw_geti C Z hP (33) 2 (by decide) sx_33 rfl rfl (by decide) inX3 tw_1_155 dX3_read_69 ?_
              refine mw_top (y := nI qq18) (pb281.2.2.1.1) ?_
              exact mw_iret C hr hlk Z hP hS dX3_read_72 (⟨xRes.bd (xText_1  (gPart_3 (by decide) hc5 e13)) pb281.2.2.1.2, (((((((((q3.rf j).rd _ _).rd _ _).sz _ _).rd _ _).tr f12).en _ _).en _ _).en _ _)⟩)
            · exact absurd c282 (by decide)
    · have e6 := q9.2 hc5; subst e6
      have pb286 := po0.fail hj (by decide)
      refine lv_aload_n C.1 C.2.1 dX3_read_38 rfl (lv_at hl 1 rfl) ?_
      refine lv_aload_n C.1 C.2.1 dX3_read_39 rfl (lv_at hl 3 rfl) ?_
      refine lv_iconst (v := 0) C.1 C.2.1 dX3_read_40 (by decide) ?_
      refine lv_iconst (v := 0) C.1 C.2.1 dX3_read_41 (by decide) ?_
      refine mw_cVv (As := [.ref (mw_a E (39 + j)), .int 0, .int 0]) (rest := []) C Z hP hS (33) (cX_l0B l E (mw_si (mw_si (mw_si (mw_si u2 33 1 0) 33 2 (-1)) (39 + j) 3 0) 33 2 (nI (hdP T))) T j hj ((hdP T)) pb286) vb_X3_readLevel tw_2_216 ⟨rfl, rfl⟩ ⟨Nat.le_of_ble_eq_true rfl, Nat.le_of_ble_eq_true rfl⟩ (by decide) sx_33 rfl rfl rfl hl.1 rfl (Nat.le_of_ble_eq_true rfl) dX3_read_42 ⟨Nat.zero_le _, Nat.zero_le _⟩ (fun u288 H locs q289 hP hS => ?_)
      rw [q289] at hP; clear q289
      refine lv_aload_n C.1 C.2.1 dX3_read_45 rfl (lv_at hl 1 rfl) ?_
      refine lv_bipush (v := 14) C.1 C.2.1 dX3_read_46 (by decide) ?_
      refine mw_cVv (As := [.int 14]) (rest := []) C Z hP hS (33) (cX_passB l E (mw_si (mw_si (mw_si (mw_si u2 33 1 0) 33 2 (-1)) (39 + j) 3 0) 33 2 (nI (hdP T))) T j hj ((hdP T)) pb286 (14 : Int32)) vb_X3_pass tw_2_200 ⟨rfl, rfl⟩ ⟨Nat.le_of_ble_eq_true rfl, Nat.le_of_ble_eq_true rfl⟩ (by decide) sx_33 rfl rfl rfl hl.1 rfl (Nat.le_of_ble_eq_true rfl) dX3_read_48 ⟨Nat.zero_le _, Nat.zero_le _⟩ (fun u291 H locs q292 hP hS => ?_)
      rw [q292] at hP; clear q292
      refine lv_aload_n C.1 C.2.1 dX3_read_51 rfl (lv_at hl 3 rfl) ?_
      refine lv_iload_n C.1 C.2.1 dX3_read_52 rfl (lv_at hl 0 rfl) ?_
      refine mw_cVv (As := [.int 0]) (rest := []) C Z hP hS (39 + j) (cX_endPart l E (mw_si (mw_si (mw_si (mw_si u2 33 1 0) 33 2 (-1)) (39 + j) 3 0) 33 2 (nI (hdP T))) j hj 0 (by decide)) vb_X8_endPart tw_2_235 ⟨rfl, rfl⟩ ⟨Nat.le_of_ble_eq_true rfl, Nat.le_of_ble_eq_true rfl⟩ (by omega) (sx_tx (by omega)) rfl rfl rfl hl.1 rfl (Nat.le_of_ble_eq_true rfl) dX3_read_53 ⟨Nat.zero_le _, Nat.zero_le _⟩ (fun u294 H locs q295 hP hS => ?_)
      subst q295
      have pb296 := pb286.en hj 0 ((mw_si (mw_si (mw_si (mw_si u2 33 1 0) 33 2 (-1)) (39 + j) 3 0) 33 2 (nI (hdP T))).1 (39 + j) 3)
      refine lv_iinc (v := 1) (lv' := [(3, .int 1), (0, .ref (mw_a E 33)), (1, .ref (mw_a E 31)), (2, .ref (mw_a E (39 + j)))]) C.1 C.2.1 dX3_read_56 hl (k := 0) rfl (by decide) (by decide) rfl (fun ls hl => ?_)
      refine lv_goto (tgt := 25) C.1 C.2.1 dX3_read_59 (by decide) ?_
      refine lv_iload_n C.1 C.2.1 dX3_read_25 rfl (lv_at hl 0 rfl) ?_
      refine lv_iconst (v := 3) C.1 C.2.1 dX3_read_26 (by decide) ?_
      refine lv_icmp_ge (tgt := 62) C.1 C.2.1 dX3_read_27 (by decide) (fun c297 => ?_) (fun c297 => ?_)
      · exact absurd c297 (by decide)
      · refine lv_aload_n C.1 C.2.1 dX3_read_30 rfl (lv_at hl 1 rfl) ?_
        refine lv_bipush (v := 6) C.1 C.2.1 dX3_read_31 (by decide) ?_
        refine lv_iload_n C.1 C.2.1 dX3_read_33 rfl (lv_at hl 0 rfl) ?_
        refine lv_iadd C.1 C.2.1 dX3_read_34 ?_
        refine mw_top (y := 7) (by decide) ?_
        refine mw_cVv (As := [.int 7]) (rest := []) C Z hP hS (33) (cX_passB l E (mw_sa (mw_si (mw_si (mw_si (mw_si u2 33 1 0) 33 2 (-1)) (39 + j) 3 0) 33 2 (nI (hdP T))) (51 + j) 0 ((mw_si (mw_si (mw_si (mw_si u2 33 1 0) 33 2 (-1)) (39 + j) 3 0) 33 2 (nI (hdP T))).1 (39 + j) 3)) T j hj ((hdP T)) pb296 (7 : Int32)) vb_X3_pass tw_2_200 ⟨rfl, rfl⟩ ⟨Nat.le_of_ble_eq_true rfl, Nat.le_of_ble_eq_true rfl⟩ (by decide) sx_33 rfl rfl rfl hl.1 rfl (Nat.le_of_ble_eq_true rfl) dX3_read_35 ⟨Nat.zero_le _, Nat.zero_le _⟩ (fun u299 H locs q300 hP hS => ?_)
        rw [q300] at hP; clear q300
        refine lv_aload_n C.1 C.2.1 dX3_read_38 rfl (lv_at hl 1 rfl) ?_
        refine lv_aload_n C.1 C.2.1 dX3_read_39 rfl (lv_at hl 3 rfl) ?_
        refine lv_iconst (v := 0) C.1 C.2.1 dX3_read_40 (by decide) ?_
        refine lv_iconst (v := 0) C.1 C.2.1 dX3_read_41 (by decide) ?_
        refine mw_cVv (As := [.ref (mw_a E (39 + j)), .int 0, .int 0]) (rest := []) C Z hP hS (33) (cX_l0B l E (mw_sa (mw_si (mw_si (mw_si (mw_si u2 33 1 0) 33 2 (-1)) (39 + j) 3 0) 33 2 (nI (hdP T))) (51 + j) 0 ((mw_si (mw_si (mw_si (mw_si u2 33 1 0) 33 2 (-1)) (39 + j) 3 0) 33 2 (nI (hdP T))).1 (39 + j) 3)) T j hj ((hdP T)) pb296) vb_X3_readLevel tw_2_216 ⟨rfl, rfl⟩ ⟨Nat.le_of_ble_eq_true rfl, Nat.le_of_ble_eq_true rfl⟩ (by decide) sx_33 rfl rfl rfl hl.1 rfl (Nat.le_of_ble_eq_true rfl) dX3_read_42 ⟨Nat.zero_le _, Nat.zero_le _⟩ (fun u302 H locs q303 hP hS => ?_)
        rw [q303] at hP; clear q303
        refine lv_aload_n C.1 C.2.1 dX3_read_45 rfl (lv_at hl 1 rfl) ?_
        refine lv_bipush (v := 14) C.1 C.2.1 dX3_read_46 (by decide) ?_
        refine mw_cVv (As := [.int 14]) (rest := []) C Z hP hS (33) (cX_passB l E (mw_sa (mw_si (mw_si (mw_si (mw_si u2 33 1 0) 33 2 (-1)) (39 + j) 3 0) 33 2 (nI (hdP T))) (51 + j) 0 ((mw_si (mw_si (mw_si (mw_si u2 33 1 0) 33 2 (-1)) (39 + j) 3 0) 33 2 (nI (hdP T))).1 (39 + j) 3)) T j hj ((hdP T)) pb296 (14 : Int32)) vb_X3_pass tw_2_200 ⟨rfl, rfl⟩ ⟨Nat.le_of_ble_eq_true rfl, Nat.le_of_ble_eq_true rfl⟩ (by decide) sx_33 rfl rfl rfl hl.1 rfl (Nat.le_of_ble_eq_true rfl) dX3_read_48 ⟨Nat.zero_le _, Nat.zero_le _⟩ (fun u305 H locs q306 hP hS => ?_)
        rw [q306] at hP; clear q306
        refine lv_aload_n C.1 C.2.1 dX3_read_51 rfl (lv_at hl 3 rfl) ?_
        refine lv_iload_n C.1 C.2.1 dX3_read_52 rfl (lv_at hl 0 rfl) ?_
        refine mw_cVv (As := [.int 1]) (rest := []) C Z hP hS (39 + j) (cX_endPart l E (mw_sa (mw_si (mw_si (mw_si (mw_si u2 33 1 0) 33 2 (-1)) (39 + j) 3 0) 33 2 (nI (hdP T))) (51 + j) 0 ((mw_si (mw_si (mw_si (mw_si u2 33 1 0) 33 2 (-1)) (39 + j) 3 0) 33 2 (nI (hdP T))).1 (39 + j) 3)) j hj 1 (by decide)) vb_X8_endPart tw_2_235 ⟨rfl, rfl⟩ ⟨Nat.le_of_ble_eq_true rfl, Nat.le_of_ble_eq_true rfl⟩ (by omega) (sx_tx (by omega)) rfl rfl rfl hl.1 rfl (Nat.le_of_ble_eq_true rfl) dX3_read_53 ⟨Nat.zero_le _, Nat.zero_le _⟩ (fun u308 H locs q309 hP hS => ?_)
        subst q309
        have pb310 := pb296.en hj 1 ((mw_sa (mw_si (mw_si (mw_si (mw_si u2 33 1 0) 33 2 (-1)) (39 + j) 3 0) 33 2 (nI (hdP T))) (51 + j) 0 ((mw_si (mw_si (mw_si (mw_si u2 33 1 0) 33 2 (-1)) (39 + j) 3 0) 33 2 (nI (hdP T))).1 (39 + j) 3)).1 (39 + j) 3)
        refine lv_iinc (v := 2) (lv' := [(3, .int 2), (0, .ref (mw_a E 33)), (1, .ref (mw_a E 31)), (2, .ref (mw_a E (39 + j)))]) C.1 C.2.1 dX3_read_56 hl (k := 0) rfl (by decide) (by decide) rfl (fun ls hl => ?_)
        refine lv_goto (tgt := 25) C.1 C.2.1 dX3_read_59 (by decide) ?_
        refine lv_iload_n C.1 C.2.1 dX3_read_25 rfl (lv_at hl 0 rfl) ?_
        refine lv_iconst (v := 3) C.1 C.2.1 dX3_read_26 (by decide) ?_
        refine lv_icmp_ge (tgt := 62) C.1 C.2.1 dX3_read_27 (by decide) (fun c311 => ?_) (fun c311 => ?_)
        · exact absurd c311 (by decide)
        · refine lv_aload_n C.1 C.2.1 dX3_read_30 rfl (lv_at hl 1 rfl) ?_
          refine lv_bipush (v := 6) C.1 C.2.1 dX3_read_31 (by decide) ?_
          refine lv_iload_n C.1 C.2.1 dX3_read_33 rfl (lv_at hl 0 rfl) ?_
          refine lv_iadd C.1 C.2.1 dX3_read_34 ?_
          refine mw_top (y := 8) (by decide) ?_
          refine mw_cVv (As := [.int 8]) (rest := []) C Z hP hS (33) (cX_passB l E (mw_sa (mw_sa (mw_si (mw_si (mw_si (mw_si u2 33 1 0) 33 2 (-1)) (39 + j) 3 0) 33 2 (nI (hdP T))) (51 + j) 0 ((mw_si (mw_si (mw_si (mw_si u2 33 1 0) 33 2 (-1)) (39 + j) 3 0) 33 2 (nI (hdP T))).1 (39 + j) 3)) (51 + j) 1 ((mw_sa (mw_si (mw_si (mw_si (mw_si u2 33 1 0) 33 2 (-1)) (39 + j) 3 0) 33 2 (nI (hdP T))) (51 + j) 0 ((mw_si (mw_si (mw_si (mw_si u2 33 1 0) 33 2 (-1)) (39 + j) 3 0) 33 2 (nI (hdP T))).1 (39 + j) 3)).1 (39 + j) 3)) T j hj ((hdP T)) pb310 (8 : Int32)) vb_X3_pass tw_2_200 ⟨rfl, rfl⟩ ⟨Nat.le_of_ble_eq_true rfl, Nat.le_of_ble_eq_true rfl⟩ (by decide) sx_33 rfl rfl rfl hl.1 rfl (Nat.le_of_ble_eq_true rfl) dX3_read_35 ⟨Nat.zero_le _, Nat.zero_le _⟩ (fun u313 H locs q314 hP hS => ?_)
          rw [q314] at hP; clear q314
          refine lv_aload_n C.1 C.2.1 dX3_read_38 rfl (lv_at hl 1 rfl) ?_
          refine lv_aload_n C.1 C.2.1 dX3_read_39 rfl (lv_at hl 3 rfl) ?_
          refine lv_iconst (v := 0) C.1 C.2.1 dX3_read_40 (by decide) ?_
          refine lv_iconst (v := 0) C.1 C.2.1 dX3_read_41 (by decide) ?_
          refine mw_cVv (As := [.ref (mw_a E (39 + j)), .int 0, .int 0]) (rest := []) C Z hP hS (33) (cX_l0B l E (mw_sa (mw_sa (mw_si (mw_si (mw_si (mw_si u2 33 1 0) 33 2 (-1)) (39 + j) 3 0) 33 2 (nI (hdP T))) (51 + j) 0 ((mw_si (mw_si (mw_si (mw_si u2 33 1 0) 33 2 (-1)) (39 + j) 3 0) 33 2 (nI (hdP T))).1 (39 + j) 3)) (51 + j) 1 ((mw_sa (mw_si (mw_si (mw_si (mw_si u2 33 1 0) 33 2 (-1)) (39 + j) 3 0) 33 2 (nI (hdP T))) (51 + j) 0 ((mw_si (mw_si (mw_si (mw_si u2 33 1 0) 33 2 (-1)) (39 + j) 3 0) 33 2 (nI (hdP T))).1 (39 + j) 3)).1 (39 + j) 3)) T j hj ((hdP T)) pb310) vb_X3_readLevel tw_2_216 ⟨rfl, rfl⟩ ⟨Nat.le_of_ble_eq_true rfl, Nat.le_of_ble_eq_true rfl⟩ (by decide) sx_33 rfl rfl rfl hl.1 rfl (Nat.le_of_ble_eq_true rfl) dX3_read_42 ⟨Nat.zero_le _, Nat.zero_le _⟩ (fun u316 H locs q317 hP hS => ?_)
          rw [q317] at hP; clear q317
          refine lv_aload_n C.1 C.2.1 dX3_read_45 rfl (lv_at hl 1 rfl) ?_
          refine lv_bipush (v := 14) C.1 C.2.1 dX3_read_46 (by decide) ?_
          refine mw_cVv (As := [.int 14]) (rest := []) C Z hP hS (33) (cX_passB l E (mw_sa (mw_sa (mw_si (mw_si (mw_si (mw_si u2 33 1 0) 33 2 (-1)) (39 + j) 3 0) 33 2 (nI (hdP T))) (51 + j) 0 ((mw_si (mw_si (mw_si (mw_si u2 33 1 0) 33 2 (-1)) (39 + j) 3 0) 33 2 (nI (hdP T))).1 (39 + j) 3)) (51 + j) 1 ((mw_sa (mw_si (mw_si (mw_si (mw_si u2 33 1 0) 33 2 (-1)) (39 + j) 3 0) 33 2 (nI (hdP T))) (51 + j) 0 ((mw_si (mw_si (mw_si (mw_si u2 33 1 0) 33 2 (-1)) (39 + j) 3 0) 33 2 (nI (hdP T))).1 (39 + j) 3)).1 (39 + j) 3)) T j hj ((hdP T)) pb310 (14 : Int32)) vb_X3_pass tw_2_200 ⟨rfl, rfl⟩ ⟨Nat.le_of_ble_eq_true rfl, Nat.le_of_ble_eq_true rfl⟩ (by decide) sx_33 rfl rfl rfl hl.1 rfl (Nat.le_of_ble_eq_true rfl) dX3_read_48 ⟨Nat.zero_le _, Nat.zero_le _⟩ (fun u319 H locs q320 hP hS => ?_)
          rw [q320] at hP; clear q320
          refine lv_aload_n C.1 C.2.1 dX3_read_51 rfl (lv_at hl 3 rfl) ?_
          refine lv_iload_n C.1 C.2.1 dX3_read_52 rfl (lv_at hl 0 rfl) ?_
          refine mw_cVv (As := [.int 2]) (rest := []) C Z hP hS (39 + j) (cX_endPart l E (mw_sa (mw_sa (mw_si (mw_si (mw_si (mw_si u2 33 1 0) 33 2 (-1)) (39 + j) 3 0) 33 2 (nI (hdP T))) (51 + j) 0 ((mw_si (mw_si (mw_si (mw_si u2 33 1 0) 33 2 (-1)) (39 + j) 3 0) 33 2 (nI (hdP T))).1 (39 + j) 3)) (51 + j) 1 ((mw_sa (mw_si (mw_si (mw_si (mw_si u2 33 1 0) 33 2 (-1)) (39 + j) 3 0) 33 2 (nI (hdP T))) (51 + j) 0 ((mw_si (mw_si (mw_si (mw_si u2 33 1 0) 33 2 (-1)) (39 + j) 3 0) 33 2 (nI (hdP T))).1 (39 + j) 3)).1 (39 + j) 3)) j hj 2 (by decide)) vb_X8_endPart tw_2_235 ⟨rfl, rfl⟩ ⟨Nat.le_of_ble_eq_true rfl, Nat.le_of_ble_eq_true rfl⟩ (by omega) (sx_tx (by omega)) rfl rfl rfl hl.1 rfl (Nat.le_of_ble_eq_true rfl) dX3_read_53 ⟨Nat.zero_le _, Nat.zero_le _⟩ (fun u322 H locs q323 hP hS => ?_)
          subst q323
          have pb324 := pb310.en hj 2 ((mw_sa (mw_sa (mw_si (mw_si (mw_si (mw_si u2 33 1 0) 33 2 (-1)) (39 + j) 3 0) 33 2 (nI (hdP T))) (51 + j) 0 ((mw_si (mw_si (mw_si (mw_si u2 33 1 0) 33 2 (-1)) (39 + j) 3 0) 33 2 (nI (hdP T))).1 (39 + j) 3)) (51 + j) 1 ((mw_sa (mw_si (mw_si (mw_si (mw_si u2 33 1 0) 33 2 (-1)) (39 + j) 3 0) 33 2 (nI (hdP T))) (51 + j) 0 ((mw_si (mw_si (mw_si (mw_si u2 33 1 0) 33 2 (-1)) (39 + j) 3 0) 33 2 (nI (hdP T))).1 (39 + j) 3)).1 (39 + j) 3)).1 (39 + j) 3)
          refine lv_iinc (v := 3) (lv' := [(3, .int 3), (0, .ref (mw_a E 33)), (1, .ref (mw_a E 31)), (2, .ref (mw_a E (39 + j)))]) C.1 C.2.1 dX3_read_56 hl (k := 0) rfl (by decide) (by decide) rfl (fun ls hl => ?_)
          refine lv_goto (tgt := 25) C.1 C.2.1 dX3_read_59 (by decide) ?_
          refine lv_iload_n C.1 C.2.1 dX3_read_25 rfl (lv_at hl 0 rfl) ?_
          refine lv_iconst (v := 3) C.1 C.2.1 dX3_read_26 (by decide) ?_
          refine lv_icmp_ge (tgt := 62) C.1 C.2.1 dX3_read_27 (by decide) (fun c325 => ?_) (fun c325 => ?_)
          · refine lv_aload_n C.1 C.2.1 dX3_read_62 rfl (lv_at hl 1 rfl) ?_
            refine lv_bipush (v := 21) C.1 C.2.1 dX3_read_63 (by decide) ?_
            refine mw_cVv (As := [.int 21]) (rest := []) C Z hP hS (33) (cX_passB l E (mw_sa (mw_sa (mw_sa (mw_si (mw_si (mw_si (mw_si u2 33 1 0) 33 2 (-1)) (39 + j) 3 0) 33 2 (nI (hdP T))) (51 + j) 0 ((mw_si (mw_si (mw_si (mw_si u2 33 1 0) 33 2 (-1)) (39 + j) 3 0) 33 2 (nI (hdP T))).1 (39 + j) 3)) (51 + j) 1 ((mw_sa (mw_si (mw_si (mw_si (mw_si u2 33 1 0) 33 2 (-1)) (39 + j) 3 0) 33 2 (nI (hdP T))) (51 + j) 0 ((mw_si (mw_si (mw_si (mw_si u2 33 1 0) 33 2 (-1)) (39 + j) 3 0) 33 2 (nI (hdP T))).1 (39 + j) 3)).1 (39 + j) 3)) (51 + j) 2 ((mw_sa (mw_sa (mw_si (mw_si (mw_si (mw_si u2 33 1 0) 33 2 (-1)) (39 + j) 3 0) 33 2 (nI (hdP T))) (51 + j) 0 ((mw_si (mw_si (mw_si (mw_si u2 33 1 0) 33 2 (-1)) (39 + j) 3 0) 33 2 (nI (hdP T))).1 (39 + j) 3)) (51 + j) 1 ((mw_sa (mw_si (mw_si (mw_si (mw_si u2 33 1 0) 33 2 (-1)) (39 + j) 3 0) 33 2 (nI (hdP T))) (51 + j) 0 ((mw_si (mw_si (mw_si (mw_si u2 33 1 0) 33 2 (-1)) (39 + j) 3 0) 33 2 (nI (hdP T))).1 (39 + j) 3)).1 (39 + j) 3)).1 (39 + j) 3)) T j hj ((hdP T)) pb324 (21 : Int32)) vb_X3_pass tw_2_200 ⟨rfl, rfl⟩ ⟨Nat.le_of_ble_eq_true rfl, Nat.le_of_ble_eq_true rfl⟩ (by decide) sx_33 rfl rfl rfl hl.1 rfl (Nat.le_of_ble_eq_true rfl) dX3_read_65 ⟨Nat.zero_le _, Nat.zero_le _⟩ (fun u327 H locs q328 hP hS => ?_)
            rw [q328] at hP; clear q328
            refine lv_aload_n C.1 C.2.1 dX3_read_68 rfl (lv_at hl 1 rfl) ?_
            refine mw_geti C Z hP (33) 2 (by decide) sx_33 rfl rfl (by decide) inX3 tw_1_155 dX3_read_69 ?_
            refine mw_top (y := nI ((hdP T))) (pb324.2.2.1.1) ?_
            exact mw_iret C hr hlk Z hP hS dX3_read_72 (⟨xRes.bd (xText_1  (gPart_0 hc5)) pb324.2.2.1.2, ((((((((q3.rf j).rd _ _).rd _ _).sz _ _).rd _ _).en _ _).en _ _).en _ _)⟩)
          · exact absurd c325 (by decide)

def xTxQ (σ u : mw_M) (tc : Nat) (r : Int32) (res : zP ⊕ Nat) : Prop := u.1 31 1 = 0 ∧ (∀ k, k ≠ 31 → k ≠ 33 → k ≠ 34 → k ≠ 37 → k ≠ 39 + tc → u.1 k = σ.1 k) ∧ (∀ k, k ≠ 35 → k ≠ 36 → k ≠ 45 + tc → k ≠ 51 + tc → u.2.1 k = σ.2.1 k) ∧ (match res with
  | .inl z => r = nI tc ∧ u.1 37 1 = nI (tc + 1) ∧ xTx u tc z
  | .inr q => r = -100 - nI q ∧ u.1 37 1 = nI tc)
theorem xTx.si {u : mw_M} {t : Nat} {z : zP} (h : xTx u t z) (k f : Nat) (v : Int32) : xTx (mw_si u k f v) t z := h
theorem xTxQ.of {σ u w : mw_M} {tc : Nat} {r r2 : Int32} {res : zP ⊕ Nat} (htc : tc < 6) (hq : xRes tc res r u) (hf : xRf tc σ u) (ht : σ.1 37 1 = nI tc) (h1 : r = -1 → r2 = nI tc ∧ w = mw_si (mw_si u 31 1 0) 37 1 (nI (tc + 1))) (h2 : ¬ r = -1 → r2 = -100 - r ∧ w = mw_si u 31 1 0) : xTxQ σ w tc r2 res := by
  cases res with
  | inl z =>
    obtain ⟨e, hx⟩ := hq
    obtain ⟨e1, e2⟩ := h1 e
    subst e2
    refine ⟨?_, fun k a b c d f => ?_, hf.2.1, e1, mw_sf, hx⟩
    · rw [mw_np (by decide)]; exact mw_sf
    · rw [mw_npF d, mw_npF a]; exact hf.1 k b c f
  | inr q =>
    obtain ⟨e, hx⟩ := hq
    obtain ⟨e1, e2⟩ := h2 (by rw [e]; exact nI_nm1 (by omega))
    subst e2
    refine ⟨mw_sf, fun k a b c d f => ?_, hf.2.1, by rw [e1, e], ?_⟩
    · rw [mw_npF a]; exact hf.1 k b c f
    · rw [mw_np (by decide), hf.1 37 (by decide) (by decide) (by omega)]; exact ht

set_option maxHeartbeats 4000000 in
set_option maxRecDepth 100000 in
theorem cX_text (l : Launch) (E : mw_E) (σ : mw_M) (n : Nat) (hn : σ.1 31 1 = nI n) (h6 : n ≤ 160) (hby : ∀ i, i < n → ∃ k : Nat, k ≤ 255 ∧ σ.2.1 32 i = nI k) (tc : Nat) (htc : σ.1 37 1 = nI tc) (htc6 : tc ≤ 6) : mw_Ci shX 75 gX l yX11_text cX11_text 2 (some .int) (rmF 47 1187) E [.ref (mw_a E 30)] σ (fun r u => (tc = 6 → r = -4 ∧ u = σ) ∧ (tc < 6 → xTxQ σ u tc r (gText (tkA (σ.2.1 32) n 0)))) := by
  refine mw_of (by decide) gX_ok (Nat.le_of_ble_eq_true rfl) ?_
  intro p_ e_ s_ m_ below meth c_ C hr hlk Z hP ls hl
  have C : CallFix p_ m_ c_ cX11_text 2 s_ _ lw_good RX11 := C
  have hl : lv_has ls 2 [(0, .ref (mw_a E 30))] := hl
  have hS : va_S (mw_A 75 E) s_.heap s_.heap [] := va_S.rf
  refine lv_aload_n C.1 C.2.1 dX11_text_0 rfl (lv_at hl 0 rfl) ?_
  refine mw_getr C Z hP (30) 6 (37) (by decide) sx_30 rfl rfl (by decide) inX11 tw_3_5 dX11_text_1 ?_
  refine mw_geti C Z hP (37) 1 (by decide) sx_37 rfl rfl (by decide) inX9 tw_1_193 dX11_text_4 ?_
  refine mw_top (y := nI tc) (htc) ?_
  refine lv_bipush (v := 6) C.1 C.2.1 dX11_text_7 (by decide) ?_
  refine lv_icmp_lt (tgt := 15) C.1 C.2.1 dX11_text_9 (by decide) (fun c1 => ?_) (fun c1 => ?_)
  · have c1 := (nI_ltI (b := 6) (by omega) (by decide)).mp c1
    refine lv_aload_n C.1 C.2.1 dX11_text_15 rfl (lv_at hl 0 rfl) ?_
    refine mw_getr C Z hP (30) 5 (33) (by decide) sx_30 rfl rfl (by decide) inX11 tw_3_4 dX11_text_16 ?_
    refine lv_aload_n C.1 C.2.1 dX11_text_19 rfl (lv_at hl 0 rfl) ?_
    refine mw_getr C Z hP (30) 4 (31) (by decide) sx_30 rfl rfl (by decide) inX11 tw_3_3 dX11_text_20 ?_
    refine lv_aload_n C.1 C.2.1 dX11_text_23 rfl (lv_at hl 0 rfl) ?_
    refine mw_getr C Z hP (30) 6 (37) (by decide) sx_30 rfl rfl (by decide) inX11 tw_3_5 dX11_text_24 ?_
    refine mw_getr C Z hP (37) 0 (38) (by decide) sx_37 rfl rfl (by decide) inX9 tw_1_191 dX11_text_27 ?_
    refine lv_aload_n C.1 C.2.1 dX11_text_30 rfl (lv_at hl 0 rfl) ?_
    refine mw_getr C Z hP (30) 6 (37) (by decide) sx_30 rfl rfl (by decide) inX11 tw_3_5 dX11_text_31 ?_
    refine mw_geti C Z hP (37) 1 (by decide) sx_37 rfl rfl (by decide) inX9 tw_1_193 dX11_text_34 ?_
    refine mw_top (y := nI tc) (htc) ?_
    refine mw_aald C Z hP (38) (tc) (by decide) sx_38 (by decide) rfl (Nat.lt_of_lt_of_le (by decide : 6 < 961) (Nat.le_of_ble_eq_true rfl)) rfl (by omega) dX11_text_37 ?_
    refine mw_cVi (As := [.ref (mw_a E 31), .ref (mw_a E (39 + tc))]) (rest := []) C Z hP hS (33) (cX_read l E σ n hn h6 hby tc (by omega)) vb_X3_read tw_2_78 ⟨rfl, rfl⟩ ⟨Nat.le_of_ble_eq_true rfl, Nat.le_of_ble_eq_true rfl⟩ (by decide) sx_33 rfl rfl rfl hl.1 rfl (Nat.le_of_ble_eq_true rfl) dX11_text_38 ⟨Nat.zero_le _, Nat.zero_le _⟩ (fun r2 u3 H locs q4 hP hS => ?_)
    obtain ⟨hrs, hfr⟩ := q4
    refine lv_istore_n (lv' := [(1, .int r2), (0, .ref (mw_a E 30))]) C.1 C.2.1 dX11_text_41 rfl hl (by decide) rfl (fun ls hl => ?_)
    refine lv_aload_n C.1 C.2.1 dX11_text_42 rfl (lv_at hl 1 rfl) ?_
    refine mw_getr C Z hP (30) 4 (31) (by decide) sx_30 rfl rfl (by decide) inX11 tw_3_3 dX11_text_43 ?_
    refine lv_iconst (v := 0) C.1 C.2.1 dX11_text_46 (by decide) ?_
    refine mw_puti C Z hP hS (31) 1 (by decide) sx_31 rfl rfl (by decide) inX7 tyX7 tyX7_ok nmX7 rfl tw_1_124 rfl rfl dX11_text_47 (fun H locs hP hS => ?_)
    refine lv_iload_n C.1 C.2.1 dX11_text_50 rfl (lv_at hl 0 rfl) ?_
    refine lv_iconst (v := -1) C.1 C.2.1 dX11_text_51 (by decide) ?_
    refine lv_icmp_eq (tgt := 60) C.1 C.2.1 dX11_text_52 (by decide) (fun c5 => ?_) (fun c5 => ?_)
    · refine lv_aload_n C.1 C.2.1 dX11_text_60 rfl (lv_at hl 1 rfl) ?_
      refine mw_getr C Z hP (30) 6 (37) (by decide) sx_30 rfl rfl (by decide) inX11 tw_3_5 dX11_text_61 ?_
      refine lv_dup C.1 C.2.1 dX11_text_64 rfl ?_
      refine mw_geti C Z hP (37) 1 (by decide) sx_37 rfl rfl (by decide) inX9 tw_1_193 dX11_text_65 ?_
      refine mw_top (y := nI tc) ((mw_np (by decide)).trans ((congrFun (hfr.1 37 (by decide) (by decide) (by omega)) 1).trans htc)) ?_
      refine lv_iconst (v := 1) C.1 C.2.1 dX11_text_68 (by decide) ?_
      refine lv_iadd C.1 C.2.1 dX11_text_69 ?_
      refine mw_top (y := nI (tc + 1)) (nI_1 _) ?_
      refine mw_puti C Z hP hS (37) 1 (by decide) sx_37 rfl rfl (by decide) inX9 tyX9 tyX9_ok nmX9 rfl tw_1_193 rfl rfl dX11_text_70 (fun H locs hP hS => ?_)
      refine lv_aload_n C.1 C.2.1 dX11_text_73 rfl (lv_at hl 1 rfl) ?_
      refine mw_getr C Z hP (30) 6 (37) (by decide) sx_30 rfl rfl (by decide) inX11 tw_3_5 dX11_text_74 ?_
      refine mw_geti C Z hP (37) 1 (by decide) sx_37 rfl rfl (by decide) inX9 tw_1_193 dX11_text_77 ?_
      refine mw_top (y := nI (tc + 1)) (mw_sf) ?_
      refine lv_iconst (v := 1) C.1 C.2.1 dX11_text_80 (by decide) ?_
      refine lv_isub C.1 C.2.1 dX11_text_81 ?_
      refine mw_top (y := nI tc) (pk_sub (a := tc + 1) (b := 1) (by omega)) ?_
      exact mw_iret C hr hlk Z hP hS dX11_text_82 (⟨fun y => absurd y (by omega), fun _ => xTxQ.of (by omega) hrs hfr htc (fun _ => ⟨rfl, rfl⟩) (fun y => absurd c5 y)⟩)
    · refine lv_bipush (v := -100) C.1 C.2.1 dX11_text_55 (by decide) ?_
      refine lv_iload_n C.1 C.2.1 dX11_text_57 rfl (lv_at hl 0 rfl) ?_
      refine lv_isub C.1 C.2.1 dX11_text_58 ?_
      exact mw_iret C hr hlk Z hP hS dX11_text_59 (⟨fun y => absurd y (by omega), fun _ => xTxQ.of (by omega) hrs hfr htc (fun y => absurd y c5) (fun _ => ⟨rfl, rfl⟩)⟩)
  · have c1 := (not_congr (nI_ltI (b := 6) (by omega) (by decide))).mp c1
    refine lv_bipush (v := -4) C.1 C.2.1 dX11_text_12 (by decide) ?_
    exact mw_iret C hr hlk Z hP hS dX11_text_14 (⟨fun _ => ⟨rfl, rfl⟩, fun y => absurd y (by omega)⟩)
