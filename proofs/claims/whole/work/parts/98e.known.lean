/-! THE START: the statics and texts, the nest's words, the tables, as the contracts ask for them -/
theorem lw_sX {s : State} {b : Nat} (hts : ∀ w ∈ lw_tbl, w.before #[Value.ref b] s = true) (hgv : (Jvm.Cond.and given_1 narrow_1).before #[Value.ref b] s = true) : ∃ tt kk vv : Nat → Nat, sX (gA s.heap.size) tt kk vv s := by
  have hn : ∀ (i : Nat) {w : Cond}, nwL[i]? = some w → w.before #[Value.ref b] s = true := fun i w h => flat_of_before _ hgv w (List.mem_of_getElem? h)
  have hA : ∀ a : Nat, a < s.heap.size → ¬ gA s.heap.size a := fun a h => Nat.not_le.mpr h
  have hT : ∀ i : Nat, ∃ t : Nat, i < 5 → va_Z RX11 (xTs i).1 "[I" (.ref t) (gA s.heap.size) s s.heap ∧ va_T .int t (xTs i).2.length (fun j => .int ((xTs i).2.getD j 0)) (gA s.heap.size) s s.heap := by
    intro i
    by_cases hi : i < 5
    · obtain ⟨h1, h2, h3⟩ := nw_T ⟨i, hi⟩
      have h3 : (xTs i).2.length ≤ 8 := h3
      obtain ⟨t, ht, hT⟩ := va_Tof (f := fun j => .int ((xTs i).2.getD j 0)) (A := gA s.heap.size) (Nat.lt_of_le_of_lt h3 (by decide)) (hn _ h1) (va_eqt (hn _ h2)) (fun j hj => va_eqt (hn _ (nw_TE ⟨i, hi⟩ ⟨j, Nat.lt_of_lt_of_le hj h3⟩ hj))) hA
      exact ⟨t, fun _ => ⟨va_Zof (hts _ (nw_lay i hi)) (hts _ nw_w19) ht hA, hT⟩⟩
    · exact ⟨0, fun h => absurd h hi⟩
  obtain ⟨tt, htt⟩ := Classical.axiomOfChoice hT
  obtain ⟨kk, vv, hS, he⟩ := vk_Sof (args := #[Value.ref b]) (s := s) (N := 15) (tm := xTm) (len := xLen) (byt := xByt) (A := gA s.heap.size) (fun i hi => Nat.lt_of_le_of_lt (nw_S ⟨i, hi⟩).2.2 (by decide)) (fun i hi => hn _ (nw_S ⟨i, hi⟩).1) (fun i hi => hn _ (nw_S ⟨i, hi⟩).2.1) (fun i hi => hn _ (nw_S2 ⟨i, hi⟩).1) (fun i hi => hn _ (nw_S2 ⟨i, hi⟩).2) (fun i hi j hj => by
    by_cases h14 : i < 14
    · exact hn _ (nw_SE1 ⟨i, h14⟩ ⟨j, Nat.lt_of_lt_of_le hj (nw_SL ⟨i, h14⟩)⟩ hj)
    · have e : i = 14 := by omega
      subst e
      exact hn _ (nw_SE2 ⟨j, hj⟩)) (fun i j hi hj hij => by
    rcases nw_SC ⟨i, hi⟩ ⟨j, hj⟩ hij with ⟨⟨a, c, d⟩, q1, q2, q3⟩ | ⟨⟨a, c, d⟩, q1, q2, q3⟩
    · have q2 : a = i := q2
      have q3 : c = j := q3
      subst q2 q3
      exact Or.inl (hn _ (nw_P _ q1))
    · have q2 : a = j := q2
      have q3 : c = i := q3
      subst q2 q3
      exact Or.inr (hn _ (nw_P _ q1))) hA
  exact ⟨tt, kk, vv, htt, va_Zof (hts _ nw_w15) (hts _ nw_w17) (va_eqi (hn _ nw_1.1)) hA, va_Zqof (hts _ nw_w16) (hts _ nw_w18) (hn _ nw_1.2) hA, hS, fun i hi => vk_R.of (hts _ (lt_2 (List.mem_of_getElem? (nw_SR ⟨i, hi⟩)))) (he i hi), va_Nw.of rfl (hts _ nw_w8), va_Nw.of rfl (hts _ nw_w9), va_Nw.of rfl (hts _ nw_w10), va_Nw.of rfl (hts _ nw_w14)⟩
theorem lw_NW {s : State} {b : Nat} (hts : ∀ w ∈ lw_tbl, w.before #[Value.ref b] s = true) : gNW s :=
  ⟨⟨va_Nw.of rfl (hts _ nw_w0), va_Nw.of rfl (hts _ nw_w1), va_Nw.of rfl (hts _ nw_w2), va_Nw.of rfl (hts _ nw_w3), va_Nw.of rfl (hts _ nw_w4), va_Nw.of rfl (hts _ nw_w5), va_Nw.of rfl (hts _ nw_w6), va_Nw.of rfl (hts _ nw_w7)⟩, va_AO.of (hts _ nw_w11), va_AO.of (hts _ nw_w12), va_AO.of (hts _ nw_w13)⟩
theorem lw_Kc {s : State} {b : Nat} (h2 : ∀ w ∈ lw_good, w.before #[Value.ref b] s = true) : ∀ k : Nat, ∃ q : ClassId × (Nat → Nat), ∀ r : vw_C, vwCl[k]? = some r → u_Kn s r.1 r.2.1 r.2.2 q.1 q.2
  | 0 => by
    obtain ⟨c, f, h⟩ := u_known (C := RX0) (T := TX0) (N := 3) (n := 3) h2 inX0 (h2 _ tw_1_210)
    exact ⟨(c, f), fun r hr => by cases hr; exact h⟩
  | 1 => by
    obtain ⟨c, f, h⟩ := u_known (C := RX1) (T := TX1) (N := 5) (n := 5) h2 inX1 (h2 _ tw_1_38)
    exact ⟨(c, f), fun r hr => by cases hr; exact h⟩
  | 2 => by
    obtain ⟨c, f, h⟩ := u_known (C := RX2) (T := TX2) (N := 2) (n := 2) h2 inX2 (h2 _ tw_1_227)
    exact ⟨(c, f), fun r hr => by cases hr; exact h⟩
  | 3 => by
    obtain ⟨c, f, h⟩ := u_known (C := RX3) (T := TX3) (N := 3) (n := 3) h2 inX3 (h2 _ tw_1_132)
    exact ⟨(c, f), fun r hr => by cases hr; exact h⟩
  | 4 => by
    obtain ⟨c, f, h⟩ := u_known (C := RX4) (T := TX4) (N := 1) (n := 1) h2 inX4 (h2 _ tw_1_200)
    exact ⟨(c, f), fun r hr => by cases hr; exact h⟩
  | 5 => by
    obtain ⟨c, f, h⟩ := u_known (C := RX5) (T := TX5) (N := 3) (n := 3) h2 inX5 (h2 _ tw_2_3)
    exact ⟨(c, f), fun r hr => by cases hr; exact h⟩
  | 6 => by
    obtain ⟨c, f, h⟩ := u_known (C := RX6) (T := TX6) (N := 8) (n := 8) h2 inX6 (h2 _ tw_1_31)
    exact ⟨(c, f), fun r hr => by cases hr; exact h⟩
  | 7 => by
    obtain ⟨c, f, h⟩ := u_known (C := RX7) (T := TX7) (N := 2) (n := 2) h2 inX7 (h2 _ tw_1_116)
    exact ⟨(c, f), fun r hr => by cases hr; exact h⟩
  | 8 => by
    obtain ⟨c, f, h⟩ := u_known (C := RX8) (T := TX8) (N := 4) (n := 4) h2 inX8 (h2 _ tw_1_171)
    exact ⟨(c, f), fun r hr => by cases hr; exact h⟩
  | 9 => by
    obtain ⟨c, f, h⟩ := u_known (C := RX9) (T := TX9) (N := 2) (n := 2) h2 inX9 (h2 _ tw_1_164)
    exact ⟨(c, f), fun r hr => by cases hr; exact h⟩
  | 10 => by
    obtain ⟨c, f, h⟩ := u_known (C := RX10) (T := TX10) (N := 3) (n := 3) h2 inX10 (h2 _ tw_1_138)
    exact ⟨(c, f), fun r hr => by cases hr; exact h⟩
  | 11 => by
    obtain ⟨c, f, h⟩ := u_known (C := RX11) (T := TX11) (N := 11) (n := 11) h2 inX11 (h2 _ tw_1_23)
    exact ⟨(c, f), fun r hr => by cases hr; exact h⟩
  | 12 => by
    obtain ⟨c, f, h⟩ := u_known (C := RX12) (T := TX12) (N := 34) (n := 34) h2 inX12 (h2 _ tw_4_156)
    exact ⟨(c, f), fun r hr => by cases hr; exact h⟩
  | k + 13 => by
    obtain ⟨c, f, h⟩ := u_known (C := RX0) (T := TX0) (N := 3) (n := 3) h2 inX0 (h2 _ tw_1_210)
    exact ⟨(c, f), fun r hr => by
      have e : vwCl[k + 13]? = none := List.getElem?_eq_none (Nat.le_add_left 13 k)
      rw [e] at hr
      cases hr⟩
theorem lw_K {s : State} {b : Nat} (h2 : ∀ w ∈ lw_good, w.before #[Value.ref b] s = true) (hN : gNW s) : ∃ (D : va_G) (ci : Nat → ClassId), va_K D vwCl (gTy ci) s := by
  obtain ⟨q, hq⟩ := Classical.axiomOfChoice (lw_Kc h2)
  obtain ⟨cI, kI, pI, hI1, hI2, hI3⟩ := Cond.arrayClass_spec (h2 _ tw_1_130)
  obtain ⟨cZ, kZ, pZ, hZ1, hZ2, hZ3⟩ := Cond.arrayClass_spec (h2 _ tw_5_27)
  obtain ⟨p1, c1, k1, a1, -, a3, a4, a5⟩ := Cond.arrayOver_spec hN.2.1
  obtain ⟨p2, c2, k2, b1, -, b3, b4, b5⟩ := Cond.arrayOver_spec hN.2.2.1
  obtain ⟨p3, c3, k3, d1, -, d3, d4, d5⟩ := Cond.arrayOver_spec hN.2.2.2
  refine ⟨(fun k => (q k).1, fun k => (q k).2), fun k => if k = 0 then cI else if k = 1 then cZ else if k = 2 then c1 else if k = 3 then c2 else c3, fun k r hr => hq k r hr, fun k r hr => ?_⟩
  match k, hr with
  | 0, hr => cases hr; exact ⟨fun n z => ⟨fun k h => (by cases h), kI, hI2, pI, hI3⟩, hI1⟩
  | 1, hr => cases hr; exact ⟨fun n z => ⟨fun k h => (by cases h), kZ, hZ2, pZ, hZ3⟩, hZ1⟩
  | 2, hr => cases hr; exact ⟨fun n z => ⟨fun k h => (by cases h), k1, a3, p1, a4⟩, k1, p1, a3, a4, a1, a5⟩
  | 3, hr => cases hr; exact ⟨fun n z => ⟨fun k h => (by cases h), k2, b3, p2, b4⟩, k2, p2, b3, b4, b1, b5⟩
  | 4, hr => cases hr; exact ⟨fun n z => ⟨fun k h => (by cases h), k3, d3, p3, d4⟩, k3, p3, d3, d4, d1, d5⟩
  | k + 5, hr =>
    have e : (gTy (fun k => if k = 0 then cI else if k = 1 then cZ else if k = 2 then c1 else if k = 3 then c2 else c3))[k + 5]? = none := List.getElem?_eq_none (Nat.le_add_left 5 k)
    rw [e] at hr
    cases hr
