/-! ONE CALL ON BOTH SIDES: THE SAME ANSWER, AND THE RELATION STANDS -/
def RX (σ τ : mw_M) : Prop := ∃ (n tc tn : Nat) (zz : Nat → zP), RR σ τ n tc tn zz
abbrev stI (l : Launch) (σ τ : mw_M) (y : MethodName) (cc : ByteArray) (nL : Nat) (rm : Room) (y2 : MethodName) (cc2 : ByteArray) (nL2 : Nat) (rm2 : Room) (As : List Value) : Prop := ∃ (P Q : Int32 → mw_M → Prop), (∀ E : mw_E, mw_Ci shX 75 gX l y cc nL (some .int) rm E (.ref (mw_a E 30) :: As) σ P) ∧ (∀ E : mw_E, mw_Ci shM 13 gM l y2 cc2 nL2 (some .int) rm2 E (.ref (mw_a E 0) :: As) τ Q) ∧ ∀ (r : Int32) (u : mw_M) (r2 : Int32) (v : mw_M), P r u → Q r2 v → r = r2 ∧ RX u v
abbrev stL (l : Launch) (σ τ : mw_M) (y : MethodName) (cc : ByteArray) (nL : Nat) (rm : Room) (y2 : MethodName) (cc2 : ByteArray) (nL2 : Nat) (rm2 : Room) (As : List Value) : Prop := ∃ (P Q : Int64 → mw_M → Prop), (∀ E : mw_E, mw_Cl shX 75 gX l y cc nL (some .long) rm E (.ref (mw_a E 30) :: As) σ P) ∧ (∀ E : mw_E, mw_Cl shM 13 gM l y2 cc2 nL2 (some .long) rm2 E (.ref (mw_a E 0) :: As) τ Q) ∧ ∀ (r : Int64) (u : mw_M) (r2 : Int64) (v : mw_M), P r u → Q r2 v → r = r2 ∧ RX u v
theorem st_set (l : Launch) {σ τ : mw_M} (h : RX σ τ) (ww oo vv : Int32) : stI l σ τ yX11_set cX11_set 5 (rmF 2 86) yX12_set cX12_set 5 (rmF 47 1041) [.int ww, .int oo, .int vv] := by
  obtain ⟨n, tc, tn, zz, h⟩ := h
  obtain ⟨z, hx, hm⟩ := h.ru
  refine ⟨_, _, fun E => cX_set l E σ n h.1.1.2.1 h.1.1.1 ww oo vv, fun E => cM_set l E τ z n h.1.1.2.2 h.1.1.1 hm ww oo vv, fun r u r2 v p q => ?_⟩
  by_cases c : setOK n ww oo vv
  · obtain ⟨p1, p2⟩ := p.2 c
    obtain ⟨q1, q2⟩ := q.2 c
    obtain ⟨a, b⟩ := op_set h c z
    refine ⟨p1.trans (a.trans q1.symm), n, tc, tn, zz, ?_⟩
    rw [p2]
    exact b.q (xQs.rf _) q2
  · obtain ⟨p1, p2⟩ := p.1 c
    obtain ⟨q1, q2⟩ := q.1 c
    refine ⟨p1.trans q1.symm, n, tc, tn, zz, ?_⟩
    rw [p2]
    exact h.q (xQs.rf _) q2
theorem st_customer (l : Launch) {σ τ : mw_M} (h : RX σ τ) (kk mm hh : Int32) : stI l σ τ yX11_customer cX11_customer 4 (rmF 2 87) yX12_customer cX12_customer 4 (rmF 1 25) [.int kk, .int mm, .int hh] := by
  obtain ⟨n, tc, tn, zz, h⟩ := h
  refine ⟨_, _, fun E => cX_customer l E σ n h.1.1.2.1 h.1.1.1 kk mm hh, fun E => cM_customer l E τ n h.1.1.2.2 h.1.1.1 kk mm hh, fun r u r2 v p q => ?_⟩
  by_cases c : cusOK kk mm hh
  · rcases Nat.lt_or_ge n 8 with y | y
    · obtain ⟨p1, p2⟩ := p.2.2 ⟨c, y⟩
      obtain ⟨q1, q2⟩ := q.2.2 ⟨c, y⟩
      refine ⟨p1.trans q1.symm, n + 1, tc, tn, zz, ?_⟩
      rw [p2, q2]
      exact op_customer h c y
    · have e8 : n = 8 := Nat.le_antisymm h.1.1.1 y
      obtain ⟨p1, p2⟩ := p.2.1 ⟨c, e8⟩
      obtain ⟨q1, q2⟩ := q.2.1 ⟨c, e8⟩
      refine ⟨p1.trans q1.symm, n, tc, tn, zz, ?_⟩
      rw [p2, q2]
      exact h
  · obtain ⟨p1, p2⟩ := p.1 c
    obtain ⟨q1, q2⟩ := q.1 c
    refine ⟨p1.trans q1.symm, n, tc, tn, zz, ?_⟩
    rw [p2, q2]
    exact h
theorem st_told (l : Launch) {σ τ : mw_M} (h : RX σ τ) (oo ww : Int32) : stI l σ τ yX11_told cX11_told 4 (rmF 7 199) yX12_told cX12_told 3 (rmF 46 1019) [.int oo, .int ww] := by
  obtain ⟨n, tc, tn, zz, h⟩ := h
  obtain ⟨z, hx, hm⟩ := h.ru
  exact ⟨_, _, fun E => cX_told l E σ n h.1.1.2.1 h.1.1.1 z hx oo ww, fun E => cM_told l E τ z n h.1.1.2.2 h.1.1.1 hm oo ww, fun r u r2 v p q => ⟨p.1.trans (Eq.trans (toldF_cg h.1.2.1 h.1.2.2.1 z oo ww) q.1.symm), n, tc, tn, zz, h.q p.2 q.2⟩⟩
theorem st_feed (l : Launch) {σ τ : mw_M} (h : RX σ τ) (vv : Int32) : stI l σ τ yX11_feed cX11_feed 2 (rmF 2 86) yX12_feed cX12_feed 2 (rmF 1 25) [.int vv] := by
  obtain ⟨n, tc, tn, zz, h⟩ := h
  refine ⟨_, _, fun E => cX_feed l E σ tn h.2.2.1.2.1 h.2.2.1.1 vv, fun E => cM_feed l E τ tn h.2.2.1.2.2.1 h.2.2.1.1 vv, fun r u r2 v p q => ?_⟩
  by_cases c : feedOK vv
  · rcases Nat.lt_or_ge tn 160 with y | y
    · obtain ⟨p1, p2⟩ := p.2.2 ⟨c, y⟩
      obtain ⟨q1, q2⟩ := q.2.2 ⟨c, y⟩
      refine ⟨p1.trans q1.symm, n, tc, tn + 1, zz, ?_⟩
      rw [p2, q2]
      exact op_feed h c y
    · have e8 : tn = 160 := Nat.le_antisymm h.2.2.1.1 y
      obtain ⟨p1, p2⟩ := p.2.1 ⟨c, e8⟩
      obtain ⟨q1, q2⟩ := q.2.1 ⟨c, e8⟩
      refine ⟨p1.trans q1.symm, n, tc, tn, zz, ?_⟩
      rw [p2, q2]
      exact h
  · obtain ⟨p1, p2⟩ := p.1 c
    obtain ⟨q1, q2⟩ := q.1 c
    refine ⟨p1.trans q1.symm, n, tc, tn, zz, ?_⟩
    rw [p2, q2]
    exact h
theorem st_text (l : Launch) {σ τ : mw_M} (h : RX σ τ) : stI l σ τ yX11_text cX11_text 2 (rmF 47 1187) yX12_text cX12_text 2 (rmF 42 930) [] := by
  obtain ⟨n, tc, tn, zz, h⟩ := h
  have hby : ∀ j, j < tn → 0 ≤ (τ.2.1 3 j).toInt := fun j hj => by
    obtain ⟨q1, k, q2, q3⟩ := h.2.2.1.2.2.2 j hj
    rw [← q1, q3, nI_toInt (by omega)]
    omega
  refine ⟨_, _, fun E => cX_text l E σ tn h.2.2.1.2.1 h.2.2.1.1 (fun i hi => (h.2.2.1.2.2.2 i hi).2) tc h.2.1.1.2.1 h.2.1.1.1.2, fun E => cM_text l E τ tc tn h.2.1.1.2.2 h.2.2.1.2.2.1 h.2.1.1.1.2 h.2.2.1.1 hby, fun r u r2 v p q => ?_⟩
  rcases Nat.lt_or_ge tc 6 with y | y
  · obtain ⟨e, tc2, zz2, hh⟩ := op_text h y (p.2 y) (q.2 y)
    exact ⟨e, n, tc2, 0, zz2, hh⟩
  · have e8 : tc = 6 := Nat.le_antisymm h.2.1.1.1.2 y
    obtain ⟨p1, p2⟩ := p.1 e8
    obtain ⟨q1, q2⟩ := q.1 e8
    refine ⟨p1.trans q1.symm, n, tc, tn, zz, ?_⟩
    rw [p2, q2]
    exact h
theorem st_force (l : Launch) {σ τ : mw_M} (h : RX σ τ) (vv : Int32) : stI l σ τ yX11_force cX11_force 3 (rmF 2 85) yX12_force cX12_force 3 (rmF 1 25) [.int vv] := by
  obtain ⟨n, tc, tn, zz, h⟩ := h
  refine ⟨_, _, fun E => cX_force l E σ tc h.2.1.1.2.1 h.2.1.1.1.2 vv, fun E => cM_force l E τ tc h.2.1.1.2.2 h.2.1.1.1.2 vv, fun r u r2 v p q => ?_⟩
  by_cases c : 0 ≤ vv.toInt ∧ vv.toInt < tc
  · obtain ⟨p1, p2⟩ := p.2 c
    obtain ⟨q1, q2⟩ := q.2 c
    obtain ⟨t, t1, t2, t3⟩ := h.1.2.2.2.1
    refine ⟨p1.trans ((t2.trans t3.symm).trans q1.symm), n, tc, tn, zz, ?_⟩
    rw [p2, q2]
    exact op_force h c
  · obtain ⟨p1, p2⟩ := p.1 c
    obtain ⟨q1, q2⟩ := q.1 c
    refine ⟨p1.trans q1.symm, n, tc, tn, zz, ?_⟩
    rw [p2, q2]
    exact h
theorem st_board (l : Launch) {σ τ : mw_M} (h : RX σ τ) (w : Int32) : stI l σ τ yX11_board cX11_board 2 (rmF 8 222) yX12_board cX12_board 7 (rmF 47 1041) [.int w] := by
  obtain ⟨n, tc, tn, zz, h⟩ := h
  obtain ⟨z, hx, hm⟩ := h.ru
  exact ⟨_, _, fun E => cX_board l E σ n h.1.1.2.1 h.1.1.1 z hx (fun p hp => (h.1.2.2.2.2.2 p hp).2.1) w, fun E => cM_board l E τ z n h.1.1.2.2 h.1.1.1 hm w, fun r u r2 v p q => ⟨p.1.trans (Eq.trans (boardF_cg h.1.2.1 h.1.2.2.1 z w) q.1.symm), n, tc, tn, zz, h.q p.2 q.2⟩⟩
theorem st_fair (l : Launch) {σ τ : mw_M} (h : RX σ τ) (w : Int32) : stL l σ τ yX11_fair cX11_fair 5 (rmF 6 177) yX12_fair cX12_fair 8 (rmF 45 996) [.int w] := by
  obtain ⟨n, tc, tn, zz, h⟩ := h
  obtain ⟨z, hx, hm⟩ := h.ru
  exact ⟨_, _, fun E => cX_fair l E σ n h.1.1.2.1 h.1.1.1 z hx w, fun E => cM_fair l E τ z n h.1.1.2.2 h.1.1.1 hm w, fun r u r2 v p q => ⟨p.1.trans (Eq.trans (fairF_cg h.1.2.1 h.1.2.2.1 z w) q.1.symm), n, tc, tn, zz, h.q p.2 q.2⟩⟩
theorem st_buysOne (l : Launch) {σ τ : mw_M} (h : RX σ τ) (w : Int32) : stL l σ τ yX11_buysOne cX11_buysOne 4 (rmF 6 177) yX12_buysOne cX12_buysOne 8 (rmF 45 996) [.int w] := by
  obtain ⟨n, tc, tn, zz, h⟩ := h
  obtain ⟨z, hx, hm⟩ := h.ru
  exact ⟨_, _, fun E => cX_buysOne l E σ n h.1.1.2.1 h.1.1.1 z hx w, fun E => cM_buysOne l E τ z n h.1.1.2.2 h.1.1.1 hm w, fun r u r2 v p q => ⟨p.1.trans (Eq.trans (oneF_cg h.1.2.1 h.1.2.2.1 z w) q.1.symm), n, tc, tn, zz, h.q p.2 q.2⟩⟩
theorem st_hour (l : Launch) {σ τ : mw_M} (h : RX σ τ) (h1 w : Int32) : stI l σ τ yX11_hour cX11_hour 3 (rmF 7 201) yX12_hour cX12_hour 5 (rmF 45 999) [.int h1, .int w] := by
  obtain ⟨n, tc, tn, zz, h⟩ := h
  obtain ⟨z, hx, hm⟩ := h.ru
  exact ⟨_, _, fun E => cX_hour l E σ n h.1.1.2.1 h.1.1.1 z hx (fun p hp => (h.1.2.2.2.2.2 p hp).2.1) h1 w, fun E => cM_hour l E τ z n h.1.1.2.2 h.1.1.1 hm h1 w, fun r u r2 v p q => ⟨p.1.trans (Eq.trans (hourF_cg h.1.2.1 h.1.2.2.1 z h1 w) q.1.symm), n, tc, tn, zz, h.q p.2 q.2⟩⟩
theorem st_cubes (l : Launch) {σ τ : mw_M} (h : RX σ τ) (w : Int32) : stI l σ τ yX11_cubes cX11_cubes 2 (rmF 8 227) yX12_cubes cX12_cubes 2 (rmF 48 1068) [.int w] := by
  obtain ⟨n, tc, tn, zz, h⟩ := h
  obtain ⟨z, hx, hm⟩ := h.ru
  exact ⟨_, _, fun E => cX_cubes l E σ n h.1.1.2.1 h.1.1.1 z hx w, fun E => cM_cubes l E τ z n h.1.1.2.2 h.1.1.1 hm w, fun r u r2 v p q => ⟨p.1.trans (Eq.trans (bestF_cg h.1.2.1 h.1.2.2.1 z 0 1 40 w) q.1.symm), n, tc, tn, zz, h.q p.2 q.2⟩⟩
theorem st_shelf (l : Launch) {σ τ : mw_M} (h : RX σ τ) (w : Int32) : stI l σ τ yX11_shelf cX11_shelf 2 (rmF 8 227) yX12_shelf cX12_shelf 2 (rmF 48 1068) [.int w] := by
  obtain ⟨n, tc, tn, zz, h⟩ := h
  obtain ⟨z, hx, hm⟩ := h.ru
  exact ⟨_, _, fun E => cX_shelf l E σ n h.1.1.2.1 h.1.1.1 z hx w, fun E => cM_shelf l E τ z n h.1.1.2.2 h.1.1.1 hm w, fun r u r2 v p q => ⟨p.1.trans (Eq.trans (bestF_cg h.1.2.1 h.1.2.2.1 z 1 1 6 w) q.1.symm), n, tc, tn, zz, h.q p.2 q.2⟩⟩
theorem st_apron (l : Launch) {σ τ : mw_M} (h : RX σ τ) (w : Int32) : stI l σ τ yX11_apron cX11_apron 2 (rmF 8 227) yX12_apron cX12_apron 2 (rmF 48 1068) [.int w] := by
  obtain ⟨n, tc, tn, zz, h⟩ := h
  obtain ⟨z, hx, hm⟩ := h.ru
  exact ⟨_, _, fun E => cX_apron l E σ n h.1.1.2.1 h.1.1.1 z hx w, fun E => cM_apron l E τ z n h.1.1.2.2 h.1.1.1 hm w, fun r u r2 v p q => ⟨p.1.trans (Eq.trans (bestF_cg h.1.2.1 h.1.2.2.1 z 2 0 2 w) q.1.symm), n, tc, tn, zz, h.q p.2 q.2⟩⟩
theorem st_stand (l : Launch) {σ τ : mw_M} (h : RX σ τ) (qq w : Int32) : stI l σ τ yX11_stand cX11_stand 4 (rmF 7 202) yX12_stand cX12_stand 8 (rmF 47 1041) [.int qq, .int w] := by
  obtain ⟨n, tc, tn, zz, h⟩ := h
  obtain ⟨z, hx, hm⟩ := h.ru
  exact ⟨_, _, fun E => cX_stand l E σ n h.1.1.2.1 h.1.1.1 z hx qq w, fun E => cM_stand l E τ z n h.1.1.2.2 h.1.1.1 hm qq w, fun r u r2 v p q => ⟨p.1.trans (Eq.trans (standF_cg h.1.2.1 h.1.2.2.1 z qq w) q.1.symm), n, tc, tn, zz, h.q p.2 q.2⟩⟩
theorem st_setting (l : Launch) {σ τ : mw_M} (h : RX σ τ) (w : Int32) : stI l σ τ yX11_setting cX11_setting 5 (rmF 7 202) yX12_setting cX12_setting 9 (rmF 47 1041) [.int w] := by
  obtain ⟨n, tc, tn, zz, h⟩ := h
  obtain ⟨z, hx, hm⟩ := h.ru
  exact ⟨_, _, fun E => cX_setting l E σ n h.1.1.2.1 h.1.1.1 z hx w, fun E => cM_setting l E τ z n h.1.1.2.2 h.1.1.1 hm w, fun r u r2 v p q => ⟨p.1.trans (Eq.trans (setF_cg h.1.2.1 h.1.2.2.1 z w) q.1.symm), n, tc, tn, zz, h.q p.2 q.2⟩⟩
theorem st_sendAway (l : Launch) {σ τ : mw_M} (h : RX σ τ) (w : Int32) : stI l σ τ yX11_sendAway cX11_sendAway 4 (rmF 7 202) yX12_sendAway cX12_sendAway 7 (rmF 47 1041) [.int w] := by
  obtain ⟨n, tc, tn, zz, h⟩ := h
  obtain ⟨z, hx, hm⟩ := h.ru
  exact ⟨_, _, fun E => cX_sendAway l E σ n h.1.1.2.1 h.1.1.1 z hx w, fun E => cM_sendAway l E τ z n h.1.1.2.2 h.1.1.1 hm w, fun r u r2 v p q => ⟨p.1.trans (Eq.trans (sendF_cg h.1.2.1 h.1.2.2.1 z w) q.1.symm), n, tc, tn, zz, h.q p.2 q.2⟩⟩
theorem st_lost (l : Launch) {σ τ : mw_M} (h : RX σ τ) (vv : Int32) : stI l σ τ yX11_lost cX11_lost 4 (rmF 6 179) yX12_lost cX12_lost 5 (rmF 46 1019) [.int vv] := by
  obtain ⟨n, tc, tn, zz, h⟩ := h
  obtain ⟨z, hx, hm⟩ := h.ru
  exact ⟨_, _, fun E => cX_lost l E σ n h.1.1.2.1 h.1.1.1 z hx vv, fun E => cM_lost l E τ z n h.1.1.2.2 h.1.1.1 hm vv, fun r u r2 v p q => ⟨p.1.trans (Eq.trans (lostF_cg h.1.2.1 h.1.2.2.1 z vv) q.1.symm), n, tc, tn, zz, h.q p.2 q.2⟩⟩
theorem st_tells (l : Launch) {σ τ : mw_M} (h : RX σ τ) (ss oo ww : Int32) : stI l σ τ yX11_tells cX11_tells 6 (rmF 7 206) yX12_tells cX12_tells 11 (rmF 47 1041) [.int ss, .int oo, .int ww] := by
  obtain ⟨n, tc, tn, zz, h⟩ := h
  obtain ⟨z, hx, hm⟩ := h.ru
  by_cases hw : 0 ≤ ww.toInt ∧ ww.toInt ≤ 7
  · obtain ⟨k, hk, rfl⟩ := nI_ofI (k := 7) hw.1 hw.2
    match k, hk with
    | 0, _ => exact ⟨_, _, fun E => cX_tells0 l E σ n h.1.1.2.1 h.1.1.1 z hx h.xs ss oo, fun E => cM_tells0 l E τ z n h.1.1.2.2 h.1.1.1 hm h.ms ss oo, fun r u r2 v p q => ⟨p.1.trans (Eq.trans (tl_cg h (fun ho m m1 m2 m3 m4 => by rw [m2, m3, nI_clamp (by omega)]; exact fo_cg h.1.2.1 (h.1.2.2.1 _ (lt_of_clamp ho)) z m4)) q.1.symm), n, tc, tn, zz, h.q p.2 q.2⟩⟩
    | 1, _ => exact ⟨_, _, fun E => cX_tells1 l E σ n h.1.1.2.1 h.1.1.1 z hx h.xs ss oo, fun E => cM_tells1 l E τ z n h.1.1.2.2 h.1.1.1 hm h.ms ss oo, fun r u r2 v p q => ⟨p.1.trans (Eq.trans (tl_cg h (fun ho m m1 m2 m3 m4 => by rw [m2, m3, nI_clamp (by omega)]; exact tp_cg (fun v => okF_cg h.1.2.1 (eS.up (h.1.2.2.1 _ (lt_of_clamp ho)) 0 _) z m4) _ _ _)) q.1.symm), n, tc, tn, zz, h.q p.2 q.2⟩⟩
    | 2, _ => exact ⟨_, _, fun E => cX_tells2 l E σ n h.1.1.2.1 h.1.1.1 z hx h.xs ss oo, fun E => cM_tells2 l E τ z n h.1.1.2.2 h.1.1.1 hm h.ms ss oo, fun r u r2 v p q => ⟨p.1.trans (Eq.trans (tl_cg h (fun ho m m1 m2 m3 m4 => by rw [m2, m3, nI_clamp (by omega)]; exact tp_cg (fun v => okF_cg h.1.2.1 (eS.up (h.1.2.2.1 _ (lt_of_clamp ho)) 1 _) z m4) _ _ _)) q.1.symm), n, tc, tn, zz, h.q p.2 q.2⟩⟩
    | 3, _ => exact ⟨_, _, fun E => cX_tells3 l E σ n h.1.1.2.1 h.1.1.1 z hx h.xs ss oo, fun E => cM_tells3 l E τ z n h.1.1.2.2 h.1.1.1 hm h.ms ss oo, fun r u r2 v p q => ⟨p.1.trans (Eq.trans (tl_cg h (fun ho m m1 m2 m3 m4 => by rw [m2, m3, nI_clamp (by omega)]; exact tp_cg (fun v => okF_cg h.1.2.1 (eS.up (h.1.2.2.1 _ (lt_of_clamp ho)) 3 _) z m4) _ _ _)) q.1.symm), n, tc, tn, zz, h.q p.2 q.2⟩⟩
    | 4, _ => exact ⟨_, _, fun E => cX_tells4 l E σ n h.1.1.2.1 h.1.1.1 z hx h.xs ss oo, fun E => cM_tells4 l E τ z n h.1.1.2.2 h.1.1.1 hm h.ms ss oo, fun r u r2 v p q => ⟨p.1.trans (Eq.trans (tl_cg h (fun ho m m1 m2 m3 m4 => by rw [m2, m3, nI_clamp (by omega)]; exact tp_cg (fun v => okF_cg h.1.2.1 (eS.up (h.1.2.2.1 _ (lt_of_clamp ho)) 3 _) z m4) _ _ _)) q.1.symm), n, tc, tn, zz, h.q p.2 q.2⟩⟩
    | 5, _ => exact ⟨_, _, fun E => cX_tells5 l E σ n h.1.1.2.1 h.1.1.1 z hx h.xs ss oo, fun E => cM_tells5 l E τ z n h.1.1.2.2 h.1.1.1 hm h.ms ss oo, fun r u r2 v p q => ⟨p.1.trans (Eq.trans (tl_cg h (fun ho m m1 m2 m3 m4 => by rw [m2, m3, nI_clamp (by omega)]; exact tp_cg (fun v => okF_cg h.1.2.1 (eS.up (h.1.2.2.1 _ (lt_of_clamp ho)) 2 _) z m4) _ _ _)) q.1.symm), n, tc, tn, zz, h.q p.2 q.2⟩⟩
    | 6, _ => exact ⟨_, _, fun E => cX_tells6 l E σ n h.1.1.2.1 h.1.1.1 z hx h.xs ss oo, fun E => cM_tells6 l E τ z n h.1.1.2.2 h.1.1.1 hm h.ms ss oo, fun r u r2 v p q => ⟨p.1.trans (Eq.trans (tl_cg h (fun ho m m1 m2 m3 m4 => by rw [m2, m3, nI_clamp (by omega)]; exact tp_cg (fun v => okF_cg (eS.up h.1.2.1 1 _) (h.1.2.2.1 _ (lt_of_clamp ho)) z m4) _ _ _)) q.1.symm), n, tc, tn, zz, h.q p.2 q.2⟩⟩
    | 7, _ => exact ⟨_, _, fun E => cX_tells7 l E σ n h.1.1.2.1 h.1.1.1 tc h.2.1.1.2.1 h.2.1.1.1.1 h.2.1.1.1.2 zz h.2.1.2.1 h.xs ss oo, fun E => cM_tells7 l E τ n h.1.1.2.2 h.1.1.1 tc h.2.1.1.2.2 h.2.1.1.1.2 zz h.2.1.2.2 h.ms ss oo, fun r u r2 v p q => ⟨p.1.trans (Eq.trans (tl_cg h (fun ho m m1 m2 m3 m4 => by rw [m2, m3, nI_clamp (by omega)]; exact tp_cg (fun v => okF_cg h.1.2.1 (h.1.2.2.1 _ (lt_of_clamp ho)) (zz v) m4) _ _ _)) q.1.symm), n, tc, tn, zz, h.q p.2 q.2⟩⟩
    | k + 8, hk => exact absurd hk (by omega)
  · exact ⟨_, _, fun E => cX_tellsB l E σ n h.1.1.2.1 h.1.1.1 ss oo ww hw, fun E => cM_tellsB l E τ n h.1.1.2.2 h.1.1.1 ss oo ww hw, fun r u r2 v p q => ⟨p.1.trans q.1.symm, n, tc, tn, zz, h.q p.2 q.2⟩⟩
theorem st_film (l : Launch) {σ τ : mw_M} (h : RX σ τ) (ss oo m1 : Int32) : stI l σ τ yX11_film cX11_film 5 (rmF 5 155) yX12_film cX12_film 6 (rmF 44 976) [.int ss, .int oo, .int m1] := by
  obtain ⟨n, tc, tn, zz, h⟩ := h
  obtain ⟨z, hx, hm⟩ := h.ru
  refine ⟨_, _, fun E => cX_film l E σ n h.1.1.2.1 h.1.1.1 z hx ss oo m1, fun E => cM_film l E τ z n h.1.1.2.2 h.1.1.1 hm ss oo m1, fun r u r2 v p q => ?_⟩
  obtain ⟨a, b⟩ := op_film h z p q
  exact ⟨a, n, tc, tn, zz, b⟩
theorem st_sell (l : Launch) {σ τ : mw_M} (h : RX σ τ) (seed : Int32) : stI l σ τ yX11_sell cX11_sell 2 (rmF 6 183) yX12_sell cX12_sell 2 (rmF 45 1001) [.int seed] := by
  obtain ⟨n, tc, tn, zz, h⟩ := h
  obtain ⟨z, hx, hm⟩ := h.ru
  exact ⟨_, _, fun E => cX_sell l E σ n h.1.1.2.1 h.1.1.1 z hx seed, fun E => cM_sell l E τ z n h.1.1.2.2 h.1.1.1 hm seed, fun r u r2 v p q => ⟨p.1.trans (Eq.trans (sdS_c2 h.1.2.1 h.1.2.2.1 z seed) q.1.symm), n, tc, tn, zz, op_sell h z seed p.2 q.2⟩⟩
theorem st_chance (l : Launch) {σ τ : mw_M} (h : RX σ τ) (seed m1 kk w : Int32) : stL l σ τ yX11_chance cX11_chance 7 (rmF 6 183) yX12_chance cX12_chance 9 (rmF 45 1001) [.int seed, .int m1, .int kk, .int w] := by
  obtain ⟨n, tc, tn, zz, h⟩ := h
  obtain ⟨z, hx, hm⟩ := h.ru
  have hbt : ∀ p, p < n → 0 ≤ (τ.2.1 6 (4 * p + 3)).toInt ∧ (τ.2.1 6 (4 * p + 3)).toInt ≤ 999 := fun p hp => by
    have e4 := h.1.2.2.1 p hp 4 (by decide)
    unfold mCu at e4
    rw [if_neg (by decide)] at e4
    have e4 : cuX σ 0 p 4 = τ.2.1 6 (4 * p + 3) := e4
    rw [← e4]
    exact (h.1.2.2.2.2.2 p hp).2.2
  exact ⟨_, _, fun E => cX_chance l E σ n h.1.1.2.1 h.1.1.1 z hx seed m1 kk w, fun E => cM_chance l E τ z n h.1.1.2.2 h.1.1.1 hm hbt seed m1 kk w, fun r u r2 v p q => ⟨p.1.trans (Eq.trans (chaF_cg h.1.2.1 h.1.2.2.1 z seed m1 kk w) q.1.symm), n, tc, tn, zz, h.q p.2 q.2⟩⟩
theorem st_image (l : Launch) {σ τ : mw_M} (h : RX σ τ) : stI l σ τ yX11_image cX11_image 1 (rmF 3 107) yX12_image cX12_image 2 (rmF 0 0) [] := by
  obtain ⟨n, tc, tn, zz, h⟩ := h
  refine ⟨_, _, fun E => cX_image l E σ n h.1.1.2.1 h.1.1.1, fun E => cM_image l E τ, fun r u r2 v p q => ?_⟩
  obtain ⟨p1, w, w1, w2⟩ := p
  refine ⟨p1.trans (h.1.1.2.2.symm.trans q.1.symm), n, tc, tn, zz, ?_⟩
  rw [w2]
  exact op_image h w1 q.2.1 q.2.2.1 q.2.2.2.1 q.2.2.2.2
theorem st_back (l : Launch) {σ τ : mw_M} (h : RX σ τ) : stI l σ τ yX11_back cX11_back 1 (rmF 3 107) yX12_back cX12_back 2 (rmF 0 0) [] := by
  obtain ⟨n, tc, tn, zz, h⟩ := h
  obtain ⟨m, m1, m2⟩ := h.2.2.2.2.1
  refine ⟨_, _, fun E => cX_back l E σ m m2 m1, fun E => cM_back l E τ, fun r u r2 v p q => ?_⟩
  rcases h.2.2.2.2.2 with ⟨d1, d2⟩ | ⟨d1, m', d2, d3, d4, -⟩
  · obtain ⟨p1, p2⟩ := p.1 d1
    obtain ⟨q1, q2⟩ := q.1 d2
    refine ⟨p1.trans q1.symm, n, tc, tn, zz, ?_⟩
    rw [p2, q2]
    exact h
  · have h8 := h.1.1.1
    have hne : ¬ τ.1 0 28 = -1 := by rw [d4]; exact nI_nm1 (by omega)
    obtain ⟨p1, p2⟩ := p.2 d1
    obtain ⟨q1, q2, q3, q4, q5⟩ := q.2 hne
    obtain ⟨a, b⟩ := op_back h d1 m1 m2 p2 q2 q3 q4 q5
    exact ⟨p1.trans (a.trans q1.symm), m, tc, tn, zz, b⟩
theorem st_count (l : Launch) {σ τ : mw_M} (h : RX σ τ) (w : Int32) : stI l σ τ yX11_count cX11_count 2 (rmF 2 86) yX12_count cX12_count 4 (rmF 1 25) [.int w] := by
  obtain ⟨n, tc, tn, zz, h⟩ := h
  obtain ⟨k3, k4, k5⟩ := h.1.2.2.2.2.1
  obtain ⟨t, t1, t2, t3⟩ := h.1.2.2.2.1
  refine ⟨_, _, fun E => cX_count l E σ n h.1.1.2.1 h.1.1.1 k3 k4 k5 w, fun E => cM_count l E τ n h.1.1.2.2 h.1.1.1 w, fun r u r2 v p q => ?_⟩
  obtain ⟨p1, p2⟩ := p
  refine ⟨p1.trans (Eq.trans ?_ q.1.symm), n, tc, tn, zz, ?_⟩
  · rw [h.2.1.1.2.1, h.2.1.1.2.2, h.2.2.1.2.1, h.2.2.1.2.2.1, t2, t3]
    exact countF_cg h.1.2.1 h.1.2.2.1 _ _ _ w
  · rw [p2]
    exact h.q (xQs.rf _) q.2
theorem st_sheet (l : Launch) {σ τ : mw_M} (h : RX σ τ) (ss so nn : Int32) : stI l σ τ yX11_sheet cX11_sheet 4 (rmF 4 129) yX12_sheet cX12_sheet 5 (rmF 2 45) [.int ss, .int so, .int nn] := by
  obtain ⟨n, tc, tn, zz, h⟩ := h
  refine ⟨_, _, fun E => cX_sheet l E σ ss so nn, fun E => cM_sheet l E τ ss so nn, fun r u r2 v p q => ?_⟩
  obtain ⟨a, b⟩ := op_sheet h p q
  exact ⟨a, n, tc, tn, zz, b⟩
theorem st_cell (l : Launch) {σ τ : mw_M} (h : RX σ τ) (ss ii vv : Int32) : stI l σ τ yX11_cell cX11_cell 5 (rmF 3 108) yX12_cell cX12_cell 4 (rmF 2 45) [.int ss, .int ii, .int vv] := by
  obtain ⟨n, tc, tn, zz, h⟩ := h
  refine ⟨_, _, fun E => cX_cell l E σ h.xs ss ii vv, fun E => cM_cell l E τ h.ms ss ii vv, fun r u r2 v p q => ?_⟩
  obtain ⟨a, b⟩ := op_cell h p q
  exact ⟨a, n, tc, tn, zz, b⟩
theorem st_copy (l : Launch) {σ τ : mw_M} (h : RX σ τ) (ss i1 oo j1 n1 : Int32) : stI l σ τ yX11_copy cX11_copy 8 (rmF 2 86) yX12_copy cX12_copy 9 (rmF 2 45) [.int ss, .int i1, .int oo, .int j1, .int n1] := by
  obtain ⟨n, tc, tn, zz, h⟩ := h
  refine ⟨_, _, fun E => cX_copy l E σ h.xs ss i1 oo j1 n1, fun E => cM_copy l E τ h.ms ss i1 oo j1 n1, fun r u r2 v p q => ?_⟩
  obtain ⟨a, b⟩ := op_copy h p q
  exact ⟨a, n, tc, tn, zz, b⟩
theorem st_customers (l : Launch) {σ τ : mw_M} (h : RX σ τ) (ss so a1 m1 : Int32) : stI l σ τ yX11_customers cX11_customers 9 (rmF 3 110) yX12_customers cX12_customers 8 (rmF 2 48) [.int ss, .int so, .int a1, .int m1] := by
  obtain ⟨n, tc, tn, zz, h⟩ := h
  refine ⟨_, _, fun E => cX_customers l E σ n h.1.1.2.1 h.1.1.1 h.xs ss so a1 m1, fun E => cM_customers l E τ n h.1.1.2.2 h.1.1.1 h.ms ss so a1 m1, fun r u r2 v p q => ?_⟩
  obtain ⟨r0, xs, e1, e2, hh⟩ := op_customers h ss so a1 m1
  rw [e1] at p
  rw [e2] at q
  refine ⟨p.1.trans q.1.symm, n + xs.length, tc, tn, zz, ?_⟩
  rw [p.2, q.2]
  exact hh
theorem st_taken (l : Launch) {σ τ : mw_M} (h : RX σ τ) (oo kk : Int32) : stI l σ τ yX11_taken cX11_taken 4 (rmF 2 87) yX12_taken cX12_taken 4 (rmF 2 46) [.int oo, .int kk] := by
  obtain ⟨n, tc, tn, zz, h⟩ := h
  have k1 : ∀ p, p < n → 0 ≤ (cuX σ 0 p 0).toInt ∧ (cuX σ 0 p 0).toInt ≤ 5 := fun p hp => by
    obtain ⟨k, k1, k2⟩ := (h.1.2.2.2.2.2 p hp).1
    rw [k2, nI_toInt (by omega)]
    omega
  have k2 : ∀ p, p < n → 0 ≤ (mCu τ p 0).toInt ∧ (mCu τ p 0).toInt ≤ 5 := fun p hp => by
    rw [← h.1.2.2.1 p hp 0 (by decide)]
    exact k1 p hp
  exact ⟨_, _, fun E => cX_taken l E σ n h.1.1.2.1 h.1.1.1 k1 oo kk, fun E => cM_taken l E τ n h.1.1.2.2 h.1.1.1 k2 oo kk, fun r u r2 v p q => ⟨p.1.trans (Eq.trans (takenF_cg h.1.2.2.1 oo kk) q.1.symm), n, tc, tn, zz, h.q p.2 q.2⟩⟩
