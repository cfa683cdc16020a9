/-! WHAT IS RECKONED RESTS ON FIVE SETTINGS AND FIVE FIELDS OF A CUSTOMER -/
def eS (s t : Nat → Int32) : Prop := ∀ j, j < 5 → s j = t j
def eC (c d : Nat → Nat → Int32) (n : Nat) : Prop := ∀ p, p < n → ∀ f, f < 5 → c p f = d p f
theorem eS.up {s t : Nat → Int32} (h : eS s t) (k : Nat) (v : Int32) : eS (upd s k v) (upd t k v) := fun j hj => by
  unfold upd
  split
  · rfl
  · exact h j hj
theorem evP_cg {s t c d : Nat → Int32} (hs : eS s t) (hc : eS c d) : evP s c = evP t d := by
  funext k
  unfold evP
  rw [hc 2 (by decide), hc 3 (by decide), hc 1 (by decide), hs 2 (by decide), hs 0 (by decide), hs 1 (by decide)]
theorem tellP_cg {s t c d : Nat → Int32} (hs : eS s t) (hc : eS c d) (z : zP) (w : Nat) : tellP z w s c = tellP z w t d := by unfold tellP; rw [evP_cg hs hc]
theorem eatsP_cg {s t c d : Nat → Int32} (hs : eS s t) (hc : eS c d) (z : zP) : eatsP z s c = eatsP z t d := by
  unfold eatsP
  rw [tellP_cg hs hc, hc 0 (by decide), hc 3 (by decide), hs 2 (by decide), hs 1 (by decide)]
theorem triesP_cg {s t c d : Nat → Int32} (hs : eS s t) (hc : eS c d) (z : zP) : triesP z s c = triesP z t d := by
  unfold triesP
  rw [tellP_cg hs hc, hc 0 (by decide), hc 1 (by decide), hs 1 (by decide)]
theorem spendsP_cg {s t c d : Nat → Int32} (hs : eS s t) (hc : eS c d) (z : zP) : spendsP z s c = spendsP z t d := by
  unfold spendsP
  rw [tellP_cg hs hc, hc 0 (by decide), hc 1 (by decide)]
theorem thereP_cg {s t c d : Nat → Int32} (hs : eS s t) (hc : eS c d) : thereP s c ↔ thereP t d := by
  unfold thereP
  rw [hs 3 (by decide), hc 2 (by decide)]
theorem costP_cg {s t c d : Nat → Int32} (hs : eS s t) (hc : eS c d) (z : zP) : costP z s c = costP z t d := by
  unfold costP
  rw [eatsP_cg hs hc, hs 0 (by decide), hs 4 (by decide)]
  simp only [thereP_cg hs hc]
theorem gainP_cg {s t c d : Nat → Int32} (hs : eS s t) (hc : eS c d) (z : zP) : gainP z s c = gainP z t d := by
  unfold gainP
  rw [triesP_cg hs hc, spendsP_cg hs hc, costP_cg hs hc]
  simp only [thereP_cg hs hc]
theorem allGain_cg {s t : Nat → Int32} {c d : Nat → Nat → Int32} {n : Nat} (hs : eS s t) (hc : eC c d n) (z : zP) : allGain z s c n = allGain z t d n := sumP_cg (fun p hp => gainP_cg hs (hc p hp) z)
theorem bsF_cg {k v w : Nat → Int32} : ∀ {n : Nat}, (∀ i, i < n → v i = w i) → bsF k v n = bsF k w n
  | 0, _ => rfl
  | n + 1, h => by
    show stB (bsF k v n) (k n) (v n) = stB (bsF k w n) (k n) (w n)
    rw [bsF_cg (fun i hi => h i (by omega)), h n (by omega)]
theorem csF_cg {x : Int32 × Int32} {k v w : Nat → Int32} : ∀ {n : Nat}, (∀ i, i < n → v i = w i) → csF x k v n = csF x k w n
  | 0, _ => rfl
  | n + 1, h => by
    show stC (csF x k v n) (k n) (v n) = stC (csF x k w n) (k n) (w n)
    rw [csF_cg (fun i hi => h i (by omega)), h n (by omega)]
theorem eatenF_cg {s t : Nat → Int32} {c d : Nat → Nat → Int32} {n : Nat} (hs : eS s t) (hc : eC c d n) (z : zP) (h : Int32) : eatenF z s c n h = eatenF z t d n h := sumP_cg (fun p hp => by
  simp only [thereP_cg hs (hc p hp), hc p hp 2 (by decide), eatsP_cg hs (hc p hp)])
theorem crowdF_cg {s t : Nat → Int32} {c d : Nat → Nat → Int32} {n : Nat} (hs : eS s t) (hc : eC c d n) (z : zP) : crowdF z s c n = crowdF z t d n := by
  unfold crowdF
  rw [csF_cg (fun i _ => eatenF_cg hs hc z (nI i))]
theorem bd1_cg {s t : Nat → Int32} {c d : Nat → Nat → Int32} {n : Nat} (hs : eS s t) (hc : eC c d n) (z : zP) : sumP (bd1 z s c) n = sumP (bd1 z t d) n := sumP_cg (fun p hp => by unfold bd1; simp only [thereP_cg hs (hc p hp), eatsP_cg hs (hc p hp)])
theorem bd2_cg {s t : Nat → Int32} {c d : Nat → Nat → Int32} {n : Nat} (hs : eS s t) (hc : eC c d n) (z : zP) : sumP (bd2 z s c) n = sumP (bd2 z t d) n := sumP_cg (fun p hp => costP_cg hs (hc p hp) z)
theorem bI_cg {P Q : Prop} [Decidable P] [Decidable Q] (h : P ↔ Q) : bI P = bI Q := by
  by_cases p : P
  · rw [bI_t p, bI_t (h.mp p)]
  · rw [bI_f p, bI_f (fun q => p (h.mpr q))]
theorem bd3_cg {s t : Nat → Int32} {c d : Nat → Nat → Int32} {n : Nat} (hs : eS s t) (hc : eC c d n) (z : zP) : orP (bd3 z s c) n = orP (bd3 z t d) n := orP_cg (fun p hp => by
  unfold bd3
  simp only [thereP_cg hs (hc p hp), eatsP_cg hs (hc p hp), triesP_cg hs (hc p hp)])
theorem bd5_cg {s t : Nat → Int32} {c d : Nat → Nat → Int32} {n : Nat} (hs : eS s t) (hc : eC c d n) : orP (bd5 s c) n = orP (bd5 t d) n := orP_cg (fun p hp => by
  unfold bd5
  simp only [thereP_cg hs (hc p hp)])
theorem boardF_cg {s t : Nat → Int32} {c d : Nat → Nat → Int32} {n : Nat} (hs : eS s t) (hc : eC c d n) (z : zP) (w : Int32) : boardF z s c n w = boardF z t d n w := by
  unfold boardF
  rw [allGain_cg hs hc, crowdF_cg hs hc, bd1_cg hs hc, bd2_cg hs hc, bd3_cg hs hc, bd5_cg hs hc]
theorem hourF_cg {s t : Nat → Int32} {c d : Nat → Nat → Int32} {n : Nat} (hs : eS s t) (hc : eC c d n) (z : zP) (h w : Int32) : hourF z s c n h w = hourF z t d n h w := by
  unfold hourF
  rw [eatenF_cg hs hc, orP_cg (f := hour1 s c h) (g := hour1 t d h) (fun p hp => by unfold hour1; rw [bI_cg (Q := thereP t (d p) ∧ d p 2 = h) (by rw [thereP_cg hs (hc p hp), hc p hp 2 (by decide)])])]
theorem bestF_cg {s t : Nat → Int32} {c d : Nat → Nat → Int32} {n : Nat} (hs : eS s t) (hc : eC c d n) (z : zP) (k lo cnt : Nat) (w : Int32) : bestF z s c n k lo cnt w = bestF z t d n k lo cnt w := by
  unfold bestF bestP
  rw [bsF_cg (fun i _ => allGain_cg (hs.up k (nI (lo + i))) hc z)]
theorem standF_cg {s t : Nat → Int32} {c d : Nat → Nat → Int32} {n : Nat} (hs : eS s t) (hc : eC c d n) (z : zP) (q w : Int32) : standF z s c n q w = standF z t d n q w := by
  unfold standF standP
  rw [bsF_cg (fun i _ => allGain_cg (hs.up 3 (standV q.toNatClampNeg i)) hc z)]
theorem setF_cg {s t : Nat → Int32} {c d : Nat → Nat → Int32} {n : Nat} (hs : eS s t) (hc : eC c d n) (z : zP) (w : Int32) : setF z s c n w = setF z t d n w := by
  unfold setF setP
  rw [bsF_cg (fun i _ => allGain_cg (s := setB s i) (t := setB t i) (((hs.up 0 _).up 1 _).up 2 _) hc z)]
theorem sendF_cg {s t : Nat → Int32} {c d : Nat → Nat → Int32} {n : Nat} (hs : eS s t) (hc : eC c d n) (z : zP) (w : Int32) : sendF z s c n w = sendF z t d n w := by
  unfold sendF sendP
  rw [csF_cg (w := fun p => allGain z t d n - gainP z t (d p)) (fun i hi => by rw [allGain_cg hs hc, gainP_cg hs (hc i hi)]), allGain_cg hs hc]
theorem loF_cg {g h : Nat → Int32} (e : ∀ c, g c = h c) : loF g = loF h := by rw [funext e]
theorem lt_of_clamp {v : Int32} {n : Nat} (h : 0 ≤ v.toInt ∧ v.toInt < n) : v.toNatClampNeg < n := by
  show v.toInt.toNat < n
  omega
theorem lostF_cg {s t : Nat → Int32} {c d : Nat → Nat → Int32} {n : Nat} (hs : eS s t) (hc : eC c d n) (z : zP) (v : Int32) : lostF z s c n v = lostF z t d n v := by
  unfold lostF
  split
  · rfl
  · next h =>
    have hv := lt_of_clamp (Decidable.not_not.mp h)
    rw [loF_cg (fun k => gainP_cg (hs.up 0 (nI k)) (hc _ hv) z)]
theorem toldF_cg {s t : Nat → Int32} {c d : Nat → Nat → Int32} {n : Nat} (hs : eS s t) (hc : eC c d n) (z : zP) (o w : Int32) : toldF z s c n o w = toldF z t d n o w := by
  unfold toldF
  split
  · rfl
  · next h =>
    have h1 : 0 ≤ w.toInt ∧ w.toInt ≤ 15 := Decidable.not_not.mp (fun y => h (Or.inl y))
    have ew : w.toNatClampNeg = w.toInt.toNat := rfl
    unfold tdF
    by_cases h5 : w.toNatClampNeg < 5
    · rw [if_pos h5, if_pos h5, hs _ h5]
    · have ho : 0 ≤ o.toInt ∧ o.toInt < n := Decidable.not_not.mp (fun y => h (Or.inr ⟨by omega, y⟩))
      have hv := hc _ (lt_of_clamp ho)
      rw [if_neg h5, if_neg h5]
      by_cases h8 : w.toNatClampNeg < 8
      · rw [if_pos h8, if_pos h8, hv _ (by omega)]
      · rw [if_neg h8, if_neg h8, hv 0 (by decide), hv 4 (by decide), eatsP_cg hs hv, triesP_cg hs hv, spendsP_cg hs hv, costP_cg hs hv, gainP_cg hs hv, bI_cg (thereP_cg hs hv)]
theorem sdZ_c2 {s t : Nat → Int32} {c d : Nat → Nat → Int32} (hs : eS s t) (seed : Int32) : ∀ {n : Nat}, eC c d n → sdZ s c seed n = sdZ t d seed n
  | 0, _ => rfl
  | n + 1, h => by
    show (if _ then _ else _) = (if _ then _ else _)
    rw [sdZ_c2 hs seed (fun p hp => h p (by omega))]
    simp only [thereP_cg hs (h n (by omega))]
theorem sdB_c2 {s t : Nat → Int32} {c d : Nat → Nat → Int32} {n : Nat} (hs : eS s t) (hc : eC c d n) (z : zP) (seed : Int32) {p : Nat} (hp : p < n) : sdB z s c seed p ↔ sdB z t d seed p := by
  unfold sdB
  rw [sdZ_c2 hs seed (n := p + 1) (fun q hq => hc q (by omega)), triesP_cg hs (hc p hp), thereP_cg hs (hc p hp)]
theorem sdS_c2 {s t : Nat → Int32} {c d : Nat → Nat → Int32} {n : Nat} (hs : eS s t) (hc : eC c d n) (z : zP) (seed : Int32) : sdS z s c seed n = sdS z t d seed n := sumP_cg (fun p hp => by
  simp only [sdB_c2 hs hc z seed hp, spendsP_cg hs (hc p hp)])
theorem chaF_cg {s t : Nat → Int32} {c d : Nat → Nat → Int32} {n : Nat} (hs : eS s t) (hc : eC c d n) (z : zP) (seed m k w : Int32) : chaF z s c n seed m k w = chaF z t d n seed m k w := by
  unfold chaF chaA
  rw [show (fun t_1 => sdS z s c (seed + nI t_1) n) = (fun t_1 => sdS z t d (seed + nI t_1) n) from funext fun i => sdS_c2 hs hc z _]
theorem countF_cg {s t : Nat → Int32} {c d : Nat → Nat → Int32} {n : Nat} (hs : eS s t) (hc : eC c d n) (x y v w : Int32) : countF s c n x y v w = countF t d n x y v w := by
  unfold countF hoursF
  rw [hs 3 (by decide), sumP_cg (f := fun p => c p 4) (g := fun p => d p 4) (fun p hp => hc p hp 4 (by decide))]
theorem takenF_cg {c d : Nat → Nat → Int32} {n : Nat} (hc : eC c d n) (o k : Int32) : takenF c n o k = takenF d n o k := by
  unfold takenF
  split
  · rfl
  · split
    · rfl
    · next h =>
      have hv := hc _ (lt_of_clamp (Decidable.not_not.mp h))
      rw [hv 0 (by decide), hv 1 (by decide)]
theorem buysP_cg {s t c d : Nat → Int32} (hs : eS s t) (hc : eS c d) (z : zP) : buysP z s c ↔ buysP z t d := by
  unfold buysP
  rw [thereP_cg hs hc, triesP_cg hs hc]
theorem tbP_cg {s t : Nat → Int32} {c d : Nat → Nat → Int32} {n : Nat} (hs : eS s t) (hc : eC c d n) (z : zP) {p : Nat} (hp : p < n) : tbP z s c p = tbP z t d p ∧ sbP z s c p = sbP z t d p ∧ t1P z s c p = t1P z t d p := by
  unfold tbP sbP t1P tnP snP
  by_cases hb : buysP z s (c p)
  · have hb2 := (buysP_cg hs (hc p hp) z).mp hb
    rw [if_pos hb, if_pos hb2, if_pos hb, if_pos hb2, if_pos hb, if_pos hb2, triesP_cg hs (hc p hp), spendsP_cg hs (hc p hp)]
    exact ⟨rfl, rfl, rfl⟩
  · have hb2 := (not_congr (buysP_cg hs (hc p hp) z)).mp hb
    rw [if_neg hb, if_neg hb2, if_neg hb, if_neg hb2, if_neg hb, if_neg hb2]
    exact ⟨rfl, rfl, rfl⟩
theorem lcF_cg {f g : Nat → Nat} : ∀ {n : Nat}, (∀ p, p < n → f p = g p) → lcF f n = lcF g n
  | 0, _ => rfl
  | n + 1, h => by
    show lcF f n * (f n / _) = lcF g n * (g n / _)
    rw [lcF_cg (fun p hp => h p (by omega)), h n (by omega)]
theorem abF_cg {s t f g : Nat → Nat} {L : Nat} : ∀ {n : Nat}, (∀ p, p < n → s p = t p ∧ f p = g p) → abF s f L n = abF t g L n
  | 0, _ => rfl
  | n + 1, h => by
    show abF s f L n + s n * (L / f n) = abF t g L n + t n * (L / g n)
    rw [abF_cg (fun p hp => h p (by omega)), (h n (by omega)).1, (h n (by omega)).2]
theorem prF_cg {f g : Nat → Nat} : ∀ {n : Nat}, (∀ p, p < n → f p = g p) → prF f n = prF g n
  | 0, _ => rfl
  | n + 1, h => by
    show prF f n * f n = prF g n * g n
    rw [prF_cg (fun p hp => h p (by omega)), h n (by omega)]
theorem fairF_cg {s t : Nat → Int32} {c d : Nat → Nat → Int32} {n : Nat} (hs : eS s t) (hc : eC c d n) (z : zP) (w : Int32) : fairF z s c n w = fairF z t d n w := by
  unfold fairF fairA fairL
  rw [lcF_cg (fun p hp => (tbP_cg hs hc z hp).1), abF_cg (fun p hp => ⟨(tbP_cg hs hc z hp).2.1, (tbP_cg hs hc z hp).1⟩)]
theorem oneF_cg {s t : Nat → Int32} {c d : Nat → Nat → Int32} {n : Nat} (hs : eS s t) (hc : eC c d n) (z : zP) (w : Int32) : oneF z s c n w = oneF z t d n w := by
  unfold oneF
  rw [prF_cg (f := tbP z s c) (fun p hp => (tbP_cg hs hc z hp).1), prF_cg (f := t1P z s c) (fun p hp => (tbP_cg hs hc z hp).2.2)]
theorem foF_c2 {e f a b : Nat → Int32} : ∀ (m k : Nat), (∀ i, k ≤ i → i < k + m → e i = f i ∧ a i = b i) → foF e a m k = foF f b m k
  | 0, _, _ => rfl
  | m + 1, k, h => by
    show (if _ then _ else _) = (if _ then _ else _)
    rw [(h k (Nat.le_refl k) (by omega)).1, (h k (Nat.le_refl k) (by omega)).2, foF_c2 m (k + 1) (fun i h1 h2 => h i (by omega) (by omega))]
theorem fo_cg {s t c d a b : Nat → Int32} (hs : eS s t) (hc : eS c d) (z : zP) {m : Nat} (ha : ∀ i, i < m → a i = b i) : foF (fun k => eatsP z (upd s 0 (nI (k + 1))) c) a m 0 = foF (fun k => eatsP z (upd t 0 (nI (k + 1))) d) b m 0 :=
  foF_c2 m 0 (fun i _ hi => ⟨eatsP_cg (hs.up 0 _) hc z, ha i (by omega)⟩)
theorem okF_cg {s t c d a b : Nat → Int32} (hs : eS s t) (hc : eS c d) (z : zP) {m : Nat} (ha : ∀ i, i < m → a i = b i) : okF z s c a m = okF z t d b m := by
  unfold okF
  rw [fo_cg hs hc z ha]
