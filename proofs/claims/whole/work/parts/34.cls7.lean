/-! THE CLASS: its log; a change noted -/
/-- two tables of the class that are alike as far as the nodes made up to B go -/
def CTE (B : Nat) (c' c : CT) : Prop := (∀ n, n ≤ 24 → c'.1 n = c.1 n) ∧ c'.2.1 = c.2.1 ∧ (∀ o, 1 ≤ o → o ≤ B → ∀ j, j < 4 → c'.2.2.1 o j = c.2.2.1 o j) ∧ (∀ o, 1 ≤ o → o ≤ B → ∀ i, i < 32 → c'.2.2.2 o i = c.2.2.2 o i)
theorem CTR.cg {B B' : Nat} {c c' : CT} {t : Tb} (h : CTR B c t) (e : CTE B c' c) (hB : B ≤ B') : CTR B' c' t := by
  refine ⟨e.2.1.trans h.1, fun n hn => ?_⟩
  obtain ⟨a1, a2, a3⟩ := h.2 n hn
  have en := e.1 n hn
  rw [en]
  refine ⟨Nat.le_trans a1 hB, a2, fun ht => ?_⟩
  obtain ⟨f0, f1, f2, f3, f4⟩ := a3 ht
  have h1 : 1 ≤ c.1 n := Nat.pos_of_ne_zero (a2.mpr ht)
  have g := e.2.2.1 (c.1 n) h1 a1
  exact ⟨(g 0 (by decide)).trans f0, (g 1 (by decide)).trans f1, (g 2 (by decide)).trans f2, (g 3 (by decide)).trans f3, fun hf i hi => (e.2.2.2 _ h1 a1 i hi).trans (f4 hf i hi)⟩
theorem rcOk.cg {B B' : Nat} {r : RC} {c c' : CT} (h : rcOk B r c) (e : CTE B c' c) (hB : B ≤ B') : rcOk B' r c' := by
  obtain ⟨a1, a2, ⟨n, n1, n2⟩, a4⟩ := h
  have g := e.2.2.1 r.2.1 a1 a2
  refine ⟨a1, Nat.le_trans a2 hB, ⟨n, n1, (g 0 (by decide)).trans n2⟩, ?_⟩
  rcases a4 with h | h | h | ⟨h, h2, h3⟩
  · exact Or.inl h
  · exact Or.inr (Or.inl h)
  · exact Or.inr (Or.inr (Or.inl h))
  · exact Or.inr (Or.inr (Or.inr ⟨h, (g 1 (by decide)).trans h2, h3⟩))
theorem und.cg {B : Nat} {r : RC} {c c' : CT} (h : rcOk B r c) (e : CTE B c' c) : CTE B (und r c') (und r c) := by
  obtain ⟨a1, a2, -, -⟩ := h
  have g := e.2.2.1 r.2.1 a1 a2 0 (by decide)
  unfold und
  split
  · rw [g]
    refine ⟨fun n hn => ?_, by show c'.2.1 - 1 = c.2.1 - 1; rw [e.2.1], e.2.2.1, e.2.2.2⟩
    show uf c'.1 _ 0 n = uf c.1 _ 0 n
    unfold uf
    rw [e.1 n hn]
  · split
    · rw [g]
      refine ⟨fun n hn => ?_, e.2.1, e.2.2.1, e.2.2.2⟩
      show uf c'.1 _ _ n = uf c.1 _ _ n
      unfold uf
      rw [e.1 n hn]
    · split
      · refine ⟨e.1, e.2.1, fun o h1 h2 j hj => ?_, e.2.2.2⟩
        show (if o = r.2.1 ∧ j = 2 then r.2.2.1 else if o = r.2.1 ∧ j = 3 then r.2.2.2 else c'.2.2.1 o j) = if o = r.2.1 ∧ j = 2 then r.2.2.1 else if o = r.2.1 ∧ j = 3 then r.2.2.2 else c.2.2.1 o j
        rw [e.2.2.1 o h1 h2 j hj]
      · refine ⟨e.1, e.2.1, e.2.2.1, fun o h1 h2 i hi => ?_⟩
        show (if o = r.2.1 ∧ i = r.2.2.1.toNatClampNeg then r.2.2.2 else c'.2.2.2 o i) = if o = r.2.1 ∧ i = r.2.2.1.toNatClampNeg then r.2.2.2 else c.2.2.2 o i
        rw [e.2.2.2 o h1 h2 i hi]
theorem UG.cg {B B' : Nat} {rc rc' : Nat → RC} {lg lg' : Nat → Ch} {u : Nat} : ∀ {j : Nat} {c c' : CT}, UG B rc lg u j c → CTE B c' c → B ≤ B' → (∀ i, i < j → rc' i = rc i) → (∀ k, k < u + j → lg k = lg' k) → UG B' rc' lg' u j c' := by
  intro j
  induction j with
  | zero =>
    intro c c' h e hB hr hl
    have := CTR.cg (t := rep lg u) h e hB
    show CTR B' c' (rep lg' u)
    rw [← rep_congr (lg := lg) (lg' := lg') (fun k hk => hl k (by omega))]
    exact this
  | succ j ih =>
    intro c c' h e hB hr hl
    obtain ⟨h1, h2, h3⟩ := h
    refine ⟨?_, ?_, ?_⟩
    · rw [← rep_congr (lg := lg) (lg' := lg') (fun k hk => hl k (by omega))]
      exact h1.cg e hB
    · rw [hr j (Nat.lt_succ_self j)]; exact h2.cg e hB
    · rw [hr j (Nat.lt_succ_self j)]
      exact ih h3 (und.cg h2 e) hB (fun i hi => hr i (by omega)) (fun k hk => hl k (by omega))
theorem CTE.rf {B : Nat} {c : CT} : CTE B c c := ⟨fun _ _ => rfl, rfl, fun _ _ _ _ _ => rfl, fun _ _ _ _ _ => rfl⟩
/-- the log after a change -/
theorem LGC.add {w wf : WW} {m : MS} {c : Ch} (hL : LGC w m) (hu : mU m ≤ mN m ∧ mN m ≤ mU m + 5)
    (e1 : mN m + 1 - mU m = 6 → wI wf 6 1 1 = 0 ∧ wI wf 6 1 2 = nI (mN m + 1)) (e1' : mN m + 1 - mU m ≠ 6 → wI wf 6 1 1 = nI (mN m + 1 - mU m) ∧ wI wf 6 1 2 = nI (mU m))
    (e2 : wC w 5 + 1 ≤ wC wf 5) (e3 : ∀ i, i < mN m - mU m → wR wf 105 1 i = wR w 105 1 i) (e3' : ∀ i, i < mN m - mU m → rcW wf i = rcW w i) (e4 : wR wf 105 1 (mN m - mU m) = wC w 5 + 1) (e5 : wC w 1 ≤ wC wf 1)
    (t : CTR (wC wf 1) (ctW wf) (app c (mT m))) (ok : rcOk (wC wf 1) (rcW wf (mN m - mU m)) (ctW wf)) (un : CTE (wC w 1) (und (rcW wf (mN m - mU m)) (ctW wf)) (ctW w)) : LGC wf (noteM m c) := by
  obtain ⟨l1, l2, l3, l4⟩ := hL
  by_cases h6 : mN m + 1 - mU m = 6
  · have eU : mU (noteM m c) = mN m + 1 := if_pos h6
    have eN : mN (noteM m c) = mN m + 1 := rfl
    unfold LGC
    rw [eU, eN, Nat.sub_self]
    refine ⟨(e1 h6).1, (e1 h6).2, fun i hi => absurd hi (Nat.not_lt_zero i), ?_⟩
    show CTR _ _ (mT (noteM m c))
    rw [mT_note]
    exact t
  · have eU : mU (noteM m c) = mU m := if_neg h6
    have eN : mN (noteM m c) = mN m + 1 := rfl
    unfold LGC
    rw [eU, eN, show mN m + 1 - mU m = (mN m - mU m) + 1 by omega]
    refine ⟨by rw [(e1' h6).1]; congr 1; omega, (e1' h6).2, fun i hi => ?_, ?_, ok, ?_⟩
    · by_cases q : i < mN m - mU m
      · rw [e3 i q]; exact ⟨(l3 i q).1, by have := (l3 i q).2; omega⟩
      · have : i = mN m - mU m := by omega
        rw [this, e4]; omega
    · rw [show mU m + ((mN m - mU m) + 1) = mN m + 1 by omega]
      show CTR _ _ (mT (noteM m c))
      rw [mT_note]
      exact t
    · refine l4.cg un e5 e3' (fun k hk => ?_)
      show mG m k = uf (mG m) (mN m) c k
      rw [uf_n _ _ (by omega)]
/-- all but the log and the table -/
def CY (w : WW) (m : MS) : Prop := SSt w ∧ NST w ∧ DC w m ∧ KC w m ∧ HC w m ∧ QC w m ∧ wI w 0 1 8 = mS m
theorem CR.cx {w : WW} {m : MS} (h : CR w m) : CY w m := ⟨h.1, h.2.1, h.2.2.2⟩
theorem CY.cr {w : WW} {m : MS} (h : CY w m) (l : LGC w m) : CR w m := ⟨h.1, h.2.1, l, h.2.2⟩
/-- a change made and put into the log -/
def ntW (w : WW) (j u o : Nat) (k a b : Int32) : WW := lgW (cgW (nO w 5 4) (wC w 5 + 1) o k a b) j u (wC w 5 + 1)
theorem CY.nt {w : WW} {m : MS} (h : CY w m) (j u o : Nat) (k a b : Int32) : CY (ntW w j u o k a b) m := by
  unfold ntW lgW
  split
  · exact h
  · exact h
theorem fc_nt0 {w : WW} (j u o : Nat) (k a b : Int32) : FC0 w (ntW w j u o k a b) := by
  unfold ntW lgW cgW
  have h5 : (5 : Nat) ≠ 7 ∧ 5 ≠ 99 ∧ 5 < 110 := by decide
  have h6 : (6 : Nat) ≠ 7 ∧ 6 ≠ 99 ∧ 6 < 110 := by decide
  have h1 : (105 : Nat) ≠ 7 ∧ 105 ≠ 99 ∧ 105 < 110 := by decide
  have b : FC0 w (sR (sI (sI (sR (sI (nO w 5 4) 5 (wC w 5 + 1) 0 k) 5 (wC w 5 + 1) 1 o) 5 (wC w 5 + 1) 2 a) 5 (wC w 5 + 1) 3 b) 105 1 j (wC w 5 + 1)) := ((((((FC0.nO h5).tr (FC0.sI h5)).tr (FC0.sR h5)).tr (FC0.sI h5)).tr (FC0.sI h5)).tr (FC0.sR h1))
  split
  · exact ((b.tr (FC0.sI h6)).tr (FC0.sI h6)).tr (FC0.sI h6)
  · exact b.tr (FC0.sI h6)
theorem gn_nt (w : WW) (j u o : Nat) (k a b : Int32) : GN 0 0 1 w (ntW w j u o k a b) := by
  unfold ntW lgW
  split <;> exact ⟨rfl, rfl, rfl, rfl, fun k h => by show (if k = 5 then _ else wC w k) = wC w k; rw [if_neg (by omega)]⟩
theorem fc_nt {w : WW} (j u o : Nat) (k a b : Int32) : FC 1 w (ntW w j u o k a b) := by
  obtain ⟨g1, g2, g3, g4, g5⟩ := gn_nt w j u o k a b
  exact ⟨fc_nt0 j u o k a b, by omega, by omega, g5⟩
/-- the facts of a world in which a change was noted -/
theorem nt_facts {w : WW} {m : MS} (l2 : wI w 6 1 2 = nI (mU m)) (l3 : ∀ i, i < mN m - mU m → wR w 105 1 i ≠ 0 ∧ wR w 105 1 i ≤ wC w 5) (hu : mU m ≤ mN m ∧ mN m ≤ mU m + 5) {o : Nat} {k a b : Int32} {wf : WW} (hf : wf = ntW w (mN m - mU m) (mU m) o k a b) :
    (mN m + 1 - mU m = 6 → wI wf 6 1 1 = 0 ∧ wI wf 6 1 2 = nI (mN m + 1)) ∧ (mN m + 1 - mU m ≠ 6 → wI wf 6 1 1 = nI (mN m + 1 - mU m) ∧ wI wf 6 1 2 = nI (mU m)) ∧ wC wf 5 = wC w 5 + 1 ∧ (∀ i, i < mN m - mU m → wR wf 105 1 i = wR w 105 1 i) ∧ (∀ i, i < mN m - mU m → rcW wf i = rcW w i) ∧ wR wf 105 1 (mN m - mU m) = wC w 5 + 1 ∧ wC wf 1 = wC w 1 ∧ rcW wf (mN m - mU m) = (k, o, a, b) ∧ ctW wf = ctW w := by
  have gen : ∀ wg : WW, (∀ i, wR wg 105 1 i = if i = mN m - mU m then wC w 5 + 1 else wR w 105 1 i) → (∀ c j, wI wg 5 c j = if c = wC w 5 + 1 then (if j = 0 then k else if j = 2 then a else if j = 3 then b else wI w 5 c j) else wI w 5 c j) → (∀ c, wR wg 5 c 1 = if c = wC w 5 + 1 then o else wR w 5 c 1) → (∀ i, i < mN m - mU m → wR wg 105 1 i = wR w 105 1 i) ∧ (∀ i, i < mN m - mU m → rcW wg i = rcW w i) ∧ wR wg 105 1 (mN m - mU m) = wC w 5 + 1 ∧ rcW wg (mN m - mU m) = (k, o, a, b) := by
    intro wg g1 g2 g3
    have g4 : ∀ i, i < mN m - mU m → wR wg 105 1 i = wR w 105 1 i := fun i hi => by rw [g1, if_neg (by omega)]
    refine ⟨g4, fun i hi => ?_, by rw [g1, if_pos rfl], ?_⟩
    · have hc := (l3 i hi).2
      unfold rcW
      rw [g4 i hi, g2, g2, g2, g3, if_neg (by omega), if_neg (by omega), if_neg (by omega), if_neg (by omega)]
    · unfold rcW
      rw [g1, if_pos rfl, g2, g2, g2, g3]
      simp
  have gI : ∀ (w2 : WW) c j, wI (cgW w2 (wC w 5 + 1) o k a b) 5 c j = if c = wC w 5 + 1 then (if j = 0 then k else if j = 2 then a else if j = 3 then b else wI w2 5 c j) else wI w2 5 c j := by
    intro w2 c j
    unfold cgW
    simp only [wI_sI, wI_sR, true_and]
    by_cases h1 : c = wC w 5 + 1
    · simp only [h1, true_and, if_true]
      by_cases j3 : j = 3
      · subst j3; rfl
      · rw [if_neg j3]
        by_cases j2 : j = 2
        · subst j2; rfl
        · rw [if_neg j2, if_neg j2, if_neg j3]
    · simp [h1]
  have gR : ∀ (w2 : WW) c, wR (cgW w2 (wC w 5 + 1) o k a b) 5 c 1 = if c = wC w 5 + 1 then o else wR w2 5 c 1 := by
    intro w2 c
    unfold cgW
    simp only [wR_sI, wR_sR, true_and, and_true]
  have e0 : mN m - mU m + 1 = mN m + 1 - mU m := by omega
  by_cases h6 : mN m - mU m + 1 = 6
  · have hf : wf = sI (sI (sI (sR (cgW (nO w 5 4) (wC w 5 + 1) o k a b) 105 1 (mN m - mU m) (wC w 5 + 1)) 6 1 1 (nI (mN m - mU m + 1))) 6 1 2 (nI (mU m + (mN m - mU m + 1)))) 6 1 1 (nI 0) := by rw [hf]; exact if_pos h6
    obtain ⟨r1, r2, r3, r4⟩ := gen wf (fun i => by rw [hf]; simp only [wR_sI, wR_sR, true_and]; rfl) (fun c j => by rw [hf]; exact gI _ c j) (fun c => by rw [hf]; exact gR _ c)
    refine ⟨fun _ => ⟨by rw [hf]; rfl, ?_⟩, fun z => absurd (e0 ▸ h6) z, by rw [hf]; rfl, r1, r2, r3, by rw [hf]; rfl, r4, by rw [hf]; rfl⟩
    rw [hf]
    show nI (mU m + (mN m - mU m + 1)) = _
    congr 1
    omega
  · have hf : wf = sI (sR (cgW (nO w 5 4) (wC w 5 + 1) o k a b) 105 1 (mN m - mU m) (wC w 5 + 1)) 6 1 1 (nI (mN m - mU m + 1)) := by rw [hf]; exact if_neg h6
    obtain ⟨r1, r2, r3, r4⟩ := gen wf (fun i => by rw [hf]; simp only [wR_sI, wR_sR, true_and]; rfl) (fun c j => by rw [hf]; exact gI _ c j) (fun c => by rw [hf]; exact gR _ c)
    refine ⟨fun z => absurd (e0 ▸ z) h6, fun _ => ⟨?_, by rw [hf]; exact l2⟩, by rw [hf]; rfl, r1, r2, r3, by rw [hf]; rfl, r4, by rw [hf]; rfl⟩
    rw [hf, ← e0]
    rfl
