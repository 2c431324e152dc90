/-! the reference: crash -/
def fz (w : WW) (K a i : Nat) : WW := (w.1, (fun k o j => if k = K ∧ o = 1 ∧ a ≤ j ∧ j < i then 0 else w.2.1 k o j), w.2.2)
theorem wI_fz (w : WW) (K a i k o j : Nat) : wI (fz w K a i) k o j = if k = K ∧ o = 1 ∧ a ≤ j ∧ j < i then 0 else wI w k o j := rfl
theorem fz_0 (w : WW) (K a : Nat) : fz w K a a = w := by
  have : (fun k o j => if k = K ∧ o = 1 ∧ a ≤ j ∧ j < a then 0 else w.2.1 k o j) = w.2.1 := by
    funext k o j
    rw [if_neg (by omega)]
  show (w.1, _, w.2.2) = w
  rw [this]
theorem fz_s (w : WW) (K a i : Nat) (h : a ≤ i) : sI (fz w K a i) K 1 i (nI 0) = fz w K a (i + 1) := by
  show (w.1, _, w.2.2) = (w.1, _, w.2.2)
  congr 2
  funext k o j
  show (if k = K ∧ o = 1 ∧ j = i then nI 0 else if k = K ∧ o = 1 ∧ a ≤ j ∧ j < i then 0 else w.2.1 k o j) = if k = K ∧ o = 1 ∧ a ≤ j ∧ j < i + 1 then 0 else w.2.1 k o j
  by_cases h1 : k = K ∧ o = 1
  · obtain ⟨rfl, rfl⟩ := h1
    by_cases h2 : j = i
    · rw [if_pos ⟨rfl, rfl, h2⟩, if_pos ⟨rfl, rfl, by omega, by omega⟩]; rfl
    · rw [if_neg (fun q => h2 q.2.2)]
      by_cases h3 : a ≤ j ∧ j < i
      · rw [if_pos ⟨rfl, rfl, h3⟩, if_pos ⟨rfl, rfl, h3.1, by omega⟩]
      · rw [if_neg (fun q => h3 q.2.2), if_neg (fun q => h3 ⟨q.2.2.1, by omega⟩)]
  · rw [if_neg (fun q => h1 ⟨q.1, q.2.1⟩), if_neg (fun q => h1 ⟨q.1, q.2.1⟩), if_neg (fun q => h1 ⟨q.1, q.2.1⟩)]
theorem FM.fz {w : WW} {K a i : Nat} (h : 110 ≤ K) : FM w (fz w K a i) := ⟨rfl, rfl, fun k' o' j' h1 h2 => by
  rw [wI_fz, if_neg]
  rintro ⟨rfl, -⟩
  omega⟩
/-- the model after the log is read again -/
def crT (m : MS) : MS := (mU m, mU m, mG m, (fun _ => false), m.2.2.2.2)
def crQ (m : MS) (r : Nat) : QR := if qO (mq m r) = 0 then qsO (mq m r) (-9) else mq m r
def crM (m : MS) : MS := setQ (setK (setH (crT m) (fun x => if 1 ≤ x ∧ x ≤ mH m then hsO (mh m x) false else mh m x)) []) (fun r => if 1 ≤ r ∧ r ≤ mQ m then crQ m r else mq m r)
def ROOT (t : Tb) : Prop := tT t 0 = true ∧ tF t 0 = true ∧ tD t 0 = -3 ∧ tN t 0 = -3 ∧ ∀ i, i < 32 → tC t 0 i = 0
theorem FA.tr {w w1 w2 : WW} (a : FA w w1) (b : FA w1 w2) : FA w w2 := ⟨b.1.trans a.1, b.2.1.trans a.2.1, fun k o j h1 h2 => (b.2.2 k o j h1 h2).trans (a.2.2 k o j h1 h2)⟩
set_option maxHeartbeats 2000000 in
theorem Md_crash_ok {w : WW} {m : MS} {d : Nat} (hM : RM w m) (hB : WB m) (hro : ROOT (mT m)) (hlg : ∀ c, c < mU m → okC (mG m c) (rep (mG m) c)) (hd : 1 ≤ d) : E_Md_crash d [.inr (7, 1)] w (fun r w' => r = some (.inl (nI (mU m))) ∧ RM w' (crM m) ∧ FM w w') := by
  refine S_Md_crash ?_
  have hM' := hM
  obtain ⟨hS, c0, c1, hLg, hT, hDm, hh, hH, hq, hQ, hk4, hK, hs⟩ := hM
  have hS' := hS
  obtain ⟨s2, s4, s5, s6, s7, s8, s9, s11, s13, s15, l0, l1, l2, l3, l4, l5, l6, l7, l8, l9⟩ := hS
  have b1 := hB.1
  have b2 := hB.2.1
  have hun := hB.un
  have h11 := hB.n11
  let wA : WW := sI (sI w 7 1 0 (nI (mU m))) 7 1 3 (nI 0)
  let wB : WW := fz wA 111 1 25
  let wD : WW := fz wB 115 0 25
  -- the last loop: the waiting requests
  have loop5 : ∀ (m4 : MS), mQ m4 = mQ m → mN m4 = mU m → ∀ k i w1, i + k = mQ m + 1 → 1 ≤ i → RM w1 (setQ m4 (fun r => if 1 ≤ r ∧ r < i then crQ m r else mq m r)) → FM w w1 → X_Md_crash d 112 [some (.inr (7, 1)), some (.inl (nI i))] [] w1 (fun r w' => r = some (.inl (nI (mU m))) ∧ RM w' (setQ m4 (fun r => if 1 ≤ r ∧ r < mQ m + 1 then crQ m r else mq m r)) ∧ FM w w') := by
    intro m4 eQ eN k
    induction k with
    | zero =>
      intro i w1 h1 h2 hR hF
      have e : i = mQ m + 1 := h1
      subst e
      have hn : wI w1 7 1 12 = nI (mQ m) := by rw [← eQ]; exact hR.2.2.2.2.2.2.2.2.1
      have hn0 : wI w1 7 1 0 = nI (mU m) := by rw [← eN]; exact hR.2.1
      refine XE.iload_n d_Md_crash_112 rfl ?_
      refine XE.aload_n d_Md_crash_113 rfl ?_
      refine g_Md_88 d_Md_crash_114 (by first | assumption | decide | omega) (by first | assumption | rfl) ?_
      refine XE.icmp_gt 153 d_Md_crash_117 (by decide) (fun h117 => ?_) (fun h117 => absurd h117 ((by rw [lt_nI (by omega) (by omega)]; omega)))
      refine XE.aload_n d_Md_crash_153 rfl ?_
      refine g_Md_56 d_Md_crash_154 (by first | assumption | decide | omega) (by first | assumption | rfl) ?_
      exact XE.ri d_Md_crash_157 ⟨rfl, hR, hF⟩
    | succ k ih =>
      intro i w1 h1 h2 hR hF
      let fn : Nat → Nat → QR := fun i r => if 1 ≤ r ∧ r < i then crQ m r else mq m r
      have hn : wI w1 7 1 12 = nI (mQ m) := by rw [← eQ]; exact hR.2.2.2.2.2.2.2.2.1
      have s13' := hR.1.2.2.2.2.2.2.2.2.1
      have l8' := hR.1.2.2.2.2.2.2.2.2.2.2.2.2.2.2.2.2.2.2.1
      have fii : fn i i = mq m i := if_neg (by omega)
      have q5 : wI w1 118 1 (6 * i + 5) = qO (mq m i) := by
        have := hR.2.2.2.2.2.2.2.2.2.1.1 i h2 (by show i ≤ mQ m4; rw [eQ]; omega) 5 (by decide)
        rw [this]
        show qO (fn i i) = _
        rw [fii]
      have e1 : ¬ qO (mq m i) = 0 → fn i = fn (i + 1) := fun h => by
        funext y
        by_cases hy : y = i
        · subst hy
          simp only [fn]
          rw [if_neg (by omega), if_pos ⟨h2, by omega⟩]
          unfold crQ
          rw [if_neg h]
        · have : (1 ≤ y ∧ y < i) ↔ (1 ≤ y ∧ y < i + 1) := by omega
          simp only [fn, this]
      have e2 : qO (mq m i) = 0 → uf (fn i) i (qsO (fn i i) (-9)) = fn (i + 1) := fun h => by
        funext y
        by_cases hy : y = i
        · subst hy
          rw [uf_s, fii]
          simp only [fn]
          rw [if_pos ⟨h2, by omega⟩]
          unfold crQ
          rw [if_pos h]
        · rw [uf_n _ _ hy]
          have : (1 ≤ y ∧ y < i) ↔ (1 ≤ y ∧ y < i + 1) := by omega
          simp only [fn, this]
      have hs2 : RM (sI w1 118 1 (6 * i + 5) (-9)) (setQ m4 (uf (fn i) i (qsO (fn i i) (-9)))) := hR.qset h2 (by show i ≤ mQ m4; rw [eQ]; omega)
      refine XE.iload_n d_Md_crash_112 rfl ?_
      refine XE.aload_n d_Md_crash_113 rfl ?_
      refine g_Md_88 d_Md_crash_114 (by first | assumption | decide | omega) (by first | assumption | rfl) ?_
      refine XE.icmp_gt 153 d_Md_crash_117 (by decide) (fun h117 => absurd h117 ((by rw [lt_nI (by omega) (by omega)]; omega))) (fun h117 => ?_)
      refine XE.aload_n d_Md_crash_120 rfl ?_
      refine g_Md_35 d_Md_crash_121 (by first | assumption | decide | omega) (by first | assumption | rfl) ?_
      refine XE.bipush (x := nI 6) d_Md_crash_124 (by decide) ?_
      refine XE.iload_n d_Md_crash_126 rfl ?_
      refine XE.imul d_Md_crash_127 (by first | exact pk_mul _ _ | rfl) ?_
      refine XE.iconst (x := nI 5) d_Md_crash_128 (by decide) ?_
      refine XE.iadd d_Md_crash_129 (by first | exact nI_add _ _ | rfl) ?_
      refine XE.iald d_Md_crash_130 (Or.inr ⟨by decide, rfl⟩) (by first | assumption | decide | omega) (by first | assumption | exact ixn2 (by assumption) (by omega) (by omega)) (by first | assumption | rfl) ?_
      refine XE.if_ne 147 d_Md_crash_131 (by decide) (fun h131 => ?_) (fun h131 => ?_)
      · have z := ih (i + 1) w1 (by omega) (by omega) (by have := e1 h131; show RM w1 (setQ m4 (fn (i + 1))); rw [← this]; exact hR) hF
        refine XE.iinc d_Md_crash_147 rfl (inc_nI _) ?_
        refine XE.goto 112 d_Md_crash_150 (by decide) ?_
        exact z
      · have z := ih (i + 1) (sI w1 118 1 (6 * i + 5) (-9)) (by omega) (by omega) (by have := e2 h131; show RM _ (setQ m4 (fn (i + 1))); rw [← this]; exact hs2) (hF.tr (FM.sI (Or.inr (by decide))))
        refine XE.aload_n d_Md_crash_134 rfl ?_
        refine g_Md_35 d_Md_crash_135 (by first | assumption | decide | omega) (by first | assumption | rfl) ?_
        refine XE.bipush (x := nI 6) d_Md_crash_138 (by decide) ?_
        refine XE.iload_n d_Md_crash_140 rfl ?_
        refine XE.imul d_Md_crash_141 (by first | exact pk_mul _ _ | rfl) ?_
        refine XE.iconst (x := nI 5) d_Md_crash_142 (by decide) ?_
        refine XE.iadd d_Md_crash_143 (by first | exact nI_add _ _ | rfl) ?_
        refine XE.bipush (x := (-9)) d_Md_crash_144 (by decide) ?_
        refine XE.iast d_Md_crash_146 (by decide) rfl (by first | assumption | decide | omega) (by first | assumption | exact ixn2 (by assumption) (by omega) (by omega)) ?_
        refine XE.iinc d_Md_crash_147 rfl (inc_nI _) ?_
        refine XE.goto 112 d_Md_crash_150 (by decide) ?_
        exact z
  -- the handles
  have loop4 : ∀ k i w1, i + k = mH m + 1 → 1 ≤ i → RM w1 (setH (crT m) (fun x => if 1 ≤ x ∧ x < i then hsO (mh m x) false else mh m x)) → FM w w1 → X_Md_crash d 78 [some (.inr (7, 1)), some (.inl (nI i))] [] w1 (fun r w' => r = some (.inl (nI (mU m))) ∧ RM w' (crM m) ∧ FM w w') := by
    intro k
    induction k with
    | zero =>
      intro i w1 h1 h2 hR hF
      have e : i = mH m + 1 := h1
      subst e
      have hn : wI w1 7 1 10 = nI (mH m) := hR.2.2.2.2.2.2.1
      let m4 : MS := setK (setH (crT m) (fun x => if 1 ≤ x ∧ x < mH m + 1 then hsO (mh m x) false else mh m x)) []
      have hR4 : RM (sI w1 7 1 14 (nI 0)) m4 := by
        obtain ⟨hS, c0, c1, hLg, hT, hDm, hh, hH, hq, hQ, hk4, hK, hs⟩ := hR
        exact ⟨hS, c0, c1, hLg, hT, hDm, hh, hH, hq, hQ, rfl, fun i hi => absurd hi (Nat.not_lt_zero _), hs⟩
      have eq0 : (fun r => if 1 ≤ r ∧ r < 1 then crQ m r else mq m r) = mq m := by
        funext r
        rw [if_neg (by omega)]
      have L5 := loop5 m4 rfl rfl (mQ m) 1 (sI w1 7 1 14 (nI 0)) (by omega) (by omega) (by rw [eq0]; exact hR4) (hF.tr (FM.sI (Or.inl rfl)))
      have eC : setQ m4 (fun r => if 1 ≤ r ∧ r < mQ m + 1 then crQ m r else mq m r) = crM m := by
        unfold crM
        have a : ∀ x, (1 ≤ x ∧ x < mH m + 1) ↔ (1 ≤ x ∧ x ≤ mH m) := fun x => by omega
        have b : ∀ x, (1 ≤ x ∧ x < mQ m + 1) ↔ (1 ≤ x ∧ x ≤ mQ m) := fun x => by omega
        simp only [m4, a, b]
      rw [eC] at L5
      refine XE.iload_n d_Md_crash_78 rfl ?_
      refine XE.aload_n d_Md_crash_79 rfl ?_
      refine g_Md_41 d_Md_crash_80 (by first | assumption | decide | omega) (by first | assumption | rfl) ?_
      refine XE.icmp_gt 105 d_Md_crash_83 (by decide) (fun h83 => ?_) (fun h83 => absurd h83 ((by rw [lt_nI (by omega) (by omega)]; omega)))
      refine XE.aload_n d_Md_crash_105 rfl ?_
      refine XE.iconst (x := nI 0) d_Md_crash_106 (by decide) ?_
      refine p_Md_100 d_Md_crash_107 (by first | assumption | decide | omega) ?_
      refine XE.iconst (x := nI 1) d_Md_crash_110 (by decide) ?_
      refine XE.istore_n d_Md_crash_111 (by decide) ?_
      exact L5
    | succ k ih =>
      intro i w1 h1 h2 hR hF
      let fn : Nat → Nat → HR := fun i x => if 1 ≤ x ∧ x < i then hsO (mh m x) false else mh m x
      have hn : wI w1 7 1 10 = nI (mH m) := hR.2.2.2.2.2.2.1
      have s11' := hR.1.2.2.2.2.2.2.2.1
      have l7' := hR.1.2.2.2.2.2.2.2.2.2.2.2.2.2.2.2.2.2.1
      have e2 : uf (fn i) i (hsO (fn i i) false) = fn (i + 1) := by
        funext y
        by_cases hy : y = i
        · subst hy
          rw [uf_s]
          simp only [fn]
          rw [if_neg (by omega), if_pos ⟨h2, by omega⟩]
        · rw [uf_n _ _ hy]
          have : (1 ≤ y ∧ y < i) ↔ (1 ≤ y ∧ y < i + 1) := by omega
          simp only [fn, this]
      have hs2 : RM (sI w1 117 1 (7 * i + 6) (nI 0)) (setH (crT m) (fn (i + 1))) := by
        have := hR.oset (x := i) h2 false
        rw [← e2]
        exact this
      refine XE.iload_n d_Md_crash_78 rfl ?_
      refine XE.aload_n d_Md_crash_79 rfl ?_
      refine g_Md_41 d_Md_crash_80 (by first | assumption | decide | omega) (by first | assumption | rfl) ?_
      refine XE.icmp_gt 105 d_Md_crash_83 (by decide) (fun h83 => absurd h83 ((by rw [lt_nI (by omega) (by omega)]; omega))) (fun h83 => ?_)
      refine XE.aload_n d_Md_crash_86 rfl ?_
      refine g_Md_32 d_Md_crash_87 (by first | assumption | decide | omega) (by first | assumption | rfl) ?_
      refine XE.bipush (x := nI 7) d_Md_crash_90 (by decide) ?_
      refine XE.iload_n d_Md_crash_92 rfl ?_
      refine XE.imul d_Md_crash_93 (by first | exact pk_mul _ _ | rfl) ?_
      refine XE.bipush (x := nI 6) d_Md_crash_94 (by decide) ?_
      refine XE.iadd d_Md_crash_96 (by first | exact nI_add _ _ | rfl) ?_
      refine XE.iconst (x := nI 0) d_Md_crash_97 (by decide) ?_
      refine XE.iast d_Md_crash_98 (by decide) rfl (by first | assumption | decide | omega) (by first | assumption | exact ixn2 (by assumption) (by omega) (by omega)) ?_
      refine XE.iinc d_Md_crash_99 rfl (inc_nI _) ?_
      refine XE.goto 78 d_Md_crash_102 (by decide) ?_
      exact ih (i + 1) _ (by omega) (by omega) hs2 (hF.tr (FM.sI (Or.inr (by decide))))
  -- the log is read again
  have hFD : FM w wD := (((FM.sI (Or.inl rfl)).tr (FM.sI (Or.inl rfl))).tr (FM.fz (by decide))).tr (FM.fz (by decide))
  have hlD : ∀ c, c < mU m → ∀ f, f < 5 → wI wD 110 1 (5 * c + f) = chF (mG m c) f := fun c hc f hf => hLg c (by omega) f hf
  have hT0 : RMt wD (rep (mG m) 0) := by
    obtain ⟨g1, g2, g3⟩ := hT
    obtain ⟨o1, o2, o3, o4, o5⟩ := hro
    obtain ⟨p1, p2, p3, p4⟩ := g3 0 (by omega) o1
    refine ⟨rfl, fun n hn => ?_, fun n hn ht => ?_⟩
    · show wI wD 111 1 n = bI (n == 0)
      simp only [wD, wB, wI_fz]
      rw [if_neg (by omega)]
      by_cases h0 : n = 0
      · subst h0
        rw [if_neg (by omega)]
        have := g2 0 (by omega)
        rw [o1] at this
        exact this
      · rw [if_pos (by refine ⟨?_, ?_, ?_, ?_⟩ <;> first | trivial | omega)]
        rw [show (n == 0) = false by simp [h0]]; rfl
    · have h0 : n = 0 := by
        have : (n == 0) = true := ht
        simpa using this
      subst h0
      rw [o2] at p1
      rw [o3] at p2
      rw [o4] at p3
      exact ⟨p1, p2, p3, fun i hi => by have := p4 i hi; rw [o5 i hi] at this; exact this⟩
  have loop3 : ∀ k c w1, c + k = mU m → RMt w1 (rep (mG m) c) → FA wD w1 → X_Md_crash d 57 [some (.inr (7, 1)), some (.inl (nI c))] [] w1 (fun r w' => r = some (.inl (nI (mU m))) ∧ RM w' (crM m) ∧ FM w w') := by
    intro k
    induction k with
    | zero =>
      intro c w1 h1 hT1 hA1
      have e : c = mU m := h1
      subst e
      have hn : wI w1 7 1 0 = nI (mU m) := by rw [hA1.2.2 7 1 0 (by omega) (by omega)]; rfl
      have hF1 : FM w w1 := hFD.tr hA1.FM
      have key : ∀ k o j, (k = 110 ∨ k = 117 ∨ k = 118 ∨ k = 119 ∨ (k = 7 ∧ j ≠ 0 ∧ j ≠ 3)) → wI w1 k o j = wI w k o j := by
        intro k o j h
        rw [hA1.2.2 k o j (by omega) (by omega)]
        simp only [wD, wB, wA, wI_fz, wI_sI]
        rw [if_neg (by omega), if_neg (by omega), if_neg (by omega), if_neg (by omega)]
      have hRT : RM w1 (crT m) := by
        refine ⟨hF1.S hS', hn, ?_, ?_, hT1, ?_, ?_, ?_, ?_, ⟨?_, ?_⟩, ?_, ?_, ?_⟩
        · rw [key _ _ _ (by omega)]; exact c1
        · intro c hc f hf
          have hc : c < mU m := hc
          rw [key _ _ _ (by omega)]; exact hLg c (by omega) f hf
        · intro n hn
          rw [hA1.2.2 _ _ _ (by omega) (by omega)]
          simp only [wD, wI_fz]
          rw [if_pos (by refine ⟨?_, ?_, ?_, ?_⟩ <;> first | trivial | omega)]; rfl
        · rw [key _ _ _ (by omega)]; exact hh
        · intro x h1 h2 f hf; rw [key _ _ _ (by omega)]; exact hH x h1 h2 f hf
        · rw [key _ _ _ (by omega)]; exact hq
        · intro x h1 h2 f hf; rw [key _ _ _ (by omega)]; exact hQ.1 x h1 h2 f hf
        · intro x h1 h2; rw [key _ _ _ (by omega)]; exact hQ.2 x h1 h2
        · rw [key _ _ _ (by omega)]; exact hk4
        · intro i hi f hf; rw [key _ _ _ (by omega)]; exact hK i hi f hf
        · rw [key _ _ _ (by omega)]; exact hs
      have eh0 : (fun x => if 1 ≤ x ∧ x < 1 then hsO (mh m x) false else mh m x) = mh m := by
        funext x
        rw [if_neg (by omega)]
      refine XE.iload_n d_Md_crash_57 rfl ?_
      refine XE.aload_n d_Md_crash_58 rfl ?_
      refine g_Md_56 d_Md_crash_59 (by first | assumption | decide | omega) (by first | assumption | rfl) ?_
      refine XE.icmp_ge 76 d_Md_crash_62 (by decide) (fun h62 => ?_) (fun h62 => absurd h62 ((by rw [le_nI (by omega) (by omega)]; omega)))
      refine XE.iconst (x := nI 1) d_Md_crash_76 (by decide) ?_
      refine XE.istore_n d_Md_crash_77 (by decide) ?_
      exact loop4 (mH m) 1 w1 (by omega) (by omega) (by rw [eh0]; exact hRT) hF1
    | succ k ih =>
      intro c w1 h1 hT1 hA1
      have hn : wI w1 7 1 0 = nI (mU m) := by rw [hA1.2.2 7 1 0 (by omega) (by omega)]; rfl
      have hF1 : FM w w1 := hFD.tr hA1.FM
      have hf : ∀ f, f < 5 → wI w1 110 1 (5 * c + f) = chF (mG m c) f := fun f hf => by
        rw [hA1.2.2 _ _ _ (by omega) (by omega)]
        exact hlD c (by omega) f hf
      refine XE.iload_n d_Md_crash_57 rfl ?_
      refine XE.aload_n d_Md_crash_58 rfl ?_
      refine g_Md_56 d_Md_crash_59 (by first | assumption | decide | omega) (by first | assumption | rfl) ?_
      refine XE.icmp_ge 76 d_Md_crash_62 (by decide) (fun h62 => absurd h62 ((by rw [le_nI (by omega) (by omega)]; omega))) (fun h62 => ?_)
      refine XE.aload_n d_Md_crash_65 rfl ?_
      refine XE.iload_n d_Md_crash_66 rfl ?_
      refine k_Md_59 0 d_Md_crash_67 (by omega) (Nat.le_of_ble_eq_true rfl) (by first | assumption | decide | omega) (Md_apply_ok (hF1.S hS') hT1 (by omega) hf (hlg c (by omega))) (fun y1 w2 hm1 hq1 => ?_)
      obtain ⟨rfl, hT2, hA2⟩ := hq1
      refine XE.iinc d_Md_crash_70 rfl (inc_nI _) ?_
      refine XE.goto 57 d_Md_crash_73 (by decide) ?_
      exact ih (c + 1) w2 (by omega) hT2 (hA1.tr hA2)
  have loop2 : ∀ k i, i + k = 25 → X_Md_crash d 36 [some (.inr (7, 1)), some (.inl (nI i))] [] (fz wB 115 0 i) (fun r w' => r = some (.inl (nI (mU m))) ∧ RM w' (crM m) ∧ FM w w') := by
    intro k
    induction k with
    | zero =>
      intro i h1
      have e : i = 25 := h1
      subst e
      refine XE.iload_n d_Md_crash_36 rfl ?_
      refine XE.bipush (x := nI 25) d_Md_crash_37 (by decide) ?_
      refine XE.icmp_ge 55 d_Md_crash_39 (by decide) (fun h39 => ?_) (fun h39 => absurd h39 ((by decide)))
      refine XE.iconst (x := nI 0) d_Md_crash_55 (by decide) ?_
      refine XE.istore_n d_Md_crash_56 (by decide) ?_
      exact loop3 (mU m) 0 wD (by omega) hT0 ⟨rfl, rfl, fun _ _ _ _ _ => rfl⟩
    | succ k ih =>
      intro i h1
      refine XE.iload_n d_Md_crash_36 rfl ?_
      refine XE.bipush (x := nI 25) d_Md_crash_37 (by decide) ?_
      refine XE.icmp_ge 55 d_Md_crash_39 (by decide) (fun h39 => absurd h39 ((by rw [le_nI (by omega) (by omega)]; omega))) (fun h39 => ?_)
      refine XE.aload_n d_Md_crash_42 rfl ?_
      refine g_Md_26 d_Md_crash_43 (by first | assumption | decide | omega) (by first | assumption | rfl) ?_
      refine XE.iload_n d_Md_crash_46 rfl ?_
      refine XE.iconst (x := nI 0) d_Md_crash_47 (by decide) ?_
      refine XE.zast d_Md_crash_48 (by decide) rfl (by first | assumption | decide) (by first | assumption | decide | omega) (by first | assumption | exact ixn2 (by assumption) (by omega) (by omega)) ?_
      refine XE.iinc d_Md_crash_49 rfl (inc_nI _) ?_
      refine XE.goto 36 d_Md_crash_52 (by decide) ?_
      rw [fz_s wB 115 0 i (by omega)]
      exact ih (i + 1) (by omega)
  have loop1 : ∀ k i, i + k = 25 → 1 ≤ i → X_Md_crash d 15 [some (.inr (7, 1)), some (.inl (nI i))] [] (fz wA 111 1 i) (fun r w' => r = some (.inl (nI (mU m))) ∧ RM w' (crM m) ∧ FM w w') := by
    intro k
    induction k with
    | zero =>
      intro i h1 h2
      have e : i = 25 := h1
      subst e
      refine XE.iload_n d_Md_crash_15 rfl ?_
      refine XE.bipush (x := nI 25) d_Md_crash_16 (by decide) ?_
      refine XE.icmp_ge 34 d_Md_crash_18 (by decide) (fun h18 => ?_) (fun h18 => absurd h18 ((by decide)))
      refine XE.iconst (x := nI 0) d_Md_crash_34 (by decide) ?_
      refine XE.istore_n d_Md_crash_35 (by decide) ?_
      have z := loop2 25 0 rfl
      rw [fz_0] at z
      exact z
    | succ k ih =>
      intro i h1 h2
      refine XE.iload_n d_Md_crash_15 rfl ?_
      refine XE.bipush (x := nI 25) d_Md_crash_16 (by decide) ?_
      refine XE.icmp_ge 34 d_Md_crash_18 (by decide) (fun h18 => absurd h18 ((by rw [le_nI (by omega) (by omega)]; omega))) (fun h18 => ?_)
      refine XE.aload_n d_Md_crash_21 rfl ?_
      refine g_Md_13 d_Md_crash_22 (by first | assumption | decide | omega) (by first | assumption | rfl) ?_
      refine XE.iload_n d_Md_crash_25 rfl ?_
      refine XE.iconst (x := nI 0) d_Md_crash_26 (by decide) ?_
      refine XE.zast d_Md_crash_27 (by decide) rfl (by first | assumption | decide) (by first | assumption | decide | omega) (by first | assumption | exact ixn2 (by assumption) (by omega) (by omega)) ?_
      refine XE.iinc d_Md_crash_28 rfl (inc_nI _) ?_
      refine XE.goto 15 d_Md_crash_31 (by decide) ?_
      rw [fz_s wA 111 1 i (by omega)]
      exact ih (i + 1) (by omega) (by omega)
  refine XE.aload_n d_Md_crash_0 rfl ?_
  refine XE.aload_n d_Md_crash_1 rfl ?_
  refine g_Md_63 d_Md_crash_2 (by first | assumption | decide | omega) (by first | assumption | rfl) ?_
  refine p_Md_56 d_Md_crash_5 (by first | assumption | decide | omega) ?_
  refine XE.aload_n d_Md_crash_8 rfl ?_
  refine XE.iconst (x := nI 0) d_Md_crash_9 (by decide) ?_
  refine p_Md_53 d_Md_crash_10 (by first | assumption | decide | omega) ?_
  refine XE.iconst (x := nI 1) d_Md_crash_13 (by decide) ?_
  refine XE.istore_n d_Md_crash_14 (by decide) ?_
  have z := loop1 24 1 rfl (by omega)
  rw [fz_0] at z
  exact z
