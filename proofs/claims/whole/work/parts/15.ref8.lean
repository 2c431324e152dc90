/-! the reference: tryAgain, open, outcome, cancel, giveUp -/
theorem RM.qset {w : WW} {m : MS} (hM : RM w m) {r : Nat} {v : Int32} (r1 : 1 ≤ r) (r2 : r ≤ mQ m) : RM (sI w 118 1 (6 * r + 5) v) (setQ m (uf (mq m) r (qsO (mq m r) v))) := by
  obtain ⟨hS, c0, c1, hLg, hT, hDm, hh, hH, hq, hQ, hk4, hK, hs⟩ := hM
  refine ⟨hS, c0, c1, hLg, hT, hDm, hh, hH, hq, ⟨?_, ?_⟩, hk4, hK, hs⟩
  · intro y y1 y2 g hg
    show wI (sI w 118 1 (6 * r + 5) v) 118 1 (6 * y + g) = qrF (uf (mq m) r (qsO (mq m r) v) y) g
    by_cases h : y = r
    · subst h
      rw [uf_s, wI_sI]
      by_cases h2 : g = 5
      · rw [h2, if_pos ⟨rfl, rfl, rfl⟩]; rfl
      · rw [if_neg (by omega)]
        have := hQ.1 y y1 y2 g hg
        rw [this]
        match g, hg with
        | 0, _ => rfl
        | 1, _ => rfl
        | 2, _ => rfl
        | 3, _ => rfl
        | 4, _ => rfl
        | 5, _ => exact absurd rfl h2
    · rw [uf_n _ _ h, wI_sI, if_neg (by omega)]
      exact hQ.1 y y1 y2 g hg
  · intro y y1 y2
    have y1 : mQ m < y := y1
    show wI (sI w 118 1 (6 * r + 5) v) 118 1 (6 * y + 5) = 0
    rw [wI_sI, if_neg (by omega)]
    exact hQ.2 y y1 y2
theorem tryS_pos {m : MS} {r : Nat} (h : qO (mq m r) = 0) : tryS m r = setQ (attM m r).2 (uf (mq m) r (qsO (mq m r) (attM m r).1)) := if_pos h
theorem tryS_neg {m : MS} {r : Nat} (h : ¬ qO (mq m r) = 0) : tryS m r = m := if_neg h
/-- the attempt and the store behind it -/
theorem try_store {w1 : WW} {m : MS} {c r : Nat} (hB : WB m) (hD : BD c m) (r1 : 1 ≤ r) (r2 : r ≤ mQ m) (hq : qO (mq m r) = 0) (hM1 : RM w1 (attM m r).2) : RM (sI w1 118 1 (6 * r + 5) (attM m r).1) (tryS m r) := by
  obtain ⟨i1, i2, i3, i4, i5⟩ := att_inv hB ⟨wait_lt hB hD r1 r2 hq, hD.2.1, hD.2.2⟩ r1 r2
  have := hM1.qset (r := r) (v := (attM m r).1) r1 (by rw [i2]; exact r2)
  rw [i3] at this
  rw [tryS_pos hq]
  exact this
theorem Md_tryAgain_ok {w : WW} {m : MS} {c d : Nat} (hM : RM w m) (hB : WB m) (hD : BD c m) (hd : 4 ≤ d) :
    E_Md_tryAgain d [.inr (7, 1)] w (fun r w' => r = none ∧ RM w' (tryM m) ∧ FM w w') := by
  refine S_Md_tryAgain ?_
  have loop : ∀ k i m1 w1, RM w1 m1 → WB m1 → BD c m1 → FM w w1 → 1 ≤ i → i + k = mQ m1 + 1 → X_Md_tryAgain d 2 [some (.inr (7, 1)), some (.inl (nI i))] [] w1 (fun r w' => r = none ∧ RM w' (tryL k i m1) ∧ FM w w') := by
    intro k
    induction k with
    | zero =>
      intro i m1 w1 hM hB hD hF h1 h2
      have b2 := hB.2.1
      have hn : wI w1 7 1 12 = nI (mQ m1) := hM.2.2.2.2.2.2.2.2.1
      refine XE.iload_n d_Md_tryAgain_2 rfl ?_
      refine XE.aload_n d_Md_tryAgain_3 rfl ?_
      refine g_Md_88 d_Md_tryAgain_4 (by first | assumption | decide | omega) (by first | assumption | rfl) ?_
      refine XE.icmp_gt 46 d_Md_tryAgain_7 (by decide) (fun h7 => ?_) (fun h7 => absurd h7 ((by rw [lt_nI (by omega) (by omega)]; omega)))
      exact XE.rv d_Md_tryAgain_46 ⟨rfl, hM, hF⟩
    | succ k ih =>
      intro i m1 w1 hM hB hD hF h1 h2
      have b2 := hB.2.1
      have hn : wI w1 7 1 12 = nI (mQ m1) := hM.2.2.2.2.2.2.2.2.1
      have s13 := hM.1.2.2.2.2.2.2.2.2.1
      have l8 := hM.1.2.2.2.2.2.2.2.2.2.2.2.2.2.2.2.2.2.2.1
      have q5 : wI w1 118 1 (6 * i + 5) = qO (mq m1 i) := hM.2.2.2.2.2.2.2.2.2.1.1 i h1 (by omega) 5 (by decide)
      have b3 := hB.n11
      refine XE.iload_n d_Md_tryAgain_2 rfl ?_
      refine XE.aload_n d_Md_tryAgain_3 rfl ?_
      refine g_Md_88 d_Md_tryAgain_4 (by first | assumption | decide | omega) (by first | assumption | rfl) ?_
      refine XE.icmp_gt 46 d_Md_tryAgain_7 (by decide) (fun h7 => absurd h7 ((by rw [lt_nI (by omega) (by omega)]; omega))) (fun h7 => ?_)
      refine XE.aload_n d_Md_tryAgain_10 rfl ?_
      refine g_Md_35 d_Md_tryAgain_11 (by first | assumption | decide | omega) (by first | assumption | rfl) ?_
      refine XE.bipush (x := nI 6) d_Md_tryAgain_14 (by decide) ?_
      refine XE.iload_n d_Md_tryAgain_16 rfl ?_
      refine XE.imul d_Md_tryAgain_17 (by first | exact pk_mul _ _ | rfl) ?_
      refine XE.iconst (x := nI 5) d_Md_tryAgain_18 (by decide) ?_
      refine XE.iadd d_Md_tryAgain_19 (by first | exact nI_add _ _ | rfl) ?_
      refine XE.iald d_Md_tryAgain_20 (Or.inr ⟨by decide, rfl⟩) (by first | assumption | decide | omega) (by first | assumption | exact ixn2 (by assumption) (by omega) (by omega)) (by first | assumption | rfl) ?_
      refine XE.if_ne 40 d_Md_tryAgain_21 (by decide) (fun h21 => ?_) (fun h21 => ?_)
      · have z := ih (i + 1) m1 w1 hM hB hD hF (by omega) (by omega)
        refine XE.iinc d_Md_tryAgain_40 rfl (inc_nI _) ?_
        refine XE.goto 2 d_Md_tryAgain_43 (by decide) ?_
        first | (rw [show tryL (k + 1) i m1 = tryL k (i + 1) m1 by show tryL k (i + 1) (tryS m1 i) = _; rw [tryS_neg h21]]; exact z) | exact ih (i + 1) (tryS m1 i) _ (try_store hB hD h1 (by omega) h21 hM2) ti.1 ti.2.1 ((hF.tr hF2).tr (FM.sI (Or.inr (by decide)))) (by omega) (by rw [ti.2.2]; omega)
      · have ti := try_inv hB hD h1 (by omega : i ≤ mQ m1)
        refine XE.aload_n d_Md_tryAgain_24 rfl ?_
        refine g_Md_35 d_Md_tryAgain_25 (by first | assumption | decide | omega) (by first | assumption | rfl) ?_
        refine XE.bipush (x := nI 6) d_Md_tryAgain_28 (by decide) ?_
        refine XE.iload_n d_Md_tryAgain_30 rfl ?_
        refine XE.imul d_Md_tryAgain_31 (by first | exact pk_mul _ _ | rfl) ?_
        refine XE.iconst (x := nI 5) d_Md_tryAgain_32 (by decide) ?_
        refine XE.iadd d_Md_tryAgain_33 (by first | exact nI_add _ _ | rfl) ?_
        refine XE.aload_n d_Md_tryAgain_34 rfl ?_
        refine XE.iload_n d_Md_tryAgain_35 rfl ?_
        refine k_Md_91 3 d_Md_tryAgain_36 (by omega) (Nat.le_of_ble_eq_true rfl) (by first | assumption | decide | omega) (Md_attempt_ok hM hB h1 (by omega) (wait_lt hB hD h1 (by omega) h21) (by have := hD.2.1; have := hD.2.2; have := wait_lt hB hD h1 (by omega) h21; omega) (by omega)) (fun x1 w2 hm1 hq1 => ?_)
        obtain ⟨rfl, hM2, hF2⟩ := hq1
        have e2 := hF2.2.1
        have s13' : wR w2 7 1 13 = 1 := hM2.1.2.2.2.2.2.2.2.2.1
        have l8' : wL w2 118 1 = 3120 := hM2.1.2.2.2.2.2.2.2.2.2.2.2.2.2.2.2.2.2.2.1
        refine XE.iast d_Md_tryAgain_39 (by decide) rfl (by first | assumption | decide | omega) (by first | assumption | exact ixn2 (by assumption) (by omega) (by omega)) ?_
        refine XE.iinc d_Md_tryAgain_40 rfl (inc_nI _) ?_
        refine XE.goto 2 d_Md_tryAgain_43 (by decide) ?_
        first | (rw [show tryL (k + 1) i m1 = tryL k (i + 1) m1 by show tryL k (i + 1) (tryS m1 i) = _; rw [tryS_neg h21]]; exact z) | exact ih (i + 1) (tryS m1 i) _ (try_store hB hD h1 (by omega) h21 hM2) ti.1 ti.2.1 ((hF.tr hF2).tr (FM.sI (Or.inr (by decide)))) (by omega) (by rw [ti.2.2]; omega)
  refine XE.iconst (x := nI 1) d_Md_tryAgain_0 (by decide) ?_
  refine XE.istore_n d_Md_tryAgain_1 (by decide) ?_
  exact loop (mQ m) 1 m w hM hB hD FM.rf (by omega) (by omega)
