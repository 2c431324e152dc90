/-! the reference: outcome, cancel, giveUp -/
def rqOf (m : MS) (v : Int32) : Nat := if 1 ≤ v ∧ v ≤ nI (mQ m) then v.toNatClampNeg else 0
theorem rqOf_nz {m : MS} (hB : WB m) {v : Int32} (h : 1 ≤ v ∧ v ≤ nI (mQ m)) : ∃ x, v = nI x ∧ 1 ≤ x ∧ x ≤ mQ m ∧ rqOf m v = x := by
  have b2 := hB.2.1
  obtain ⟨x, e1, e2, e3, e4⟩ := rng_nI (by omega) h.1 h.2
  exact ⟨x, e1, e2, e3, by unfold rqOf; rw [if_pos h, e4]⟩
def outM (m : MS) (v : Int32) : Int32 := if rqOf m v = 0 then -1 else qO (mq m (rqOf m v))
theorem Md_outcome_ok {w : WW} {m : MS} {d : Nat} (hM : RM w m) (hB : WB m) (hd : 1 ≤ d) (v : Int32) : E_Md_outcome d [.inr (7, 1), .inl v] w (fun r w' => r = some (.inl (outM m v)) ∧ w' = w) := by
  refine S_Md_outcome ?_
  have b2 := hB.2.1
  have hn : wI w 7 1 12 = nI (mQ m) := hM.2.2.2.2.2.2.2.2.1
  have s13 := hM.1.2.2.2.2.2.2.2.2.1
  have l8 := hM.1.2.2.2.2.2.2.2.2.2.2.2.2.2.2.2.2.2.2.1
  have hQ := hM.2.2.2.2.2.2.2.2.2.1.1
  by_cases hr : nI 1 ≤ v ∧ v ≤ nI (mQ m)
  · obtain ⟨x, rfl, x1, x2, ex⟩ := rqOf_nz hB hr
    have q5 : wI w 118 1 (6 * x + 5) = qO (mq m x) := hQ x x1 x2 5 (by decide)
    have e : outM m (nI x) = qO (mq m x) := by unfold outM; rw [ex, if_neg (by omega)]
    refine XE.iload_n d_Md_outcome_0 rfl ?_
    refine XE.iconst (x := nI 1) d_Md_outcome_1 (by decide) ?_
    refine XE.aload_n d_Md_outcome_2 rfl ?_
    refine g_Md_88 d_Md_outcome_3 (by first | assumption | decide | omega) (by first | assumption | rfl) ?_
    refine k_Md_45 0 d_Md_outcome_6 (by omega) (Nat.le_of_ble_eq_true rfl) (Md_in_ok (nI x) (nI 1) (nI (mQ m))) (fun r1 w1 hm1 hq1 => ?_)
    rw [hq1.1, hq1.2]
    clear hq1 hm1 r1 w1
    refine XE.if_eq 26 d_Md_outcome_9 (by decide) (fun h9 => absurd h9 ((fun z => (bI_and _ _).mp z hr))) (fun h9 => ?_)
    refine XE.aload_n d_Md_outcome_12 rfl ?_
    refine g_Md_35 d_Md_outcome_13 (by first | assumption | decide | omega) (by first | assumption | rfl) ?_
    refine XE.bipush (x := nI 6) d_Md_outcome_16 (by decide) ?_
    refine XE.iload_n d_Md_outcome_18 rfl ?_
    refine XE.imul d_Md_outcome_19 (by first | exact pk_mul _ _ | rfl) ?_
    refine XE.iconst (x := nI 5) d_Md_outcome_20 (by decide) ?_
    refine XE.iadd d_Md_outcome_21 (by first | exact nI_add _ _ | rfl) ?_
    refine XE.iald d_Md_outcome_22 (Or.inr ⟨by decide, rfl⟩) (by first | assumption | decide | omega) (by first | assumption | exact ixn2 (by assumption) (by omega) (by omega)) (by first | assumption | rfl) ?_
    refine XE.goto 27 d_Md_outcome_23 (by decide) ?_
    exact XE.ri d_Md_outcome_27 ⟨by rw [e], rfl⟩
  · have hz : rqOf m v = 0 := if_neg hr
    have e : outM m v = -1 := if_pos hz
    refine XE.iload_n d_Md_outcome_0 rfl ?_
    refine XE.iconst (x := nI 1) d_Md_outcome_1 (by decide) ?_
    refine XE.aload_n d_Md_outcome_2 rfl ?_
    refine g_Md_88 d_Md_outcome_3 (by first | assumption | decide | omega) (by first | assumption | rfl) ?_
    refine k_Md_45 0 d_Md_outcome_6 (by omega) (Nat.le_of_ble_eq_true rfl) (Md_in_ok v (nI 1) (nI (mQ m))) (fun r1 w1 hm1 hq1 => ?_)
    rw [hq1.1, hq1.2]
    clear hq1 hm1 r1 w1
    refine XE.if_eq 26 d_Md_outcome_9 (by decide) (fun h9 => ?_) (fun h9 => absurd h9 ((fun z => z ((bI_and _ _).mpr hr))))
    refine XE.iconst (x := (-1)) d_Md_outcome_26 (by decide) ?_
    exact XE.ri d_Md_outcome_27 ⟨by rw [e], rfl⟩
def canM (m : MS) (v : Int32) : Int32 × MS := if rqOf m v = 0 ∨ ¬ qO (mq m (rqOf m v)) = 0 then (-1, m) else (0, setQ m (uf (mq m) (rqOf m v) (qsO (mq m (rqOf m v)) (-9))))
theorem Md_cancel_ok {w : WW} {m : MS} {d : Nat} (hM : RM w m) (hB : WB m) (hd : 1 ≤ d) (v : Int32) : E_Md_cancel d [.inr (7, 1), .inl v] w (fun r w' => r = some (.inl (canM m v).1) ∧ RM w' (canM m v).2 ∧ FM w w') := by
  refine S_Md_cancel ?_
  have b2 := hB.2.1
  have hn : wI w 7 1 12 = nI (mQ m) := hM.2.2.2.2.2.2.2.2.1
  have s13 := hM.1.2.2.2.2.2.2.2.2.1
  have l8 := hM.1.2.2.2.2.2.2.2.2.2.2.2.2.2.2.2.2.2.2.1
  have hQ := hM.2.2.2.2.2.2.2.2.2.1.1
  by_cases hr : nI 1 ≤ v ∧ v ≤ nI (mQ m)
  · obtain ⟨x, rfl, x1, x2, ex⟩ := rqOf_nz hB hr
    have q5 : wI w 118 1 (6 * x + 5) = qO (mq m x) := hQ x x1 x2 5 (by decide)
    have e1 : ¬ qO (mq m x) = 0 → canM m (nI x) = (-1, m) := fun h => by unfold canM; rw [ex, if_pos (Or.inr h)]
    have e2 : qO (mq m x) = 0 → canM m (nI x) = (0, setQ m (uf (mq m) x (qsO (mq m x) (-9)))) := fun h => by unfold canM; rw [ex, if_neg (by rintro (z | z); omega; exact z h)]
    refine XE.iload_n d_Md_cancel_0 rfl ?_
    refine XE.iconst (x := nI 1) d_Md_cancel_1 (by decide) ?_
    refine XE.aload_n d_Md_cancel_2 rfl ?_
    refine g_Md_88 d_Md_cancel_3 (by first | assumption | decide | omega) (by first | assumption | rfl) ?_
    refine k_Md_45 0 d_Md_cancel_6 (by omega) (Nat.le_of_ble_eq_true rfl) (Md_in_ok (nI x) (nI 1) (nI (mQ m))) (fun r1 w1 hm1 hq1 => ?_)
    rw [hq1.1, hq1.2]
    clear hq1 hm1 r1 w1
    refine XE.if_eq 26 d_Md_cancel_9 (by decide) (fun h9 => absurd h9 ((fun z => (bI_and _ _).mp z hr))) (fun h9 => ?_)
    refine XE.aload_n d_Md_cancel_12 rfl ?_
    refine g_Md_35 d_Md_cancel_13 (by first | assumption | decide | omega) (by first | assumption | rfl) ?_
    refine XE.bipush (x := nI 6) d_Md_cancel_16 (by decide) ?_
    refine XE.iload_n d_Md_cancel_18 rfl ?_
    refine XE.imul d_Md_cancel_19 (by first | exact pk_mul _ _ | rfl) ?_
    refine XE.iconst (x := nI 5) d_Md_cancel_20 (by decide) ?_
    refine XE.iadd d_Md_cancel_21 (by first | exact nI_add _ _ | rfl) ?_
    refine XE.iald d_Md_cancel_22 (Or.inr ⟨by decide, rfl⟩) (by first | assumption | decide | omega) (by first | assumption | exact ixn2 (by assumption) (by omega) (by omega)) (by first | assumption | rfl) ?_
    refine XE.if_eq 28 d_Md_cancel_23 (by decide) (fun h23 => ?_) (fun h23 => ?_)
    · refine XE.aload_n d_Md_cancel_28 rfl ?_
      refine g_Md_35 d_Md_cancel_29 (by first | assumption | decide | omega) (by first | assumption | rfl) ?_
      refine XE.bipush (x := nI 6) d_Md_cancel_32 (by decide) ?_
      refine XE.iload_n d_Md_cancel_34 rfl ?_
      refine XE.imul d_Md_cancel_35 (by first | exact pk_mul _ _ | rfl) ?_
      refine XE.iconst (x := nI 5) d_Md_cancel_36 (by decide) ?_
      refine XE.iadd d_Md_cancel_37 (by first | exact nI_add _ _ | rfl) ?_
      refine XE.bipush (x := (-9)) d_Md_cancel_38 (by decide) ?_
      refine XE.iast d_Md_cancel_40 (by decide) rfl (by first | assumption | decide | omega) (by first | assumption | exact ixn2 (by assumption) (by omega) (by omega)) ?_
      refine XE.iconst (x := nI 0) d_Md_cancel_41 (by decide) ?_
      exact XE.ri d_Md_cancel_42 ⟨by rw [e2 h23]; rfl, by rw [e2 h23]; exact hM.qset x1 x2, FM.sI (Or.inr (by decide))⟩
    · refine XE.iconst (x := (-1)) d_Md_cancel_26 (by decide) ?_
      exact XE.ri d_Md_cancel_27 ⟨by rw [e1 h23], by rw [e1 h23]; exact hM, FM.rf⟩
  · have hz : rqOf m v = 0 := if_neg hr
    have e : canM m v = (-1, m) := if_pos (Or.inl hz)
    refine XE.iload_n d_Md_cancel_0 rfl ?_
    refine XE.iconst (x := nI 1) d_Md_cancel_1 (by decide) ?_
    refine XE.aload_n d_Md_cancel_2 rfl ?_
    refine g_Md_88 d_Md_cancel_3 (by first | assumption | decide | omega) (by first | assumption | rfl) ?_
    refine k_Md_45 0 d_Md_cancel_6 (by omega) (Nat.le_of_ble_eq_true rfl) (Md_in_ok v (nI 1) (nI (mQ m))) (fun r1 w1 hm1 hq1 => ?_)
    rw [hq1.1, hq1.2]
    clear hq1 hm1 r1 w1
    refine XE.if_eq 26 d_Md_cancel_9 (by decide) (fun h9 => ?_) (fun h9 => absurd h9 ((fun z => z ((bI_and _ _).mpr hr))))
    refine XE.iconst (x := (-1)) d_Md_cancel_26 (by decide) ?_
    exact XE.ri d_Md_cancel_27 ⟨by rw [e], by rw [e]; exact hM, FM.rf⟩
def givM (m : MS) (v : Int32) : Int32 × MS :=
  if hOf m v = 0 ∨ hG (mh m (hOf m v)) = 0 then (-1, m)
  else if hG (mh m (hOf m v)) = nI 1 then (nI 0, setH m (uf (mh m) (hOf m v) (hsG (mh m (hOf m v)) (nI 0))))
  else if hG (mh m (hOf m v)) = nI 3 then (nI 1, tryM (setH m (uf (mh m) (hOf m v) (hsG (mh m (hOf m v)) (nI 1)))))
  else (nI 1, setH m (uf (mh m) (hOf m v) (hsG (mh m (hOf m v)) (nI 1))))
theorem WB.seth {m : MS} (hB : WB m) {f : Nat → HR} (h : ∀ x, 1 ≤ x → x ≤ mH m → hN (f x) = hN (mh m x) ∧ (hO (f x) = true → hO (mh m x) = true)) : WB (setH m f) := by
  obtain ⟨b1, b2, b3, b4, b5, b6, b7, b8, b9, b10⟩ := hB
  refine ⟨b1, b2, b3, b4, b5, fun x h1 h2 => ?_, b7, b8, fun x h1 h2 h3 => ?_, b10⟩
  · show hN (f x) ≤ 24
    rw [(h x h1 h2).1]; exact b6 x h1 h2
  · show tT (mT m) (hN (f x)) = true
    rw [(h x h1 h2).1]; exact b9 x h1 h2 ((h x h1 h2).2 h3)
theorem RM.gset {w : WW} {m : MS} (hM : RM w m) {x : Nat} (v : Int32) (h1 : 1 ≤ x) : RM (sI w 117 1 (7 * x + 3) v) (setH m (uf (mh m) x (hsG (mh m x) v))) := hM.hset h1 (by decide) (fun g hg => by
  match g, hg with
  | 0, _ => rfl
  | 1, _ => rfl
  | 2, _ => rfl
  | 3, _ => rfl
  | 4, _ => rfl
  | 5, _ => rfl
  | 6, _ => rfl)
theorem WB.gset {m : MS} (hB : WB m) (x : Nat) (v : Int32) : WB (setH m (uf (mh m) x (hsG (mh m x) v))) := hB.seth (fun y _ _ => by
  by_cases h : y = x
  · subst h; rw [uf_s]; exact ⟨rfl, id⟩
  · rw [uf_n _ _ h]; exact ⟨rfl, id⟩)
theorem Md_giveUp_ok {w : WW} {m : MS} {c d : Nat} (hM : RM w m) (hB : WB m) (hD : BD c m) (hd : 5 ≤ d) (v : Int32) : E_Md_giveUp d [.inr (7, 1), .inl v] w (fun r w' => r = some (.inl (givM m v).1) ∧ RM w' (givM m v).2 ∧ FM w w') := by
  refine S_Md_giveUp ?_
  have s11 := hM.1.2.2.2.2.2.2.2.1
  have l7 := hM.1.2.2.2.2.2.2.2.2.2.2.2.2.2.2.2.2.2.1
  have b1 := hB.1
  have hsh := Md_shut_ok (d := 2) hM hB v (by omega)
  by_cases hx : hOf m v = 0
  · have e : givM m v = (-1, m) := if_pos (Or.inl hx)
    refine XE.aload_n d_Md_giveUp_0 rfl ?_
    refine XE.iload_n d_Md_giveUp_1 rfl ?_
    refine k_Md_94 2 d_Md_giveUp_2 (by omega) (Nat.le_of_ble_eq_true rfl) (by first | assumption | decide | omega) hsh (fun r1 w1 hm1 hq1 => ?_)
    rw [hq1.1, hq1.2]
    clear hq1 hm1 r1 w1
    refine XE.if_ne 17 d_Md_giveUp_5 (by decide) (fun h5 => ?_) (fun h5 => absurd h5 ((by rw [hx]; decide)))
    refine XE.iconst (x := (-1)) d_Md_giveUp_17 (by decide) ?_
    exact XE.ri d_Md_giveUp_18 ⟨by rw [e], by rw [e]; exact hM, FM.rf⟩
  · obtain ⟨ev, x1, x2, x3⟩ := hOf_nz hB hx
    generalize hX : hOf m v = x at *
    subst ev
    have hc : ∀ f, f < 7 → E_Md_h 0 [.inr (7, 1), .inl (nI x), .inl (nI f)] w (fun r w' => r = some (.inl (hrF (mh m x) f)) ∧ w' = w) := fun f hf => Md_h_m f hM hB x1 x2 hf
    have eg : givM m (nI x) = if x = 0 ∨ hG (mh m x) = 0 then (-1, m)
        else if hG (mh m x) = nI 1 then (nI 0, setH m (uf (mh m) x (hsG (mh m x) (nI 0))))
        else if hG (mh m x) = nI 3 then (nI 1, tryM (setH m (uf (mh m) x (hsG (mh m x) (nI 1)))))
        else (nI 1, setH m (uf (mh m) x (hsG (mh m x) (nI 1)))) := by unfold givM; rw [hX]
    have g0 : ¬ hG (mh m x) = 0 → ¬ (x = 0 ∨ hG (mh m x) = 0) := fun h z => z.elim hx h
    have t0 : (x == 0) = false := by simp [hx]
    by_cases hg0 : hG (mh m x) = 0
    · have e : givM m (nI x) = (-1, m) := by rw [eg, if_pos (Or.inr hg0)]
      refine XE.aload_n d_Md_giveUp_0 rfl ?_
      refine XE.iload_n d_Md_giveUp_1 rfl ?_
      refine k_Md_94 2 d_Md_giveUp_2 (by omega) (Nat.le_of_ble_eq_true rfl) (by first | assumption | decide | omega) hsh (fun r1 w1 hm1 hq1 => ?_)
      rw [hq1.1, hq1.2]
      clear hq1 hm1 r1 w1
      refine XE.if_ne 17 d_Md_giveUp_5 (by decide) (fun h5 => absurd h5 ((fun z => z (by rw [t0]; rfl)))) (fun h5 => ?_)
      refine XE.aload_n d_Md_giveUp_8 rfl ?_
      refine XE.iload_n d_Md_giveUp_9 rfl ?_
      refine XE.iconst (x := nI 3) d_Md_giveUp_10 (by decide) ?_
      refine k_Md_49 0 d_Md_giveUp_11 (by omega) (Nat.le_of_ble_eq_true rfl) (by first | assumption | decide | omega) (hc 3 (by decide)) (fun r1 w1 hm1 hq1 => ?_)
      rw [hq1.1, hq1.2]
      clear hq1 hm1 r1 w1
      refine XE.if_ne 19 d_Md_giveUp_14 (by decide) (fun h14 => absurd h14 ((fun z => z hg0))) (fun h14 => ?_)
      refine XE.iconst (x := (-1)) d_Md_giveUp_17 (by decide) ?_
      exact XE.ri d_Md_giveUp_18 ⟨by rw [e], by rw [e]; exact hM, FM.rf⟩
    · by_cases h1 : hG (mh m x) = nI 1
      · have e : givM m (nI x) = (nI 0, setH m (uf (mh m) x (hsG (mh m x) (nI 0)))) := by rw [eg, if_neg (g0 hg0), if_pos h1]
        refine XE.aload_n d_Md_giveUp_0 rfl ?_
        refine XE.iload_n d_Md_giveUp_1 rfl ?_
        refine k_Md_94 2 d_Md_giveUp_2 (by omega) (Nat.le_of_ble_eq_true rfl) (by first | assumption | decide | omega) hsh (fun r1 w1 hm1 hq1 => ?_)
        rw [hq1.1, hq1.2]
        clear hq1 hm1 r1 w1
        refine XE.if_ne 17 d_Md_giveUp_5 (by decide) (fun h5 => absurd h5 ((fun z => z (by rw [t0]; rfl)))) (fun h5 => ?_)
        refine XE.aload_n d_Md_giveUp_8 rfl ?_
        refine XE.iload_n d_Md_giveUp_9 rfl ?_
        refine XE.iconst (x := nI 3) d_Md_giveUp_10 (by decide) ?_
        refine k_Md_49 0 d_Md_giveUp_11 (by omega) (Nat.le_of_ble_eq_true rfl) (by first | assumption | decide | omega) (hc 3 (by decide)) (fun r1 w1 hm1 hq1 => ?_)
        rw [hq1.1, hq1.2]
        clear hq1 hm1 r1 w1
        refine XE.if_ne 19 d_Md_giveUp_14 (by decide) (fun h14 => ?_) (fun h14 => absurd h14 (hg0))
        refine XE.aload_n d_Md_giveUp_19 rfl ?_
        refine XE.iload_n d_Md_giveUp_20 rfl ?_
        refine XE.iconst (x := nI 3) d_Md_giveUp_21 (by decide) ?_
        refine k_Md_49 0 d_Md_giveUp_22 (by omega) (Nat.le_of_ble_eq_true rfl) (by first | assumption | decide | omega) (hc 3 (by decide)) (fun r1 w1 hm1 hq1 => ?_)
        rw [hq1.1, hq1.2]
        clear hq1 hm1 r1 w1
        refine XE.istore_n d_Md_giveUp_25 (by decide) ?_
        refine XE.aload_n d_Md_giveUp_26 rfl ?_
        refine g_Md_32 d_Md_giveUp_27 (by first | assumption | decide | omega) (by first | assumption | rfl) ?_
        refine XE.bipush (x := nI 7) d_Md_giveUp_30 (by decide) ?_
        refine XE.iload_n d_Md_giveUp_32 rfl ?_
        refine XE.imul d_Md_giveUp_33 (by first | exact pk_mul _ _ | rfl) ?_
        refine XE.iconst (x := nI 3) d_Md_giveUp_34 (by decide) ?_
        refine XE.iadd d_Md_giveUp_35 (by first | exact nI_add _ _ | rfl) ?_
        refine XE.iload_n d_Md_giveUp_36 rfl ?_
        refine XE.iconst (x := nI 1) d_Md_giveUp_37 (by decide) ?_
        refine XE.icmp_ne 45 d_Md_giveUp_38 (by decide) (fun h38 => absurd h38 ((fun z => z h1))) (fun h38 => ?_)
        refine XE.iconst (x := nI 0) d_Md_giveUp_41 (by decide) ?_
        refine XE.goto 46 d_Md_giveUp_42 (by decide) ?_
        refine XE.iast d_Md_giveUp_46 (by decide) rfl (by first | assumption | decide | omega) (by first | assumption | exact ixn2 (by assumption) (by omega) (by omega)) ?_
        refine XE.iload_n d_Md_giveUp_47 rfl ?_
        refine XE.iconst (x := nI 3) d_Md_giveUp_48 (by decide) ?_
        refine XE.icmp_ne 56 d_Md_giveUp_49 (by decide) (fun h49 => ?_) (fun h49 => absurd h49 ((fun z => absurd (h1.symm.trans z) (by decide))))
        refine XE.iload_n d_Md_giveUp_56 rfl ?_
        refine XE.iconst (x := nI 1) d_Md_giveUp_57 (by decide) ?_
        refine XE.icmp_ne 65 d_Md_giveUp_58 (by decide) (fun h58 => absurd h58 ((fun z => z h1))) (fun h58 => ?_)
        refine XE.iconst (x := nI 0) d_Md_giveUp_61 (by decide) ?_
        refine XE.goto 66 d_Md_giveUp_62 (by decide) ?_
        exact XE.ri d_Md_giveUp_66 ⟨by rw [e], by rw [e]; exact hM.gset (nI 0) x1, FM.sI (Or.inr (by decide))⟩
      · by_cases h3 : hG (mh m x) = nI 3
        · have e : givM m (nI x) = (nI 1, tryM (setH m (uf (mh m) x (hsG (mh m x) (nI 1))))) := by rw [eg, if_neg (g0 hg0), if_neg h1, if_pos h3]
          refine XE.aload_n d_Md_giveUp_0 rfl ?_
          refine XE.iload_n d_Md_giveUp_1 rfl ?_
          refine k_Md_94 2 d_Md_giveUp_2 (by omega) (Nat.le_of_ble_eq_true rfl) (by first | assumption | decide | omega) hsh (fun r1 w1 hm1 hq1 => ?_)
          rw [hq1.1, hq1.2]
          clear hq1 hm1 r1 w1
          refine XE.if_ne 17 d_Md_giveUp_5 (by decide) (fun h5 => absurd h5 ((fun z => z (by rw [t0]; rfl)))) (fun h5 => ?_)
          refine XE.aload_n d_Md_giveUp_8 rfl ?_
          refine XE.iload_n d_Md_giveUp_9 rfl ?_
          refine XE.iconst (x := nI 3) d_Md_giveUp_10 (by decide) ?_
          refine k_Md_49 0 d_Md_giveUp_11 (by omega) (Nat.le_of_ble_eq_true rfl) (by first | assumption | decide | omega) (hc 3 (by decide)) (fun r1 w1 hm1 hq1 => ?_)
          rw [hq1.1, hq1.2]
          clear hq1 hm1 r1 w1
          refine XE.if_ne 19 d_Md_giveUp_14 (by decide) (fun h14 => ?_) (fun h14 => absurd h14 (hg0))
          refine XE.aload_n d_Md_giveUp_19 rfl ?_
          refine XE.iload_n d_Md_giveUp_20 rfl ?_
          refine XE.iconst (x := nI 3) d_Md_giveUp_21 (by decide) ?_
          refine k_Md_49 0 d_Md_giveUp_22 (by omega) (Nat.le_of_ble_eq_true rfl) (by first | assumption | decide | omega) (hc 3 (by decide)) (fun r1 w1 hm1 hq1 => ?_)
          rw [hq1.1, hq1.2]
          clear hq1 hm1 r1 w1
          refine XE.istore_n d_Md_giveUp_25 (by decide) ?_
          refine XE.aload_n d_Md_giveUp_26 rfl ?_
          refine g_Md_32 d_Md_giveUp_27 (by first | assumption | decide | omega) (by first | assumption | rfl) ?_
          refine XE.bipush (x := nI 7) d_Md_giveUp_30 (by decide) ?_
          refine XE.iload_n d_Md_giveUp_32 rfl ?_
          refine XE.imul d_Md_giveUp_33 (by first | exact pk_mul _ _ | rfl) ?_
          refine XE.iconst (x := nI 3) d_Md_giveUp_34 (by decide) ?_
          refine XE.iadd d_Md_giveUp_35 (by first | exact nI_add _ _ | rfl) ?_
          refine XE.iload_n d_Md_giveUp_36 rfl ?_
          refine XE.iconst (x := nI 1) d_Md_giveUp_37 (by decide) ?_
          refine XE.icmp_ne 45 d_Md_giveUp_38 (by decide) (fun h38 => ?_) (fun h38 => absurd h38 (h1))
          refine XE.iconst (x := nI 1) d_Md_giveUp_45 (by decide) ?_
          refine XE.iast d_Md_giveUp_46 (by decide) rfl (by first | assumption | decide | omega) (by first | assumption | exact ixn2 (by assumption) (by omega) (by omega)) ?_
          refine XE.iload_n d_Md_giveUp_47 rfl ?_
          refine XE.iconst (x := nI 3) d_Md_giveUp_48 (by decide) ?_
          refine XE.icmp_ne 56 d_Md_giveUp_49 (by decide) (fun h49 => absurd h49 ((fun z => z h3))) (fun h49 => ?_)
          refine XE.aload_n d_Md_giveUp_52 rfl ?_
          refine k_Md_97 4 d_Md_giveUp_53 (by omega) (Nat.le_of_ble_eq_true rfl) (by first | assumption | decide | omega) (Md_tryAgain_ok (c := c) (hM.gset (nI 1) x1) (hB.gset x (nI 1)) hD (by omega)) (fun y1 w2 hm1 hq1 => ?_)
          obtain ⟨rfl, hM2, hF2⟩ := hq1
          refine XE.iload_n d_Md_giveUp_56 rfl ?_
          refine XE.iconst (x := nI 1) d_Md_giveUp_57 (by decide) ?_
          refine XE.icmp_ne 65 d_Md_giveUp_58 (by decide) (fun h58 => ?_) (fun h58 => absurd h58 (h1))
          refine XE.iconst (x := nI 1) d_Md_giveUp_65 (by decide) ?_
          exact XE.ri d_Md_giveUp_66 ⟨by rw [e], by rw [e]; exact hM2, (FM.sI (Or.inr (by decide))).tr hF2⟩
        · have e : givM m (nI x) = (nI 1, setH m (uf (mh m) x (hsG (mh m x) (nI 1)))) := by rw [eg, if_neg (g0 hg0), if_neg h1, if_neg h3]
          refine XE.aload_n d_Md_giveUp_0 rfl ?_
          refine XE.iload_n d_Md_giveUp_1 rfl ?_
          refine k_Md_94 2 d_Md_giveUp_2 (by omega) (Nat.le_of_ble_eq_true rfl) (by first | assumption | decide | omega) hsh (fun r1 w1 hm1 hq1 => ?_)
          rw [hq1.1, hq1.2]
          clear hq1 hm1 r1 w1
          refine XE.if_ne 17 d_Md_giveUp_5 (by decide) (fun h5 => absurd h5 ((fun z => z (by rw [t0]; rfl)))) (fun h5 => ?_)
          refine XE.aload_n d_Md_giveUp_8 rfl ?_
          refine XE.iload_n d_Md_giveUp_9 rfl ?_
          refine XE.iconst (x := nI 3) d_Md_giveUp_10 (by decide) ?_
          refine k_Md_49 0 d_Md_giveUp_11 (by omega) (Nat.le_of_ble_eq_true rfl) (by first | assumption | decide | omega) (hc 3 (by decide)) (fun r1 w1 hm1 hq1 => ?_)
          rw [hq1.1, hq1.2]
          clear hq1 hm1 r1 w1
          refine XE.if_ne 19 d_Md_giveUp_14 (by decide) (fun h14 => ?_) (fun h14 => absurd h14 (hg0))
          refine XE.aload_n d_Md_giveUp_19 rfl ?_
          refine XE.iload_n d_Md_giveUp_20 rfl ?_
          refine XE.iconst (x := nI 3) d_Md_giveUp_21 (by decide) ?_
          refine k_Md_49 0 d_Md_giveUp_22 (by omega) (Nat.le_of_ble_eq_true rfl) (by first | assumption | decide | omega) (hc 3 (by decide)) (fun r1 w1 hm1 hq1 => ?_)
          rw [hq1.1, hq1.2]
          clear hq1 hm1 r1 w1
          refine XE.istore_n d_Md_giveUp_25 (by decide) ?_
          refine XE.aload_n d_Md_giveUp_26 rfl ?_
          refine g_Md_32 d_Md_giveUp_27 (by first | assumption | decide | omega) (by first | assumption | rfl) ?_
          refine XE.bipush (x := nI 7) d_Md_giveUp_30 (by decide) ?_
          refine XE.iload_n d_Md_giveUp_32 rfl ?_
          refine XE.imul d_Md_giveUp_33 (by first | exact pk_mul _ _ | rfl) ?_
          refine XE.iconst (x := nI 3) d_Md_giveUp_34 (by decide) ?_
          refine XE.iadd d_Md_giveUp_35 (by first | exact nI_add _ _ | rfl) ?_
          refine XE.iload_n d_Md_giveUp_36 rfl ?_
          refine XE.iconst (x := nI 1) d_Md_giveUp_37 (by decide) ?_
          refine XE.icmp_ne 45 d_Md_giveUp_38 (by decide) (fun h38 => ?_) (fun h38 => absurd h38 (h1))
          refine XE.iconst (x := nI 1) d_Md_giveUp_45 (by decide) ?_
          refine XE.iast d_Md_giveUp_46 (by decide) rfl (by first | assumption | decide | omega) (by first | assumption | exact ixn2 (by assumption) (by omega) (by omega)) ?_
          refine XE.iload_n d_Md_giveUp_47 rfl ?_
          refine XE.iconst (x := nI 3) d_Md_giveUp_48 (by decide) ?_
          refine XE.icmp_ne 56 d_Md_giveUp_49 (by decide) (fun h49 => ?_) (fun h49 => absurd h49 (h3))
          refine XE.iload_n d_Md_giveUp_56 rfl ?_
          refine XE.iconst (x := nI 1) d_Md_giveUp_57 (by decide) ?_
          refine XE.icmp_ne 65 d_Md_giveUp_58 (by decide) (fun h58 => ?_) (fun h58 => absurd h58 (h1))
          refine XE.iconst (x := nI 1) d_Md_giveUp_65 (by decide) ?_
          exact XE.ri d_Md_giveUp_66 ⟨by rw [e], by rw [e]; exact hM.gset (nI 1) x1, FM.sI (Or.inr (by decide))⟩
