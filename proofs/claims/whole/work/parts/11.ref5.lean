/-! the reference: breaks, sharing, grant -/
theorem RM.hset {w : WW} {m : MS} (hM : RM w m) {x f : Nat} {v : Int32} {h' : HR} (h1 : 1 ≤ x) (hf : f < 7) (e : ∀ g, g < 7 → hrF h' g = if g = f then v else hrF (mh m x) g) : RM (sI w 117 1 (7 * x + f) v) (setH m (uf (mh m) x h')) := by
  obtain ⟨hS, c0, c1, hLg, hT, hDm, hh, hH, hq, hQ, hk4, hK, hs⟩ := hM
  refine ⟨hS, c0, c1, hLg, hT, hDm, hh, ?_, hq, hQ, hk4, hK, hs⟩
  intro y y1 y2 g hg
  show wI (sI w 117 1 (7 * x + f) v) 117 1 (7 * y + g) = hrF (uf (mh m) x h' y) g
  by_cases h : y = x
  · subst h
    rw [uf_s, e g hg, wI_sI]
    by_cases h2 : g = f
    · rw [if_pos h2, if_pos ⟨rfl, rfl, by omega⟩]
    · rw [if_neg h2, if_neg (by omega)]
      exact hH y y1 y2 g hg
  · rw [uf_n _ _ h, wI_sI, if_neg (by omega)]
    exact hH y y1 y2 g hg
theorem Md_breaks_ok {w : WW} {m : MS} {d n : Nat} (hM : RM w m) (hB : WB m) (hn : n ≤ 24) (hd : 1 ≤ d) :
    E_Md_breaks d [.inr (7, 1), .inl (nI n)] w (fun r w' => r = some (.inl (bI (brkA m n))) ∧ RM w' (brkM m n) ∧ FM w w') := by
  refine S_Md_breaks ?_
  have b := hB.1
  let fn : Nat → Nat → HR := fun i x => if (1 ≤ x ∧ x < i) ∧ brkP m n x = true then hsG (mh m x) (nI 3) else mh m x
  have loop : ∀ k i c w0, i + k = mH m + 1 → 1 ≤ i → RM w0 (setH m (fn i)) → FM w w0 → X_Md_breaks d 4 [some (.inr (7, 1)), some (.inl (nI n)), some (.inl (bI c)), some (.inl (nI i))] [] w0 (fun r w' => r = some (.inl (bI (c || (List.range' i k).any (brkP m n)))) ∧ RM w' (setH m (fn (mH m + 1))) ∧ FM w w') := by
    intro k
    induction k with
    | zero =>
      intro i c w0 h1 h2 hR hF
      have hn : wI w0 7 1 10 = nI (mH m) := hR.2.2.2.2.2.2.1
      have e : i = mH m + 1 := h1
      subst e
      refine XE.iload_n d_Md_breaks_4 rfl ?_
      refine XE.aload_n d_Md_breaks_5 rfl ?_
      refine g_Md_41 d_Md_breaks_6 (by first | assumption | decide | omega) (by first | assumption | rfl) ?_
      refine XE.icmp_gt 65 d_Md_breaks_9 (by decide) (fun h9 => ?_) (fun h9 => absurd h9 ((by rw [lt_nI (by omega) (by omega)]; omega)))
      refine XE.iload_n d_Md_breaks_65 rfl ?_
      exact XE.rb d_Md_breaks_66 (bI_01 c) ⟨by simp, hR, hF⟩
    | succ k ih =>
      intro i c w0 h1 h2 hR hF
      have hn' : wI w0 7 1 10 = nI (mH m) := hR.2.2.2.2.2.2.1
      have s11 := hR.1.2.2.2.2.2.2.2.1
      have l7 := hR.1.2.2.2.2.2.2.2.2.2.2.2.2.2.2.2.2.2.1
      have hH : ∀ f, f < 7 → wI w0 117 1 (7 * i + f) = hrF (mh m i) f := fun f hf => by
        have := hR.2.2.2.2.2.2.2.1 i h2 (by show i ≤ mH m; omega) f hf
        rw [this]
        show hrF (fn i i) f = _
        simp [fn]
      have hc : ∀ f, f < 7 → E_Md_h 0 [.inr (7, 1), .inl (nI i), .inl (nI f)] w0 (fun r w' => r = some (.inl (hrF (mh m i) f)) ∧ w' = w0) := fun f hf => by
        rw [← hH f hf]
        exact Md_h_ok s11 l7 (by omega)
      have e1 : ¬ brkP m n i = true → fn i = fn (i + 1) ∧ (List.range' i (k + 1)).any (brkP m n) = (List.range' (i + 1) k).any (brkP m n) := fun h => by
        refine ⟨?_, by rw [List.range'_succ, List.any_cons]; simp [h]⟩
        funext x
        by_cases hx : x = i
        · subst hx; simp [fn, h]
        · have : (1 ≤ x ∧ x < i) ↔ (1 ≤ x ∧ x < i + 1) := by omega
          simp only [fn, this]
      have e2 : brkP m n i = true → uf (fn i) i (hsG (mh m i) (nI 3)) = fn (i + 1) ∧ (List.range' i (k + 1)).any (brkP m n) = true := fun h => by
        refine ⟨?_, by rw [List.range'_succ, List.any_cons]; simp [h]⟩
        funext x
        by_cases hx : x = i
        · subst hx; simp [fn, h, uf_s, h2]
        · rw [uf_n _ _ hx]
          have : (1 ≤ x ∧ x < i) ↔ (1 ≤ x ∧ x < i + 1) := by omega
          simp only [fn, this]
      have hpi : brkP m n i = true ↔ hO (mh m i) = true ∧ nI (hN (mh m i)) = nI n ∧ nI 2 ≤ hG (mh m i) := by
        have := hB.n24 h2 (by omega : i ≤ mH m)
        rw [eq_nI (by omega) (by omega)]
        simp [brkP]
      have hs2 : RM (sI w0 117 1 (7 * i + 3) (nI 3)) (setH m (uf (fn i) i (hsG (mh m i) (nI 3)))) := hR.hset (f := 3) (v := nI 3) (h' := hsG (mh m i) (nI 3)) h2 (by decide) (fun g hg => by
        show _ = if g = 3 then nI 3 else hrF (fn i i) g
        rw [show fn i i = mh m i by simp [fn]]
        match g, hg with
        | 0, _ => rfl
        | 1, _ => rfl
        | 2, _ => rfl
        | 3, _ => rfl
        | 4, _ => rfl
        | 5, _ => rfl
        | 6, _ => rfl)
      refine XE.iload_n d_Md_breaks_4 rfl ?_
      refine XE.aload_n d_Md_breaks_5 rfl ?_
      refine g_Md_41 d_Md_breaks_6 (by first | assumption | decide | omega) (by first | assumption | rfl) ?_
      refine XE.icmp_gt 65 d_Md_breaks_9 (by decide) (fun h9 => absurd h9 ((by rw [lt_nI (by omega) (by omega)]; omega))) (fun h9 => ?_)
      refine XE.aload_n d_Md_breaks_12 rfl ?_
      refine XE.iload_n d_Md_breaks_13 rfl ?_
      refine XE.bipush (x := nI 6) d_Md_breaks_14 (by decide) ?_
      refine k_Md_49 0 d_Md_breaks_16 (by omega) (Nat.le_of_ble_eq_true rfl) (by first | assumption | decide | omega) (hc 6 (by decide)) (fun r1 w1 hm1 hq1 => ?_)
      rw [hq1.1, hq1.2]
      clear hq1 hm1 r1 w1
      refine XE.if_eq 59 d_Md_breaks_19 (by decide) (fun h19 => ?_) (fun h19 => ?_)
      · have q := e1 (fun z => by rw [show hrF (mh m i) 6 = bI (hO (mh m i)) from rfl, (hpi.mp z).1] at h19; exact absurd h19 (by decide))
        refine XE.iinc d_Md_breaks_59 rfl (inc_nI _) ?_
        refine XE.goto 4 d_Md_breaks_62 (by decide) ?_
        first | (refine (ih (i + 1) c _ (by omega) (by omega) (by rw [← q.1]; exact hR) hF).mono (fun r w' z => ⟨z.1.trans ?_, z.2⟩); rw [q.2]) | (refine (ih (i + 1) true _ (by omega) (by omega) (by rw [← q.1]; exact hR2) (hF.tr (FM.sI (Or.inr (by decide))))).mono (fun r w' z => ⟨z.1.trans ?_, z.2⟩); rw [q.2]; simp)
      · refine XE.aload_n d_Md_breaks_22 rfl ?_
        refine XE.iload_n d_Md_breaks_23 rfl ?_
        refine XE.iconst (x := nI 0) d_Md_breaks_24 (by decide) ?_
        refine k_Md_49 0 d_Md_breaks_25 (by omega) (Nat.le_of_ble_eq_true rfl) (by first | assumption | decide | omega) (hc 0 (by decide)) (fun r1 w1 hm1 hq1 => ?_)
        rw [hq1.1, hq1.2]
        clear hq1 hm1 r1 w1
        refine XE.iload_n d_Md_breaks_28 rfl ?_
        refine XE.icmp_ne 59 d_Md_breaks_29 (by decide) (fun h29 => ?_) (fun h29 => ?_)
        · have q := e1 (fun z => h29 (hpi.mp z).2.1)
          refine XE.iinc d_Md_breaks_59 rfl (inc_nI _) ?_
          refine XE.goto 4 d_Md_breaks_62 (by decide) ?_
          first | (refine (ih (i + 1) c _ (by omega) (by omega) (by rw [← q.1]; exact hR) hF).mono (fun r w' z => ⟨z.1.trans ?_, z.2⟩); rw [q.2]) | (refine (ih (i + 1) true _ (by omega) (by omega) (by rw [← q.1]; exact hR2) (hF.tr (FM.sI (Or.inr (by decide))))).mono (fun r w' z => ⟨z.1.trans ?_, z.2⟩); rw [q.2]; simp)
        · refine XE.aload_n d_Md_breaks_32 rfl ?_
          refine XE.iload_n d_Md_breaks_33 rfl ?_
          refine XE.iconst (x := nI 3) d_Md_breaks_34 (by decide) ?_
          refine k_Md_49 0 d_Md_breaks_35 (by omega) (Nat.le_of_ble_eq_true rfl) (by first | assumption | decide | omega) (hc 3 (by decide)) (fun r1 w1 hm1 hq1 => ?_)
          rw [hq1.1, hq1.2]
          clear hq1 hm1 r1 w1
          refine XE.iconst (x := nI 2) d_Md_breaks_38 (by decide) ?_
          refine XE.icmp_ge 45 d_Md_breaks_39 (by decide) (fun h39 => ?_) (fun h39 => ?_)
          · have q0 := hpi.mpr ⟨(bI_eq1 _).mp ((bI_01 _).resolve_left h19), h29, h39⟩
            have q := e2 q0
            have hR2 := hs2
            refine XE.aload_n d_Md_breaks_45 rfl ?_
            refine g_Md_32 d_Md_breaks_46 (by first | assumption | decide | omega) (by first | assumption | rfl) ?_
            refine XE.bipush (x := nI 7) d_Md_breaks_49 (by decide) ?_
            refine XE.iload_n d_Md_breaks_51 rfl ?_
            refine XE.imul d_Md_breaks_52 (by first | exact pk_mul _ _ | rfl) ?_
            refine XE.iconst (x := nI 3) d_Md_breaks_53 (by decide) ?_
            refine XE.iadd d_Md_breaks_54 (by first | exact nI_add _ _ | rfl) ?_
            refine XE.iconst (x := nI 3) d_Md_breaks_55 (by decide) ?_
            refine XE.iast d_Md_breaks_56 (by decide) rfl (by first | assumption | decide | omega) (by first | assumption | exact ixn2 (by assumption) (by omega) (by omega)) ?_
            refine XE.iconst (x := nI 1) d_Md_breaks_57 (by decide) ?_
            refine XE.istore_n d_Md_breaks_58 (by decide) ?_
            refine XE.iinc d_Md_breaks_59 rfl (inc_nI _) ?_
            refine XE.goto 4 d_Md_breaks_62 (by decide) ?_
            first | (refine (ih (i + 1) c _ (by omega) (by omega) (by rw [← q.1]; exact hR) hF).mono (fun r w' z => ⟨z.1.trans ?_, z.2⟩); rw [q.2]) | (refine (ih (i + 1) true _ (by omega) (by omega) (by rw [← q.1]; exact hR2) (hF.tr (FM.sI (Or.inr (by decide))))).mono (fun r w' z => ⟨z.1.trans ?_, z.2⟩); rw [q.2]; simp)
          · have q := e1 (fun z => h39 (hpi.mp z).2.2)
            refine XE.goto 59 d_Md_breaks_42 (by decide) ?_
            refine XE.iinc d_Md_breaks_59 rfl (inc_nI _) ?_
            refine XE.goto 4 d_Md_breaks_62 (by decide) ?_
            first | (refine (ih (i + 1) c _ (by omega) (by omega) (by rw [← q.1]; exact hR) hF).mono (fun r w' z => ⟨z.1.trans ?_, z.2⟩); rw [q.2]) | (refine (ih (i + 1) true _ (by omega) (by omega) (by rw [← q.1]; exact hR2) (hF.tr (FM.sI (Or.inr (by decide))))).mono (fun r w' z => ⟨z.1.trans ?_, z.2⟩); rw [q.2]; simp)
  have f1 : fn 1 = mh m := by
    funext x
    simp only [fn]
    rw [if_neg (by omega)]
  have f2 : setH m (fn (mH m + 1)) = brkM m n := by
    unfold brkM
    congr 1
    funext x
    have : (1 ≤ x ∧ x < mH m + 1) ↔ (1 ≤ x ∧ x ≤ mH m) := by omega
    simp only [fn, this]
  refine XE.iconst (x := nI 0) d_Md_breaks_0 (by decide) ?_
  refine XE.istore_n d_Md_breaks_1 (by decide) ?_
  refine XE.iconst (x := nI 1) d_Md_breaks_2 (by decide) ?_
  refine XE.istore_n d_Md_breaks_3 (by decide) ?_
  refine (loop (mH m) 1 false w (by omega) (by omega) (by rw [f1]; exact hM) FM.rf).mono (fun r w' z => ⟨z.1.trans ?_, ?_, z.2.2⟩)
  rw [Bool.false_or]; rfl
  rw [← f2]; exact z.2.1
