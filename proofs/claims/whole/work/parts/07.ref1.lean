/-! the reference's small methods, over its arrays -/
theorem Md_in_ok {w : WW} {d : Nat} (v a b : Int32) : E_Md_in d [.inl v, .inl a, .inl b] w (fun r w' => r = some (.inl (bI (decide (a ≤ v) && decide (v ≤ b)))) ∧ w' = w) := by
  refine S_Md_in ?_
  have t : ∀ x : Bool, RT (some .boolean) (some (.inl (bI x))) := fun x => bI_01 x
  refine XE.iload_n d_Md_in_0 rfl ?_
  refine XE.iload_n d_Md_in_1 rfl ?_
  refine XE.icmp_lt 14 d_Md_in_2 (by decide) (fun h2 => ?_) (fun h2 => ?_)
  · have e : (decide (a ≤ v) && decide (v ≤ b)) = false := by simp [Int32.not_le.mpr h2]
    refine XE.iconst (x := nI 0) d_Md_in_14 (by decide) ?_
    exact XE.retn (r := some (.inl (bI (decide (a ≤ v) && decide (v ≤ b))))) d_Md_in_15 (t _) (by rw [e]; rfl) ⟨rfl, rfl⟩
  · refine XE.iload_n d_Md_in_5 rfl ?_
    refine XE.iload_n d_Md_in_6 rfl ?_
    refine XE.icmp_gt 14 d_Md_in_7 (by decide) (fun h7 => ?_) (fun h7 => ?_)
    · have e : (decide (a ≤ v) && decide (v ≤ b)) = false := by simp [Int32.not_le.mpr h7]
      refine XE.iconst (x := nI 0) d_Md_in_14 (by decide) ?_
      exact XE.retn (r := some (.inl (bI (decide (a ≤ v) && decide (v ≤ b))))) d_Md_in_15 (t _) (by rw [e]; rfl) ⟨rfl, rfl⟩
    · have e : (decide (a ≤ v) && decide (v ≤ b)) = true := by simp [Int32.not_lt.mp h2, Int32.not_lt.mp h7]
      refine XE.iconst (x := nI 1) d_Md_in_10 (by decide) ?_
      refine XE.goto 15 d_Md_in_11 (by decide) ?_
      exact XE.retn (r := some (.inl (bI (decide (a ≤ v) && decide (v ≤ b))))) d_Md_in_15 (t _) (by rw [e]; rfl) ⟨rfl, rfl⟩
theorem Md_h_ok {w : WW} {d x f : Nat} (h1 : wR w 7 1 11 = 1) (h2 : wL w 117 1 = 3640) (hx : 7 * x + f < 3640) : E_Md_h d [.inr (7, 1), .inl (nI x), .inl (nI f)] w (fun r w' => r = some (.inl (wI w 117 1 (7 * x + f))) ∧ w' = w) := by
  refine S_Md_h ?_
  refine XE.aload_n d_Md_h_0 rfl ?_
  refine g_Md_32 d_Md_h_1 (by first | assumption | decide | omega) (by first | assumption | rfl) ?_
  refine XE.bipush (x := nI 7) d_Md_h_4 (by decide) ?_
  refine XE.iload_n d_Md_h_6 rfl ?_
  refine XE.imul d_Md_h_7 (by first | exact pk_mul _ _ | rfl) ?_
  refine XE.iload_n d_Md_h_8 rfl ?_
  refine XE.iadd d_Md_h_9 (by first | exact nI_add _ _ | rfl) ?_
  refine XE.iald d_Md_h_10 (Or.inr ⟨by decide, rfl⟩) (by first | assumption | decide | omega) (by first | assumption | exact ixn2 (by assumption) (by omega) (by omega)) (by first | assumption | rfl) ?_
  exact XE.ri d_Md_h_11 ⟨rfl, rfl⟩
/-- the handle's fields as the model has them -/
theorem Md_h_m {w : WW} {m : MS} {d x : Nat} (f : Nat) (hM : RM w m) (hB : WB m) (h1 : 1 ≤ x) (h2 : x ≤ mH m) (hf : f < 7) : E_Md_h d [.inr (7, 1), .inl (nI x), .inl (nI f)] w (fun r w' => r = some (.inl (hrF (mh m x) f)) ∧ w' = w) := by
  have b := hB.1
  obtain ⟨hS, -, -, -, -, -, -, hH, -⟩ := hM
  have e := hH x h1 h2 f hf
  rw [← e]
  exact Md_h_ok hS.2.2.2.2.2.2.2.1 hS.2.2.2.2.2.2.2.2.2.2.2.2.2.2.2.2.2.1 (by omega)
theorem Md_shut_ok {w : WW} {m : MS} {d : Nat} (hM : RM w m) (hB : WB m) (v : Int32) (hd : 1 ≤ d) : E_Md_shut d [.inr (7, 1), .inl v] w (fun r w' => r = some (.inl (bI (hOf m v == 0))) ∧ w' = w) := by
  refine S_Md_shut ?_
  have b := hB.1
  have hn : wI w 7 1 10 = nI (mH m) := hM.2.2.2.2.2.2.1
  have k1 : bI (decide (nI 1 ≤ v) && decide (v ≤ nI (mH m))) = 0 → (hOf m v == 0) = true := by
    intro h
    rw [bI_eq0] at h
    unfold hOf
    rw [if_neg]
    · rfl
    · rintro ⟨c1, c2, -⟩
      have c1 : nI 1 ≤ v := c1
      simp [c1, c2] at h
  have k2 : ¬ bI (decide (nI 1 ≤ v) && decide (v ≤ nI (mH m))) = 0 → ∃ x, v = nI x ∧ 1 ≤ x ∧ x ≤ mH m ∧ v.toNatClampNeg = x := by
    intro h
    rw [bI_eq0, Bool.not_eq_false, Bool.and_eq_true, decide_eq_true_eq, decide_eq_true_eq] at h
    exact rng_nI (by omega) h.1 h.2
  have k3 : ∀ x, 1 ≤ x → x ≤ mH m → (¬ hrF (mh m x) 6 = 0 → (hOf m (nI x) == 0) = false) ∧ (hrF (mh m x) 6 = 0 → (hOf m (nI x) == 0) = true) := by
    intro x x1 x2
    have e : (nI x).toNatClampNeg = x := nI_clamp (by omega)
    refine ⟨fun h => ?_, fun h => ?_⟩
    · have h : ¬ bI (hO (mh m x)) = 0 := h
      rw [bI_eq0, Bool.not_eq_false] at h
      rw [hOf_of hB x1 x2 h]
      simp; omega
    · have h : bI (hO (mh m x)) = 0 := h
      rw [bI_eq0] at h
      unfold hOf
      rw [e, if_neg (by rw [h]; rintro ⟨-, -, c⟩; cases c)]
      rfl
  refine XE.iload_n d_Md_shut_0 rfl ?_
  refine XE.iconst (x := nI 1) d_Md_shut_1 (by decide) ?_
  refine XE.aload_n d_Md_shut_2 rfl ?_
  refine g_Md_41 d_Md_shut_3 (by first | assumption | decide | omega) (by first | assumption | rfl) ?_
  refine k_Md_45 0 d_Md_shut_6 (by omega) (Nat.le_of_ble_eq_true rfl) (Md_in_ok v (nI 1) (nI (mH m))) (fun r1 w1 hm1 hq1 => ?_)
  rw [hq1.1, hq1.2]
  clear hq1 hm1 r1 w1
  refine XE.if_eq 22 d_Md_shut_9 (by decide) (fun h9 => ?_) (fun h9 => ?_)
  · have e := k1 h9
    refine XE.iconst (x := nI 1) d_Md_shut_22 (by decide) ?_
    refine XE.goto 27 d_Md_shut_23 (by decide) ?_
    exact XE.rb d_Md_shut_27 (by decide) ⟨by rw [e]; rfl, rfl⟩
  · obtain ⟨x, rfl, x1, x2, -⟩ := k2 h9
    refine XE.aload_n d_Md_shut_12 rfl ?_
    refine XE.iload_n d_Md_shut_13 rfl ?_
    refine XE.bipush (x := nI 6) d_Md_shut_14 (by decide) ?_
    refine k_Md_49 0 d_Md_shut_16 (by omega) (Nat.le_of_ble_eq_true rfl) (by first | assumption | decide | omega) (Md_h_m 6 hM hB x1 x2 (by decide)) (fun r1 w1 hm1 hq1 => ?_)
    rw [hq1.1, hq1.2]
    clear hq1 hm1 r1 w1
    refine XE.if_ne 26 d_Md_shut_19 (by decide) (fun h19 => ?_) (fun h19 => ?_)
    · have e := (k3 x x1 x2).1 h19
      refine XE.iconst (x := nI 0) d_Md_shut_26 (by decide) ?_
      exact XE.rb d_Md_shut_27 (by decide) ⟨by rw [e]; rfl, rfl⟩
    · have e := (k3 x x1 x2).2 h19
      refine XE.iconst (x := nI 1) d_Md_shut_22 (by decide) ?_
      refine XE.goto 27 d_Md_shut_23 (by decide) ?_
      exact XE.rb d_Md_shut_27 (by decide) ⟨by rw [e]; rfl, rfl⟩
/-- openOf, of all handles (g = true) or of a node's -/
theorem Md_openOf_g {w : WW} {m : MS} {d : Nat} (hM : RM w m) (hB : WB m) (v : Int32) (p : Nat → Bool) (hp : ∀ x, 1 ≤ x → x ≤ mH m → (p x = true ↔ hO (mh m x) = true ∧ (v < 0 ∨ nI (hN (mh m x)) = v))) (hd : 1 ≤ d) :
    E_Md_openOf d [.inr (7, 1), .inl v] w (fun r w' => r = some (.inl (nI ((List.range' 1 (mH m)).countP p))) ∧ w' = w) := by
  refine S_Md_openOf ?_
  have b := hB.1
  have hn : wI w 7 1 10 = nI (mH m) := hM.2.2.2.2.2.2.1
  have loop : ∀ k i c, i + k = mH m + 1 → 1 ≤ i → X_Md_openOf d 4 [some (.inr (7, 1)), some (.inl v), some (.inl (nI c)), some (.inl (nI i))] [] w (fun r w' => r = some (.inl (nI (c + (List.range' i k).countP p))) ∧ w' = w) := by
    intro k
    induction k with
    | zero =>
      intro i c h1 h2
      refine XE.iload_n d_Md_openOf_4 rfl ?_
      refine XE.aload_n d_Md_openOf_5 rfl ?_
      refine g_Md_41 d_Md_openOf_6 (by first | assumption | decide | omega) (by first | assumption | rfl) ?_
      refine XE.icmp_gt 46 d_Md_openOf_9 (by decide) (fun h9 => ?_) (fun h9 => absurd h9 ((by rw [lt_nI (by omega) (by omega)]; omega)))
      refine XE.iload_n d_Md_openOf_46 rfl ?_
      exact XE.ri d_Md_openOf_47 ⟨by simp, rfl⟩
    | succ k ih =>
      intro i c h1 h2
      have e1 : ¬ p i = true → (List.range' i (k + 1)).countP p = (List.range' (i + 1) k).countP p := fun h => by rw [List.range'_succ, List.countP_cons_of_neg h]
      have e2 : p i = true → (List.range' i (k + 1)).countP p = (List.range' (i + 1) k).countP p + 1 := fun h => by rw [List.range'_succ, List.countP_cons_of_pos h]
      have hpi := hp i h2 (by omega)
      have o1 : ¬ hrF (mh m i) 6 = nI 1 → ¬ p i = true := fun h q => h ((bI_eq1 _).mpr (hpi.mp q).1)
      have o2 : hrF (mh m i) 6 = nI 1 → hO (mh m i) = true := fun h => (bI_eq1 _).mp h
      refine XE.iload_n d_Md_openOf_4 rfl ?_
      refine XE.aload_n d_Md_openOf_5 rfl ?_
      refine g_Md_41 d_Md_openOf_6 (by first | assumption | decide | omega) (by first | assumption | rfl) ?_
      refine XE.icmp_gt 46 d_Md_openOf_9 (by decide) (fun h9 => absurd h9 ((by rw [lt_nI (by omega) (by omega)]; omega))) (fun h9 => ?_)
      refine XE.aload_n d_Md_openOf_12 rfl ?_
      refine XE.iload_n d_Md_openOf_13 rfl ?_
      refine XE.bipush (x := nI 6) d_Md_openOf_14 (by decide) ?_
      refine k_Md_49 0 d_Md_openOf_16 (by omega) (Nat.le_of_ble_eq_true rfl) (by first | assumption | decide | omega) (Md_h_m 6 hM hB h2 (by omega) (by decide)) (fun r1 w1 hm1 hq1 => ?_)
      rw [hq1.1, hq1.2]
      clear hq1 hm1 r1 w1
      refine XE.iconst (x := nI 1) d_Md_openOf_19 (by decide) ?_
      refine XE.icmp_ne 40 d_Md_openOf_20 (by decide) (fun h20 => ?_) (fun h20 => ?_)
      · have q := e1 (o1 h20)
        refine XE.iinc d_Md_openOf_40 rfl (inc_nI _) ?_
        refine XE.goto 4 d_Md_openOf_43 (by decide) ?_
        refine (ih (i + 1) _ (by omega) (by omega)).mono (fun r w' z => ⟨z.1.trans ?_, z.2⟩)
        rw [q] <;> try (congr 3 <;> omega)
      · refine XE.iload_n d_Md_openOf_23 rfl ?_
        refine XE.if_lt 37 d_Md_openOf_24 (by decide) (fun h24 => ?_) (fun h24 => ?_)
        · have q := e2 (hpi.mpr ⟨o2 h20, Or.inl h24⟩)
          refine XE.iinc d_Md_openOf_37 rfl (inc_nI _) ?_
          refine XE.iinc d_Md_openOf_40 rfl (inc_nI _) ?_
          refine XE.goto 4 d_Md_openOf_43 (by decide) ?_
          refine (ih (i + 1) _ (by omega) (by omega)).mono (fun r w' z => ⟨z.1.trans ?_, z.2⟩)
          rw [q] <;> try (congr 3 <;> omega)
        · refine XE.aload_n d_Md_openOf_27 rfl ?_
          refine XE.iload_n d_Md_openOf_28 rfl ?_
          refine XE.iconst (x := nI 0) d_Md_openOf_29 (by decide) ?_
          refine k_Md_49 0 d_Md_openOf_30 (by omega) (Nat.le_of_ble_eq_true rfl) (by first | assumption | decide | omega) (Md_h_m 0 hM hB h2 (by omega) (by decide)) (fun r1 w1 hm1 hq1 => ?_)
          rw [hq1.1, hq1.2]
          clear hq1 hm1 r1 w1
          refine XE.iload_n d_Md_openOf_33 rfl ?_
          refine XE.icmp_ne 40 d_Md_openOf_34 (by decide) (fun h34 => ?_) (fun h34 => ?_)
          · have q := e1 (fun z => (hpi.mp z).2.elim h24 h34)
            refine XE.iinc d_Md_openOf_40 rfl (inc_nI _) ?_
            refine XE.goto 4 d_Md_openOf_43 (by decide) ?_
            refine (ih (i + 1) _ (by omega) (by omega)).mono (fun r w' z => ⟨z.1.trans ?_, z.2⟩)
            rw [q] <;> try (congr 3 <;> omega)
          · have q := e2 (hpi.mpr ⟨o2 h20, Or.inr h34⟩)
            refine XE.iinc d_Md_openOf_37 rfl (inc_nI _) ?_
            refine XE.iinc d_Md_openOf_40 rfl (inc_nI _) ?_
            refine XE.goto 4 d_Md_openOf_43 (by decide) ?_
            refine (ih (i + 1) _ (by omega) (by omega)).mono (fun r w' z => ⟨z.1.trans ?_, z.2⟩)
            rw [q] <;> try (congr 3 <;> omega)
  refine XE.iconst (x := nI 0) d_Md_openOf_0 (by decide) ?_
  refine XE.istore_n d_Md_openOf_1 (by decide) ?_
  refine XE.iconst (x := nI 1) d_Md_openOf_2 (by decide) ?_
  refine XE.istore_n d_Md_openOf_3 (by decide) ?_
  refine (loop (mH m) 1 0 (by omega) (by omega)).mono (fun r w' z => ⟨z.1.trans ?_, z.2⟩)
  rw [Nat.zero_add]
theorem Md_openOf_all {w : WW} {m : MS} {d : Nat} (hM : RM w m) (hB : WB m) (hd : 1 ≤ d) : E_Md_openOf d [.inr (7, 1), .inl (-1)] w (fun r w' => r = some (.inl (nI (nOpen m))) ∧ w' = w) :=
  Md_openOf_g hM hB (-1) (fun x => hO (mh m x)) (fun x _ _ => ⟨fun h => ⟨h, Or.inl (by decide)⟩, fun h => h.1⟩) hd
theorem Md_openOf_n {w : WW} {m : MS} {d n : Nat} (hM : RM w m) (hB : WB m) (hn : n ≤ 24) (hd : 1 ≤ d) : E_Md_openOf d [.inr (7, 1), .inl (nI n)] w (fun r w' => r = some (.inl (nI (cntO m n))) ∧ w' = w) :=
  Md_openOf_g hM hB (nI n) (fun x => hO (mh m x) && hN (mh m x) == n) (fun x h1 h2 => by
    have h24 := hB.2.2.2.2.2.1 x h1 h2
    rw [Bool.and_eq_true, beq_iff_eq, eq_nI (by omega) (by omega)]
    exact ⟨fun h => ⟨h.1, Or.inr h.2⟩, fun h => ⟨h.1, h.2.elim (fun q => absurd q (nI_pos (by omega))) id⟩⟩) hd
