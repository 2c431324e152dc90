/-! the reference: loops over the nodes and the locks -/
theorem Md_inside_ok {w : WW} {t : Tb} {d : Nat} (hS : MdS w) (hT : RMt w t) (hg : tG t ≤ 24) (v : Int32) :
    E_Md_inside d [.inr (7, 1), .inl v] w (fun r w' => r = some (.inl (nI (ins t v))) ∧ w' = w) := by
  refine S_Md_inside ?_
  obtain ⟨hn, hTh, hTr⟩ := hT
  obtain ⟨-, s4, -, s6, -, -, -, -, -, -, -, l1, -, l3, -⟩ := hS
  let p : Nat → Bool := fun x => tT t x && tD t x == v
  have loop : ∀ k i c, i + k = tG t + 1 → 1 ≤ i → X_Md_inside d 4 [some (.inr (7, 1)), some (.inl v), some (.inl (nI c)), some (.inl (nI i))] [] w (fun r w' => r = some (.inl (nI (c + (List.range' i k).countP p))) ∧ w' = w) := by
    intro k
    induction k with
    | zero =>
      intro i c h1 h2
      refine XE.iload_n d_Md_inside_4 rfl ?_
      refine XE.aload_n d_Md_inside_5 rfl ?_
      refine g_Md_53 d_Md_inside_6 (by first | assumption | decide | omega) (by first | assumption | rfl) ?_
      refine XE.icmp_gt 40 d_Md_inside_9 (by decide) (fun h9 => ?_) (fun h9 => absurd h9 ((by rw [lt_nI (by omega) (by omega)]; omega)))
      refine XE.iload_n d_Md_inside_40 rfl ?_
      exact XE.ri d_Md_inside_41 ⟨by simp, rfl⟩
    | succ k ih =>
      intro i c h1 h2
      have e1 : ¬ p i = true → (List.range' i (k + 1)).countP p = (List.range' (i + 1) k).countP p := fun h => by rw [List.range'_succ, List.countP_cons_of_neg h]
      have e2 : p i = true → (List.range' i (k + 1)).countP p = (List.range' (i + 1) k).countP p + 1 := fun h => by rw [List.range'_succ, List.countP_cons_of_pos h]
      have hpi : p i = true ↔ tT t i = true ∧ tD t i = v := by simp [p]
      have o1 : wI w 111 1 i = 0 → ¬ p i = true := fun h q => by
        rw [hTh i (by omega), (hpi.mp q).1] at h
        exact absurd h (by decide)
      have o2 : ¬ wI w 111 1 i = 0 → (wI w 113 1 i = v ↔ p i = true) := fun h => by
        have ht : tT t i = true := by
          rw [hTh i (by omega), bI_eq0, Bool.not_eq_false] at h
          exact h
        rw [(hTr i (by omega) ht).2.1, hpi]
        exact ⟨fun q => ⟨ht, q⟩, fun q => q.2⟩
      refine XE.iload_n d_Md_inside_4 rfl ?_
      refine XE.aload_n d_Md_inside_5 rfl ?_
      refine g_Md_53 d_Md_inside_6 (by first | assumption | decide | omega) (by first | assumption | rfl) ?_
      refine XE.icmp_gt 40 d_Md_inside_9 (by decide) (fun h9 => absurd h9 ((by rw [lt_nI (by omega) (by omega)]; omega))) (fun h9 => ?_)
      refine XE.aload_n d_Md_inside_12 rfl ?_
      refine g_Md_13 d_Md_inside_13 (by first | assumption | decide | omega) (by first | assumption | rfl) ?_
      refine XE.iload_n d_Md_inside_16 rfl ?_
      refine XE.zald d_Md_inside_17 (by decide) rfl (by first | assumption | decide | omega) (by first | assumption | exact ixn2 (by assumption) (by omega) (by omega)) rfl ?_
      refine XE.if_eq 34 d_Md_inside_18 (by decide) (fun h18 => ?_) (fun h18 => ?_)
      · have q := e1 (o1 h18)
        refine XE.iinc d_Md_inside_34 rfl (inc_nI _) ?_
        refine XE.goto 4 d_Md_inside_37 (by decide) ?_
        refine (ih (i + 1) _ (by omega) (by omega)).mono (fun r w' z => ⟨z.1.trans ?_, z.2⟩)
        rw [q] <;> try (congr 3 <;> omega)
      · refine XE.aload_n d_Md_inside_21 rfl ?_
        refine g_Md_20 d_Md_inside_22 (by first | assumption | decide | omega) (by first | assumption | rfl) ?_
        refine XE.iload_n d_Md_inside_25 rfl ?_
        refine XE.iald d_Md_inside_26 (Or.inr ⟨by decide, rfl⟩) (by first | assumption | decide | omega) (by first | assumption | exact ixn2 (by assumption) (by omega) (by omega)) rfl ?_
        refine XE.iload_n d_Md_inside_27 rfl ?_
        refine XE.icmp_ne 34 d_Md_inside_28 (by decide) (fun h28 => ?_) (fun h28 => ?_)
        · have q := e1 (fun z => h28 ((o2 h18).mpr z))
          refine XE.iinc d_Md_inside_34 rfl (inc_nI _) ?_
          refine XE.goto 4 d_Md_inside_37 (by decide) ?_
          refine (ih (i + 1) _ (by omega) (by omega)).mono (fun r w' z => ⟨z.1.trans ?_, z.2⟩)
          rw [q] <;> try (congr 3 <;> omega)
        · have q := e2 ((o2 h18).mp h28)
          refine XE.iinc d_Md_inside_31 rfl (inc_nI _) ?_
          refine XE.iinc d_Md_inside_34 rfl (inc_nI _) ?_
          refine XE.goto 4 d_Md_inside_37 (by decide) ?_
          refine (ih (i + 1) _ (by omega) (by omega)).mono (fun r w' z => ⟨z.1.trans ?_, z.2⟩)
          rw [q] <;> try (congr 3 <;> omega)
  refine XE.iconst (x := nI 0) d_Md_inside_0 (by decide) ?_
  refine XE.istore_n d_Md_inside_1 (by decide) ?_
  refine XE.iconst (x := nI 1) d_Md_inside_2 (by decide) ?_
  refine XE.istore_n d_Md_inside_3 (by decide) ?_
  refine (loop (tG t) 1 0 (by omega) (by omega)).mono (fun r w' z => ⟨z.1.trans ?_, z.2⟩)
  rw [Nat.zero_add]; rfl
theorem Md_at_ok {w : WW} {t : Tb} {d : Nat} (hS : MdS w) (hT : RMt w t) (hg : tG t ≤ 24) (v u : Int32) :
    E_Md_at d [.inr (7, 1), .inl v, .inl u] w (fun r w' => r = some (.inl (oI (atP t v u))) ∧ w' = w) := by
  refine S_Md_at ?_
  obtain ⟨hn, hTh, hTr⟩ := hT
  obtain ⟨-, s4, -, s6, s7, -, -, -, -, -, -, l1, -, l3, l4, -⟩ := hS
  let p : Nat → Bool := fun x => tT t x && tD t x == v && tN t x == u
  have loop : ∀ k i, i + k = tG t + 1 → 1 ≤ i → X_Md_at d 2 [some (.inr (7, 1)), some (.inl v), some (.inl u), some (.inl (nI i))] [] w (fun r w' => r = some (.inl (oI ((List.range' i k).find? p))) ∧ w' = w) := by
    intro k
    induction k with
    | zero =>
      intro i h1 h2
      refine XE.iload_n d_Md_at_2 rfl ?_
      refine XE.aload_n d_Md_at_3 rfl ?_
      refine g_Md_53 d_Md_at_4 (by first | assumption | decide | omega) (by first | assumption | rfl) ?_
      refine XE.icmp_gt 47 d_Md_at_7 (by decide) (fun h7 => ?_) (fun h7 => absurd h7 ((by rw [lt_nI (by omega) (by omega)]; omega)))
      refine XE.bipush (x := (-3)) d_Md_at_47 (by decide) ?_
      exact XE.ri d_Md_at_49 ⟨rfl, rfl⟩
    | succ k ih =>
      intro i h1 h2
      have e1 : ¬ p i = true → (List.range' i (k + 1)).find? p = (List.range' (i + 1) k).find? p := fun h => by rw [List.range'_succ, List.find?_cons_of_neg h]
      have e2 : p i = true → (List.range' i (k + 1)).find? p = some i := fun h => by rw [List.range'_succ, List.find?_cons_of_pos h]
      have hpi : p i = true ↔ (tT t i = true ∧ tD t i = v) ∧ tN t i = u := by simp [p]
      have o1 : wI w 111 1 i = 0 → ¬ p i = true := fun h q => by
        rw [hTh i (by omega), (hpi.mp q).1.1] at h
        exact absurd h (by decide)
      have o2 : ¬ wI w 111 1 i = 0 → (wI w 113 1 i = v ∧ wI w 114 1 i = u ↔ p i = true) := fun h => by
        have ht : tT t i = true := by
          rw [hTh i (by omega), bI_eq0, Bool.not_eq_false] at h
          exact h
        rw [(hTr i (by omega) ht).2.1, (hTr i (by omega) ht).2.2.1, hpi]
        exact ⟨fun q => ⟨⟨ht, q.1⟩, q.2⟩, fun q => ⟨q.1.2, q.2⟩⟩
      refine XE.iload_n d_Md_at_2 rfl ?_
      refine XE.aload_n d_Md_at_3 rfl ?_
      refine g_Md_53 d_Md_at_4 (by first | assumption | decide | omega) (by first | assumption | rfl) ?_
      refine XE.icmp_gt 47 d_Md_at_7 (by decide) (fun h7 => absurd h7 ((by rw [lt_nI (by omega) (by omega)]; omega))) (fun h7 => ?_)
      refine XE.aload_n d_Md_at_10 rfl ?_
      refine g_Md_13 d_Md_at_11 (by first | assumption | decide | omega) (by first | assumption | rfl) ?_
      refine XE.iload_n d_Md_at_14 rfl ?_
      refine XE.zald d_Md_at_15 (by decide) rfl (by first | assumption | decide | omega) (by first | assumption | exact ixn2 (by assumption) (by omega) (by omega)) rfl ?_
      refine XE.if_eq 41 d_Md_at_16 (by decide) (fun h16 => ?_) (fun h16 => ?_)
      · have q := e1 (o1 h16)
        refine XE.iinc d_Md_at_41 rfl (inc_nI _) ?_
        refine XE.goto 2 d_Md_at_44 (by decide) ?_
        refine (ih (i + 1) (by omega) (by omega)).mono (fun r w' z => ⟨z.1.trans ?_, z.2⟩)
        rw [q]
      · refine XE.aload_n d_Md_at_19 rfl ?_
        refine g_Md_20 d_Md_at_20 (by first | assumption | decide | omega) (by first | assumption | rfl) ?_
        refine XE.iload_n d_Md_at_23 rfl ?_
        refine XE.iald d_Md_at_24 (Or.inr ⟨by decide, rfl⟩) (by first | assumption | decide | omega) (by first | assumption | exact ixn2 (by assumption) (by omega) (by omega)) rfl ?_
        refine XE.iload_n d_Md_at_25 rfl ?_
        refine XE.icmp_ne 41 d_Md_at_26 (by decide) (fun h26 => ?_) (fun h26 => ?_)
        · have q := e1 (fun z => h26 ((o2 h16).mpr z).1)
          refine XE.iinc d_Md_at_41 rfl (inc_nI _) ?_
          refine XE.goto 2 d_Md_at_44 (by decide) ?_
          refine (ih (i + 1) (by omega) (by omega)).mono (fun r w' z => ⟨z.1.trans ?_, z.2⟩)
          rw [q]
        · refine XE.aload_n d_Md_at_29 rfl ?_
          refine g_Md_23 d_Md_at_30 (by first | assumption | decide | omega) (by first | assumption | rfl) ?_
          refine XE.iload_n d_Md_at_33 rfl ?_
          refine XE.iald d_Md_at_34 (Or.inr ⟨by decide, rfl⟩) (by first | assumption | decide | omega) (by first | assumption | exact ixn2 (by assumption) (by omega) (by omega)) rfl ?_
          refine XE.iload_n d_Md_at_35 rfl ?_
          refine XE.icmp_ne 41 d_Md_at_36 (by decide) (fun h36 => ?_) (fun h36 => ?_)
          · have q := e1 (fun z => h36 ((o2 h16).mpr z).2)
            refine XE.iinc d_Md_at_41 rfl (inc_nI _) ?_
            refine XE.goto 2 d_Md_at_44 (by decide) ?_
            refine (ih (i + 1) (by omega) (by omega)).mono (fun r w' z => ⟨z.1.trans ?_, z.2⟩)
            rw [q]
          · have q := e2 ((o2 h16).mp ⟨h26, h36⟩)
            refine XE.iload_n d_Md_at_39 rfl ?_
            exact XE.ri d_Md_at_40 ⟨by rw [q]; rfl, rfl⟩
  refine XE.iconst (x := nI 1) d_Md_at_0 (by decide) ?_
  refine XE.istore_n d_Md_at_1 (by decide) ?_
  exact (loop (tG t) 1 (by omega) (by omega)).mono (fun r w' z => ⟨z.1, z.2⟩)
theorem Md_locksOf_ok {w : WW} {m : MS} {d n : Nat} (hM : RM w m) (hB : WB m) (hn : n ≤ 24) (hd : 1 ≤ d) :
    E_Md_locksOf d [.inr (7, 1), .inl (nI n)] w (fun r w' => r = some (.inl (nI (lksN m n))) ∧ w' = w) := by
  refine S_Md_locksOf ?_
  have hS := hM.1
  obtain ⟨-, -, -, -, -, -, -, s11, -, s15, -, -, -, -, -, -, -, l17, -, l19⟩ := hS
  have hk : wI w 7 1 14 = nI (mK m).length := hM.2.2.2.2.2.2.2.2.2.2.1
  have hK := hM.2.2.2.2.2.2.2.2.2.2.2.1
  have b4 := hB.2.2.2.1
  let p : KR' → Bool := fun k => hN (mh m k.1) == n
  have loop : ∀ k i c, i + k = (mK m).length → X_Md_locksOf d 4 [some (.inr (7, 1)), some (.inl (nI n)), some (.inl (nI c)), some (.inl (nI i))] [] w (fun r w' => r = some (.inl (nI (c + ((mK m).drop i).countP p))) ∧ w' = w) := by
    intro k
    induction k with
    | zero =>
      intro i c h1
      refine XE.iload_n d_Md_locksOf_4 rfl ?_
      refine XE.aload_n d_Md_locksOf_5 rfl ?_
      refine g_Md_100 d_Md_locksOf_6 (by first | assumption | decide | omega) (by first | assumption | rfl) ?_
      refine XE.icmp_ge 38 d_Md_locksOf_9 (by decide) (fun h9 => ?_) (fun h9 => absurd h9 ((by rw [le_nI (by omega) (by omega)]; omega)))
      refine XE.iload_n d_Md_locksOf_38 rfl ?_
      exact XE.ri d_Md_locksOf_39 ⟨by rw [List.drop_of_length_le (by omega)]; rfl, rfl⟩
    | succ k ih =>
      intro i c h1
      have hi : i < (mK m).length := by omega
      have hdr : (mK m).drop i = (mK m)[i] :: (mK m).drop (i + 1) := List.drop_eq_getElem_cons hi
      have e1 : ¬ p (mK m)[i] = true → ((mK m).drop i).countP p = ((mK m).drop (i + 1)).countP p := fun h => by rw [hdr, List.countP_cons_of_neg h]
      have e2 : p (mK m)[i] = true → ((mK m).drop i).countP p = ((mK m).drop (i + 1)).countP p + 1 := fun h => by rw [hdr, List.countP_cons_of_pos h]
      obtain ⟨a1, a2, -⟩ := hB.2.2.2.2.2.2.1 (mK m)[i] (List.getElem_mem hi)
      have b24 := hB.2.2.2.2.2.1 _ a1 a2
      have hpi : nI (hN (mh m (mK m)[i].1)) = nI n ↔ p (mK m)[i] = true := by
        rw [eq_nI (by omega) (by omega)]
        simp [p]
      refine XE.iload_n d_Md_locksOf_4 rfl ?_
      refine XE.aload_n d_Md_locksOf_5 rfl ?_
      refine g_Md_100 d_Md_locksOf_6 (by first | assumption | decide | omega) (by first | assumption | rfl) ?_
      refine XE.icmp_ge 38 d_Md_locksOf_9 (by decide) (fun h9 => absurd h9 ((by rw [le_nI (by omega) (by omega)]; omega))) (fun h9 => ?_)
      refine XE.aload_n d_Md_locksOf_12 rfl ?_
      refine XE.aload_n d_Md_locksOf_13 rfl ?_
      refine g_Md_38 d_Md_locksOf_14 (by first | assumption | decide | omega) (by first | assumption | rfl) ?_
      refine XE.iconst (x := nI 4) d_Md_locksOf_17 (by decide) ?_
      refine XE.iload_n d_Md_locksOf_18 rfl ?_
      refine XE.imul d_Md_locksOf_19 (by first | exact pk_mul _ _ | rfl) ?_
      refine XE.iald d_Md_locksOf_20 (Or.inr ⟨by decide, rfl⟩) (by first | assumption | decide | omega) (by first | assumption | exact ixn2 (by assumption) (by omega) (by omega)) (hK i hi 0 (by decide)) ?_
      refine XE.iconst (x := nI 0) d_Md_locksOf_21 (by decide) ?_
      refine k_Md_49 0 d_Md_locksOf_22 (by omega) (Nat.le_of_ble_eq_true rfl) (by first | assumption | decide | omega) (Md_h_m 0 hM hB a1 a2 (by decide)) (fun r1 w1 hm1 hq1 => ?_)
      rw [hq1.1, hq1.2]
      clear hq1 hm1 r1 w1
      refine XE.iload_n d_Md_locksOf_25 rfl ?_
      refine XE.icmp_ne 32 d_Md_locksOf_26 (by decide) (fun h26 => ?_) (fun h26 => ?_)
      · have q := e1 (fun z => h26 (hpi.mpr z))
        refine XE.iinc d_Md_locksOf_32 rfl (inc_nI _) ?_
        refine XE.goto 4 d_Md_locksOf_35 (by decide) ?_
        refine (ih (i + 1) _ (by omega)).mono (fun r w' z => ⟨z.1.trans ?_, z.2⟩)
        rw [q] <;> try (congr 3 <;> omega)
      · have q := e2 (hpi.mp h26)
        refine XE.iinc d_Md_locksOf_29 rfl (inc_nI _) ?_
        refine XE.iinc d_Md_locksOf_32 rfl (inc_nI _) ?_
        refine XE.goto 4 d_Md_locksOf_35 (by decide) ?_
        refine (ih (i + 1) _ (by omega)).mono (fun r w' z => ⟨z.1.trans ?_, z.2⟩)
        rw [q] <;> try (congr 3 <;> omega)
  refine XE.iconst (x := nI 0) d_Md_locksOf_0 (by decide) ?_
  refine XE.istore_n d_Md_locksOf_1 (by decide) ?_
  refine XE.iconst (x := nI 0) d_Md_locksOf_2 (by decide) ?_
  refine XE.istore_n d_Md_locksOf_3 (by decide) ?_
  refine (loop _ 0 0 (Nat.zero_add _)).mono (fun r w' z => ⟨z.1.trans ?_, z.2⟩)
  rw [Nat.zero_add]; rfl
