/-! the reference: doom, may, met, read, value, lock, unlock, sync -/
def mayM (m : MS) (v a c : Int32) : Bool := !(hOf m v == 0) && ((hA (mh m (hOf m v)) &&& a) == a && (!tF (mT m) (hN (mh m (hOf m v))) && (decide (nI 0 ≤ c) && decide (c ≤ nI 31))))
def badM (m : MS) (v f n : Int32) : Bool := !mayM m v (nI 0) f || !(decide (nI 1 ≤ n) && decide (n ≤ nI 32 - f))
theorem mayM_t {m : MS} {v a c : Int32} (h : mayM m v a c = true) : hOf m v ≠ 0 ∧ (hA (mh m (hOf m v)) &&& a) = a ∧ tF (mT m) (hN (mh m (hOf m v))) = false ∧ ∃ i, i ≤ 31 ∧ c = nI i := by
  simp only [mayM, Bool.and_eq_true, Bool.not_eq_true', beq_eq_false_iff_ne, ne_eq, beq_iff_eq, decide_eq_true_eq] at h
  refine ⟨h.1, h.2.1, h.2.2.1, ?_⟩
  have h0 : ¬ c < 0 := Int32.not_lt.mpr h.2.2.2.1
  obtain ⟨j, hj, rfl⟩ := nI_of h0
  exact ⟨j, (nI_leI hj (by omega)).mp h.2.2.2.2, rfl⟩
theorem te (b : Bool) (h : ¬ bI b = 0) : b = true := (bI_eq1 b).mp ((bI_01 b).resolve_left h)
theorem Md_may_ok {w : WW} {m : MS} {d : Nat} (hM : RM w m) (hB : WB m) (hd : 2 ≤ d) (v a c : Int32) : E_Md_may d [.inr (7, 1), .inl v, .inl a, .inl c] w (fun r w' => r = some (.inl (bI (mayM m v a c))) ∧ w' = w) := by
  refine S_Md_may ?_
  have hsh := Md_shut_ok (d := 1) hM hB v (by omega)
  have s5 := hM.1.2.2.1
  have l2 := hM.1.2.2.2.2.2.2.2.2.2.2.2.2.1
  have b1 := hB.1
  by_cases hx : hOf m v = 0
  · have e : mayM m v a c = false := by unfold mayM; rw [hx]; rfl
    refine XE.aload_n d_Md_may_0 rfl ?_
    refine XE.iload_n d_Md_may_1 rfl ?_
    refine k_Md_94 1 d_Md_may_2 (by omega) (Nat.le_of_ble_eq_true rfl) (by first | assumption | decide | omega) hsh (fun r1 w1 hm1 hq1 => ?_)
    rw [hq1.1, hq1.2]
    clear hq1 hm1 r1 w1
    refine XE.if_ne 48 d_Md_may_5 (by decide) (fun h5 => ?_) (fun h5 => absurd h5 ((by rw [hx]; decide)))
    refine XE.iconst (x := nI 0) d_Md_may_48 (by decide) ?_
    exact XE.rb d_Md_may_49 (by decide) ⟨by rw [e]; rfl, rfl⟩
  · obtain ⟨ev, x1, x2, x3⟩ := hOf_nz hB hx
    have eM : mayM m v a c = ((hA (mh m (hOf m v)) &&& a) == a && (!tF (mT m) (hN (mh m (hOf m v))) && (decide (nI 0 ≤ c) && decide (c ≤ nI 31)))) := by
      unfold mayM
      rw [show (hOf m v == 0) = false by simp [hx]]
      rfl
    generalize hX : hOf m v = x at *
    subst ev
    have t0 : (x == 0) = false := by simp [hx]
    have n24 := hB.n24 x1 x2
    have hfo : wI w 112 1 (hN (mh m x)) = bI (tF (mT m) (hN (mh m x))) := (hM.2.2.2.2.1.2.2 _ n24 (hB.op x1 x2 x3)).1
    have hc : ∀ f, f < 7 → E_Md_h 0 [.inr (7, 1), .inl (nI x), .inl (nI f)] w (fun r w' => r = some (.inl (hrF (mh m x) f)) ∧ w' = w) := fun f hf => Md_h_m f hM hB x1 x2 hf
    refine XE.aload_n d_Md_may_0 rfl ?_
    refine XE.iload_n d_Md_may_1 rfl ?_
    refine k_Md_94 1 d_Md_may_2 (by omega) (Nat.le_of_ble_eq_true rfl) (by first | assumption | decide | omega) hsh (fun r1 w1 hm1 hq1 => ?_)
    rw [hq1.1, hq1.2]
    clear hq1 hm1 r1 w1
    refine XE.if_ne 48 d_Md_may_5 (by decide) (fun h5 => absurd h5 ((fun z => z (by rw [t0]; rfl)))) (fun h5 => ?_)
    refine XE.aload_n d_Md_may_8 rfl ?_
    refine XE.iload_n d_Md_may_9 rfl ?_
    refine XE.iconst (x := nI 1) d_Md_may_10 (by decide) ?_
    refine k_Md_49 0 d_Md_may_11 (by omega) (Nat.le_of_ble_eq_true rfl) (by first | assumption | decide | omega) (hc 1 (by decide)) (fun r1 w1 hm1 hq1 => ?_)
    rw [hq1.1, hq1.2]
    clear hq1 hm1 r1 w1
    refine XE.iload_n d_Md_may_14 rfl ?_
    refine XE.iand d_Md_may_15 rfl ?_
    refine XE.iload_n d_Md_may_16 rfl ?_
    refine XE.icmp_ne 48 d_Md_may_17 (by decide) (fun h17 => ?_) (fun h17 => ?_)
    · have e : mayM m (nI x) a c = false := by rw [eM, show ((hA (mh m x) &&& a) == a) = false from beq_eq_false_iff_ne.mpr h17]; rfl
      refine XE.iconst (x := nI 0) d_Md_may_48 (by decide) ?_
      exact XE.rb d_Md_may_49 (by decide) ⟨by rw [e]; rfl, rfl⟩
    · have q1 : ((hA (mh m x) &&& a) == a) = true := beq_iff_eq.mpr h17
      refine XE.aload_n d_Md_may_20 rfl ?_
      refine g_Md_17 d_Md_may_21 (by first | assumption | decide | omega) (by first | assumption | rfl) ?_
      refine XE.aload_n d_Md_may_24 rfl ?_
      refine XE.iload_n d_Md_may_25 rfl ?_
      refine XE.iconst (x := nI 0) d_Md_may_26 (by decide) ?_
      refine k_Md_49 0 d_Md_may_27 (by omega) (Nat.le_of_ble_eq_true rfl) (by first | assumption | decide | omega) (hc 0 (by decide)) (fun r1 w1 hm1 hq1 => ?_)
      rw [hq1.1, hq1.2]
      clear hq1 hm1 r1 w1
      refine XE.zald d_Md_may_30 (by decide) rfl (by first | assumption | decide | omega) (by first | assumption | exact ixn2 (by assumption) (by omega) (by omega)) (by first | assumption | rfl) ?_
      refine XE.if_ne 48 d_Md_may_31 (by decide) (fun h31 => ?_) (fun h31 => ?_)
      · have e : mayM m (nI x) a c = false := by rw [eM, q1, te _ h31]; rfl
        refine XE.iconst (x := nI 0) d_Md_may_48 (by decide) ?_
        exact XE.rb d_Md_may_49 (by decide) ⟨by rw [e]; rfl, rfl⟩
      · have q2 := (bI_eq0 _).mp h31
        refine XE.iload_n d_Md_may_34 rfl ?_
        refine XE.iconst (x := nI 0) d_Md_may_35 (by decide) ?_
        refine XE.bipush (x := nI 31) d_Md_may_36 (by decide) ?_
        refine k_Md_45 0 d_Md_may_38 (by omega) (Nat.le_of_ble_eq_true rfl) (Md_in_ok c (nI 0) (nI 31)) (fun r1 w1 hm1 hq1 => ?_)
        rw [hq1.1, hq1.2]
        clear hq1 hm1 r1 w1
        refine XE.if_eq 48 d_Md_may_41 (by decide) (fun h41 => ?_) (fun h41 => ?_)
        · have e : mayM m (nI x) a c = false := by rw [eM, q1, q2, (bI_eq0 _).mp h41]; rfl
          refine XE.iconst (x := nI 0) d_Md_may_48 (by decide) ?_
          exact XE.rb d_Md_may_49 (by decide) ⟨by rw [e]; rfl, rfl⟩
        · have e : mayM m (nI x) a c = true := by rw [eM, q1, q2, te _ h41]; rfl
          refine XE.iconst (x := nI 1) d_Md_may_44 (by decide) ?_
          refine XE.goto 49 d_Md_may_45 (by decide) ?_
          exact XE.rb d_Md_may_49 (by decide) ⟨by rw [e]; rfl, rfl⟩
theorem Md_badRange_ok {w : WW} {m : MS} {d : Nat} (hM : RM w m) (hB : WB m) (hd : 3 ≤ d) (v f n : Int32) : E_Md_badRange d [.inr (7, 1), .inl v, .inl f, .inl n] w (fun r w' => r = some (.inl (bI (badM m v f n))) ∧ w' = w) := by
  refine S_Md_badRange ?_
  refine XE.aload_n d_Md_badRange_0 rfl ?_
  refine XE.iload_n d_Md_badRange_1 rfl ?_
  refine XE.iconst (x := nI 0) d_Md_badRange_2 (by decide) ?_
  refine XE.iload_n d_Md_badRange_3 rfl ?_
  refine k_Md_109 2 d_Md_badRange_4 (by omega) (Nat.le_of_ble_eq_true rfl) (by first | assumption | decide | omega) (Md_may_ok hM hB (by omega) v (nI 0) f) (fun r1 w1 hm1 hq1 => ?_)
  rw [hq1.1, hq1.2]
  clear hq1 hm1 r1 w1
  refine XE.if_eq 22 d_Md_badRange_7 (by decide) (fun h7 => ?_) (fun h7 => ?_)
  · have e : badM m v f n = true := by unfold badM; rw [(bI_eq0 _).mp h7]; rfl
    refine XE.iconst (x := nI 1) d_Md_badRange_22 (by decide) ?_
    refine XE.goto 27 d_Md_badRange_23 (by decide) ?_
    exact XE.rb d_Md_badRange_27 (by decide) ⟨by rw [e]; rfl, rfl⟩
  · refine XE.iload_n d_Md_badRange_10 rfl ?_
    refine XE.iconst (x := nI 1) d_Md_badRange_11 (by decide) ?_
    refine XE.bipush (x := nI 32) d_Md_badRange_12 (by decide) ?_
    refine XE.iload_n d_Md_badRange_14 rfl ?_
    refine XE.isub d_Md_badRange_15 rfl ?_
    refine k_Md_45 0 d_Md_badRange_16 (by omega) (Nat.le_of_ble_eq_true rfl) (Md_in_ok n (nI 1) (nI 32 - f)) (fun r1 w1 hm1 hq1 => ?_)
    rw [hq1.1, hq1.2]
    clear hq1 hm1 r1 w1
    refine XE.if_ne 26 d_Md_badRange_19 (by decide) (fun h19 => ?_) (fun h19 => ?_)
    · have e : badM m v f n = false := by unfold badM; rw [te _ h7, te _ h19]; rfl
      refine XE.iconst (x := nI 0) d_Md_badRange_26 (by decide) ?_
      exact XE.rb d_Md_badRange_27 (by decide) ⟨by rw [e]; rfl, rfl⟩
    · have e : badM m v f n = true := by unfold badM; rw [te _ h7, (bI_eq0 _).mp h19]; rfl
      refine XE.iconst (x := nI 1) d_Md_badRange_22 (by decide) ?_
      refine XE.goto 27 d_Md_badRange_23 (by decide) ?_
      exact XE.rb d_Md_badRange_27 (by decide) ⟨by rw [e]; rfl, rfl⟩
def domM (m : MS) (v : Int32) (on : Bool) : Int32 × MS :=
  if hOf m v = 0 ∨ hA (mh m (hOf m v)) &&& nI 4 = 0 then (-1, m)
  else if on = true ∧ (hN (mh m (hOf m v)) = 0 ∨ (tF (mT m) (hN (mh m (hOf m v))) = true ∧ 0 < ins (mT m) (nI (hN (mh m (hOf m v)))))) then (-1, m)
  else (0, setD m (uf (mM m) (hN (mh m (hOf m v))) on))
theorem Md_doom_ok {w : WW} {m : MS} {d : Nat} (hM : RM w m) (hB : WB m) (hd : 2 ≤ d) (v : Int32) (on : Bool) : E_Md_doom d [.inr (7, 1), .inl v, .inl (bI on)] w (fun r w' => r = some (.inl (domM m v on).1) ∧ RM w' (domM m v on).2 ∧ FM w w') := by
  refine S_Md_doom ?_
  have hsh := Md_shut_ok (d := 1) hM hB v (by omega)
  have s5 := hM.1.2.2.1
  have s8 := hM.1.2.2.2.2.2.1
  have l2 := hM.1.2.2.2.2.2.2.2.2.2.2.2.2.1
  have l5 := hM.1.2.2.2.2.2.2.2.2.2.2.2.2.2.2.2.1
  have b1 := hB.1
  by_cases hx : hOf m v = 0
  · have e : domM m v on = (-1, m) := if_pos (Or.inl hx)
    refine XE.aload_n d_Md_doom_0 rfl ?_
    refine XE.iload_n d_Md_doom_1 rfl ?_
    refine k_Md_94 1 d_Md_doom_2 (by omega) (Nat.le_of_ble_eq_true rfl) (by first | assumption | decide | omega) hsh (fun r1 w1 hm1 hq1 => ?_)
    rw [hq1.1, hq1.2]
    clear hq1 hm1 r1 w1
    refine XE.if_ne 19 d_Md_doom_5 (by decide) (fun h5 => ?_) (fun h5 => absurd h5 ((by rw [hx]; decide)))
    refine XE.iconst (x := (-1)) d_Md_doom_19 (by decide) ?_
    exact XE.ri d_Md_doom_20 ⟨by rw [e], by rw [e]; exact hM, FM.rf⟩
  · obtain ⟨ev, x1, x2, x3⟩ := hOf_nz hB hx
    have eM : domM m v on = if hOf m v = 0 ∨ hA (mh m (hOf m v)) &&& nI 4 = 0 then (-1, m)
      else if on = true ∧ (hN (mh m (hOf m v)) = 0 ∨ (tF (mT m) (hN (mh m (hOf m v))) = true ∧ 0 < ins (mT m) (nI (hN (mh m (hOf m v)))))) then (-1, m)
      else (0, setD m (uf (mM m) (hN (mh m (hOf m v))) on)) := rfl
    generalize hX : hOf m v = x at *
    subst ev
    have t0 : (x == 0) = false := by simp [hx]
    have n24 := hB.n24 x1 x2
    have hfo : wI w 112 1 (hN (mh m x)) = bI (tF (mT m) (hN (mh m x))) := (hM.2.2.2.2.1.2.2 _ n24 (hB.op x1 x2 x3)).1
    have hc : ∀ f, f < 7 → E_Md_h 0 [.inr (7, 1), .inl (nI x), .inl (nI f)] w (fun r w' => r = some (.inl (hrF (mh m x) f)) ∧ w' = w) := fun f hf => Md_h_m f hM hB x1 x2 hf
    have hin := Md_inside_ok (d := 0) hM.1 hM.2.2.2.2.1 hB.g24 (nI (hN (mh m x)))
    have hns : ins (mT m) (nI (hN (mh m x))) ≤ 1000000 := Nat.le_trans List.countP_le_length (by rw [List.length_range']; have := hB.g24; omega)
    have no4 : ¬ hA (mh m x) &&& nI 4 = 0 → ¬ (x = 0 ∨ hA (mh m x) &&& nI 4 = 0) := fun h z => z.elim hx h
    have z33 : nI (hN (mh m x)) = 0 ↔ hN (mh m x) = 0 := eq_nI (b := 0) (by omega) (by omega)
    have z50 : nI (ins (mT m) (nI (hN (mh m x)))) ≤ 0 ↔ ins (mT m) (nI (hN (mh m x))) ≤ 0 := le_nI (b := 0) hns (by omega)
    refine XE.aload_n d_Md_doom_0 rfl ?_
    refine XE.iload_n d_Md_doom_1 rfl ?_
    refine k_Md_94 1 d_Md_doom_2 (by omega) (Nat.le_of_ble_eq_true rfl) (by first | assumption | decide | omega) hsh (fun r1 w1 hm1 hq1 => ?_)
    rw [hq1.1, hq1.2]
    clear hq1 hm1 r1 w1
    refine XE.if_ne 19 d_Md_doom_5 (by decide) (fun h5 => absurd h5 ((fun z => z (by rw [t0]; rfl)))) (fun h5 => ?_)
    refine XE.aload_n d_Md_doom_8 rfl ?_
    refine XE.iload_n d_Md_doom_9 rfl ?_
    refine XE.iconst (x := nI 1) d_Md_doom_10 (by decide) ?_
    refine k_Md_49 0 d_Md_doom_11 (by omega) (Nat.le_of_ble_eq_true rfl) (by first | assumption | decide | omega) (hc 1 (by decide)) (fun r1 w1 hm1 hq1 => ?_)
    rw [hq1.1, hq1.2]
    clear hq1 hm1 r1 w1
    refine XE.iconst (x := nI 4) d_Md_doom_14 (by decide) ?_
    refine XE.iand d_Md_doom_15 rfl ?_
    refine XE.if_ne 21 d_Md_doom_16 (by decide) (fun h16 => ?_) (fun h16 => ?_)
    · refine XE.aload_n d_Md_doom_21 rfl ?_
      refine XE.iload_n d_Md_doom_22 rfl ?_
      refine XE.iconst (x := nI 0) d_Md_doom_23 (by decide) ?_
      refine k_Md_49 0 d_Md_doom_24 (by omega) (Nat.le_of_ble_eq_true rfl) (by first | assumption | decide | omega) (hc 0 (by decide)) (fun r1 w1 hm1 hq1 => ?_)
      rw [hq1.1, hq1.2]
      clear hq1 hm1 r1 w1
      refine XE.istore_n d_Md_doom_27 (by decide) ?_
      refine XE.iload_n d_Md_doom_28 rfl ?_
      refine XE.if_eq 55 d_Md_doom_29 (by decide) (fun h29 => ?_) (fun h29 => ?_)
      · have hon : ¬ (on = true ∧ (hN (mh m x) = 0 ∨ (tF (mT m) (hN (mh m x)) = true ∧ 0 < ins (mT m) (nI (hN (mh m x)))))) := fun z => by rw [z.1] at h29; exact absurd h29 (by decide)
        refine XE.aload_n d_Md_doom_55 rfl ?_
        refine g_Md_26 d_Md_doom_56 (by first | assumption | decide | omega) (by first | assumption | rfl) ?_
        refine XE.iload_n d_Md_doom_59 rfl ?_
        refine XE.iload_n d_Md_doom_60 rfl ?_
        refine XE.zast d_Md_doom_61 (by decide) rfl (bI_01 on) (by first | assumption | decide | omega) (by first | assumption | exact ixn2 (by assumption) (by omega) (by omega)) ?_
        refine XE.iconst (x := nI 0) d_Md_doom_62 (by decide) ?_
        exact XE.ri d_Md_doom_63 ⟨by rw [eM, if_neg (no4 h16), if_neg hon]; rfl, by rw [eM, if_neg (no4 h16), if_neg hon]; exact hM.dset _ on, FM.sI (Or.inr (by decide))⟩
      · have on1 := te _ h29
        refine XE.iload_n d_Md_doom_32 rfl ?_
        refine XE.if_eq 53 d_Md_doom_33 (by decide) (fun h33 => ?_) (fun h33 => ?_)
        · have e : domM m (nI x) on = (-1, m) := by rw [eM, if_neg (no4 h16), if_pos ⟨on1, Or.inl (z33.mp h33)⟩]
          refine XE.iconst (x := (-1)) d_Md_doom_53 (by decide) ?_
          exact XE.ri d_Md_doom_54 ⟨by rw [e], by rw [e]; exact hM, FM.rf⟩
        · refine XE.aload_n d_Md_doom_36 rfl ?_
          refine g_Md_17 d_Md_doom_37 (by first | assumption | decide | omega) (by first | assumption | rfl) ?_
          refine XE.iload_n d_Md_doom_40 rfl ?_
          refine XE.zald d_Md_doom_41 (by decide) rfl (by first | assumption | decide | omega) (by first | assumption | exact ixn2 (by assumption) (by omega) (by omega)) (by first | assumption | rfl) ?_
          refine XE.if_eq 55 d_Md_doom_42 (by decide) (fun h42 => ?_) (fun h42 => ?_)
          · have hon : ¬ (on = true ∧ (hN (mh m x) = 0 ∨ (tF (mT m) (hN (mh m x)) = true ∧ 0 < ins (mT m) (nI (hN (mh m x)))))) := fun z => z.2.elim (fun y => h33 (z33.mpr y)) (fun y => by rw [y.1] at h42; exact absurd h42 (by decide))
            refine XE.aload_n d_Md_doom_55 rfl ?_
            refine g_Md_26 d_Md_doom_56 (by first | assumption | decide | omega) (by first | assumption | rfl) ?_
            refine XE.iload_n d_Md_doom_59 rfl ?_
            refine XE.iload_n d_Md_doom_60 rfl ?_
            refine XE.zast d_Md_doom_61 (by decide) rfl (bI_01 on) (by first | assumption | decide | omega) (by first | assumption | exact ixn2 (by assumption) (by omega) (by omega)) ?_
            refine XE.iconst (x := nI 0) d_Md_doom_62 (by decide) ?_
            exact XE.ri d_Md_doom_63 ⟨by rw [eM, if_neg (no4 h16), if_neg hon]; rfl, by rw [eM, if_neg (no4 h16), if_neg hon]; exact hM.dset _ on, FM.sI (Or.inr (by decide))⟩
          · refine XE.aload_n d_Md_doom_45 rfl ?_
            refine XE.iload_n d_Md_doom_46 rfl ?_
            refine k_Md_106 0 d_Md_doom_47 (by omega) (Nat.le_of_ble_eq_true rfl) (by first | assumption | decide | omega) hin (fun r1 w1 hm1 hq1 => ?_)
            rw [hq1.1, hq1.2]
            clear hq1 hm1 r1 w1
            refine XE.if_le 55 d_Md_doom_50 (by decide) (fun h50 => ?_) (fun h50 => ?_)
            · have hon : ¬ (on = true ∧ (hN (mh m x) = 0 ∨ (tF (mT m) (hN (mh m x)) = true ∧ 0 < ins (mT m) (nI (hN (mh m x)))))) := fun z => z.2.elim (fun y => h33 (z33.mpr y)) (fun y => by have := z50.mp h50; omega)
              refine XE.aload_n d_Md_doom_55 rfl ?_
              refine g_Md_26 d_Md_doom_56 (by first | assumption | decide | omega) (by first | assumption | rfl) ?_
              refine XE.iload_n d_Md_doom_59 rfl ?_
              refine XE.iload_n d_Md_doom_60 rfl ?_
              refine XE.zast d_Md_doom_61 (by decide) rfl (bI_01 on) (by first | assumption | decide | omega) (by first | assumption | exact ixn2 (by assumption) (by omega) (by omega)) ?_
              refine XE.iconst (x := nI 0) d_Md_doom_62 (by decide) ?_
              exact XE.ri d_Md_doom_63 ⟨by rw [eM, if_neg (no4 h16), if_neg hon]; rfl, by rw [eM, if_neg (no4 h16), if_neg hon]; exact hM.dset _ on, FM.sI (Or.inr (by decide))⟩
            · have e : domM m (nI x) on = (-1, m) := by rw [eM, if_neg (no4 h16), if_pos ⟨on1, Or.inr ⟨te _ h42, by have : ¬ ins (mT m) (nI (hN (mh m x))) ≤ 0 := fun y => h50 (z50.mpr y); omega⟩⟩]
              refine XE.iconst (x := (-1)) d_Md_doom_53 (by decide) ?_
              exact XE.ri d_Md_doom_54 ⟨by rw [e], by rw [e]; exact hM, FM.rf⟩
    · have e : domM m (nI x) on = (-1, m) := by rw [eM]; exact if_pos (Or.inr h16)
      refine XE.iconst (x := (-1)) d_Md_doom_19 (by decide) ?_
      exact XE.ri d_Md_doom_20 ⟨by rw [e], by rw [e]; exact hM, FM.rf⟩
theorem Md_value_ok {w : WW} {m : MS} {d : Nat} (hM : RM w m) : E_Md_value d [.inr (7, 1)] w (fun r w' => r = some (.inl (mS m)) ∧ w' = w) := by
  refine S_Md_value ?_
  have hs : wI w 7 1 16 = mS m := hM.2.2.2.2.2.2.2.2.2.2.2.2
  refine XE.aload_n d_Md_value_0 rfl ?_
  refine g_Md_116 d_Md_value_1 (by first | assumption | decide | omega) (by first | assumption | rfl) ?_
  exact XE.ri d_Md_value_4 ⟨rfl, rfl⟩
def synM (m : MS) : MS := (mN m, mN m, m.2.2)
theorem Md_sync_ok {w : WW} {m : MS} {d : Nat} (hM : RM w m) : E_Md_sync d [.inr (7, 1)] w (fun r w' => r = some (.inl (nI (mN m))) ∧ RM w' (synM m) ∧ FM w w') := by
  refine S_Md_sync ?_
  obtain ⟨hS, c0, c1, hLg, hT, hDm, hh, hH, hq, hQ, hk4, hK, hs⟩ := hM
  have fin : RM (sI w 7 1 1 (nI (mN m))) (synM m) := ⟨hS, c0, rfl, hLg, hT, hDm, hh, hH, hq, hQ, hk4, hK, hs⟩
  refine XE.aload_n d_Md_sync_0 rfl ?_
  refine XE.aload_n d_Md_sync_1 rfl ?_
  refine g_Md_56 d_Md_sync_2 (by first | assumption | decide | omega) (by first | assumption | rfl) ?_
  refine p_Md_63 d_Md_sync_5 (by first | assumption | decide | omega) ?_
  refine XE.aload_n d_Md_sync_8 rfl ?_
  refine g_Md_56 d_Md_sync_9 (by first | assumption | decide | omega) (by first | assumption | rfl) ?_
  exact XE.ri d_Md_sync_12 ⟨rfl, fin, FM.sI (Or.inl rfl)⟩
