/-! THE CLASS: a node made; an attempt -/
section MK
variable {w : WW} {m : MS} {d : Nat}
/-- the world with the new node in the table, ahead of the log -/
def mnW (w : WW) (g : Nat) (a b : Int32) (f : Bool) : WW := sR (ndW (nO (sI w 0 1 1 (nI (g + 1))) 1 8) (wC w 1 + 1) (nI (g + 1)) a b f) 100 1 (g + 1) (wC w 1 + 1)
theorem mn_I (w : WW) (g : Nat) (a b : Int32) (f : Bool) (o j : Nat) : wI (mnW w g a b f) 1 o j = if o = wC w 1 + 1 then (if j = 0 then nI (g + 1) else if j = 1 then bI f else if j = 2 then a else if j = 3 then b else wI w 1 o j) else wI w 1 o j := by
  unfold mnW ndW
  simp only [wI_sI, wI_sR, wI_nA, wI_nO, true_and]
  by_cases h : o = wC w 1 + 1
  · simp only [h, true_and, if_true]
    by_cases j1 : j = 1
    · subst j1; rfl
    · rw [if_neg j1]
      by_cases j3 : j = 3
      · subst j3; rfl
      · rw [if_neg j3]
        by_cases j2 : j = 2
        · subst j2; rfl
        · rw [if_neg j2]
          by_cases j0 : j = 0
          · subst j0; rfl
          · rw [if_neg j0, if_neg j0, if_neg j1, if_neg j2, if_neg j3, if_neg (by omega)]
  · simp only [h, false_and, if_false]
    rw [if_neg (by omega)]
theorem mn_R (w : WW) (g : Nat) (a b : Int32) (f : Bool) (o j : Nat) : wR (mnW w g a b f) 1 o j = if o = wC w 1 + 1 then (if j = 5 then wC w 103 + 1 else if j = 6 then wC w 104 + 1 else wR w 1 o j) else wR w 1 o j := by
  unfold mnW ndW
  simp only [wR_sI, wR_sR, wR_nA, wR_nO, true_and]
  rw [if_neg (by omega)]
  by_cases h : o = wC w 1 + 1
  · simp only [h, true_and, if_true]
    by_cases j5 : j = 5
    · subst j5; rfl
    · by_cases j6 : j = 6
      · subst j6; rfl
      · rw [if_neg j5, if_neg j6, if_neg j5, if_neg j6]
  · simp only [h, false_and, if_false]
theorem mn_N (w : WW) (g : Nat) (a b : Int32) (f : Bool) (n : Nat) : wR (mnW w g a b f) 100 1 n = if n = g + 1 then wC w 1 + 1 else wR w 100 1 n := by
  show (if 100 = 100 ∧ 1 = 1 ∧ n = g + 1 then wC w 1 + 1 else wR w 100 1 n) = _
  simp
theorem mn_L3 (w : WW) (g : Nat) (a b : Int32) (f : Bool) (o : Nat) : wL (mnW w g a b f) 103 o = if o = wC w 103 + 1 then (if f = true then 0 else 32) else wL w 103 o := by
  show (if 103 = 103 ∧ o = wC w 103 + 1 then _ else wL w 103 o) = _
  simp
theorem mn_L4 (w : WW) (g : Nat) (a b : Int32) (f : Bool) (o : Nat) : wL (mnW w g a b f) 104 o = if o = wC w 104 + 1 then (if f = true then 0 else 8) else wL w 104 o := by
  show (if 104 = 104 ∧ o = wC w 104 + 1 then _ else wL w 104 o) = _
  simp
theorem fc_mn (w : WW) (g : Nat) (a b : Int32) (f : Bool) : FC0 w (mnW w g a b f) := by
  have h0 : (0 : Nat) ≠ 7 ∧ 0 ≠ 99 ∧ 0 < 110 := by decide
  have h1 : (1 : Nat) ≠ 7 ∧ 1 ≠ 99 ∧ 1 < 110 := by decide
  have h3 : (103 : Nat) ≠ 7 ∧ 103 ≠ 99 ∧ 103 < 110 := by decide
  have h4 : (104 : Nat) ≠ 7 ∧ 104 ≠ 99 ∧ 104 < 110 := by decide
  have h2 : (100 : Nat) ≠ 7 ∧ 100 ≠ 99 ∧ 100 < 110 := by decide
  exact ((((((((((FC0.sI h0).tr (FC0.nO h1)).tr (FC0.sI h1)).tr (FC0.sI h1)).tr (FC0.sI h1)).tr (FC0.sI h1)).tr (FC0.nA h3)).tr (FC0.sR h1)).tr (FC0.nA h4)).tr (FC0.sR h1)).tr (FC0.sR h2)
theorem bI_is1 (f : Bool) : (bI f == 1) = f := by cases f <;> rfl
theorem CR.made (hR : CR w m) (hB : WB m) (hI : MI m) {dr : Nat} {b : Int32} (hd : dr ≤ 24) (h1 : tT (mT m) dr = true) (h2 : tF (mT m) dr = true) (hg : tG (mT m) < 24) (f : Bool) :
    CR (ntW (mnW w (tG (mT m)) (nI dr) b f) (mN m - mU m) (mU m) (wC w 1 + 1) 0 0 0) (noteM m (1, tG (mT m) + 1, nI dr, b, bI f)) := by
  have hT := hR.ct hB
  have htg := hI.ti.2.2.1
  obtain ⟨c1, c2, c3, c4, c5, c6, c7, c8⟩ := hR
  obtain ⟨n1, n2, n3, n4⟩ := c2
  generalize hg' : tG (mT m) = g at *
  have hno : ∀ n, n ≤ 24 → tT (mT m) n = true → n ≠ g + 1 := fun n hn ht => by have := htg n hn ht; omega
  have hNn : ∀ n, n ≤ 24 → wR w 100 1 n ≤ wC w 1 := fun n hn => (hT.2 n hn).1
  have tT' : ∀ x, tT (mT (noteM m (1, g + 1, nI dr, b, bI f))) x = if x = g + 1 then true else tT (mT m) x := fun x => by rw [mT_note]; rfl
  have z4 := (n4 (wC w 1 + 1) 4 (Nat.lt_succ_self _)).1
  have z7 := (n4 (wC w 1 + 1) 7 (Nat.lt_succ_self _)).1
  refine CY.cr ?_ ?_
  · refine CY.nt ?_ _ _ _ _ _ _
    refine ⟨c1, ⟨?_, ?_, fun o o1 o2 => ?_, fun o j ho => ?_⟩, fun n hn ht => ?_, fun n hn ht => ?_, ?_, c7, c8⟩
    · show wC w 103 + 1 = wC w 1 + 1; rw [n1]
    · show wC w 104 + 1 = wC w 1 + 1; rw [n2]
    · have o2 : o ≤ wC w 1 + 1 := o2
      rw [mn_R, mn_R, mn_I, mn_L3, mn_L4, n1, n2]
      by_cases e : o = wC w 1 + 1
      · rw [if_pos e, if_pos e, if_pos e, if_pos e, if_pos e]
        refine ⟨by rw [e]; rfl, by rw [e]; rfl, ?_⟩
        cases f
        · exact Or.inl ⟨rfl, rfl, rfl⟩
        · exact Or.inr ⟨rfl, rfl⟩
      · simp only [e, if_false]
        exact n3 o o1 (by omega)
    · have ho : wC w 1 + 1 < o := ho
      rw [mn_I, if_neg (by omega)]
      exact n4 o j (by omega)
    · rw [tT'] at ht
      rw [mn_N]
      by_cases e : n = g + 1
      · rw [if_pos e, mn_I, if_pos rfl]
        show wI w 1 (wC w 1 + 1) 4 = bI (mM m n)
        rw [z4, hI.2.2.2.2.2.1 n hn (by rw [hg']; omega)]
        rfl
      · rw [if_neg e] at ht ⊢
        have := hNn n hn
        rw [mn_I, if_neg (by omega)]
        exact c4 n hn ht
    · rw [tT'] at ht
      by_cases e : n = g + 1
      · have el : lkL (noteM m (1, g + 1, nI dr, b, bI f)) n = [] := List.filter_eq_nil_iff.mpr (fun k hk => by
          obtain ⟨a1, a2, -⟩ := hB.2.2.2.2.2.2.1 k hk
          have := hno _ (hB.n24 a1 a2) (hB.op a1 a2 (hI.2.2.1 k hk).1)
          show ¬ (hN (mh m k.1) == n) = true
          rw [beq_iff_eq]
          omega)
        rw [el, mn_N, if_pos e, mn_I, if_pos rfl]
        exact ⟨z7, HO.nil⟩
      · rw [if_neg e] at ht
        have := hNn n hn
        have q := c5 n hn ht
        rw [mn_N, if_neg e, mn_I, if_neg (by omega)]
        exact q
    · obtain ⟨h1, h2, h3, h4, h5, h6⟩ := c6
      refine ⟨h1, h2, h3, fun x x1 x2 x3 => ?_, h5, h6⟩
      rw [mn_N]
      show wR w 2 x 1 = if hN (mh m x) = g + 1 then _ else _
      rw [if_neg (hno _ (hB.n24 x1 x2) (hB.op x1 x2 x3))]
      exact h4 x x1 x2 x3
  · obtain ⟨f1, f1', f2, f3, f4, f5, f6, f7, f8⟩ := nt_facts (w := mnW w g (nI dr) b f) (m := m) (o := wC w 1 + 1) (k := 0) (a := 0) (b := 0) c3.2.1 c3.2.2.1 hB.un rfl
    have ct : ctW (mnW w g (nI dr) b f) = ctW (mnW w g (nI dr) b f) := rfl
    refine LGC.add c3 hB.un f1 f1' (Nat.le_of_eq f2.symm) f3 f4 f5 (by rw [f6]; exact Nat.le_succ _) ?_ ?_ ?_
    · rw [f8, f6]
      refine ⟨rfl, fun n hn => ?_⟩
      have hNq : (ctW (mnW w g (nI dr) b f)).1 n = if n = g + 1 then wC w 1 + 1 else wR w 100 1 n := mn_N w g (nI dr) b f n
      rw [hNq, tT_app1]
      by_cases e : n = g + 1
      · rw [if_pos e, if_pos e]
        have q := fun j => mn_I w g (nI dr) b f (wC w 1 + 1) j
        simp only [if_true] at q
        refine ⟨Nat.le_refl _, ⟨fun _ => rfl, fun _ => Nat.succ_ne_zero _⟩, fun _ => ⟨?_, ?_, ?_, ?_, fun hf i hi => ?_⟩⟩
        · rw [e]; exact q 0
        · rw [tF_app1, if_pos e, bI_is1]; exact q 1
        · rw [tD_app1, if_pos e]; exact q 2
        · rw [tN_app1, if_pos e]; exact q 3
        · rw [tC_app1, if_pos e]; exact (n4 (wC w 1 + 1) i (Nat.lt_succ_self _)).2
      · rw [if_neg e, if_neg e]
        have hle := hNn n hn
        obtain ⟨a1, a2, a3⟩ := hT.2 n hn
        refine ⟨Nat.le_succ_of_le a1, a2, fun ht => ?_⟩
        have q := fun j => mn_I w g (nI dr) b f (wR w 100 1 n) j
        simp only [show ¬ wR w 100 1 n = wC w 1 + 1 by omega, if_false] at q
        obtain ⟨b0, b1, b2, b3, b4⟩ := a3 ht
        refine ⟨(q 0).trans b0, ?_, ?_, ?_, fun hf i hi => ?_⟩
        · rw [tF_app1, if_neg e]; exact (q 1).trans b1
        · rw [tD_app1, if_neg e]; exact (q 2).trans b2
        · rw [tN_app1, if_neg e]; exact (q 3).trans b3
        · rw [tF_app1, if_neg e] at hf
          rw [tC_app1, if_neg e]; exact b4 hf i hi
    · rw [f7, f8, f6]
      refine ⟨Nat.succ_le_succ (Nat.zero_le _), Nat.le_refl _, ⟨g + 1, by omega, ?_⟩, Or.inl rfl⟩
      show wI (mnW w g (nI dr) b f) 1 (wC w 1 + 1) 0 = _
      rw [mn_I, if_pos rfl]
      rfl
    · rw [f7, f8]
      have num : (wI (mnW w g (nI dr) b f) 1 (wC w 1 + 1) 0).toNatClampNeg = g + 1 := by rw [mn_I, if_pos rfl]; exact nI_clamp (by omega)
      refine ⟨fun n hn => ?_, ?_, fun o o1 o2 j hj => ?_, fun o o1 o2 i hi => rfl⟩
      · show uf (fun n => wR (mnW w g (nI dr) b f) 100 1 n) (wI (mnW w g (nI dr) b f) 1 (wC w 1 + 1) 0).toNatClampNeg 0 n = wR w 100 1 n
        rw [num]
        by_cases e : n = g + 1
        · rw [e, uf_s]
          refine (hT.no (n := g + 1) (by omega) ?_).symm
          cases q : tT (mT m) (g + 1) with
          | false => rfl
          | true => exact absurd rfl (hno _ (by omega) q)
        · rw [uf_n _ _ e, mn_N, if_neg e]
      · show nI (g + 1) - 1 = wI w 0 1 1
        have : wI w 0 1 1 = nI g := by rw [← hg']; exact hT.1
        rw [this]
        exact nI_s1 (by omega)
      · show wI (mnW w g (nI dr) b f) 1 o j = wI w 1 o j
        rw [mn_I, if_neg (by omega)]
theorem SS_makeNode_ok {r : Nat} (hR : CR w m) (hB : WB m) (hI : MI m) (r1 : 1 ≤ r) (r2 : r ≤ mQ m) (h1 : tT (mT m) (qD (mq m r)) = true) (h2 : tF (mT m) (qD (mq m r)) = true) (hg : tG (mT m) < 24) (hd : 2 ≤ d) :
    E_SS_makeNode d [.inr (0, 1), .inr (3, r)] w (fun r' w' => r' = some (.inr (1, wC w 1 + 1)) ∧ CR w' (noteM m (1, tG (mT m) + 1, nI (qD (mq m r)), qN (mq m r), bI (hasM (qM (mq m r)) 256))) ∧ wR w' 100 1 (tG (mT m) + 1) = wC w 1 + 1 ∧ FC0 w w' ∧ GN 1 0 1 w w') := by
  refine S_SS_makeNode ?_
  have hM := hR.made hB hI (hB.d24 r1 r2) h1 h2 hg (hasM (qM (mq m r)) 256) (b := qN (mq m r))
  have hq := hR.2.2.2.2.2.2.1.2.2.2 r r1 r2
  obtain ⟨s0, s2, s5, s7, g0, l0, l1, l2, l5⟩ := hR.1
  have hgv : wI w 0 1 1 = nI (tG (mT m)) := (hR.ct hB).1
  have k1 := hR.2.2.1.1
  have k2 := hR.2.2.1.2.1
  have hun := hB.un
  generalize hg' : tG (mT m) = g at *
  have r0 : r ≠ 0 := by omega
  have hh : wI w 3 r 3 = qM (mq m r) := hq.2.2.2.1
  have hd1 : wI w 3 r 1 = nI (qD (mq m r)) := hq.2.1
  have hd2 : wI w 3 r 2 = qN (mq m r) := hq.2.2.1
  have eN : wI (ndW (nO (sI w 0 1 1 (nI (g + 1))) 1 8) (wC w 1 + 1) (nI (g + 1)) (nI (qD (mq m r))) (qN (mq m r)) (hasM (qM (mq m r)) 256)) 1 (wC w 1 + 1) 0 = nI (g + 1) := by
    have := mn_I w g (nI (qD (mq m r))) (qN (mq m r)) (hasM (qM (mq m r)) 256) (wC w 1 + 1) 0
    rw [if_pos rfl] at this
    exact this
  have hix : IXN (nI (g + 1)) (wL (ndW (nO (sI w 0 1 1 (nI (g + 1))) 1 8) (wC w 1 + 1) (nI (g + 1)) (nI (qD (mq m r))) (qN (mq m r)) (hasM (qM (mq m r)) 256)) 100 1) (g + 1) := IXN.nI (by show g + 1 < wL w 100 1; omega) (by show wL w 100 1 ≤ _; omega)
  have hnd := Nd_init_ok (w := nO (sI w 0 1 1 (nI (g + 1))) 1 8) (d := 1) (o := wC w 1 + 1) (by omega) (by omega) (nI (g + 1)) (nI (qD (mq m r))) (qN (mq m r)) (hasM (qM (mq m r)) 256)
  have hcg := Cg_init_ok (w := nO (mnW w g (nI (qD (mq m r))) (qN (mq m r)) (hasM (qM (mq m r)) 256)) 5 4) (d := 1) (o := wC w 5 + 1) (nd := wC w 1 + 1) (by omega) (by omega) (nI 0) (nI 0) (nI 0)
  have hla := Lg_add_ok (w := cgW (nO (mnW w g (nI (qD (mq m r))) (qN (mq m r)) (hasM (qM (mq m r)) 256)) 5 4) (wC w 5 + 1) (wC w 1 + 1) 0 0 0) (d := 1) (j := mN m - mU m) (u := mU m) (c := wC w 5 + 1) g0 l5 k1 k2 (by omega) (by omega)
  refine XE.aload_n d_SS_makeNode_0 rfl ?_
  refine XE.dup d_SS_makeNode_1 ?_
  refine g_SS_215 d_SS_makeNode_2 (by first | assumption | decide | omega) (by first | assumption | rfl) ?_
  refine XE.iconst (x := nI 1) d_SS_makeNode_5 (by decide) ?_
  refine XE.iadd d_SS_makeNode_6 (by first | exact nI_add _ _ | rfl) ?_
  refine p_SS_215 d_SS_makeNode_7 (by first | assumption | decide | omega) ?_
  refine n_SS_9 d_SS_makeNode_10 ?_
  refine XE.dup d_SS_makeNode_13 ?_
  refine XE.aload_n d_SS_makeNode_14 rfl ?_
  refine g_SS_215 d_SS_makeNode_15 (by first | assumption | decide | omega) (by first | assumption | rfl) ?_
  refine XE.aload_n d_SS_makeNode_18 rfl ?_
  refine g_SS_227 d_SS_makeNode_19 (by first | assumption | decide | omega) (by first | assumption | rfl) ?_
  refine XE.aload_n d_SS_makeNode_22 rfl ?_
  refine g_SS_228 d_SS_makeNode_23 (by first | assumption | decide | omega) (by first | assumption | rfl) ?_
  refine XE.aload_n d_SS_makeNode_26 rfl ?_
  refine XE.sipush (x := nI 256) d_SS_makeNode_27 (by decide) ?_
  refine k_SS_236 1 d_SS_makeNode_30 (by omega) (Nat.le_of_ble_eq_true rfl) (by first | assumption | decide | omega) (Rq_has_ok r0 (by exact hh) 256) (fun r1 w1 hm1 hq1 => ?_)
  rw [hq1.1, hq1.2]
  clear hq1 hm1 r1 w1
  refine k_SS_15 1 d_SS_makeNode_33 (by omega) (Nat.le_of_ble_eq_true rfl) (by first | assumption | decide | omega) hnd (fun y1 w2 hm1 hq1 => ?_)
  obtain ⟨rfl, rfl⟩ := hq1
  refine XE.astore_n d_SS_makeNode_36 (by decide) ?_
  refine XE.aload_n d_SS_makeNode_37 rfl ?_
  refine g_SS_11 d_SS_makeNode_38 (by first | assumption | decide | omega) (by first | assumption | rfl) ?_
  refine XE.aload_n d_SS_makeNode_41 rfl ?_
  refine g_SS_108 d_SS_makeNode_42 (by first | assumption | decide | omega) (by first | assumption | rfl) ?_
  refine XE.aload_n d_SS_makeNode_45 rfl ?_
  refine XE.aast d_SS_makeNode_46 (by decide) rfl rfl (by first | exact Or.inl rfl | exact Or.inr rfl) (by first | assumption | decide | omega) (by first | assumption | exact ixn2 (by assumption) (by omega) (by omega)) ?_
  refine XE.aload_n d_SS_makeNode_47 rfl ?_
  refine g_SS_33 d_SS_makeNode_48 (by first | assumption | decide | omega) (by first | assumption | rfl) ?_
  refine n_SS_121 d_SS_makeNode_51 ?_
  refine XE.dup d_SS_makeNode_54 ?_
  refine XE.iconst (x := nI 0) d_SS_makeNode_55 (by decide) ?_
  refine XE.aload_n d_SS_makeNode_56 rfl ?_
  refine XE.iconst (x := nI 0) d_SS_makeNode_57 (by decide) ?_
  refine XE.iconst (x := nI 0) d_SS_makeNode_58 (by decide) ?_
  refine k_SS_129 1 d_SS_makeNode_59 (by omega) (Nat.le_of_ble_eq_true rfl) (by first | assumption | decide | omega) hcg (fun y1 w2 hm1 hq1 => ?_)
  obtain ⟨rfl, rfl⟩ := hq1
  refine k_SS_132 1 d_SS_makeNode_62 (by omega) (Nat.le_of_ble_eq_true rfl) (by first | assumption | decide | omega) hla (fun y1 w2 hm1 hq1 => ?_)
  obtain ⟨rfl, rfl⟩ := hq1
  refine XE.aload_n d_SS_makeNode_65 rfl ?_
  refine XE.rr d_SS_makeNode_66 ⟨rfl, hM, ?_, (fc_mn w g _ _ _).tr (fc_nt0 _ _ _ _ _ _), (by obtain ⟨p1, p2, p3, p4, p5⟩ := gn_nt (mnW w g (nI (qD (mq m r))) (qN (mq m r)) (hasM (qM (mq m r)) 256)) (mN m - mU m) (mU m) (wC w 1 + 1) 0 0 0; exact ⟨p1.trans rfl, p2.trans rfl, p3.trans rfl, p4.trans rfl, fun k h => (p5 k h).trans (by unfold mnW ndW; simp only [wC_sR, wC_nA, wC_sI, wC_nO]; rw [if_neg (by omega), if_neg (by omega), if_neg (by omega)])⟩)⟩
  have := (nt_facts (w := mnW w g (nI (qD (mq m r))) (qN (mq m r)) (hasM (qM (mq m r)) 256)) (m := m) (o := wC w 1 + 1) (k := 0) (a := 0) (b := 0) k2 hR.2.2.1.2.2.1 hB.un rfl).2.2.2.2.2.2.2.2
  have e : (ctW (ntW (mnW w g (nI (qD (mq m r))) (qN (mq m r)) (hasM (qM (mq m r)) 256)) (mN m - mU m) (mU m) (wC w 1 + 1) 0 0 0)).1 (g + 1) = wC w 1 + 1 := by rw [this]; exact (mn_N w g _ _ _ (g + 1)).trans (if_pos rfl)
  exact e
end MK
