/-! the reference: sharing, grant -/
theorem Md_sharing_ok {w : WW} {m : MS} {d n : Nat} (hM : RM w m) (hB : WB m) (hn : n ≤ 24) (md : Int32) (hd : 1 ≤ d) :
    E_Md_sharing d [.inr (7, 1), .inl (nI n), .inl md] w (fun r w' => r = some (.inl (bI (shA m n md))) ∧ w' = w) := by
  refine S_Md_sharing ?_
  have b := hB.1
  have hn' : wI w 7 1 10 = nI (mH m) := hM.2.2.2.2.2.2.1
  have loop : ∀ k i ls4 ls5, i + k = mH m + 1 → 1 ≤ i → X_Md_sharing d 2 [some (.inr (7, 1)), some (.inl (nI n)), some (.inl md), some (.inl (nI i)), ls4, ls5] [] w (fun r w' => r = some (.inl (bI ((List.range' i k).any (shP m n md)))) ∧ w' = w) := by
    intro k
    induction k with
    | zero =>
      intro i _ _ h1 h2
      refine XE.iload_n d_Md_sharing_2 rfl ?_
      refine XE.aload_n d_Md_sharing_3 rfl ?_
      refine g_Md_41 d_Md_sharing_4 (by first | assumption | decide | omega) (by first | assumption | rfl) ?_
      refine XE.icmp_gt 83 d_Md_sharing_7 (by decide) (fun h7 => ?_) (fun h7 => absurd h7 ((by rw [lt_nI (by omega) (by omega)]; omega)))
      refine XE.iconst (x := nI 0) d_Md_sharing_83 (by decide) ?_
      exact XE.rb d_Md_sharing_84 (by decide) ⟨rfl, rfl⟩
    | succ k ih =>
      intro i _ _ h1 h2
      have e1 : ¬ shP m n md i = true → (List.range' i (k + 1)).any (shP m n md) = (List.range' (i + 1) k).any (shP m n md) := fun h => by rw [List.range'_succ, List.any_cons]; simp [h]
      have e2 : shP m n md i = true → (List.range' i (k + 1)).any (shP m n md) = true := fun h => by rw [List.range'_succ, List.any_cons]; simp [h]
      have hpi : shP m n md i = true ↔ hO (mh m i) = true ∧ nI (hN (mh m i)) = nI n ∧ (¬ accM md &&& (hS (mh m i) ^^^ (-1)) = 0 ∨ ¬ hA (mh m i) &&& (shrM md ^^^ (-1)) = 0) := by
        have := hB.n24 h2 (by omega : i ≤ mH m)
        rw [eq_nI (by omega) (by omega)]
        simp [shP]
      have hc : ∀ f, f < 7 → E_Md_h 0 [.inr (7, 1), .inl (nI i), .inl (nI f)] w (fun r w' => r = some (.inl (hrF (mh m i) f)) ∧ w' = w) := fun f hf => Md_h_m f hM hB h2 (by omega) hf
      refine XE.iload_n d_Md_sharing_2 rfl ?_
      refine XE.aload_n d_Md_sharing_3 rfl ?_
      refine g_Md_41 d_Md_sharing_4 (by first | assumption | decide | omega) (by first | assumption | rfl) ?_
      refine XE.icmp_gt 83 d_Md_sharing_7 (by decide) (fun h7 => absurd h7 ((by rw [lt_nI (by omega) (by omega)]; omega))) (fun h7 => ?_)
      refine XE.aload_n d_Md_sharing_10 rfl ?_
      refine XE.iload_n d_Md_sharing_11 rfl ?_
      refine XE.bipush (x := nI 6) d_Md_sharing_12 (by decide) ?_
      refine k_Md_49 0 d_Md_sharing_14 (by omega) (Nat.le_of_ble_eq_true rfl) (by first | assumption | decide | omega) (hc 6 (by decide)) (fun r1 w1 hm1 hq1 => ?_)
      rw [hq1.1, hq1.2]
      clear hq1 hm1 r1 w1
      refine XE.if_eq 77 d_Md_sharing_17 (by decide) (fun h17 => ?_) (fun h17 => ?_)
      · have q := e1 (fun z => by rw [show hrF (mh m i) 6 = bI (hO (mh m i)) from rfl, (hpi.mp z).1] at h17; exact absurd h17 (by decide))
        refine XE.iinc d_Md_sharing_77 rfl (inc_nI _) ?_
        refine XE.goto 2 d_Md_sharing_80 (by decide) ?_
        refine (ih (i + 1) _ _ (by omega) (by omega)).mono (fun r w' z => ⟨z.1.trans ?_, z.2⟩)
        rw [q]
      · refine XE.aload_n d_Md_sharing_20 rfl ?_
        refine XE.iload_n d_Md_sharing_21 rfl ?_
        refine XE.iconst (x := nI 0) d_Md_sharing_22 (by decide) ?_
        refine k_Md_49 0 d_Md_sharing_23 (by omega) (Nat.le_of_ble_eq_true rfl) (by first | assumption | decide | omega) (hc 0 (by decide)) (fun r1 w1 hm1 hq1 => ?_)
        rw [hq1.1, hq1.2]
        clear hq1 hm1 r1 w1
        refine XE.iload_n d_Md_sharing_26 rfl ?_
        refine XE.icmp_eq 33 d_Md_sharing_27 (by decide) (fun h27 => ?_) (fun h27 => ?_)
        · refine XE.iload_n d_Md_sharing_33 rfl ?_
          refine XE.bipush (x := nI 7) d_Md_sharing_34 (by decide) ?_
          refine XE.iand d_Md_sharing_36 rfl ?_
          refine XE.aload_n d_Md_sharing_37 rfl ?_
          refine XE.iload_n d_Md_sharing_38 rfl ?_
          refine XE.iconst (x := nI 2) d_Md_sharing_39 (by decide) ?_
          refine k_Md_49 0 d_Md_sharing_40 (by omega) (Nat.le_of_ble_eq_true rfl) (by first | assumption | decide | omega) (hc 2 (by decide)) (fun r1 w1 hm1 hq1 => ?_)
          rw [hq1.1, hq1.2]
          clear hq1 hm1 r1 w1
          refine XE.iconst (x := (-1)) d_Md_sharing_43 (by decide) ?_
          refine XE.ixor d_Md_sharing_44 rfl ?_
          refine XE.iand d_Md_sharing_45 rfl ?_
          refine XE.istore d_Md_sharing_46 (by decide) ?_
          refine XE.aload_n d_Md_sharing_48 rfl ?_
          refine XE.iload_n d_Md_sharing_49 rfl ?_
          refine XE.iconst (x := nI 1) d_Md_sharing_50 (by decide) ?_
          refine k_Md_49 0 d_Md_sharing_51 (by omega) (Nat.le_of_ble_eq_true rfl) (by first | assumption | decide | omega) (hc 1 (by decide)) (fun r1 w1 hm1 hq1 => ?_)
          rw [hq1.1, hq1.2]
          clear hq1 hm1 r1 w1
          refine XE.iload_n d_Md_sharing_54 rfl ?_
          refine XE.iconst (x := nI 3) d_Md_sharing_55 (by decide) ?_
          refine XE.ishr d_Md_sharing_56 rfl ?_
          refine XE.bipush (x := nI 7) d_Md_sharing_57 (by decide) ?_
          refine XE.iand d_Md_sharing_59 rfl ?_
          refine XE.iconst (x := (-1)) d_Md_sharing_60 (by decide) ?_
          refine XE.ixor d_Md_sharing_61 rfl ?_
          refine XE.iand d_Md_sharing_62 rfl ?_
          refine XE.istore d_Md_sharing_63 (by decide) ?_
          refine XE.iload d_Md_sharing_65 rfl ?_
          refine XE.if_ne 75 d_Md_sharing_67 (by decide) (fun h67 => ?_) (fun h67 => ?_)
          · have q := e2 (hpi.mpr ⟨(bI_eq1 _).mp ((bI_01 _).resolve_left h17), h27, Or.inl h67⟩)
            refine XE.iconst (x := nI 1) d_Md_sharing_75 (by decide) ?_
            exact XE.rb d_Md_sharing_76 (by decide) ⟨by rw [q]; rfl, rfl⟩
          · refine XE.iload d_Md_sharing_70 rfl ?_
            refine XE.if_eq 77 d_Md_sharing_72 (by decide) (fun h72 => ?_) (fun h72 => ?_)
            · have q := e1 (fun z => (hpi.mp z).2.2.elim (fun y => y h67) (fun y => y h72))
              refine XE.iinc d_Md_sharing_77 rfl (inc_nI _) ?_
              refine XE.goto 2 d_Md_sharing_80 (by decide) ?_
              refine (ih (i + 1) _ _ (by omega) (by omega)).mono (fun r w' z => ⟨z.1.trans ?_, z.2⟩)
              rw [q]
            · have q := e2 (hpi.mpr ⟨(bI_eq1 _).mp ((bI_01 _).resolve_left h17), h27, Or.inr h72⟩)
              refine XE.iconst (x := nI 1) d_Md_sharing_75 (by decide) ?_
              exact XE.rb d_Md_sharing_76 (by decide) ⟨by rw [q]; rfl, rfl⟩
        · have q := e1 (fun z => h27 (hpi.mp z).2.1)
          refine XE.goto 77 d_Md_sharing_30 (by decide) ?_
          refine XE.iinc d_Md_sharing_77 rfl (inc_nI _) ?_
          refine XE.goto 2 d_Md_sharing_80 (by decide) ?_
          refine (ih (i + 1) _ _ (by omega) (by omega)).mono (fun r w' z => ⟨z.1.trans ?_, z.2⟩)
          rw [q]
  refine XE.iconst (x := nI 1) d_Md_sharing_0 (by decide) ?_
  refine XE.istore_n d_Md_sharing_1 (by decide) ?_
  exact loop (mH m) 1 _ _ (by omega) (by omega)
theorem RM.hadd {w w' : WW} {m : MS} {h' : HR} (hM : RM w m) (hF : w'.1 = w.1 ∧ w'.2.2 = w.2.2) (e0 : wI w' 7 1 10 = nI (mH m + 1)) (e1 : ∀ f, f < 7 → wI w' 117 1 (7 * (mH m + 1) + f) = hrF h' f)
    (e2 : ∀ k o j, ¬ (k = 7 ∧ j = 10) → ¬ (k = 117 ∧ 7 * (mH m + 1) ≤ j) → wI w' k o j = wI w k o j) : RM w' (m.1, m.2.1, m.2.2.1, m.2.2.2.1, mH m + 1, uf (mh m) (mH m + 1) h', m.2.2.2.2.2.2) := by
  obtain ⟨hS, c0, c1, hLg, hT, hDm, hh, hH, hq, hQ, hk4, hK, hs⟩ := hM
  refine ⟨?_, ?_, ?_, ?_, ?_, ?_, e0, ?_, ?_, ?_, ?_, ?_, ?_⟩
  · unfold MdS at hS ⊢
    unfold wR wL at hS ⊢
    rw [hF.2]
    exact hS
  · rw [e2 _ _ _ (by omega) (by omega)]; exact c0
  · rw [e2 _ _ _ (by omega) (by omega)]; exact c1
  · intro c hc f hf; rw [e2 _ _ _ (by omega) (by omega)]; exact hLg c hc f hf
  · obtain ⟨x1, x2, x3⟩ := hT
    refine ⟨by rw [e2 _ _ _ (by omega) (by omega)]; exact x1, fun x hx => by rw [e2 _ _ _ (by omega) (by omega)]; exact x2 x hx, fun x hx hx2 => ?_⟩
    obtain ⟨y1, y2, y3, y4⟩ := x3 x hx hx2
    exact ⟨by rw [e2 _ _ _ (by omega) (by omega)]; exact y1, by rw [e2 _ _ _ (by omega) (by omega)]; exact y2, by rw [e2 _ _ _ (by omega) (by omega)]; exact y3, fun i hi => by rw [e2 _ _ _ (by omega) (by omega)]; exact y4 i hi⟩
  · intro x hx; rw [e2 _ _ _ (by omega) (by omega)]; exact hDm x hx
  · intro x h1 h2 f hf
    show wI w' 117 1 (7 * x + f) = hrF (uf (mh m) (mH m + 1) h' x) f
    have h2 : x ≤ mH m + 1 := h2
    by_cases h : x = mH m + 1
    · subst h; rw [uf_s]; exact e1 f hf
    · rw [uf_n _ _ h, e2 _ _ _ (by omega) (by omega)]; exact hH x h1 (by omega) f hf
  · rw [e2 _ _ _ (by omega) (by omega)]; exact hq
  · exact ⟨fun x h1 h2 f hf => by rw [e2 _ _ _ (by omega) (by omega)]; exact hQ.1 x h1 h2 f hf, fun x h1 h2 => by rw [e2 _ _ _ (by omega) (by omega)]; exact hQ.2 x h1 h2⟩
  · rw [e2 _ _ _ (by omega) (by omega)]; exact hk4
  · intro i hi f hf; rw [e2 _ _ _ (by omega) (by omega)]; exact hK i hi f hf
  · rw [e2 _ _ _ (by omega) (by omega)]; exact hs
set_option maxHeartbeats 1000000 in
theorem Md_grant_ok {w : WW} {m : MS} {d r n : Nat} (hM : RM w m) (hB : WB m) (hn : n ≤ 24) (ht : tT (mT m) n = true) (r1 : 1 ≤ r) (r2 : r ≤ mQ m) (hh512 : mH m < 512) (hd : 2 ≤ d) :
    E_Md_grant d [.inr (7, 1), .inl (nI r), .inl (nI n)] w (fun q w' => q = some (.inl (nI (mH m + 1))) ∧ RM w' (grM m r n) ∧ FM w w') := by
  refine S_Md_grant ?_
  have hM' := hM
  obtain ⟨hS, c0, c1, hLg, hT, hDm, hh, hH, hq, hQ, hk4, hK, hs⟩ := hM
  obtain ⟨s2, s4, s5, s6, s7, s8, s9, s11, s13, s15, l0, l1, l2, l3, l4, l5, l6, l7, l8, l9⟩ := hS
  have q0 : wI w 118 1 (6 * r) = qC (mq m r) := hQ.1 r r1 r2 0 (by decide)
  have q3 : wI w 118 1 (6 * r + 3) = qM (mq m r) := hQ.1 r r1 r2 3 (by decide)
  have q4 : wI w 118 1 (6 * r + 4) = qW (mq m r) := hQ.1 r r1 r2 4 (by decide)
  have tf : wI w 112 1 n = bI (tF (mT m) n) := (hT.2.2 n hn ht).1
  have b2 := hB.2.1
  obtain ⟨md, hmd, emd⟩ := hB.md r1 r2
  have hb9 := bit9 md hmd
  rw [← emd] at hb9
  generalize hNH : mH m = NH at *
  have tail : ∀ g : Int32, grG m r n = g → X_Md_grant d 62 [some (.inr (7, 1)), some (.inl (nI r)), some (.inl (nI n)), some (.inl (qM (mq m r))), some (.inl (qW (mq m r))), none, none] [.inl g] w (fun q w' => q = some (.inl (nI (NH + 1))) ∧ RM w' (grM m r n) ∧ FM w w') := by
    intro g hg
    let B := 7 * (NH + 1)
    let w8 : WW := sI (sI (sI (sI (sI (sI (sI (sI w 7 1 10 (nI (NH + 1))) 117 1 B (nI n)) 117 1 (B + 1) (accM (qM (mq m r)))) 117 1 (B + 2) (shrM (qM (mq m r)))) 117 1 (B + 3) g) 117 1 (B + 4) (qC (mq m r))) 117 1 (B + 5) (qM (mq m r) >>> (nI 9 &&& 31))) 117 1 (B + 6) (nI 1)
    have fin : RM w8 (grM m r n) ∧ FM w w8 := by
      refine ⟨?_, (((FM.sI (Or.inl rfl)).tr (FM.sI (Or.inr (by decide)))).tr ((FM.sI (Or.inr (by decide))).tr (FM.sI (Or.inr (by decide))))).tr (((FM.sI (Or.inr (by decide))).tr (FM.sI (Or.inr (by decide)))).tr ((FM.sI (Or.inr (by decide))).tr (FM.sI (Or.inr (by decide)))))⟩
      refine hM'.hadd (h' := (n, accM (qM (mq m r)), shrM (qM (mq m r)), grG m r n, qC (mq m r), hasM (qM (mq m r)) 512, true)) ⟨rfl, rfl⟩ ?_ ?_ ?_
      · simp [w8, wI_sI, hNH]
      · rw [hNH]
        intro f hf
        match f, hf with
        | 0, _ => simp [w8, B, wI_sI, hrF, hN]
        | 1, _ => simp [w8, B, wI_sI, hrF, hA]
        | 2, _ => simp [w8, B, wI_sI, hrF, hS]
        | 3, _ => simp [w8, B, wI_sI, hrF, hG, hg]
        | 4, _ => simp [w8, B, wI_sI, hrF, hC]
        | 5, _ => simp [w8, B, wI_sI, hrF, hR, hb9]
        | 6, _ => simp [w8, B, wI_sI, hrF, hO]; rfl
      · rw [hNH]
        intro k o j h1 h2
        simp only [w8, wI_sI]
        rw [if_neg (by omega), if_neg (by omega), if_neg (by omega), if_neg (by omega), if_neg (by omega), if_neg (by omega), if_neg (by omega), if_neg (by omega)]
    refine XE.istore d_Md_grant_62 (by decide) ?_
    refine XE.aload_n d_Md_grant_64 rfl ?_
    refine XE.dup d_Md_grant_65 ?_
    refine g_Md_41 d_Md_grant_66 (by first | assumption | decide | omega) (by first | assumption | rfl) ?_
    refine XE.iconst (x := nI 1) d_Md_grant_69 (by decide) ?_
    refine XE.iadd d_Md_grant_70 (by first | exact nI_add _ _ | rfl) ?_
    refine p_Md_41 d_Md_grant_71 (by first | assumption | decide | omega) ?_
    refine XE.bipush (x := nI 7) d_Md_grant_74 (by decide) ?_
    refine XE.aload_n d_Md_grant_76 rfl ?_
    refine g_Md_41 (x := nI (NH + 1)) d_Md_grant_77 (by first | assumption | decide | omega) (by rw [wI_sI, if_pos ⟨rfl, rfl, rfl⟩]) ?_
    refine XE.imul d_Md_grant_80 (by first | exact pk_mul _ _ | rfl) ?_
    refine XE.istore d_Md_grant_81 (by decide) ?_
    refine XE.aload_n d_Md_grant_83 rfl ?_
    refine g_Md_32 d_Md_grant_84 (by first | assumption | decide | omega) (by first | assumption | rfl) ?_
    refine XE.iload d_Md_grant_87 rfl ?_
    refine XE.iload_n d_Md_grant_89 rfl ?_
    refine XE.iast d_Md_grant_90 (by decide) rfl (by first | assumption | decide | omega) (by first | assumption | exact ixn2 (by assumption) (by omega) (by omega)) ?_
    refine XE.aload_n d_Md_grant_91 rfl ?_
    refine g_Md_32 d_Md_grant_92 (by first | assumption | decide | omega) (by first | assumption | rfl) ?_
    refine XE.iload d_Md_grant_95 rfl ?_
    refine XE.iconst (x := nI 1) d_Md_grant_97 (by decide) ?_
    refine XE.iadd d_Md_grant_98 (by first | exact nI_add _ _ | rfl) ?_
    refine XE.iload_n d_Md_grant_99 rfl ?_
    refine XE.bipush (x := nI 7) d_Md_grant_100 (by decide) ?_
    refine XE.iand d_Md_grant_102 rfl ?_
    refine XE.iast d_Md_grant_103 (by decide) rfl (by first | assumption | decide | omega) (by first | assumption | exact ixn2 (by assumption) (by omega) (by omega)) ?_
    refine XE.aload_n d_Md_grant_104 rfl ?_
    refine g_Md_32 d_Md_grant_105 (by first | assumption | decide | omega) (by first | assumption | rfl) ?_
    refine XE.iload d_Md_grant_108 rfl ?_
    refine XE.iconst (x := nI 2) d_Md_grant_110 (by decide) ?_
    refine XE.iadd d_Md_grant_111 (by first | exact nI_add _ _ | rfl) ?_
    refine XE.iload_n d_Md_grant_112 rfl ?_
    refine XE.iconst (x := nI 3) d_Md_grant_113 (by decide) ?_
    refine XE.ishr d_Md_grant_114 rfl ?_
    refine XE.bipush (x := nI 7) d_Md_grant_115 (by decide) ?_
    refine XE.iand d_Md_grant_117 rfl ?_
    refine XE.iast d_Md_grant_118 (by decide) rfl (by first | assumption | decide | omega) (by first | assumption | exact ixn2 (by assumption) (by omega) (by omega)) ?_
    refine XE.aload_n d_Md_grant_119 rfl ?_
    refine g_Md_32 d_Md_grant_120 (by first | assumption | decide | omega) (by first | assumption | rfl) ?_
    refine XE.iload d_Md_grant_123 rfl ?_
    refine XE.iconst (x := nI 3) d_Md_grant_125 (by decide) ?_
    refine XE.iadd d_Md_grant_126 (by first | exact nI_add _ _ | rfl) ?_
    refine XE.iload d_Md_grant_127 rfl ?_
    refine XE.iast d_Md_grant_129 (by decide) rfl (by first | assumption | decide | omega) (by first | assumption | exact ixn2 (by assumption) (by omega) (by omega)) ?_
    refine XE.aload_n d_Md_grant_130 rfl ?_
    refine g_Md_32 d_Md_grant_131 (by first | assumption | decide | omega) (by first | assumption | rfl) ?_
    refine XE.iload d_Md_grant_134 rfl ?_
    refine XE.iconst (x := nI 4) d_Md_grant_136 (by decide) ?_
    refine XE.iadd d_Md_grant_137 (by first | exact nI_add _ _ | rfl) ?_
    refine XE.aload_n d_Md_grant_138 rfl ?_
    refine g_Md_35 d_Md_grant_139 (by first | assumption | decide | omega) (by first | assumption | rfl) ?_
    refine XE.bipush (x := nI 6) d_Md_grant_142 (by decide) ?_
    refine XE.iload_n d_Md_grant_144 rfl ?_
    refine XE.imul d_Md_grant_145 (by first | exact pk_mul _ _ | rfl) ?_
    refine XE.iald d_Md_grant_146 (Or.inr ⟨by decide, rfl⟩) (by first | assumption | decide | omega) (by first | assumption | exact ixn2 (by assumption) (by omega) (by omega)) (by first | assumption | rfl) ?_
    refine XE.iast d_Md_grant_147 (by decide) rfl (by first | assumption | decide | omega) (by first | assumption | exact ixn2 (by assumption) (by omega) (by omega)) ?_
    refine XE.aload_n d_Md_grant_148 rfl ?_
    refine g_Md_32 d_Md_grant_149 (by first | assumption | decide | omega) (by first | assumption | rfl) ?_
    refine XE.iload d_Md_grant_152 rfl ?_
    refine XE.iconst (x := nI 5) d_Md_grant_154 (by decide) ?_
    refine XE.iadd d_Md_grant_155 (by first | exact nI_add _ _ | rfl) ?_
    refine XE.iload_n d_Md_grant_156 rfl ?_
    refine XE.bipush (x := nI 9) d_Md_grant_157 (by decide) ?_
    refine XE.ishr d_Md_grant_159 rfl ?_
    refine XE.iast d_Md_grant_160 (by decide) rfl (by first | assumption | decide | omega) (by first | assumption | exact ixn2 (by assumption) (by omega) (by omega)) ?_
    refine XE.aload_n d_Md_grant_161 rfl ?_
    refine g_Md_32 d_Md_grant_162 (by first | assumption | decide | omega) (by first | assumption | rfl) ?_
    refine XE.iload d_Md_grant_165 rfl ?_
    refine XE.bipush (x := nI 6) d_Md_grant_167 (by decide) ?_
    refine XE.iadd d_Md_grant_169 (by first | exact nI_add _ _ | rfl) ?_
    refine XE.iconst (x := nI 1) d_Md_grant_170 (by decide) ?_
    refine XE.iast d_Md_grant_171 (by decide) rfl (by first | assumption | decide | omega) (by first | assumption | exact ixn2 (by assumption) (by omega) (by omega)) ?_
    refine XE.aload_n d_Md_grant_172 rfl ?_
    refine g_Md_41 (x := nI (NH + 1)) d_Md_grant_173 (by first | assumption | decide | omega) rfl ?_
    exact XE.ri d_Md_grant_176 ⟨rfl, fin⟩
  have e31 : ¬ bI (tF (mT m) n) = 0 → grG m r n = nI 0 := fun h => by unfold grG; rw [if_pos (Or.inl ((bI_eq1 _).mp ((bI_01 _).resolve_left h)))]
  have n31 : bI (tF (mT m) n) = 0 → ¬ tF (mT m) n = true := fun h => by rw [(bI_eq0 _).mp h]; decide
  have hM2 : RM w m := hM'
  have hcn : ∀ n, cntO m n ≤ 1000000 := fun n => Nat.le_trans List.countP_le_length (by rw [List.length_range', hNH]; omega)
  refine XE.aload_n d_Md_grant_0 rfl ?_
  refine g_Md_35 d_Md_grant_1 (by first | assumption | decide | omega) (by first | assumption | rfl) ?_
  refine XE.bipush (x := nI 6) d_Md_grant_4 (by decide) ?_
  refine XE.iload_n d_Md_grant_6 rfl ?_
  refine XE.imul d_Md_grant_7 (by first | exact pk_mul _ _ | rfl) ?_
  refine XE.iconst (x := nI 3) d_Md_grant_8 (by decide) ?_
  refine XE.iadd d_Md_grant_9 (by first | exact nI_add _ _ | rfl) ?_
  refine XE.iald d_Md_grant_10 (Or.inr ⟨by decide, rfl⟩) (by first | assumption | decide | omega) (by first | assumption | exact ixn2 (by assumption) (by omega) (by omega)) (by first | assumption | rfl) ?_
  refine XE.istore_n d_Md_grant_11 (by decide) ?_
  refine XE.aload_n d_Md_grant_12 rfl ?_
  refine g_Md_35 d_Md_grant_13 (by first | assumption | decide | omega) (by first | assumption | rfl) ?_
  refine XE.bipush (x := nI 6) d_Md_grant_16 (by decide) ?_
  refine XE.iload_n d_Md_grant_18 rfl ?_
  refine XE.imul d_Md_grant_19 (by first | exact pk_mul _ _ | rfl) ?_
  refine XE.iconst (x := nI 4) d_Md_grant_20 (by decide) ?_
  refine XE.iadd d_Md_grant_21 (by first | exact nI_add _ _ | rfl) ?_
  refine XE.iald d_Md_grant_22 (Or.inr ⟨by decide, rfl⟩) (by first | assumption | decide | omega) (by first | assumption | exact ixn2 (by assumption) (by omega) (by omega)) (by first | assumption | rfl) ?_
  refine XE.istore d_Md_grant_23 (by decide) ?_
  refine XE.aload_n d_Md_grant_25 rfl ?_
  refine g_Md_17 d_Md_grant_26 (by first | assumption | decide | omega) (by first | assumption | rfl) ?_
  refine XE.iload_n d_Md_grant_29 rfl ?_
  refine XE.zald d_Md_grant_30 (by decide) rfl (by first | assumption | decide | omega) (by first | assumption | exact ixn2 (by assumption) (by omega) (by omega)) (by first | assumption | rfl) ?_
  refine XE.if_ne 39 d_Md_grant_31 (by decide) (fun h31 => ?_) (fun h31 => ?_)
  · have q := e31 h31
    refine XE.iconst (x := nI 0) d_Md_grant_39 (by decide) ?_
    refine XE.goto 62 d_Md_grant_40 (by decide) ?_
    exact tail _ q
  · refine XE.iload d_Md_grant_34 rfl ?_
    refine XE.if_ne 43 d_Md_grant_36 (by decide) (fun h36 => ?_) (fun h36 => ?_)
    · refine XE.iload d_Md_grant_43 rfl ?_
      refine XE.iconst (x := nI 2) d_Md_grant_45 (by decide) ?_
      refine XE.icmp_ne 61 d_Md_grant_46 (by decide) (fun h46 => ?_) (fun h46 => ?_)
      · have q : grG m r n = nI 1 := by unfold grG; rw [if_neg (fun z => z.elim (n31 h31) h36), if_neg (fun z => h46 z.1)]
        refine XE.iconst (x := nI 1) d_Md_grant_61 (by decide) ?_
        exact tail _ q
      · refine XE.aload_n d_Md_grant_49 rfl ?_
        refine XE.iload_n d_Md_grant_50 rfl ?_
        refine k_Md_66 1 d_Md_grant_51 (by omega) (Nat.le_of_ble_eq_true rfl) (by first | assumption | decide | omega) (Md_openOf_n hM2 hB hn (by omega)) (fun r1 w1 hm1 hq1 => ?_)
        rw [hq1.1, hq1.2]
        clear hq1 hm1 r1 w1
        refine XE.if_ne 61 d_Md_grant_54 (by decide) (fun h54 => ?_) (fun h54 => ?_)
        · have q : grG m r n = nI 1 := by unfold grG; rw [if_neg (fun z => z.elim (n31 h31) h36), if_neg (fun z => h54 (by rw [z.2]; rfl))]
          refine XE.iconst (x := nI 1) d_Md_grant_61 (by decide) ?_
          exact tail _ q
        · have q : grG m r n = nI 2 := by unfold grG; rw [if_neg (fun z => z.elim (n31 h31) h36), if_pos ⟨h46, (eq_nI (b := 0) (hcn n) (by omega)).mp h54⟩]
          refine XE.iconst (x := nI 2) d_Md_grant_57 (by decide) ?_
          refine XE.goto 62 d_Md_grant_58 (by decide) ?_
          exact tail _ q
    · have q : grG m r n = nI 0 := if_pos (Or.inr h36)
      refine XE.iconst (x := nI 0) d_Md_grant_39 (by decide) ?_
      refine XE.goto 62 d_Md_grant_40 (by decide) ?_
      exact tail _ q
