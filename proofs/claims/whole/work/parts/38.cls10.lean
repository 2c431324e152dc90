/-! THE CLASS: an attempt to open, and trying again -/
section ATT
variable {w : WW} {m : MS} {d : Nat}
theorem SS_openNew_ok {r : Nat} (hR : CR w m) (hB : WB m) (hI : MI m) (r1 : 1 ≤ r) (r2 : r ≤ mQ m) (hx : tT (mT m) (qD (mq m r)) = true ∧ tF (mT m) (qD (mq m r)) = true) (hat : atP (mT m) (nI (qD (mq m r))) (qN (mq m r)) = none) (h11 : mN m + 1 ≤ 1100) (hd : 3 ≤ d) :
    E_SS_openNew d [.inr (0, 1), .inr (3, r)] w (fun q w' => q = some (.inl (attM m r).1) ∧ CR w' (attM m r).2 ∧ FC 0 w w') := by
  refine S_SS_openNew ?_
  have ea : attM m r = if hasM (qM (mq m r)) 64 = false then (-3, m)
          else if mM m (qD (mq m r)) = true then (-7, m)
          else if tG (mT m) = 24 ∨ nOpen m = 12 then (-2, m)
          else (nI (mH m + 1), grM (noteM m (1, tG (mT m) + 1, nI (qD (mq m r)), qN (mq m r), bI (hasM (qM (mq m r)) 256))) r (tG (mT m) + 1)) := by
    unfold attM
    rw [if_neg (fun h => h hx), hat]
  have hend : ∀ {x : Int32} {pc : Nat} {ls : List (Option VV)}, decode c_SS_openNew pc = .ok (.ireturn, 1) → attM m r = (x, m) → X_SS_openNew d pc ls [.inl x] w (fun q w' => q = some (.inl (attM m r).1) ∧ CR w' (attM m r).2 ∧ FC 0 w w') := by
    intro x pc ls hd2 he
    exact XE.ri hd2 ⟨by rw [he], by rw [he]; exact hR, FC.rf⟩
  have hq := hR.2.2.2.2.2.2.1.2.2.2 r r1 r2
  have hT := hR.ct hB
  have d24 := hB.d24 r1 r2
  have g24 := hB.g24
  obtain ⟨s0, s2, s5, s7, g0, l0, l1, l2, l5⟩ := hR.1
  have hgv : wI w 0 1 1 = nI (tG (mT m)) := hT.1
  have hoc : wI w 0 1 3 = nI (nOpen m) := by rw [← opL_len]; exact hR.2.2.2.2.2.1.2.2.2.2.1
  have h12 := hI.1
  have r0 : r ≠ 0 := by omega
  have hd1 : wI w 3 r 1 = nI (qD (mq m r)) := hq.2.1
  have h0 : wR w 100 1 (qD (mq m r)) ≠ 0 := hT.nz d24 hx.1
  have hdm : wI w 1 (wR w 100 1 (qD (mq m r))) 4 = bI (mM m (qD (mq m r))) := hR.2.2.2.1 _ d24 hx.1
  have hix : IXN (nI (qD (mq m r))) (wL w 100 1) (qD (mq m r)) := IXN.nI (by omega) (by omega)
  have fin : hasM (qM (mq m r)) 64 = true → ¬ mM m (qD (mq m r)) = true → ¬ (tG (mT m) = 24 ∨ nOpen m = 12) → X_SS_openNew d 51 [some (.inr (0, 1)), some (.inr (3, r))] [] w (fun q w' => q = some (.inl (attM m r).1) ∧ CR w' (attM m r).2 ∧ FC 0 w w') := by
    intro q1 q2 q3
    have e : attM m r = (nI (mH m + 1), grM (noteM m (1, tG (mT m) + 1, nI (qD (mq m r)), qN (mq m r), bI (hasM (qM (mq m r)) 256))) r (tG (mT m) + 1)) := by rw [ea, if_neg (by rw [q1]; decide), if_neg q2, if_neg q3]
    rw [e]
    have hg : tG (mT m) < 24 := by omega
    have hB2 : WB (noteM m (1, tG (mT m) + 1, nI (qD (mq m r)), qN (mq m r), bI (hasM (qM (mq m r)) 256))) := hB.made (by omega) h11
    have hI2 := hI.made hB (b := qN (mq m r)) d24 hx.1 hx.2 hg (hasM (qM (mq m r)) 256)
    have ht2 : tT (mT (noteM m (1, tG (mT m) + 1, nI (qD (mq m r)), qN (mq m r), bI (hasM (qM (mq m r)) 256)))) (tG (mT m) + 1) = true := by rw [mT_note, tT_app1, if_pos rfl]
    refine XE.aload_n d_SS_openNew_51 rfl ?_
    refine XE.aload_n d_SS_openNew_52 rfl ?_
    refine XE.aload_n d_SS_openNew_53 rfl ?_
    refine XE.aload_n d_SS_openNew_54 rfl ?_
    refine k_SS_239 2 d_SS_openNew_55 (by omega) (Nat.le_of_ble_eq_true rfl) (by first | assumption | decide | omega) (SS_makeNode_ok hR hB hI r1 r2 hx.1 hx.2 hg (by omega)) (fun y1 w2 hm1 hq1 => ?_)
    obtain ⟨rfl, hR2, hn2, hF2, hG2⟩ := hq1
    have hmh := SS_makeHandle_ok (d := 2) hR2 hB2 hI2 r1 r2 (by omega) ht2 (fun z => q3 (Or.inr z)) (by omega)
    rw [hn2] at hmh
    refine k_SS_243 2 d_SS_openNew_58 (by omega) (Nat.le_of_ble_eq_true rfl) (by first | assumption | decide | omega) hmh (fun y1 w3 hm3 hq3 => ?_)
    obtain ⟨rfl, hR3, hF3, hG3⟩ := hq3
    exact XE.ri d_SS_openNew_61 ⟨rfl, hR3, fc_new hF2 hG2 hF3.1 hG3⟩
  refine XE.aload_n d_SS_openNew_0 rfl ?_
  refine XE.bipush (x := nI 64) d_SS_openNew_1 (by decide) ?_
  refine k_SS_236 0 d_SS_openNew_3 (by omega) (Nat.le_of_ble_eq_true rfl) (by first | assumption | decide | omega) (Rq_has_ok r0 hq.2.2.2.1 64) (fun r1 w1 hm1 hq1 => ?_)
  rw [hq1.1, hq1.2]
  clear hq1 hm1 r1 w1
  refine XE.if_ne 12 d_SS_openNew_6 (by decide) (fun h6 => ?_) (fun h6 => ?_)
  · have q1 := te _ h6
    refine XE.aload_n d_SS_openNew_12 rfl ?_
    refine g_SS_11 d_SS_openNew_13 (by first | assumption | decide | omega) (by first | assumption | rfl) ?_
    refine XE.aload_n d_SS_openNew_16 rfl ?_
    refine g_SS_227 d_SS_openNew_17 (by first | assumption | decide | omega) (by first | assumption | rfl) ?_
    refine XE.aald d_SS_openNew_20 (by decide) rfl (by first | assumption | decide | omega) (by first | assumption | exact ixn2 (by assumption) (by omega) (by omega)) (by first | assumption | rfl) ?_
    refine g_SS_104 d_SS_openNew_21 (by first | assumption | decide | omega) (by first | assumption | rfl) ?_
    refine XE.if_eq 30 d_SS_openNew_24 (by decide) (fun h24 => ?_) (fun h24 => ?_)
    · have q2 : ¬ mM m (qD (mq m r)) = true := by rw [(bI_eq0 _).mp h24]; decide
      refine XE.aload_n d_SS_openNew_30 rfl ?_
      refine g_SS_215 d_SS_openNew_31 (by first | assumption | decide | omega) (by first | assumption | rfl) ?_
      refine XE.bipush (x := nI 24) d_SS_openNew_34 (by decide) ?_
      refine XE.icmp_ge 48 d_SS_openNew_36 (by decide) (fun h36 => ?_) (fun h36 => ?_)
      · have e : attM m r = (-2, m) := by rw [ea, if_neg (by rw [q1]; decide), if_neg q2, if_pos (Or.inl (by have := (le_nI (by omega) (by omega)).mp h36; omega))]
        refine XE.bipush (x := (-2)) d_SS_openNew_48 (by decide) ?_
        exact hend d_SS_openNew_50 e
      · have q3 : tG (mT m) ≠ 24 := fun z => h36 (by rw [z]; decide)
        refine XE.aload_n d_SS_openNew_39 rfl ?_
        refine g_SS_94 d_SS_openNew_40 (by first | assumption | decide | omega) (by first | assumption | rfl) ?_
        refine XE.bipush (x := nI 12) d_SS_openNew_43 (by decide) ?_
        refine XE.icmp_lt 51 d_SS_openNew_45 (by decide) (fun h45 => ?_) (fun h45 => ?_)
        · exact fin q1 q2 (fun z => z.elim q3 (fun y => by have := (lt_nI (by omega) (by omega)).mp h45; omega))
        · have e : attM m r = (-2, m) := by rw [ea, if_neg (by rw [q1]; decide), if_neg q2, if_pos (Or.inr (by have : ¬ nOpen m < 12 := fun z => h45 ((lt_nI (by omega) (by omega)).mpr z); omega))]
          refine XE.bipush (x := (-2)) d_SS_openNew_48 (by decide) ?_
          exact hend d_SS_openNew_50 e
    · have e : attM m r = (-7, m) := by rw [ea, if_neg (by rw [q1]; decide), if_pos (te _ h24)]
      refine XE.bipush (x := (-7)) d_SS_openNew_27 (by decide) ?_
      exact hend d_SS_openNew_29 e
  · have e : attM m r = (-3, m) := by rw [ea, if_pos ((bI_eq0 _).mp h6)]
    refine XE.bipush (x := (-3)) d_SS_openNew_9 (by decide) ?_
    exact hend d_SS_openNew_11 e
theorem SS_openThere_ok {r n : Nat} (hR : CR w m) (hB : WB m) (hI : MI m) (r1 : 1 ≤ r) (r2 : r ≤ mQ m) (hx : tT (mT m) (qD (mq m r)) = true ∧ tF (mT m) (qD (mq m r)) = true) (hat : atP (mT m) (nI (qD (mq m r))) (qN (mq m r)) = some n) (hd : 3 ≤ d) :
    E_SS_openThere d [.inr (0, 1), .inr (3, r), .inr (1, wR w 100 1 n)] w (fun q w' => q = some (.inl (attM m r).1) ∧ CR w' (attM m r).2 ∧ FC 0 w w') := by
  refine S_SS_openThere ?_
  have ea : attM m r = if hasM (qM (mq m r)) 64 = true ∧ hasM (qM (mq m r)) 128 = true then (-4, m)
          else if tF (mT m) n ≠ hasM (qM (mq m r)) 256 then (-5, m)
          else if brkA m n = true then (0, brkM m n)
          else if mM m n = true then (-7, m)
          else if shA m n (qM (mq m r)) = true then (-6, m)
          else if nOpen m = 12 then (-2, m)
          else (nI (mH m + 1), grM m r n) := by
    unfold attM
    rw [if_neg (fun h => h hx), hat]
  have hend : ∀ {x : Int32} {pc : Nat} {ls : List (Option VV)} {w2 : WW}, decode c_SS_openThere pc = .ok (.ireturn, 1) → attM m r = (x, m) → CR w2 m → FC 0 w w2 → X_SS_openThere d pc ls [.inl x] w2 (fun q w' => q = some (.inl (attM m r).1) ∧ CR w' (attM m r).2 ∧ FC 0 w w') := by
    intro x pc ls w2 hd2 he hR2 hF2
    exact XE.ri hd2 ⟨by rw [he], by rw [he]; exact hR2, hF2⟩
  obtain ⟨n1, n2, n3, -⟩ := atP_some hat
  have g24 := hB.g24
  have hn : n ≤ 24 := by omega
  have hq := hR.2.2.2.2.2.2.1.2.2.2 r r1 r2
  have hT := hR.ct hB
  have r0 : r ≠ 0 := by omega
  have h0 : wR w 100 1 n ≠ 0 := hT.nz hn n3
  have hfo : wI w 1 (wR w 100 1 n) 1 = bI (tF (mT m) n) := ((hT.2 n hn).2.2 n3).2.1
  have hbi : ∀ a b : Bool, bI a = bI b ↔ a = b := by decide
  have fin : ¬ (hasM (qM (mq m r)) 64 = true ∧ hasM (qM (mq m r)) 128 = true) → tF (mT m) n = hasM (qM (mq m r)) 256 → X_SS_openThere d 39 [some (.inr (0, 1)), some (.inr (3, r)), some (.inr (1, wR w 100 1 n))] [] w (fun q w' => q = some (.inl (attM m r).1) ∧ CR w' (attM m r).2 ∧ FC 0 w w') := by
    intro q1 q2
    have hbr := SS_breaks_ok (d := 2) hR hB hI hn n3
    cases hb : brkA m n with
    | true =>
      have e : attM m r = (0, brkM m n) := by rw [ea, if_neg q1, if_neg (fun z => z q2), if_pos hb]
      rw [hb] at hbr
      rw [e]
      refine XE.aload_n d_SS_openThere_39 rfl ?_
      refine XE.aload_n d_SS_openThere_40 rfl ?_
      refine k_SS_246 2 d_SS_openThere_41 (by omega) (Nat.le_of_ble_eq_true rfl) (by first | assumption | decide | omega) hbr (fun y1 w2 hm1 hq1 => ?_)
      obtain ⟨rfl, hR2, hF2, hN2⟩ := hq1
      refine XE.if_eq 49 d_SS_openThere_44 (by decide) (fun h44 => absurd h44 ((by decide))) (fun h44 => ?_)
      refine XE.iconst (x := nI 0) d_SS_openThere_47 (by decide) ?_
      exact XE.ri d_SS_openThere_48 ⟨rfl, hR2, hF2⟩
    | false =>
      rw [hb, brkM_no hb] at hbr
      have nb : ¬ brkA m n = true := by rw [hb]; decide
      have rest : ∀ w2 : WW, CR w2 m → FC 0 w w2 → wR w2 100 1 n = wR w 100 1 n → X_SS_openThere d 49 [some (.inr (0, 1)), some (.inr (3, r)), some (.inr (1, wR w 100 1 n))] [] w2 (fun q w' => q = some (.inl (attM m r).1) ∧ CR w' (attM m r).2 ∧ FC 0 w w') := by
        intro w2 hR2 hF2 hnn
        rw [← hnn] at h0 ⊢
        have hdm : wI w2 1 (wR w2 100 1 n) 4 = bI (mM m n) := hR2.2.2.2.1 _ hn n3
        have hsh := SS_clashes_ok (d := 2) hR2 hB hI r1 r2 hn n3 (by omega)
        have hoc : wI w2 0 1 3 = nI (nOpen m) := by rw [← opL_len]; exact hR2.2.2.2.2.2.1.2.2.2.2.1
        have h12 := hI.1
        refine XE.aload_n d_SS_openThere_49 rfl ?_
        refine g_SS_104 d_SS_openThere_50 (by first | assumption | decide | omega) (by first | assumption | rfl) ?_
        refine XE.if_eq 59 d_SS_openThere_53 (by decide) (fun h53 => ?_) (fun h53 => ?_)
        · have q3 : ¬ mM m n = true := by rw [(bI_eq0 _).mp h53]; decide
          refine XE.aload_n d_SS_openThere_59 rfl ?_
          refine XE.aload_n d_SS_openThere_60 rfl ?_
          refine XE.aload_n d_SS_openThere_61 rfl ?_
          refine k_SS_249 2 d_SS_openThere_62 (by omega) (Nat.le_of_ble_eq_true rfl) (by first | assumption | decide | omega) hsh (fun r1 w1 hm1 hq1 => ?_)
          rw [hq1.1, hq1.2]
          clear hq1 hm1 r1 w1
          refine XE.if_eq 71 d_SS_openThere_65 (by decide) (fun h65 => ?_) (fun h65 => ?_)
          · have q4 : ¬ shA m n (qM (mq m r)) = true := by rw [(bI_eq0 _).mp h65]; decide
            refine XE.aload_n d_SS_openThere_71 rfl ?_
            refine g_SS_94 d_SS_openThere_72 (by first | assumption | decide | omega) (by first | assumption | rfl) ?_
            refine XE.bipush (x := nI 12) d_SS_openThere_75 (by decide) ?_
            refine XE.icmp_lt 83 d_SS_openThere_77 (by decide) (fun h77 => ?_) (fun h77 => ?_)
            · have q5 : ¬ nOpen m = 12 := by have := (lt_nI (by omega) (by omega)).mp h77; omega
              refine XE.aload_n d_SS_openThere_83 rfl ?_
              refine XE.aload_n d_SS_openThere_84 rfl ?_
              refine XE.aload_n d_SS_openThere_85 rfl ?_
              refine k_SS_243 2 d_SS_openThere_86 (by omega) (Nat.le_of_ble_eq_true rfl) (by first | assumption | decide | omega) (SS_makeHandle_ok hR2 hB hI r1 r2 hn n3 q5 (by omega)) (fun y1 w3 hm3 hq3 => ?_)
              obtain ⟨rfl, hR3, hF3, hG3⟩ := hq3
              have e : attM m r = (nI (mH m + 1), grM m r n) := by rw [ea, if_neg q1, if_neg (fun z => z q2), if_neg nb, if_neg q3, if_neg q4, if_neg q5]
              exact XE.ri d_SS_openThere_89 ⟨by rw [e], by rw [e]; exact hR3, hF2.tr hF3⟩
            · have e : attM m r = (-2, m) := by rw [ea, if_neg q1, if_neg (fun z => z q2), if_neg nb, if_neg q3, if_neg q4, if_pos (by have : ¬ nOpen m < 12 := fun z => h77 ((lt_nI (by omega) (by omega)).mpr z); omega)]
              refine XE.bipush (x := (-2)) d_SS_openThere_80 (by decide) ?_
              exact hend d_SS_openThere_82 e hR2 hF2
          · have e : attM m r = (-6, m) := by rw [ea, if_neg q1, if_neg (fun z => z q2), if_neg nb, if_neg q3, if_pos (te _ h65)]
            refine XE.bipush (x := (-6)) d_SS_openThere_68 (by decide) ?_
            exact hend d_SS_openThere_70 e hR2 hF2
        · have e : attM m r = (-7, m) := by rw [ea, if_neg q1, if_neg (fun z => z q2), if_neg nb, if_pos (te _ h53)]
          refine XE.bipush (x := (-7)) d_SS_openThere_56 (by decide) ?_
          exact hend d_SS_openThere_58 e hR2 hF2
      refine XE.aload_n d_SS_openThere_39 rfl ?_
      refine XE.aload_n d_SS_openThere_40 rfl ?_
      refine k_SS_246 2 d_SS_openThere_41 (by omega) (Nat.le_of_ble_eq_true rfl) (by first | assumption | decide | omega) hbr (fun y1 w2 hm1 hq1 => ?_)
      obtain ⟨rfl, hR2, hF2, hN2⟩ := hq1
      refine XE.if_eq 49 d_SS_openThere_44 (by decide) (fun h44 => ?_) (fun h44 => absurd h44 ((fun z => z rfl)))
      exact rest _ hR2 hF2 (hN2 n)
  refine XE.aload_n d_SS_openThere_0 rfl ?_
  refine XE.bipush (x := nI 64) d_SS_openThere_1 (by decide) ?_
  refine k_SS_236 0 d_SS_openThere_3 (by omega) (Nat.le_of_ble_eq_true rfl) (by first | assumption | decide | omega) (Rq_has_ok r0 hq.2.2.2.1 64) (fun r1 w1 hm1 hq1 => ?_)
  rw [hq1.1, hq1.2]
  clear hq1 hm1 r1 w1
  refine XE.if_eq 22 d_SS_openThere_6 (by decide) (fun h6 => ?_) (fun h6 => ?_)
  · have q1 : ¬ (hasM (qM (mq m r)) 64 = true ∧ hasM (qM (mq m r)) 128 = true) := fun z => by rw [z.1] at h6; exact absurd h6 (by decide)
    refine XE.aload_n d_SS_openThere_22 rfl ?_
    refine g_SS_136 d_SS_openThere_23 (by first | assumption | decide | omega) (by first | assumption | rfl) ?_
    refine XE.aload_n d_SS_openThere_26 rfl ?_
    refine XE.sipush (x := nI 256) d_SS_openThere_27 (by decide) ?_
    refine k_SS_236 0 d_SS_openThere_30 (by omega) (Nat.le_of_ble_eq_true rfl) (by first | assumption | decide | omega) (Rq_has_ok r0 hq.2.2.2.1 256) (fun r1 w1 hm1 hq1 => ?_)
    rw [hq1.1, hq1.2]
    clear hq1 hm1 r1 w1
    refine XE.icmp_eq 39 d_SS_openThere_33 (by decide) (fun h33 => ?_) (fun h33 => ?_)
    · exact fin q1 ((hbi _ _).mp h33)
    · have e : attM m r = (-5, m) := by rw [ea, if_neg q1, if_pos (fun z => h33 (by rw [z]))]
      refine XE.bipush (x := (-5)) d_SS_openThere_36 (by decide) ?_
      exact hend d_SS_openThere_38 e hR FC.rf
  · refine XE.aload_n d_SS_openThere_9 rfl ?_
    refine XE.sipush (x := nI 128) d_SS_openThere_10 (by decide) ?_
    refine k_SS_236 0 d_SS_openThere_13 (by omega) (Nat.le_of_ble_eq_true rfl) (by first | assumption | decide | omega) (Rq_has_ok r0 hq.2.2.2.1 128) (fun r1 w1 hm1 hq1 => ?_)
    rw [hq1.1, hq1.2]
    clear hq1 hm1 r1 w1
    refine XE.if_eq 22 d_SS_openThere_16 (by decide) (fun h16 => ?_) (fun h16 => ?_)
    · have q1 : ¬ (hasM (qM (mq m r)) 64 = true ∧ hasM (qM (mq m r)) 128 = true) := fun z => by rw [z.2] at h16; exact absurd h16 (by decide)
      refine XE.aload_n d_SS_openThere_22 rfl ?_
      refine g_SS_136 d_SS_openThere_23 (by first | assumption | decide | omega) (by first | assumption | rfl) ?_
      refine XE.aload_n d_SS_openThere_26 rfl ?_
      refine XE.sipush (x := nI 256) d_SS_openThere_27 (by decide) ?_
      refine k_SS_236 0 d_SS_openThere_30 (by omega) (Nat.le_of_ble_eq_true rfl) (by first | assumption | decide | omega) (Rq_has_ok r0 hq.2.2.2.1 256) (fun r1 w1 hm1 hq1 => ?_)
      rw [hq1.1, hq1.2]
      clear hq1 hm1 r1 w1
      refine XE.icmp_eq 39 d_SS_openThere_33 (by decide) (fun h33 => ?_) (fun h33 => ?_)
      · exact fin q1 ((hbi _ _).mp h33)
      · have e : attM m r = (-5, m) := by rw [ea, if_neg q1, if_pos (fun z => h33 (by rw [z]))]
        refine XE.bipush (x := (-5)) d_SS_openThere_36 (by decide) ?_
        exact hend d_SS_openThere_38 e hR FC.rf
    · have e : attM m r = (-4, m) := by rw [ea, if_pos ⟨te _ h6, te _ h16⟩]
      refine XE.bipush (x := (-4)) d_SS_openThere_19 (by decide) ?_
      exact hend d_SS_openThere_21 e hR FC.rf
theorem SS_attempt_ok {r : Nat} (hR : CR w m) (hB : WB m) (hI : MI m) (r1 : 1 ≤ r) (r2 : r ≤ mQ m) (h11 : mN m + 1 ≤ 1100) (hd : 4 ≤ d) :
    E_SS_attempt d [.inr (0, 1), .inr (3, r)] w (fun q w' => q = some (.inl (attM m r).1) ∧ CR w' (attM m r).2 ∧ FC 0 w w') := by
  refine S_SS_attempt ?_
  have hq := hR.2.2.2.2.2.2.1.2.2.2 r r1 r2
  have hT := hR.ct hB
  have d24 := hB.d24 r1 r2
  have g24 := hB.g24
  have r0 : r ≠ 0 := by omega
  have hd1 : wI w 3 r 1 = nI (qD (mq m r)) := hq.2.1
  have hd2 : wI w 3 r 2 = qN (mq m r) := hq.2.2.1
  have hft := SS_isFolderThere_ok (d := 1) hR.1 hT (by omega) (nI (qD (mq m r)))
  rw [fth_nI d24] at hft
  by_cases hx : tT (mT m) (qD (mq m r)) = true ∧ tF (mT m) (qD (mq m r)) = true
  · rw [hx.1, hx.2] at hft
    have hna := SS_nodeAt_ok (d := 1) hR.1 hT hI.ti (nI (qD (mq m r))) (qN (mq m r)) (nI_pos (by omega))
    cases hat : atP (mT m) (nI (qD (mq m r))) (qN (mq m r)) with
    | none =>
      rw [hat] at hna
      refine XE.aload_n d_SS_attempt_0 rfl ?_
      refine XE.aload_n d_SS_attempt_1 rfl ?_
      refine g_SS_227 d_SS_attempt_2 (by first | assumption | decide | omega) (by first | assumption | rfl) ?_
      refine k_SS_111 1 d_SS_attempt_5 (by omega) (Nat.le_of_ble_eq_true rfl) (by first | assumption | decide | omega) hft (fun r1 w1 hm1 hq1 => ?_)
      rw [hq1.1, hq1.2]
      clear hq1 hm1 r1 w1
      refine XE.if_ne 14 d_SS_attempt_8 (by decide) (fun h8 => ?_) (fun h8 => absurd h8 ((by decide)))
      refine XE.aload_n d_SS_attempt_14 rfl ?_
      refine XE.aload_n d_SS_attempt_15 rfl ?_
      refine g_SS_227 d_SS_attempt_16 (by first | assumption | decide | omega) (by first | assumption | rfl) ?_
      refine XE.aload_n d_SS_attempt_19 rfl ?_
      refine g_SS_228 d_SS_attempt_20 (by first | assumption | decide | omega) (by first | assumption | rfl) ?_
      refine k_SS_117 1 d_SS_attempt_23 (by omega) (Nat.le_of_ble_eq_true rfl) (by first | assumption | decide | omega) hna (fun r1 w1 hm1 hq1 => ?_)
      rw [hq1.1, hq1.2]
      clear hq1 hm1 r1 w1
      refine XE.astore_n d_SS_attempt_26 (by decide) ?_
      refine XE.aload_n d_SS_attempt_27 rfl ?_
      refine XE.ifnonnull 39 d_SS_attempt_28 (by decide) (fun h28 => absurd h28 ((fun z => z rfl))) (fun h28 => ?_)
      refine XE.aload_n d_SS_attempt_31 rfl ?_
      refine XE.aload_n d_SS_attempt_32 rfl ?_
      refine k_SS_229 3 d_SS_attempt_33 (by omega) (Nat.le_of_ble_eq_true rfl) (by first | assumption | decide | omega) (SS_openNew_ok hR hB hI r1 r2 hx hat h11 (by omega)) (fun y1 w2 hm1 hq1 => ?_)
      obtain ⟨rfl, hR2, hF2⟩ := hq1
      refine XE.goto 45 d_SS_attempt_36 (by decide) ?_
      exact XE.ri d_SS_attempt_45 ⟨rfl, hR2, hF2⟩
    | some n =>
      obtain ⟨n1, n2, n3, -⟩ := atP_some hat
      have h0 : wR w 100 1 n ≠ 0 := hT.nz (by omega) n3
      rw [hat, show atO (ctW w) (some n) = wR w 100 1 n from rfl, nk_nz h0] at hna
      refine XE.aload_n d_SS_attempt_0 rfl ?_
      refine XE.aload_n d_SS_attempt_1 rfl ?_
      refine g_SS_227 d_SS_attempt_2 (by first | assumption | decide | omega) (by first | assumption | rfl) ?_
      refine k_SS_111 1 d_SS_attempt_5 (by omega) (Nat.le_of_ble_eq_true rfl) (by first | assumption | decide | omega) hft (fun r1 w1 hm1 hq1 => ?_)
      rw [hq1.1, hq1.2]
      clear hq1 hm1 r1 w1
      refine XE.if_ne 14 d_SS_attempt_8 (by decide) (fun h8 => ?_) (fun h8 => absurd h8 ((by decide)))
      refine XE.aload_n d_SS_attempt_14 rfl ?_
      refine XE.aload_n d_SS_attempt_15 rfl ?_
      refine g_SS_227 d_SS_attempt_16 (by first | assumption | decide | omega) (by first | assumption | rfl) ?_
      refine XE.aload_n d_SS_attempt_19 rfl ?_
      refine g_SS_228 d_SS_attempt_20 (by first | assumption | decide | omega) (by first | assumption | rfl) ?_
      refine k_SS_117 1 d_SS_attempt_23 (by omega) (Nat.le_of_ble_eq_true rfl) (by first | assumption | decide | omega) hna (fun r1 w1 hm1 hq1 => ?_)
      rw [hq1.1, hq1.2]
      clear hq1 hm1 r1 w1
      refine XE.astore_n d_SS_attempt_26 (by decide) ?_
      refine XE.aload_n d_SS_attempt_27 rfl ?_
      refine XE.ifnonnull 39 d_SS_attempt_28 (by decide) (fun h28 => ?_) (fun h28 => absurd h28 (h0))
      refine XE.aload_n d_SS_attempt_39 rfl ?_
      refine XE.aload_n d_SS_attempt_40 rfl ?_
      refine XE.aload_n d_SS_attempt_41 rfl ?_
      refine k_SS_232 3 d_SS_attempt_42 (by omega) (Nat.le_of_ble_eq_true rfl) (by first | assumption | decide | omega) (SS_openThere_ok hR hB hI r1 r2 hx hat (by omega)) (fun y1 w2 hm1 hq1 => ?_)
      obtain ⟨rfl, hR2, hF2⟩ := hq1
      exact XE.ri d_SS_attempt_45 ⟨rfl, hR2, hF2⟩
  · have e : attM m r = (-3, m) := if_pos hx
    have e2 : (tT (mT m) (qD (mq m r)) && tF (mT m) (qD (mq m r))) = false := by
      cases h : (tT (mT m) (qD (mq m r)) && tF (mT m) (qD (mq m r))) with
      | false => rfl
      | true => rw [Bool.and_eq_true] at h; exact absurd h hx
    rw [e2] at hft
    rw [e]
    refine XE.aload_n d_SS_attempt_0 rfl ?_
    refine XE.aload_n d_SS_attempt_1 rfl ?_
    refine g_SS_227 d_SS_attempt_2 (by first | assumption | decide | omega) (by first | assumption | rfl) ?_
    refine k_SS_111 1 d_SS_attempt_5 (by omega) (Nat.le_of_ble_eq_true rfl) (by first | assumption | decide | omega) hft (fun r1 w1 hm1 hq1 => ?_)
    rw [hq1.1, hq1.2]
    clear hq1 hm1 r1 w1
    refine XE.if_ne 14 d_SS_attempt_8 (by decide) (fun h8 => absurd h8 ((fun z => z rfl))) (fun h8 => ?_)
    refine XE.bipush (x := (-3)) d_SS_attempt_11 (by decide) ?_
    exact XE.ri d_SS_attempt_13 ⟨rfl, hR, FC.rf⟩
theorem CR.qset (hR : CR w m) {r : Nat} (r1 : 1 ≤ r) (r2 : r ≤ mQ m) (v : Int32) : CR (sI w 3 r 5 v) (setQ m (uf (mq m) r (qsO (mq m r) v))) := by
  obtain ⟨c1, c2, c3, c4, c5, c6, ⟨q0, q1, q2, q3⟩, c8⟩ := hR
  refine ⟨c1, c2, c3, c4, c5, c6, ⟨q0, q1, q2, fun y y1 y2 => ?_⟩, c8⟩
  have q := q3 y y1 y2
  show RQR (sI w 3 r 5 v) y (uf (mq m) r (qsO (mq m r) v) y)
  obtain ⟨a0, a1, a2, a3, a4, a5⟩ := q
  by_cases e : y = r
  · subst e
    rw [uf_s]
    exact ⟨by rw [wI_sI, if_neg (by omega)]; exact a0, by rw [wI_sI, if_neg (by omega)]; exact a1, by rw [wI_sI, if_neg (by omega)]; exact a2, by rw [wI_sI, if_neg (by omega)]; exact a3, by rw [wI_sI, if_neg (by omega)]; exact a4, by rw [wI_sI, if_pos ⟨rfl, rfl, rfl⟩]; rfl⟩
  · rw [uf_n _ _ e]
    unfold RQR
    simp only [wI_sI, e, false_and, and_false, if_false]
    exact ⟨a0, a1, a2, a3, a4, a5⟩
end ATT
/-! the invariants over an attempt -/
section MIA
variable {m : MS}
theorem MI.seth (h : MI m) {f : Nat → HR} (hb : ∀ k ∈ mK m, 1 ≤ k.1 ∧ k.1 ≤ mH m) (h1 : ∀ x, 1 ≤ x → x ≤ mH m → hN (f x) = hN (mh m x) ∧ (hO (f x) = true → hO (mh m x) = true) ∧ (nI 2 ≤ hG (f x) → nI 2 ≤ hG (mh m x))) (h2 : ∀ k ∈ mK m, hO (f k.1) = true) : MI (setH m f) := by
  obtain ⟨i1, i2, i3, i4, i5, i6, i7, i8⟩ := h
  refine ⟨Nat.le_trans (List.countP_mono_left (fun x hx => ?_)) i1, fun n => ?_, fun k hk => ⟨h2 k hk, ?_, (i3 k hk).2.2⟩, fun x y x1 x2 y1 y2 ox oy e gx gy => ?_, fun x x1 x2 => ?_, i6, i7, i8⟩
  · have hx : x ∈ List.range' 1 (mH m) := hx
    have := List.mem_range'_1.mp hx
    exact (h1 x (by omega) (by omega)).2.1
  · have e : lksN (setH m f) n = lksN m n := List.countP_congr (fun k hk => by
      obtain ⟨a, b⟩ := hb k hk
      show (hN (f k.1) == n) = true ↔ _
      rw [(h1 k.1 a b).1])
    rw [e]; exact i2 n
  · obtain ⟨a, b⟩ := hb k hk
    show tF (mT m) (hN (f k.1)) = false
    rw [(h1 k.1 a b).1]
    exact (i3 k hk).2.1
  · obtain ⟨a1, a2, a3⟩ := h1 x x1 x2
    obtain ⟨b1, b2, b3⟩ := h1 y y1 y2
    have e : hN (f x) = hN (f y) := e
    rw [a1, b1] at e
    exact i4 x y x1 x2 y1 y2 (a2 ox) (b2 oy) e (a3 gx) (b3 gy)
  · show 1 ≤ hN (f x)
    rw [(h1 x x1 x2).1]
    exact i5 x x1 x2
theorem WB.kb (hB : WB m) : ∀ k ∈ mK m, 1 ≤ k.1 ∧ k.1 ≤ mH m := fun k hk => ⟨(hB.2.2.2.2.2.2.1 k hk).1, (hB.2.2.2.2.2.2.1 k hk).2.1⟩
theorem MI.brk (h : MI m) (hB : WB m) (n : Nat) : MI (brkM m n) := by
  have e : ∀ x, hN (if (1 ≤ x ∧ x ≤ mH m) ∧ brkP m n x = true then hsG (mh m x) (nI 3) else mh m x) = hN (mh m x) ∧ hO (if (1 ≤ x ∧ x ≤ mH m) ∧ brkP m n x = true then hsG (mh m x) (nI 3) else mh m x) = hO (mh m x) ∧ (nI 2 ≤ hG (if (1 ≤ x ∧ x ≤ mH m) ∧ brkP m n x = true then hsG (mh m x) (nI 3) else mh m x) → nI 2 ≤ hG (mh m x)) := fun x => by
    split
    · rename_i q
      refine ⟨rfl, rfl, fun _ => ?_⟩
      have := q.2
      unfold brkP at this
      simp only [Bool.and_eq_true, decide_eq_true_eq] at this
      exact this.2.2
    · exact ⟨rfl, rfl, id⟩
  exact h.seth hB.kb (fun x _ _ => ⟨(e x).1, fun z => by rw [← (e x).2.1]; exact z, (e x).2.2⟩) (fun k hk => by rw [(e k.1).2.1]; exact (h.2.2.1 k hk).1)
theorem MI.gr (h : MI m) (hB : WB m) {r n : Nat} (hn : 1 ≤ n) (h12 : nOpen m ≠ 12) (hb : brkA m n = false) : MI (grM m r n) := by
  obtain ⟨i1, i2, i3, i4, i5, i6, i7, i8⟩ := h
  have e : ∀ x, x ≤ mH m → mh (grM m r n) x = mh m x := fun x h => uf_n _ _ (by omega)
  have e2 : mh (grM m r n) (mH m + 1) = (n, accM (qM (mq m r)), shrM (qM (mq m r)), grG m r n, qC (mq m r), hasM (qM (mq m r)) 512, true) := uf_s _ _ _
  have nb : ∀ y, 1 ≤ y → y ≤ mH m → hO (mh m y) = true → hN (mh m y) = n → nI 2 ≤ hG (mh m y) → False := fun y y1 y2 y3 y4 y5 => by
    have : brkA m n = true := List.any_eq_true.mpr ⟨y, List.mem_range'_1.mpr (by omega), by unfold brkP; rw [y3, beq_iff_eq.mpr y4, decide_eq_true y5]; rfl⟩
    rw [hb] at this
    exact absurd this (by decide)
  refine ⟨?_, fun k => ?_, fun k hk => ?_, fun x y x1 x2 y1 y2 ox oy en gx gy => ?_, fun x x1 x2 => ?_, i6, i7, i8⟩
  · have : nOpen (grM m r n) = nOpen m + 1 := by
      unfold nOpen
      show (List.range' 1 (mH m + 1)).countP _ = _
      rw [List.range'_1_concat, List.countP_append, Nat.add_comm 1 (mH m), List.countP_singleton, e2]
      congr 1
      exact List.countP_congr (fun x hx => by have := List.mem_range'_1.mp hx; rw [e x (by omega)])
    omega
  · have : lksN (grM m r n) k = lksN m k := List.countP_congr (fun q hq => by rw [e _ (hB.kb q hq).2])
    rw [this]; exact i2 k
  · have hk : k ∈ mK m := hk
    rw [e _ (hB.kb k hk).2]
    exact i3 k hk
  · have x2 : x ≤ mH m + 1 := x2
    have y2 : y ≤ mH m + 1 := y2
    by_cases ex : x = mH m + 1
    · by_cases ey : y = mH m + 1
      · omega
      · rw [e y (by omega)] at oy en gy
        rw [ex, e2] at en
        exact (nb y y1 (by omega) oy en.symm gy).elim
    · rw [e x (by omega)] at ox en gx
      by_cases ey : y = mH m + 1
      · rw [ey, e2] at en
        exact (nb x x1 (by omega) ox en gx).elim
      · rw [e y (by omega)] at oy en gy
        exact i4 x y x1 (by omega) y1 (by omega) ox oy en gx gy
  · have x2 : x ≤ mH m + 1 := x2
    by_cases ex : x = mH m + 1
    · rw [ex, e2]; exact hn
    · rw [e x (by omega)]; exact i5 x x1 (by omega)
theorem att_mi (hB : WB m) (hI : MI m) {r : Nat} (r1 : 1 ≤ r) (r2 : r ≤ mQ m) (h11 : mN m + 1 ≤ 1100) : MI (attM m r).2 := by
  have g24 := hB.g24
  have d24 := hB.d24 r1 r2
  unfold attM
  split
  · exact hI
  · rename_i hx
    have hx : tT (mT m) (qD (mq m r)) = true ∧ tF (mT m) (qD (mq m r)) = true := Classical.not_not.mp hx
    split
    · rename_i hat
      split
      · exact hI
      · split
        · exact hI
        · split
          · exact hI
          · rename_i h
            have hg : tG (mT m) < 24 := by omega
            have hI2 := hI.made hB (b := qN (mq m r)) d24 hx.1 hx.2 hg (hasM (qM (mq m r)) 256)
            have hB2 : WB (noteM m (1, tG (mT m) + 1, nI (qD (mq m r)), qN (mq m r), bI (hasM (qM (mq m r)) 256))) := hB.made (by omega) h11
            refine hI2.gr hB2 (by omega) (fun z => h (Or.inr z)) ?_
            refine List.any_eq_false.mpr (fun x hxm => ?_)
            have hxm : x ∈ List.range' 1 (mH m) := hxm
            have hxr := List.mem_range'_1.mp hxm
            show ¬ (hO (mh m x) && (hN (mh m x) == tG (mT m) + 1 && decide (nI 2 ≤ hG (mh m x)))) = true
            intro z
            simp only [Bool.and_eq_true, beq_iff_eq] at z
            have := hI.ti.2.2.1 _ (hB.n24 (by omega) (by omega)) (hB.op (by omega) (by omega) z.1)
            omega
    · rename_i n hat
      obtain ⟨n1, n2, n3, -⟩ := atP_some hat
      split
      · exact hI
      · split
        · exact hI
        · split
          · exact hI.brk hB n
          · rename_i hb
            split
            · exact hI
            · split
              · exact hI
              · split
                · exact hI
                · rename_i h
                  exact hI.gr hB n1 h (Bool.not_eq_true _ ▸ hb)
theorem try_mi {c : Nat} (hB : WB m) (hD : BD c m) (hI : MI m) {r : Nat} (r1 : 1 ≤ r) (r2 : r ≤ mQ m) : MI (tryS m r) := by
  unfold tryS
  split
  · rename_i hq
    have := wait_lt hB hD r1 r2 hq
    exact att_mi hB hI r1 r2 (by have := hD.2.1; have := hD.2.2; omega)
  · exact hI
theorem tryL_mi {c : Nat} : ∀ (k i : Nat) (m : MS), WB m → BD c m → MI m → 1 ≤ i → i + k = mQ m + 1 → MI (tryL k i m) := by
  intro k
  induction k with
  | zero => intro i m _ _ hI _ _; exact hI
  | succ k ih =>
    intro i m hB hD hI h1 h2
    obtain ⟨a, b, e⟩ := try_inv hB hD h1 (by omega : i ≤ mQ m)
    exact ih (i + 1) (tryS m i) a b (try_mi hB hD hI h1 (by omega)) (by omega) (by omega)
theorem tryM_mi {c : Nat} (hB : WB m) (hD : BD c m) (hI : MI m) : MI (tryM m) := tryL_mi (mQ m) 1 m hB hD hI (by omega) (by omega)
end MIA
section TRY
variable {w : WW} {m : MS} {c d : Nat}
theorem try_storeC {w1 : WW} {r : Nat} (hB : WB m) (hD : BD c m) (r1 : 1 ≤ r) (r2 : r ≤ mQ m) (hq : qO (mq m r) = 0) (hR1 : CR w1 (attM m r).2) : CR (sI w1 3 r 5 (attM m r).1) (tryS m r) := by
  obtain ⟨i1, i2, i3, i4, i5⟩ := att_inv hB ⟨wait_lt hB hD r1 r2 hq, hD.2.1, hD.2.2⟩ r1 r2
  have := hR1.qset (r := r) r1 (by rw [i2]; exact r2) (attM m r).1
  rw [i3] at this
  rw [tryS_pos hq]
  exact this
theorem SS_tryAgain_ok (hR : CR w m) (hB : WB m) (hD : BD c m) (hI : MI m) (hd : 5 ≤ d) : E_SS_tryWaitingAgain d [.inr (0, 1)] w (fun r w' => r = none ∧ CR w' (tryM m) ∧ FC 0 w w') := by
  refine S_SS_tryWaitingAgain ?_
  have loop : ∀ k i m1 w1, CR w1 m1 → WB m1 → BD c m1 → MI m1 → FC 0 w w1 → i + k = mQ m1 → X_SS_tryWaitingAgain d 2 [some (.inr (0, 1)), some (.inl (nI i))] [] w1 (fun r w' => r = none ∧ CR w' (tryL k (i + 1) m1) ∧ FC 0 w w') := by
    intro k
    induction k with
    | zero =>
      intro i m1 w1 hR hB hD hI hF h2
      have b2 := hB.2.1
      have hn : wI w1 0 1 6 = nI (mQ m1) := hR.2.2.2.2.2.2.1.1
      refine XE.iload_n d_SS_tryWaitingAgain_2 rfl ?_
      refine XE.aload_n d_SS_tryWaitingAgain_3 rfl ?_
      refine g_SS_48 d_SS_tryWaitingAgain_4 (by first | assumption | decide | omega) (by first | assumption | rfl) ?_
      refine XE.icmp_ge 47 d_SS_tryWaitingAgain_7 (by decide) (fun h7 => ?_) (fun h7 => absurd h7 ((fun z => z ((le_nI (by omega) (by omega)).mpr (by omega)))))
      exact XE.rv d_SS_tryWaitingAgain_47 ⟨rfl, hR, hF⟩
    | succ k ih =>
      intro i m1 w1 hR hB hD hI hF h2
      have b2 := hB.2.1
      obtain ⟨s0, s2, s5, s7, g0, l0, l1, l2, l5⟩ := hR.1
      obtain ⟨q0, q1, q2, q3⟩ := hR.2.2.2.2.2.2.1
      have hix : IXN (nI i) (wL w1 102 1) i := IXN.nI (by omega) (by omega)
      have e1 := q2 i (by omega)
      have e2 : wI w1 3 (i + 1) 5 = qO (mq m1 (i + 1)) := (q3 (i + 1) (by omega) (by omega)).2.2.2.2.2
      refine XE.iload_n d_SS_tryWaitingAgain_2 rfl ?_
      refine XE.aload_n d_SS_tryWaitingAgain_3 rfl ?_
      refine g_SS_48 d_SS_tryWaitingAgain_4 (by first | assumption | decide | omega) (by first | assumption | rfl) ?_
      refine XE.icmp_ge 47 d_SS_tryWaitingAgain_7 (by decide) (fun h7 => absurd h7 ((fun z => by have := (le_nI (by omega) (by omega)).mp z; omega))) (fun h7 => ?_)
      refine XE.aload_n d_SS_tryWaitingAgain_10 rfl ?_
      refine g_SS_26 d_SS_tryWaitingAgain_11 (by first | assumption | decide | omega) (by first | assumption | rfl) ?_
      refine XE.iload_n d_SS_tryWaitingAgain_14 rfl ?_
      refine XE.aald d_SS_tryWaitingAgain_15 (by decide) rfl (by first | assumption | decide | omega) (by first | assumption | exact ixn2 (by assumption) (by omega) (by omega)) (by first | assumption | rfl) ?_
      refine g_SS_59 d_SS_tryWaitingAgain_16 (by first | assumption | decide | omega) (by first | assumption | rfl) ?_
      refine XE.if_ne 41 d_SS_tryWaitingAgain_19 (by decide) (fun h19 => ?_) (fun h19 => ?_)
      · have z := ih (i + 1) m1 w1 hR hB hD hI hF (by omega)
        refine XE.iinc d_SS_tryWaitingAgain_41 rfl (inc_nI _) ?_
        refine XE.goto 2 d_SS_tryWaitingAgain_44 (by decide) ?_
        first | (rw [show tryL (k + 1) (i + 1) m1 = tryL k (i + 1 + 1) m1 by show tryL k (i + 1 + 1) (tryS m1 (i + 1)) = _; rw [tryS_neg h19]]; exact z) | exact ih (i + 1) (tryS m1 (i + 1)) _ (try_storeC hB hD (by omega) (by omega) h19 hR2) ti.1 ti.2.1 tm ((hF.tr hF2).tr (FC.sI (by decide))) (by rw [ti.2.2]; omega)
      · have ti := try_inv hB hD (r := i + 1) (by omega) (by omega)
        have tm := try_mi hB hD hI (r := i + 1) (by omega) (by omega)
        refine XE.aload_n d_SS_tryWaitingAgain_22 rfl ?_
        refine g_SS_26 d_SS_tryWaitingAgain_23 (by first | assumption | decide | omega) (by first | assumption | rfl) ?_
        refine XE.iload_n d_SS_tryWaitingAgain_26 rfl ?_
        refine XE.aald d_SS_tryWaitingAgain_27 (by decide) rfl (by first | assumption | decide | omega) (by first | assumption | exact ixn2 (by assumption) (by omega) (by omega)) (by first | assumption | rfl) ?_
        refine XE.aload_n d_SS_tryWaitingAgain_28 rfl ?_
        refine XE.aload_n d_SS_tryWaitingAgain_29 rfl ?_
        refine g_SS_26 d_SS_tryWaitingAgain_30 (by first | assumption | decide | omega) (by first | assumption | rfl) ?_
        refine XE.iload_n d_SS_tryWaitingAgain_33 rfl ?_
        refine XE.aald d_SS_tryWaitingAgain_34 (by decide) rfl (by first | assumption | decide | omega) (by first | assumption | exact ixn2 (by assumption) (by omega) (by omega)) (by first | assumption | rfl) ?_
        refine k_SS_55 4 d_SS_tryWaitingAgain_35 (by omega) (Nat.le_of_ble_eq_true rfl) (by first | assumption | decide | omega) (SS_attempt_ok hR hB hI (by omega) (by omega) (by have := hD.2.1; have := hD.2.2; have := wait_lt hB hD (r := i + 1) (by omega) (by omega) h19; omega) (by omega)) (fun x1 w2 hm1 hq1 => ?_)
        obtain ⟨rfl, hR2, hF2⟩ := hq1
        refine p_SS_59 d_SS_tryWaitingAgain_38 (by first | assumption | decide | omega) ?_
        refine XE.iinc d_SS_tryWaitingAgain_41 rfl (inc_nI _) ?_
        refine XE.goto 2 d_SS_tryWaitingAgain_44 (by decide) ?_
        first | (rw [show tryL (k + 1) (i + 1) m1 = tryL k (i + 1 + 1) m1 by show tryL k (i + 1 + 1) (tryS m1 (i + 1)) = _; rw [tryS_neg h19]]; exact z) | exact ih (i + 1) (tryS m1 (i + 1)) _ (try_storeC hB hD (by omega) (by omega) h19 hR2) ti.1 ti.2.1 tm ((hF.tr hF2).tr (FC.sI (by decide))) (by rw [ti.2.2]; omega)
  refine XE.iconst (x := nI 0) d_SS_tryWaitingAgain_0 (by decide) ?_
  refine XE.istore_n d_SS_tryWaitingAgain_1 (by decide) ?_
  exact loop (mQ m) 0 m w hR hB hD hI FC.rf (by omega)
end TRY
