/-! THE CLASS: looking at handles and requests -/
section HQ
variable {w : WW} {m : MS} {d : Nat}
theorem CR.op (hR : CR w m) (hI : MI m) : (opL m).length ≤ 12 := by rw [opL_len]; exact hI.1
theorem CR.oph (hR : CR w m) (hB : WB m) {i : Nat} (hi : i < (opL m).length) : wR w 101 1 i = (opL m)[i] ∧ 1 ≤ (opL m)[i] ∧ (opL m)[i] ≤ mH m ∧ hO (mh m (opL m)[i]) = true ∧ wR w 2 (opL m)[i] 1 = wR w 100 1 (hN (mh m (opL m)[i])) ∧ HDR w (opL m)[i] (mh m (opL m)[i]) := by
  have hm := opL_mem.mp (List.getElem_mem hi)
  exact ⟨hR.2.2.2.2.2.1.2.2.2.2.2 i hi, hm.1.1, hm.1.2, hm.2, hR.2.2.2.2.2.1.2.2.2.1 _ hm.1.1 hm.1.2 hm.2, hR.2.2.2.2.2.1.2.2.1 _ hm.1.1 hm.1.2⟩
/-- the node's object that a handle points to is the one asked for just if the numbers are the same -/
theorem CR.same (hR : CR w m) (hB : WB m) {x n : Nat} (h1 : 1 ≤ x) (h2 : x ≤ mH m) (h3 : hO (mh m x) = true) (hn : n ≤ 24) (ht : tT (mT m) n = true) : wR w 100 1 (hN (mh m x)) = wR w 100 1 n ↔ hN (mh m x) = n :=
  ⟨fun e => (hR.ct hB).inj (hB.n24 h1 h2) hn (hB.op h1 h2 h3) ht e, fun e => by rw [e]⟩
theorem cntO_op (m : MS) (n : Nat) : cntO m n = (opL m).countP (fun x => hN (mh m x) == n) := by
  unfold cntO opL
  rw [List.countP_filter]
  exact List.countP_congr (fun x _ => by rw [Bool.and_comm])
theorem SS_opensOf_ok {n : Nat} (hR : CR w m) (hB : WB m) (hI : MI m) (hn : n ≤ 24) (ht : tT (mT m) n = true) : E_SS_opensOf d [.inr (0, 1), .inr (1, wR w 100 1 n)] w (fun r w' => r = some (.inl (nI (cntO m n))) ∧ w' = w) := by
  refine S_SS_opensOf ?_
  have h12 := hR.op hI
  obtain ⟨s0, s2, s5, s7, g0, l0, l1, l2, l5⟩ := hR.1
  have hoc := hR.2.2.2.2.2.1.2.2.2.2.1
  rw [cntO_op]
  generalize hp : (fun x => hN (mh m x) == n) = p
  have loop : ∀ k i, i + k = (opL m).length → X_SS_opensOf d 4 [some (.inr (0, 1)), some (.inr (1, wR w 100 1 n)), some (.inl (nI (((opL m).take i).countP p))), some (.inl (nI i))] [] w (fun r w' => r = some (.inl (nI ((opL m).countP p))) ∧ w' = w) := by
    intro k
    induction k with
    | zero =>
      intro i hi
      rw [List.take_of_length_le (by omega)]
      refine XE.iload_n d_SS_opensOf_4 rfl ?_
      refine XE.aload_n d_SS_opensOf_5 rfl ?_
      refine g_SS_94 d_SS_opensOf_6 (by first | assumption | decide | omega) (by first | assumption | rfl) ?_
      refine XE.icmp_ge 34 d_SS_opensOf_9 (by decide) (fun h9 => ?_) (fun h9 => absurd h9 ((fun z => z ((le_nI (by omega) (by omega)).mpr (by omega)))))
      refine XE.iload_n d_SS_opensOf_34 rfl ?_
      exact XE.ri d_SS_opensOf_35 ⟨rfl, rfl⟩
    | succ k ih =>
      intro i hi
      have hlt : i < (opL m).length := by omega
      have hix : IXN (nI i) (wL w 101 1) i := IXN.nI (by omega) (by omega)
      obtain ⟨e1, e2, e3, e4, e5, e6⟩ := hR.oph hB hlt
      have h0 : (opL m)[i] ≠ 0 := by omega
      have hs : ((opL m).take (i + 1)).countP p = ((opL m).take i).countP p + if p (opL m)[i] = true then 1 else 0 := by
        rw [List.take_succ_eq_append_getElem hlt, List.countP_append, List.countP_singleton]
      have ih := ih (i + 1) (by omega)
      have hsm := hR.same hB e2 e3 e4 hn ht
      refine XE.iload_n d_SS_opensOf_4 rfl ?_
      refine XE.aload_n d_SS_opensOf_5 rfl ?_
      refine g_SS_94 d_SS_opensOf_6 (by first | assumption | decide | omega) (by first | assumption | rfl) ?_
      refine XE.icmp_ge 34 d_SS_opensOf_9 (by decide) (fun h9 => absurd h9 ((fun z => by have := (le_nI (by omega) (by omega)).mp z; omega))) (fun h9 => ?_)
      refine XE.aload_n d_SS_opensOf_12 rfl ?_
      refine g_SS_20 d_SS_opensOf_13 (by first | assumption | decide | omega) (by first | assumption | rfl) ?_
      refine XE.iload_n d_SS_opensOf_16 rfl ?_
      refine XE.aald d_SS_opensOf_17 (by decide) rfl (by first | assumption | decide | omega) (by first | assumption | exact ixn2 (by assumption) (by omega) (by omega)) (by first | assumption | rfl) ?_
      refine g_SS_76 d_SS_opensOf_18 (by first | assumption | decide | omega) (by first | assumption | rfl) ?_
      refine XE.aload_n d_SS_opensOf_21 rfl ?_
      refine XE.acmp_ne 28 d_SS_opensOf_22 (by decide) (by decide) (fun h22 => ?_) (fun h22 => ?_)
      · rw [show p (opL m)[i] = false by rw [← hp]; exact beq_eq_false_iff_ne.mpr (fun z => h22 (hsm.mpr z))] at hs
        rw [hs] at ih
        refine XE.iinc d_SS_opensOf_28 rfl (inc_nI _) ?_
        refine XE.goto 4 d_SS_opensOf_31 (by decide) ?_
        exact ih
      · rw [show p (opL m)[i] = true by rw [← hp]; exact beq_iff_eq.mpr (hsm.mp h22), if_pos rfl] at hs
        rw [hs] at ih
        refine XE.iinc d_SS_opensOf_25 rfl (inc_nI _) ?_
        refine XE.iinc d_SS_opensOf_28 rfl (inc_nI _) ?_
        refine XE.goto 4 d_SS_opensOf_31 (by decide) ?_
        exact ih
  refine XE.iconst (x := nI 0) d_SS_opensOf_0 (by decide) ?_
  refine XE.istore_n d_SS_opensOf_1 (by decide) ?_
  refine XE.iconst (x := nI 0) d_SS_opensOf_2 (by decide) ?_
  refine XE.istore_n d_SS_opensOf_3 (by decide) ?_
  exact loop (opL m).length 0 (by omega)
theorem SS_openHandle_ok (hR : CR w m) (hB : WB m) (hI : MI m) (v : Int32) : E_SS_openHandle d [.inr (0, 1), .inl v] w (fun r w' => r = some (.inr (nk 2 (hOf m v))) ∧ w' = w) := by
  refine S_SS_openHandle ?_
  have h12 := hR.op hI
  have b1 := hB.1
  obtain ⟨s0, s2, s5, s7, g0, l0, l1, l2, l5⟩ := hR.1
  have hoc := hR.2.2.2.2.2.1.2.2.2.2.1
  have loop : ∀ k i, i + k = (opL m).length → (∀ t (h : t < (opL m).length), t < i → ¬ nI (opL m)[t] = v) → X_SS_openHandle d 2 [some (.inr (0, 1)), some (.inl v), some (.inl (nI i))] [] w (fun r w' => r = some (.inr (nk 2 (hOf m v))) ∧ w' = w) := by
    intro k
    induction k with
    | zero =>
      intro i hi hno
      have e : hOf m v = 0 := Classical.byContradiction (fun h => by
        obtain ⟨a1, a2, a3, a4⟩ := hOf_nz hB h
        obtain ⟨t, ht, e⟩ := List.mem_iff_getElem.mp (opL_mem.mpr ⟨⟨a2, a3⟩, a4⟩)
        exact hno t ht (by omega) (by rw [e]; exact a1.symm))
      rw [e]
      refine XE.iload_n d_SS_openHandle_2 rfl ?_
      refine XE.aload_n d_SS_openHandle_3 rfl ?_
      refine g_SS_94 d_SS_openHandle_4 (by first | assumption | decide | omega) (by first | assumption | rfl) ?_
      refine XE.icmp_ge 36 d_SS_openHandle_7 (by decide) (fun h7 => ?_) (fun h7 => absurd h7 ((fun z => z ((le_nI (by omega) (by omega)).mpr (by omega)))))
      refine XE.null d_SS_openHandle_36 ?_
      exact XE.rr d_SS_openHandle_37 ⟨rfl, rfl⟩
    | succ k ih =>
      intro i hi hno
      have hlt : i < (opL m).length := by omega
      have hix : IXN (nI i) (wL w 101 1) i := IXN.nI (by omega) (by omega)
      obtain ⟨e1, e2, e3, e4, e5, e6⟩ := hR.oph hB hlt
      have h0 : (opL m)[i] ≠ 0 := by omega
      have e7 := e6.1
      refine XE.iload_n d_SS_openHandle_2 rfl ?_
      refine XE.aload_n d_SS_openHandle_3 rfl ?_
      refine g_SS_94 d_SS_openHandle_4 (by first | assumption | decide | omega) (by first | assumption | rfl) ?_
      refine XE.icmp_ge 36 d_SS_openHandle_7 (by decide) (fun h7 => absurd h7 ((fun z => by have := (le_nI (by omega) (by omega)).mp z; omega))) (fun h7 => ?_)
      refine XE.aload_n d_SS_openHandle_10 rfl ?_
      refine g_SS_20 d_SS_openHandle_11 (by first | assumption | decide | omega) (by first | assumption | rfl) ?_
      refine XE.iload_n d_SS_openHandle_14 rfl ?_
      refine XE.aald d_SS_openHandle_15 (by decide) rfl (by first | assumption | decide | omega) (by first | assumption | exact ixn2 (by assumption) (by omega) (by omega)) (by first | assumption | rfl) ?_
      refine g_SS_266 d_SS_openHandle_16 (by first | assumption | decide | omega) (by first | assumption | rfl) ?_
      refine XE.iload_n d_SS_openHandle_19 rfl ?_
      refine XE.icmp_ne 30 d_SS_openHandle_20 (by decide) (fun h20 => ?_) (fun h20 => ?_)
      · refine XE.iinc d_SS_openHandle_30 rfl (inc_nI _) ?_
        refine XE.goto 2 d_SS_openHandle_33 (by decide) ?_
        refine ih (i + 1) (by omega) (fun t ht h2 => ?_)
        by_cases e : t = i
        · subst e; exact h20
        · exact hno t ht (by omega)
      · refine XE.aload_n d_SS_openHandle_23 rfl ?_
        refine g_SS_20 d_SS_openHandle_24 (by first | assumption | decide | omega) (by first | assumption | rfl) ?_
        refine XE.iload_n d_SS_openHandle_27 rfl ?_
        refine XE.aald d_SS_openHandle_28 (by decide) rfl (by first | assumption | decide | omega) (by first | assumption | exact ixn2 (by assumption) (by omega) (by omega)) (by first | assumption | rfl) ?_
        have e : hOf m v = (opL m)[i] := by rw [← h20]; exact hOf_of hB e2 e3 e4
        rw [e, nk_nz h0]; exact XE.rr d_SS_openHandle_29 ⟨rfl, rfl⟩
  refine XE.iconst (x := nI 0) d_SS_openHandle_0 (by decide) ?_
  refine XE.istore_n d_SS_openHandle_1 (by decide) ?_
  exact loop (opL m).length 0 (by omega) (fun t _ h => absurd h (Nat.not_lt_zero t))
theorem SS_requestNumbered_ok (hR : CR w m) (hB : WB m) (v : Int32) : E_SS_requestNumbered d [.inr (0, 1), .inl v] w (fun r w' => r = some (.inr (nk 3 (rqOf m v))) ∧ w' = w) := by
  refine S_SS_requestNumbered ?_
  obtain ⟨s0, s2, s5, s7, g0, l0, l1, l2, l5⟩ := hR.1
  have b2 := hB.2.1
  obtain ⟨q0, q1, q2, q3⟩ := hR.2.2.2.2.2.2.1
  by_cases hr : 1 ≤ v ∧ v ≤ nI (mQ m)
  · obtain ⟨x, rfl, x1, x2, x3⟩ := rqOf_nz hB hr
    rw [x3, nk_nz (by omega)]
    have hix : IXN (nI (x - 1)) (wL w 102 1) (x - 1) := IXN.nI (by omega) (by omega)
    have hx := q2 (x - 1) (by omega)
    rw [show x - 1 + 1 = x by omega] at hx
    refine XE.iload_n d_SS_requestNumbered_0 rfl ?_
    refine XE.iconst (x := nI 1) d_SS_requestNumbered_1 (by decide) ?_
    refine XE.icmp_lt 24 d_SS_requestNumbered_2 (by decide) (fun h2 => absurd h2 ((fun z => Int32.not_lt.mpr hr.1 z))) (fun h2 => ?_)
    refine XE.iload_n d_SS_requestNumbered_5 rfl ?_
    refine XE.aload_n d_SS_requestNumbered_6 rfl ?_
    refine g_SS_48 d_SS_requestNumbered_7 (by first | assumption | decide | omega) (by first | assumption | rfl) ?_
    refine XE.icmp_gt 24 d_SS_requestNumbered_10 (by decide) (fun h10 => absurd h10 ((fun z => Int32.not_lt.mpr hr.2 z))) (fun h10 => ?_)
    refine XE.aload_n d_SS_requestNumbered_13 rfl ?_
    refine g_SS_26 d_SS_requestNumbered_14 (by first | assumption | decide | omega) (by first | assumption | rfl) ?_
    refine XE.iload_n d_SS_requestNumbered_17 rfl ?_
    refine XE.iconst (x := nI 1) d_SS_requestNumbered_18 (by decide) ?_
    refine XE.isub d_SS_requestNumbered_19 (nI_s1 x1) ?_
    refine XE.aald d_SS_requestNumbered_20 (by decide) rfl (by first | assumption | decide | omega) (by first | assumption | exact ixn2 (by assumption) (by omega) (by omega)) (by first | assumption | rfl) ?_
    refine XE.goto 25 d_SS_requestNumbered_21 (by decide) ?_
    exact XE.rr d_SS_requestNumbered_25 ⟨rfl, rfl⟩
  · have e : rqOf m v = 0 := if_neg hr
    rw [e, nk_z]
    refine XE.iload_n d_SS_requestNumbered_0 rfl ?_
    refine XE.iconst (x := nI 1) d_SS_requestNumbered_1 (by decide) ?_
    refine XE.icmp_lt 24 d_SS_requestNumbered_2 (by decide) (fun h2 => ?_) (fun h2 => ?_)
    · refine XE.null d_SS_requestNumbered_24 ?_
      exact XE.rr d_SS_requestNumbered_25 ⟨rfl, rfl⟩
    · refine XE.iload_n d_SS_requestNumbered_5 rfl ?_
      refine XE.aload_n d_SS_requestNumbered_6 rfl ?_
      refine g_SS_48 d_SS_requestNumbered_7 (by first | assumption | decide | omega) (by first | assumption | rfl) ?_
      refine XE.icmp_gt 24 d_SS_requestNumbered_10 (by decide) (fun h10 => ?_) (fun h10 => absurd h10 ((fun z => hr ⟨Int32.not_lt.mp h2, Int32.not_lt.mp z⟩)))
      refine XE.null d_SS_requestNumbered_24 ?_
      exact XE.rr d_SS_requestNumbered_25 ⟨rfl, rfl⟩
theorem SS_waiting_ok (hR : CR w m) (hB : WB m) : E_SS_waitingRequests d [.inr (0, 1)] w (fun r w' => r = some (.inl (nI (wtN m))) ∧ w' = w) := by
  refine S_SS_waitingRequests ?_
  obtain ⟨s0, s2, s5, s7, g0, l0, l1, l2, l5⟩ := hR.1
  have b2 := hB.2.1
  obtain ⟨q0, q1, q2, q3⟩ := hR.2.2.2.2.2.2.1
  unfold wtN
  generalize hp : (fun r => qO (mq m r) == 0) = p
  have loop : ∀ k i, i + k = mQ m → X_SS_waitingRequests d 4 [some (.inr (0, 1)), some (.inl (nI ((List.range' 1 i).countP p))), some (.inl (nI i))] [] w (fun r w' => r = some (.inl (nI ((List.range' 1 (mQ m)).countP p))) ∧ w' = w) := by
    intro k
    induction k with
    | zero =>
      intro i hi
      have hi : i = mQ m := hi
      subst hi
      refine XE.iload_n d_SS_waitingRequests_4 rfl ?_
      refine XE.aload_n d_SS_waitingRequests_5 rfl ?_
      refine g_SS_48 d_SS_waitingRequests_6 (by first | assumption | decide | omega) (by first | assumption | rfl) ?_
      refine XE.icmp_ge 33 d_SS_waitingRequests_9 (by decide) (fun h9 => ?_) (fun h9 => absurd h9 ((fun z => z ((le_nI (by omega) (by omega)).mpr (by omega)))))
      refine XE.iload_n d_SS_waitingRequests_33 rfl ?_
      exact XE.ri d_SS_waitingRequests_34 ⟨rfl, rfl⟩
    | succ k ih =>
      intro i hi
      have hix : IXN (nI i) (wL w 102 1) i := IXN.nI (by omega) (by omega)
      have e1 := q2 i (by omega)
      have e2 : wI w 3 (i + 1) 5 = qO (mq m (i + 1)) := (q3 (i + 1) (by omega) (by omega)).2.2.2.2.2
      have hs : (List.range' 1 (i + 1)).countP p = (List.range' 1 i).countP p + if p (i + 1) = true then 1 else 0 := by
        rw [List.range'_1_concat, List.countP_append, List.countP_singleton, Nat.add_comm 1 i]
      have ih := ih (i + 1) (by omega)
      refine XE.iload_n d_SS_waitingRequests_4 rfl ?_
      refine XE.aload_n d_SS_waitingRequests_5 rfl ?_
      refine g_SS_48 d_SS_waitingRequests_6 (by first | assumption | decide | omega) (by first | assumption | rfl) ?_
      refine XE.icmp_ge 33 d_SS_waitingRequests_9 (by decide) (fun h9 => absurd h9 ((fun z => by have := (le_nI (by omega) (by omega)).mp z; omega))) (fun h9 => ?_)
      refine XE.aload_n d_SS_waitingRequests_12 rfl ?_
      refine g_SS_26 d_SS_waitingRequests_13 (by first | assumption | decide | omega) (by first | assumption | rfl) ?_
      refine XE.iload_n d_SS_waitingRequests_16 rfl ?_
      refine XE.aald d_SS_waitingRequests_17 (by decide) rfl (by first | assumption | decide | omega) (by first | assumption | exact ixn2 (by assumption) (by omega) (by omega)) (by first | assumption | rfl) ?_
      refine g_SS_59 d_SS_waitingRequests_18 (by first | assumption | decide | omega) (by first | assumption | rfl) ?_
      refine XE.if_ne 27 d_SS_waitingRequests_21 (by decide) (fun h21 => ?_) (fun h21 => ?_)
      · rw [show p (i + 1) = false by rw [← hp]; exact beq_eq_false_iff_ne.mpr h21] at hs
        rw [hs] at ih
        refine XE.iinc d_SS_waitingRequests_27 rfl (inc_nI _) ?_
        refine XE.goto 4 d_SS_waitingRequests_30 (by decide) ?_
        exact ih
      · rw [show p (i + 1) = true by rw [← hp]; exact beq_iff_eq.mpr h21, if_pos rfl] at hs
        rw [hs] at ih
        refine XE.iinc d_SS_waitingRequests_24 rfl (inc_nI _) ?_
        refine XE.iinc d_SS_waitingRequests_27 rfl (inc_nI _) ?_
        refine XE.goto 4 d_SS_waitingRequests_30 (by decide) ?_
        exact ih
  refine XE.iconst (x := nI 0) d_SS_waitingRequests_0 (by decide) ?_
  refine XE.istore_n d_SS_waitingRequests_1 (by decide) ?_
  refine XE.iconst (x := nI 0) d_SS_waitingRequests_2 (by decide) ?_
  refine XE.istore_n d_SS_waitingRequests_3 (by decide) ?_
  exact loop (mQ m) 0 (by omega)
theorem shA_op (m : MS) (n : Nat) (md : Int32) : shA m n md = (opL m).any (fun x => hN (mh m x) == n && (!(accM md &&& (hS (mh m x) ^^^ (-1)) == 0) || !(hA (mh m x) &&& (shrM md ^^^ (-1)) == 0))) := by
  unfold shA opL
  rw [List.any_filter]
  rfl
theorem SS_clashes_ok {r n : Nat} (hR : CR w m) (hB : WB m) (hI : MI m) (r1 : 1 ≤ r) (r2 : r ≤ mQ m) (hn : n ≤ 24) (ht : tT (mT m) n = true) (hd : 1 ≤ d) : E_SS_clashesWithOpens d [.inr (0, 1), .inr (3, r), .inr (1, wR w 100 1 n)] w (fun r' w' => r' = some (.inl (bI (shA m n (qM (mq m r))))) ∧ w' = w) := by
  refine S_SS_clashesWithOpens ?_
  have h12 := hR.op hI
  obtain ⟨s0, s2, s5, s7, g0, l0, l1, l2, l5⟩ := hR.1
  have hoc := hR.2.2.2.2.2.1.2.2.2.2.1
  have hq3 : wI w 3 r 3 = qM (mq m r) := (hR.2.2.2.2.2.2.1.2.2.2 r r1 r2).2.2.2.1
  have r0 : r ≠ 0 := by omega
  rw [shA_op]
  generalize hp : (fun x => hN (mh m x) == n && (!(accM (qM (mq m r)) &&& (hS (mh m x) ^^^ (-1)) == 0) || !(hA (mh m x) &&& (shrM (qM (mq m r)) ^^^ (-1)) == 0))) = p
  have loop : ∀ k i l4 l5, i + k = (opL m).length → X_SS_clashesWithOpens d 2 [some (.inr (0, 1)), some (.inr (3, r)), some (.inr (1, wR w 100 1 n)), some (.inl (nI i)), l4, l5] [] w (fun r' w' => r' = some (.inl (bI (((opL m).drop i).any p))) ∧ w' = w) := by
    intro k
    induction k with
    | zero =>
      intro i l4 l5 hi
      rw [List.drop_eq_nil_of_le (by omega)]
      refine XE.iload_n d_SS_clashesWithOpens_2 rfl ?_
      refine XE.aload_n d_SS_clashesWithOpens_3 rfl ?_
      refine g_SS_94 d_SS_clashesWithOpens_4 (by first | assumption | decide | omega) (by first | assumption | rfl) ?_
      refine XE.icmp_ge 77 d_SS_clashesWithOpens_7 (by decide) (fun h7 => ?_) (fun h7 => absurd h7 ((fun z => z ((le_nI (by omega) (by omega)).mpr (by omega)))))
      refine XE.iconst (x := nI 0) d_SS_clashesWithOpens_77 (by decide) ?_
      exact XE.rb d_SS_clashesWithOpens_78 (by decide) ⟨rfl, rfl⟩
    | succ k ih =>
      intro i l4 l5 hi
      have hlt : i < (opL m).length := by omega
      have hix : IXN (nI i) (wL w 101 1) i := IXN.nI (by omega) (by omega)
      obtain ⟨e1, e2, e3, e4, e5, e6⟩ := hR.oph hB hlt
      rw [drop_c hlt, List.any_cons]
      generalize hX : (opL m)[i] = x at *
      have h0 : x ≠ 0 := by omega
      have e7 := e6.2.2.1
      have e8 := e6.2.2.2.1
      have hsm := hR.same hB e2 e3 e4 hn ht
      have fin : ∀ b : Bool, b = (!(accM (qM (mq m r)) &&& (hS (mh m x) ^^^ (-1)) == 0) || !(hA (mh m x) &&& (shrM (qM (mq m r)) ^^^ (-1)) == 0)) → X_SS_clashesWithOpens d 53 [some (.inr (0, 1)), some (.inr (3, r)), some (.inr (1, wR w 100 1 n)), some (.inl (nI i)), some (.inr (2, x)), l5] [.inl (bI b)] w (fun r' w' => r' = some (.inl (bI (p x || ((opL m).drop (i + 1)).any p))) ∧ w' = w) := by
        intro b hb
        have ep : p x = (hN (mh m x) == n && b) := by rw [← hp, hb]
        refine XE.istore d_SS_clashesWithOpens_53 (by decide) ?_
        refine XE.aload d_SS_clashesWithOpens_55 rfl ?_
        refine g_SS_76 d_SS_clashesWithOpens_57 (by first | assumption | decide | omega) (by first | assumption | rfl) ?_
        refine XE.aload_n d_SS_clashesWithOpens_60 rfl ?_
        refine XE.acmp_ne 71 d_SS_clashesWithOpens_61 (by decide) (by decide) (fun h61 => ?_) (fun h61 => ?_)
        · have q : p x = false := by rw [ep, beq_eq_false_iff_ne.mpr (fun z => h61 (hsm.mpr z))]; rfl
          refine XE.iinc d_SS_clashesWithOpens_71 rfl (inc_nI _) ?_
          refine XE.goto 2 d_SS_clashesWithOpens_74 (by decide) ?_
          rw [q, Bool.false_or]; exact ih (i + 1) _ _ (by omega)
        · have q61 : (hN (mh m x) == n) = true := beq_iff_eq.mpr (hsm.mp h61)
          refine XE.iload d_SS_clashesWithOpens_64 rfl ?_
          refine XE.if_eq 71 d_SS_clashesWithOpens_66 (by decide) (fun h66 => ?_) (fun h66 => ?_)
          · have q : p x = false := by rw [ep, (bI_eq0 _).mp h66, Bool.and_false]
            refine XE.iinc d_SS_clashesWithOpens_71 rfl (inc_nI _) ?_
            refine XE.goto 2 d_SS_clashesWithOpens_74 (by decide) ?_
            rw [q, Bool.false_or]; exact ih (i + 1) _ _ (by omega)
          · have q : p x = true := by rw [ep, q61, te _ h66]; rfl
            refine XE.iconst (x := nI 1) d_SS_clashesWithOpens_69 (by decide) ?_
            rw [q, Bool.true_or]; exact XE.rb d_SS_clashesWithOpens_70 (by decide) ⟨rfl, rfl⟩
      refine XE.iload_n d_SS_clashesWithOpens_2 rfl ?_
      refine XE.aload_n d_SS_clashesWithOpens_3 rfl ?_
      refine g_SS_94 d_SS_clashesWithOpens_4 (by first | assumption | decide | omega) (by first | assumption | rfl) ?_
      refine XE.icmp_ge 77 d_SS_clashesWithOpens_7 (by decide) (fun h7 => absurd h7 ((fun z => by have := (le_nI (by omega) (by omega)).mp z; omega))) (fun h7 => ?_)
      refine XE.aload_n d_SS_clashesWithOpens_10 rfl ?_
      refine g_SS_20 d_SS_clashesWithOpens_11 (by first | assumption | decide | omega) (by first | assumption | rfl) ?_
      refine XE.iload_n d_SS_clashesWithOpens_14 rfl ?_
      refine XE.aald d_SS_clashesWithOpens_15 (by decide) rfl (by first | assumption | decide | omega) (by first | assumption | exact ixn2 (by assumption) (by omega) (by omega)) (by first | assumption | rfl) ?_
      refine XE.astore d_SS_clashesWithOpens_16 (by decide) ?_
      refine XE.aload_n d_SS_clashesWithOpens_18 rfl ?_
      refine k_SS_262 0 d_SS_clashesWithOpens_19 (by omega) (Nat.le_of_ble_eq_true rfl) (by first | assumption | decide | omega) (Rq_access_ok r0 hq3) (fun r1 w1 hm1 hq1 => ?_)
      rw [hq1.1, hq1.2]
      clear hq1 hm1 r1 w1
      refine XE.aload d_SS_clashesWithOpens_22 rfl ?_
      refine g_SS_209 d_SS_clashesWithOpens_24 (by first | assumption | decide | omega) (by first | assumption | rfl) ?_
      refine XE.iconst (x := (-1)) d_SS_clashesWithOpens_27 (by decide) ?_
      refine XE.ixor d_SS_clashesWithOpens_28 rfl ?_
      refine XE.iand d_SS_clashesWithOpens_29 rfl ?_
      refine XE.if_ne 48 d_SS_clashesWithOpens_30 (by decide) (fun h30 => ?_) (fun h30 => ?_)
      · have q : true = (!(accM (qM (mq m r)) &&& (hS (mh m x) ^^^ (-1)) == 0) || !(hA (mh m x) &&& (shrM (qM (mq m r)) ^^^ (-1)) == 0)) := by rw [beq_eq_false_iff_ne.mpr h30]; rfl
        refine XE.iconst (x := nI 1) d_SS_clashesWithOpens_48 (by decide) ?_
        refine XE.goto 53 d_SS_clashesWithOpens_49 (by decide) ?_
        exact fin _ q
      · have q30 : (accM (qM (mq m r)) &&& (hS (mh m x) ^^^ (-1)) == 0) = true := beq_iff_eq.mpr h30
        refine XE.aload d_SS_clashesWithOpens_33 rfl ?_
        refine g_SS_206 d_SS_clashesWithOpens_35 (by first | assumption | decide | omega) (by first | assumption | rfl) ?_
        refine XE.aload_n d_SS_clashesWithOpens_38 rfl ?_
        refine k_SS_264 0 d_SS_clashesWithOpens_39 (by omega) (Nat.le_of_ble_eq_true rfl) (by first | assumption | decide | omega) (Rq_share_ok r0 hq3) (fun r1 w1 hm1 hq1 => ?_)
        rw [hq1.1, hq1.2]
        clear hq1 hm1 r1 w1
        refine XE.iconst (x := (-1)) d_SS_clashesWithOpens_42 (by decide) ?_
        refine XE.ixor d_SS_clashesWithOpens_43 rfl ?_
        refine XE.iand d_SS_clashesWithOpens_44 rfl ?_
        refine XE.if_eq 52 d_SS_clashesWithOpens_45 (by decide) (fun h45 => ?_) (fun h45 => ?_)
        · have q : false = (!(accM (qM (mq m r)) &&& (hS (mh m x) ^^^ (-1)) == 0) || !(hA (mh m x) &&& (shrM (qM (mq m r)) ^^^ (-1)) == 0)) := by rw [q30, beq_iff_eq.mpr h45]; rfl
          refine XE.iconst (x := nI 0) d_SS_clashesWithOpens_52 (by decide) ?_
          exact fin _ q
        · have q : true = (!(accM (qM (mq m r)) &&& (hS (mh m x) ^^^ (-1)) == 0) || !(hA (mh m x) &&& (shrM (qM (mq m r)) ^^^ (-1)) == 0)) := by rw [q30, beq_eq_false_iff_ne.mpr h45]; rfl
          refine XE.iconst (x := nI 1) d_SS_clashesWithOpens_48 (by decide) ?_
          refine XE.goto 53 d_SS_clashesWithOpens_49 (by decide) ?_
          exact fin _ q
  refine XE.iconst (x := nI 0) d_SS_clashesWithOpens_0 (by decide) ?_
  refine XE.istore_n d_SS_clashesWithOpens_1 (by decide) ?_
  exact loop (opL m).length 0 _ _ (by omega)
theorem SS_grantFor_ok {r n : Nat} (hR : CR w m) (hB : WB m) (hI : MI m) (r1 : 1 ≤ r) (r2 : r ≤ mQ m) (hn : n ≤ 24) (ht : tT (mT m) n = true) (hd : 1 ≤ d) : E_SS_grantFor d [.inr (0, 1), .inr (3, r), .inr (1, wR w 100 1 n)] w (fun r' w' => r' = some (.inl (grG m r n)) ∧ w' = w) := by
  refine S_SS_grantFor ?_
  have hT := hR.ct hB
  have h0 : wR w 100 1 n ≠ 0 := hT.nz hn ht
  have hf : wI w 1 (wR w 100 1 n) 1 = bI (tF (mT m) n) := ((hT.2 n hn).2.2 ht).2.1
  have hq4 : wI w 3 r 4 = qW (mq m r) := (hR.2.2.2.2.2.2.1.2.2.2 r r1 r2).2.2.2.2.1
  have r0 : r ≠ 0 := by omega
  have hle : cntO m n ≤ 512 := by
    have := List.countP_le_length (p := fun x => hO (mh m x) && hN (mh m x) == n) (l := List.range' 1 (mH m))
    rw [List.length_range'] at this
    exact Nat.le_trans this hB.1
  refine XE.aload_n d_SS_grantFor_0 rfl ?_
  refine g_SS_136 d_SS_grantFor_1 (by first | assumption | decide | omega) (by first | assumption | rfl) ?_
  refine XE.if_ne 14 d_SS_grantFor_4 (by decide) (fun h4 => ?_) (fun h4 => ?_)
  · have e : grG m r n = nI 0 := if_pos (Or.inl (te _ h4))
    rw [e]
    refine XE.iconst (x := nI 0) d_SS_grantFor_14 (by decide) ?_
    exact XE.ri d_SS_grantFor_15 ⟨rfl, rfl⟩
  · refine XE.aload_n d_SS_grantFor_7 rfl ?_
    refine g_SS_259 d_SS_grantFor_8 (by first | assumption | decide | omega) (by first | assumption | rfl) ?_
    refine XE.if_ne 16 d_SS_grantFor_11 (by decide) (fun h11 => ?_) (fun h11 => ?_)
    · have e1 : ¬ (tF (mT m) n = true ∨ qW (mq m r) = nI 0) := fun z => z.elim (fun y => by rw [y] at h4; exact absurd h4 (by decide)) h11
      refine XE.aload_n d_SS_grantFor_16 rfl ?_
      refine g_SS_259 d_SS_grantFor_17 (by first | assumption | decide | omega) (by first | assumption | rfl) ?_
      refine XE.iconst (x := nI 2) d_SS_grantFor_20 (by decide) ?_
      refine XE.icmp_ne 36 d_SS_grantFor_21 (by decide) (fun h21 => ?_) (fun h21 => ?_)
      · have e : grG m r n = nI 1 := by unfold grG; rw [if_neg e1, if_neg (fun z => h21 z.1)]
        rw [e]
        refine XE.iconst (x := nI 1) d_SS_grantFor_36 (by decide) ?_
        exact XE.ri d_SS_grantFor_37 ⟨rfl, rfl⟩
      · refine XE.aload_n d_SS_grantFor_24 rfl ?_
        refine XE.aload_n d_SS_grantFor_25 rfl ?_
        refine k_SS_199 0 d_SS_grantFor_26 (by omega) (Nat.le_of_ble_eq_true rfl) (by first | assumption | decide | omega) (SS_opensOf_ok hR hB hI hn ht) (fun r1 w1 hm1 hq1 => ?_)
        rw [hq1.1, hq1.2]
        clear hq1 hm1 r1 w1
        refine XE.if_ne 36 d_SS_grantFor_29 (by decide) (fun h29 => ?_) (fun h29 => ?_)
        · have e : grG m r n = nI 1 := by unfold grG; rw [if_neg e1, if_neg (fun z => h29 (by rw [z.2]; rfl))]
          rw [e]
          refine XE.iconst (x := nI 1) d_SS_grantFor_36 (by decide) ?_
          exact XE.ri d_SS_grantFor_37 ⟨rfl, rfl⟩
        · have e : grG m r n = nI 2 := by unfold grG; rw [if_neg e1, if_pos ⟨h21, (eq_nI (b := 0) (by omega) (by omega)).mp h29⟩]
          rw [e]
          refine XE.iconst (x := nI 2) d_SS_grantFor_32 (by decide) ?_
          refine XE.goto 37 d_SS_grantFor_33 (by decide) ?_
          exact XE.ri d_SS_grantFor_37 ⟨rfl, rfl⟩
    · have e : grG m r n = nI 0 := if_pos (Or.inr h11)
      rw [e]
      refine XE.iconst (x := nI 0) d_SS_grantFor_14 (by decide) ?_
      exact XE.ri d_SS_grantFor_15 ⟨rfl, rfl⟩
end HQ
