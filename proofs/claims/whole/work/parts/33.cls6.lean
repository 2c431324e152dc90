/-! THE CLASS: the calls that only look -/
/-- all that is known of an open handle -/
def HX (w : WW) (m : MS) (x : Nat) : Prop := x ≠ 0 ∧ 1 ≤ x ∧ x ≤ mH m ∧ hO (mh m x) = true ∧ hN (mh m x) ≤ 24 ∧ tT (mT m) (hN (mh m x)) = true ∧ wR w 2 x 1 = wR w 100 1 (hN (mh m x)) ∧ wR w 100 1 (hN (mh m x)) ≠ 0 ∧ wR w 100 1 (hN (mh m x)) ≤ wC w 1 ∧
  wI w 1 (wR w 100 1 (hN (mh m x))) 0 = nI (hN (mh m x)) ∧ wI w 1 (wR w 100 1 (hN (mh m x))) 1 = bI (tF (mT m) (hN (mh m x))) ∧ HDR w x (mh m x)
section LOOK
variable {w : WW} {m : MS} {d : Nat}
theorem CR.hx (hR : CR w m) (hB : WB m) {v : Int32} (h : hOf m v ≠ 0) : HX w m (hOf m v) := by
  obtain ⟨a1, a2, a3, a4⟩ := hOf_nz hB h
  have n24 := hB.n24 a2 a3
  have ht := hB.op a2 a3 a4
  have hT := hR.ct hB
  have hc := hT.2 _ n24
  exact ⟨h, a2, a3, a4, n24, ht, hR.2.2.2.2.2.1.2.2.2.1 _ a2 a3 a4, hT.nz n24 ht, hc.1, (hc.2.2 ht).1, (hc.2.2 ht).2.1, hR.2.2.2.2.2.1.2.2.1 _ a2 a3⟩
theorem SS_value_ok (hR : CR w m) : E_SS_value d [.inr (0, 1)] w (fun r w' => r = some (.inl (mS m)) ∧ w' = w) := by
  refine S_SS_value ?_
  have h8 := hR.2.2.2.2.2.2.2
  refine XE.aload_n d_SS_value_0 rfl ?_
  refine g_SS_147 d_SS_value_1 (by first | assumption | decide | omega) (by first | assumption | rfl) ?_
  exact XE.ri d_SS_value_4 ⟨rfl, rfl⟩
theorem SS_outcome_ok (hR : CR w m) (hB : WB m) (hd : 1 ≤ d) (v : Int32) : E_SS_outcome d [.inr (0, 1), .inl v] w (fun r w' => r = some (.inl (outM m v)) ∧ w' = w) := by
  refine S_SS_outcome ?_
  have hq := SS_requestNumbered_ok (d := 0) hR hB v
  by_cases hx : rqOf m v = 0
  · have e : outM m v = -1 := if_pos hx
    rw [hx, nk_z] at hq
    rw [e]
    refine XE.aload_n d_SS_outcome_0 rfl ?_
    refine XE.iload_n d_SS_outcome_1 rfl ?_
    refine k_SS_62 0 d_SS_outcome_2 (by omega) (Nat.le_of_ble_eq_true rfl) (by first | assumption | decide | omega) hq (fun r1 w1 hm1 hq1 => ?_)
    rw [hq1.1, hq1.2]
    clear hq1 hm1 r1 w1
    refine XE.astore_n d_SS_outcome_5 (by decide) ?_
    refine XE.aload_n d_SS_outcome_6 rfl ?_
    refine XE.ifnonnull 14 d_SS_outcome_7 (by decide) (fun h7 => absurd h7 ((fun z => z rfl))) (fun h7 => ?_)
    refine XE.iconst (x := (-1)) d_SS_outcome_10 (by decide) ?_
    refine XE.goto 18 d_SS_outcome_11 (by decide) ?_
    exact XE.ri d_SS_outcome_18 ⟨rfl, rfl⟩
  · have e : outM m v = qO (mq m (rqOf m v)) := if_neg hx
    have hr : 1 ≤ v ∧ v ≤ nI (mQ m) := Classical.not_not.mp (fun z => hx (if_neg z))
    obtain ⟨x, -, x1, x2, x3⟩ := rqOf_nz hB hr
    rw [x3] at hx e
    rw [x3, nk_nz hx] at hq
    rw [e]
    have h5 : wI w 3 x 5 = qO (mq m x) := (hR.2.2.2.2.2.2.1.2.2.2 x x1 x2).2.2.2.2.2
    refine XE.aload_n d_SS_outcome_0 rfl ?_
    refine XE.iload_n d_SS_outcome_1 rfl ?_
    refine k_SS_62 0 d_SS_outcome_2 (by omega) (Nat.le_of_ble_eq_true rfl) (by first | assumption | decide | omega) hq (fun r1 w1 hm1 hq1 => ?_)
    rw [hq1.1, hq1.2]
    clear hq1 hm1 r1 w1
    refine XE.astore_n d_SS_outcome_5 (by decide) ?_
    refine XE.aload_n d_SS_outcome_6 rfl ?_
    refine XE.ifnonnull 14 d_SS_outcome_7 (by decide) (fun h7 => ?_) (fun h7 => absurd h7 ((fun z => hx z)))
    refine XE.aload_n d_SS_outcome_14 rfl ?_
    refine g_SS_59 d_SS_outcome_15 (by first | assumption | decide | omega) (by first | assumption | rfl) ?_
    exact XE.ri d_SS_outcome_18 ⟨rfl, rfl⟩
theorem SS_find_ok (hR : CR w m) (hB : WB m) (hI : MI m) (hd : 2 ≤ d) (a b : Int32) : E_SS_find d [.inr (0, 1), .inl a, .inl b] w (fun r w' => r = some (.inl (fndM m a b)) ∧ w' = w) := by
  refine S_SS_find ?_
  have hT := hR.ct hB
  have g24 := hB.g24
  have hpl := SS_isPlace_ok (w := w) (d := 1) (by omega) a b
  by_cases hr : (nI 0 ≤ a ∧ a ≤ nI 24) ∧ (nI 0 ≤ b ∧ b ≤ nI 15)
  · have e : fndM m a b = oI (atP (mT m) a b) := if_pos hr
    have e1 : ((decide (nI 0 ≤ a) && decide (a ≤ nI 24)) && (decide (nI 0 ≤ b) && decide (b ≤ nI 15))) = true := by simp [hr]
    rw [e1] at hpl
    have hat := SS_nodeAt_ok (d := 1) hR.1 hT hI.ti a b (Int32.not_lt.mpr hr.1.1)
    rw [e]
    cases ha : atP (mT m) a b with
    | none =>
      rw [ha] at hat
      refine XE.iload_n d_SS_find_0 rfl ?_
      refine XE.iload_n d_SS_find_1 rfl ?_
      refine k_SS_41 1 d_SS_find_2 (by omega) (Nat.le_of_ble_eq_true rfl) hpl (fun r1 w1 hm1 hq1 => ?_)
      rw [hq1.1, hq1.2]
      clear hq1 hm1 r1 w1
      refine XE.if_ne 10 d_SS_find_5 (by decide) (fun h5 => ?_) (fun h5 => absurd h5 ((by decide)))
      refine XE.aload_n d_SS_find_10 rfl ?_
      refine XE.iload_n d_SS_find_11 rfl ?_
      refine XE.iload_n d_SS_find_12 rfl ?_
      refine k_SS_117 1 d_SS_find_13 (by omega) (Nat.le_of_ble_eq_true rfl) (by first | assumption | decide | omega) hat (fun r1 w1 hm1 hq1 => ?_)
      rw [hq1.1, hq1.2]
      clear hq1 hm1 r1 w1
      refine XE.astore_n d_SS_find_16 (by decide) ?_
      refine XE.aload_n d_SS_find_17 rfl ?_
      refine XE.ifnonnull 26 d_SS_find_18 (by decide) (fun h18 => absurd h18 ((fun z => z rfl))) (fun h18 => ?_)
      refine XE.bipush (x := (-3)) d_SS_find_21 (by decide) ?_
      refine XE.goto 30 d_SS_find_23 (by decide) ?_
      exact XE.ri d_SS_find_30 ⟨rfl, rfl⟩
    | some n =>
      obtain ⟨n1, n2, n3, -⟩ := atP_some ha
      have h0 : wR w 100 1 n ≠ 0 := hT.nz (by omega) n3
      have hn : wI w 1 (wR w 100 1 n) 0 = nI n := ((hT.2 n (by omega)).2.2 n3).1
      rw [ha, show atO (ctW w) (some n) = wR w 100 1 n from rfl, nk_nz h0] at hat
      refine XE.iload_n d_SS_find_0 rfl ?_
      refine XE.iload_n d_SS_find_1 rfl ?_
      refine k_SS_41 1 d_SS_find_2 (by omega) (Nat.le_of_ble_eq_true rfl) hpl (fun r1 w1 hm1 hq1 => ?_)
      rw [hq1.1, hq1.2]
      clear hq1 hm1 r1 w1
      refine XE.if_ne 10 d_SS_find_5 (by decide) (fun h5 => ?_) (fun h5 => absurd h5 ((by decide)))
      refine XE.aload_n d_SS_find_10 rfl ?_
      refine XE.iload_n d_SS_find_11 rfl ?_
      refine XE.iload_n d_SS_find_12 rfl ?_
      refine k_SS_117 1 d_SS_find_13 (by omega) (Nat.le_of_ble_eq_true rfl) (by first | assumption | decide | omega) hat (fun r1 w1 hm1 hq1 => ?_)
      rw [hq1.1, hq1.2]
      clear hq1 hm1 r1 w1
      refine XE.astore_n d_SS_find_16 (by decide) ?_
      refine XE.aload_n d_SS_find_17 rfl ?_
      refine XE.ifnonnull 26 d_SS_find_18 (by decide) (fun h18 => ?_) (fun h18 => absurd h18 (h0))
      refine XE.aload_n d_SS_find_26 rfl ?_
      refine g_SS_108 d_SS_find_27 (by first | assumption | decide | omega) (by first | assumption | rfl) ?_
      exact XE.ri d_SS_find_30 ⟨rfl, rfl⟩
  · have e : fndM m a b = -1 := if_neg hr
    have e1 : ((decide (nI 0 ≤ a) && decide (a ≤ nI 24)) && (decide (nI 0 ≤ b) && decide (b ≤ nI 15))) = false := by
      cases h : ((decide (nI 0 ≤ a) && decide (a ≤ nI 24)) && (decide (nI 0 ≤ b) && decide (b ≤ nI 15))) with
      | false => rfl
      | true => rw [Bool.and_eq_true] at h; exact absurd ⟨dec2 h.1, dec2 h.2⟩ hr
    rw [e1] at hpl
    rw [e]
    refine XE.iload_n d_SS_find_0 rfl ?_
    refine XE.iload_n d_SS_find_1 rfl ?_
    refine k_SS_41 1 d_SS_find_2 (by omega) (Nat.le_of_ble_eq_true rfl) hpl (fun r1 w1 hm1 hq1 => ?_)
    rw [hq1.1, hq1.2]
    clear hq1 hm1 r1 w1
    refine XE.if_ne 10 d_SS_find_5 (by decide) (fun h5 => absurd h5 ((fun z => z rfl))) (fun h5 => ?_)
    refine XE.iconst (x := (-1)) d_SS_find_8 (by decide) ?_
    exact XE.ri d_SS_find_9 ⟨rfl, rfl⟩
set_option maxHeartbeats 1000000 in
theorem SS_node_ok (hR : CR w m) (hB : WB m) (hI : MI m) (hd : 2 ≤ d) (v u : Int32) : E_SS_node d [.inr (0, 1), .inl v, .inl u] w (fun r w' => r = some (.inl (nodM m v u)) ∧ w' = w) := by
  refine S_SS_node ?_
  have hT := hR.ct hB
  have g24 := hB.g24
  have hS := hR.1
  obtain ⟨s0, s2, s5, s7, g0, l0, l1, l2, l5⟩ := hR.1
  have hl : nI (wL w 100 1) = nI 25 := congrArg nI l0
  by_cases hr : nI 0 ≤ v ∧ v ≤ nI 24
  · obtain ⟨n, hn, rfl⟩ := rng0 (by decide) hr
    have cl : (nI n).toNatClampNeg = n := nI_clamp (by omega)
    have e : (decide (nI 0 ≤ nI n) && decide (nI n ≤ nI 24)) = true := by simp [hr]
    have hbl := SS_isBelow_ok (w := w) (d := 1) (b := 24) (nI n) (by decide)
    rw [e] at hbl
    have hix : IXN (nI n) (wL w 100 1) n := IXN.nI (by omega) (by omega)
    cases ht : tT (mT m) n with
    | false =>
      have e2 : nodM m (nI n) u = -1 := if_neg (fun z => by rw [cl, ht] at z; exact absurd z.2 (by decide))
      have h0 : wR w 100 1 n = 0 := hT.no hn ht
      rw [e2]
      refine XE.iload_n d_SS_node_0 rfl ?_
      refine XE.aload_n d_SS_node_1 rfl ?_
      refine g_SS_11 d_SS_node_2 (by first | assumption | decide | omega) (by first | assumption | rfl) ?_
      refine XE.alen d_SS_node_5 (Or.inr (by decide)) (by first | assumption | decide | omega) (by first | assumption | rfl) ?_
      refine k_SS_37 1 d_SS_node_6 (by omega) (Nat.le_of_ble_eq_true rfl) hbl (fun r1 w1 hm1 hq1 => ?_)
      rw [hq1.1, hq1.2]
      clear hq1 hm1 r1 w1
      refine XE.if_eq 21 d_SS_node_9 (by decide) (fun h9 => absurd h9 ((by decide))) (fun h9 => ?_)
      refine XE.aload_n d_SS_node_12 rfl ?_
      refine g_SS_11 d_SS_node_13 (by first | assumption | decide | omega) (by first | assumption | rfl) ?_
      refine XE.iload_n d_SS_node_16 rfl ?_
      refine XE.aald (x := 0) d_SS_node_17 (by decide) rfl (by first | assumption | decide | omega) (by first | assumption | exact ixn2 (by assumption) (by omega) (by omega)) (by first | assumption | rfl) ?_
      refine XE.ifnonnull 23 d_SS_node_18 (by decide) (fun h18 => absurd h18 ((fun z => z rfl))) (fun h18 => ?_)
      refine XE.iconst (x := (-1)) d_SS_node_21 (by decide) ?_
      exact XE.ri d_SS_node_22 ⟨rfl, rfl⟩
    | true =>
      have h0 : wR w 100 1 n ≠ 0 := hT.nz hn ht
      have e2 : nodM m (nI n) u = nodV m n u := by
        unfold nodM
        rw [cl, if_pos ⟨⟨hr.1, (le_nI (by omega) (by omega)).mpr (hI.ti.2.2.1 n hn ht)⟩, ht⟩]
      rw [e2]
      obtain ⟨f0, f1, f2, f3, -⟩ := (hT.2 n hn).2.2 ht
      have f0 : wI w 1 (wR w 100 1 n) 0 = nI n := f0
      have f1 : wI w 1 (wR w 100 1 n) 1 = bI (tF (mT m) n) := f1
      have f2 : wI w 1 (wR w 100 1 n) 2 = tD (mT m) n := f2
      have f3 : wI w 1 (wR w 100 1 n) 3 = tN (mT m) n := f3
      have f4 := hR.2.2.2.1 n hn ht
      have f7 : wI w 1 (wR w 100 1 n) 7 = nI (lksN m n) := by rw [← lkL_len]; exact (hR.2.2.2.2.1 n hn ht).1
      have hop := SS_opensOf_ok (d := 1) hR hB hI hn ht
      have hin := SS_nodesIn_ok (d := 1) hS hT hI.ti hn h0 f0
      rcases sw_cases u with (rfl | rfl | rfl | rfl | rfl | rfl | rfl) | ⟨ho', n0, n1, n2, n3, n4, n5, n6⟩
      · have e3 : nodV m n (nI 0) = tD (mT m) n := rfl
        rw [e3]
        refine XE.iload_n d_SS_node_0 rfl ?_
        refine XE.aload_n d_SS_node_1 rfl ?_
        refine g_SS_11 d_SS_node_2 (by first | assumption | decide | omega) (by first | assumption | rfl) ?_
        refine XE.alen d_SS_node_5 (Or.inr (by decide)) (by first | assumption | decide | omega) (by first | assumption | rfl) ?_
        refine k_SS_37 1 d_SS_node_6 (by omega) (Nat.le_of_ble_eq_true rfl) hbl (fun r1 w1 hm1 hq1 => ?_)
        rw [hq1.1, hq1.2]
        clear hq1 hm1 r1 w1
        refine XE.if_eq 21 d_SS_node_9 (by decide) (fun h9 => absurd h9 ((by decide))) (fun h9 => ?_)
        refine XE.aload_n d_SS_node_12 rfl ?_
        refine g_SS_11 d_SS_node_13 (by first | assumption | decide | omega) (by first | assumption | rfl) ?_
        refine XE.iload_n d_SS_node_16 rfl ?_
        refine XE.aald d_SS_node_17 (by decide) rfl (by first | assumption | decide | omega) (by first | assumption | exact ixn2 (by assumption) (by omega) (by omega)) (by first | assumption | rfl) ?_
        refine XE.ifnonnull 23 d_SS_node_18 (by decide) (fun h18 => ?_) (fun h18 => absurd h18 (h0))
        refine XE.aload_n d_SS_node_23 rfl ?_
        refine g_SS_11 d_SS_node_24 (by first | assumption | decide | omega) (by first | assumption | rfl) ?_
        refine XE.iload_n d_SS_node_27 rfl ?_
        refine XE.aald d_SS_node_28 (by decide) rfl (by first | assumption | decide | omega) (by first | assumption | exact ixn2 (by assumption) (by omega) (by omega)) (by first | assumption | rfl) ?_
        refine XE.astore_n d_SS_node_29 (by decide) ?_
        refine XE.iload_n d_SS_node_30 rfl ?_
        refine XE.tableIn (off := 41) 72 d_SS_node_31 (by decide) (by decide) (by decide) (by decide) ?_
        refine XE.aload_n d_SS_node_72 rfl ?_
        refine g_SS_123 d_SS_node_73 (by first | assumption | decide | omega) (by first | assumption | rfl) ?_
        exact XE.ri d_SS_node_76 ⟨rfl, rfl⟩
      · have e3 : nodV m n (nI 1) = tN (mT m) n := rfl
        rw [e3]
        refine XE.iload_n d_SS_node_0 rfl ?_
        refine XE.aload_n d_SS_node_1 rfl ?_
        refine g_SS_11 d_SS_node_2 (by first | assumption | decide | omega) (by first | assumption | rfl) ?_
        refine XE.alen d_SS_node_5 (Or.inr (by decide)) (by first | assumption | decide | omega) (by first | assumption | rfl) ?_
        refine k_SS_37 1 d_SS_node_6 (by omega) (Nat.le_of_ble_eq_true rfl) hbl (fun r1 w1 hm1 hq1 => ?_)
        rw [hq1.1, hq1.2]
        clear hq1 hm1 r1 w1
        refine XE.if_eq 21 d_SS_node_9 (by decide) (fun h9 => absurd h9 ((by decide))) (fun h9 => ?_)
        refine XE.aload_n d_SS_node_12 rfl ?_
        refine g_SS_11 d_SS_node_13 (by first | assumption | decide | omega) (by first | assumption | rfl) ?_
        refine XE.iload_n d_SS_node_16 rfl ?_
        refine XE.aald d_SS_node_17 (by decide) rfl (by first | assumption | decide | omega) (by first | assumption | exact ixn2 (by assumption) (by omega) (by omega)) (by first | assumption | rfl) ?_
        refine XE.ifnonnull 23 d_SS_node_18 (by decide) (fun h18 => ?_) (fun h18 => absurd h18 (h0))
        refine XE.aload_n d_SS_node_23 rfl ?_
        refine g_SS_11 d_SS_node_24 (by first | assumption | decide | omega) (by first | assumption | rfl) ?_
        refine XE.iload_n d_SS_node_27 rfl ?_
        refine XE.aald d_SS_node_28 (by decide) rfl (by first | assumption | decide | omega) (by first | assumption | exact ixn2 (by assumption) (by omega) (by omega)) (by first | assumption | rfl) ?_
        refine XE.astore_n d_SS_node_29 (by decide) ?_
        refine XE.iload_n d_SS_node_30 rfl ?_
        refine XE.tableIn (off := 46) 77 d_SS_node_31 (by decide) (by decide) (by decide) (by decide) ?_
        refine XE.aload_n d_SS_node_77 rfl ?_
        refine g_SS_126 d_SS_node_78 (by first | assumption | decide | omega) (by first | assumption | rfl) ?_
        exact XE.ri d_SS_node_81 ⟨rfl, rfl⟩
      · have e3 : nodV m n (nI 2) = bI (tF (mT m) n) := rfl
        rw [e3]
        refine XE.iload_n d_SS_node_0 rfl ?_
        refine XE.aload_n d_SS_node_1 rfl ?_
        refine g_SS_11 d_SS_node_2 (by first | assumption | decide | omega) (by first | assumption | rfl) ?_
        refine XE.alen d_SS_node_5 (Or.inr (by decide)) (by first | assumption | decide | omega) (by first | assumption | rfl) ?_
        refine k_SS_37 1 d_SS_node_6 (by omega) (Nat.le_of_ble_eq_true rfl) hbl (fun r1 w1 hm1 hq1 => ?_)
        rw [hq1.1, hq1.2]
        clear hq1 hm1 r1 w1
        refine XE.if_eq 21 d_SS_node_9 (by decide) (fun h9 => absurd h9 ((by decide))) (fun h9 => ?_)
        refine XE.aload_n d_SS_node_12 rfl ?_
        refine g_SS_11 d_SS_node_13 (by first | assumption | decide | omega) (by first | assumption | rfl) ?_
        refine XE.iload_n d_SS_node_16 rfl ?_
        refine XE.aald d_SS_node_17 (by decide) rfl (by first | assumption | decide | omega) (by first | assumption | exact ixn2 (by assumption) (by omega) (by omega)) (by first | assumption | rfl) ?_
        refine XE.ifnonnull 23 d_SS_node_18 (by decide) (fun h18 => ?_) (fun h18 => absurd h18 (h0))
        refine XE.aload_n d_SS_node_23 rfl ?_
        refine g_SS_11 d_SS_node_24 (by first | assumption | decide | omega) (by first | assumption | rfl) ?_
        refine XE.iload_n d_SS_node_27 rfl ?_
        refine XE.aald d_SS_node_28 (by decide) rfl (by first | assumption | decide | omega) (by first | assumption | exact ixn2 (by assumption) (by omega) (by omega)) (by first | assumption | rfl) ?_
        refine XE.astore_n d_SS_node_29 (by decide) ?_
        refine XE.iload_n d_SS_node_30 rfl ?_
        refine XE.tableIn (off := 51) 82 d_SS_node_31 (by decide) (by decide) (by decide) (by decide) ?_
        refine XE.aload_n d_SS_node_82 rfl ?_
        refine g_SS_136 d_SS_node_83 (by first | assumption | decide | omega) (by first | assumption | rfl) ?_
        refine XE.if_eq 93 d_SS_node_86 (by decide) (fun h86 => ?_) (fun h86 => ?_)
        · rw [(bI_eq0 _).mp h86]
          refine XE.iconst (x := nI 0) d_SS_node_93 (by decide) ?_
          exact XE.ri d_SS_node_94 ⟨rfl, rfl⟩
        · rw [te _ h86]
          refine XE.iconst (x := nI 1) d_SS_node_89 (by decide) ?_
          refine XE.goto 94 d_SS_node_90 (by decide) ?_
          exact XE.ri d_SS_node_94 ⟨rfl, rfl⟩
      · have e3 : nodV m n (nI 3) = bI (mM m n) := rfl
        rw [e3]
        refine XE.iload_n d_SS_node_0 rfl ?_
        refine XE.aload_n d_SS_node_1 rfl ?_
        refine g_SS_11 d_SS_node_2 (by first | assumption | decide | omega) (by first | assumption | rfl) ?_
        refine XE.alen d_SS_node_5 (Or.inr (by decide)) (by first | assumption | decide | omega) (by first | assumption | rfl) ?_
        refine k_SS_37 1 d_SS_node_6 (by omega) (Nat.le_of_ble_eq_true rfl) hbl (fun r1 w1 hm1 hq1 => ?_)
        rw [hq1.1, hq1.2]
        clear hq1 hm1 r1 w1
        refine XE.if_eq 21 d_SS_node_9 (by decide) (fun h9 => absurd h9 ((by decide))) (fun h9 => ?_)
        refine XE.aload_n d_SS_node_12 rfl ?_
        refine g_SS_11 d_SS_node_13 (by first | assumption | decide | omega) (by first | assumption | rfl) ?_
        refine XE.iload_n d_SS_node_16 rfl ?_
        refine XE.aald d_SS_node_17 (by decide) rfl (by first | assumption | decide | omega) (by first | assumption | exact ixn2 (by assumption) (by omega) (by omega)) (by first | assumption | rfl) ?_
        refine XE.ifnonnull 23 d_SS_node_18 (by decide) (fun h18 => ?_) (fun h18 => absurd h18 (h0))
        refine XE.aload_n d_SS_node_23 rfl ?_
        refine g_SS_11 d_SS_node_24 (by first | assumption | decide | omega) (by first | assumption | rfl) ?_
        refine XE.iload_n d_SS_node_27 rfl ?_
        refine XE.aald d_SS_node_28 (by decide) rfl (by first | assumption | decide | omega) (by first | assumption | exact ixn2 (by assumption) (by omega) (by omega)) (by first | assumption | rfl) ?_
        refine XE.astore_n d_SS_node_29 (by decide) ?_
        refine XE.iload_n d_SS_node_30 rfl ?_
        refine XE.tableIn (off := 64) 95 d_SS_node_31 (by decide) (by decide) (by decide) (by decide) ?_
        refine XE.aload_n d_SS_node_95 rfl ?_
        refine g_SS_104 d_SS_node_96 (by first | assumption | decide | omega) (by first | assumption | rfl) ?_
        refine XE.if_eq 106 d_SS_node_99 (by decide) (fun h99 => ?_) (fun h99 => ?_)
        · rw [(bI_eq0 _).mp h99]
          refine XE.iconst (x := nI 0) d_SS_node_106 (by decide) ?_
          exact XE.ri d_SS_node_107 ⟨rfl, rfl⟩
        · rw [te _ h99]
          refine XE.iconst (x := nI 1) d_SS_node_102 (by decide) ?_
          refine XE.goto 107 d_SS_node_103 (by decide) ?_
          exact XE.ri d_SS_node_107 ⟨rfl, rfl⟩
      · have e3 : nodV m n (nI 4) = nI (cntO m n) := rfl
        rw [e3]
        refine XE.iload_n d_SS_node_0 rfl ?_
        refine XE.aload_n d_SS_node_1 rfl ?_
        refine g_SS_11 d_SS_node_2 (by first | assumption | decide | omega) (by first | assumption | rfl) ?_
        refine XE.alen d_SS_node_5 (Or.inr (by decide)) (by first | assumption | decide | omega) (by first | assumption | rfl) ?_
        refine k_SS_37 1 d_SS_node_6 (by omega) (Nat.le_of_ble_eq_true rfl) hbl (fun r1 w1 hm1 hq1 => ?_)
        rw [hq1.1, hq1.2]
        clear hq1 hm1 r1 w1
        refine XE.if_eq 21 d_SS_node_9 (by decide) (fun h9 => absurd h9 ((by decide))) (fun h9 => ?_)
        refine XE.aload_n d_SS_node_12 rfl ?_
        refine g_SS_11 d_SS_node_13 (by first | assumption | decide | omega) (by first | assumption | rfl) ?_
        refine XE.iload_n d_SS_node_16 rfl ?_
        refine XE.aald d_SS_node_17 (by decide) rfl (by first | assumption | decide | omega) (by first | assumption | exact ixn2 (by assumption) (by omega) (by omega)) (by first | assumption | rfl) ?_
        refine XE.ifnonnull 23 d_SS_node_18 (by decide) (fun h18 => ?_) (fun h18 => absurd h18 (h0))
        refine XE.aload_n d_SS_node_23 rfl ?_
        refine g_SS_11 d_SS_node_24 (by first | assumption | decide | omega) (by first | assumption | rfl) ?_
        refine XE.iload_n d_SS_node_27 rfl ?_
        refine XE.aald d_SS_node_28 (by decide) rfl (by first | assumption | decide | omega) (by first | assumption | exact ixn2 (by assumption) (by omega) (by omega)) (by first | assumption | rfl) ?_
        refine XE.astore_n d_SS_node_29 (by decide) ?_
        refine XE.iload_n d_SS_node_30 rfl ?_
        refine XE.tableIn (off := 77) 108 d_SS_node_31 (by decide) (by decide) (by decide) (by decide) ?_
        refine XE.aload_n d_SS_node_108 rfl ?_
        refine XE.aload_n d_SS_node_109 rfl ?_
        refine k_SS_199 1 d_SS_node_110 (by omega) (Nat.le_of_ble_eq_true rfl) (by first | assumption | decide | omega) hop (fun r1 w1 hm1 hq1 => ?_)
        rw [hq1.1, hq1.2]
        clear hq1 hm1 r1 w1
        exact XE.ri d_SS_node_113 ⟨rfl, rfl⟩
      · have e3 : nodV m n (nI 5) = nI (lksN m n) := rfl
        rw [e3]
        refine XE.iload_n d_SS_node_0 rfl ?_
        refine XE.aload_n d_SS_node_1 rfl ?_
        refine g_SS_11 d_SS_node_2 (by first | assumption | decide | omega) (by first | assumption | rfl) ?_
        refine XE.alen d_SS_node_5 (Or.inr (by decide)) (by first | assumption | decide | omega) (by first | assumption | rfl) ?_
        refine k_SS_37 1 d_SS_node_6 (by omega) (Nat.le_of_ble_eq_true rfl) hbl (fun r1 w1 hm1 hq1 => ?_)
        rw [hq1.1, hq1.2]
        clear hq1 hm1 r1 w1
        refine XE.if_eq 21 d_SS_node_9 (by decide) (fun h9 => absurd h9 ((by decide))) (fun h9 => ?_)
        refine XE.aload_n d_SS_node_12 rfl ?_
        refine g_SS_11 d_SS_node_13 (by first | assumption | decide | omega) (by first | assumption | rfl) ?_
        refine XE.iload_n d_SS_node_16 rfl ?_
        refine XE.aald d_SS_node_17 (by decide) rfl (by first | assumption | decide | omega) (by first | assumption | exact ixn2 (by assumption) (by omega) (by omega)) (by first | assumption | rfl) ?_
        refine XE.ifnonnull 23 d_SS_node_18 (by decide) (fun h18 => ?_) (fun h18 => absurd h18 (h0))
        refine XE.aload_n d_SS_node_23 rfl ?_
        refine g_SS_11 d_SS_node_24 (by first | assumption | decide | omega) (by first | assumption | rfl) ?_
        refine XE.iload_n d_SS_node_27 rfl ?_
        refine XE.aald d_SS_node_28 (by decide) rfl (by first | assumption | decide | omega) (by first | assumption | exact ixn2 (by assumption) (by omega) (by omega)) (by first | assumption | rfl) ?_
        refine XE.astore_n d_SS_node_29 (by decide) ?_
        refine XE.iload_n d_SS_node_30 rfl ?_
        refine XE.tableIn (off := 83) 114 d_SS_node_31 (by decide) (by decide) (by decide) (by decide) ?_
        refine XE.aload_n d_SS_node_114 rfl ?_
        refine g_SS_168 d_SS_node_115 (by first | assumption | decide | omega) (by first | assumption | rfl) ?_
        exact XE.ri d_SS_node_118 ⟨rfl, rfl⟩
      · have e3 : nodV m n (nI 6) = nI (ins (mT m) (nI n)) := rfl
        rw [e3]
        refine XE.iload_n d_SS_node_0 rfl ?_
        refine XE.aload_n d_SS_node_1 rfl ?_
        refine g_SS_11 d_SS_node_2 (by first | assumption | decide | omega) (by first | assumption | rfl) ?_
        refine XE.alen d_SS_node_5 (Or.inr (by decide)) (by first | assumption | decide | omega) (by first | assumption | rfl) ?_
        refine k_SS_37 1 d_SS_node_6 (by omega) (Nat.le_of_ble_eq_true rfl) hbl (fun r1 w1 hm1 hq1 => ?_)
        rw [hq1.1, hq1.2]
        clear hq1 hm1 r1 w1
        refine XE.if_eq 21 d_SS_node_9 (by decide) (fun h9 => absurd h9 ((by decide))) (fun h9 => ?_)
        refine XE.aload_n d_SS_node_12 rfl ?_
        refine g_SS_11 d_SS_node_13 (by first | assumption | decide | omega) (by first | assumption | rfl) ?_
        refine XE.iload_n d_SS_node_16 rfl ?_
        refine XE.aald d_SS_node_17 (by decide) rfl (by first | assumption | decide | omega) (by first | assumption | exact ixn2 (by assumption) (by omega) (by omega)) (by first | assumption | rfl) ?_
        refine XE.ifnonnull 23 d_SS_node_18 (by decide) (fun h18 => ?_) (fun h18 => absurd h18 (h0))
        refine XE.aload_n d_SS_node_23 rfl ?_
        refine g_SS_11 d_SS_node_24 (by first | assumption | decide | omega) (by first | assumption | rfl) ?_
        refine XE.iload_n d_SS_node_27 rfl ?_
        refine XE.aald d_SS_node_28 (by decide) rfl (by first | assumption | decide | omega) (by first | assumption | exact ixn2 (by assumption) (by omega) (by omega)) (by first | assumption | rfl) ?_
        refine XE.astore_n d_SS_node_29 (by decide) ?_
        refine XE.iload_n d_SS_node_30 rfl ?_
        refine XE.tableIn (off := 88) 119 d_SS_node_31 (by decide) (by decide) (by decide) (by decide) ?_
        refine XE.aload_n d_SS_node_119 rfl ?_
        refine XE.aload_n d_SS_node_120 rfl ?_
        refine k_SS_203 1 d_SS_node_121 (by omega) (Nat.le_of_ble_eq_true rfl) (by first | assumption | decide | omega) hin (fun r1 w1 hm1 hq1 => ?_)
        rw [hq1.1, hq1.2]
        clear hq1 hm1 r1 w1
        exact XE.ri d_SS_node_124 ⟨rfl, rfl⟩
      · have e3 : nodV m n u = -1 := by unfold nodV; rw [if_neg n0, if_neg n1, if_neg n2, if_neg n3, if_neg n4, if_neg n5, if_neg n6]
        rw [e3]
        refine XE.iload_n d_SS_node_0 rfl ?_
        refine XE.aload_n d_SS_node_1 rfl ?_
        refine g_SS_11 d_SS_node_2 (by first | assumption | decide | omega) (by first | assumption | rfl) ?_
        refine XE.alen d_SS_node_5 (Or.inr (by decide)) (by first | assumption | decide | omega) (by first | assumption | rfl) ?_
        refine k_SS_37 1 d_SS_node_6 (by omega) (Nat.le_of_ble_eq_true rfl) hbl (fun r1 w1 hm1 hq1 => ?_)
        rw [hq1.1, hq1.2]
        clear hq1 hm1 r1 w1
        refine XE.if_eq 21 d_SS_node_9 (by decide) (fun h9 => absurd h9 ((by decide))) (fun h9 => ?_)
        refine XE.aload_n d_SS_node_12 rfl ?_
        refine g_SS_11 d_SS_node_13 (by first | assumption | decide | omega) (by first | assumption | rfl) ?_
        refine XE.iload_n d_SS_node_16 rfl ?_
        refine XE.aald d_SS_node_17 (by decide) rfl (by first | assumption | decide | omega) (by first | assumption | exact ixn2 (by assumption) (by omega) (by omega)) (by first | assumption | rfl) ?_
        refine XE.ifnonnull 23 d_SS_node_18 (by decide) (fun h18 => ?_) (fun h18 => absurd h18 (h0))
        refine XE.aload_n d_SS_node_23 rfl ?_
        refine g_SS_11 d_SS_node_24 (by first | assumption | decide | omega) (by first | assumption | rfl) ?_
        refine XE.iload_n d_SS_node_27 rfl ?_
        refine XE.aald d_SS_node_28 (by decide) rfl (by first | assumption | decide | omega) (by first | assumption | exact ixn2 (by assumption) (by omega) (by omega)) (by first | assumption | rfl) ?_
        refine XE.astore_n d_SS_node_29 (by decide) ?_
        refine XE.iload_n d_SS_node_30 rfl ?_
        refine XE.tableOut 125 d_SS_node_31 ho' (by decide) ?_
        refine XE.iconst (x := (-1)) d_SS_node_125 (by decide) ?_
        exact XE.ri d_SS_node_126 ⟨rfl, rfl⟩
  · have e1 : (decide (nI 0 ≤ v) && decide (v ≤ nI 24)) = false := by
      cases h : (decide (nI 0 ≤ v) && decide (v ≤ nI 24)) with
      | false => rfl
      | true => exact absurd (dec2 h) hr
    have hbl := SS_isBelow_ok (w := w) (d := 1) (b := 24) v (by decide)
    rw [e1] at hbl
    have e2 : nodM m v u = -1 := if_neg (fun z => hr ⟨z.1.1, Int32.le_trans z.1.2 ((le_nI (by omega) (by omega)).mpr g24)⟩)
    rw [e2]
    refine XE.iload_n d_SS_node_0 rfl ?_
    refine XE.aload_n d_SS_node_1 rfl ?_
    refine g_SS_11 d_SS_node_2 (by first | assumption | decide | omega) (by first | assumption | rfl) ?_
    refine XE.alen d_SS_node_5 (Or.inr (by decide)) (by first | assumption | decide | omega) (by first | assumption | rfl) ?_
    refine k_SS_37 1 d_SS_node_6 (by omega) (Nat.le_of_ble_eq_true rfl) hbl (fun r1 w1 hm1 hq1 => ?_)
    rw [hq1.1, hq1.2]
    clear hq1 hm1 r1 w1
    refine XE.if_eq 21 d_SS_node_9 (by decide) (fun h9 => ?_) (fun h9 => absurd h9 ((by decide)))
    refine XE.iconst (x := (-1)) d_SS_node_21 (by decide) ?_
    exact XE.ri d_SS_node_22 ⟨rfl, rfl⟩
theorem sw4 (v : Int32) : (v = nI 0 ∨ v = nI 1 ∨ v = nI 2 ∨ v = nI 3 ∨ v = nI 4) ∨ ((v.toInt < 0 ∨ 4 < v.toInt) ∧ ¬ (nI 0 ≤ v ∧ v ≤ nI 4)) := by
  by_cases h : nI 0 ≤ v ∧ v ≤ nI 4
  · obtain ⟨j, hj, rfl⟩ := rng0 (by decide) h
    have : j = 0 ∨ j = 1 ∨ j = 2 ∨ j = 3 ∨ j = 4 := by omega
    rcases this with rfl | rfl | rfl | rfl | rfl <;> simp
  · refine Or.inr ⟨?_, h⟩
    rw [Int32.le_iff_toInt_le, Int32.le_iff_toInt_le, nI_toInt (by omega), nI_toInt (by omega)] at h
    omega
theorem SS_handle_ok (hR : CR w m) (hB : WB m) (hI : MI m) (hd : 1 ≤ d) (v u : Int32) : E_SS_handle d [.inr (0, 1), .inl v, .inl u] w (fun r w' => r = some (.inl (hdlM m v u)) ∧ w' = w) := by
  refine S_SS_handle ?_
  have hh := SS_openHandle_ok (d := 0) hR hB hI v
  by_cases hx : hOf m v = 0
  · have e : hdlM m v u = -1 := if_pos (Or.inl hx)
    rw [hx, nk_z] at hh
    rw [e]
    refine XE.aload_n d_SS_handle_0 rfl ?_
    refine XE.iload_n d_SS_handle_1 rfl ?_
    refine k_SS_66 0 d_SS_handle_2 (by omega) (Nat.le_of_ble_eq_true rfl) (by first | assumption | decide | omega) hh (fun r1 w1 hm1 hq1 => ?_)
    rw [hq1.1, hq1.2]
    clear hq1 hm1 r1 w1
    refine XE.astore_n d_SS_handle_5 (by decide) ?_
    refine XE.aload_n d_SS_handle_6 rfl ?_
    refine XE.ifnonnull 12 d_SS_handle_7 (by decide) (fun h7 => absurd h7 ((fun z => z rfl))) (fun h7 => ?_)
    refine XE.iconst (x := (-1)) d_SS_handle_10 (by decide) ?_
    exact XE.ri d_SS_handle_11 ⟨rfl, rfl⟩
  · have hX := hR.hx hB hx
    rw [nk_nz hx] at hh
    generalize hq : hOf m v = x at *
    obtain ⟨x0, x1, x2, x3, x4, x5, x6, x7, x7b, x8, x9, h1, h2, h3, h4, h5, h6⟩ := hX
    rcases sw4 u with (rfl | rfl | rfl | rfl | rfl) | ⟨ho', hn⟩
    · have e : hdlM m v (nI 0) = nI (hN (mh m x)) := by unfold hdlM; rw [hq, if_neg (by rintro (z | z); exact hx z; exact z (by decide))]; rfl
      rw [e]
      refine XE.aload_n d_SS_handle_0 rfl ?_
      refine XE.iload_n d_SS_handle_1 rfl ?_
      refine k_SS_66 0 d_SS_handle_2 (by omega) (Nat.le_of_ble_eq_true rfl) (by first | assumption | decide | omega) hh (fun r1 w1 hm1 hq1 => ?_)
      rw [hq1.1, hq1.2]
      clear hq1 hm1 r1 w1
      refine XE.astore_n d_SS_handle_5 (by decide) ?_
      refine XE.aload_n d_SS_handle_6 rfl ?_
      refine XE.ifnonnull 12 d_SS_handle_7 (by decide) (fun h7 => ?_) (fun h7 => absurd h7 (x0))
      refine XE.iload_n d_SS_handle_12 rfl ?_
      refine XE.tableIn (off := 35) 48 d_SS_handle_13 (by decide) (by decide) (by decide) (by decide) ?_
      refine XE.aload_n d_SS_handle_48 rfl ?_
      refine g_SS_76 d_SS_handle_49 (by first | assumption | decide | omega) (by first | assumption | rfl) ?_
      refine g_SS_108 d_SS_handle_52 (by first | assumption | decide | omega) (by first | assumption | rfl) ?_
      exact XE.ri d_SS_handle_55 ⟨rfl, rfl⟩
    · have e : hdlM m v (nI 1) = hA (mh m x) := by unfold hdlM; rw [hq, if_neg (by rintro (z | z); exact hx z; exact z (by decide))]; rfl
      rw [e]
      refine XE.aload_n d_SS_handle_0 rfl ?_
      refine XE.iload_n d_SS_handle_1 rfl ?_
      refine k_SS_66 0 d_SS_handle_2 (by omega) (Nat.le_of_ble_eq_true rfl) (by first | assumption | decide | omega) hh (fun r1 w1 hm1 hq1 => ?_)
      rw [hq1.1, hq1.2]
      clear hq1 hm1 r1 w1
      refine XE.astore_n d_SS_handle_5 (by decide) ?_
      refine XE.aload_n d_SS_handle_6 rfl ?_
      refine XE.ifnonnull 12 d_SS_handle_7 (by decide) (fun h7 => ?_) (fun h7 => absurd h7 (x0))
      refine XE.iload_n d_SS_handle_12 rfl ?_
      refine XE.tableIn (off := 43) 56 d_SS_handle_13 (by decide) (by decide) (by decide) (by decide) ?_
      refine XE.aload_n d_SS_handle_56 rfl ?_
      refine g_SS_206 d_SS_handle_57 (by first | assumption | decide | omega) (by first | assumption | rfl) ?_
      exact XE.ri d_SS_handle_60 ⟨rfl, rfl⟩
    · have e : hdlM m v (nI 2) = hS (mh m x) := by unfold hdlM; rw [hq, if_neg (by rintro (z | z); exact hx z; exact z (by decide))]; rfl
      rw [e]
      refine XE.aload_n d_SS_handle_0 rfl ?_
      refine XE.iload_n d_SS_handle_1 rfl ?_
      refine k_SS_66 0 d_SS_handle_2 (by omega) (Nat.le_of_ble_eq_true rfl) (by first | assumption | decide | omega) hh (fun r1 w1 hm1 hq1 => ?_)
      rw [hq1.1, hq1.2]
      clear hq1 hm1 r1 w1
      refine XE.astore_n d_SS_handle_5 (by decide) ?_
      refine XE.aload_n d_SS_handle_6 rfl ?_
      refine XE.ifnonnull 12 d_SS_handle_7 (by decide) (fun h7 => ?_) (fun h7 => absurd h7 (x0))
      refine XE.iload_n d_SS_handle_12 rfl ?_
      refine XE.tableIn (off := 48) 61 d_SS_handle_13 (by decide) (by decide) (by decide) (by decide) ?_
      refine XE.aload_n d_SS_handle_61 rfl ?_
      refine g_SS_209 d_SS_handle_62 (by first | assumption | decide | omega) (by first | assumption | rfl) ?_
      exact XE.ri d_SS_handle_65 ⟨rfl, rfl⟩
    · have e : hdlM m v (nI 3) = hG (mh m x) := by unfold hdlM; rw [hq, if_neg (by rintro (z | z); exact hx z; exact z (by decide))]; rfl
      rw [e]
      refine XE.aload_n d_SS_handle_0 rfl ?_
      refine XE.iload_n d_SS_handle_1 rfl ?_
      refine k_SS_66 0 d_SS_handle_2 (by omega) (Nat.le_of_ble_eq_true rfl) (by first | assumption | decide | omega) hh (fun r1 w1 hm1 hq1 => ?_)
      rw [hq1.1, hq1.2]
      clear hq1 hm1 r1 w1
      refine XE.astore_n d_SS_handle_5 (by decide) ?_
      refine XE.aload_n d_SS_handle_6 rfl ?_
      refine XE.ifnonnull 12 d_SS_handle_7 (by decide) (fun h7 => ?_) (fun h7 => absurd h7 (x0))
      refine XE.iload_n d_SS_handle_12 rfl ?_
      refine XE.tableIn (off := 53) 66 d_SS_handle_13 (by decide) (by decide) (by decide) (by decide) ?_
      refine XE.aload_n d_SS_handle_66 rfl ?_
      refine g_SS_70 d_SS_handle_67 (by first | assumption | decide | omega) (by first | assumption | rfl) ?_
      exact XE.ri d_SS_handle_70 ⟨rfl, rfl⟩
    · have e : hdlM m v (nI 4) = hC (mh m x) := by unfold hdlM; rw [hq, if_neg (by rintro (z | z); exact hx z; exact z (by decide))]; rfl
      rw [e]
      refine XE.aload_n d_SS_handle_0 rfl ?_
      refine XE.iload_n d_SS_handle_1 rfl ?_
      refine k_SS_66 0 d_SS_handle_2 (by omega) (Nat.le_of_ble_eq_true rfl) (by first | assumption | decide | omega) hh (fun r1 w1 hm1 hq1 => ?_)
      rw [hq1.1, hq1.2]
      clear hq1 hm1 r1 w1
      refine XE.astore_n d_SS_handle_5 (by decide) ?_
      refine XE.aload_n d_SS_handle_6 rfl ?_
      refine XE.ifnonnull 12 d_SS_handle_7 (by decide) (fun h7 => ?_) (fun h7 => absurd h7 (x0))
      refine XE.iload_n d_SS_handle_12 rfl ?_
      refine XE.tableIn (off := 58) 71 d_SS_handle_13 (by decide) (by decide) (by decide) (by decide) ?_
      refine XE.aload_n d_SS_handle_71 rfl ?_
      refine g_SS_212 d_SS_handle_72 (by first | assumption | decide | omega) (by first | assumption | rfl) ?_
      exact XE.ri d_SS_handle_75 ⟨rfl, rfl⟩
    · have e : hdlM m v u = -1 := if_pos (Or.inr hn)
      rw [e]
      refine XE.aload_n d_SS_handle_0 rfl ?_
      refine XE.iload_n d_SS_handle_1 rfl ?_
      refine k_SS_66 0 d_SS_handle_2 (by omega) (Nat.le_of_ble_eq_true rfl) (by first | assumption | decide | omega) hh (fun r1 w1 hm1 hq1 => ?_)
      rw [hq1.1, hq1.2]
      clear hq1 hm1 r1 w1
      refine XE.astore_n d_SS_handle_5 (by decide) ?_
      refine XE.aload_n d_SS_handle_6 rfl ?_
      refine XE.ifnonnull 12 d_SS_handle_7 (by decide) (fun h7 => ?_) (fun h7 => absurd h7 (x0))
      refine XE.iload_n d_SS_handle_12 rfl ?_
      refine XE.tableOut 76 d_SS_handle_13 ho' (by decide) ?_
      refine XE.iconst (x := (-1)) d_SS_handle_76 (by decide) ?_
      exact XE.ri d_SS_handle_77 ⟨rfl, rfl⟩
theorem SS_count_ok (hR : CR w m) (hB : WB m) (hI : MI m) (hd : 1 ≤ d) (u : Int32) : E_SS_count d [.inr (0, 1), .inl u] w (fun r w' => r = some (.inl (cntM m u)) ∧ w' = w) := by
  refine S_SS_count ?_
  have c1 : wI w 0 1 1 = nI (tG (mT m)) := (hR.ct hB).1
  have s7 := hR.1.2.2.2.1
  have c3 : wI w 0 1 3 = nI (nOpen m) := by rw [← opL_len]; exact hR.2.2.2.2.2.1.2.2.2.2.1
  have c4 := hR.2.2.2.2.2.1.1
  have c6 := hR.2.2.2.2.2.2.1.1
  have d1 := hR.2.2.1.1
  have d2 := hR.2.2.1.2.1
  have hch := Lg_changes_ok (d := 0) d1 d2
  rw [show mU m + (mN m - mU m) = mN m by have := hB.un.1; omega] at hch
  have hwt := SS_waiting_ok (d := 0) hR hB
  rcases sw_cases u with (rfl | rfl | rfl | rfl | rfl | rfl | rfl) | ⟨ho', n0, n1, n2, n3, n4, n5, n6⟩
  · have e : cntM m (nI 0) = nI (tG (mT m)) := rfl
    rw [e]
    refine XE.iload_n d_SS_count_0 rfl ?_
    refine XE.tableIn (off := 43) 44 d_SS_count_1 (by decide) (by decide) (by decide) (by decide) ?_
    refine XE.aload_n d_SS_count_44 rfl ?_
    refine g_SS_215 d_SS_count_45 (by first | assumption | decide | omega) (by first | assumption | rfl) ?_
    exact XE.ri d_SS_count_48 ⟨rfl, rfl⟩
  · have e : cntM m (nI 1) = nI (nOpen m) := rfl
    rw [e]
    refine XE.iload_n d_SS_count_0 rfl ?_
    refine XE.tableIn (off := 48) 49 d_SS_count_1 (by decide) (by decide) (by decide) (by decide) ?_
    refine XE.aload_n d_SS_count_49 rfl ?_
    refine g_SS_94 d_SS_count_50 (by first | assumption | decide | omega) (by first | assumption | rfl) ?_
    exact XE.ri d_SS_count_53 ⟨rfl, rfl⟩
  · have e : cntM m (nI 2) = nI (wtN m) := rfl
    rw [e]
    refine XE.iload_n d_SS_count_0 rfl ?_
    refine XE.tableIn (off := 53) 54 d_SS_count_1 (by decide) (by decide) (by decide) (by decide) ?_
    refine XE.aload_n d_SS_count_54 rfl ?_
    refine k_SS_218 0 d_SS_count_55 (by omega) (Nat.le_of_ble_eq_true rfl) (by first | assumption | decide | omega) hwt (fun r1 w1 hm1 hq1 => ?_)
    rw [hq1.1, hq1.2]
    clear hq1 hm1 r1 w1
    exact XE.ri d_SS_count_58 ⟨rfl, rfl⟩
  · have e : cntM m (nI 3) = nI (mN m) := rfl
    rw [e]
    refine XE.iload_n d_SS_count_0 rfl ?_
    refine XE.tableIn (off := 58) 59 d_SS_count_1 (by decide) (by decide) (by decide) (by decide) ?_
    refine XE.aload_n d_SS_count_59 rfl ?_
    refine g_SS_33 d_SS_count_60 (by first | assumption | decide | omega) (by first | assumption | rfl) ?_
    refine k_SS_186 0 d_SS_count_63 (by omega) (Nat.le_of_ble_eq_true rfl) (by first | assumption | decide | omega) hch (fun r1 w1 hm1 hq1 => ?_)
    rw [hq1.1, hq1.2]
    clear hq1 hm1 r1 w1
    exact XE.ri d_SS_count_66 ⟨rfl, rfl⟩
  · have e : cntM m (nI 4) = nI (mU m) := rfl
    rw [e]
    refine XE.iload_n d_SS_count_0 rfl ?_
    refine XE.tableIn (off := 66) 67 d_SS_count_1 (by decide) (by decide) (by decide) (by decide) ?_
    refine XE.aload_n d_SS_count_67 rfl ?_
    refine g_SS_33 d_SS_count_68 (by first | assumption | decide | omega) (by first | assumption | rfl) ?_
    refine g_SS_221 d_SS_count_71 (by first | assumption | decide | omega) (by first | assumption | rfl) ?_
    exact XE.ri d_SS_count_74 ⟨rfl, rfl⟩
  · have e : cntM m (nI 5) = nI (mQ m) := rfl
    rw [e]
    refine XE.iload_n d_SS_count_0 rfl ?_
    refine XE.tableIn (off := 74) 75 d_SS_count_1 (by decide) (by decide) (by decide) (by decide) ?_
    refine XE.aload_n d_SS_count_75 rfl ?_
    refine g_SS_48 d_SS_count_76 (by first | assumption | decide | omega) (by first | assumption | rfl) ?_
    exact XE.ri d_SS_count_79 ⟨rfl, rfl⟩
  · have e : cntM m (nI 6) = nI (mH m) := rfl
    rw [e]
    refine XE.iload_n d_SS_count_0 rfl ?_
    refine XE.tableIn (off := 79) 80 d_SS_count_1 (by decide) (by decide) (by decide) (by decide) ?_
    refine XE.aload_n d_SS_count_80 rfl ?_
    refine g_SS_224 d_SS_count_81 (by first | assumption | decide | omega) (by first | assumption | rfl) ?_
    exact XE.ri d_SS_count_84 ⟨rfl, rfl⟩
  · have e : cntM m u = -1 := by unfold cntM; rw [if_neg n0, if_neg n1, if_neg n2, if_neg n3, if_neg n4, if_neg n5, if_neg n6]
    rw [e]
    refine XE.iload_n d_SS_count_0 rfl ?_
    refine XE.tableOut 85 d_SS_count_1 ho' (by decide) ?_
    refine XE.iconst (x := (-1)) d_SS_count_85 (by decide) ?_
    exact XE.ri d_SS_count_86 ⟨rfl, rfl⟩
end LOOK
