/-! the reference: find, node, handle, count -/
theorem sw_cases (v : Int32) : (v = nI 0 ∨ v = nI 1 ∨ v = nI 2 ∨ v = nI 3 ∨ v = nI 4 ∨ v = nI 5 ∨ v = nI 6) ∨ ((v.toInt < 0 ∨ 6 < v.toInt) ∧ ¬ v = nI 0 ∧ ¬ v = nI 1 ∧ ¬ v = nI 2 ∧ ¬ v = nI 3 ∧ ¬ v = nI 4 ∧ ¬ v = nI 5 ∧ ¬ v = nI 6) := by
  by_cases h : v.toInt < 0 ∨ 6 < v.toInt
  · refine Or.inr ⟨h, ?_, ?_, ?_, ?_, ?_, ?_, ?_⟩ <;> (rintro rfl; revert h; decide)
  · left
    have h0 : ¬ v < 0 := fun z => by
      have := Int32.lt_iff_toInt_lt.mp z
      simp at this
      omega
    obtain ⟨j, hj, rfl⟩ := nI_of h0
    rw [nI_toInt hj] at h
    have : j = 0 ∨ j = 1 ∨ j = 2 ∨ j = 3 ∨ j = 4 ∨ j = 5 ∨ j = 6 := by omega
    rcases this with rfl | rfl | rfl | rfl | rfl | rfl | rfl <;> simp
def fndM (m : MS) (a b : Int32) : Int32 := if (nI 0 ≤ a ∧ a ≤ nI 24) ∧ (nI 0 ≤ b ∧ b ≤ nI 15) then oI (atP (mT m) a b) else -1
theorem Md_find_ok {w : WW} {m : MS} {d : Nat} (hM : RM w m) (hB : WB m) (hd : 1 ≤ d) (a b : Int32) : E_Md_find d [.inr (7, 1), .inl a, .inl b] w (fun r w' => r = some (.inl (fndM m a b)) ∧ w' = w) := by
  refine S_Md_find ?_
  refine XE.iload_n d_Md_find_0 rfl ?_
  refine XE.iconst (x := nI 0) d_Md_find_1 (by decide) ?_
  refine XE.bipush (x := nI 24) d_Md_find_2 (by decide) ?_
  refine k_Md_45 0 d_Md_find_4 (by omega) (Nat.le_of_ble_eq_true rfl) (Md_in_ok a (nI 0) (nI 24)) (fun r1 w1 hm1 hq1 => ?_)
  rw [hq1.1, hq1.2]
  clear hq1 hm1 r1 w1
  refine XE.if_eq 29 d_Md_find_7 (by decide) (fun h7 => ?_) (fun h7 => ?_)
  · have e : fndM m a b = -1 := if_neg (fun z => (bI_and _ _).mp h7 z.1)
    refine XE.iconst (x := (-1)) d_Md_find_29 (by decide) ?_
    exact XE.ri d_Md_find_30 ⟨by rw [e], rfl⟩
  · refine XE.iload_n d_Md_find_10 rfl ?_
    refine XE.iconst (x := nI 0) d_Md_find_11 (by decide) ?_
    refine XE.bipush (x := nI 15) d_Md_find_12 (by decide) ?_
    refine k_Md_45 0 d_Md_find_14 (by omega) (Nat.le_of_ble_eq_true rfl) (Md_in_ok b (nI 0) (nI 15)) (fun r1 w1 hm1 hq1 => ?_)
    rw [hq1.1, hq1.2]
    clear hq1 hm1 r1 w1
    refine XE.if_eq 29 d_Md_find_17 (by decide) (fun h17 => ?_) (fun h17 => ?_)
    · have e : fndM m a b = -1 := if_neg (fun z => (bI_and _ _).mp h17 z.2)
      refine XE.iconst (x := (-1)) d_Md_find_29 (by decide) ?_
      exact XE.ri d_Md_find_30 ⟨by rw [e], rfl⟩
    · have e : fndM m a b = oI (atP (mT m) a b) := if_pos ⟨Classical.not_not.mp (fun z => h7 ((bI_and _ _).mpr z)), Classical.not_not.mp (fun z => h17 ((bI_and _ _).mpr z))⟩
      refine XE.aload_n d_Md_find_20 rfl ?_
      refine XE.iload_n d_Md_find_21 rfl ?_
      refine XE.iload_n d_Md_find_22 rfl ?_
      refine k_Md_70 0 d_Md_find_23 (by omega) (Nat.le_of_ble_eq_true rfl) (by first | assumption | decide | omega) (Md_at_ok hM.1 hM.2.2.2.2.1 hB.g24 a b) (fun r1 w1 hm1 hq1 => ?_)
      rw [hq1.1, hq1.2]
      clear hq1 hm1 r1 w1
      refine XE.goto 30 d_Md_find_26 (by decide) ?_
      exact XE.ri d_Md_find_30 ⟨by rw [e], rfl⟩
def nodV (m : MS) (n : Nat) (u : Int32) : Int32 := if u = nI 0 then tD (mT m) n else if u = nI 1 then tN (mT m) n else if u = nI 2 then bI (tF (mT m) n) else if u = nI 3 then bI (mM m n) else if u = nI 4 then nI (cntO m n) else if u = nI 5 then nI (lksN m n) else if u = nI 6 then nI (ins (mT m) (nI n)) else -1
def nodM (m : MS) (v u : Int32) : Int32 := if (nI 0 ≤ v ∧ v ≤ nI (tG (mT m))) ∧ tT (mT m) v.toNatClampNeg = true then nodV m v.toNatClampNeg u else -1
set_option maxHeartbeats 1000000 in
theorem Md_node_ok {w : WW} {m : MS} {d : Nat} (hM : RM w m) (hB : WB m) (hd : 2 ≤ d) (v u : Int32) : E_Md_node d [.inr (7, 1), .inl v, .inl u] w (fun r w' => r = some (.inl (nodM m v u)) ∧ w' = w) := by
  refine S_Md_node ?_
  have g24 := hB.g24
  have hT := hM.2.2.2.2.1
  obtain ⟨-, s4, s5, s6, s7, s8, -, -, -, -, -, l1, l2, l3, l4, l5, -⟩ := hM.1
  have hg : wI w 7 1 3 = nI (tG (mT m)) := hT.1
  by_cases hr : nI 0 ≤ v ∧ v ≤ nI (tG (mT m))
  · obtain ⟨n, hn, rfl⟩ : ∃ n, n ≤ tG (mT m) ∧ v = nI n := by
      have h0 : ¬ v < 0 := Int32.not_lt.mpr hr.1
      obtain ⟨j, hj, rfl⟩ := nI_of h0
      exact ⟨j, (nI_leI hj (by omega)).mp hr.2, rfl⟩
    have cn : (nI n).toNatClampNeg = n := nI_clamp (by omega)
    have hth : wI w 111 1 n = bI (tT (mT m) n) := hT.2.1 n (by omega)
    cases ht : tT (mT m) n with
    | false =>
      have e : nodM m (nI n) u = -1 := if_neg (fun z => by rw [cn, ht] at z; exact absurd z.2 (by decide))
      rw [ht] at hth
      refine XE.iload_n d_Md_node_0 rfl ?_
      refine XE.iconst (x := nI 0) d_Md_node_1 (by decide) ?_
      refine XE.aload_n d_Md_node_2 rfl ?_
      refine g_Md_53 d_Md_node_3 (by first | assumption | decide | omega) (by first | assumption | rfl) ?_
      refine k_Md_45 0 d_Md_node_6 (by omega) (Nat.le_of_ble_eq_true rfl) (Md_in_ok (nI n) (nI 0) (nI (tG (mT m)))) (fun r1 w1 hm1 hq1 => ?_)
      rw [hq1.1, hq1.2]
      clear hq1 hm1 r1 w1
      refine XE.if_eq 21 d_Md_node_9 (by decide) (fun h9 => absurd h9 ((fun z => (bI_and _ _).mp z hr))) (fun h9 => ?_)
      refine XE.aload_n d_Md_node_12 rfl ?_
      refine g_Md_13 d_Md_node_13 (by first | assumption | decide | omega) (by first | assumption | rfl) ?_
      refine XE.iload_n d_Md_node_16 rfl ?_
      refine XE.zald d_Md_node_17 (by decide) rfl (by first | assumption | decide | omega) (by first | assumption | exact ixn2 (by assumption) (by omega) (by omega)) (by first | assumption | rfl) ?_
      refine XE.if_ne 23 d_Md_node_18 (by decide) (fun h18 => absurd h18 ((by decide))) (fun h18 => ?_)
      refine XE.iconst (x := (-1)) d_Md_node_21 (by decide) ?_
      exact XE.ri d_Md_node_22 ⟨by rw [e], rfl⟩
    | true =>
      have e : nodM m (nI n) u = nodV m n u := by unfold nodM; rw [cn, if_pos ⟨hr, ht⟩]
      rw [ht] at hth
      obtain ⟨r1, r2, r3, -⟩ := hT.2.2 n (by omega) ht
      have r4 : wI w 115 1 n = bI (mM m n) := hM.2.2.2.2.2.1 n (by omega)
      have ho := Md_openOf_n (d := 1) hM hB (by omega : n ≤ 24) (by omega)
      have hl := Md_locksOf_ok (d := 1) hM hB (by omega : n ≤ 24) (by omega)
      have hi := Md_inside_ok (d := 0) hM.1 hM.2.2.2.2.1 hB.g24 (nI n)
      rcases sw_cases u with (rfl | rfl | rfl | rfl | rfl | rfl | rfl) | ⟨ho', n0, n1, n2, n3, n4, n5, n6⟩
      · skip
        refine XE.iload_n d_Md_node_0 rfl ?_
        refine XE.iconst (x := nI 0) d_Md_node_1 (by decide) ?_
        refine XE.aload_n d_Md_node_2 rfl ?_
        refine g_Md_53 d_Md_node_3 (by first | assumption | decide | omega) (by first | assumption | rfl) ?_
        refine k_Md_45 0 d_Md_node_6 (by omega) (Nat.le_of_ble_eq_true rfl) (Md_in_ok (nI n) (nI 0) (nI (tG (mT m)))) (fun r1 w1 hm1 hq1 => ?_)
        rw [hq1.1, hq1.2]
        clear hq1 hm1 r1 w1
        refine XE.if_eq 21 d_Md_node_9 (by decide) (fun h9 => absurd h9 ((fun z => (bI_and _ _).mp z hr))) (fun h9 => ?_)
        refine XE.aload_n d_Md_node_12 rfl ?_
        refine g_Md_13 d_Md_node_13 (by first | assumption | decide | omega) (by first | assumption | rfl) ?_
        refine XE.iload_n d_Md_node_16 rfl ?_
        refine XE.zald d_Md_node_17 (by decide) rfl (by first | assumption | decide | omega) (by first | assumption | exact ixn2 (by assumption) (by omega) (by omega)) (by first | assumption | rfl) ?_
        refine XE.if_ne 23 d_Md_node_18 (by decide) (fun h18 => ?_) (fun h18 => absurd h18 ((by decide)))
        refine XE.iload_n d_Md_node_23 rfl ?_
        refine XE.tableIn (off := 44) 68 d_Md_node_24 (by decide) (by decide) (by decide) (by decide) ?_
        refine XE.aload_n d_Md_node_68 rfl ?_
        refine g_Md_20 d_Md_node_69 (by first | assumption | decide | omega) (by first | assumption | rfl) ?_
        refine XE.iload_n d_Md_node_72 rfl ?_
        refine XE.iald d_Md_node_73 (Or.inr ⟨by decide, rfl⟩) (by first | assumption | decide | omega) (by first | assumption | exact ixn2 (by assumption) (by omega) (by omega)) (by first | assumption | rfl) ?_
        exact XE.ri d_Md_node_74 ⟨by rw [e]; rfl, rfl⟩
      · skip
        refine XE.iload_n d_Md_node_0 rfl ?_
        refine XE.iconst (x := nI 0) d_Md_node_1 (by decide) ?_
        refine XE.aload_n d_Md_node_2 rfl ?_
        refine g_Md_53 d_Md_node_3 (by first | assumption | decide | omega) (by first | assumption | rfl) ?_
        refine k_Md_45 0 d_Md_node_6 (by omega) (Nat.le_of_ble_eq_true rfl) (Md_in_ok (nI n) (nI 0) (nI (tG (mT m)))) (fun r1 w1 hm1 hq1 => ?_)
        rw [hq1.1, hq1.2]
        clear hq1 hm1 r1 w1
        refine XE.if_eq 21 d_Md_node_9 (by decide) (fun h9 => absurd h9 ((fun z => (bI_and _ _).mp z hr))) (fun h9 => ?_)
        refine XE.aload_n d_Md_node_12 rfl ?_
        refine g_Md_13 d_Md_node_13 (by first | assumption | decide | omega) (by first | assumption | rfl) ?_
        refine XE.iload_n d_Md_node_16 rfl ?_
        refine XE.zald d_Md_node_17 (by decide) rfl (by first | assumption | decide | omega) (by first | assumption | exact ixn2 (by assumption) (by omega) (by omega)) (by first | assumption | rfl) ?_
        refine XE.if_ne 23 d_Md_node_18 (by decide) (fun h18 => ?_) (fun h18 => absurd h18 ((by decide)))
        refine XE.iload_n d_Md_node_23 rfl ?_
        refine XE.tableIn (off := 51) 75 d_Md_node_24 (by decide) (by decide) (by decide) (by decide) ?_
        refine XE.aload_n d_Md_node_75 rfl ?_
        refine g_Md_23 d_Md_node_76 (by first | assumption | decide | omega) (by first | assumption | rfl) ?_
        refine XE.iload_n d_Md_node_79 rfl ?_
        refine XE.iald d_Md_node_80 (Or.inr ⟨by decide, rfl⟩) (by first | assumption | decide | omega) (by first | assumption | exact ixn2 (by assumption) (by omega) (by omega)) (by first | assumption | rfl) ?_
        exact XE.ri d_Md_node_81 ⟨by rw [e]; rfl, rfl⟩
      · skip
        refine XE.iload_n d_Md_node_0 rfl ?_
        refine XE.iconst (x := nI 0) d_Md_node_1 (by decide) ?_
        refine XE.aload_n d_Md_node_2 rfl ?_
        refine g_Md_53 d_Md_node_3 (by first | assumption | decide | omega) (by first | assumption | rfl) ?_
        refine k_Md_45 0 d_Md_node_6 (by omega) (Nat.le_of_ble_eq_true rfl) (Md_in_ok (nI n) (nI 0) (nI (tG (mT m)))) (fun r1 w1 hm1 hq1 => ?_)
        rw [hq1.1, hq1.2]
        clear hq1 hm1 r1 w1
        refine XE.if_eq 21 d_Md_node_9 (by decide) (fun h9 => absurd h9 ((fun z => (bI_and _ _).mp z hr))) (fun h9 => ?_)
        refine XE.aload_n d_Md_node_12 rfl ?_
        refine g_Md_13 d_Md_node_13 (by first | assumption | decide | omega) (by first | assumption | rfl) ?_
        refine XE.iload_n d_Md_node_16 rfl ?_
        refine XE.zald d_Md_node_17 (by decide) rfl (by first | assumption | decide | omega) (by first | assumption | exact ixn2 (by assumption) (by omega) (by omega)) (by first | assumption | rfl) ?_
        refine XE.if_ne 23 d_Md_node_18 (by decide) (fun h18 => ?_) (fun h18 => absurd h18 ((by decide)))
        refine XE.iload_n d_Md_node_23 rfl ?_
        refine XE.tableIn (off := 58) 82 d_Md_node_24 (by decide) (by decide) (by decide) (by decide) ?_
        refine XE.aload_n d_Md_node_82 rfl ?_
        refine g_Md_17 d_Md_node_83 (by first | assumption | decide | omega) (by first | assumption | rfl) ?_
        refine XE.iload_n d_Md_node_86 rfl ?_
        refine XE.zald d_Md_node_87 (by decide) rfl (by first | assumption | decide | omega) (by first | assumption | exact ixn2 (by assumption) (by omega) (by omega)) (by first | assumption | rfl) ?_
        refine XE.if_eq 95 d_Md_node_88 (by decide) (fun h88 => ?_) (fun h88 => ?_)
        · have z : nodV m n (nI 2) = nI 0 := by show bI (tF (mT m) n) = _; rw [(bI_eq0 _).mp h88]; rfl
          refine XE.iconst (x := nI 0) d_Md_node_95 (by decide) ?_
          exact XE.ri d_Md_node_96 ⟨by rw [e, z], rfl⟩
        · have z : nodV m n (nI 2) = nI 1 := by show bI (tF (mT m) n) = _; rw [te _ h88]; rfl
          refine XE.iconst (x := nI 1) d_Md_node_91 (by decide) ?_
          refine XE.goto 96 d_Md_node_92 (by decide) ?_
          exact XE.ri d_Md_node_96 ⟨by rw [e, z], rfl⟩
      · skip
        refine XE.iload_n d_Md_node_0 rfl ?_
        refine XE.iconst (x := nI 0) d_Md_node_1 (by decide) ?_
        refine XE.aload_n d_Md_node_2 rfl ?_
        refine g_Md_53 d_Md_node_3 (by first | assumption | decide | omega) (by first | assumption | rfl) ?_
        refine k_Md_45 0 d_Md_node_6 (by omega) (Nat.le_of_ble_eq_true rfl) (Md_in_ok (nI n) (nI 0) (nI (tG (mT m)))) (fun r1 w1 hm1 hq1 => ?_)
        rw [hq1.1, hq1.2]
        clear hq1 hm1 r1 w1
        refine XE.if_eq 21 d_Md_node_9 (by decide) (fun h9 => absurd h9 ((fun z => (bI_and _ _).mp z hr))) (fun h9 => ?_)
        refine XE.aload_n d_Md_node_12 rfl ?_
        refine g_Md_13 d_Md_node_13 (by first | assumption | decide | omega) (by first | assumption | rfl) ?_
        refine XE.iload_n d_Md_node_16 rfl ?_
        refine XE.zald d_Md_node_17 (by decide) rfl (by first | assumption | decide | omega) (by first | assumption | exact ixn2 (by assumption) (by omega) (by omega)) (by first | assumption | rfl) ?_
        refine XE.if_ne 23 d_Md_node_18 (by decide) (fun h18 => ?_) (fun h18 => absurd h18 ((by decide)))
        refine XE.iload_n d_Md_node_23 rfl ?_
        refine XE.tableIn (off := 73) 97 d_Md_node_24 (by decide) (by decide) (by decide) (by decide) ?_
        refine XE.aload_n d_Md_node_97 rfl ?_
        refine g_Md_26 d_Md_node_98 (by first | assumption | decide | omega) (by first | assumption | rfl) ?_
        refine XE.iload_n d_Md_node_101 rfl ?_
        refine XE.zald d_Md_node_102 (by decide) rfl (by first | assumption | decide | omega) (by first | assumption | exact ixn2 (by assumption) (by omega) (by omega)) (by first | assumption | rfl) ?_
        refine XE.if_eq 110 d_Md_node_103 (by decide) (fun h103 => ?_) (fun h103 => ?_)
        · have z : nodV m n (nI 3) = nI 0 := by show bI (mM m n) = _; rw [(bI_eq0 _).mp h103]; rfl
          refine XE.iconst (x := nI 0) d_Md_node_110 (by decide) ?_
          exact XE.ri d_Md_node_111 ⟨by rw [e, z], rfl⟩
        · have z : nodV m n (nI 3) = nI 1 := by show bI (mM m n) = _; rw [te _ h103]; rfl
          refine XE.iconst (x := nI 1) d_Md_node_106 (by decide) ?_
          refine XE.goto 111 d_Md_node_107 (by decide) ?_
          exact XE.ri d_Md_node_111 ⟨by rw [e, z], rfl⟩
      · skip
        refine XE.iload_n d_Md_node_0 rfl ?_
        refine XE.iconst (x := nI 0) d_Md_node_1 (by decide) ?_
        refine XE.aload_n d_Md_node_2 rfl ?_
        refine g_Md_53 d_Md_node_3 (by first | assumption | decide | omega) (by first | assumption | rfl) ?_
        refine k_Md_45 0 d_Md_node_6 (by omega) (Nat.le_of_ble_eq_true rfl) (Md_in_ok (nI n) (nI 0) (nI (tG (mT m)))) (fun r1 w1 hm1 hq1 => ?_)
        rw [hq1.1, hq1.2]
        clear hq1 hm1 r1 w1
        refine XE.if_eq 21 d_Md_node_9 (by decide) (fun h9 => absurd h9 ((fun z => (bI_and _ _).mp z hr))) (fun h9 => ?_)
        refine XE.aload_n d_Md_node_12 rfl ?_
        refine g_Md_13 d_Md_node_13 (by first | assumption | decide | omega) (by first | assumption | rfl) ?_
        refine XE.iload_n d_Md_node_16 rfl ?_
        refine XE.zald d_Md_node_17 (by decide) rfl (by first | assumption | decide | omega) (by first | assumption | exact ixn2 (by assumption) (by omega) (by omega)) (by first | assumption | rfl) ?_
        refine XE.if_ne 23 d_Md_node_18 (by decide) (fun h18 => ?_) (fun h18 => absurd h18 ((by decide)))
        refine XE.iload_n d_Md_node_23 rfl ?_
        refine XE.tableIn (off := 88) 112 d_Md_node_24 (by decide) (by decide) (by decide) (by decide) ?_
        refine XE.aload_n d_Md_node_112 rfl ?_
        refine XE.iload_n d_Md_node_113 rfl ?_
        refine k_Md_66 1 d_Md_node_114 (by omega) (Nat.le_of_ble_eq_true rfl) (by first | assumption | decide | omega) ho (fun r1 w1 hm1 hq1 => ?_)
        rw [hq1.1, hq1.2]
        clear hq1 hm1 r1 w1
        exact XE.ri d_Md_node_117 ⟨by rw [e]; rfl, rfl⟩
      · skip
        refine XE.iload_n d_Md_node_0 rfl ?_
        refine XE.iconst (x := nI 0) d_Md_node_1 (by decide) ?_
        refine XE.aload_n d_Md_node_2 rfl ?_
        refine g_Md_53 d_Md_node_3 (by first | assumption | decide | omega) (by first | assumption | rfl) ?_
        refine k_Md_45 0 d_Md_node_6 (by omega) (Nat.le_of_ble_eq_true rfl) (Md_in_ok (nI n) (nI 0) (nI (tG (mT m)))) (fun r1 w1 hm1 hq1 => ?_)
        rw [hq1.1, hq1.2]
        clear hq1 hm1 r1 w1
        refine XE.if_eq 21 d_Md_node_9 (by decide) (fun h9 => absurd h9 ((fun z => (bI_and _ _).mp z hr))) (fun h9 => ?_)
        refine XE.aload_n d_Md_node_12 rfl ?_
        refine g_Md_13 d_Md_node_13 (by first | assumption | decide | omega) (by first | assumption | rfl) ?_
        refine XE.iload_n d_Md_node_16 rfl ?_
        refine XE.zald d_Md_node_17 (by decide) rfl (by first | assumption | decide | omega) (by first | assumption | exact ixn2 (by assumption) (by omega) (by omega)) (by first | assumption | rfl) ?_
        refine XE.if_ne 23 d_Md_node_18 (by decide) (fun h18 => ?_) (fun h18 => absurd h18 ((by decide)))
        refine XE.iload_n d_Md_node_23 rfl ?_
        refine XE.tableIn (off := 94) 118 d_Md_node_24 (by decide) (by decide) (by decide) (by decide) ?_
        refine XE.aload_n d_Md_node_118 rfl ?_
        refine XE.iload_n d_Md_node_119 rfl ?_
        refine k_Md_122 1 d_Md_node_120 (by omega) (Nat.le_of_ble_eq_true rfl) (by first | assumption | decide | omega) hl (fun r1 w1 hm1 hq1 => ?_)
        rw [hq1.1, hq1.2]
        clear hq1 hm1 r1 w1
        exact XE.ri d_Md_node_123 ⟨by rw [e]; rfl, rfl⟩
      · skip
        refine XE.iload_n d_Md_node_0 rfl ?_
        refine XE.iconst (x := nI 0) d_Md_node_1 (by decide) ?_
        refine XE.aload_n d_Md_node_2 rfl ?_
        refine g_Md_53 d_Md_node_3 (by first | assumption | decide | omega) (by first | assumption | rfl) ?_
        refine k_Md_45 0 d_Md_node_6 (by omega) (Nat.le_of_ble_eq_true rfl) (Md_in_ok (nI n) (nI 0) (nI (tG (mT m)))) (fun r1 w1 hm1 hq1 => ?_)
        rw [hq1.1, hq1.2]
        clear hq1 hm1 r1 w1
        refine XE.if_eq 21 d_Md_node_9 (by decide) (fun h9 => absurd h9 ((fun z => (bI_and _ _).mp z hr))) (fun h9 => ?_)
        refine XE.aload_n d_Md_node_12 rfl ?_
        refine g_Md_13 d_Md_node_13 (by first | assumption | decide | omega) (by first | assumption | rfl) ?_
        refine XE.iload_n d_Md_node_16 rfl ?_
        refine XE.zald d_Md_node_17 (by decide) rfl (by first | assumption | decide | omega) (by first | assumption | exact ixn2 (by assumption) (by omega) (by omega)) (by first | assumption | rfl) ?_
        refine XE.if_ne 23 d_Md_node_18 (by decide) (fun h18 => ?_) (fun h18 => absurd h18 ((by decide)))
        refine XE.iload_n d_Md_node_23 rfl ?_
        refine XE.tableIn (off := 100) 124 d_Md_node_24 (by decide) (by decide) (by decide) (by decide) ?_
        refine XE.aload_n d_Md_node_124 rfl ?_
        refine XE.iload_n d_Md_node_125 rfl ?_
        refine k_Md_106 0 d_Md_node_126 (by omega) (Nat.le_of_ble_eq_true rfl) (by first | assumption | decide | omega) hi (fun r1 w1 hm1 hq1 => ?_)
        rw [hq1.1, hq1.2]
        clear hq1 hm1 r1 w1
        exact XE.ri d_Md_node_129 ⟨by rw [e]; rfl, rfl⟩
      · skip
        refine XE.iload_n d_Md_node_0 rfl ?_
        refine XE.iconst (x := nI 0) d_Md_node_1 (by decide) ?_
        refine XE.aload_n d_Md_node_2 rfl ?_
        refine g_Md_53 d_Md_node_3 (by first | assumption | decide | omega) (by first | assumption | rfl) ?_
        refine k_Md_45 0 d_Md_node_6 (by omega) (Nat.le_of_ble_eq_true rfl) (Md_in_ok (nI n) (nI 0) (nI (tG (mT m)))) (fun r1 w1 hm1 hq1 => ?_)
        rw [hq1.1, hq1.2]
        clear hq1 hm1 r1 w1
        refine XE.if_eq 21 d_Md_node_9 (by decide) (fun h9 => absurd h9 ((fun z => (bI_and _ _).mp z hr))) (fun h9 => ?_)
        refine XE.aload_n d_Md_node_12 rfl ?_
        refine g_Md_13 d_Md_node_13 (by first | assumption | decide | omega) (by first | assumption | rfl) ?_
        refine XE.iload_n d_Md_node_16 rfl ?_
        refine XE.zald d_Md_node_17 (by decide) rfl (by first | assumption | decide | omega) (by first | assumption | exact ixn2 (by assumption) (by omega) (by omega)) (by first | assumption | rfl) ?_
        refine XE.if_ne 23 d_Md_node_18 (by decide) (fun h18 => ?_) (fun h18 => absurd h18 ((by decide)))
        refine XE.iload_n d_Md_node_23 rfl ?_
        refine XE.tableOut 130 d_Md_node_24 ho' (by decide) ?_
        refine XE.iconst (x := (-1)) d_Md_node_130 (by decide) ?_
        exact XE.ri d_Md_node_131 ⟨by rw [e]; unfold nodV; rw [if_neg n0, if_neg n1, if_neg n2, if_neg n3, if_neg n4, if_neg n5, if_neg n6], rfl⟩
  · have e : nodM m v u = -1 := if_neg (fun z => hr z.1)
    refine XE.iload_n d_Md_node_0 rfl ?_
    refine XE.iconst (x := nI 0) d_Md_node_1 (by decide) ?_
    refine XE.aload_n d_Md_node_2 rfl ?_
    refine g_Md_53 d_Md_node_3 (by first | assumption | decide | omega) (by first | assumption | rfl) ?_
    refine k_Md_45 0 d_Md_node_6 (by omega) (Nat.le_of_ble_eq_true rfl) (Md_in_ok v (nI 0) (nI (tG (mT m)))) (fun r1 w1 hm1 hq1 => ?_)
    rw [hq1.1, hq1.2]
    clear hq1 hm1 r1 w1
    refine XE.if_eq 21 d_Md_node_9 (by decide) (fun h9 => ?_) (fun h9 => absurd h9 ((fun z => z ((bI_and _ _).mpr hr))))
    refine XE.iconst (x := (-1)) d_Md_node_21 (by decide) ?_
    exact XE.ri d_Md_node_22 ⟨by rw [e], rfl⟩
def hdlM (m : MS) (v u : Int32) : Int32 := if hOf m v = 0 ∨ ¬ (nI 0 ≤ u ∧ u ≤ nI 4) then -1 else hrF (mh m (hOf m v)) u.toNatClampNeg
theorem Md_handle_ok {w : WW} {m : MS} {d : Nat} (hM : RM w m) (hB : WB m) (hd : 2 ≤ d) (v u : Int32) : E_Md_handle d [.inr (7, 1), .inl v, .inl u] w (fun r w' => r = some (.inl (hdlM m v u)) ∧ w' = w) := by
  refine S_Md_handle ?_
  have hsh := Md_shut_ok (d := 1) hM hB v (by omega)
  have b1 := hB.1
  by_cases hx : hOf m v = 0
  · have e : hdlM m v u = -1 := if_pos (Or.inl hx)
    refine XE.aload_n d_Md_handle_0 rfl ?_
    refine XE.iload_n d_Md_handle_1 rfl ?_
    refine k_Md_94 1 d_Md_handle_2 (by omega) (Nat.le_of_ble_eq_true rfl) (by first | assumption | decide | omega) hsh (fun r1 w1 hm1 hq1 => ?_)
    rw [hq1.1, hq1.2]
    clear hq1 hm1 r1 w1
    refine XE.if_ne 17 d_Md_handle_5 (by decide) (fun h5 => ?_) (fun h5 => absurd h5 ((by rw [hx]; decide)))
    refine XE.iconst (x := (-1)) d_Md_handle_17 (by decide) ?_
    refine XE.goto 27 d_Md_handle_18 (by decide) ?_
    exact XE.ri d_Md_handle_27 ⟨by rw [e], rfl⟩
  · obtain ⟨ev, x1, x2, x3⟩ := hOf_nz hB hx
    have eM : hdlM m v u = if hOf m v = 0 ∨ ¬ (nI 0 ≤ u ∧ u ≤ nI 4) then -1 else hrF (mh m (hOf m v)) u.toNatClampNeg := rfl
    generalize hX : hOf m v = x at *
    subst ev
    have t0 : (x == 0) = false := by simp [hx]
    by_cases hu : nI 0 ≤ u ∧ u ≤ nI 4
    · obtain ⟨k, hk, rfl⟩ : ∃ k, k ≤ 4 ∧ u = nI k := by
        have h0 : ¬ u < 0 := Int32.not_lt.mpr hu.1
        obtain ⟨j, hj, rfl⟩ := nI_of h0
        exact ⟨j, (nI_leI hj (by omega)).mp hu.2, rfl⟩
      have ck : (nI k).toNatClampNeg = k := nI_clamp (by omega)
      have e : hdlM m (nI x) (nI k) = hrF (mh m x) k := by rw [eM, if_neg (fun z => z.elim hx (fun y => y hu)), ck]
      refine XE.aload_n d_Md_handle_0 rfl ?_
      refine XE.iload_n d_Md_handle_1 rfl ?_
      refine k_Md_94 1 d_Md_handle_2 (by omega) (Nat.le_of_ble_eq_true rfl) (by first | assumption | decide | omega) hsh (fun r1 w1 hm1 hq1 => ?_)
      rw [hq1.1, hq1.2]
      clear hq1 hm1 r1 w1
      refine XE.if_ne 17 d_Md_handle_5 (by decide) (fun h5 => absurd h5 ((fun z => z (by rw [t0]; rfl)))) (fun h5 => ?_)
      refine XE.iload_n d_Md_handle_8 rfl ?_
      refine XE.iconst (x := nI 0) d_Md_handle_9 (by decide) ?_
      refine XE.iconst (x := nI 4) d_Md_handle_10 (by decide) ?_
      refine k_Md_45 0 d_Md_handle_11 (by omega) (Nat.le_of_ble_eq_true rfl) (Md_in_ok (nI k) (nI 0) (nI 4)) (fun r1 w1 hm1 hq1 => ?_)
      rw [hq1.1, hq1.2]
      clear hq1 hm1 r1 w1
      refine XE.if_ne 21 d_Md_handle_14 (by decide) (fun h14 => ?_) (fun h14 => absurd h14 ((fun z => (bI_and _ _).mp z hu)))
      refine XE.aload_n d_Md_handle_21 rfl ?_
      refine XE.iload_n d_Md_handle_22 rfl ?_
      refine XE.iload_n d_Md_handle_23 rfl ?_
      refine k_Md_49 0 d_Md_handle_24 (by omega) (Nat.le_of_ble_eq_true rfl) (by first | assumption | decide | omega) (Md_h_m k hM hB x1 x2 (by omega)) (fun r1 w1 hm1 hq1 => ?_)
      rw [hq1.1, hq1.2]
      clear hq1 hm1 r1 w1
      exact XE.ri d_Md_handle_27 ⟨by rw [e], rfl⟩
    · have e : hdlM m (nI x) u = -1 := by rw [eM, if_pos (Or.inr hu)]
      refine XE.aload_n d_Md_handle_0 rfl ?_
      refine XE.iload_n d_Md_handle_1 rfl ?_
      refine k_Md_94 1 d_Md_handle_2 (by omega) (Nat.le_of_ble_eq_true rfl) (by first | assumption | decide | omega) hsh (fun r1 w1 hm1 hq1 => ?_)
      rw [hq1.1, hq1.2]
      clear hq1 hm1 r1 w1
      refine XE.if_ne 17 d_Md_handle_5 (by decide) (fun h5 => absurd h5 ((fun z => z (by rw [t0]; rfl)))) (fun h5 => ?_)
      refine XE.iload_n d_Md_handle_8 rfl ?_
      refine XE.iconst (x := nI 0) d_Md_handle_9 (by decide) ?_
      refine XE.iconst (x := nI 4) d_Md_handle_10 (by decide) ?_
      refine k_Md_45 0 d_Md_handle_11 (by omega) (Nat.le_of_ble_eq_true rfl) (Md_in_ok u (nI 0) (nI 4)) (fun r1 w1 hm1 hq1 => ?_)
      rw [hq1.1, hq1.2]
      clear hq1 hm1 r1 w1
      refine XE.if_ne 21 d_Md_handle_14 (by decide) (fun h14 => absurd h14 ((fun z => z ((bI_and _ _).mpr hu)))) (fun h14 => ?_)
      refine XE.iconst (x := (-1)) d_Md_handle_17 (by decide) ?_
      refine XE.goto 27 d_Md_handle_18 (by decide) ?_
      exact XE.ri d_Md_handle_27 ⟨by rw [e], rfl⟩
def cntM (m : MS) (u : Int32) : Int32 := if u = nI 0 then nI (tG (mT m)) else if u = nI 1 then nI (nOpen m) else if u = nI 2 then nI (wtN m) else if u = nI 3 then nI (mN m) else if u = nI 4 then nI (mU m) else if u = nI 5 then nI (mQ m) else if u = nI 6 then nI (mH m) else -1
theorem Md_count_ok {w : WW} {m : MS} {d : Nat} (hM : RM w m) (hB : WB m) (hd : 2 ≤ d) (u : Int32) : E_Md_count d [.inr (7, 1), .inl u] w (fun r w' => r = some (.inl (cntM m u)) ∧ w' = w) := by
  refine S_Md_count ?_
  have b2 := hB.2.1
  have c3 : wI w 7 1 3 = nI (tG (mT m)) := hM.2.2.2.2.1.1
  have c0 := hM.2.1
  have c1 := hM.2.2.1
  have c10 : wI w 7 1 10 = nI (mH m) := hM.2.2.2.2.2.2.1
  have c12 : wI w 7 1 12 = nI (mQ m) := hM.2.2.2.2.2.2.2.2.1
  have s13 := hM.1.2.2.2.2.2.2.2.2.1
  have l8 := hM.1.2.2.2.2.2.2.2.2.2.2.2.2.2.2.2.2.2.2.1
  have hQ := hM.2.2.2.2.2.2.2.2.2.1.1
  have ho := Md_openOf_all (d := 1) hM hB (by omega)
  let p : Nat → Bool := fun r => qO (mq m r) == 0
  have loop : ∀ k i c, i + k = mQ m + 1 → 1 ≤ i → X_Md_count d 59 [some (.inr (7, 1)), some (.inl u), some (.inl (nI c)), some (.inl (nI i))] [] w (fun r w' => r = some (.inl (nI (c + (List.range' i k).countP p))) ∧ w' = w) := by
    intro k
    induction k with
    | zero =>
      intro i c h1 h2
      refine XE.iload_n d_Md_count_59 rfl ?_
      refine XE.aload_n d_Md_count_60 rfl ?_
      refine g_Md_88 d_Md_count_61 (by first | assumption | decide | omega) (by first | assumption | rfl) ?_
      refine XE.icmp_gt 90 d_Md_count_64 (by decide) (fun h64 => ?_) (fun h64 => absurd h64 ((by rw [lt_nI (by omega) (by omega)]; omega)))
      refine XE.iload_n d_Md_count_90 rfl ?_
      exact XE.ri d_Md_count_91 ⟨by simp, rfl⟩
    | succ k ih =>
      intro i c h1 h2
      have q5 : wI w 118 1 (6 * i + 5) = qO (mq m i) := hQ i h2 (by omega) 5 (by decide)
      have e1 : ¬ p i = true → (List.range' i (k + 1)).countP p = (List.range' (i + 1) k).countP p := fun h => by rw [List.range'_succ, List.countP_cons_of_neg h]
      have e2 : p i = true → (List.range' i (k + 1)).countP p = (List.range' (i + 1) k).countP p + 1 := fun h => by rw [List.range'_succ, List.countP_cons_of_pos h]
      refine XE.iload_n d_Md_count_59 rfl ?_
      refine XE.aload_n d_Md_count_60 rfl ?_
      refine g_Md_88 d_Md_count_61 (by first | assumption | decide | omega) (by first | assumption | rfl) ?_
      refine XE.icmp_gt 90 d_Md_count_64 (by decide) (fun h64 => absurd h64 ((by rw [lt_nI (by omega) (by omega)]; omega))) (fun h64 => ?_)
      refine XE.aload_n d_Md_count_67 rfl ?_
      refine g_Md_35 d_Md_count_68 (by first | assumption | decide | omega) (by first | assumption | rfl) ?_
      refine XE.bipush (x := nI 6) d_Md_count_71 (by decide) ?_
      refine XE.iload_n d_Md_count_73 rfl ?_
      refine XE.imul d_Md_count_74 (by first | exact pk_mul _ _ | rfl) ?_
      refine XE.iconst (x := nI 5) d_Md_count_75 (by decide) ?_
      refine XE.iadd d_Md_count_76 (by first | exact nI_add _ _ | rfl) ?_
      refine XE.iald d_Md_count_77 (Or.inr ⟨by decide, rfl⟩) (by first | assumption | decide | omega) (by first | assumption | exact ixn2 (by assumption) (by omega) (by omega)) (by first | assumption | rfl) ?_
      refine XE.if_ne 84 d_Md_count_78 (by decide) (fun h78 => ?_) (fun h78 => ?_)
      · have q := e1 (fun z => h78 (by simpa [p] using z))
        refine XE.iinc d_Md_count_84 rfl (inc_nI _) ?_
        refine XE.goto 59 d_Md_count_87 (by decide) ?_
        refine (ih (i + 1) _ (by omega) (by omega)).mono (fun r w' z => ⟨z.1.trans ?_, z.2⟩)
        rw [q] <;> try (congr 3 <;> omega)
      · have q := e2 (by simpa [p] using h78)
        refine XE.iinc d_Md_count_81 rfl (inc_nI _) ?_
        refine XE.iinc d_Md_count_84 rfl (inc_nI _) ?_
        refine XE.goto 59 d_Md_count_87 (by decide) ?_
        refine (ih (i + 1) _ (by omega) (by omega)).mono (fun r w' z => ⟨z.1.trans ?_, z.2⟩)
        rw [q] <;> try (congr 3 <;> omega)
  rcases sw_cases u with (rfl | rfl | rfl | rfl | rfl | rfl | rfl) | ⟨ho', n0, n1, n2, n3, n4, n5, n6⟩
  · skip
    refine XE.iload_n d_Md_count_0 rfl ?_
    refine XE.tableIn (off := 43) 44 d_Md_count_1 (by decide) (by decide) (by decide) (by decide) ?_
    refine XE.aload_n d_Md_count_44 rfl ?_
    refine g_Md_53 d_Md_count_45 (by first | assumption | decide | omega) (by first | assumption | rfl) ?_
    exact XE.ri d_Md_count_48 ⟨rfl, rfl⟩
  · skip
    refine XE.iload_n d_Md_count_0 rfl ?_
    refine XE.tableIn (off := 48) 49 d_Md_count_1 (by decide) (by decide) (by decide) (by decide) ?_
    refine XE.aload_n d_Md_count_49 rfl ?_
    refine XE.iconst (x := (-1)) d_Md_count_50 (by decide) ?_
    refine k_Md_66 1 d_Md_count_51 (by omega) (Nat.le_of_ble_eq_true rfl) (by first | assumption | decide | omega) ho (fun r1 w1 hm1 hq1 => ?_)
    rw [hq1.1, hq1.2]
    clear hq1 hm1 r1 w1
    exact XE.ri d_Md_count_54 ⟨rfl, rfl⟩
  · skip
    refine XE.iload_n d_Md_count_0 rfl ?_
    refine XE.tableIn (off := 54) 55 d_Md_count_1 (by decide) (by decide) (by decide) (by decide) ?_
    refine XE.iconst (x := nI 0) d_Md_count_55 (by decide) ?_
    refine XE.istore_n d_Md_count_56 (by decide) ?_
    refine XE.iconst (x := nI 1) d_Md_count_57 (by decide) ?_
    refine XE.istore_n d_Md_count_58 (by decide) ?_
    refine (loop (mQ m) 1 0 (by omega) (by omega)).mono (fun r w' z => ⟨z.1.trans ?_, z.2⟩)
    rw [Nat.zero_add]; rfl
  · skip
    refine XE.iload_n d_Md_count_0 rfl ?_
    refine XE.tableIn (off := 91) 92 d_Md_count_1 (by decide) (by decide) (by decide) (by decide) ?_
    refine XE.aload_n d_Md_count_92 rfl ?_
    refine g_Md_56 d_Md_count_93 (by first | assumption | decide | omega) (by first | assumption | rfl) ?_
    exact XE.ri d_Md_count_96 ⟨rfl, rfl⟩
  · skip
    refine XE.iload_n d_Md_count_0 rfl ?_
    refine XE.tableIn (off := 96) 97 d_Md_count_1 (by decide) (by decide) (by decide) (by decide) ?_
    refine XE.aload_n d_Md_count_97 rfl ?_
    refine g_Md_63 d_Md_count_98 (by first | assumption | decide | omega) (by first | assumption | rfl) ?_
    exact XE.ri d_Md_count_101 ⟨rfl, rfl⟩
  · skip
    refine XE.iload_n d_Md_count_0 rfl ?_
    refine XE.tableIn (off := 101) 102 d_Md_count_1 (by decide) (by decide) (by decide) (by decide) ?_
    refine XE.aload_n d_Md_count_102 rfl ?_
    refine g_Md_88 d_Md_count_103 (by first | assumption | decide | omega) (by first | assumption | rfl) ?_
    exact XE.ri d_Md_count_106 ⟨rfl, rfl⟩
  · skip
    refine XE.iload_n d_Md_count_0 rfl ?_
    refine XE.tableIn (off := 106) 107 d_Md_count_1 (by decide) (by decide) (by decide) (by decide) ?_
    refine XE.aload_n d_Md_count_107 rfl ?_
    refine g_Md_41 d_Md_count_108 (by first | assumption | decide | omega) (by first | assumption | rfl) ?_
    exact XE.ri d_Md_count_111 ⟨rfl, rfl⟩
  · skip
    refine XE.iload_n d_Md_count_0 rfl ?_
    refine XE.tableOut 112 d_Md_count_1 ho' (by decide) ?_
    refine XE.iconst (x := (-1)) d_Md_count_112 (by decide) ?_
    exact XE.ri d_Md_count_113 ⟨by unfold cntM; rw [if_neg n0, if_neg n1, if_neg n2, if_neg n3, if_neg n4, if_neg n5, if_neg n6], rfl⟩
