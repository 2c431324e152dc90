/-! the reference: attempt -/
def attM (m : MS) (r : Nat) : Int32 × MS :=
  if ¬ (tT (mT m) (qD (mq m r)) = true ∧ tF (mT m) (qD (mq m r)) = true) then (-3, m)
  else match atP (mT m) (nI (qD (mq m r))) (qN (mq m r)) with
    | none =>
      if hasM (qM (mq m r)) 64 = false then (-3, m)
      else if mM m (qD (mq m r)) = true then (-7, m)
      else if tG (mT m) = 24 ∨ nOpen m = 12 then (-2, m)
      else (nI (mH m + 1), grM (noteM m (1, tG (mT m) + 1, nI (qD (mq m r)), qN (mq m r), bI (hasM (qM (mq m r)) 256))) r (tG (mT m) + 1))
    | some n =>
      if hasM (qM (mq m r)) 64 = true ∧ hasM (qM (mq m r)) 128 = true then (-4, m)
      else if tF (mT m) n ≠ hasM (qM (mq m r)) 256 then (-5, m)
      else if brkA m n = true then (0, brkM m n)
      else if mM m n = true then (-7, m)
      else if shA m n (qM (mq m r)) = true then (-6, m)
      else if nOpen m = 12 then (-2, m)
      else (nI (mH m + 1), grM m r n)
theorem brkM_no {m : MS} {n : Nat} (h : brkA m n = false) : brkM m n = m := by
  have : (fun x => if (1 ≤ x ∧ x ≤ mH m) ∧ brkP m n x = true then hsG (mh m x) (nI 3) else mh m x) = mh m := by
    funext x
    rw [if_neg]
    rintro ⟨⟨h1, h2⟩, h3⟩
    have : brkA m n = true := List.any_eq_true.mpr ⟨x, List.mem_range'_1.mpr ⟨h1, by omega⟩, h3⟩
    rw [h] at this
    cases this
  unfold brkM
  rw [this]
  rfl
theorem atP_some {t : Tb} {v u : Int32} {n : Nat} (h : atP t v u = some n) : 1 ≤ n ∧ n ≤ tG t ∧ tT t n = true ∧ tD t n = v ∧ tN t n = u := by
  have h1 := List.mem_of_find?_eq_some h
  have h2 := List.find?_some h
  rw [List.mem_range'_1] at h1
  simp only [Bool.and_eq_true, beq_iff_eq] at h2
  exact ⟨h1.1, by omega, h2.1.1, h2.1.2, h2.2⟩
theorem tG_app1 (n : Nat) (a b e : Int32) (t : Tb) : tG (app (1, n, a, b, e) t) = n := rfl
theorem tT_app1 (n : Nat) (a b e : Int32) (t : Tb) (x : Nat) : tT (app (1, n, a, b, e) t) x = if x = n then true else tT t x := rfl
/-- the bounds after a node is made -/
theorem WB.made {m : MS} (hB : WB m) {n : Nat} {a b e : Int32} (hn : n ≤ 24) (h11 : mN m + 1 ≤ 1100) : WB (noteM m (1, n, a, b, e)) := by
  obtain ⟨b1, b2, b3, b4, b5, b6, b7, b8, b9, b10, b11, b12⟩ := hB
  refine ⟨b1, b2, h11, b4, ?_, b6, b7, b8, ?_, b10, ?_, ?_⟩
  · rw [mT_note, tG_app1]; exact hn
  · intro x h1 h2 h3
    rw [mT_note, tT_app1]
    split
    · rfl
    · exact b9 x h1 h2 h3
  · show (if mN m + 1 - mU m = 6 then mN m + 1 else mU m) ≤ mN m + 1
    split <;> omega
  · show mN m + 1 ≤ (if mN m + 1 - mU m = 6 then mN m + 1 else mU m) + 5
    split <;> omega
set_option maxHeartbeats 2000000 in
theorem Md_attempt_ok {w : WW} {m : MS} {d r : Nat} (hM : RM w m) (hB : WB m) (r1 : 1 ≤ r) (r2 : r ≤ mQ m) (hh512 : mH m < 512) (h11 : mN m + 1 ≤ 1100) (hd : 3 ≤ d) :
    E_Md_attempt d [.inr (7, 1), .inl (nI r)] w (fun q w' => q = some (.inl (attM m r).1) ∧ RM w' (attM m r).2 ∧ FM w w') := by
  refine S_Md_attempt ?_
  have hM' := hM
  obtain ⟨hS, c0, c1, hLg, hT, hDm, hh, hH, hq, hQ, hk4, hK, hs⟩ := hM
  have hS' := hS
  obtain ⟨s2, s4, s5, s6, s7, s8, s9, s11, s13, s15, l0, l1, l2, l3, l4, l5, l6, l7, l8, l9⟩ := hS
  have b2 := hB.2.1
  have hD24 := hB.d24 r1 r2
  have g24 := hB.g24
  have q1 : wI w 118 1 (6 * r + 1) = nI (qD (mq m r)) := hQ.1 r r1 r2 1 (by decide)
  have q2 : wI w 118 1 (6 * r + 2) = qN (mq m r) := hQ.1 r r1 r2 2 (by decide)
  have q3 : wI w 118 1 (6 * r + 3) = qM (mq m r) := hQ.1 r r1 r2 3 (by decide)
  have hth : wI w 111 1 (qD (mq m r)) = bI (tT (mT m) (qD (mq m r))) := hT.2.1 _ hD24
  have hdm : wI w 115 1 (qD (mq m r)) = bI (mM m (qD (mq m r))) := hDm _ hD24
  have hgv : wI w 7 1 3 = nI (tG (mT m)) := hT.1
  obtain ⟨md, hmd, emd⟩ := hB.md r1 r2
  have b8 := bit8 md hmd
  have b192 := bit192 md hmd
  rw [← emd] at b8 b192
  have a0 : ¬ (tT (mT m) (qD (mq m r)) = true ∧ tF (mT m) (qD (mq m r)) = true) → attM m r = (-3, m) := fun h => if_pos h
  have hno : nOpen m ≤ 1000000 := Nat.le_trans List.countP_le_length (by rw [List.length_range']; omega)
  have end0 : ∀ {x : Int32} {pc : Nat} {ls : List (Option VV)}, decode c_Md_attempt pc = .ok (.ireturn, 1) → attM m r = (x, m) → X_Md_attempt d pc ls [.inl x] w (fun q w' => q = some (.inl (attM m r).1) ∧ RM w' (attM m r).2 ∧ FM w w') := by
    intro x pc ls hd2 he
    exact XE.ri hd2 ⟨by rw [he], by rw [he]; exact hM', FM.rf⟩
  have te : ∀ b : Bool, ¬ bI b = 0 → b = true := fun b h => (bI_eq1 b).mp ((bI_01 b).resolve_left h)
  by_cases hx : tT (mT m) (qD (mq m r)) = true ∧ tF (mT m) (qD (mq m r)) = true
  · have hfo : wI w 112 1 (qD (mq m r)) = bI (tF (mT m) (qD (mq m r))) := (hT.2.2 _ hD24 hx.1).1
    have ea : attM m r = match atP (mT m) (nI (qD (mq m r))) (qN (mq m r)) with
        | none =>
          if hasM (qM (mq m r)) 64 = false then (-3, m)
          else if mM m (qD (mq m r)) = true then (-7, m)
          else if tG (mT m) = 24 ∨ nOpen m = 12 then (-2, m)
          else (nI (mH m + 1), grM (noteM m (1, tG (mT m) + 1, nI (qD (mq m r)), qN (mq m r), bI (hasM (qM (mq m r)) 256))) r (tG (mT m) + 1))
        | some n =>
          if hasM (qM (mq m r)) 64 = true ∧ hasM (qM (mq m r)) 128 = true then (-4, m)
          else if tF (mT m) n ≠ hasM (qM (mq m r)) 256 then (-5, m)
          else if brkA m n = true then (0, brkM m n)
          else if mM m n = true then (-7, m)
          else if shA m n (qM (mq m r)) = true then (-6, m)
          else if nOpen m = 12 then (-2, m)
          else (nI (mH m + 1), grM m r n) := by
      unfold attM
      rw [if_neg (fun h => h hx)]
    rw [hx.1] at hth
    rw [hx.2] at hfo
    cases hat : atP (mT m) (nI (qD (mq m r))) (qN (mq m r)) with
    | none =>
      rw [hat] at ea
      dsimp only at ea
      have o1 : ∀ {g : Nat}, tG (mT m) = g → ¬ tG (mT m) = 24 → g + 1 ≤ 24 := by omega
      have hnote : ¬ tG (mT m) = 24 → E_Md_note 2 [.inr (7, 1), .inl (nI 1), .inl (nI (tG (mT m) + 1)), .inl (nI (qD (mq m r))), .inl (qN (mq m r)), .inl (bI (hasM (qM (mq m r)) 256))] w (fun r' w' => r' = none ∧ RM w' (noteM m (1, tG (mT m) + 1, nI (qD (mq m r)), qN (mq m r), bI (hasM (qM (mq m r)) 256))) ∧ FM w w') := fun h =>
        Md_note_ok hM' (by omega) hB.un.1 (by decide) ⟨by show tG (mT m) + 1 ≤ 24; omega, Or.inl ⟨rfl, bI_01 _⟩⟩ (by omega)
      let m1 : MS := noteM m (1, tG (mT m) + 1, nI (qD (mq m r)), qN (mq m r), bI (hasM (qM (mq m r)) 256))
      have t1 : tT (mT m1) (tG (mT m) + 1) = true := by rw [mT_note, tT_app1, if_pos rfl]
      refine XE.aload_n d_Md_attempt_0 rfl ?_
      refine g_Md_35 d_Md_attempt_1 (by first | assumption | decide | omega) (by first | assumption | rfl) ?_
      refine XE.bipush (x := nI 6) d_Md_attempt_4 (by decide) ?_
      refine XE.iload_n d_Md_attempt_6 rfl ?_
      refine XE.imul d_Md_attempt_7 (by first | exact pk_mul _ _ | rfl) ?_
      refine XE.iconst (x := nI 1) d_Md_attempt_8 (by decide) ?_
      refine XE.iadd d_Md_attempt_9 (by first | exact nI_add _ _ | rfl) ?_
      refine XE.iald d_Md_attempt_10 (Or.inr ⟨by decide, rfl⟩) (by first | assumption | decide | omega) (by first | assumption | exact ixn2 (by assumption) (by omega) (by omega)) (by first | assumption | rfl) ?_
      refine XE.istore_n d_Md_attempt_11 (by decide) ?_
      refine XE.aload_n d_Md_attempt_12 rfl ?_
      refine g_Md_35 d_Md_attempt_13 (by first | assumption | decide | omega) (by first | assumption | rfl) ?_
      refine XE.bipush (x := nI 6) d_Md_attempt_16 (by decide) ?_
      refine XE.iload_n d_Md_attempt_18 rfl ?_
      refine XE.imul d_Md_attempt_19 (by first | exact pk_mul _ _ | rfl) ?_
      refine XE.iconst (x := nI 3) d_Md_attempt_20 (by decide) ?_
      refine XE.iadd d_Md_attempt_21 (by first | exact nI_add _ _ | rfl) ?_
      refine XE.iald d_Md_attempt_22 (Or.inr ⟨by decide, rfl⟩) (by first | assumption | decide | omega) (by first | assumption | exact ixn2 (by assumption) (by omega) (by omega)) (by first | assumption | rfl) ?_
      refine XE.istore_n d_Md_attempt_23 (by decide) ?_
      refine XE.aload_n d_Md_attempt_24 rfl ?_
      refine g_Md_13 d_Md_attempt_25 (by first | assumption | decide | omega) (by first | assumption | rfl) ?_
      refine XE.iload_n d_Md_attempt_28 rfl ?_
      refine XE.zald d_Md_attempt_29 (by decide) rfl (by first | assumption | decide | omega) (by first | assumption | exact ixn2 (by assumption) (by omega) (by omega)) (by first | assumption | rfl) ?_
      refine XE.if_eq 42 d_Md_attempt_30 (by decide) (fun h30 => absurd h30 ((by decide))) (fun h30 => ?_)
      refine XE.aload_n d_Md_attempt_33 rfl ?_
      refine g_Md_17 d_Md_attempt_34 (by first | assumption | decide | omega) (by first | assumption | rfl) ?_
      refine XE.iload_n d_Md_attempt_37 rfl ?_
      refine XE.zald d_Md_attempt_38 (by decide) rfl (by first | assumption | decide | omega) (by first | assumption | exact ixn2 (by assumption) (by omega) (by omega)) (by first | assumption | rfl) ?_
      refine XE.if_ne 45 d_Md_attempt_39 (by decide) (fun h39 => ?_) (fun h39 => absurd h39 ((by decide)))
      refine XE.aload_n d_Md_attempt_45 rfl ?_
      refine XE.iload_n d_Md_attempt_46 rfl ?_
      refine XE.aload_n d_Md_attempt_47 rfl ?_
      refine g_Md_35 d_Md_attempt_48 (by first | assumption | decide | omega) (by first | assumption | rfl) ?_
      refine XE.bipush (x := nI 6) d_Md_attempt_51 (by decide) ?_
      refine XE.iload_n d_Md_attempt_53 rfl ?_
      refine XE.imul d_Md_attempt_54 (by first | exact pk_mul _ _ | rfl) ?_
      refine XE.iconst (x := nI 2) d_Md_attempt_55 (by decide) ?_
      refine XE.iadd d_Md_attempt_56 (by first | exact nI_add _ _ | rfl) ?_
      refine XE.iald d_Md_attempt_57 (Or.inr ⟨by decide, rfl⟩) (by first | assumption | decide | omega) (by first | assumption | exact ixn2 (by assumption) (by omega) (by omega)) (by first | assumption | rfl) ?_
      refine k_Md_70 0 d_Md_attempt_58 (by omega) (Nat.le_of_ble_eq_true rfl) (by first | assumption | decide | omega) (Md_at_ok hS' hT g24 _ _) (fun r1 w1 hm1 hq1 => ?_)
      rw [hq1.1, hq1.2]
      clear hq1 hm1 r1 w1
      rw [hat]
      refine XE.istore d_Md_attempt_61 (by decide) ?_
      refine XE.iload d_Md_attempt_63 rfl ?_
      refine XE.if_ge 151 d_Md_attempt_65 (by decide) (fun h65 => absurd h65 ((by decide))) (fun h65 => ?_)
      refine XE.iload_n d_Md_attempt_68 rfl ?_
      refine XE.bipush (x := nI 64) d_Md_attempt_69 (by decide) ?_
      refine XE.iand d_Md_attempt_71 rfl ?_
      refine XE.if_ne 78 d_Md_attempt_72 (by decide) (fun h72 => ?_) (fun h72 => ?_)
      · have n64 : ¬ hasM (qM (mq m r)) 64 = false := fun z => h72 (hasM_f.mp z)
        refine XE.aload_n d_Md_attempt_78 rfl ?_
        refine g_Md_26 d_Md_attempt_79 (by first | assumption | decide | omega) (by first | assumption | rfl) ?_
        refine XE.iload_n d_Md_attempt_82 rfl ?_
        refine XE.zald d_Md_attempt_83 (by decide) rfl (by first | assumption | decide | omega) (by first | assumption | exact ixn2 (by assumption) (by omega) (by omega)) (by first | assumption | rfl) ?_
        refine XE.if_eq 90 d_Md_attempt_84 (by decide) (fun h84 => ?_) (fun h84 => ?_)
        · have nd : ¬ mM m (qD (mq m r)) = true := by rw [(bI_eq0 _).mp h84]; decide
          refine XE.aload_n d_Md_attempt_90 rfl ?_
          refine g_Md_53 d_Md_attempt_91 (by first | assumption | decide | omega) (by first | assumption | rfl) ?_
          refine XE.bipush (x := nI 24) d_Md_attempt_94 (by decide) ?_
          refine XE.icmp_eq 109 d_Md_attempt_96 (by decide) (fun h96 => ?_) (fun h96 => ?_)
          · have nf : tG (mT m) = 24 ∨ nOpen m = 12 := Or.inl ((eq_nI (by omega) (by omega)).mp h96)
            refine XE.bipush (x := (-2)) d_Md_attempt_109 (by decide) ?_
            exact end0 d_Md_attempt_111 (by rw [ea, if_neg n64, if_neg nd, if_pos nf])
          · refine XE.aload_n d_Md_attempt_99 rfl ?_
            refine XE.iconst (x := (-1)) d_Md_attempt_100 (by decide) ?_
            refine k_Md_66 1 d_Md_attempt_101 (by omega) (Nat.le_of_ble_eq_true rfl) (by first | assumption | decide | omega) (Md_openOf_all hM' hB (by omega)) (fun r1 w1 hm1 hq1 => ?_)
            rw [hq1.1, hq1.2]
            clear hq1 hm1 r1 w1
            refine XE.bipush (x := nI 12) d_Md_attempt_104 (by decide) ?_
            refine XE.icmp_ne 112 d_Md_attempt_106 (by decide) (fun h106 => ?_) (fun h106 => ?_)
            · have n24 : ¬ tG (mT m) = 24 := fun z => h96 (by rw [z])
              have nf : ¬ (tG (mT m) = 24 ∨ nOpen m = 12) := fun z => z.elim n24 (fun y => h106 (by rw [y]))
              refine XE.aload_n d_Md_attempt_112 rfl ?_
              refine XE.iconst (x := nI 1) d_Md_attempt_113 (by decide) ?_
              refine XE.aload_n d_Md_attempt_114 rfl ?_
              refine g_Md_53 d_Md_attempt_115 (by first | assumption | decide | omega) (by first | assumption | rfl) ?_
              refine XE.iconst (x := nI 1) d_Md_attempt_118 (by decide) ?_
              refine XE.iadd d_Md_attempt_119 (by first | exact nI_add _ _ | rfl) ?_
              refine XE.iload_n d_Md_attempt_120 rfl ?_
              refine XE.aload_n d_Md_attempt_121 rfl ?_
              refine g_Md_35 d_Md_attempt_122 (by first | assumption | decide | omega) (by first | assumption | rfl) ?_
              refine XE.bipush (x := nI 6) d_Md_attempt_125 (by decide) ?_
              refine XE.iload_n d_Md_attempt_127 rfl ?_
              refine XE.imul d_Md_attempt_128 (by first | exact pk_mul _ _ | rfl) ?_
              refine XE.iconst (x := nI 2) d_Md_attempt_129 (by decide) ?_
              refine XE.iadd d_Md_attempt_130 (by first | exact nI_add _ _ | rfl) ?_
              refine XE.iald d_Md_attempt_131 (Or.inr ⟨by decide, rfl⟩) (by first | assumption | decide | omega) (by first | assumption | exact ixn2 (by assumption) (by omega) (by omega)) (by first | assumption | rfl) ?_
              refine XE.iload_n d_Md_attempt_132 rfl ?_
              refine XE.bipush (x := nI 8) d_Md_attempt_133 (by decide) ?_
              refine XE.ishr d_Md_attempt_135 rfl ?_
              refine XE.iconst (x := nI 1) d_Md_attempt_136 (by decide) ?_
              refine XE.iand d_Md_attempt_137 b8 ?_
              refine k_Md_73 2 d_Md_attempt_138 (by omega) (Nat.le_of_ble_eq_true rfl) (by first | assumption | decide | omega) (hnote n24) (fun x1 w1 hm1 hq1 => ?_)
              obtain ⟨rfl, hM1, hF1⟩ := hq1
              have g1 : wI w1 7 1 3 = nI (tG (mT m) + 1) := by have := hM1.2.2.2.2.1.1; rw [mT_note] at this; exact this
              refine XE.aload_n d_Md_attempt_141 rfl ?_
              refine XE.iload_n d_Md_attempt_142 rfl ?_
              refine XE.aload_n d_Md_attempt_143 rfl ?_
              refine g_Md_53 d_Md_attempt_144 (by first | assumption | decide | omega) (by first | assumption | rfl) ?_
              refine k_Md_77 2 d_Md_attempt_147 (by omega) (Nat.le_of_ble_eq_true rfl) (by first | assumption | decide | omega) (Md_grant_ok (m := m1) hM1 (hB.made (by omega) h11) (by omega) t1 r1 r2 hh512 (by omega)) (fun x2 w2 hm2 hq2 => ?_)
              obtain ⟨rfl, hM2, hF2⟩ := hq2
              exact XE.ri d_Md_attempt_150 ⟨by rw [ea, if_neg n64, if_neg nd, if_neg nf]; rfl, by rw [ea, if_neg n64, if_neg nd, if_neg nf]; exact hM2, hF1.tr hF2⟩
            · have nf : tG (mT m) = 24 ∨ nOpen m = 12 := Or.inr ((eq_nI hno (by omega)).mp h106)
              refine XE.bipush (x := (-2)) d_Md_attempt_109 (by decide) ?_
              exact end0 d_Md_attempt_111 (by rw [ea, if_neg n64, if_neg nd, if_pos nf])
        · have nd := te _ h84
          refine XE.bipush (x := (-7)) d_Md_attempt_87 (by decide) ?_
          exact end0 d_Md_attempt_89 (by rw [ea, if_neg n64, if_pos nd])
      · have n64 := hasM_f.mpr h72
        refine XE.bipush (x := (-3)) d_Md_attempt_75 (by decide) ?_
        exact end0 d_Md_attempt_77 (by rw [ea, if_pos n64])
    | some n =>
      rw [hat] at ea
      dsimp only at ea
      obtain ⟨n1, n2, n3, n4, n5⟩ := atP_some hat
      have hfn : wI w 112 1 n = bI (tF (mT m) n) := (hT.2.2 n (by omega) n3).1
      have h64i : ¬ qM (mq m r) &&& nI 192 = nI 192 → ¬ (hasM (qM (mq m r)) 64 = true ∧ hasM (qM (mq m r)) 128 = true) := fun h z => h (b192.mpr z)
      have tail2 : ¬ (hasM (qM (mq m r)) 64 = true ∧ hasM (qM (mq m r)) 128 = true) → tF (mT m) n = hasM (qM (mq m r)) 256 → brkA m n = false → ∀ w1, RM w1 m → FM w w1 → X_Md_attempt d 202 [some (.inr (7, 1)), some (.inl (nI r)), some (.inl (nI (qD (mq m r)))), some (.inl (qM (mq m r))), some (.inl (nI n))] [] w1 (fun q w' => q = some (.inl (attM m r).1) ∧ RM w' (attM m r).2 ∧ FM w w') := by
        intro n64 q5 nb w1 hM1 hF1
        have hb1 : ¬ brkA m n = true := by rw [nb]; decide
        have e0 : ∀ {x : Int32} {pc : Nat} {ls : List (Option VV)}, decode c_Md_attempt pc = .ok (.ireturn, 1) → attM m r = (x, m) → X_Md_attempt d pc ls [.inl x] w1 (fun q w' => q = some (.inl (attM m r).1) ∧ RM w' (attM m r).2 ∧ FM w w') := by
          intro x pc ls hd2 he
          exact XE.ri hd2 ⟨by rw [he], by rw [he]; exact hM1, hF1⟩
        have z8 := hM1.1.2.2.2.2.2.1
        have k5 := hM1.1.2.2.2.2.2.2.2.2.2.2.2.2.2.2.2.1
        have hdn : wI w1 115 1 n = bI (mM m n) := hM1.2.2.2.2.2.1 n (by omega)
        refine XE.aload_n d_Md_attempt_202 rfl ?_
        refine g_Md_26 d_Md_attempt_203 (by first | assumption | decide | omega) (by first | assumption | rfl) ?_
        refine XE.iload d_Md_attempt_206 rfl ?_
        refine XE.zald d_Md_attempt_208 (by decide) rfl (by first | assumption | decide | omega) (by first | assumption | exact ixn2 (by assumption) (by omega) (by omega)) (by first | assumption | rfl) ?_
        refine XE.if_eq 215 d_Md_attempt_209 (by decide) (fun h209 => ?_) (fun h209 => ?_)
        · have nd : ¬ mM m n = true := by rw [(bI_eq0 _).mp h209]; decide
          refine XE.aload_n d_Md_attempt_215 rfl ?_
          refine XE.iload d_Md_attempt_216 rfl ?_
          refine XE.iload_n d_Md_attempt_218 rfl ?_
          refine k_Md_84 1 d_Md_attempt_219 (by omega) (Nat.le_of_ble_eq_true rfl) (by first | assumption | decide | omega) (Md_sharing_ok hM1 hB (by omega) (qM (mq m r)) (by omega)) (fun r1 w1 hm1 hq1 => ?_)
          rw [hq1.1, hq1.2]
          clear hq1 hm1 r1 w1
          refine XE.if_eq 228 d_Md_attempt_222 (by decide) (fun h222 => ?_) (fun h222 => ?_)
          · have ns : ¬ shA m n (qM (mq m r)) = true := by rw [(bI_eq0 _).mp h222]; decide
            refine XE.aload_n d_Md_attempt_228 rfl ?_
            refine XE.iconst (x := (-1)) d_Md_attempt_229 (by decide) ?_
            refine k_Md_66 1 d_Md_attempt_230 (by omega) (Nat.le_of_ble_eq_true rfl) (by first | assumption | decide | omega) (Md_openOf_all hM1 hB (by omega)) (fun r1 w1 hm1 hq1 => ?_)
            rw [hq1.1, hq1.2]
            clear hq1 hm1 r1 w1
            refine XE.bipush (x := nI 12) d_Md_attempt_233 (by decide) ?_
            refine XE.icmp_ne 243 d_Md_attempt_235 (by decide) (fun h235 => ?_) (fun h235 => ?_)
            · have nf : ¬ nOpen m = 12 := fun z => h235 (by rw [z])
              have EE : attM m r = (nI (mH m + 1), grM m r n) := by rw [ea, if_neg n64, if_neg (fun z => z q5), if_neg hb1, if_neg nd, if_neg ns, if_neg nf]
              refine XE.aload_n d_Md_attempt_243 rfl ?_
              refine XE.iload_n d_Md_attempt_244 rfl ?_
              refine XE.iload d_Md_attempt_245 rfl ?_
              refine k_Md_77 2 d_Md_attempt_247 (by omega) (Nat.le_of_ble_eq_true rfl) (by first | assumption | decide | omega) (Md_grant_ok hM1 hB (by omega) n3 r1 r2 hh512 (by omega)) (fun x2 w2 hm2 hq2 => ?_)
              obtain ⟨rfl, hM2, hF2⟩ := hq2
              first | exact e0 d_Md_attempt_250 EE | exact XE.ri d_Md_attempt_250 ⟨by rw [EE], by rw [EE]; exact hM2, hF1.tr hF2⟩
            · have nf : nOpen m = 12 := (eq_nI hno (by omega)).mp h235
              have EE : attM m r = (-2, m) := by rw [ea, if_neg n64, if_neg (fun z => z q5), if_neg hb1, if_neg nd, if_neg ns, if_pos nf]
              refine XE.bipush (x := (-2)) d_Md_attempt_238 (by decide) ?_
              refine XE.goto 250 d_Md_attempt_240 (by decide) ?_
              first | exact e0 d_Md_attempt_250 EE | exact XE.ri d_Md_attempt_250 ⟨by rw [EE], by rw [EE]; exact hM2, hF1.tr hF2⟩
          · have ns := te _ h222
            refine XE.bipush (x := (-6)) d_Md_attempt_225 (by decide) ?_
            exact e0 d_Md_attempt_227 (by rw [ea, if_neg n64, if_neg (fun z => z q5), if_neg hb1, if_neg nd, if_pos ns])
        · have nd := te _ h209
          refine XE.bipush (x := (-7)) d_Md_attempt_212 (by decide) ?_
          exact e0 d_Md_attempt_214 (by rw [ea, if_neg n64, if_neg (fun z => z q5), if_neg hb1, if_pos nd])
      have tail : ¬ (hasM (qM (mq m r)) 64 = true ∧ hasM (qM (mq m r)) 128 = true) → tF (mT m) n = hasM (qM (mq m r)) 256 → X_Md_attempt d 191 [some (.inr (7, 1)), some (.inl (nI r)), some (.inl (nI (qD (mq m r)))), some (.inl (qM (mq m r))), some (.inl (nI n))] [] w (fun q w' => q = some (.inl (attM m r).1) ∧ RM w' (attM m r).2 ∧ FM w w') := by
        intro n64 q5
        refine XE.aload_n d_Md_attempt_191 rfl ?_
        refine XE.iload d_Md_attempt_192 rfl ?_
        refine k_Md_80 1 d_Md_attempt_194 (by omega) (Nat.le_of_ble_eq_true rfl) (by first | assumption | decide | omega) (Md_breaks_ok hM' hB (by omega) (by omega)) (fun x1 w1 hm1 hq1 => ?_)
        obtain ⟨rfl, hM1, hF1⟩ := hq1
        refine XE.if_eq 202 d_Md_attempt_197 (by decide) (fun h197 => ?_) (fun h197 => ?_)
        · have nb := (bI_eq0 _).mp h197
          exact tail2 n64 q5 nb w1 (by rw [brkM_no nb] at hM1; exact hM1) hF1
        · have nb := te _ h197
          refine XE.iconst (x := nI 0) d_Md_attempt_200 (by decide) ?_
          exact XE.ri d_Md_attempt_201 ⟨by rw [ea, if_neg n64, if_neg (fun z => z q5), if_pos nb]; rfl, by rw [ea, if_neg n64, if_neg (fun z => z q5), if_pos nb]; exact hM1, hF1⟩
      refine XE.aload_n d_Md_attempt_0 rfl ?_
      refine g_Md_35 d_Md_attempt_1 (by first | assumption | decide | omega) (by first | assumption | rfl) ?_
      refine XE.bipush (x := nI 6) d_Md_attempt_4 (by decide) ?_
      refine XE.iload_n d_Md_attempt_6 rfl ?_
      refine XE.imul d_Md_attempt_7 (by first | exact pk_mul _ _ | rfl) ?_
      refine XE.iconst (x := nI 1) d_Md_attempt_8 (by decide) ?_
      refine XE.iadd d_Md_attempt_9 (by first | exact nI_add _ _ | rfl) ?_
      refine XE.iald d_Md_attempt_10 (Or.inr ⟨by decide, rfl⟩) (by first | assumption | decide | omega) (by first | assumption | exact ixn2 (by assumption) (by omega) (by omega)) (by first | assumption | rfl) ?_
      refine XE.istore_n d_Md_attempt_11 (by decide) ?_
      refine XE.aload_n d_Md_attempt_12 rfl ?_
      refine g_Md_35 d_Md_attempt_13 (by first | assumption | decide | omega) (by first | assumption | rfl) ?_
      refine XE.bipush (x := nI 6) d_Md_attempt_16 (by decide) ?_
      refine XE.iload_n d_Md_attempt_18 rfl ?_
      refine XE.imul d_Md_attempt_19 (by first | exact pk_mul _ _ | rfl) ?_
      refine XE.iconst (x := nI 3) d_Md_attempt_20 (by decide) ?_
      refine XE.iadd d_Md_attempt_21 (by first | exact nI_add _ _ | rfl) ?_
      refine XE.iald d_Md_attempt_22 (Or.inr ⟨by decide, rfl⟩) (by first | assumption | decide | omega) (by first | assumption | exact ixn2 (by assumption) (by omega) (by omega)) (by first | assumption | rfl) ?_
      refine XE.istore_n d_Md_attempt_23 (by decide) ?_
      refine XE.aload_n d_Md_attempt_24 rfl ?_
      refine g_Md_13 d_Md_attempt_25 (by first | assumption | decide | omega) (by first | assumption | rfl) ?_
      refine XE.iload_n d_Md_attempt_28 rfl ?_
      refine XE.zald d_Md_attempt_29 (by decide) rfl (by first | assumption | decide | omega) (by first | assumption | exact ixn2 (by assumption) (by omega) (by omega)) (by first | assumption | rfl) ?_
      refine XE.if_eq 42 d_Md_attempt_30 (by decide) (fun h30 => absurd h30 ((by decide))) (fun h30 => ?_)
      refine XE.aload_n d_Md_attempt_33 rfl ?_
      refine g_Md_17 d_Md_attempt_34 (by first | assumption | decide | omega) (by first | assumption | rfl) ?_
      refine XE.iload_n d_Md_attempt_37 rfl ?_
      refine XE.zald d_Md_attempt_38 (by decide) rfl (by first | assumption | decide | omega) (by first | assumption | exact ixn2 (by assumption) (by omega) (by omega)) (by first | assumption | rfl) ?_
      refine XE.if_ne 45 d_Md_attempt_39 (by decide) (fun h39 => ?_) (fun h39 => absurd h39 ((by decide)))
      refine XE.aload_n d_Md_attempt_45 rfl ?_
      refine XE.iload_n d_Md_attempt_46 rfl ?_
      refine XE.aload_n d_Md_attempt_47 rfl ?_
      refine g_Md_35 d_Md_attempt_48 (by first | assumption | decide | omega) (by first | assumption | rfl) ?_
      refine XE.bipush (x := nI 6) d_Md_attempt_51 (by decide) ?_
      refine XE.iload_n d_Md_attempt_53 rfl ?_
      refine XE.imul d_Md_attempt_54 (by first | exact pk_mul _ _ | rfl) ?_
      refine XE.iconst (x := nI 2) d_Md_attempt_55 (by decide) ?_
      refine XE.iadd d_Md_attempt_56 (by first | exact nI_add _ _ | rfl) ?_
      refine XE.iald d_Md_attempt_57 (Or.inr ⟨by decide, rfl⟩) (by first | assumption | decide | omega) (by first | assumption | exact ixn2 (by assumption) (by omega) (by omega)) (by first | assumption | rfl) ?_
      refine k_Md_70 0 d_Md_attempt_58 (by omega) (Nat.le_of_ble_eq_true rfl) (by first | assumption | decide | omega) (Md_at_ok hS' hT g24 _ _) (fun r1 w1 hm1 hq1 => ?_)
      rw [hq1.1, hq1.2]
      clear hq1 hm1 r1 w1
      rw [hat]
      refine XE.istore d_Md_attempt_61 (by decide) ?_
      refine XE.iload d_Md_attempt_63 rfl ?_
      refine XE.if_ge 151 d_Md_attempt_65 (by decide) (fun h65 => ?_) (fun h65 => absurd h65 ((fun z => z (nI_pos' (by omega)))))
      refine XE.iload_n d_Md_attempt_151 rfl ?_
      refine XE.sipush (x := nI 192) d_Md_attempt_152 (by decide) ?_
      refine XE.iand d_Md_attempt_155 rfl ?_
      refine XE.sipush (x := nI 192) d_Md_attempt_156 (by decide) ?_
      refine XE.icmp_ne 165 d_Md_attempt_159 (by decide) (fun h159 => ?_) (fun h159 => ?_)
      · have n64 := h64i h159
        refine XE.aload_n d_Md_attempt_165 rfl ?_
        refine g_Md_17 d_Md_attempt_166 (by first | assumption | decide | omega) (by first | assumption | rfl) ?_
        refine XE.iload d_Md_attempt_169 rfl ?_
        refine XE.zald d_Md_attempt_171 (by decide) rfl (by first | assumption | decide | omega) (by first | assumption | exact ixn2 (by assumption) (by omega) (by omega)) (by first | assumption | rfl) ?_
        refine XE.iload_n d_Md_attempt_172 rfl ?_
        refine XE.sipush (x := nI 256) d_Md_attempt_173 (by decide) ?_
        refine XE.iand d_Md_attempt_176 rfl ?_
        refine XE.if_eq 184 d_Md_attempt_177 (by decide) (fun h177 => ?_) (fun h177 => ?_)
        · have c256 := hasM_f.mpr h177
          refine XE.iconst (x := nI 0) d_Md_attempt_184 (by decide) ?_
          refine XE.icmp_eq 191 d_Md_attempt_185 (by decide) (fun h185 => ?_) (fun h185 => ?_)
          · have q5 : tF (mT m) n = hasM (qM (mq m r)) 256 := by rw [c256]; first | exact (bI_eq0 _).mp h185 | exact (bI_eq1 _).mp h185
            exact tail n64 q5
          · have q5 : tF (mT m) n ≠ hasM (qM (mq m r)) 256 := by rw [c256]; intro z; apply h185; rw [z]; rfl
            refine XE.bipush (x := (-5)) d_Md_attempt_188 (by decide) ?_
            exact end0 d_Md_attempt_190 (by rw [ea, if_neg n64, if_pos q5])
        · have c256 := hasM_t.mpr h177
          refine XE.iconst (x := nI 1) d_Md_attempt_180 (by decide) ?_
          refine XE.goto 185 d_Md_attempt_181 (by decide) ?_
          refine XE.icmp_eq 191 d_Md_attempt_185 (by decide) (fun h185 => ?_) (fun h185 => ?_)
          · have q5 : tF (mT m) n = hasM (qM (mq m r)) 256 := by rw [c256]; first | exact (bI_eq0 _).mp h185 | exact (bI_eq1 _).mp h185
            exact tail n64 q5
          · have q5 : tF (mT m) n ≠ hasM (qM (mq m r)) 256 := by rw [c256]; intro z; apply h185; rw [z]; rfl
            refine XE.bipush (x := (-5)) d_Md_attempt_188 (by decide) ?_
            exact end0 d_Md_attempt_190 (by rw [ea, if_neg n64, if_pos q5])
      · have n64 := b192.mp h159
        refine XE.bipush (x := (-4)) d_Md_attempt_162 (by decide) ?_
        exact end0 d_Md_attempt_164 (by rw [ea, if_pos n64])
  · have e := a0 hx
    by_cases hx1 : tT (mT m) (qD (mq m r)) = true
    · have hfo : wI w 112 1 (qD (mq m r)) = bI (tF (mT m) (qD (mq m r))) := (hT.2.2 _ hD24 hx1).1
      have hf2 : tF (mT m) (qD (mq m r)) = false := Bool.not_eq_true _ ▸ (fun z => hx ⟨hx1, z⟩)
      rw [hx1] at hth
      rw [hf2] at hfo
      refine XE.aload_n d_Md_attempt_0 rfl ?_
      refine g_Md_35 d_Md_attempt_1 (by first | assumption | decide | omega) (by first | assumption | rfl) ?_
      refine XE.bipush (x := nI 6) d_Md_attempt_4 (by decide) ?_
      refine XE.iload_n d_Md_attempt_6 rfl ?_
      refine XE.imul d_Md_attempt_7 (by first | exact pk_mul _ _ | rfl) ?_
      refine XE.iconst (x := nI 1) d_Md_attempt_8 (by decide) ?_
      refine XE.iadd d_Md_attempt_9 (by first | exact nI_add _ _ | rfl) ?_
      refine XE.iald d_Md_attempt_10 (Or.inr ⟨by decide, rfl⟩) (by first | assumption | decide | omega) (by first | assumption | exact ixn2 (by assumption) (by omega) (by omega)) (by first | assumption | rfl) ?_
      refine XE.istore_n d_Md_attempt_11 (by decide) ?_
      refine XE.aload_n d_Md_attempt_12 rfl ?_
      refine g_Md_35 d_Md_attempt_13 (by first | assumption | decide | omega) (by first | assumption | rfl) ?_
      refine XE.bipush (x := nI 6) d_Md_attempt_16 (by decide) ?_
      refine XE.iload_n d_Md_attempt_18 rfl ?_
      refine XE.imul d_Md_attempt_19 (by first | exact pk_mul _ _ | rfl) ?_
      refine XE.iconst (x := nI 3) d_Md_attempt_20 (by decide) ?_
      refine XE.iadd d_Md_attempt_21 (by first | exact nI_add _ _ | rfl) ?_
      refine XE.iald d_Md_attempt_22 (Or.inr ⟨by decide, rfl⟩) (by first | assumption | decide | omega) (by first | assumption | exact ixn2 (by assumption) (by omega) (by omega)) (by first | assumption | rfl) ?_
      refine XE.istore_n d_Md_attempt_23 (by decide) ?_
      refine XE.aload_n d_Md_attempt_24 rfl ?_
      refine g_Md_13 d_Md_attempt_25 (by first | assumption | decide | omega) (by first | assumption | rfl) ?_
      refine XE.iload_n d_Md_attempt_28 rfl ?_
      refine XE.zald d_Md_attempt_29 (by decide) rfl (by first | assumption | decide | omega) (by first | assumption | exact ixn2 (by assumption) (by omega) (by omega)) (by first | assumption | rfl) ?_
      refine XE.if_eq 42 d_Md_attempt_30 (by decide) (fun h30 => absurd h30 ((by decide))) (fun h30 => ?_)
      refine XE.aload_n d_Md_attempt_33 rfl ?_
      refine g_Md_17 d_Md_attempt_34 (by first | assumption | decide | omega) (by first | assumption | rfl) ?_
      refine XE.iload_n d_Md_attempt_37 rfl ?_
      refine XE.zald d_Md_attempt_38 (by decide) rfl (by first | assumption | decide | omega) (by first | assumption | exact ixn2 (by assumption) (by omega) (by omega)) (by first | assumption | rfl) ?_
      refine XE.if_ne 45 d_Md_attempt_39 (by decide) (fun h39 => absurd h39 ((by decide))) (fun h39 => ?_)
      refine XE.bipush (x := (-3)) d_Md_attempt_42 (by decide) ?_
      exact end0 d_Md_attempt_44 e
    · rw [Bool.not_eq_true] at hx1
      rw [hx1] at hth
      refine XE.aload_n d_Md_attempt_0 rfl ?_
      refine g_Md_35 d_Md_attempt_1 (by first | assumption | decide | omega) (by first | assumption | rfl) ?_
      refine XE.bipush (x := nI 6) d_Md_attempt_4 (by decide) ?_
      refine XE.iload_n d_Md_attempt_6 rfl ?_
      refine XE.imul d_Md_attempt_7 (by first | exact pk_mul _ _ | rfl) ?_
      refine XE.iconst (x := nI 1) d_Md_attempt_8 (by decide) ?_
      refine XE.iadd d_Md_attempt_9 (by first | exact nI_add _ _ | rfl) ?_
      refine XE.iald d_Md_attempt_10 (Or.inr ⟨by decide, rfl⟩) (by first | assumption | decide | omega) (by first | assumption | exact ixn2 (by assumption) (by omega) (by omega)) (by first | assumption | rfl) ?_
      refine XE.istore_n d_Md_attempt_11 (by decide) ?_
      refine XE.aload_n d_Md_attempt_12 rfl ?_
      refine g_Md_35 d_Md_attempt_13 (by first | assumption | decide | omega) (by first | assumption | rfl) ?_
      refine XE.bipush (x := nI 6) d_Md_attempt_16 (by decide) ?_
      refine XE.iload_n d_Md_attempt_18 rfl ?_
      refine XE.imul d_Md_attempt_19 (by first | exact pk_mul _ _ | rfl) ?_
      refine XE.iconst (x := nI 3) d_Md_attempt_20 (by decide) ?_
      refine XE.iadd d_Md_attempt_21 (by first | exact nI_add _ _ | rfl) ?_
      refine XE.iald d_Md_attempt_22 (Or.inr ⟨by decide, rfl⟩) (by first | assumption | decide | omega) (by first | assumption | exact ixn2 (by assumption) (by omega) (by omega)) (by first | assumption | rfl) ?_
      refine XE.istore_n d_Md_attempt_23 (by decide) ?_
      refine XE.aload_n d_Md_attempt_24 rfl ?_
      refine g_Md_13 d_Md_attempt_25 (by first | assumption | decide | omega) (by first | assumption | rfl) ?_
      refine XE.iload_n d_Md_attempt_28 rfl ?_
      refine XE.zald d_Md_attempt_29 (by decide) rfl (by first | assumption | decide | omega) (by first | assumption | exact ixn2 (by assumption) (by omega) (by omega)) (by first | assumption | rfl) ?_
      refine XE.if_eq 42 d_Md_attempt_30 (by decide) (fun h30 => ?_) (fun h30 => absurd h30 ((by decide)))
      refine XE.bipush (x := (-3)) d_Md_attempt_42 (by decide) ?_
      exact end0 d_Md_attempt_44 e
