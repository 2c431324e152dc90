/-! the reference: move, the new object -/
/-- the way up from x ends within k steps -/
def EI (t : Tb) : Nat → Int32 → Prop
  | 0, x => x < 0
  | k + 1, x => x < 0 ∨ ∃ y, y ≤ 24 ∧ x = nI y ∧ tT t y = true ∧ EI t k (tD t y)
/-- the node n is met on the way up from x -/
def inA (t : Tb) (n : Nat) : Nat → Int32 → Bool
  | 0, _ => false
  | k + 1, x => if x < 0 then false else x == nI n || inA t n k (tD t x.toNatClampNeg)
def movM (m : MS) (v a b : Int32) : Int32 × MS :=
  if hOf m v = 0 ∨ ¬ (nI 0 ≤ a ∧ a ≤ nI 24) ∨ ¬ (nI 0 ≤ b ∧ b ≤ nI 15) then (-1, m)
  else if hA (mh m (hOf m v)) &&& nI 4 = 0 ∨ hN (mh m (hOf m v)) = 0 then (-1, m)
  else if ¬ (tT (mT m) a.toNatClampNeg = true ∧ tF (mT m) a.toNatClampNeg = true) then (-3, m)
  else if mM m a.toNatClampNeg = true then (-7, m)
  else if inA (mT m) (hN (mh m (hOf m v))) 25 a = true then (-1, m)
  else if (atP (mT m) a b).isSome = true then (-4, m)
  else (0, noteM m (3, hN (mh m (hOf m v)), a, b, 0))
set_option maxHeartbeats 2000000 in
theorem Md_move_ok {w : WW} {m : MS} {d : Nat} (hM : RM w m) (hB : WB m) (hE : ∀ x, x ≤ 24 → tT (mT m) x = true → EI (mT m) 25 (nI x)) (h11 : mN m + 1 ≤ 1100) (hd : 3 ≤ d) (v a b : Int32) : E_Md_move d [.inr (7, 1), .inl v, .inl a, .inl b] w (fun r w' => r = some (.inl (movM m v a b).1) ∧ RM w' (movM m v a b).2 ∧ FM w w') := by
  refine S_Md_move ?_
  have hM' := hM
  have hsh := Md_shut_ok (d := 1) hM hB v (by omega)
  have b1 := hB.1
  have g24 := hB.g24
  have hT := hM.2.2.2.2.1
  obtain ⟨-, s4, s5, s6, -, s8, -, -, -, -, -, l1, l2, l3, -, l5, -⟩ := hM.1
  have hend : ∀ {x : Int32} {pc : Nat} {ls : List (Option VV)}, decode c_Md_move pc = .ok (.ireturn, 1) → movM m v a b = (x, m) → X_Md_move d pc ls [.inl x] w (fun r w' => r = some (.inl (movM m v a b).1) ∧ RM w' (movM m v a b).2 ∧ FM w w') := by
    intro x pc ls hd2 he
    exact XE.ri hd2 ⟨by rw [he], by rw [he]; exact hM', FM.rf⟩
  by_cases hx : hOf m v = 0
  · have e : movM m v a b = (-1, m) := if_pos (Or.inl hx)
    refine XE.aload_n d_Md_move_0 rfl ?_
    refine XE.iload_n d_Md_move_1 rfl ?_
    refine k_Md_94 1 d_Md_move_2 (by omega) (Nat.le_of_ble_eq_true rfl) (by first | assumption | decide | omega) hsh (fun r1 w1 hm1 hq1 => ?_)
    rw [hq1.1, hq1.2]
    clear hq1 hm1 r1 w1
    refine XE.if_ne 28 d_Md_move_5 (by decide) (fun h5 => ?_) (fun h5 => absurd h5 ((by rw [hx]; decide)))
    refine XE.iconst (x := (-1)) d_Md_move_28 (by decide) ?_
    exact hend d_Md_move_29 e
  · have t0 : (hOf m v == 0) = false := by simp [hx]
    by_cases hr : (nI 0 ≤ a ∧ a ≤ nI 24) ∧ (nI 0 ≤ b ∧ b ≤ nI 15)
    · obtain ⟨hr1, hr2⟩ := hr
      obtain ⟨y, hy, rfl⟩ : ∃ y, y ≤ 24 ∧ a = nI y := by
        have h0 : ¬ a < 0 := Int32.not_lt.mpr hr1.1
        obtain ⟨j, hj, rfl⟩ := nI_of h0
        exact ⟨j, (nI_leI hj (by omega)).mp hr1.2, rfl⟩
      have cy : (nI y).toNatClampNeg = y := nI_clamp (by omega)
      obtain ⟨ev, x1, x2, x3⟩ := hOf_nz hB hx
      have eM : movM m v (nI y) b = if hA (mh m (hOf m v)) &&& nI 4 = 0 ∨ hN (mh m (hOf m v)) = 0 then (-1, m)
          else if ¬ (tT (mT m) y = true ∧ tF (mT m) y = true) then (-3, m)
          else if mM m y = true then (-7, m)
          else if inA (mT m) (hN (mh m (hOf m v))) 25 (nI y) = true then (-1, m)
          else if (atP (mT m) (nI y) b).isSome = true then (-4, m)
          else (0, noteM m (3, hN (mh m (hOf m v)), nI y, b, 0)) := by
        unfold movM
        rw [if_neg (by rintro (z | z | z); exact hx z; exact z hr1; exact z hr2), cy]
      generalize hX : hOf m v = x at *
      subst ev
      have n24 := hB.n24 x1 x2
      have hc : ∀ f, f < 7 → E_Md_h 0 [.inr (7, 1), .inl (nI x), .inl (nI f)] w (fun r w' => r = some (.inl (hrF (mh m x) f)) ∧ w' = w) := fun f hf => Md_h_m f hM hB x1 x2 hf
      have z51 : nI (hN (mh m x)) = 0 ↔ hN (mh m x) = 0 := eq_nI (b := 0) (by omega) (by omega)
      have hth : wI w 111 1 y = bI (tT (mT m) y) := hT.2.1 y hy
      have hdm : wI w 115 1 y = bI (mM m y) := hM.2.2.2.2.2.1 y hy
      have htx := hB.op x1 x2 x3
      have fin : ¬ (hA (mh m x) &&& nI 4 = 0 ∨ hN (mh m x) = 0) → tT (mT m) y = true ∧ tF (mT m) y = true → ¬ mM m y = true → inA (mT m) (hN (mh m x)) 25 (nI y) = false → ∀ l5, X_Md_move d 118 [some (.inr (7, 1)), some (.inl (nI x)), some (.inl (nI y)), some (.inl b), some (.inl (nI (hN (mh m x)))), l5] [] w (fun r w' => r = some (.inl (movM m (nI x) (nI y) b).1) ∧ RM w' (movM m (nI x) (nI y) b).2 ∧ FM w w') := by
        intro q1 q2 q3 q4 l5
        have q4' : ¬ inA (mT m) (hN (mh m x)) 25 (nI y) = true := by rw [q4]; decide
        cases hat : atP (mT m) (nI y) b with
        | none =>
          have e : movM m (nI x) (nI y) b = (0, noteM m (3, hN (mh m x), nI y, b, 0)) := by rw [eM, if_neg q1, if_neg (fun z => z q2), if_neg q3, if_neg q4', hat]; rfl
          have hnt : E_Md_note 2 [.inr (7, 1), .inl (nI 3), .inl (nI (hN (mh m x))), .inl (nI y), .inl b, .inl (nI 0)] w (fun r w' => r = none ∧ RM w' (noteM m (3, hN (mh m x), nI y, b, 0)) ∧ FM w w') :=
            Md_note_ok hM (by omega) hB.un.1 (by decide) ⟨n24, Or.inr (Or.inr (Or.inl ⟨rfl, htx⟩))⟩ (by omega)
          refine XE.aload_n d_Md_move_118 rfl ?_
          refine XE.iload_n d_Md_move_119 rfl ?_
          refine XE.iload_n d_Md_move_120 rfl ?_
          refine k_Md_70 0 d_Md_move_121 (by omega) (Nat.le_of_ble_eq_true rfl) (by first | assumption | decide | omega) (Md_at_ok hM.1 hT g24 (nI y) b) (fun r1 w1 hm1 hq1 => ?_)
          rw [hq1.1, hq1.2]
          clear hq1 hm1 r1 w1
          rw [hat]
          refine XE.if_lt 130 d_Md_move_124 (by decide) (fun h124 => ?_) (fun h124 => absurd h124 ((by decide)))
          refine XE.aload_n d_Md_move_130 rfl ?_
          refine XE.iconst (x := nI 3) d_Md_move_131 (by decide) ?_
          refine XE.iload d_Md_move_132 rfl ?_
          refine XE.iload_n d_Md_move_134 rfl ?_
          refine XE.iload_n d_Md_move_135 rfl ?_
          refine XE.iconst (x := nI 0) d_Md_move_136 (by decide) ?_
          refine k_Md_73 2 d_Md_move_137 (by omega) (Nat.le_of_ble_eq_true rfl) (by first | assumption | decide | omega) hnt (fun y1 w2 hm1 hq1 => ?_)
          obtain ⟨rfl, hM2, hF2⟩ := hq1
          refine XE.iconst (x := nI 0) d_Md_move_140 (by decide) ?_
          exact XE.ri d_Md_move_141 ⟨by rw [e]; rfl, by rw [e]; exact hM2, hF2⟩
        | some n =>
          have e : movM m (nI x) (nI y) b = (-4, m) := by rw [eM, if_neg q1, if_neg (fun z => z q2), if_neg q3, if_neg q4', hat]; rfl
          have hn := atP_some hat
          refine XE.aload_n d_Md_move_118 rfl ?_
          refine XE.iload_n d_Md_move_119 rfl ?_
          refine XE.iload_n d_Md_move_120 rfl ?_
          refine k_Md_70 0 d_Md_move_121 (by omega) (Nat.le_of_ble_eq_true rfl) (by first | assumption | decide | omega) (Md_at_ok hM.1 hT g24 (nI y) b) (fun r1 w1 hm1 hq1 => ?_)
          rw [hq1.1, hq1.2]
          clear hq1 hm1 r1 w1
          rw [hat]
          refine XE.if_lt 130 d_Md_move_124 (by decide) (fun h124 => absurd h124 ((nI_pos (by omega)))) (fun h124 => ?_)
          refine XE.bipush (x := (-4)) d_Md_move_127 (by decide) ?_
          exact hend d_Md_move_129 e
      have loop : ¬ (hA (mh m x) &&& nI 4 = 0 ∨ hN (mh m x) = 0) → tT (mT m) y = true ∧ tF (mT m) y = true → ¬ mM m y = true → ∀ k u, EI (mT m) k u → inA (mT m) (hN (mh m x)) 25 (nI y) = inA (mT m) (hN (mh m x)) k u → X_Md_move d 92 [some (.inr (7, 1)), some (.inl (nI x)), some (.inl (nI y)), some (.inl b), some (.inl (nI (hN (mh m x)))), some (.inl u)] [] w (fun r w' => r = some (.inl (movM m (nI x) (nI y) b).1) ∧ RM w' (movM m (nI x) (nI y) b).2 ∧ FM w w') := by
        intro q1 q2 q3 k
        induction k with
        | zero =>
          intro u hu hi
          have hu : u < 0 := hu
          refine XE.iload d_Md_move_92 rfl ?_
          refine XE.if_lt 118 d_Md_move_94 (by decide) (fun h94 => ?_) (fun h94 => absurd h94 ((fun z => z hu)))
          exact fin q1 q2 q3 hi _
        | succ k ih =>
          intro u hu hi
          rcases hu with hu | ⟨z, hz, rfl, hzt, hzE⟩
          · have : inA (mT m) (hN (mh m x)) (k + 1) u = false := by
              show (if u < 0 then false else _) = false
              rw [if_pos hu]
            refine XE.iload d_Md_move_92 rfl ?_
            refine XE.if_lt 118 d_Md_move_94 (by decide) (fun h94 => ?_) (fun h94 => absurd h94 ((fun z => z hu)))
            exact fin q1 q2 q3 (hi.trans this) _
          · have hi2 : inA (mT m) (hN (mh m x)) (k + 1) (nI z) = (nI z == nI (hN (mh m x)) || inA (mT m) (hN (mh m x)) k (tD (mT m) z)) := by
              show (if nI z < 0 then false else _) = _
              rw [if_neg (nI_pos (by omega)), nI_clamp (by omega)]
            have hdz : wI w 113 1 z = tD (mT m) z := (hT.2.2 z hz hzt).2.1
            refine XE.iload d_Md_move_92 rfl ?_
            refine XE.if_lt 118 d_Md_move_94 (by decide) (fun h94 => absurd h94 ((nI_pos (by omega)))) (fun h94 => ?_)
            refine XE.iload d_Md_move_97 rfl ?_
            refine XE.iload d_Md_move_99 rfl ?_
            refine XE.icmp_ne 106 d_Md_move_101 (by decide) (fun h101 => ?_) (fun h101 => ?_)
            · have ne : (nI z == nI (hN (mh m x))) = false := beq_eq_false_iff_ne.mpr h101
              refine XE.aload_n d_Md_move_106 rfl ?_
              refine g_Md_20 d_Md_move_107 (by first | assumption | decide | omega) (by first | assumption | rfl) ?_
              refine XE.iload d_Md_move_110 rfl ?_
              refine XE.iald d_Md_move_112 (Or.inr ⟨by decide, rfl⟩) (by first | assumption | decide | omega) (by first | assumption | exact ixn2 (by assumption) (by omega) (by omega)) (by first | assumption | rfl) ?_
              refine XE.istore d_Md_move_113 (by decide) ?_
              refine XE.goto 92 d_Md_move_115 (by decide) ?_
              exact ih _ hzE (by rw [hi, hi2, ne]; rfl)
            · have e : movM m (nI x) (nI y) b = (-1, m) := by rw [eM, if_neg q1, if_neg (fun z => z q2), if_neg q3, if_pos (by rw [hi, hi2, h101]; simp)]
              refine XE.iconst (x := (-1)) d_Md_move_104 (by decide) ?_
              exact hend d_Md_move_105 e
      by_cases q1 : hA (mh m x) &&& nI 4 = 0 ∨ hN (mh m x) = 0
      · have e : movM m (nI x) (nI y) b = (-1, m) := by rw [eM, if_pos q1]
        refine XE.aload_n d_Md_move_0 rfl ?_
        refine XE.iload_n d_Md_move_1 rfl ?_
        refine k_Md_94 1 d_Md_move_2 (by omega) (Nat.le_of_ble_eq_true rfl) (by first | assumption | decide | omega) hsh (fun r1 w1 hm1 hq1 => ?_)
        rw [hq1.1, hq1.2]
        clear hq1 hm1 r1 w1
        refine XE.if_ne 28 d_Md_move_5 (by decide) (fun h5 => absurd h5 ((fun z => z (by rw [t0]; rfl)))) (fun h5 => ?_)
        refine XE.iload_n d_Md_move_8 rfl ?_
        refine XE.iconst (x := nI 0) d_Md_move_9 (by decide) ?_
        refine XE.bipush (x := nI 24) d_Md_move_10 (by decide) ?_
        refine k_Md_45 0 d_Md_move_12 (by omega) (Nat.le_of_ble_eq_true rfl) (Md_in_ok (nI y) (nI 0) (nI 24)) (fun r1 w1 hm1 hq1 => ?_)
        rw [hq1.1, hq1.2]
        clear hq1 hm1 r1 w1
        refine XE.if_eq 28 d_Md_move_15 (by decide) (fun h15 => absurd h15 ((fun z => (bI_and _ _).mp z hr1))) (fun h15 => ?_)
        refine XE.iload_n d_Md_move_18 rfl ?_
        refine XE.iconst (x := nI 0) d_Md_move_19 (by decide) ?_
        refine XE.bipush (x := nI 15) d_Md_move_20 (by decide) ?_
        refine k_Md_45 0 d_Md_move_22 (by omega) (Nat.le_of_ble_eq_true rfl) (Md_in_ok b (nI 0) (nI 15)) (fun r1 w1 hm1 hq1 => ?_)
        rw [hq1.1, hq1.2]
        clear hq1 hm1 r1 w1
        refine XE.if_ne 30 d_Md_move_25 (by decide) (fun h25 => ?_) (fun h25 => absurd h25 ((fun z => (bI_and _ _).mp z hr2)))
        refine XE.aload_n d_Md_move_30 rfl ?_
        refine XE.iload_n d_Md_move_31 rfl ?_
        refine XE.iconst (x := nI 0) d_Md_move_32 (by decide) ?_
        refine k_Md_49 0 d_Md_move_33 (by omega) (Nat.le_of_ble_eq_true rfl) (by first | assumption | decide | omega) (hc 0 (by decide)) (fun r1 w1 hm1 hq1 => ?_)
        rw [hq1.1, hq1.2]
        clear hq1 hm1 r1 w1
        refine XE.istore d_Md_move_36 (by decide) ?_
        refine XE.aload_n d_Md_move_38 rfl ?_
        refine XE.iload_n d_Md_move_39 rfl ?_
        refine XE.iconst (x := nI 1) d_Md_move_40 (by decide) ?_
        refine k_Md_49 0 d_Md_move_41 (by omega) (Nat.le_of_ble_eq_true rfl) (by first | assumption | decide | omega) (hc 1 (by decide)) (fun r1 w1 hm1 hq1 => ?_)
        rw [hq1.1, hq1.2]
        clear hq1 hm1 r1 w1
        refine XE.iconst (x := nI 4) d_Md_move_44 (by decide) ?_
        refine XE.iand d_Md_move_45 rfl ?_
        refine XE.if_eq 54 d_Md_move_46 (by decide) (fun h46 => ?_) (fun h46 => ?_)
        · refine XE.iconst (x := (-1)) d_Md_move_54 (by decide) ?_
          exact hend d_Md_move_55 e
        · refine XE.iload d_Md_move_49 rfl ?_
          refine XE.if_ne 56 d_Md_move_51 (by decide) (fun h51 => absurd h51 ((fun z => z (z51.mpr (q1.resolve_left h46))))) (fun h51 => ?_)
          refine XE.iconst (x := (-1)) d_Md_move_54 (by decide) ?_
          exact hend d_Md_move_55 e
      · by_cases q2 : tT (mT m) y = true
        · have hfo : wI w 112 1 y = bI (tF (mT m) y) := (hT.2.2 y hy q2).1
          rw [q2] at hth
          refine XE.aload_n d_Md_move_0 rfl ?_
          refine XE.iload_n d_Md_move_1 rfl ?_
          refine k_Md_94 1 d_Md_move_2 (by omega) (Nat.le_of_ble_eq_true rfl) (by first | assumption | decide | omega) hsh (fun r1 w1 hm1 hq1 => ?_)
          rw [hq1.1, hq1.2]
          clear hq1 hm1 r1 w1
          refine XE.if_ne 28 d_Md_move_5 (by decide) (fun h5 => absurd h5 ((fun z => z (by rw [t0]; rfl)))) (fun h5 => ?_)
          refine XE.iload_n d_Md_move_8 rfl ?_
          refine XE.iconst (x := nI 0) d_Md_move_9 (by decide) ?_
          refine XE.bipush (x := nI 24) d_Md_move_10 (by decide) ?_
          refine k_Md_45 0 d_Md_move_12 (by omega) (Nat.le_of_ble_eq_true rfl) (Md_in_ok (nI y) (nI 0) (nI 24)) (fun r1 w1 hm1 hq1 => ?_)
          rw [hq1.1, hq1.2]
          clear hq1 hm1 r1 w1
          refine XE.if_eq 28 d_Md_move_15 (by decide) (fun h15 => absurd h15 ((fun z => (bI_and _ _).mp z hr1))) (fun h15 => ?_)
          refine XE.iload_n d_Md_move_18 rfl ?_
          refine XE.iconst (x := nI 0) d_Md_move_19 (by decide) ?_
          refine XE.bipush (x := nI 15) d_Md_move_20 (by decide) ?_
          refine k_Md_45 0 d_Md_move_22 (by omega) (Nat.le_of_ble_eq_true rfl) (Md_in_ok b (nI 0) (nI 15)) (fun r1 w1 hm1 hq1 => ?_)
          rw [hq1.1, hq1.2]
          clear hq1 hm1 r1 w1
          refine XE.if_ne 30 d_Md_move_25 (by decide) (fun h25 => ?_) (fun h25 => absurd h25 ((fun z => (bI_and _ _).mp z hr2)))
          refine XE.aload_n d_Md_move_30 rfl ?_
          refine XE.iload_n d_Md_move_31 rfl ?_
          refine XE.iconst (x := nI 0) d_Md_move_32 (by decide) ?_
          refine k_Md_49 0 d_Md_move_33 (by omega) (Nat.le_of_ble_eq_true rfl) (by first | assumption | decide | omega) (hc 0 (by decide)) (fun r1 w1 hm1 hq1 => ?_)
          rw [hq1.1, hq1.2]
          clear hq1 hm1 r1 w1
          refine XE.istore d_Md_move_36 (by decide) ?_
          refine XE.aload_n d_Md_move_38 rfl ?_
          refine XE.iload_n d_Md_move_39 rfl ?_
          refine XE.iconst (x := nI 1) d_Md_move_40 (by decide) ?_
          refine k_Md_49 0 d_Md_move_41 (by omega) (Nat.le_of_ble_eq_true rfl) (by first | assumption | decide | omega) (hc 1 (by decide)) (fun r1 w1 hm1 hq1 => ?_)
          rw [hq1.1, hq1.2]
          clear hq1 hm1 r1 w1
          refine XE.iconst (x := nI 4) d_Md_move_44 (by decide) ?_
          refine XE.iand d_Md_move_45 rfl ?_
          refine XE.if_eq 54 d_Md_move_46 (by decide) (fun h46 => absurd h46 ((fun z => q1 (Or.inl z)))) (fun h46 => ?_)
          refine XE.iload d_Md_move_49 rfl ?_
          refine XE.if_ne 56 d_Md_move_51 (by decide) (fun h51 => ?_) (fun h51 => absurd h51 ((fun z => q1 (Or.inr (z51.mp z)))))
          refine XE.aload_n d_Md_move_56 rfl ?_
          refine g_Md_13 d_Md_move_57 (by first | assumption | decide | omega) (by first | assumption | rfl) ?_
          refine XE.iload_n d_Md_move_60 rfl ?_
          refine XE.zald d_Md_move_61 (by decide) rfl (by first | assumption | decide | omega) (by first | assumption | exact ixn2 (by assumption) (by omega) (by omega)) (by first | assumption | rfl) ?_
          refine XE.if_eq 74 d_Md_move_62 (by decide) (fun h62 => absurd h62 ((by decide))) (fun h62 => ?_)
          refine XE.aload_n d_Md_move_65 rfl ?_
          refine g_Md_17 d_Md_move_66 (by first | assumption | decide | omega) (by first | assumption | rfl) ?_
          refine XE.iload_n d_Md_move_69 rfl ?_
          refine XE.zald d_Md_move_70 (by decide) rfl (by first | assumption | decide | omega) (by first | assumption | exact ixn2 (by assumption) (by omega) (by omega)) (by first | assumption | rfl) ?_
          refine XE.if_ne 77 d_Md_move_71 (by decide) (fun h71 => ?_) (fun h71 => ?_)
          · have qf : tT (mT m) y = true ∧ tF (mT m) y = true := ⟨q2, te _ h71⟩
            refine XE.aload_n d_Md_move_77 rfl ?_
            refine g_Md_26 d_Md_move_78 (by first | assumption | decide | omega) (by first | assumption | rfl) ?_
            refine XE.iload_n d_Md_move_81 rfl ?_
            refine XE.zald d_Md_move_82 (by decide) rfl (by first | assumption | decide | omega) (by first | assumption | exact ixn2 (by assumption) (by omega) (by omega)) (by first | assumption | rfl) ?_
            refine XE.if_eq 89 d_Md_move_83 (by decide) (fun h83 => ?_) (fun h83 => ?_)
            · refine XE.iload_n d_Md_move_89 rfl ?_
              refine XE.istore d_Md_move_90 (by decide) ?_
              exact loop q1 qf (by rw [(bI_eq0 _).mp h83]; decide) 25 (nI y) (hE y hy q2) rfl
            · have e : movM m (nI x) (nI y) b = (-7, m) := by rw [eM, if_neg q1, if_neg (fun z => z qf), if_pos (te _ h83)]
              refine XE.bipush (x := (-7)) d_Md_move_86 (by decide) ?_
              exact hend d_Md_move_88 e
          · have e : movM m (nI x) (nI y) b = (-3, m) := by rw [eM, if_neg q1, if_pos (fun z => by rw [z.2] at h71; exact absurd h71 (by decide))]
            refine XE.bipush (x := (-3)) d_Md_move_74 (by decide) ?_
            exact hend d_Md_move_76 e
        · have e : movM m (nI x) (nI y) b = (-3, m) := by rw [eM, if_neg q1, if_pos (fun z => q2 z.1)]
          rw [Bool.not_eq_true] at q2
          rw [q2] at hth
          refine XE.aload_n d_Md_move_0 rfl ?_
          refine XE.iload_n d_Md_move_1 rfl ?_
          refine k_Md_94 1 d_Md_move_2 (by omega) (Nat.le_of_ble_eq_true rfl) (by first | assumption | decide | omega) hsh (fun r1 w1 hm1 hq1 => ?_)
          rw [hq1.1, hq1.2]
          clear hq1 hm1 r1 w1
          refine XE.if_ne 28 d_Md_move_5 (by decide) (fun h5 => absurd h5 ((fun z => z (by rw [t0]; rfl)))) (fun h5 => ?_)
          refine XE.iload_n d_Md_move_8 rfl ?_
          refine XE.iconst (x := nI 0) d_Md_move_9 (by decide) ?_
          refine XE.bipush (x := nI 24) d_Md_move_10 (by decide) ?_
          refine k_Md_45 0 d_Md_move_12 (by omega) (Nat.le_of_ble_eq_true rfl) (Md_in_ok (nI y) (nI 0) (nI 24)) (fun r1 w1 hm1 hq1 => ?_)
          rw [hq1.1, hq1.2]
          clear hq1 hm1 r1 w1
          refine XE.if_eq 28 d_Md_move_15 (by decide) (fun h15 => absurd h15 ((fun z => (bI_and _ _).mp z hr1))) (fun h15 => ?_)
          refine XE.iload_n d_Md_move_18 rfl ?_
          refine XE.iconst (x := nI 0) d_Md_move_19 (by decide) ?_
          refine XE.bipush (x := nI 15) d_Md_move_20 (by decide) ?_
          refine k_Md_45 0 d_Md_move_22 (by omega) (Nat.le_of_ble_eq_true rfl) (Md_in_ok b (nI 0) (nI 15)) (fun r1 w1 hm1 hq1 => ?_)
          rw [hq1.1, hq1.2]
          clear hq1 hm1 r1 w1
          refine XE.if_ne 30 d_Md_move_25 (by decide) (fun h25 => ?_) (fun h25 => absurd h25 ((fun z => (bI_and _ _).mp z hr2)))
          refine XE.aload_n d_Md_move_30 rfl ?_
          refine XE.iload_n d_Md_move_31 rfl ?_
          refine XE.iconst (x := nI 0) d_Md_move_32 (by decide) ?_
          refine k_Md_49 0 d_Md_move_33 (by omega) (Nat.le_of_ble_eq_true rfl) (by first | assumption | decide | omega) (hc 0 (by decide)) (fun r1 w1 hm1 hq1 => ?_)
          rw [hq1.1, hq1.2]
          clear hq1 hm1 r1 w1
          refine XE.istore d_Md_move_36 (by decide) ?_
          refine XE.aload_n d_Md_move_38 rfl ?_
          refine XE.iload_n d_Md_move_39 rfl ?_
          refine XE.iconst (x := nI 1) d_Md_move_40 (by decide) ?_
          refine k_Md_49 0 d_Md_move_41 (by omega) (Nat.le_of_ble_eq_true rfl) (by first | assumption | decide | omega) (hc 1 (by decide)) (fun r1 w1 hm1 hq1 => ?_)
          rw [hq1.1, hq1.2]
          clear hq1 hm1 r1 w1
          refine XE.iconst (x := nI 4) d_Md_move_44 (by decide) ?_
          refine XE.iand d_Md_move_45 rfl ?_
          refine XE.if_eq 54 d_Md_move_46 (by decide) (fun h46 => absurd h46 ((fun z => q1 (Or.inl z)))) (fun h46 => ?_)
          refine XE.iload d_Md_move_49 rfl ?_
          refine XE.if_ne 56 d_Md_move_51 (by decide) (fun h51 => ?_) (fun h51 => absurd h51 ((fun z => q1 (Or.inr (z51.mp z)))))
          refine XE.aload_n d_Md_move_56 rfl ?_
          refine g_Md_13 d_Md_move_57 (by first | assumption | decide | omega) (by first | assumption | rfl) ?_
          refine XE.iload_n d_Md_move_60 rfl ?_
          refine XE.zald d_Md_move_61 (by decide) rfl (by first | assumption | decide | omega) (by first | assumption | exact ixn2 (by assumption) (by omega) (by omega)) (by first | assumption | rfl) ?_
          refine XE.if_eq 74 d_Md_move_62 (by decide) (fun h62 => ?_) (fun h62 => absurd h62 ((by decide)))
          refine XE.bipush (x := (-3)) d_Md_move_74 (by decide) ?_
          exact hend d_Md_move_76 e
    · have e : movM m v a b = (-1, m) := if_pos (Or.inr (by
        by_cases z : nI 0 ≤ a ∧ a ≤ nI 24
        · exact Or.inr (fun y => hr ⟨z, y⟩)
        · exact Or.inl z))
      refine XE.aload_n d_Md_move_0 rfl ?_
      refine XE.iload_n d_Md_move_1 rfl ?_
      refine k_Md_94 1 d_Md_move_2 (by omega) (Nat.le_of_ble_eq_true rfl) (by first | assumption | decide | omega) hsh (fun r1 w1 hm1 hq1 => ?_)
      rw [hq1.1, hq1.2]
      clear hq1 hm1 r1 w1
      refine XE.if_ne 28 d_Md_move_5 (by decide) (fun h5 => absurd h5 ((fun z => z (by rw [t0]; rfl)))) (fun h5 => ?_)
      refine XE.iload_n d_Md_move_8 rfl ?_
      refine XE.iconst (x := nI 0) d_Md_move_9 (by decide) ?_
      refine XE.bipush (x := nI 24) d_Md_move_10 (by decide) ?_
      refine k_Md_45 0 d_Md_move_12 (by omega) (Nat.le_of_ble_eq_true rfl) (Md_in_ok a (nI 0) (nI 24)) (fun r1 w1 hm1 hq1 => ?_)
      rw [hq1.1, hq1.2]
      clear hq1 hm1 r1 w1
      refine XE.if_eq 28 d_Md_move_15 (by decide) (fun h15 => ?_) (fun h15 => ?_)
      · refine XE.iconst (x := (-1)) d_Md_move_28 (by decide) ?_
        exact hend d_Md_move_29 e
      · refine XE.iload_n d_Md_move_18 rfl ?_
        refine XE.iconst (x := nI 0) d_Md_move_19 (by decide) ?_
        refine XE.bipush (x := nI 15) d_Md_move_20 (by decide) ?_
        refine k_Md_45 0 d_Md_move_22 (by omega) (Nat.le_of_ble_eq_true rfl) (Md_in_ok b (nI 0) (nI 15)) (fun r1 w1 hm1 hq1 => ?_)
        rw [hq1.1, hq1.2]
        clear hq1 hm1 r1 w1
        refine XE.if_ne 30 d_Md_move_25 (by decide) (fun h25 => absurd h25 ((fun z => hr ⟨Classical.not_not.mp (fun y => h15 ((bI_and _ _).mpr y)), Classical.not_not.mp (fun y => z ((bI_and _ _).mpr y))⟩))) (fun h25 => ?_)
        refine XE.iconst (x := (-1)) d_Md_move_28 (by decide) ?_
        exact hend d_Md_move_29 e
