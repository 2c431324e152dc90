/-! THE CLASS: move, write -/
section MVW
variable {w : WW} {m : MS} {c d : Nat}
theorem cy_note (h : CY w m) {c : Ch} (hc : ∀ k, tT (app c (mT m)) k = tT (mT m) k) : CY w (noteM m c) := by
  obtain ⟨c1, c2, c4, c5, c6, c7, c8⟩ := h
  exact ⟨c1, c2, fun n hn ht => c4 n hn (by rw [mT_note, hc] at ht; exact ht), fun n hn ht => c5 n hn (by rw [mT_note, hc] at ht; exact ht), c6, c7, c8⟩
theorem cy_f23 (h : CY w m) {o j : Nat} {x : Int32} (hj : j = 2 ∨ j = 3) (ho : o ≤ wC w 1) : CY (sI w 1 o j x) m := by
  obtain ⟨c1, ⟨n1, n2, n3, n4⟩, c4, c5, c6, c7, c8⟩ := h
  refine ⟨c1, ⟨n1, n2, fun o' o1 o2 => ?_, fun o' j' ho' => ⟨?_, (n4 o' j' ho').2⟩⟩, fun k hk hs => ?_, fun k hk hs => ?_, c6, c7, c8⟩
  · have := n3 o' o1 o2
    rw [sI_j (by omega)]
    exact this
  · have ho' : wC w 1 < o' := ho'
    rw [wI_sI, if_neg (by omega)]
    exact (n4 o' j' ho').1
  · rw [sI_j (by omega)]
    exact c4 k hk hs
  · have q := c5 k hk hs
    refine ⟨?_, q.2⟩
    rw [sI_j (by omega)]
    exact q.1
theorem cy_cell (h : CY w m) {o j : Nat} {x : Int32} (ho : o ≤ wC w 1) : CY (sI w 103 o j x) m := by
  obtain ⟨c1, ⟨n1, n2, n3, n4⟩, c4, c5, c6, c7, c8⟩ := h
  refine ⟨c1, ⟨n1, n2, n3, fun o' j' ho' => ⟨(n4 o' j' ho').1, ?_⟩⟩, c4, c5, c6, c7, c8⟩
  have ho' : wC w 1 < o' := ho'
  rw [wI_sI, if_neg (by omega)]
  exact (n4 o' j' ho').2
theorem cr_moved (hR : CR w m) (hB : WB m) {n : Nat} (hn : n ≤ 24) (ht : tT (mT m) n = true) (a b : Int32) :
    CR (sI (sI (ntW w (mN m - mU m) (mU m) (wR w 100 1 n) 2 (tD (mT m) n) (tN (mT m) n)) 1 (wR w 100 1 n) 2 a) 1 (wR w 100 1 n) 3 b) (noteM m (3, n, a, b, 0)) := by
  have hT := hR.ct hB
  have hle := hR.N hB hn
  have hnz : wR w 100 1 n ≠ 0 := hT.nz hn ht
  have hij := fun k hk hs h => hR.inj hB hn (k := k) hk ht hs h
  obtain ⟨f1, f1', f2, f3, f4, f5, f6, f7, f8⟩ := nt_facts (w := w) (m := m) (o := wR w 100 1 n) (k := 2) (a := tD (mT m) n) (b := tN (mT m) n) hR.2.2.1.2.1 hR.2.2.1.2.2.1 hB.un rfl
  have hy := hR.cx.nt (mN m - mU m) (mU m) (wR w 100 1 n) 2 (tD (mT m) n) (tN (mT m) n)
  have g2 : ∀ k, wR (ntW w (mN m - mU m) (mU m) (wR w 100 1 n) 2 (tD (mT m) n) (tN (mT m) n)) 100 1 k = wR w 100 1 k := fun k => congrFun (congrArg (fun q : CT => q.1) f8) k
  have g4 : wI (ntW w (mN m - mU m) (mU m) (wR w 100 1 n) 2 (tD (mT m) n) (tN (mT m) n)) 0 1 1 = wI w 0 1 1 := congrArg (fun q : CT => q.2.1) f8
  have g1 : ∀ o j, wI (ntW w (mN m - mU m) (mU m) (wR w 100 1 n) 2 (tD (mT m) n) (tN (mT m) n)) 1 o j = wI w 1 o j := fun o j => congrFun (congrFun (congrArg (fun q : CT => q.2.2.1) f8) o) j
  have g3 : ∀ o j, wI (ntW w (mN m - mU m) (mU m) (wR w 100 1 n) 2 (tD (mT m) n) (tN (mT m) n)) 103 o j = wI w 103 o j := fun o j => congrFun (congrFun (congrArg (fun q : CT => q.2.2.2) f8) o) j
  have c3 := hR.2.2.1
  generalize ntW w (mN m - mU m) (mU m) (wR w 100 1 n) 2 (tD (mT m) n) (tN (mT m) n) = u at *
  obtain ⟨b0, b1, b2, b3, b4⟩ := (hT.2 n hn).2.2 ht
  have hij : ∀ k, k ≤ 24 → tT (mT m) k = true → k ≠ n → wR w 100 1 k ≠ wR w 100 1 n := hij
  have b0 : wI w 1 (wR w 100 1 n) 0 = nI n := b0
  have b1 : wI w 1 (wR w 100 1 n) 1 = bI (tF (mT m) n) := b1
  have b2 : wI w 1 (wR w 100 1 n) 2 = tD (mT m) n := b2
  have b3 : wI w 1 (wR w 100 1 n) 3 = tN (mT m) n := b3
  have b4 : tF (mT m) n = false → ∀ i, i < 32 → wI w 103 (wR w 100 1 n) i = tC (mT m) n i := b4
  generalize ho : wR w 100 1 n = o at *
  have fI : ∀ o' j, wI (sI (sI u 1 o 2 a) 1 o 3 b) 1 o' j = if o' = o ∧ j = 3 then b else if o' = o ∧ j = 2 then a else wI w 1 o' j := fun o' j => by
    rw [wI_sI, wI_sI, g1]
    simp
  refine CY.cr (cy_note (cy_f23 (cy_f23 hy (Or.inl rfl) (by omega)) (Or.inr rfl) (by show o ≤ wC u 1; omega)) (fun _ => rfl)) ?_
  refine LGC.add c3 hB.un f1 f1' (Nat.le_of_eq f2.symm) f3 f4 f5 (Nat.le_of_eq f6.symm) ?_ ?_ ?_
  · refine ⟨g4.trans hT.1, fun k hk => ?_⟩
    show wR u 100 1 k ≤ wC u 1 ∧ (wR u 100 1 k ≠ 0 ↔ tT (mT m) k = true) ∧ (tT (mT m) k = true → wI (sI (sI u 1 o 2 a) 1 o 3 b) 1 (wR u 100 1 k) 0 = nI k ∧ wI (sI (sI u 1 o 2 a) 1 o 3 b) 1 (wR u 100 1 k) 1 = bI (tF (mT m) k) ∧ wI (sI (sI u 1 o 2 a) 1 o 3 b) 1 (wR u 100 1 k) 2 = tD (app (3, n, a, b, 0) (mT m)) k ∧ wI (sI (sI u 1 o 2 a) 1 o 3 b) 1 (wR u 100 1 k) 3 = tN (app (3, n, a, b, 0) (mT m)) k ∧ (tF (mT m) k = false → ∀ i, i < 32 → wI u 103 (wR u 100 1 k) i = tC (mT m) k i))
    rw [g2, f6]
    obtain ⟨a1, a2, a3⟩ := hT.2 k hk
    refine ⟨a1, a2, fun hs => ?_⟩
    obtain ⟨d0, d1, d2, d3, d4⟩ := a3 hs
    rw [fI, fI, fI, fI, tD_app3, tN_app3]
    by_cases e : k = n
    · subst e
      rw [ho, if_neg (by omega), if_neg (by omega), if_neg (by omega), if_neg (by omega), if_neg (by omega), if_pos ⟨rfl, rfl⟩, if_pos rfl, if_pos ⟨rfl, rfl⟩, if_pos rfl]
      exact ⟨b0, b1, rfl, rfl, fun hf i hi => (g3 o i).trans (b4 hf i hi)⟩
    · have hne := hij k hk hs e
      simp only [hne, false_and, if_false, e]
      exact ⟨d0, d1, d2, d3, fun hf i hi => (g3 _ i).trans (d4 hf i hi)⟩
  · have f7 : rcW (sI (sI u 1 o 2 a) 1 o 3 b) (mN m - mU m) = (2, o, tD (mT m) n, tN (mT m) n) := f7
    rw [f7]
    refine ⟨Nat.pos_of_ne_zero hnz, by show o ≤ wC u 1; omega, ⟨n, hn, ?_⟩, Or.inr (Or.inr (Or.inl rfl))⟩
    show wI (sI (sI u 1 o 2 a) 1 o 3 b) 1 o 0 = nI n
    rw [fI, if_neg (by omega), if_neg (by omega)]
    exact b0
  · have f7 : rcW (sI (sI u 1 o 2 a) 1 o 3 b) (mN m - mU m) = (2, o, tD (mT m) n, tN (mT m) n) := f7
    rw [f7]
    unfold und
    rw [if_neg (by show ¬ (2 : Int32) = 0; decide), if_neg (by show ¬ (2 : Int32) = 1; decide), if_pos rfl]
    refine ⟨fun k hk => g2 k, g4, fun o' o1 o2 j hj => ?_, fun o' o1 o2 i hi => g3 o' i⟩
    show (if o' = o ∧ j = 2 then tD (mT m) n else if o' = o ∧ j = 3 then tN (mT m) n else wI (sI (sI u 1 o 2 a) 1 o 3 b) 1 o' j) = wI w 1 o' j
    rw [fI]
    by_cases e : o' = o
    · subst e
      by_cases j2 : j = 2
      · subst j2; rw [if_pos ⟨rfl, rfl⟩]; exact b2.symm
      · by_cases j3 : j = 3
        · subst j3; rw [if_neg (by omega), if_pos ⟨rfl, rfl⟩]; exact b3.symm
        · rw [if_neg (fun z => j2 z.2), if_neg (fun z => j3 z.2), if_neg (fun z => j3 z.2), if_neg (fun z => j2 z.2)]
    · rw [if_neg (fun z => e z.1), if_neg (fun z => e z.1), if_neg (fun z => e z.1), if_neg (fun z => e z.1)]
theorem cr_written (hR : CR w m) (hB : WB m) {n i : Nat} (hn : n ≤ 24) (hi : i ≤ 31) (ht : tT (mT m) n = true) (hf : tF (mT m) n = false) (v : Int32) :
    CR (sI (ntW w (mN m - mU m) (mU m) (wR w 100 1 n) 3 (nI i) (tC (mT m) n i)) 103 (wR w 100 1 n) i v) (noteM m (4, n, nI i, v, 0)) := by
  have hT := hR.ct hB
  have hle := hR.N hB hn
  have hnz : wR w 100 1 n ≠ 0 := hT.nz hn ht
  have hij := fun k hk hs h => hR.inj hB hn (k := k) hk ht hs h
  obtain ⟨f1, f1', f2, f3, f4, f5, f6, f7, f8⟩ := nt_facts (w := w) (m := m) (o := wR w 100 1 n) (k := 3) (a := nI i) (b := tC (mT m) n i) hR.2.2.1.2.1 hR.2.2.1.2.2.1 hB.un rfl
  have hy := hR.cx.nt (mN m - mU m) (mU m) (wR w 100 1 n) 3 (nI i) (tC (mT m) n i)
  have g2 : ∀ k, wR (ntW w (mN m - mU m) (mU m) (wR w 100 1 n) 3 (nI i) (tC (mT m) n i)) 100 1 k = wR w 100 1 k := fun k => congrFun (congrArg (fun q : CT => q.1) f8) k
  have g4 : wI (ntW w (mN m - mU m) (mU m) (wR w 100 1 n) 3 (nI i) (tC (mT m) n i)) 0 1 1 = wI w 0 1 1 := congrArg (fun q : CT => q.2.1) f8
  have g1 : ∀ o j, wI (ntW w (mN m - mU m) (mU m) (wR w 100 1 n) 3 (nI i) (tC (mT m) n i)) 1 o j = wI w 1 o j := fun o j => congrFun (congrFun (congrArg (fun q : CT => q.2.2.1) f8) o) j
  have g3 : ∀ o j, wI (ntW w (mN m - mU m) (mU m) (wR w 100 1 n) 3 (nI i) (tC (mT m) n i)) 103 o j = wI w 103 o j := fun o j => congrFun (congrFun (congrArg (fun q : CT => q.2.2.2) f8) o) j
  have c3 := hR.2.2.1
  generalize ntW w (mN m - mU m) (mU m) (wR w 100 1 n) 3 (nI i) (tC (mT m) n i) = u at *
  obtain ⟨b0, b1, b2, b3, b4⟩ := (hT.2 n hn).2.2 ht
  have hij : ∀ k, k ≤ 24 → tT (mT m) k = true → k ≠ n → wR w 100 1 k ≠ wR w 100 1 n := hij
  have b0 : wI w 1 (wR w 100 1 n) 0 = nI n := b0
  have b1 : wI w 1 (wR w 100 1 n) 1 = bI (tF (mT m) n) := b1
  have b4 : ∀ i, i < 32 → wI w 103 (wR w 100 1 n) i = tC (mT m) n i := b4 hf
  generalize ho : wR w 100 1 n = o at *
  have fI : ∀ o' j, wI (sI u 103 o i v) 103 o' j = if o' = o ∧ j = i then v else wI w 103 o' j := fun o' j => by
    rw [wI_sI, g3]
    simp
  refine CY.cr (cy_note (cy_cell hy (by omega)) (fun _ => rfl)) ?_
  refine LGC.add c3 hB.un f1 f1' (Nat.le_of_eq f2.symm) f3 f4 f5 (Nat.le_of_eq f6.symm) ?_ ?_ ?_
  · refine ⟨g4.trans hT.1, fun k hk => ?_⟩
    show wR u 100 1 k ≤ wC u 1 ∧ (wR u 100 1 k ≠ 0 ↔ tT (mT m) k = true) ∧ (tT (mT m) k = true → wI u 1 (wR u 100 1 k) 0 = nI k ∧ wI u 1 (wR u 100 1 k) 1 = bI (tF (mT m) k) ∧ wI u 1 (wR u 100 1 k) 2 = tD (mT m) k ∧ wI u 1 (wR u 100 1 k) 3 = tN (mT m) k ∧ (tF (mT m) k = false → ∀ i', i' < 32 → wI (sI u 103 o i v) 103 (wR u 100 1 k) i' = tC (app (4, n, nI i, v, 0) (mT m)) k i'))
    rw [g2, f6, g1, g1, g1, g1]
    obtain ⟨a1, a2, a3⟩ := hT.2 k hk
    refine ⟨a1, a2, fun hs => ?_⟩
    obtain ⟨d0, d1, d2, d3, d4⟩ := a3 hs
    refine ⟨d0, d1, d2, d3, fun hf i' hi' => ?_⟩
    rw [fI, tC_app4, nI_clamp (by omega)]
    by_cases e : k = n
    · subst e
      rw [ho]
      simp only [true_and]
      by_cases q : i' = i
      · rw [if_pos q, if_pos q]
      · rw [if_neg q, if_neg q]; exact b4 i' hi'
    · have hne := hij k hk hs e
      rw [if_neg (fun z => hne z.1), if_neg (fun z => e z.1)]
      exact d4 hf i' hi'
  · have f7 : rcW (sI u 103 o i v) (mN m - mU m) = (3, o, nI i, tC (mT m) n i) := f7
    rw [f7]
    refine ⟨Nat.pos_of_ne_zero hnz, by show o ≤ wC u 1; omega, ⟨n, hn, (g1 o 0).trans b0⟩, Or.inr (Or.inr (Or.inr ⟨rfl, (g1 o 1).trans (by rw [b1, hf]; rfl), i, by omega, rfl⟩))⟩
  · have f7 : rcW (sI u 103 o i v) (mN m - mU m) = (3, o, nI i, tC (mT m) n i) := f7
    rw [f7]
    unfold und
    rw [if_neg (by show ¬ (3 : Int32) = 0; decide), if_neg (by show ¬ (3 : Int32) = 1; decide), if_neg (by show ¬ (3 : Int32) = 2; decide)]
    refine ⟨fun k hk => g2 k, g4, fun o' o1 o2 j hj => g1 o' j, fun o' o1 o2 i' hi' => ?_⟩
    show (if o' = o ∧ i' = (nI i).toNatClampNeg then tC (mT m) n i else wI (sI u 103 o i v) 103 o' i') = wI w 103 o' i'
    rw [fI, nI_clamp (by omega)]
    by_cases e : o' = o ∧ i' = i
    · obtain ⟨rfl, rfl⟩ := e
      rw [if_pos ⟨rfl, rfl⟩]
      exact (b4 i' hi').symm
    · rw [if_neg e, if_neg e]
set_option maxHeartbeats 1000000 in
theorem SS_move_ok (hR : CR w m) (hB : WB m) (hI : MI m) (hd : 3 ≤ d) (v a b : Int32) : E_SS_move d [.inr (0, 1), .inl v, .inl a, .inl b] w (fun r w' => r = some (.inl (movM m v a b).1) ∧ CR w' (movM m v a b).2 ∧ FC 1 w w') := by
  refine S_SS_move ?_
  have hh := SS_openHandle_ok (d := 0) hR hB hI v
  by_cases hx : hOf m v = 0
  · have e : movM m v a b = (-1, m) := if_pos (Or.inl hx)
    rw [hx, nk_z] at hh
    rw [e]
    refine XE.aload_n d_SS_move_0 rfl ?_
    refine XE.iload_n d_SS_move_1 rfl ?_
    refine k_SS_66 0 d_SS_move_2 (by omega) (Nat.le_of_ble_eq_true rfl) (by first | assumption | decide | omega) hh (fun r1 w1 hm1 hq1 => ?_)
    rw [hq1.1, hq1.2]
    clear hq1 hm1 r1 w1
    refine XE.astore d_SS_move_5 (by decide) ?_
    refine XE.aload d_SS_move_7 rfl ?_
    refine XE.ifnull 40 d_SS_move_9 (by decide) (fun h9 => ?_) (fun h9 => absurd h9 ((fun z => z rfl)))
    refine XE.iconst (x := (-1)) d_SS_move_40 (by decide) ?_
    exact XE.ri d_SS_move_41 ⟨rfl, hR, FC.rf1⟩
  · have hX := hR.hx hB hx
    rw [nk_nz hx] at hh
    have eg : movM m v a b = if hOf m v = 0 ∨ ¬ (nI 0 ≤ a ∧ a ≤ nI 24) ∨ ¬ (nI 0 ≤ b ∧ b ≤ nI 15) then (-1, m)
      else if hA (mh m (hOf m v)) &&& nI 4 = 0 ∨ hN (mh m (hOf m v)) = 0 then (-1, m)
      else if ¬ (tT (mT m) a.toNatClampNeg = true ∧ tF (mT m) a.toNatClampNeg = true) then (-3, m)
      else if mM m a.toNatClampNeg = true then (-7, m)
      else if inA (mT m) (hN (mh m (hOf m v))) 25 a = true then (-1, m)
      else if (atP (mT m) a b).isSome = true then (-4, m)
      else (0, noteM m (3, hN (mh m (hOf m v)), a, b, 0)) := rfl
    generalize hq : hOf m v = x at *
    obtain ⟨x0, x1, x2, x3, x4, x5, x6, x7, x7b, x8, x9, h1, h2, h3, h4, h5, h6⟩ := hX
    have n1 := hI.2.2.2.2.1 x x1 x2
    have hpl := SS_isPlace_ok (w := w) (d := 2) (by omega) a b
    have hT := hR.ct hB
    obtain ⟨s0, s2, s5, s7, g0, l0, l1, l2, l5⟩ := hR.1
    have bad : ∀ {pc : Nat} {ls : List (Option VV)} {y : Int32}, decode c_SS_move pc = .ok (.ireturn, 1) → movM m v a b = (y, m) → X_SS_move d pc ls [.inl y] w (fun r w' => r = some (.inl (movM m v a b).1) ∧ CR w' (movM m v a b).2 ∧ FC 1 w w') := by
      intro pc ls y hdc e
      exact XE.ri hdc ⟨by rw [e], by rw [e]; exact hR, FC.rf1⟩
    have good : (nI 0 ≤ a ∧ a ≤ nI 24) → (nI 0 ≤ b ∧ b ≤ nI 15) → hasM (hA (mh m x)) 4 = true → X_SS_move d 42 [some (.inr (0, 1)), some (.inl v), some (.inl a), some (.inl b), some (.inr (2, x))] [] w (fun r w' => r = some (.inl (movM m v a b).1) ∧ CR w' (movM m v a b).2 ∧ FC 1 w w') := by
      intro g1 g2 g3
      rw [if_neg (fun z => z.elim x0 (fun y => y.elim (fun q => q g1) (fun q => q g2))), if_neg (fun z => z.elim (fun y => by rw [has0.mpr y] at g3; exact absurd g3 (by decide)) (fun y => by omega))] at eg
      obtain ⟨y, hy, rfl⟩ := rng0 (by decide) g1
      rw [nI_clamp (by omega)] at eg
      have hft := SS_isFolderThere_ok (d := 2) hR.1 hT (by omega) (nI y)
      rw [fth_nI hy] at hft
      by_cases hf : tT (mT m) y = true ∧ tF (mT m) y = true
      · rw [hf.1, hf.2] at hft
        rw [if_neg (fun z => z hf)] at eg
        have y0 : wR w 100 1 y ≠ 0 := hT.nz hy hf.1
        have hdm : wI w 1 (wR w 100 1 y) 4 = bI (mM m y) := hR.2.2.2.1 _ hy hf.1
        have hix : IXN (nI y) (wL w 100 1) y := IXN.nI (by omega) (by omega)
        have hin := SS_inside_ok (d := 2) hR.1 hT hI.ti n1 x4 (nI y) (hI.ti.ei hy hf.1) (by omega) (fun z hz e => by rw [← (eq_nI (by omega) (by omega)).mp e]; exact hf.2)
        have hna := SS_nodeAt_ok (d := 2) hR.1 hT hI.ti (nI y) b (nI_pos (by omega))
        have k1 := hR.2.2.1.1
        have k2 := hR.2.2.1.2.1
        have hun := hB.un
        obtain ⟨b0, b1, b2, b3, b4⟩ := (hT.2 _ x4).2.2 x5
        have b2 : wI w 1 (wR w 100 1 (hN (mh m x))) 2 = tD (mT m) (hN (mh m x)) := b2
        have b3 : wI w 1 (wR w 100 1 (hN (mh m x))) 3 = tN (mT m) (hN (mh m x)) := b3
        have hcg := Cg_init_ok (w := nO w 5 4) (d := 2) (o := wC w 5 + 1) (nd := wR w 100 1 (hN (mh m x))) (by omega) (by omega) (nI 2) (tD (mT m) (hN (mh m x))) (tN (mT m) (hN (mh m x)))
        have hla := Lg_add_ok (w := cgW (nO w 5 4) (wC w 5 + 1) (wR w 100 1 (hN (mh m x))) 2 (tD (mT m) (hN (mh m x))) (tN (mT m) (hN (mh m x)))) (d := 2) (j := mN m - mU m) (u := mU m) (c := wC w 5 + 1) g0 l5 k1 k2 (by omega) (by omega)
        have hcr := cr_moved hR hB x4 x5 (nI y) b
        have hun2 : wR (ntW w (mN m - mU m) (mU m) (wR w 100 1 (hN (mh m x))) 2 (tD (mT m) (hN (mh m x))) (tN (mT m) (hN (mh m x)))) 2 x 1 = wR w 100 1 (hN (mh m x)) := by unfold ntW lgW; split <;> exact x6
        have hend : ¬ mM m y = true → ¬ inA (mT m) (hN (mh m x)) 25 (nI y) = true → ¬ (atP (mT m) (nI y) b).isSome = true → X_SS_move d 98 [some (.inr (0, 1)), some (.inl v), some (.inl (nI y)), some (.inl b), some (.inr (2, x))] [] w (fun r w' => r = some (.inl (movM m v (nI y) b).1) ∧ CR w' (movM m v (nI y) b).2 ∧ FC 1 w w') := by
          intro q1 q2 q3
          rw [if_neg q1, if_neg q2, if_neg q3] at eg
          rw [eg]
          refine XE.aload_n d_SS_move_98 rfl ?_
          refine g_SS_33 d_SS_move_99 (by first | assumption | decide | omega) (by first | assumption | rfl) ?_
          refine n_SS_121 d_SS_move_102 ?_
          refine XE.dup d_SS_move_105 ?_
          refine XE.iconst (x := nI 2) d_SS_move_106 (by decide) ?_
          refine XE.aload d_SS_move_107 rfl ?_
          refine g_SS_76 (x := wR w 100 1 (hN (mh m x))) d_SS_move_109 (by first | assumption | decide | omega) (by first | assumption | rfl) ?_
          refine XE.aload d_SS_move_112 rfl ?_
          refine g_SS_76 (x := wR w 100 1 (hN (mh m x))) d_SS_move_114 (by first | assumption | decide | omega) (by first | assumption | rfl) ?_
          refine g_SS_123 (x := tD (mT m) (hN (mh m x))) d_SS_move_117 (by first | assumption | decide | omega) (by first | assumption | rfl) ?_
          refine XE.aload d_SS_move_120 rfl ?_
          refine g_SS_76 (x := wR w 100 1 (hN (mh m x))) d_SS_move_122 (by first | assumption | decide | omega) (by first | assumption | rfl) ?_
          refine g_SS_126 (x := tN (mT m) (hN (mh m x))) d_SS_move_125 (by first | assumption | decide | omega) (by first | assumption | rfl) ?_
          refine k_SS_129 2 d_SS_move_128 (by omega) (Nat.le_of_ble_eq_true rfl) (by first | assumption | decide | omega) hcg (fun y1 w2 hm1 hq1 => ?_)
          obtain ⟨rfl, rfl⟩ := hq1
          refine k_SS_132 2 d_SS_move_131 (by omega) (Nat.le_of_ble_eq_true rfl) (by first | assumption | decide | omega) hla (fun y1 w2 hm1 hq1 => ?_)
          obtain ⟨rfl, rfl⟩ := hq1
          refine XE.aload d_SS_move_134 rfl ?_
          refine g_SS_76 (x := wR w 100 1 (hN (mh m x))) d_SS_move_136 (by first | assumption | decide | omega) (by first | assumption | rfl) ?_
          refine XE.iload_n d_SS_move_139 rfl ?_
          refine p_SS_123 d_SS_move_140 (by first | assumption | decide | omega) ?_
          refine XE.aload d_SS_move_143 rfl ?_
          refine g_SS_76 (x := wR w 100 1 (hN (mh m x))) d_SS_move_145 (by first | assumption | decide | omega) (by first | assumption | rfl) ?_
          refine XE.iload_n d_SS_move_148 rfl ?_
          refine p_SS_126 d_SS_move_149 (by first | assumption | decide | omega) ?_
          refine XE.iconst (x := nI 0) d_SS_move_152 (by decide) ?_
          exact XE.ri d_SS_move_153 ⟨rfl, hcr, ((fc_nt _ _ _ _ _ _).tr (FC.sI (by decide))).tr (FC.sI (by decide))⟩
        cases hat : atP (mT m) (nI y) b with
        | none =>
          rw [hat] at hna hend eg
          refine XE.aload_n d_SS_move_42 rfl ?_
          refine XE.iload_n d_SS_move_43 rfl ?_
          refine k_SS_111 2 d_SS_move_44 (by omega) (Nat.le_of_ble_eq_true rfl) (by first | assumption | decide | omega) hft (fun r1 w1 hm1 hq1 => ?_)
          rw [hq1.1, hq1.2]
          clear hq1 hm1 r1 w1
          refine XE.if_ne 53 d_SS_move_47 (by decide) (fun h47 => ?_) (fun h47 => absurd h47 ((by decide)))
          refine XE.aload_n d_SS_move_53 rfl ?_
          refine g_SS_11 d_SS_move_54 (by first | assumption | decide | omega) (by first | assumption | rfl) ?_
          refine XE.iload_n d_SS_move_57 rfl ?_
          refine XE.aald d_SS_move_58 (by decide) rfl (by first | assumption | decide | omega) (by first | assumption | exact ixn2 (by assumption) (by omega) (by omega)) (by first | assumption | rfl) ?_
          refine g_SS_104 d_SS_move_59 (by first | assumption | decide | omega) (by first | assumption | rfl) ?_
          refine XE.if_eq 68 d_SS_move_62 (by decide) (fun h62 => ?_) (fun h62 => ?_)
          · have q1 : ¬ mM m y = true := (by rw [(bI_eq0 _).mp h62]; decide)
            rw [if_neg q1] at eg
            refine XE.aload_n d_SS_move_68 rfl ?_
            refine XE.iload_n d_SS_move_69 rfl ?_
            refine XE.aload d_SS_move_70 rfl ?_
            refine g_SS_76 d_SS_move_72 (by first | assumption | decide | omega) (by first | assumption | rfl) ?_
            refine g_SS_108 d_SS_move_75 (by first | assumption | decide | omega) (by first | assumption | rfl) ?_
            refine k_SS_114 2 d_SS_move_78 (by omega) (Nat.le_of_ble_eq_true rfl) (by first | assumption | decide | omega) hin (fun r1 w1 hm1 hq1 => ?_)
            rw [hq1.1, hq1.2]
            clear hq1 hm1 r1 w1
            refine XE.if_eq 86 d_SS_move_81 (by decide) (fun h81 => ?_) (fun h81 => ?_)
            · have q2 : ¬ inA (mT m) (hN (mh m x)) 25 (nI y) = true := (by rw [(bI_eq0 _).mp h81]; decide)
              rw [if_neg q2] at eg
              refine XE.aload_n d_SS_move_86 rfl ?_
              refine XE.iload_n d_SS_move_87 rfl ?_
              refine XE.iload_n d_SS_move_88 rfl ?_
              refine k_SS_117 2 d_SS_move_89 (by omega) (Nat.le_of_ble_eq_true rfl) (by first | assumption | decide | omega) hna (fun r1 w1 hm1 hq1 => ?_)
              rw [hq1.1, hq1.2]
              clear hq1 hm1 r1 w1
              refine XE.ifnull 98 d_SS_move_92 (by decide) (fun h92 => ?_) (fun h92 => absurd h92 ((fun z => z rfl)))
              exact hend q1 q2 (by decide)
            · rw [if_pos (te _ h81)] at eg
              refine XE.iconst (x := (-1)) d_SS_move_84 (by decide) ?_
              exact bad d_SS_move_85 eg
          · rw [if_pos (te _ h62)] at eg
            refine XE.bipush (x := (-7)) d_SS_move_65 (by decide) ?_
            exact bad d_SS_move_67 eg
        | some z =>
          obtain ⟨z1, z2, z3, -⟩ := atP_some hat
          have g24 := hB.g24
          have z0 : wR w 100 1 z ≠ 0 := hT.nz (by omega) z3
          rw [hat, show atO (ctW w) (some z) = wR w 100 1 z from rfl, nk_nz z0] at hna
          rw [hat] at eg
          refine XE.aload_n d_SS_move_42 rfl ?_
          refine XE.iload_n d_SS_move_43 rfl ?_
          refine k_SS_111 2 d_SS_move_44 (by omega) (Nat.le_of_ble_eq_true rfl) (by first | assumption | decide | omega) hft (fun r1 w1 hm1 hq1 => ?_)
          rw [hq1.1, hq1.2]
          clear hq1 hm1 r1 w1
          refine XE.if_ne 53 d_SS_move_47 (by decide) (fun h47 => ?_) (fun h47 => absurd h47 ((by decide)))
          refine XE.aload_n d_SS_move_53 rfl ?_
          refine g_SS_11 d_SS_move_54 (by first | assumption | decide | omega) (by first | assumption | rfl) ?_
          refine XE.iload_n d_SS_move_57 rfl ?_
          refine XE.aald d_SS_move_58 (by decide) rfl (by first | assumption | decide | omega) (by first | assumption | exact ixn2 (by assumption) (by omega) (by omega)) (by first | assumption | rfl) ?_
          refine g_SS_104 d_SS_move_59 (by first | assumption | decide | omega) (by first | assumption | rfl) ?_
          refine XE.if_eq 68 d_SS_move_62 (by decide) (fun h62 => ?_) (fun h62 => ?_)
          · have q1 : ¬ mM m y = true := (by rw [(bI_eq0 _).mp h62]; decide)
            rw [if_neg q1] at eg
            refine XE.aload_n d_SS_move_68 rfl ?_
            refine XE.iload_n d_SS_move_69 rfl ?_
            refine XE.aload d_SS_move_70 rfl ?_
            refine g_SS_76 d_SS_move_72 (by first | assumption | decide | omega) (by first | assumption | rfl) ?_
            refine g_SS_108 d_SS_move_75 (by first | assumption | decide | omega) (by first | assumption | rfl) ?_
            refine k_SS_114 2 d_SS_move_78 (by omega) (Nat.le_of_ble_eq_true rfl) (by first | assumption | decide | omega) hin (fun r1 w1 hm1 hq1 => ?_)
            rw [hq1.1, hq1.2]
            clear hq1 hm1 r1 w1
            refine XE.if_eq 86 d_SS_move_81 (by decide) (fun h81 => ?_) (fun h81 => ?_)
            · have q2 : ¬ inA (mT m) (hN (mh m x)) 25 (nI y) = true := (by rw [(bI_eq0 _).mp h81]; decide)
              rw [if_neg q2, if_pos (by rfl)] at eg
              refine XE.aload_n d_SS_move_86 rfl ?_
              refine XE.iload_n d_SS_move_87 rfl ?_
              refine XE.iload_n d_SS_move_88 rfl ?_
              refine k_SS_117 2 d_SS_move_89 (by omega) (Nat.le_of_ble_eq_true rfl) (by first | assumption | decide | omega) hna (fun r1 w1 hm1 hq1 => ?_)
              rw [hq1.1, hq1.2]
              clear hq1 hm1 r1 w1
              refine XE.ifnull 98 d_SS_move_92 (by decide) (fun h92 => absurd h92 (z0)) (fun h92 => ?_)
              refine XE.bipush (x := (-4)) d_SS_move_95 (by decide) ?_
              exact bad d_SS_move_97 eg
            · rw [if_pos (te _ h81)] at eg
              refine XE.iconst (x := (-1)) d_SS_move_84 (by decide) ?_
              exact bad d_SS_move_85 eg
          · rw [if_pos (te _ h62)] at eg
            refine XE.bipush (x := (-7)) d_SS_move_65 (by decide) ?_
            exact bad d_SS_move_67 eg
      · rw [if_pos hf] at eg
        have e2 : (tT (mT m) y && tF (mT m) y) = false := by
          cases h : (tT (mT m) y && tF (mT m) y) with
          | false => rfl
          | true => rw [Bool.and_eq_true] at h; exact absurd h hf
        rw [e2] at hft
        refine XE.aload_n d_SS_move_42 rfl ?_
        refine XE.iload_n d_SS_move_43 rfl ?_
        refine k_SS_111 2 d_SS_move_44 (by omega) (Nat.le_of_ble_eq_true rfl) (by first | assumption | decide | omega) hft (fun r1 w1 hm1 hq1 => ?_)
        rw [hq1.1, hq1.2]
        clear hq1 hm1 r1 w1
        refine XE.if_ne 53 d_SS_move_47 (by decide) (fun h47 => absurd h47 ((fun z => z rfl))) (fun h47 => ?_)
        refine XE.bipush (x := (-3)) d_SS_move_50 (by decide) ?_
        exact bad d_SS_move_52 eg
    refine XE.aload_n d_SS_move_0 rfl ?_
    refine XE.iload_n d_SS_move_1 rfl ?_
    refine k_SS_66 0 d_SS_move_2 (by omega) (Nat.le_of_ble_eq_true rfl) (by first | assumption | decide | omega) hh (fun r1 w1 hm1 hq1 => ?_)
    rw [hq1.1, hq1.2]
    clear hq1 hm1 r1 w1
    refine XE.astore d_SS_move_5 (by decide) ?_
    refine XE.aload d_SS_move_7 rfl ?_
    refine XE.ifnull 40 d_SS_move_9 (by decide) (fun h9 => absurd h9 (x0)) (fun h9 => ?_)
    refine XE.iload_n d_SS_move_12 rfl ?_
    refine XE.iload_n d_SS_move_13 rfl ?_
    refine k_SS_41 2 d_SS_move_14 (by omega) (Nat.le_of_ble_eq_true rfl) hpl (fun r1 w1 hm1 hq1 => ?_)
    rw [hq1.1, hq1.2]
    clear hq1 hm1 r1 w1
    refine XE.if_eq 40 d_SS_move_17 (by decide) (fun h17 => ?_) (fun h17 => ?_)
    · have bd : movM m v a b = (-1, m) := by ( rw [eg, if_pos (Or.inr (Classical.byContradiction (fun n => by (have z := (bI_eq0 _).mp h17; have n1 : nI 0 ≤ a ∧ a ≤ nI 24 := Classical.not_not.mp (fun q => n (Or.inl q)); have n2 : nI 0 ≤ b ∧ b ≤ nI 15 := Classical.not_not.mp (fun q => n (Or.inr q)); simp [n1, n2] at z))))] )
      refine XE.iconst (x := (-1)) d_SS_move_40 (by decide) ?_
      exact bad d_SS_move_41 bd
    · have g13 := te _ h17
      rw [Bool.and_eq_true] at g13
      have g1 := dec2 g13.1
      have g2 := dec2 g13.2
      have ng : ¬ (x = 0 ∨ ¬ (nI 0 ≤ a ∧ a ≤ nI 24) ∨ ¬ (nI 0 ≤ b ∧ b ≤ nI 15)) := fun z => z.elim x0 (fun y => y.elim (fun q => q g1) (fun q => q g2))
      refine XE.aload d_SS_move_20 rfl ?_
      refine XE.iconst (x := nI 4) d_SS_move_22 (by decide) ?_
      refine k_SS_97 0 d_SS_move_23 (by omega) (Nat.le_of_ble_eq_true rfl) (by first | assumption | decide | omega) (Hd_may_ok x0 h3 4) (fun r1 w1 hm1 hq1 => ?_)
      rw [hq1.1, hq1.2]
      clear hq1 hm1 r1 w1
      refine XE.if_eq 40 d_SS_move_26 (by decide) (fun h26 => ?_) (fun h26 => ?_)
      · have bd : movM m v a b = (-1, m) := by rw [eg, if_neg ng, if_pos (Or.inl (has0.mp ((bI_eq0 _).mp h26)))]
        refine XE.iconst (x := (-1)) d_SS_move_40 (by decide) ?_
        exact bad d_SS_move_41 bd
      · have g3 := te _ h26
        refine XE.aload d_SS_move_29 rfl ?_
        refine g_SS_76 d_SS_move_31 (by first | assumption | decide | omega) (by first | assumption | rfl) ?_
        refine g_SS_108 d_SS_move_34 (by first | assumption | decide | omega) (by first | assumption | rfl) ?_
        refine XE.if_ne 42 d_SS_move_37 (by decide) (fun h37 => ?_) (fun h37 => absurd h37 ((fun z => by have := (eq_nI (a := hN (mh m x)) (b := 0) (by omega) (by omega)).mp z; omega)))
        exact good g1 g2 g3
theorem mi_mov (hB : WB m) (hI : MI m) (v a b : Int32) : MI (movM m v a b).2 := by
  unfold movM
  split
  · exact hI
  · rename_i q1
    split
    · exact hI
    · split
      · exact hI
      · rename_i q3
        split
        · exact hI
        · split
          · exact hI
          · rename_i q5
            split
            · exact hI
            · obtain ⟨-, a2, a3, a4⟩ := hOf_nz hB (fun z => q1 (Or.inl z))
              have g1 : nI 0 ≤ a ∧ a ≤ nI 24 := Classical.not_not.mp (fun z => q1 (Or.inr (Or.inl z)))
              obtain ⟨y, hy, rfl⟩ := rng0 (by decide) g1
              rw [nI_clamp (by omega)] at q3
              have q3 := Classical.not_not.mp q3
              have n24 := hB.n24 a2 a3
              have hot := hB.op a2 a3 a4
              exact hI.note (hI.ti.moved (hI.2.2.2.2.1 _ a2 a3) n24 hot hy q3.1 q3.2 (by cases z : inA (mT m) (hN (mh m (hOf m v))) 25 (nI y) with | false => rfl | true => exact absurd z q5)) ⟨n24, Or.inr (Or.inr (Or.inl ⟨rfl, hot⟩))⟩ (fun k hk => (hI.2.2.1 k hk).2.1) (fun n hn hg => hI.2.2.2.2.2.1 n hn hg)
end MVW
