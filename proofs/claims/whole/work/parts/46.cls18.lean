/-! THE CLASS: crash -/
/-- what undoing leaves alone -/
def FU (w w' : WW) : Prop := w'.1 = w.1 ∧ w'.2.2.2 = w.2.2.2 ∧ (∀ k o j, ¬ (k = 0 ∧ o = 1 ∧ j = 1) → ¬ (k = 1 ∧ o ≤ wC w 1 ∧ (j = 2 ∨ j = 3)) → ¬ (k = 103 ∧ o ≤ wC w 1) → wI w' k o j = wI w k o j) ∧ (∀ k o j, k ≠ 100 → wR w' k o j = wR w k o j)
theorem FU.C {w w' : WW} (h : FU w w') (k : Nat) : wC w' k = wC w k := by unfold wC; rw [h.1]
theorem FU.L {w w' : WW} (h : FU w w') (k o : Nat) : wL w' k o = wL w k o := by unfold wL; rw [h.2.1]
theorem FU.rf {w : WW} : FU w w := ⟨rfl, rfl, fun _ _ _ _ _ _ => rfl, fun _ _ _ _ => rfl⟩
theorem FU.tr {w w1 w2 : WW} (a : FU w w1) (b : FU w1 w2) : FU w w2 := by
  have e := a.C 1
  refine ⟨b.1.trans a.1, b.2.1.trans a.2.1, fun k o j h1 h2 h3 => ?_, fun k o j h => (b.2.2.2 k o j h).trans (a.2.2.2 k o j h)⟩
  have := b.2.2.1 k o j h1
  rw [e] at this
  exact (this h2 h3).trans (a.2.2.1 k o j h1 h2 h3)
theorem FU.st {w w' : WW} (h : FU w w') (hS : SSt w) : SSt w' := by
  obtain ⟨s0, s2, s5, s7, g0, l0, l1, l2, l5⟩ := hS
  unfold SSt
  rw [h.2.2.2 _ _ _ (by decide), h.2.2.2 _ _ _ (by decide), h.2.2.2 _ _ _ (by decide), h.2.2.2 _ _ _ (by decide), h.2.2.2 _ _ _ (by decide), h.L, h.L, h.L, h.L]
  exact ⟨s0, s2, s5, s7, g0, l0, l1, l2, l5⟩
theorem FU.nst {w w' : WW} (h : FU w w') (hN : NST w) : NST w' := by
  obtain ⟨n1, n2, n3, n4⟩ := hN
  unfold NST
  rw [h.C, h.C, h.C]
  refine ⟨n1, n2, fun o o1 o2 => ?_, fun o j ho => ?_⟩
  · rw [h.2.2.2 _ _ _ (by decide), h.2.2.2 _ _ _ (by decide), h.2.2.1 _ _ _ (by omega) (by omega) (by omega), h.L, h.L]
    exact n3 o o1 o2
  · rw [h.2.2.1 _ _ _ (by omega) (by omega) (by omega), h.2.2.1 _ _ _ (by omega) (by omega) (by omega)]
    exact n4 o j ho
theorem FU.rc {w w' : WW} (h : FU w w') (i : Nat) : rcW w' i = rcW w i := by
  unfold rcW
  rw [h.2.2.2 105 _ _ (by decide), h.2.2.2 5 _ _ (by decide), h.2.2.1 5 _ _ (by omega) (by omega) (by omega), h.2.2.1 5 _ _ (by omega) (by omega) (by omega), h.2.2.1 5 _ _ (by omega) (by omega) (by omega)]
theorem pmk {α β : Type} {a a' : α} {b b' : β} (h : a = a') (k : b = b') : (a, b) = (a', b') := by rw [h, k]
theorem dec_nI (x : Int32) : x + Int32.ofInt (-1) = x - nI 1 := by
  rw [Int32.sub_eq_add_neg]
  rfl
section CRA
variable {w : WW} {m : MS} {c d : Nat}
theorem SS_undo_ok {κ : Nat} (hS : SSt w) (hN : NST w) (hκ : κ ≠ 0) {r : RC} (e0 : wI w 5 κ 0 = r.1) (e1 : wR w 5 κ 1 = r.2.1) (e2 : wI w 5 κ 2 = r.2.2.1) (e3 : wI w 5 κ 3 = r.2.2.2) (ok : rcOk (wC w 1) r (ctW w)) :
    E_SS_undo d [.inr (0, 1), .inr (5, κ)] w (fun q w' => q = none ∧ ctW w' = und r (ctW w) ∧ FU w w') := by
  refine S_SS_undo ?_
  obtain ⟨r0, o, a, b⟩ := r
  obtain ⟨o1, o2, ⟨n, hn, hnum⟩, kd⟩ := ok
  have o1 : 1 ≤ o := o1
  have o2 : o ≤ wC w 1 := o2
  have e0 : wI w 5 κ 0 = r0 := e0
  have e1 : wR w 5 κ 1 = o := e1
  have e2 : wI w 5 κ 2 = a := e2
  have e3 : wI w 5 κ 3 = b := e3
  have hnum : wI w 1 o 0 = nI n := hnum
  have ho : o ≠ 0 := by omega
  obtain ⟨s0, s2, s5, s7, g0, l0, l1, l2, l5⟩ := hS
  have hix : IXN (nI n) (wL w 100 1) n := IXN.nI (by omega) (by omega)
  have num : (wI w 1 o 0).toNatClampNeg = n := by rw [hnum]; exact nI_clamp (by omega)
  rcases kd with z | z | z | ⟨z, zf, i, hi, za⟩
  · have z : r0 = nI 0 := z
    subst z
    have fin : ctW (sI (sR w 100 1 n 0) 0 1 1 (wI w 0 1 1 - nI 1)) = und (nI 0, o, a, b) (ctW w) ∧ FU w (sI (sR w 100 1 n 0) 0 1 1 (wI w 0 1 1 - nI 1)) := by
      refine ⟨?_, rfl, rfl, fun k o' j h1 h2 h3 => by rw [wI_sI, if_neg h1]; rfl, fun k o' j h => by rw [wR_sI, wR_sR, if_neg (fun q => h q.1)]⟩
      unfold und
      rw [if_pos (by rfl)]
      show ((fun k => wR (sR w 100 1 n 0) 100 1 k), wI w 0 1 1 - nI 1, _, _) = (uf (fun k => wR w 100 1 k) (wI w 1 o 0).toNatClampNeg 0, wI w 0 1 1 - 1, _, _)
      rw [num]
      refine pmk ?_ rfl
      funext k
      rw [wR_sR]
      unfold uf
      simp
    refine XE.aload_n d_SS_undo_0 rfl ?_
    refine g_SS_280 d_SS_undo_1 (by first | assumption | decide | omega) (by first | assumption | rfl) ?_
    refine XE.astore_n d_SS_undo_4 (by decide) ?_
    refine XE.aload_n d_SS_undo_5 rfl ?_
    refine g_SS_281 (x := nI 0) d_SS_undo_6 (by first | assumption | decide | omega) (by first | assumption | rfl) ?_
    refine XE.tableIn (off := 31) 40 d_SS_undo_9 (by decide) (by decide) (by decide) (by decide) ?_
    refine XE.aload_n d_SS_undo_40 rfl ?_
    refine g_SS_11 d_SS_undo_41 (by first | assumption | decide | omega) (by first | assumption | rfl) ?_
    refine XE.aload_n d_SS_undo_44 rfl ?_
    refine g_SS_108 d_SS_undo_45 (by first | assumption | decide | omega) (by first | assumption | rfl) ?_
    refine XE.null d_SS_undo_48 ?_
    refine XE.aast d_SS_undo_49 (by decide) rfl rfl (by first | exact Or.inl rfl | exact Or.inr rfl) (by first | assumption | decide | omega) (by first | assumption | exact ixn2 (by assumption) (by omega) (by omega)) ?_
    refine XE.aload_n d_SS_undo_50 rfl ?_
    refine XE.dup d_SS_undo_51 ?_
    refine g_SS_215 d_SS_undo_52 (by first | assumption | decide | omega) (by first | assumption | rfl) ?_
    refine XE.iconst (x := nI 1) d_SS_undo_55 (by decide) ?_
    refine XE.isub d_SS_undo_56 rfl ?_
    refine p_SS_215 d_SS_undo_57 (by first | assumption | decide | omega) ?_
    refine XE.goto 111 d_SS_undo_60 (by decide) ?_
    exact XE.rv d_SS_undo_111 ⟨rfl, fin⟩
  · have z : r0 = nI 1 := z
    subst z
    have fin : ctW (sR w 100 1 n o) = und (nI 1, o, a, b) (ctW w) ∧ FU w (sR w 100 1 n o) := by
      refine ⟨?_, rfl, rfl, fun k o' j h1 h2 h3 => rfl, fun k o' j h => by rw [wR_sR, if_neg (fun q => h q.1)]⟩
      unfold und
      rw [if_neg (by show ¬ nI 1 = 0; decide), if_pos (by rfl)]
      show ((fun k => wR (sR w 100 1 n o) 100 1 k), _) = (uf (fun k => wR w 100 1 k) (wI w 1 o 0).toNatClampNeg o, _)
      rw [num]
      refine pmk ?_ rfl
      funext k
      rw [wR_sR]
      unfold uf
      simp
    refine XE.aload_n d_SS_undo_0 rfl ?_
    refine g_SS_280 d_SS_undo_1 (by first | assumption | decide | omega) (by first | assumption | rfl) ?_
    refine XE.astore_n d_SS_undo_4 (by decide) ?_
    refine XE.aload_n d_SS_undo_5 rfl ?_
    refine g_SS_281 (x := nI 1) d_SS_undo_6 (by first | assumption | decide | omega) (by first | assumption | rfl) ?_
    refine XE.tableIn (off := 54) 63 d_SS_undo_9 (by decide) (by decide) (by decide) (by decide) ?_
    refine XE.aload_n d_SS_undo_63 rfl ?_
    refine g_SS_11 d_SS_undo_64 (by first | assumption | decide | omega) (by first | assumption | rfl) ?_
    refine XE.aload_n d_SS_undo_67 rfl ?_
    refine g_SS_108 d_SS_undo_68 (by first | assumption | decide | omega) (by first | assumption | rfl) ?_
    refine XE.aload_n d_SS_undo_71 rfl ?_
    refine XE.aast d_SS_undo_72 (by decide) rfl rfl (by first | exact Or.inl rfl | exact Or.inr rfl) (by first | assumption | decide | omega) (by first | assumption | exact ixn2 (by assumption) (by omega) (by omega)) ?_
    refine XE.goto 111 d_SS_undo_73 (by decide) ?_
    exact XE.rv d_SS_undo_111 ⟨rfl, fin⟩
  · have z : r0 = nI 2 := z
    subst z
    have fin : ctW (sI (sI w 1 o 2 a) 1 o 3 b) = und (nI 2, o, a, b) (ctW w) ∧ FU w (sI (sI w 1 o 2 a) 1 o 3 b) := by
      refine ⟨?_, rfl, rfl, fun k o' j h1 h2 h3 => by rw [wI_sI, if_neg (by omega), wI_sI, if_neg (by omega)], fun k o' j h => rfl⟩
      unfold und
      rw [if_neg (by show ¬ nI 2 = 0; decide), if_neg (by show ¬ nI 2 = 1; decide), if_pos (by rfl)]
      show (_, _, (fun o' j => wI (sI (sI w 1 o 2 a) 1 o 3 b) 1 o' j), _) = (_, _, (fun o' j => if o' = o ∧ j = 2 then a else if o' = o ∧ j = 3 then b else wI w 1 o' j), _)
      refine pmk rfl (pmk rfl (pmk ?_ rfl))
      funext o' j
      rw [wI_sI, wI_sI]
      by_cases e : o' = o
      · subst e
        by_cases j2 : j = 2
        · subst j2; simp
        · simp [j2]
      · simp [e]
    refine XE.aload_n d_SS_undo_0 rfl ?_
    refine g_SS_280 d_SS_undo_1 (by first | assumption | decide | omega) (by first | assumption | rfl) ?_
    refine XE.astore_n d_SS_undo_4 (by decide) ?_
    refine XE.aload_n d_SS_undo_5 rfl ?_
    refine g_SS_281 (x := nI 2) d_SS_undo_6 (by first | assumption | decide | omega) (by first | assumption | rfl) ?_
    refine XE.tableIn (off := 67) 76 d_SS_undo_9 (by decide) (by decide) (by decide) (by decide) ?_
    refine XE.aload_n d_SS_undo_76 rfl ?_
    refine XE.aload_n d_SS_undo_77 rfl ?_
    refine g_SS_284 d_SS_undo_78 (by first | assumption | decide | omega) (by first | assumption | rfl) ?_
    refine p_SS_123 d_SS_undo_81 (by first | assumption | decide | omega) ?_
    refine XE.aload_n d_SS_undo_84 rfl ?_
    refine XE.aload_n d_SS_undo_85 rfl ?_
    refine g_SS_287 d_SS_undo_86 (by first | assumption | decide | omega) (by first | assumption | rfl) ?_
    refine p_SS_126 d_SS_undo_89 (by first | assumption | decide | omega) ?_
    refine XE.goto 111 d_SS_undo_92 (by decide) ?_
    exact XE.rv d_SS_undo_111 ⟨rfl, fin⟩
  · have z : r0 = nI 3 := z
    have za : a = nI i := za
    subst z
    subst za
    obtain ⟨y5, y6, y7⟩ := hN.2.2.1 o o1 o2
    have zf : wI w 1 o 1 = 0 := zf
    have yl : wL w 103 o = 32 := by
      rcases y7 with ⟨-, y, -⟩ | ⟨y, -⟩
      · exact y
      · rw [zf] at y; exact absurd y (by decide)
    have hiy : IXN (nI i) (wL w 103 o) i := IXN.nI (by omega) (by omega)
    have fin : ctW (sI w 103 o i b) = und (nI 3, o, nI i, b) (ctW w) ∧ FU w (sI w 103 o i b) := by
      refine ⟨?_, rfl, rfl, fun k o' j h1 h2 h3 => by rw [wI_sI, if_neg (by omega)], fun k o' j h => rfl⟩
      unfold und
      rw [if_neg (by show ¬ nI 3 = 0; decide), if_neg (by show ¬ nI 3 = 1; decide), if_neg (by show ¬ nI 3 = 2; decide)]
      show (_, _, _, (fun o' j => wI (sI w 103 o i b) 103 o' j)) = (_, _, _, (fun o' j => if o' = o ∧ j = (nI i).toNatClampNeg then b else wI w 103 o' j))
      rw [nI_clamp (by omega)]
      refine pmk rfl (pmk rfl (pmk rfl ?_))
      funext o' j
      rw [wI_sI]
      simp
    refine XE.aload_n d_SS_undo_0 rfl ?_
    refine g_SS_280 d_SS_undo_1 (by first | assumption | decide | omega) (by first | assumption | rfl) ?_
    refine XE.astore_n d_SS_undo_4 (by decide) ?_
    refine XE.aload_n d_SS_undo_5 rfl ?_
    refine g_SS_281 (x := nI 3) d_SS_undo_6 (by first | assumption | decide | omega) (by first | assumption | rfl) ?_
    refine XE.tableIn (off := 86) 95 d_SS_undo_9 (by decide) (by decide) (by decide) (by decide) ?_
    refine XE.aload_n d_SS_undo_95 rfl ?_
    refine g_SS_143 d_SS_undo_96 (by first | assumption | decide | omega) (by first | assumption | rfl) ?_
    refine XE.aload_n d_SS_undo_99 rfl ?_
    refine g_SS_284 d_SS_undo_100 (by first | assumption | decide | omega) (by first | assumption | rfl) ?_
    refine XE.aload_n d_SS_undo_103 rfl ?_
    refine g_SS_287 d_SS_undo_104 (by first | assumption | decide | omega) (by first | assumption | rfl) ?_
    refine XE.iast d_SS_undo_107 (by decide) rfl (by first | assumption | decide | omega) (by first | assumption | exact ixn2 (by assumption) (by omega) (by omega)) ?_
    refine XE.goto 111 d_SS_undo_108 (by decide) ?_
    exact XE.rv d_SS_undo_111 ⟨rfl, fin⟩
theorem SS_undoAll_ok (hR : CR w m) (hB : WB m) (hd : 1 ≤ d) : E_SS_undoUnsafeChanges d [.inr (0, 1)] w (fun q w' => q = none ∧ ∃ w1, w' = sI w1 6 1 1 (nI 0) ∧ FU w w1 ∧ CTR (wC w1 1) (ctW w1) (rep (mG m) (mU m))) := by
  refine S_SS_undoUnsafeChanges ?_
  obtain ⟨k1, k2, k3, k4⟩ := hR.2.2.1
  have hun := hB.un
  have loop : ∀ j w1, FU w w1 → UG (wC w1 1) (rcW w1) (mG m) (mU m) j (ctW w1) → j ≤ mN m - mU m → X_SS_undoUnsafeChanges d 10 [some (.inr (0, 1)), some (.inl (nI j - nI 1))] [] w1 (fun q w' => q = none ∧ ∃ w1, w' = sI w1 6 1 1 (nI 0) ∧ FU w w1 ∧ CTR (wC w1 1) (ctW w1) (rep (mG m) (mU m))) := by
    intro j
    induction j with
    | zero =>
      intro w1 hF hU hj
      obtain ⟨s0, s2, s5, s7, g0, l0, l1, l2, l5⟩ := hF.st hR.1
      refine XE.iload_n d_SS_undoUnsafeChanges_10 rfl ?_
      refine XE.if_lt 33 d_SS_undoUnsafeChanges_11 (by decide) (fun h11 => ?_) (fun h11 => absurd h11 ((fun z => z (by decide))))
      refine XE.aload_n d_SS_undoUnsafeChanges_33 rfl ?_
      refine g_SS_33 d_SS_undoUnsafeChanges_34 (by first | assumption | decide | omega) (by first | assumption | rfl) ?_
      refine XE.iconst (x := nI 0) d_SS_undoUnsafeChanges_37 (by decide) ?_
      refine p_SS_270 d_SS_undoUnsafeChanges_38 (by first | assumption | decide | omega) ?_
      exact XE.rv d_SS_undoUnsafeChanges_41 ⟨rfl, w1, rfl, hF, hU⟩
    | succ j ih =>
      intro w1 hF hU hj
      have hS := hF.st hR.1
      have hN := hF.nst hR.2.1
      obtain ⟨s0, s2, s5, s7, g0, l0, l1, l2, l5⟩ := id hS
      obtain ⟨u1, u2, u3⟩ := hU
      have hκ : wR w1 105 1 j ≠ 0 := by rw [hF.2.2.2 _ _ _ (by decide)]; exact (k3 j (by omega)).1
      have hud := SS_undo_ok (w := w1) (d := 0) (r := rcW w1 j) hS hN hκ rfl rfl rfl rfl u2
      have hix : IXN (nI j) (wL w1 105 1) j := IXN.nI (by omega) (by omega)
      rw [nI_s1 (by omega), show j + 1 - 1 = j by omega]
      refine XE.iload_n d_SS_undoUnsafeChanges_10 rfl ?_
      refine XE.if_lt 33 d_SS_undoUnsafeChanges_11 (by decide) (fun h11 => absurd h11 ((nI_pos (by omega)))) (fun h11 => ?_)
      refine XE.aload_n d_SS_undoUnsafeChanges_14 rfl ?_
      refine XE.aload_n d_SS_undoUnsafeChanges_15 rfl ?_
      refine g_SS_33 d_SS_undoUnsafeChanges_16 (by first | assumption | decide | omega) (by first | assumption | rfl) ?_
      refine g_SS_273 d_SS_undoUnsafeChanges_19 (by first | assumption | decide | omega) (by first | assumption | rfl) ?_
      refine XE.iload_n d_SS_undoUnsafeChanges_22 rfl ?_
      refine XE.aald d_SS_undoUnsafeChanges_23 (by decide) rfl (by first | assumption | decide | omega) (by first | assumption | exact ixn2 (by assumption) (by omega) (by omega)) (by first | assumption | rfl) ?_
      refine k_SS_277 0 d_SS_undoUnsafeChanges_24 (by omega) (Nat.le_of_ble_eq_true rfl) (by first | assumption | decide | omega) hud (fun y1 w2 hm1 hq1 => ?_)
      obtain ⟨rfl, hc2, hF2⟩ := hq1
      have hU2 : UG (wC w2 1) (rcW w2) (mG m) (mU m) j (ctW w2) := (by rw [hc2, hF2.C]; exact u3.cg CTE.rf (Nat.le_refl _) (fun i _ => hF2.rc i) (fun _ _ => rfl))
      refine XE.iinc d_SS_undoUnsafeChanges_27 rfl (dec_nI _) ?_
      refine XE.goto 10 d_SS_undoUnsafeChanges_30 (by decide) ?_
      exact ih w2 (hF.tr hF2) hU2 (by omega)
  obtain ⟨s0, s2, s5, s7, g0, l0, l1, l2, l5⟩ := hR.1
  refine XE.aload_n d_SS_undoUnsafeChanges_0 rfl ?_
  refine g_SS_33 d_SS_undoUnsafeChanges_1 (by first | assumption | decide | omega) (by first | assumption | rfl) ?_
  refine g_SS_270 d_SS_undoUnsafeChanges_4 (by first | assumption | decide | omega) (by first | assumption | rfl) ?_
  refine XE.iconst (x := nI 1) d_SS_undoUnsafeChanges_7 (by decide) ?_
  refine XE.isub d_SS_undoUnsafeChanges_8 rfl ?_
  refine XE.istore_n d_SS_undoUnsafeChanges_9 (by decide) ?_
  exact loop (mN m - mU m) w FU.rf k4 (Nat.le_refl _)
/-- what calming leaves alone -/
def FQ (w w' : WW) : Prop := w'.1 = w.1 ∧ w'.2.2 = w.2.2 ∧ (∀ k o j, ¬ (k = 1 ∧ o ≤ wC w 1 ∧ (j = 4 ∨ j = 7)) → wI w' k o j = wI w k o j)
theorem SS_calm_ok (hS : SSt w) (hC : ∀ n, n ≤ 24 → wR w 100 1 n ≤ wC w 1) : E_SS_calmNodes d [.inr (0, 1)] w (fun r w' => r = none ∧ FQ w w' ∧ ∀ n, n < 25 → wR w 100 1 n ≠ 0 → wI w' 1 (wR w 100 1 n) 4 = 0 ∧ wI w' 1 (wR w 100 1 n) 7 = 0) := by
  refine S_SS_calmNodes ?_
  obtain ⟨s0, s2, s5, s7, g0, l0, l1, l2, l5⟩ := hS
  have loop : ∀ k i w1, i + k = 25 → FQ w w1 → (∀ n, n < i → wR w 100 1 n ≠ 0 → wI w1 1 (wR w 100 1 n) 4 = 0 ∧ wI w1 1 (wR w 100 1 n) 7 = 0) → X_SS_calmNodes d 2 [some (.inr (0, 1)), some (.inl (nI i))] [] w1 (fun r w' => r = none ∧ FQ w w' ∧ ∀ n, n < 25 → wR w 100 1 n ≠ 0 → wI w' 1 (wR w 100 1 n) 4 = 0 ∧ wI w' 1 (wR w 100 1 n) 7 = 0) := by
    intro k
    induction k with
    | zero =>
      intro i w1 hi hF hZ
      have hi : i = 25 := hi
      subst hi
      have t0 : wR w1 0 1 0 = 1 := by unfold wR; rw [hF.2.1]; exact s0
      have hl : nI (wL w1 100 1) = nI 25 := by unfold wL; rw [hF.2.1]; exact congrArg nI l0
      refine XE.iload_n d_SS_calmNodes_2 rfl ?_
      refine XE.aload_n d_SS_calmNodes_3 rfl ?_
      refine g_SS_11 d_SS_calmNodes_4 (by first | assumption | decide | omega) (by first | assumption | rfl) ?_
      refine XE.alen d_SS_calmNodes_7 (Or.inr (by decide)) (by first | assumption | decide | omega) (by first | assumption | rfl) ?_
      refine XE.icmp_ge 46 d_SS_calmNodes_8 (by decide) (fun h8 => ?_) (fun h8 => absurd h8 ((fun z => z ((le_nI (by omega) (by omega)).mpr (by omega)))))
      exact XE.rv d_SS_calmNodes_46 ⟨rfl, hF, hZ⟩
    | succ k ih =>
      intro i w1 hi hF hZ
      have t0 : wR w1 0 1 0 = 1 := by unfold wR; rw [hF.2.1]; exact s0
      have tl : wL w1 100 1 = 25 := by unfold wL; rw [hF.2.1]; exact l0
      have hl : nI (wL w1 100 1) = nI 25 := congrArg nI tl
      have tn : wR w1 100 1 i = wR w 100 1 i := by unfold wR; rw [hF.2.1]
      have hix : IXN (nI i) (wL w1 100 1) i := IXN.nI (by omega) (by omega)
      have hle := hC i (by omega)
      generalize ho : wR w 100 1 i = o at *
      have hix2 : IXN (nI i) (wL (sI w1 1 o 4 (nI 0)) 100 1) i := hix
      refine XE.iload_n d_SS_calmNodes_2 rfl ?_
      refine XE.aload_n d_SS_calmNodes_3 rfl ?_
      refine g_SS_11 d_SS_calmNodes_4 (by first | assumption | decide | omega) (by first | assumption | rfl) ?_
      refine XE.alen d_SS_calmNodes_7 (Or.inr (by decide)) (by first | assumption | decide | omega) (by first | assumption | rfl) ?_
      refine XE.icmp_ge 46 d_SS_calmNodes_8 (by decide) (fun h8 => absurd h8 ((fun z => by have := (le_nI (by omega) (by omega)).mp z; omega))) (fun h8 => ?_)
      refine XE.aload_n d_SS_calmNodes_11 rfl ?_
      refine g_SS_11 d_SS_calmNodes_12 (by first | assumption | decide | omega) (by first | assumption | rfl) ?_
      refine XE.iload_n d_SS_calmNodes_15 rfl ?_
      refine XE.aald (x := o) d_SS_calmNodes_16 (by decide) rfl (by first | assumption | decide | omega) (by first | assumption | exact ixn2 (by assumption) (by omega) (by omega)) (by first | assumption | rfl) ?_
      refine XE.ifnull 40 d_SS_calmNodes_17 (by decide) (fun h17 => ?_) (fun h17 => ?_)
      · have q := ih (i + 1) w1 (by omega) hF (fun n hn h0 => by by_cases e : n = i; { subst e; exact absurd (ho.trans h17) h0 }; { exact hZ n (by omega) h0 })
        refine XE.iinc d_SS_calmNodes_40 rfl (inc_nI _) ?_
        refine XE.goto 2 d_SS_calmNodes_43 (by decide) ?_
        exact q
      · have q := ih (i + 1) (sI (sI w1 1 o 4 (nI 0)) 1 o 7 (nI 0)) (by omega) ⟨hF.1, hF.2.1, fun k o' j h => by rw [wI_sI, if_neg (by omega), wI_sI, if_neg (by omega)]; exact hF.2.2 k o' j h⟩ (fun n hn h0 => by rw [wI_sI, if_neg (by omega), wI_sI, wI_sI]; by_cases e : wR w 100 1 n = o; { rw [if_pos ⟨rfl, e, rfl⟩, if_pos ⟨rfl, e, rfl⟩]; exact ⟨rfl, rfl⟩ }; { rw [if_neg (fun z => e z.2.1), if_neg (fun z => e z.2.1), wI_sI, if_neg (by omega)]; exact hZ n (by (by_cases g : n = i; { subst g; exact absurd ho e }; { omega })) h0 })
        refine XE.aload_n d_SS_calmNodes_20 rfl ?_
        refine g_SS_11 d_SS_calmNodes_21 (by first | assumption | decide | omega) (by first | assumption | rfl) ?_
        refine XE.iload_n d_SS_calmNodes_24 rfl ?_
        refine XE.aald (x := o) d_SS_calmNodes_25 (by decide) rfl (by first | assumption | decide | omega) (by first | assumption | exact ixn2 (by assumption) (by omega) (by omega)) (by first | assumption | rfl) ?_
        refine XE.iconst (x := nI 0) d_SS_calmNodes_26 (by decide) ?_
        refine p_SS_104 d_SS_calmNodes_27 (by first | assumption | decide | omega) (by first | assumption | decide) ?_
        refine XE.aload_n d_SS_calmNodes_30 rfl ?_
        refine g_SS_11 d_SS_calmNodes_31 (by first | assumption | decide | omega) (by first | assumption | rfl) ?_
        refine XE.iload_n d_SS_calmNodes_34 rfl ?_
        refine XE.aald (x := o) d_SS_calmNodes_35 (by decide) rfl (by first | assumption | decide | omega) (by first | assumption | exact ixn2 (by assumption) (by omega) (by omega)) (by first | assumption | rfl) ?_
        refine XE.iconst (x := nI 0) d_SS_calmNodes_36 (by decide) ?_
        refine p_SS_168 d_SS_calmNodes_37 (by first | assumption | decide | omega) ?_
        refine XE.iinc d_SS_calmNodes_40 rfl (inc_nI _) ?_
        refine XE.goto 2 d_SS_calmNodes_43 (by decide) ?_
        exact q
  refine XE.iconst (x := nI 0) d_SS_calmNodes_0 (by decide) ?_
  refine XE.istore_n d_SS_calmNodes_1 (by decide) ?_
  exact loop 25 0 w (by omega) ⟨rfl, rfl, fun _ _ _ _ => rfl⟩ (fun n hn => absurd hn (Nat.not_lt_zero n))
/-! the waiting requests -/
def qiW (w : WW) (g : Nat → Int32) : WW := (w.1, (fun k o j => if k = 3 ∧ j = 5 then g o else w.2.1 k o j), w.2.2)
theorem wI_qiW (w : WW) (g : Nat → Int32) (k o j : Nat) : wI (qiW w g) k o j = if k = 3 ∧ j = 5 then g o else wI w k o j := rfl
theorem qiW_id (w : WW) : qiW w (fun o => wI w 3 o 5) = w := by
  have : (fun k o j => if k = 3 ∧ j = 5 then wI w 3 o 5 else w.2.1 k o j) = w.2.1 := by
    funext k o j
    split
    · rename_i h; rw [h.1, h.2]; rfl
    · rfl
  show (w.1, (fun k o j => if k = 3 ∧ j = 5 then wI w 3 o 5 else w.2.1 k o j), w.2.2) = w
  rw [this]
theorem qiW_s (w : WW) (g : Nat → Int32) (z : Nat) (v : Int32) : sI (qiW w g) 3 z 5 v = qiW w (uf g z v) := by
  show (w.1, _, w.2.2) = (w.1, _, w.2.2)
  congr 2
  funext k o j
  show (if k = 3 ∧ o = z ∧ j = 5 then v else if k = 3 ∧ j = 5 then g o else w.2.1 k o j) = if k = 3 ∧ j = 5 then (if o = z then v else g o) else w.2.1 k o j
  by_cases h : k = 3 ∧ j = 5
  · obtain ⟨rfl, rfl⟩ := h
    simp
  · rw [if_neg h, if_neg h, if_neg (fun q => h ⟨q.1, q.2.2⟩)]
theorem SS_lose_ok (hS : SSt w) (hQ : QC w m) (hB : WB m) : E_SS_loseWaiting d [.inr (0, 1)] w (fun r w' => r = none ∧ ∃ g, w' = qiW w g ∧ ∀ r, 1 ≤ r → r ≤ mQ m → g r = qO (crQ m r)) := by
  refine S_SS_loseWaiting ?_
  obtain ⟨s0, s2, s5, s7, g0, l0, l1, l2, l5⟩ := hS
  obtain ⟨q0, q1, q2, q3⟩ := hQ
  have b2 := hB.2.1
  have loop : ∀ k i g, i + k = mQ m → (∀ r, 1 ≤ r → r ≤ i → g r = qO (crQ m r)) → (∀ r, i < r → r ≤ mQ m → g r = qO (mq m r)) → X_SS_loseWaiting d 2 [some (.inr (0, 1)), some (.inl (nI i))] [] (qiW w g) (fun r w' => r = none ∧ ∃ g, w' = qiW w g ∧ ∀ r, 1 ≤ r → r ≤ mQ m → g r = qO (crQ m r)) := by
    intro k
    induction k with
    | zero =>
      intro i g hi h1 h2
      have hi : i = mQ m := hi
      refine XE.iload_n d_SS_loseWaiting_2 rfl ?_
      refine XE.aload_n d_SS_loseWaiting_3 rfl ?_
      refine g_SS_48 d_SS_loseWaiting_4 (by first | assumption | decide | omega) (by first | assumption | rfl) ?_
      refine XE.icmp_ge 39 d_SS_loseWaiting_7 (by decide) (fun h7 => ?_) (fun h7 => absurd h7 ((fun z => z ((le_nI (by omega) (by omega)).mpr (by omega)))))
      exact XE.rv d_SS_loseWaiting_39 ⟨rfl, g, rfl, fun r r1 r2 => h1 r r1 (by omega)⟩
    | succ k ih =>
      intro i g hi h1 h2
      have hix : IXN (nI i) (wL (qiW w g) 102 1) i := IXN.nI (by show i < wL w 102 1; omega) (by show wL w 102 1 ≤ _; omega)
      have e1 := q2 i (by omega)
      have e5 := h2 (i + 1) (by omega) (by omega)
      have i0 : i + 1 ≠ 0 := Nat.succ_ne_zero i
      refine XE.iload_n d_SS_loseWaiting_2 rfl ?_
      refine XE.aload_n d_SS_loseWaiting_3 rfl ?_
      refine g_SS_48 d_SS_loseWaiting_4 (by first | assumption | decide | omega) (by first | assumption | rfl) ?_
      refine XE.icmp_ge 39 d_SS_loseWaiting_7 (by decide) (fun h7 => absurd h7 ((fun z => by have := (le_nI (by omega) (by omega)).mp z; omega))) (fun h7 => ?_)
      refine XE.aload_n d_SS_loseWaiting_10 rfl ?_
      refine g_SS_26 d_SS_loseWaiting_11 (by first | assumption | decide | omega) (by first | assumption | rfl) ?_
      refine XE.iload_n d_SS_loseWaiting_14 rfl ?_
      refine XE.aald (x := i + 1) d_SS_loseWaiting_15 (by decide) rfl (by first | assumption | decide | omega) (by first | assumption | exact ixn2 (by assumption) (by omega) (by omega)) (by first | assumption | rfl) ?_
      refine g_SS_59 (x := g (i + 1)) d_SS_loseWaiting_16 (by first | assumption | decide | omega) (by first | assumption | rfl) ?_
      refine XE.if_ne 33 d_SS_loseWaiting_19 (by decide) (fun h19 => ?_) (fun h19 => ?_)
      · have q := ih (i + 1) g (by omega) (fun r r1 r2 => by by_cases e : r = i + 1; { subst e; rw [e5] at h19 ⊢; unfold crQ; rw [if_neg h19] }; { exact h1 r r1 (by omega) }) (fun r r1 r2 => h2 r (by omega) r2)
        refine XE.iinc d_SS_loseWaiting_33 rfl (inc_nI _) ?_
        refine XE.goto 2 d_SS_loseWaiting_36 (by decide) ?_
        exact q
      · have q := ih (i + 1) (uf g (i + 1) (-9)) (by omega) (fun r r1 r2 => by by_cases e : r = i + 1; { subst e; rw [e5] at h19; rw [uf_s]; unfold crQ; rw [if_pos h19]; rfl }; { rw [uf_n _ _ e]; exact h1 r r1 (by omega) }) (fun r r1 r2 => by rw [uf_n _ _ (by omega)]; exact h2 r (by omega) r2)
        rw [← qiW_s] at q
        refine XE.aload_n d_SS_loseWaiting_22 rfl ?_
        refine g_SS_26 d_SS_loseWaiting_23 (by first | assumption | decide | omega) (by first | assumption | rfl) ?_
        refine XE.iload_n d_SS_loseWaiting_26 rfl ?_
        refine XE.aald (x := i + 1) d_SS_loseWaiting_27 (by decide) rfl (by first | assumption | decide | omega) (by first | assumption | exact ixn2 (by assumption) (by omega) (by omega)) (by first | assumption | rfl) ?_
        refine XE.bipush (x := (-9)) d_SS_loseWaiting_28 (by decide) ?_
        refine p_SS_59 d_SS_loseWaiting_30 (by first | assumption | decide | omega) ?_
        refine XE.iinc d_SS_loseWaiting_33 rfl (inc_nI _) ?_
        refine XE.goto 2 d_SS_loseWaiting_36 (by decide) ?_
        exact q
  have st := loop (mQ m) 0 (fun o => wI w 3 o 5) (by omega) (fun r r1 r2 => by omega) (fun r r1 r2 => (q3 r (by omega) r2).2.2.2.2.2)
  rw [qiW_id] at st
  refine XE.iconst (x := nI 0) d_SS_loseWaiting_0 (by decide) ?_
  refine XE.istore_n d_SS_loseWaiting_1 (by decide) ?_
  exact st
theorem op_cr (m : MS) : opL (crM m) = [] := by
  refine List.filter_eq_nil_iff.mpr (fun x hx => ?_)
  have hx : x ∈ List.range' 1 (mH m) := hx
  have := List.mem_range'_1.mp hx
  show ¬ hO (if 1 ≤ x ∧ x ≤ mH m then hsO (mh m x) false else mh m x) = true
  rw [if_pos ⟨by omega, by omega⟩]
  exact fun z => Bool.noConfusion z
theorem CTR.fr {B : Nat} {c c' : CT} {t : Tb} (h : CTR B c t) (e : CTE B c' c) : CTR B c' t := h.cg e (Nat.le_refl _)
theorem SS_crash_ok (hR : CR w m) (hB : WB m) (hI : MI m) (hd : 2 ≤ d) : E_SS_crash d [.inr (0, 1)] w (fun r w' => r = some (.inl (nI (mU m))) ∧ CR w' (crM m) ∧ FC 0 w w') := by
  refine S_SS_crash ?_
  have hua := SS_undoAll_ok (d := 1) hR hB (by omega)
  have rest : ∀ w1, FU w w1 → CTR (wC w1 1) (ctW w1) (rep (mG m) (mU m)) → X_SS_crash d 9 [some (.inr (0, 1))] [] (sI (sI w1 6 1 1 (nI 0)) 0 1 3 (nI 0)) (fun r w' => r = some (.inl (nI (mU m))) ∧ CR w' (crM m) ∧ FC 0 w w') := by
    intro w1 hF hT
    have hS := hF.st hR.1
    have hN := hF.nst hR.2.1
    have hcm := SS_calm_ok (w := sI (sI w1 6 1 1 (nI 0)) 0 1 3 (nI 0)) (d := 1) hS (fun n hn => (hT.2 n hn).1)
    have fin : ∀ w2, FQ (sI (sI w1 6 1 1 (nI 0)) 0 1 3 (nI 0)) w2 → (∀ n, n < 25 → wR w1 100 1 n ≠ 0 → wI w2 1 (wR w1 100 1 n) 4 = 0 ∧ wI w2 1 (wR w1 100 1 n) 7 = 0) → X_SS_crash d 13 [some (.inr (0, 1))] [] w2 (fun r w' => r = some (.inl (nI (mU m))) ∧ CR w' (crM m) ∧ FC 0 w w') := by
      intro w2 hQ hZ
      obtain ⟨f1, f2, f3⟩ := hQ
      have rR : ∀ k o j, wR w2 k o j = wR w1 k o j := fun k o j => by unfold wR; rw [f2]; rfl
      have rL : ∀ k o, wL w2 k o = wL w k o := fun k o => by rw [← hF.L]; unfold wL; rw [f2]; rfl
      have rC : ∀ k, wC w2 k = wC w k := fun k => by rw [← hF.C]; unfold wC; rw [f1]; rfl
      have rR2 : ∀ k o j, k ≠ 100 → wR w2 k o j = wR w k o j := fun k o j h => (rR k o j).trans (hF.2.2.2 k o j h)
      have rI1 : ∀ k o j, k ≠ 0 → k ≠ 6 → ¬ (k = 1 ∧ (j = 4 ∨ j = 7)) → wI w2 k o j = wI w1 k o j := fun k o j a b e => by
        rw [f3 k o j (fun z => e ⟨z.1, z.2.2⟩), wI_sI, if_neg (fun z => a z.1), wI_sI, if_neg (fun z => b z.1)]
      have rI : ∀ k o j, k ≠ 0 → k ≠ 6 → k ≠ 1 → k ≠ 103 → wI w2 k o j = wI w k o j := fun k o j a b e f => by
        rw [rI1 k o j a b (fun z => e z.1), hF.2.2.1 k o j (fun z => a z.1) (fun z => e z.1) (fun z => f z.1)]
      have r0 : ∀ j, j ≠ 1 → j ≠ 3 → wI w2 0 1 j = wI w 0 1 j := fun j a b => by
        rw [f3 0 1 j (by omega), wI_sI, if_neg (by omega), wI_sI, if_neg (by omega), hF.2.2.1 0 1 j (by omega) (by omega) (by omega)]
      have r03 : wI w2 0 1 3 = nI 0 := by rw [f3 0 1 3 (by omega)]; rfl
      have r01 : wI w2 0 1 1 = wI w1 0 1 1 := by rw [f3 0 1 1 (by omega)]; rfl
      have r61 : wI w2 6 1 1 = nI 0 := by rw [f3 6 1 1 (by omega)]; rfl
      have r62 : wI w2 6 1 2 = nI (mU m) := by
        rw [f3 6 1 2 (by omega), wI_sI, if_neg (by omega), wI_sI, if_neg (by omega), hF.2.2.1 6 1 2 (by omega) (by omega) (by omega)]
        exact hR.2.2.1.2.1
      have hS2 : SSt w2 := by
        obtain ⟨s0, s2, s5, s7, g0, l0, l1, l2, l5⟩ := hR.1
        unfold SSt
        rw [rR2 _ _ _ (by decide), rR2 _ _ _ (by decide), rR2 _ _ _ (by decide), rR2 _ _ _ (by decide), rR2 _ _ _ (by decide), rL, rL, rL, rL]
        exact ⟨s0, s2, s5, s7, g0, l0, l1, l2, l5⟩
      obtain ⟨s0, s2, s5, s7, g0, l0, l1, l2, l5⟩ := id hS2
      have hQ2 : QC w2 m := by
        obtain ⟨q0, q1, q2, q3⟩ := hR.2.2.2.2.2.2.1
        refine ⟨(r0 6 (by decide) (by decide)).trans q0, (rC 3).trans q1, fun i hi => (rR2 _ _ _ (by decide)).trans (q2 i hi), fun r r1 r2 => ?_⟩
        unfold RQR
        rw [rI _ _ _ (by decide) (by decide) (by decide) (by decide), rI _ _ _ (by decide) (by decide) (by decide) (by decide), rI _ _ _ (by decide) (by decide) (by decide) (by decide), rI _ _ _ (by decide) (by decide) (by decide) (by decide), rI _ _ _ (by decide) (by decide) (by decide) (by decide), rI _ _ _ (by decide) (by decide) (by decide) (by decide)]
        exact q3 r r1 r2
      have hls := SS_lose_ok (d := 1) hS2 hQ2 hB
      have hcr : ∀ g, (∀ r, 1 ≤ r → r ≤ mQ m → g r = qO (crQ m r)) → CR (qiW w2 g) (crM m) := by
        intro g hg
        refine ⟨hS2, ?_, ⟨?_, r62, fun i hi => ?_, ?_⟩, fun n hn ht => ?_, fun n hn ht => ?_, ⟨(r0 4 (by decide) (by decide)).trans hR.2.2.2.2.2.1.1, (rC 2).trans hR.2.2.2.2.2.1.2.1, fun x x1 x2 => ?_, fun x x1 x2 x3 => ?_, ?_, ?_⟩, ⟨hQ2.1, hQ2.2.1, hQ2.2.2.1, fun r r1 r2 => ?_⟩, (r0 8 (by decide) (by decide)).trans hR.2.2.2.2.2.2.2⟩
        · obtain ⟨n1, n2, n3, n4⟩ := hN
          rw [hF.C, hF.C] at n1 n2
          refine ⟨(rC _).trans (n1.trans (rC _).symm), (rC _).trans (n2.trans (rC _).symm), fun o o1 o2 => ?_, fun o j ho => ?_⟩
          · have o2 : o ≤ wC w2 1 := o2
            rw [rC, ← hF.C] at o2
            have := n3 o o1 o2
            show wR w2 1 o 5 = o ∧ wR w2 1 o 6 = o ∧ (wI w2 1 o 1 = 0 ∧ wL w2 103 o = 32 ∧ wL w2 104 o = 8 ∨ wI w2 1 o 1 = 1 ∧ wL w2 104 o = 0)
            rw [rR, rR, rI1 1 o 1 (by decide) (by decide) (by omega), rL, rL, ← hF.L, ← hF.L]
            exact this
          · have ho : wC w2 1 < o := ho
            rw [rC, ← hF.C] at ho
            show wI w2 1 o j = 0 ∧ wI w2 103 o j = 0
            refine ⟨?_, ?_⟩
            · have e := f3 1 o j (fun z => by have : o ≤ wC w1 1 := z.2.1; omega)
              rw [e, wI_sI, if_neg (by omega), wI_sI, if_neg (by omega)]
              exact (n4 o j ho).1
            · rw [rI1 103 o j (by decide) (by decide) (by omega)]
              exact (n4 o j ho).2
        · show wI w2 6 1 1 = nI (mU m - mU m)
          rw [Nat.sub_self]; exact r61
        · have hi : i < mU m - mU m := hi
          omega
        · show UG (wC w2 1) _ (mG m) (mU m) (mU m - mU m) (ctW (qiW w2 g))
          rw [Nat.sub_self]
          show CTR (wC w2 1) (ctW (qiW w2 g)) (rep (mG m) (mU m))
          rw [rC, ← hF.C]
          refine hT.fr ⟨fun n hn => rR 100 1 n, r01, fun o o1 o2 j hj => rI1 1 o j (by decide) (by decide) (by omega), fun o o1 o2 i hi => rI1 103 o i (by decide) (by decide) (by omega)⟩
        · have ht : tT (rep (mG m) (mU m)) n = true := ht
          have hz := (hZ n (by omega) (hT.nz hn ht)).1
          show wI w2 1 (wR w2 100 1 n) 4 = 0
          rw [rR]; exact hz
        · have ht : tT (rep (mG m) (mU m)) n = true := ht
          have hz := (hZ n (by omega) (hT.nz hn ht)).2
          refine ⟨?_, HO.nil⟩
          show wI w2 1 (wR w2 100 1 n) 7 = 0
          rw [rR]; exact hz
        · have x2 : x ≤ mH m := x2
          have q := hR.2.2.2.2.2.1.2.2.1 x x1 x2
          show HDR (qiW w2 g) x (if 1 ≤ x ∧ x ≤ mH m then hsO (mh m x) false else mh m x)
          rw [if_pos ⟨x1, x2⟩]
          have q2 : HDR w2 x (mh m x) := q.fr (fun j => rI 2 x j (by decide) (by decide) (by decide) (by decide))
          exact q2
        · have x2 : x ≤ mH m := x2
          have x3 : hO (if 1 ≤ x ∧ x ≤ mH m then hsO (mh m x) false else mh m x) = true := x3
          rw [if_pos ⟨x1, x2⟩] at x3
          exact Bool.noConfusion x3
        · rw [op_cr]; exact r03
        · rw [op_cr]; exact HO.nil
        · have r2 : r ≤ mQ m := r2
          obtain ⟨a0, a1, a2, a3, a4, a5⟩ := hQ2.2.2.2 r r1 r2
          show RQR (qiW w2 g) r (if 1 ≤ r ∧ r ≤ mQ m then crQ m r else mq m r)
          rw [if_pos ⟨r1, r2⟩]
          have e5 : wI (qiW w2 g) 3 r 5 = qO (crQ m r) := hg r r1 r2
          unfold crQ at e5 ⊢
          split
          · rename_i z; rw [if_pos z] at e5; exact ⟨a0, a1, a2, a3, a4, e5⟩
          · rename_i z; rw [if_neg z] at e5; exact ⟨a0, a1, a2, a3, a4, e5⟩
      have hfc : ∀ g, FC 0 w (qiW w2 g) := fun g => FC.mk0 ⟨fun k o j h => ⟨by rw [wI_qiW, if_neg (by omega)]; exact rI k o j (by omega) (by omega) (by omega) (by omega), rR2 k o j (by omega)⟩, fun k _ => rC k, fun k o _ => rL k o⟩ (f1.trans hF.1)
      have hch := fun g => Lg_changes_ok (w := qiW w2 g) (d := 1) (j := 0) (u := mU m) r61 r62
      refine XE.aload_n d_SS_crash_13 rfl ?_
      refine k_SS_196 1 d_SS_crash_14 (by omega) (Nat.le_of_ble_eq_true rfl) (by first | assumption | decide | omega) hls (fun y1 w3 hm1 hq1 => ?_)
      obtain ⟨rfl, g, rfl, hg⟩ := hq1
      refine XE.aload_n d_SS_crash_17 rfl ?_
      refine g_SS_33 d_SS_crash_18 (by first | assumption | decide | omega) (by first | assumption | rfl) ?_
      refine k_SS_186 1 d_SS_crash_21 (by omega) (Nat.le_of_ble_eq_true rfl) (by first | assumption | decide | omega) (hch g) (fun r1 w1 hm1 hq1 => ?_)
      rw [hq1.1, hq1.2]
      clear hq1 hm1 r1 w1
      exact XE.ri d_SS_crash_24 ⟨rfl, hcr g hg, hfc g⟩
    refine XE.aload_n d_SS_crash_9 rfl ?_
    refine k_SS_193 1 d_SS_crash_10 (by omega) (Nat.le_of_ble_eq_true rfl) (by first | assumption | decide | omega) hcm (fun y1 w3 hm1 hq1 => ?_)
    obtain ⟨rfl, hQ, hZ⟩ := hq1
    exact fin w3 hQ hZ
  refine XE.aload_n d_SS_crash_0 rfl ?_
  refine k_SS_190 1 d_SS_crash_1 (by omega) (Nat.le_of_ble_eq_true rfl) (by first | assumption | decide | omega) hua (fun y1 w3 hm1 hq1 => ?_)
  obtain ⟨rfl, w1, rfl, hF, hT⟩ := hq1
  refine XE.aload_n d_SS_crash_4 rfl ?_
  refine XE.iconst (x := nI 0) d_SS_crash_5 (by decide) ?_
  refine p_SS_94 d_SS_crash_6 (by first | assumption | decide | omega) ?_
  exact rest w1 hF hT
end CRA
