/-! the reference: read, write, lock, unlock -/
def redM (m : MS) (v c : Int32) : Int32 × MS :=
  if mayM m v (nI 1) c = false then (-1, m)
  else if (mK m).any (metP m (hOf m v) c.toNatClampNeg (c.toNatClampNeg + 1) false 0) = true then (-8, m)
  else (0, setS m (tC (mT m) (hN (mh m (hOf m v))) c.toNatClampNeg))
theorem Md_read_ok {w : WW} {m : MS} {d : Nat} (hM : RM w m) (hB : WB m) (hd : 3 ≤ d) (v c : Int32) : E_Md_read d [.inr (7, 1), .inl v, .inl c] w (fun r w' => r = some (.inl (redM m v c).1) ∧ RM w' (redM m v c).2 ∧ FM w w') := by
  refine S_Md_read ?_
  have hmy := Md_may_ok (d := 2) hM hB (by omega) v (nI 1) c
  have b1 := hB.1
  cases hm : mayM m v (nI 1) c with
  | false =>
    have e : redM m v c = (-1, m) := if_pos hm
    rw [hm] at hmy
    refine XE.aload_n d_Md_read_0 rfl ?_
    refine XE.iload_n d_Md_read_1 rfl ?_
    refine XE.iconst (x := nI 1) d_Md_read_2 (by decide) ?_
    refine XE.iload_n d_Md_read_3 rfl ?_
    refine k_Md_109 2 d_Md_read_4 (by omega) (Nat.le_of_ble_eq_true rfl) (by first | assumption | decide | omega) hmy (fun r1 w1 hm1 hq1 => ?_)
    rw [hq1.1, hq1.2]
    clear hq1 hm1 r1 w1
    refine XE.if_ne 12 d_Md_read_7 (by decide) (fun h7 => absurd h7 ((by decide))) (fun h7 => ?_)
    refine XE.iconst (x := (-1)) d_Md_read_10 (by decide) ?_
    exact XE.ri d_Md_read_11 ⟨by rw [e], by rw [e]; exact hM, FM.rf⟩
  | true =>
    obtain ⟨hx, -, hfo, i, hi, rfl⟩ := mayM_t hm
    have ci : (nI i).toNatClampNeg = i := nI_clamp (by omega)
    obtain ⟨ev, x1, x2, x3⟩ := hOf_nz hB hx
    have eM : redM m v (nI i) = if (mK m).any (metP m (hOf m v) i (i + 1) false 0) = true then (-8, m) else (0, setS m (tC (mT m) (hN (mh m (hOf m v))) i)) := by unfold redM; rw [if_neg (by rw [hm]; decide), ci]
    rw [hm] at hmy
    generalize hOf m v = x at *
    subst ev
    have n24 := hB.n24 x1 x2
    have hcl : wI w 116 1 (32 * hN (mh m x) + i) = tC (mT m) (hN (mh m x)) i := (hM.2.2.2.2.1.2.2 _ n24 (hB.op x1 x2 x3)).2.2.2 i (by omega)
    have s9 := hM.1.2.2.2.2.2.2.1
    have l6 := hM.1.2.2.2.2.2.2.2.2.2.2.2.2.2.2.2.2.1
    have hmt := Md_met_ok (d := 1) hM hB x1 x2 (f := i) (e := i + 1) (by omega) (by omega) false 0 (by omega) (by omega)
    have hc : E_Md_h 0 [.inr (7, 1), .inl (nI x), .inl (nI 0)] w (fun r w' => r = some (.inl (nI (hN (mh m x)))) ∧ w' = w) := Md_h_m 0 hM hB x1 x2 (by decide)
    have fin : RM (sI w 7 1 16 (tC (mT m) (hN (mh m x)) i)) (setS m (tC (mT m) (hN (mh m x)) i)) := by
      obtain ⟨hS, c0, c1, hLg, hT, hDm, hh, hH, hq, hQ, hk4, hK, hs⟩ := hM
      exact ⟨hS, c0, c1, hLg, hT, hDm, hh, hH, hq, hQ, hk4, hK, rfl⟩
    refine XE.aload_n d_Md_read_0 rfl ?_
    refine XE.iload_n d_Md_read_1 rfl ?_
    refine XE.iconst (x := nI 1) d_Md_read_2 (by decide) ?_
    refine XE.iload_n d_Md_read_3 rfl ?_
    refine k_Md_109 2 d_Md_read_4 (by omega) (Nat.le_of_ble_eq_true rfl) (by first | assumption | decide | omega) hmy (fun r1 w1 hm1 hq1 => ?_)
    rw [hq1.1, hq1.2]
    clear hq1 hm1 r1 w1
    refine XE.if_ne 12 d_Md_read_7 (by decide) (fun h7 => ?_) (fun h7 => absurd h7 ((by decide)))
    refine XE.aload_n d_Md_read_12 rfl ?_
    refine XE.iload_n d_Md_read_13 rfl ?_
    refine XE.iload_n d_Md_read_14 rfl ?_
    refine XE.iload_n d_Md_read_15 rfl ?_
    refine XE.iconst (x := nI 1) d_Md_read_16 (by decide) ?_
    refine XE.iadd d_Md_read_17 (by first | exact nI_add _ _ | rfl) ?_
    refine XE.iconst (x := nI 0) d_Md_read_18 (by decide) ?_
    refine XE.iconst (x := nI 0) d_Md_read_19 (by decide) ?_
    refine k_Md_112 1 d_Md_read_20 (by omega) (Nat.le_of_ble_eq_true rfl) (by first | assumption | decide | omega) hmt (fun r1 w1 hm1 hq1 => ?_)
    rw [hq1.1, hq1.2]
    clear hq1 hm1 r1 w1
    refine XE.if_eq 29 d_Md_read_23 (by decide) (fun h23 => ?_) (fun h23 => ?_)
    · have e : redM m (nI x) (nI i) = (0, setS m (tC (mT m) (hN (mh m x)) i)) := by rw [eM, if_neg (by rw [(bI_eq0 _).mp h23]; decide)]
      refine XE.aload_n d_Md_read_29 rfl ?_
      refine XE.aload_n d_Md_read_30 rfl ?_
      refine g_Md_29 d_Md_read_31 (by first | assumption | decide | omega) (by first | assumption | rfl) ?_
      refine XE.bipush (x := nI 32) d_Md_read_34 (by decide) ?_
      refine XE.aload_n d_Md_read_36 rfl ?_
      refine XE.iload_n d_Md_read_37 rfl ?_
      refine XE.iconst (x := nI 0) d_Md_read_38 (by decide) ?_
      refine k_Md_49 0 d_Md_read_39 (by omega) (Nat.le_of_ble_eq_true rfl) (by first | assumption | decide | omega) hc (fun r1 w1 hm1 hq1 => ?_)
      rw [hq1.1, hq1.2]
      clear hq1 hm1 r1 w1
      refine XE.imul d_Md_read_42 (by first | exact pk_mul _ _ | rfl) ?_
      refine XE.iload_n d_Md_read_43 rfl ?_
      refine XE.iadd d_Md_read_44 (by first | exact nI_add _ _ | rfl) ?_
      refine XE.iald d_Md_read_45 (Or.inr ⟨by decide, rfl⟩) (by first | assumption | decide | omega) (by first | assumption | exact ixn2 (by assumption) (by omega) (by omega)) (by first | assumption | rfl) ?_
      refine p_Md_116 d_Md_read_46 (by first | assumption | decide | omega) ?_
      refine XE.iconst (x := nI 0) d_Md_read_49 (by decide) ?_
      exact XE.ri d_Md_read_50 ⟨by rw [e]; rfl, by rw [e]; exact fin, FM.sI (Or.inl rfl)⟩
    · have e : redM m (nI x) (nI i) = (-8, m) := by rw [eM, if_pos (te _ h23)]
      refine XE.bipush (x := (-8)) d_Md_read_26 (by decide) ?_
      exact XE.ri d_Md_read_28 ⟨by rw [e], by rw [e]; exact hM, FM.rf⟩
def wrP (m : MS) (x y : Nat) : Bool := !(y == x) && (hO (mh m y) && (hN (mh m y) == hN (mh m x) && hG (mh m y) == nI 1))
def wrH (m : MS) (x : Nat) : MS := setH m (fun y => if (1 ≤ y ∧ y ≤ mH m) ∧ wrP m x y = true then hsG (mh m y) (nI 0) else mh m y)
def wrtM (m : MS) (v c a : Int32) : Int32 × MS :=
  if mayM m v (nI 2) c = false then (-1, m)
  else if (mK m).any (metP m (hOf m v) c.toNatClampNeg (c.toNatClampNeg + 1) true 2) = true then (-8, m)
  else (0, wrH (noteM m (4, hN (mh m (hOf m v)), c, a, 0)) (hOf m v))
set_option maxHeartbeats 1000000 in
theorem Md_write_ok {w : WW} {m : MS} {d : Nat} (hM : RM w m) (hB : WB m) (h11 : mN m + 1 ≤ 1100) (hd : 3 ≤ d) (v c a : Int32) : E_Md_write d [.inr (7, 1), .inl v, .inl c, .inl a] w (fun r w' => r = some (.inl (wrtM m v c a).1) ∧ RM w' (wrtM m v c a).2 ∧ FM w w') := by
  refine S_Md_write ?_
  have hmy := Md_may_ok (d := 2) hM hB (by omega) v (nI 2) c
  have b1 := hB.1
  cases hm : mayM m v (nI 2) c with
  | false =>
    have e : wrtM m v c a = (-1, m) := if_pos hm
    rw [hm] at hmy
    refine XE.aload_n d_Md_write_0 rfl ?_
    refine XE.iload_n d_Md_write_1 rfl ?_
    refine XE.iconst (x := nI 2) d_Md_write_2 (by decide) ?_
    refine XE.iload_n d_Md_write_3 rfl ?_
    refine k_Md_109 2 d_Md_write_4 (by omega) (Nat.le_of_ble_eq_true rfl) (by first | assumption | decide | omega) hmy (fun r1 w1 hm1 hq1 => ?_)
    rw [hq1.1, hq1.2]
    clear hq1 hm1 r1 w1
    refine XE.if_ne 12 d_Md_write_7 (by decide) (fun h7 => absurd h7 ((by decide))) (fun h7 => ?_)
    refine XE.iconst (x := (-1)) d_Md_write_10 (by decide) ?_
    exact XE.ri d_Md_write_11 ⟨by rw [e], by rw [e]; exact hM, FM.rf⟩
  | true =>
    obtain ⟨hx, -, hfo, i, hi, rfl⟩ := mayM_t hm
    have ci : (nI i).toNatClampNeg = i := nI_clamp (by omega)
    obtain ⟨ev, x1, x2, x3⟩ := hOf_nz hB hx
    have eM : wrtM m v (nI i) a = if (mK m).any (metP m (hOf m v) i (i + 1) true 2) = true then (-8, m) else (0, wrH (noteM m (4, hN (mh m (hOf m v)), nI i, a, 0)) (hOf m v)) := by unfold wrtM; rw [if_neg (by rw [hm]; decide), ci]
    rw [hm] at hmy
    generalize hOf m v = x at *
    subst ev
    have n24 := hB.n24 x1 x2
    have hmt := Md_met_ok (d := 1) hM hB x1 x2 (f := i) (e := i + 1) (by omega) (by omega) true 2 (by omega) (by omega)
    have hc : E_Md_h 0 [.inr (7, 1), .inl (nI x), .inl (nI 0)] w (fun r w' => r = some (.inl (nI (hN (mh m x)))) ∧ w' = w) := Md_h_m 0 hM hB x1 x2 (by decide)
    let m1 : MS := noteM m (4, hN (mh m x), nI i, a, 0)
    have hnt : E_Md_note 2 [.inr (7, 1), .inl (nI 4), .inl (nI (hN (mh m x))), .inl (nI i), .inl a, .inl (nI 0)] w (fun r w' => r = none ∧ RM w' m1 ∧ FM w w') :=
      Md_note_ok hM (by omega) hB.un.1 (by decide) ⟨n24, Or.inr (Or.inr (Or.inr ⟨rfl, hB.op x1 x2 x3, i, by omega, rfl⟩))⟩ (by omega)
    have loop : ∀ (w0 : WW), FM w w0 → let fn : Nat → Nat → HR := fun j y => if (1 ≤ y ∧ y < j) ∧ wrP m x y = true then hsG (mh m y) (nI 0) else mh m y
        ∀ k j wj l5, j + k = mH m + 1 → 1 ≤ j → RM wj (setH m1 (fn j)) → FM w0 wj → X_Md_write d 46 [some (.inr (7, 1)), some (.inl (nI x)), some (.inl (nI i)), some (.inl a), some (.inl (nI j)), l5] [] wj (fun r w' => r = some (.inl (nI 0)) ∧ RM w' (setH m1 (fn (mH m + 1))) ∧ FM w w') := by
      intro w0 hF0 fn k
      induction k with
      | zero =>
        intro j wj _ h1 h2 hR hF
        have hn : wI wj 7 1 10 = nI (mH m) := hR.2.2.2.2.2.2.1
        have e : j = mH m + 1 := h1
        subst e
        refine XE.iload d_Md_write_46 rfl ?_
        refine XE.aload_n d_Md_write_48 rfl ?_
        refine g_Md_41 d_Md_write_49 (by first | assumption | decide | omega) (by first | assumption | rfl) ?_
        refine XE.icmp_gt 131 d_Md_write_52 (by decide) (fun h52 => ?_) (fun h52 => absurd h52 ((by rw [lt_nI (by omega) (by omega)]; omega)))
        refine XE.iconst (x := nI 0) d_Md_write_131 (by decide) ?_
        exact XE.ri d_Md_write_132 ⟨rfl, hR, hF0.tr hF⟩
      | succ k ih =>
        intro j wj l5 h1 h2 hR hF
        have hn' : wI wj 7 1 10 = nI (mH m) := hR.2.2.2.2.2.2.1
        have s11 := hR.1.2.2.2.2.2.2.2.1
        have l7 := hR.1.2.2.2.2.2.2.2.2.2.2.2.2.2.2.2.2.2.1
        have hHj : ∀ f, f < 7 → wI wj 117 1 (7 * j + f) = hrF (mh m j) f := fun f hf => by
          have := hR.2.2.2.2.2.2.2.1 j h2 (by show j ≤ mH m; omega) f hf
          rw [this]
          show hrF (fn j j) f = _
          simp [fn]
        have hHx : wI wj 117 1 (7 * x + 0) = nI (hN (mh m x)) := by
          have := hR.2.2.2.2.2.2.2.1 x x1 x2 0 (by decide)
          rw [this]
          show nI (hN (fn j x)) = _
          simp only [fn]
          split <;> rfl
        have hc : ∀ f, f < 7 → E_Md_h 0 [.inr (7, 1), .inl (nI j), .inl (nI f)] wj (fun r w' => r = some (.inl (hrF (mh m j) f)) ∧ w' = wj) := fun f hf => by
          rw [← hHj f hf]
          exact Md_h_ok s11 l7 (by omega)
        have hcx : E_Md_h 0 [.inr (7, 1), .inl (nI x), .inl (nI 0)] wj (fun r w' => r = some (.inl (nI (hN (mh m x)))) ∧ w' = wj) := by
          rw [← hHx]
          exact Md_h_ok s11 l7 (by omega)
        have e1 : ¬ wrP m x j = true → fn j = fn (j + 1) := fun h => by
          funext y
          by_cases hy : y = j
          · subst hy; simp [fn, h]
          · have : (1 ≤ y ∧ y < j) ↔ (1 ≤ y ∧ y < j + 1) := by omega
            simp only [fn, this]
        have e2 : wrP m x j = true → uf (fn j) j (hsG (mh m j) (nI 0)) = fn (j + 1) := fun h => by
          funext y
          by_cases hy : y = j
          · subst hy; simp [fn, h, uf_s, h2]
          · rw [uf_n _ _ hy]
            have : (1 ≤ y ∧ y < j) ↔ (1 ≤ y ∧ y < j + 1) := by omega
            simp only [fn, this]
        have nj := hB.n24 h2 (by omega : j ≤ mH m)
        have hp : wrP m x j = true ↔ (¬ nI j = nI x ∧ hrF (mh m j) 6 = nI 1 ∧ hrF (mh m j) 0 = nI (hN (mh m x))) ∧ hrF (mh m j) 3 = nI 1 := by
          show wrP m x j = true ↔ (¬ nI j = nI x ∧ bI (hO (mh m j)) = nI 1 ∧ nI (hN (mh m j)) = nI (hN (mh m x))) ∧ hG (mh m j) = nI 1
          rw [eq_nI (by omega) (by omega), eq_nI (by omega) (by omega), show (nI 1 : Int32) = 1 from rfl, bI_eq1]
          simp [wrP, and_assoc]; exact fun _ _ _ => Iff.rfl
        have hs2 : RM (sI wj 117 1 (7 * j + 3) (nI 0)) (setH m1 (uf (fn j) j (hsG (mh m j) (nI 0)))) := hR.hset (f := 3) (v := nI 0) (h' := hsG (mh m j) (nI 0)) h2 (by decide) (fun g hg => by
          show _ = if g = 3 then nI 0 else hrF (fn j j) g
          rw [show fn j j = mh m j by simp [fn]]
          match g, hg with
          | 0, _ => rfl
          | 1, _ => rfl
          | 2, _ => rfl
          | 3, _ => rfl
          | 4, _ => rfl
          | 5, _ => rfl
          | 6, _ => rfl)
        have nox : ¬ wrP m x j = true → ∀ l5, X_Md_write d 46 [some (.inr (7, 1)), some (.inl (nI x)), some (.inl (nI i)), some (.inl a), some (.inl (nI (j + 1))), l5] [] wj (fun r w' => r = some (.inl (nI 0)) ∧ RM w' (setH m1 (fn (mH m + 1))) ∧ FM w w') := fun h l5 => ih (j + 1) wj l5 (by omega) (by omega) (by rw [← e1 h]; exact hR) hF
        have out : ∀ o : Bool, (o = true ↔ (¬ nI j = nI x ∧ hrF (mh m j) 6 = nI 1 ∧ hrF (mh m j) 0 = nI (hN (mh m x)))) → X_Md_write d 94 [some (.inr (7, 1)), some (.inl (nI x)), some (.inl (nI i)), some (.inl a), some (.inl (nI j)), l5] [.inl (bI o)] wj (fun r w' => r = some (.inl (nI 0)) ∧ RM w' (setH m1 (fn (mH m + 1))) ∧ FM w w') := by
          intro o ho
          refine XE.istore d_Md_write_94 (by decide) ?_
          refine XE.iload d_Md_write_96 rfl ?_
          refine XE.if_eq 125 d_Md_write_98 (by decide) (fun h98 => ?_) (fun h98 => ?_)
          · have z := nox (fun y => by rw [ho.mpr (hp.mp y).1] at h98; exact absurd h98 (by decide)) (some (.inl (bI o)))
            refine XE.iinc d_Md_write_125 rfl (inc_nI _) ?_
            refine XE.goto 46 d_Md_write_128 (by decide) ?_
            exact z
          · refine XE.aload_n d_Md_write_101 rfl ?_
            refine XE.iload d_Md_write_102 rfl ?_
            refine XE.iconst (x := nI 3) d_Md_write_104 (by decide) ?_
            refine k_Md_49 0 d_Md_write_105 (by omega) (Nat.le_of_ble_eq_true rfl) (by first | assumption | decide | omega) (hc 3 (by decide)) (fun r1 w1 hm1 hq1 => ?_)
            rw [hq1.1, hq1.2]
            clear hq1 hm1 r1 w1
            refine XE.iconst (x := nI 1) d_Md_write_108 (by decide) ?_
            refine XE.icmp_ne 125 d_Md_write_109 (by decide) (fun h109 => ?_) (fun h109 => ?_)
            · have z := nox (fun y => h109 (hp.mp y).2) (some (.inl (bI o)))
              refine XE.iinc d_Md_write_125 rfl (inc_nI _) ?_
              refine XE.goto 46 d_Md_write_128 (by decide) ?_
              exact z
            · have z := ih (j + 1) (sI wj 117 1 (7 * j + 3) (nI 0)) (some (.inl (bI o))) (by omega) (by omega) (by rw [← e2 (hp.mpr ⟨ho.mp (te _ h98), h109⟩)]; exact hs2) (hF.tr (FM.sI (Or.inr (by decide))))
              refine XE.aload_n d_Md_write_112 rfl ?_
              refine g_Md_32 d_Md_write_113 (by first | assumption | decide | omega) (by first | assumption | rfl) ?_
              refine XE.bipush (x := nI 7) d_Md_write_116 (by decide) ?_
              refine XE.iload d_Md_write_118 rfl ?_
              refine XE.imul d_Md_write_120 (by first | exact pk_mul _ _ | rfl) ?_
              refine XE.iconst (x := nI 3) d_Md_write_121 (by decide) ?_
              refine XE.iadd d_Md_write_122 (by first | exact nI_add _ _ | rfl) ?_
              refine XE.iconst (x := nI 0) d_Md_write_123 (by decide) ?_
              refine XE.iast d_Md_write_124 (by decide) rfl (by first | assumption | decide | omega) (by first | assumption | exact ixn2 (by assumption) (by omega) (by omega)) ?_
              refine XE.iinc d_Md_write_125 rfl (inc_nI _) ?_
              refine XE.goto 46 d_Md_write_128 (by decide) ?_
              exact z
        refine XE.iload d_Md_write_46 rfl ?_
        refine XE.aload_n d_Md_write_48 rfl ?_
        refine g_Md_41 d_Md_write_49 (by first | assumption | decide | omega) (by first | assumption | rfl) ?_
        refine XE.icmp_gt 131 d_Md_write_52 (by decide) (fun h52 => absurd h52 ((by rw [lt_nI (by omega) (by omega)]; omega))) (fun h52 => ?_)
        refine XE.iload d_Md_write_55 rfl ?_
        refine XE.iload_n d_Md_write_57 rfl ?_
        refine XE.icmp_eq 93 d_Md_write_58 (by decide) (fun h58 => ?_) (fun h58 => ?_)
        · have z := out false (by constructor; intro y; cases y; intro y; exact absurd h58 y.1)
          refine XE.iconst (x := nI 0) d_Md_write_93 (by decide) ?_
          exact z
        · refine XE.aload_n d_Md_write_61 rfl ?_
          refine XE.iload d_Md_write_62 rfl ?_
          refine XE.bipush (x := nI 6) d_Md_write_64 (by decide) ?_
          refine k_Md_49 0 d_Md_write_66 (by omega) (Nat.le_of_ble_eq_true rfl) (by first | assumption | decide | omega) (hc 6 (by decide)) (fun r1 w1 hm1 hq1 => ?_)
          rw [hq1.1, hq1.2]
          clear hq1 hm1 r1 w1
          refine XE.iconst (x := nI 1) d_Md_write_69 (by decide) ?_
          refine XE.icmp_ne 93 d_Md_write_70 (by decide) (fun h70 => ?_) (fun h70 => ?_)
          · have z := out false (by constructor; intro y; cases y; intro y; exact absurd y.2.1 h70)
            refine XE.iconst (x := nI 0) d_Md_write_93 (by decide) ?_
            exact z
          · refine XE.aload_n d_Md_write_73 rfl ?_
            refine XE.iload d_Md_write_74 rfl ?_
            refine XE.iconst (x := nI 0) d_Md_write_76 (by decide) ?_
            refine k_Md_49 0 d_Md_write_77 (by omega) (Nat.le_of_ble_eq_true rfl) (by first | assumption | decide | omega) (hc 0 (by decide)) (fun r1 w1 hm1 hq1 => ?_)
            rw [hq1.1, hq1.2]
            clear hq1 hm1 r1 w1
            refine XE.aload_n d_Md_write_80 rfl ?_
            refine XE.iload_n d_Md_write_81 rfl ?_
            refine XE.iconst (x := nI 0) d_Md_write_82 (by decide) ?_
            refine k_Md_49 0 d_Md_write_83 (by omega) (Nat.le_of_ble_eq_true rfl) (by first | assumption | decide | omega) hcx (fun r1 w1 hm1 hq1 => ?_)
            rw [hq1.1, hq1.2]
            clear hq1 hm1 r1 w1
            refine XE.icmp_ne 93 d_Md_write_86 (by decide) (fun h86 => ?_) (fun h86 => ?_)
            · have z := out false (by constructor; intro y; cases y; intro y; exact absurd y.2.2 h86)
              refine XE.iconst (x := nI 0) d_Md_write_93 (by decide) ?_
              exact z
            · have z := out true (by constructor; intro y; exact ⟨h58, h70, h86⟩; intro y; rfl)
              refine XE.iconst (x := nI 1) d_Md_write_89 (by decide) ?_
              refine XE.goto 94 d_Md_write_90 (by decide) ?_
              exact z
    have f1 : (fun y => if (1 ≤ y ∧ y < 1) ∧ wrP m x y = true then hsG (mh m y) (nI 0) else mh m y) = mh m := by
      funext y
      rw [if_neg (by omega)]
    have f2 : setH m1 (fun y => if (1 ≤ y ∧ y < mH m + 1) ∧ wrP m x y = true then hsG (mh m y) (nI 0) else mh m y) = wrH m1 x := by
      unfold wrH
      congr 1
      funext y
      have : (1 ≤ y ∧ y < mH m + 1) ↔ (1 ≤ y ∧ y ≤ mH m1) := by show _ ↔ (1 ≤ y ∧ y ≤ mH m); omega
      simp only [this]
      rfl
    refine XE.aload_n d_Md_write_0 rfl ?_
    refine XE.iload_n d_Md_write_1 rfl ?_
    refine XE.iconst (x := nI 2) d_Md_write_2 (by decide) ?_
    refine XE.iload_n d_Md_write_3 rfl ?_
    refine k_Md_109 2 d_Md_write_4 (by omega) (Nat.le_of_ble_eq_true rfl) (by first | assumption | decide | omega) hmy (fun r1 w1 hm1 hq1 => ?_)
    rw [hq1.1, hq1.2]
    clear hq1 hm1 r1 w1
    refine XE.if_ne 12 d_Md_write_7 (by decide) (fun h7 => ?_) (fun h7 => absurd h7 ((by decide)))
    refine XE.aload_n d_Md_write_12 rfl ?_
    refine XE.iload_n d_Md_write_13 rfl ?_
    refine XE.iload_n d_Md_write_14 rfl ?_
    refine XE.iload_n d_Md_write_15 rfl ?_
    refine XE.iconst (x := nI 1) d_Md_write_16 (by decide) ?_
    refine XE.iadd d_Md_write_17 (by first | exact nI_add _ _ | rfl) ?_
    refine XE.iconst (x := nI 1) d_Md_write_18 (by decide) ?_
    refine XE.iconst (x := nI 2) d_Md_write_19 (by decide) ?_
    refine k_Md_112 1 d_Md_write_20 (by omega) (Nat.le_of_ble_eq_true rfl) (by first | assumption | decide | omega) hmt (fun r1 w1 hm1 hq1 => ?_)
    rw [hq1.1, hq1.2]
    clear hq1 hm1 r1 w1
    refine XE.if_eq 29 d_Md_write_23 (by decide) (fun h23 => ?_) (fun h23 => ?_)
    · have e : wrtM m (nI x) (nI i) a = (0, wrH m1 x) := by rw [eM, if_neg (by rw [(bI_eq0 _).mp h23]; decide)]
      refine XE.aload_n d_Md_write_29 rfl ?_
      refine XE.iconst (x := nI 4) d_Md_write_30 (by decide) ?_
      refine XE.aload_n d_Md_write_31 rfl ?_
      refine XE.iload_n d_Md_write_32 rfl ?_
      refine XE.iconst (x := nI 0) d_Md_write_33 (by decide) ?_
      refine k_Md_49 0 d_Md_write_34 (by omega) (Nat.le_of_ble_eq_true rfl) (by first | assumption | decide | omega) hc (fun r1 w1 hm1 hq1 => ?_)
      rw [hq1.1, hq1.2]
      clear hq1 hm1 r1 w1
      refine XE.iload_n d_Md_write_37 rfl ?_
      refine XE.iload_n d_Md_write_38 rfl ?_
      refine XE.iconst (x := nI 0) d_Md_write_39 (by decide) ?_
      refine k_Md_73 2 d_Md_write_40 (by omega) (Nat.le_of_ble_eq_true rfl) (by first | assumption | decide | omega) hnt (fun y1 w2 hm1 hq1 => ?_)
      obtain ⟨rfl, hM2, hF2⟩ := hq1
      refine XE.iconst (x := nI 1) d_Md_write_43 (by decide) ?_
      refine XE.istore d_Md_write_44 (by decide) ?_
      refine (loop w2 hF2 (mH m) 1 w2 none (by omega) (by omega) (by dsimp only; rw [f1]; exact hM2) FM.rf).mono (fun r w' z => ⟨z.1.trans ?_, ?_, z.2.2⟩)
      rw [e]; rfl
      rw [e, ← f2]; exact z.2.1
    · have e : wrtM m (nI x) (nI i) a = (-8, m) := by rw [eM, if_pos (te _ h23)]
      refine XE.bipush (x := (-8)) d_Md_write_26 (by decide) ?_
      exact XE.ri d_Md_write_28 ⟨by rw [e], by rw [e]; exact hM, FM.rf⟩
