/-! THE CLASS: handles made, grants broken -/
theorem lkL_cg {m m' : MS} (eK : mK m' = mK m) (h : ∀ k ∈ mK m, hN (mh m' k.1) = hN (mh m k.1)) (n : Nat) : lkL m' n = lkL m n := by
  unfold lkL
  rw [eK]
  exact List.filter_congr (fun k hk => by rw [h k hk])
theorem KC.cg {w : WW} {m m' : MS} (h : KC w m) (eT : mT m' = mT m) (e : ∀ n, lkL m' n = lkL m n) : KC w m' := by
  intro n hn ht
  rw [eT] at ht
  rw [e n]
  exact h n hn ht
theorem opL_cg {m m' : MS} (eH : mH m' = mH m) (h : ∀ x, 1 ≤ x → x ≤ mH m → hO (mh m' x) = hO (mh m x)) : opL m' = opL m := by
  unfold opL
  rw [eH]
  exact List.filter_congr (fun x hx => by have := List.mem_range'_1.mp hx; rw [h x (by omega) (by omega)])
theorem HDR.fr {w w' : WW} {x : Nat} {h : HR} (q : HDR w x h) (e : ∀ j, wI w' 2 x j = wI w 2 x j) : HDR w' x h := by
  unfold HDR
  rw [e, e, e, e, e, e]
  exact q
section HND
variable {w : WW} {m : MS} {d : Nat}
theorem CR.gset (hR : CR w m) (hB : WB m) {x : Nat} (v : Int32) : CR (sI w 2 x 6 v) (setH m (uf (mh m) x (hsG (mh m x) v))) := by
  obtain ⟨c1, c2, c3, c4, c5, c6, c7, c8⟩ := hR
  have eN : ∀ y, hN (uf (mh m) x (hsG (mh m x) v) y) = hN (mh m y) ∧ hO (uf (mh m) x (hsG (mh m x) v) y) = hO (mh m y) := fun y => by
    by_cases e : y = x
    · subst e; rw [uf_s]; exact ⟨rfl, rfl⟩
    · rw [uf_n _ _ e]; exact ⟨rfl, rfl⟩
  refine ⟨c1, c2, c3, c4, KC.cg (m := m) c5 rfl (lkL_cg rfl (fun k _ => (eN k.1).1)), ?_, c7, c8⟩
  obtain ⟨h1, h2, h3, h4, h5, h6⟩ := c6
  have eo := opL_cg (m := m) (m' := setH m (uf (mh m) x (hsG (mh m x) v))) rfl (fun y _ _ => (eN y).2)
  refine ⟨h1, h2, fun y y1 y2 => ?_, fun y y1 y2 y3 => ?_, ?_, ?_⟩
  · have q := h3 y y1 y2
    show HDR (sI w 2 x 6 v) y (uf (mh m) x (hsG (mh m x) v) y)
    by_cases e : y = x
    · subst e
      rw [uf_s]
      obtain ⟨a0, a2, a3, a4, a5, a6⟩ := q
      refine ⟨?_, ?_, ?_, ?_, ?_, ?_⟩
      · rw [wI_sI, if_neg (by omega)]; exact a0
      · rw [wI_sI, if_neg (by omega)]; exact a2
      · rw [wI_sI, if_neg (by omega)]; exact a3
      · rw [wI_sI, if_neg (by omega)]; exact a4
      · rw [wI_sI, if_neg (by omega)]; exact a5
      · rw [wI_sI, if_pos ⟨rfl, rfl, rfl⟩]; rfl
    · rw [uf_n _ _ e]
      exact q.fr (fun j => by rw [wI_sI, if_neg (fun z => e z.2.1)])
  · have y3 : hO (uf (mh m) x (hsG (mh m x) v) y) = true := y3
    rw [(eN y).2] at y3
    show wR w 2 y 1 = wR w 100 1 (hN (uf (mh m) x (hsG (mh m x) v) y))
    rw [(eN y).1]
    exact h4 y y1 y2 y3
  · rw [eo]; exact h5
  · rw [eo]; exact h6
theorem brkA_op (m : MS) (n : Nat) : brkA m n = (opL m).any (fun x => hN (mh m x) == n && decide (nI 2 ≤ hG (mh m x))) := by
  unfold brkA opL
  rw [List.any_filter]
  rfl
theorem brk_one (hB : WB m) (hI : MI m) {x n : Nat} (e2 : 1 ≤ x) (e3 : x ≤ mH m) (e4 : hO (mh m x) = true) (q1 : hN (mh m x) = n) (q2 : nI 2 ≤ hG (mh m x)) : brkM m n = setH m (uf (mh m) x (hsG (mh m x) (nI 3))) := by
  unfold brkM
  congr 1
  funext y
  by_cases h : y = x
  · subst h
    rw [uf_s, if_pos ⟨⟨e2, e3⟩, by unfold brkP; rw [e4, beq_iff_eq.mpr q1, decide_eq_true q2]; rfl⟩]
  · rw [uf_n _ _ h, if_neg]
    rintro ⟨⟨y1, y2⟩, y3⟩
    unfold brkP at y3
    simp only [Bool.and_eq_true, beq_iff_eq, decide_eq_true_eq] at y3
    exact h (hI.2.2.2.1 y x y1 y2 e2 e3 y3.1 e4 (y3.2.1.trans q1.symm) y3.2.2 q2)
theorem SS_breaks_ok {n : Nat} (hR : CR w m) (hB : WB m) (hI : MI m) (hn : n ≤ 24) (ht : tT (mT m) n = true) : E_SS_breaksGrant d [.inr (0, 1), .inr (1, wR w 100 1 n)] w (fun r w' => r = some (.inl (bI (brkA m n))) ∧ CR w' (brkM m n) ∧ FC 0 w w' ∧ ∀ i, wR w' 100 1 i = wR w 100 1 i) := by
  refine S_SS_breaksGrant ?_
  have h12 := hR.op hI
  obtain ⟨s0, s2, s5, s7, g0, l0, l1, l2, l5⟩ := hR.1
  have hoc := hR.2.2.2.2.2.1.2.2.2.2.1
  have loop : ∀ k i l3, i + k = (opL m).length → (∀ t (h : t < (opL m).length), t < i → (hN (mh m (opL m)[t]) == n && decide (nI 2 ≤ hG (mh m (opL m)[t]))) = false) → X_SS_breaksGrant d 2 [some (.inr (0, 1)), some (.inr (1, wR w 100 1 n)), some (.inl (nI i)), l3] [] w (fun r w' => r = some (.inl (bI (brkA m n))) ∧ CR w' (brkM m n) ∧ FC 0 w w' ∧ ∀ i, wR w' 100 1 i = wR w 100 1 i) := by
    intro k
    induction k with
    | zero =>
      intro i l3 hi hno
      have e : brkA m n = false := by
        rw [brkA_op, List.any_eq_false]
        intro x hx
        obtain ⟨t, ht, rfl⟩ := List.mem_iff_getElem.mp hx
        rw [hno t ht (by omega)]
        decide
      rw [e, brkM_no e]
      refine XE.iload_n d_SS_breaksGrant_2 rfl ?_
      refine XE.aload_n d_SS_breaksGrant_3 rfl ?_
      refine g_SS_94 d_SS_breaksGrant_4 (by first | assumption | decide | omega) (by first | assumption | rfl) ?_
      refine XE.icmp_ge 46 d_SS_breaksGrant_7 (by decide) (fun h7 => ?_) (fun h7 => absurd h7 ((fun z => z ((le_nI (by omega) (by omega)).mpr (by omega)))))
      refine XE.iconst (x := nI 0) d_SS_breaksGrant_46 (by decide) ?_
      exact XE.rb d_SS_breaksGrant_47 (by decide) ⟨rfl, hR, FC.rf, fun _ => rfl⟩
    | succ k ih =>
      intro i l3 hi hno
      have hlt : i < (opL m).length := by omega
      have hix : IXN (nI i) (wL w 101 1) i := IXN.nI (by omega) (by omega)
      obtain ⟨e1, e2, e3, e4, e5, e6⟩ := hR.oph hB hlt
      have go : ∀ l3, (hN (mh m (opL m)[i]) == n && decide (nI 2 ≤ hG (mh m (opL m)[i]))) = false → X_SS_breaksGrant d 2 [some (.inr (0, 1)), some (.inr (1, wR w 100 1 n)), some (.inl (nI (i + 1))), l3] [] w (fun r w' => r = some (.inl (bI (brkA m n))) ∧ CR w' (brkM m n) ∧ FC 0 w w' ∧ ∀ i, wR w' 100 1 i = wR w 100 1 i) := fun l3 h =>
        ih (i + 1) l3 (by omega) (fun t ht h2 => by
          by_cases e : t = i
          · subst e; exact h
          · exact hno t ht (by omega))
      generalize hX : (opL m)[i] = x at *
      have h0 : x ≠ 0 := by omega
      have e7 := e6.2.2.2.2.2
      have hsm := hR.same hB e2 e3 e4 hn ht
      refine XE.iload_n d_SS_breaksGrant_2 rfl ?_
      refine XE.aload_n d_SS_breaksGrant_3 rfl ?_
      refine g_SS_94 d_SS_breaksGrant_4 (by first | assumption | decide | omega) (by first | assumption | rfl) ?_
      refine XE.icmp_ge 46 d_SS_breaksGrant_7 (by decide) (fun h7 => absurd h7 ((fun z => by have := (le_nI (by omega) (by omega)).mp z; omega))) (fun h7 => ?_)
      refine XE.aload_n d_SS_breaksGrant_10 rfl ?_
      refine g_SS_20 d_SS_breaksGrant_11 (by first | assumption | decide | omega) (by first | assumption | rfl) ?_
      refine XE.iload_n d_SS_breaksGrant_14 rfl ?_
      refine XE.aald d_SS_breaksGrant_15 (by decide) rfl (by first | assumption | decide | omega) (by first | assumption | exact ixn2 (by assumption) (by omega) (by omega)) (by first | assumption | rfl) ?_
      refine XE.astore_n d_SS_breaksGrant_16 (by decide) ?_
      refine XE.aload_n d_SS_breaksGrant_17 rfl ?_
      refine g_SS_76 d_SS_breaksGrant_18 (by first | assumption | decide | omega) (by first | assumption | rfl) ?_
      refine XE.aload_n d_SS_breaksGrant_21 rfl ?_
      refine XE.acmp_ne 40 d_SS_breaksGrant_22 (by decide) (by decide) (fun h22 => ?_) (fun h22 => ?_)
      · have q : (hN (mh m x) == n && decide (nI 2 ≤ hG (mh m x))) = false := by rw [beq_eq_false_iff_ne.mpr (fun z => h22 (hsm.mpr z))]; rfl
        refine XE.iinc d_SS_breaksGrant_40 rfl (inc_nI _) ?_
        refine XE.goto 2 d_SS_breaksGrant_43 (by decide) ?_
        exact go _ q
      · refine XE.aload_n d_SS_breaksGrant_25 rfl ?_
        refine g_SS_70 d_SS_breaksGrant_26 (by first | assumption | decide | omega) (by first | assumption | rfl) ?_
        refine XE.iconst (x := nI 2) d_SS_breaksGrant_29 (by decide) ?_
        refine XE.icmp_lt 40 d_SS_breaksGrant_30 (by decide) (fun h30 => ?_) (fun h30 => ?_)
        · have q : (hN (mh m x) == n && decide (nI 2 ≤ hG (mh m x))) = false := by rw [decide_eq_false (Int32.not_le.mpr h30), Bool.and_false]
          refine XE.iinc d_SS_breaksGrant_40 rfl (inc_nI _) ?_
          refine XE.goto 2 d_SS_breaksGrant_43 (by decide) ?_
          exact go _ q
        · have q1 := hsm.mp h22
          have q2 := Int32.not_lt.mp h30
          have ea : brkA m n = true := by rw [brkA_op, List.any_eq_true]; exact ⟨x, opL_mem.mpr ⟨⟨e2, e3⟩, e4⟩, by rw [beq_iff_eq.mpr q1, decide_eq_true q2]; rfl⟩
          refine XE.aload_n d_SS_breaksGrant_33 rfl ?_
          refine XE.iconst (x := nI 3) d_SS_breaksGrant_34 (by decide) ?_
          refine p_SS_70 d_SS_breaksGrant_35 (by first | assumption | decide | omega) ?_
          refine XE.iconst (x := nI 1) d_SS_breaksGrant_38 (by decide) ?_
          rw [ea]; refine XE.rb d_SS_breaksGrant_39 (by decide) ⟨rfl, ?_, FC.sI (by decide), fun _ => rfl⟩
          have eM : brkM m n = setH m (uf (mh m) x (hsG (mh m x) (nI 3))) := brk_one hB hI e2 e3 e4 q1 q2
          rw [eM]; exact hR.gset hB (nI 3)
  refine XE.iconst (x := nI 0) d_SS_breaksGrant_0 (by decide) ?_
  refine XE.istore_n d_SS_breaksGrant_1 (by decide) ?_
  exact loop (opL m).length 0 _ (by omega) (fun t _ h => absurd h (Nat.not_lt_zero t))
/-- the world after a handle was made -/
def mhW (w : WW) (m : MS) (r n : Nat) : WW := sI (sR (hdW (nO (sI w 0 1 4 (nI (mH m + 1))) 2 7) (mH m + 1) (wR w 100 1 n) (nI (mH m + 1)) (qC (mq m r)) (qM (mq m r)) (grG m r n)) 101 1 (opL m).length (mH m + 1)) 0 1 3 (nI ((opL m).length + 1))
theorem wI_mhW (w : WW) (m : MS) (r n x j : Nat) (h : x ≠ mH m + 1) : wI (mhW w m r n) 2 x j = wI w 2 x j := by
  unfold mhW hdW
  simp only [wI_sI, wI_sR, wI_nO, h, false_and, and_false, if_false]
  rw [if_neg (by omega), if_neg (by omega)]
theorem wR_mhW (w : WW) (m : MS) (r n x j : Nat) (h : x ≠ mH m + 1) : wR (mhW w m r n) 2 x j = wR w 2 x j := by
  unfold mhW hdW
  simp only [wR_sI, wR_sR, wR_nO, h, false_and, and_false, if_false]
  rw [if_neg (by omega)]
theorem CR.hadd (hR : CR w m) (hB : WB m) {r n : Nat} : CR (mhW w m r n) (grM m r n) := by
  obtain ⟨c1, c2, c3, c4, c5, c6, c7, c8⟩ := hR
  have e : ∀ x, x ≤ mH m → mh (grM m r n) x = mh m x := fun x h => uf_n _ _ (by omega)
  have e2 : mh (grM m r n) (mH m + 1) = (n, accM (qM (mq m r)), shrM (qM (mq m r)), grG m r n, qC (mq m r), hasM (qM (mq m r)) 512, true) := uf_s _ _ _
  have hk : ∀ k ∈ mK m, hN (mh (grM m r n) k.1) = hN (mh m k.1) := fun k hk => by rw [e _ (hB.2.2.2.2.2.2.1 k hk).2.1]
  have eo : opL (grM m r n) = opL m ++ [mH m + 1] := by
    unfold opL
    show (List.range' 1 (mH m + 1)).filter _ = _
    rw [List.range'_1_concat, List.filter_append, Nat.add_comm 1 (mH m)]
    congr 1
    · exact List.filter_congr (fun x hx => by have := List.mem_range'_1.mp hx; rw [e x (by omega)])
    · rw [List.filter_cons_of_pos (by rw [e2]; rfl)]; rfl
  refine ⟨c1, c2, c3, c4, KC.cg (w := mhW w m r n) (m := m) c5 rfl (lkL_cg rfl hk), ?_, c7, c8⟩
  obtain ⟨h1, h2, h3, h4, h5, h6⟩ := c6
  refine ⟨rfl, ?_, fun x x1 x2 => ?_, fun x x1 x2 x3 => ?_, ?_, ?_⟩
  · show wC w 2 + 1 = mH m + 1
    rw [h2]
  · have x2 : x ≤ mH m + 1 := x2
    by_cases q : x = mH m + 1
    · subst q
      rw [e2]
      unfold mhW hdW HDR
      simp [wI_sI, wI_sR, wI_nO, hC, hA, hS, hR, hG]
    · rw [e x (by omega)]
      exact (h3 x x1 (by omega)).fr (fun j => wI_mhW w m r n x j q)
  · have x2 : x ≤ mH m + 1 := x2
    by_cases q : x = mH m + 1
    · subst q
      rw [e2]
      unfold mhW hdW
      simp [wR_sI, wR_sR, wR_nO, hN]
    · rw [e x (by omega)] at x3 ⊢
      rw [wR_mhW w m r n x 1 q]
      exact h4 x x1 (by omega) x3
  · rw [eo, List.length_append]
    rfl
  · rw [eo]
    refine HO.snoc h6 (fun t ht => ?_) ?_
    · show (if 101 = 101 ∧ 1 = 1 ∧ t = (opL m).length then _ else _) = wR w 101 1 t
      rw [if_neg (by omega)]
      rfl
    · show (if 101 = 101 ∧ 1 = 1 ∧ (opL m).length = (opL m).length then _ else _) = _
      rw [if_pos ⟨rfl, rfl, rfl⟩]
theorem fc_mh {r n : Nat} : FC 0 w (mhW w m r n) := by
  have h0 : (0 : Nat) ≠ 7 ∧ 0 ≠ 99 ∧ 0 < 110 := by decide
  have h2 : (2 : Nat) ≠ 7 ∧ 2 ≠ 99 ∧ 2 < 110 := by decide
  have h1 : (101 : Nat) ≠ 7 ∧ 101 ≠ 99 ∧ 101 < 110 := by decide
  exact (((((((((((FC.sI h0).tr (FC.nO (Or.inl rfl))).tr (FC.sI h2)).tr (FC.sR h2)).tr (FC.sI h2)).tr (FC.sI h2)).tr (FC.sI h2)).tr (FC.sI h2)).tr (FC.sI h2)).tr (FC.sR h1)).tr (FC.sI h0))
theorem SS_makeHandle_ok {r n : Nat} (hR : CR w m) (hB : WB m) (hI : MI m) (r1 : 1 ≤ r) (r2 : r ≤ mQ m) (hn : n ≤ 24) (ht : tT (mT m) n = true) (h12 : nOpen m ≠ 12) (hd : 2 ≤ d) : E_SS_makeHandle d [.inr (0, 1), .inr (3, r), .inr (1, wR w 100 1 n)] w (fun r' w' => r' = some (.inl (nI (mH m + 1))) ∧ CR w' (grM m r n) ∧ FC 0 w w' ∧ GN 0 1 0 w w') := by
  refine S_SS_makeHandle ?_
  have hgf := SS_grantFor_ok (d := 1) hR hB hI r1 r2 hn ht (by omega)
  obtain ⟨s0, s2, s5, s7, g0, l0, l1, l2, l5⟩ := hR.1
  have hoc := hR.2.2.2.2.2.1.2.2.2.2.1
  have c4 := hR.2.2.2.2.2.1.1
  have hC2 := hR.2.2.2.2.2.1.2.1
  have hq := hR.2.2.2.2.2.2.1.2.2.2 r r1 r2
  have r0 : r ≠ 0 := by omega
  have hle : (opL m).length < 12 := by have := hI.1; rw [opL_len]; omega
  have hix : IXN (nI (opL m).length) (wL w 101 1) (opL m).length := IXN.nI (by omega) (by omega)
  have hin : ∀ w1 : WW, wI w1 3 r 0 = qC (mq m r) → wI w1 3 r 3 = qM (mq m r) → E_Hd_init 1 [.inr (2, mH m + 1), .inl (nI (mH m + 1)), .inr (1, wR w 100 1 n), .inr (3, r), .inl (grG m r n)] w1 (fun r' w' => r' = none ∧ w' = hdW w1 (mH m + 1) (wR w 100 1 n) (nI (mH m + 1)) (qC (mq m r)) (qM (mq m r)) (grG m r n)) := fun w1 a b => Hd_init_ok (by omega) r0 a b (by omega)
  have eC : wC (sI w 0 1 4 (nI (mH m + 1))) 2 + 1 = mH m + 1 := congrArg (· + 1) hC2
  refine XE.aload_n d_SS_makeHandle_0 rfl ?_
  refine XE.aload_n d_SS_makeHandle_1 rfl ?_
  refine XE.aload_n d_SS_makeHandle_2 rfl ?_
  refine k_SS_253 1 d_SS_makeHandle_3 (by omega) (Nat.le_of_ble_eq_true rfl) (by first | assumption | decide | omega) hgf (fun r1 w1 hm1 hq1 => ?_)
  rw [hq1.1, hq1.2]
  clear hq1 hm1 r1 w1
  refine XE.istore_n d_SS_makeHandle_6 (by decide) ?_
  refine XE.aload_n d_SS_makeHandle_7 rfl ?_
  refine XE.dup d_SS_makeHandle_8 ?_
  refine g_SS_224 d_SS_makeHandle_9 (by first | assumption | decide | omega) (by first | assumption | rfl) ?_
  refine XE.iconst (x := nI 1) d_SS_makeHandle_12 (by decide) ?_
  refine XE.iadd d_SS_makeHandle_13 (by first | exact nI_add _ _ | rfl) ?_
  refine p_SS_224 d_SS_makeHandle_14 (by first | assumption | decide | omega) ?_
  refine XE.aload_n d_SS_makeHandle_17 rfl ?_
  refine g_SS_20 d_SS_makeHandle_18 (by first | assumption | decide | omega) (by first | assumption | rfl) ?_
  refine XE.aload_n d_SS_makeHandle_21 rfl ?_
  refine g_SS_94 d_SS_makeHandle_22 (by first | assumption | decide | omega) (by first | assumption | rfl) ?_
  refine n_SS_18 d_SS_makeHandle_25 ?_
  rw [eC]
  refine XE.dup d_SS_makeHandle_28 ?_
  refine XE.aload_n d_SS_makeHandle_29 rfl ?_
  refine g_SS_224 d_SS_makeHandle_30 (by first | assumption | decide | omega) (by first | assumption | rfl) ?_
  refine XE.aload_n d_SS_makeHandle_33 rfl ?_
  refine XE.aload_n d_SS_makeHandle_34 rfl ?_
  refine XE.iload_n d_SS_makeHandle_35 rfl ?_
  refine k_SS_256 1 d_SS_makeHandle_36 (by omega) (Nat.le_of_ble_eq_true rfl) (by first | assumption | decide | omega) (hin (nO (sI w 0 1 4 (nI (mH m + 1))) 2 7) hq.1 hq.2.2.2.1) (fun y1 w2 hm1 hq1 => ?_)
  obtain ⟨rfl, rfl⟩ := hq1
  refine XE.aast d_SS_makeHandle_39 (by decide) rfl rfl (by first | exact Or.inl rfl | exact Or.inr rfl) (by first | assumption | decide | omega) (by first | assumption | exact ixn2 (by assumption) (by omega) (by omega)) ?_
  refine XE.aload_n d_SS_makeHandle_40 rfl ?_
  refine XE.dup d_SS_makeHandle_41 ?_
  refine g_SS_94 d_SS_makeHandle_42 (by first | assumption | decide | omega) (by first | assumption | rfl) ?_
  refine XE.iconst (x := nI 1) d_SS_makeHandle_45 (by decide) ?_
  refine XE.iadd d_SS_makeHandle_46 (by first | exact nI_add _ _ | rfl) ?_
  refine p_SS_94 d_SS_makeHandle_47 (by first | assumption | decide | omega) ?_
  refine XE.aload_n d_SS_makeHandle_50 rfl ?_
  refine g_SS_224 d_SS_makeHandle_51 (by first | assumption | decide | omega) (by first | assumption | rfl) ?_
  exact XE.ri d_SS_makeHandle_54 ⟨rfl, hR.hadd hB, fc_mh, rfl, rfl, rfl, rfl, fun k h => by show (if k = 2 then _ else wC w k) = wC w k; rw [if_neg (by omega)]⟩
end HND
