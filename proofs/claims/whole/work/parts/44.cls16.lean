/-! THE CLASS: write -/
def giW (w : WW) (g : Nat → Int32) : WW := (w.1, (fun k o j => if k = 2 ∧ j = 6 then g o else w.2.1 k o j), w.2.2)
theorem wI_giW (w : WW) (g : Nat → Int32) (k o j : Nat) : wI (giW w g) k o j = if k = 2 ∧ j = 6 then g o else wI w k o j := rfl
theorem giW_id (w : WW) : giW w (fun o => wI w 2 o 6) = w := by
  have : (fun k o j => if k = 2 ∧ j = 6 then wI w 2 o 6 else w.2.1 k o j) = w.2.1 := by
    funext k o j
    split
    · rename_i h; rw [h.1, h.2]; rfl
    · rfl
  show (w.1, (fun k o j => if k = 2 ∧ j = 6 then wI w 2 o 6 else w.2.1 k o j), w.2.2) = w
  rw [this]
theorem giW_s (w : WW) (g : Nat → Int32) (z : Nat) (v : Int32) : sI (giW w g) 2 z 6 v = giW w (uf g z v) := by
  show (w.1, _, w.2.2) = (w.1, _, w.2.2)
  congr 2
  funext k o j
  show (if k = 2 ∧ o = z ∧ j = 6 then v else if k = 2 ∧ j = 6 then g o else w.2.1 k o j) = if k = 2 ∧ j = 6 then (if o = z then v else g o) else w.2.1 k o j
  by_cases h : k = 2 ∧ j = 6
  · obtain ⟨rfl, rfl⟩ := h
    simp
  · rw [if_neg h, if_neg h, if_neg (fun q => h ⟨q.1, q.2.2⟩)]
theorem fc_gi (w : WW) (g : Nat → Int32) : FC 0 w (giW w g) := FC.mk0 ⟨fun k o j h => ⟨by rw [wI_giW, if_neg (by omega)], rfl⟩, fun _ _ => rfl, fun _ _ _ => rfl⟩ rfl
section WRT
variable {w : WW} {m : MS} {c d : Nat}
theorem cr_gall (hR : CR w m) (hB : WB m) {g : Nat → Int32} {f : Nat → HR} (hf : ∀ y, 1 ≤ y → y ≤ mH m → f y = hsG (mh m y) (g y)) : CR (giW w g) (setH m f) := by
  obtain ⟨c1, c2, c3, c4, c5, ⟨h1, h2, h3, h4, h5, h6⟩, c7, c8⟩ := hR
  have eo : opL (setH m f) = opL m := opL_cg rfl (fun y y1 y2 => by show hO (f y) = _; rw [hf y y1 y2]; rfl)
  refine ⟨c1, c2, c3, c4, KC.cg (w := giW w g) (m := m) c5 rfl (lkL_cg rfl (fun k hk => ?_)), ⟨h1, h2, fun y y1 y2 => ?_, fun y y1 y2 y3 => ?_, by rw [eo]; exact h5, by rw [eo]; exact h6⟩, c7, c8⟩
  · obtain ⟨a, b⟩ := hB.kb k hk
    show hN (f k.1) = _
    rw [hf k.1 a b]
    rfl
  · obtain ⟨a0, a2, a3, a4, a5, a6⟩ := h3 y y1 y2
    show HDR (giW w g) y (f y)
    rw [hf y y1 y2]
    exact ⟨a0, a2, a3, a4, a5, rfl⟩
  · have y3 : hO (f y) = true := y3
    show wR w 2 y 1 = wR w 100 1 (hN (f y))
    rw [hf y y1 y2] at y3 ⊢
    exact h4 y y1 y2 y3
theorem wrP_t {x y : Nat} : wrP m x y = true ↔ y ≠ x ∧ hO (mh m y) = true ∧ hN (mh m y) = hN (mh m x) ∧ hG (mh m y) = nI 1 := by
  unfold wrP
  rw [Bool.and_eq_true, Bool.and_eq_true, Bool.and_eq_true, beq_iff_eq, beq_iff_eq, Bool.not_eq_true', beq_eq_false_iff_ne]
theorem SS_endShared_ok (hR : CR w m) (hB : WB m) (hI : MI m) {x : Nat} (hX : HX w m x) : E_SS_endSharedGrantsBeside d [.inr (0, 1), .inr (2, x)] w (fun r w' => r = none ∧ CR w' (wrH m x) ∧ ∃ g, w' = giW w g) := by
  refine S_SS_endSharedGrantsBeside ?_
  obtain ⟨x0, x1, x2, x3, x4, x5, x6, x7, x7b, x8, x9, -⟩ := hX
  have h12 := hR.op hI
  obtain ⟨s0, s2, s5, s7, g0, l0, l1, l2, l5⟩ := hR.1
  have hoc := hR.2.2.2.2.2.1.2.2.2.2.1
  have loop : ∀ k i g l3, i + k = (opL m).length → (∀ y, (y ∈ (opL m).take i → wrP m x y = true → g y = 0) ∧ (¬ (y ∈ (opL m).take i ∧ wrP m x y = true) → g y = wI w 2 y 6)) →
      X_SS_endSharedGrantsBeside d 2 [some (.inr (0, 1)), some (.inr (2, x)), some (.inl (nI i)), l3] [] (giW w g) (fun r w' => r = none ∧ CR w' (wrH m x) ∧ ∃ g, w' = giW w g) := by
    intro k
    induction k with
    | zero =>
      intro i g l3 hi hg
      rw [List.take_of_length_le (by omega)] at hg
      have hcr : CR (giW w g) (wrH m x) := by
        refine cr_gall hR hB (fun y y1 y2 => ?_)
        by_cases q : wrP m x y = true
        · rw [if_pos ⟨⟨y1, y2⟩, q⟩, (hg y).1 (opL_mem.mpr ⟨⟨y1, y2⟩, (wrP_t.mp q).2.1⟩) q]
          rfl
        · rw [if_neg (fun z => q z.2), (hg y).2 (fun z => q z.2), (hR.2.2.2.2.2.1.2.2.1 y y1 y2).2.2.2.2.2]
          rfl
      refine XE.iload_n d_SS_endSharedGrantsBeside_2 rfl ?_
      refine XE.aload_n d_SS_endSharedGrantsBeside_3 rfl ?_
      refine g_SS_94 d_SS_endSharedGrantsBeside_4 (by first | assumption | decide | omega) (by first | assumption | rfl) ?_
      refine XE.icmp_ge 52 d_SS_endSharedGrantsBeside_7 (by decide) (fun h7 => ?_) (fun h7 => absurd h7 ((fun z => z ((le_nI (by omega) (by omega)).mpr (by omega)))))
      exact XE.rv d_SS_endSharedGrantsBeside_52 ⟨rfl, hcr, g, rfl⟩
    | succ k ih =>
      intro i g l3 hi hg
      have hlt : i < (opL m).length := by omega
      have hix : IXN (nI i) (wL (giW w g) 101 1) i := IXN.nI (by show i < wL w 101 1; omega) (by show wL w 101 1 ≤ _; omega)
      obtain ⟨e1, e2, e3, e4, e5, e6⟩ := hR.oph hB hlt
      have tk : ∀ y, y ∈ (opL m).take (i + 1) ↔ y ∈ (opL m).take i ∨ y = (opL m)[i] := fun y => by
        rw [List.take_succ_eq_append_getElem hlt, List.mem_append, List.mem_singleton]
      have go : ∀ l3, (wrP m x (opL m)[i] = true → g (opL m)[i] = 0) → X_SS_endSharedGrantsBeside d 2 [some (.inr (0, 1)), some (.inr (2, x)), some (.inl (nI (i + 1))), l3] [] (giW w g) (fun r w' => r = none ∧ CR w' (wrH m x) ∧ ∃ g, w' = giW w g) := fun l3 h =>
        ih (i + 1) g l3 (by omega) (fun y => ⟨fun hy hw => ((tk y).mp hy).elim (fun q => (hg y).1 q hw) (fun q => by rw [q] at hw ⊢; exact h hw), fun hn => (hg y).2 (fun q => hn ⟨(tk y).mpr (Or.inl q.1), q.2⟩)⟩)
      have st : ∀ l3, wrP m x (opL m)[i] = true → X_SS_endSharedGrantsBeside d 2 [some (.inr (0, 1)), some (.inr (2, x)), some (.inl (nI (i + 1))), l3] [] (sI (giW w g) 2 (opL m)[i] 6 (nI 0)) (fun r w' => r = none ∧ CR w' (wrH m x) ∧ ∃ g, w' = giW w g) := fun l3 h => by
        rw [giW_s]
        refine ih (i + 1) _ l3 (by omega) (fun y => ?_)
        by_cases e : y = (opL m)[i]
        · rw [e, uf_s]
          exact ⟨fun _ _ => rfl, fun hn => absurd ⟨(tk _).mpr (Or.inr rfl), h⟩ hn⟩
        · rw [uf_n _ _ e]
          exact ⟨fun hy hw => ((tk y).mp hy).elim (fun q => (hg y).1 q hw) (fun q => absurd q e), fun hn => (hg y).2 (fun q => hn ⟨(tk y).mpr (Or.inl q.1), q.2⟩)⟩
      have hgz := hg (opL m)[i]
      have e7 := e6.2.2.2.2.2
      generalize hX : (opL m)[i] = z at *
      have z0 : z ≠ 0 := by omega
      have hsm := hR.same hB e2 e3 e4 x4 x5
      refine XE.iload_n d_SS_endSharedGrantsBeside_2 rfl ?_
      refine XE.aload_n d_SS_endSharedGrantsBeside_3 rfl ?_
      refine g_SS_94 d_SS_endSharedGrantsBeside_4 (by first | assumption | decide | omega) (by first | assumption | rfl) ?_
      refine XE.icmp_ge 52 d_SS_endSharedGrantsBeside_7 (by decide) (fun h7 => absurd h7 ((fun z => by have := (le_nI (by omega) (by omega)).mp z; omega))) (fun h7 => ?_)
      refine XE.aload_n d_SS_endSharedGrantsBeside_10 rfl ?_
      refine g_SS_20 d_SS_endSharedGrantsBeside_11 (by first | assumption | decide | omega) (by first | assumption | rfl) ?_
      refine XE.iload_n d_SS_endSharedGrantsBeside_14 rfl ?_
      refine XE.aald (x := z) d_SS_endSharedGrantsBeside_15 (by decide) rfl (by first | assumption | decide | omega) (by first | assumption | exact ixn2 (by assumption) (by omega) (by omega)) (by first | assumption | rfl) ?_
      refine XE.astore_n d_SS_endSharedGrantsBeside_16 (by decide) ?_
      refine XE.aload_n d_SS_endSharedGrantsBeside_17 rfl ?_
      refine XE.aload_n d_SS_endSharedGrantsBeside_18 rfl ?_
      refine XE.acmp_eq 46 d_SS_endSharedGrantsBeside_19 (by decide) (by decide) (fun h19 => ?_) (fun h19 => ?_)
      · have q := go (some (.inr (2, z))) (fun y => absurd h19 (wrP_t.mp y).1)
        refine XE.iinc d_SS_endSharedGrantsBeside_46 rfl (inc_nI _) ?_
        refine XE.goto 2 d_SS_endSharedGrantsBeside_49 (by decide) ?_
        exact q
      · refine XE.aload_n d_SS_endSharedGrantsBeside_22 rfl ?_
        refine g_SS_76 (x := wR w 100 1 (hN (mh m z))) d_SS_endSharedGrantsBeside_23 (by first | assumption | decide | omega) (by first | assumption | rfl) ?_
        refine XE.aload_n d_SS_endSharedGrantsBeside_26 rfl ?_
        refine g_SS_76 (x := wR w 100 1 (hN (mh m x))) d_SS_endSharedGrantsBeside_27 (by first | assumption | decide | omega) (by first | assumption | rfl) ?_
        refine XE.acmp_ne 46 d_SS_endSharedGrantsBeside_30 (by decide) (by decide) (fun h30 => ?_) (fun h30 => ?_)
        · have q := go (some (.inr (2, z))) (fun y => absurd (hsm.mpr (wrP_t.mp y).2.2.1) h30)
          refine XE.iinc d_SS_endSharedGrantsBeside_46 rfl (inc_nI _) ?_
          refine XE.goto 2 d_SS_endSharedGrantsBeside_49 (by decide) ?_
          exact q
        · refine XE.aload_n d_SS_endSharedGrantsBeside_33 rfl ?_
          refine g_SS_70 (x := g z) d_SS_endSharedGrantsBeside_34 (by first | assumption | decide | omega) (by first | assumption | rfl) ?_
          refine XE.iconst (x := nI 1) d_SS_endSharedGrantsBeside_37 (by decide) ?_
          refine XE.icmp_ne 46 d_SS_endSharedGrantsBeside_38 (by decide) (fun h38 => ?_) (fun h38 => ?_)
          · have q := go (some (.inr (2, z))) (fun y => Classical.byContradiction (fun n => h38 (by rw [hgz.2 (fun u => n (hgz.1 u.1 y)), e7]; exact (wrP_t.mp y).2.2.2)))
            refine XE.iinc d_SS_endSharedGrantsBeside_46 rfl (inc_nI _) ?_
            refine XE.goto 2 d_SS_endSharedGrantsBeside_49 (by decide) ?_
            exact q
          · have q := st (some (.inr (2, z))) (wrP_t.mpr ⟨h19, e4, hsm.mp h30, (Classical.em (z ∈ (opL m).take i ∧ wrP m x z = true)).elim (fun u => absurd (h38.symm.trans (hgz.1 u.1 u.2)) (by decide)) (fun u => e7.symm.trans ((hgz.2 u).symm.trans h38))⟩)
            refine XE.aload_n d_SS_endSharedGrantsBeside_41 rfl ?_
            refine XE.iconst (x := nI 0) d_SS_endSharedGrantsBeside_42 (by decide) ?_
            refine p_SS_70 d_SS_endSharedGrantsBeside_43 (by first | assumption | decide | omega) ?_
            refine XE.iinc d_SS_endSharedGrantsBeside_46 rfl (inc_nI _) ?_
            refine XE.goto 2 d_SS_endSharedGrantsBeside_49 (by decide) ?_
            exact q
  have s0' := loop (opL m).length 0 (fun o => wI w 2 o 6) none (by omega) (fun y => ⟨fun h => absurd h (by simp), fun _ => rfl⟩)
  rw [giW_id] at s0'
  refine XE.iconst (x := nI 0) d_SS_endSharedGrantsBeside_0 (by decide) ?_
  refine XE.istore_n d_SS_endSharedGrantsBeside_1 (by decide) ?_
  exact s0'
theorem wb_wrH (hB : WB m) (x : Nat) : WB (wrH m x) := hB.seth (fun y _ _ => by
  split
  · exact ⟨rfl, id⟩
  · exact ⟨rfl, id⟩)
theorem mi_wrH (hI : MI m) (hB : WB m) (x : Nat) : MI (wrH m x) := by
  have e : ∀ y, hN (if (1 ≤ y ∧ y ≤ mH m) ∧ wrP m x y = true then hsG (mh m y) (nI 0) else mh m y) = hN (mh m y) ∧ hO (if (1 ≤ y ∧ y ≤ mH m) ∧ wrP m x y = true then hsG (mh m y) (nI 0) else mh m y) = hO (mh m y) ∧ (nI 2 ≤ hG (if (1 ≤ y ∧ y ≤ mH m) ∧ wrP m x y = true then hsG (mh m y) (nI 0) else mh m y) → nI 2 ≤ hG (mh m y)) := fun y => by
    split
    · exact ⟨rfl, rfl, fun z => absurd z (by show ¬ nI 2 ≤ nI 0; decide)⟩
    · exact ⟨rfl, rfl, id⟩
  exact hI.seth hB.kb (fun y _ _ => ⟨(e y).1, fun z => by rw [← (e y).2.1]; exact z, (e y).2.2⟩) (fun k hk => by rw [(e k.1).2.1]; exact (hI.2.2.1 k hk).1)
theorem wrH_x (m : MS) (x : Nat) : mh (wrH m x) x = mh m x := if_neg (fun z => (wrP_t.mp z.2).1 rfl)
set_option maxHeartbeats 1000000 in
theorem SS_write_ok (hR : CR w m) (hB : WB m) (hI : MI m) (hd : 2 ≤ d) (v cl a : Int32) : E_SS_write d [.inr (0, 1), .inl v, .inl cl, .inl a] w (fun r w' => r = some (.inl (wrtM m v cl a).1) ∧ CR w' (wrtM m v cl a).2 ∧ FC 1 w w') := by
  refine S_SS_write ?_
  have hh := SS_openHandle_ok (d := 0) hR hB hI v
  by_cases hx : hOf m v = 0
  · have e : wrtM m v cl a = (-1, m) := if_pos (by unfold mayM; rw [hx]; rfl)
    rw [hx, nk_z] at hh
    rw [e]
    refine XE.aload_n d_SS_write_0 rfl ?_
    refine XE.iload_n d_SS_write_1 rfl ?_
    refine k_SS_66 0 d_SS_write_2 (by omega) (Nat.le_of_ble_eq_true rfl) (by first | assumption | decide | omega) hh (fun r1 w1 hm1 hq1 => ?_)
    rw [hq1.1, hq1.2]
    clear hq1 hm1 r1 w1
    refine XE.astore d_SS_write_5 (by decide) ?_
    refine XE.aload d_SS_write_7 rfl ?_
    refine XE.ifnull 41 d_SS_write_9 (by decide) (fun h9 => ?_) (fun h9 => absurd h9 ((fun z => z rfl)))
    refine XE.iconst (x := (-1)) d_SS_write_41 (by decide) ?_
    exact XE.ri d_SS_write_42 ⟨rfl, hR, FC.rf1⟩
  · have hX := hR.hx hB hx
    rw [nk_nz hx] at hh
    have em := may_eq (m := m) (v := v) hx bit_2 (by decide) cl
    have eg : wrtM m v cl a = if mayM m v (nI 2) cl = false then (-1, m)
      else if (mK m).any (metP m (hOf m v) cl.toNatClampNeg (cl.toNatClampNeg + 1) true 2) = true then (-8, m)
      else (0, noteM (wrH m (hOf m v)) (4, hN (mh m (hOf m v)), cl, a, 0)) := rfl
    generalize hq : hOf m v = x at *
    have hes := SS_endShared_ok (d := 1) hR hB hI hX
    obtain ⟨x0, x1, x2, x3, x4, x5, x6, x7, x7b, x8, x9, h1, h2, h3, h4, h5, h6⟩ := hX
    have hbl := SS_isBelow_ok (w := w) (d := 0) (b := 31) cl (by decide)
    have hT := hR.ct hB
    have bad : ∀ {pc : Nat} {ls : List (Option VV)}, decode c_SS_write pc = .ok (.ireturn, 1) → mayM m v (nI 2) cl = false → X_SS_write d pc ls [.inl (-1)] w (fun r w' => r = some (.inl (wrtM m v cl a).1) ∧ CR w' (wrtM m v cl a).2 ∧ FC 1 w w') := by
      intro pc ls hdc hn
      have e : wrtM m v cl a = (-1, m) := by rw [eg, if_pos hn]
      exact XE.ri hdc ⟨by rw [e], by rw [e]; exact hR, FC.rf1⟩
    have good : (nI 0 ≤ cl ∧ cl ≤ nI 31) → hasM (hA (mh m x)) 2 = true → tF (mT m) (hN (mh m x)) = false → X_SS_write d 43 [some (.inr (0, 1)), some (.inl v), some (.inl cl), some (.inl a), some (.inr (2, x))] [] w (fun r w' => r = some (.inl (wrtM m v cl a).1) ∧ CR w' (wrtM m v cl a).2 ∧ FC 1 w w') := by
      intro g1 g2 g3
      have hmay : mayM m v (nI 2) cl = true := by rw [em, g2, g3]; simp [g1]
      obtain ⟨i, hi, rfl⟩ := rng0 (by decide) g1
      rw [hmay, if_neg (by decide), nI_clamp (by omega), met_wr] at eg
      have hnl := hR.nl hB hI x4 x5
      obtain ⟨y5, y6, y7⟩ := hR.2.1.2.2.1 _ (Nat.pos_of_ne_zero x7) x7b
      have yl : wL w 103 (wR w 100 1 (hN (mh m x))) = 32 := by
        rcases y7 with ⟨-, y, -⟩ | ⟨y, -⟩
        · exact y
        · rw [x9, g3] at y; exact absurd y (by decide)
      have hix : IXN (nI i) (wL w 103 (wR w 100 1 (hN (mh m x)))) i := IXN.nI (by omega) (by omega)
      have hcv : wI w 103 (wR w 100 1 (hN (mh m x))) i = tC (mT m) (hN (mh m x)) i := ((hT.2 _ x4).2.2 x5).2.2.2.2 g3 i (by omega)
      have hrd := Nd_barsWriting_ok (d := 1) (x := x) x7 hnl hi (by omega)
      obtain ⟨s0, s2, s5, s7, g0, l0, l1, l2, l5⟩ := hR.1
      have k1 := hR.2.2.1.1
      have k2 := hR.2.2.1.2.1
      have hun := hB.un
      have hend : wrtM m v (nI i) a = (0, noteM (wrH m x) (4, hN (mh m x), nI i, a, 0)) → ∀ g, CR (giW w g) (wrH m x) → X_SS_write d 66 [some (.inr (0, 1)), some (.inl v), some (.inl (nI i)), some (.inl a), some (.inr (2, x))] [] (giW w g) (fun r w' => r = some (.inl (wrtM m v (nI i) a).1) ∧ CR w' (wrtM m v (nI i) a).2 ∧ FC 1 w w') := by
        intro e g hR1
        have hcr := cr_written hR1 (wb_wrH hB x) x4 hi x5 g3 a
        have hcg := Cg_init_ok (w := nO (giW w g) 5 4) (d := 1) (o := wC w 5 + 1) (nd := wR w 100 1 (hN (mh m x))) (by omega) (by omega) (nI 3) (nI i) (tC (mT m) (hN (mh m x)) i)
        have hla := Lg_add_ok (w := cgW (nO (giW w g) 5 4) (wC w 5 + 1) (wR w 100 1 (hN (mh m x))) 3 (nI i) (tC (mT m) (hN (mh m x)) i)) (d := 1) (j := mN m - mU m) (u := mU m) (c := wC w 5 + 1) g0 l5 k1 k2 (by omega) (by omega)
        have hu2 : wR (ntW (giW w g) (mN m - mU m) (mU m) (wR w 100 1 (hN (mh m x))) 3 (nI i) (tC (mT m) (hN (mh m x)) i)) 2 x 1 = wR w 100 1 (hN (mh m x)) := by unfold ntW lgW; split <;> exact x6
        have hu3 : wR (ntW (giW w g) (mN m - mU m) (mU m) (wR w 100 1 (hN (mh m x))) 3 (nI i) (tC (mT m) (hN (mh m x)) i)) 1 (wR w 100 1 (hN (mh m x))) 5 = wR w 100 1 (hN (mh m x)) := by unfold ntW lgW; split <;> exact y5
        have hu4 : IXN (nI i) (wL (ntW (giW w g) (mN m - mU m) (mU m) (wR w 100 1 (hN (mh m x))) 3 (nI i) (tC (mT m) (hN (mh m x)) i)) 103 (wR w 100 1 (hN (mh m x)))) i := by unfold ntW lgW; split <;> exact hix
        rw [e]
        refine XE.aload_n d_SS_write_66 rfl ?_
        refine g_SS_33 d_SS_write_67 (by first | assumption | decide | omega) (by first | assumption | rfl) ?_
        refine n_SS_121 d_SS_write_70 ?_
        refine XE.dup d_SS_write_73 ?_
        refine XE.iconst (x := nI 3) d_SS_write_74 (by decide) ?_
        refine XE.aload d_SS_write_75 rfl ?_
        refine g_SS_76 (x := wR w 100 1 (hN (mh m x))) d_SS_write_77 (by first | assumption | decide | omega) (by first | assumption | rfl) ?_
        refine XE.iload_n d_SS_write_80 rfl ?_
        refine XE.aload d_SS_write_81 rfl ?_
        refine g_SS_76 (x := wR w 100 1 (hN (mh m x))) d_SS_write_83 (by first | assumption | decide | omega) (by first | assumption | rfl) ?_
        refine g_SS_143 (x := wR w 100 1 (hN (mh m x))) d_SS_write_86 (by first | assumption | decide | omega) (by first | assumption | rfl) ?_
        refine XE.iload_n d_SS_write_89 rfl ?_
        refine XE.iald (x := tC (mT m) (hN (mh m x)) i) d_SS_write_90 (Or.inr ⟨by decide, rfl⟩) (by first | assumption | decide | omega) (by first | assumption | exact ixn2 (by assumption) (by omega) (by omega)) (by first | assumption | rfl) ?_
        refine k_SS_129 1 d_SS_write_91 (by omega) (Nat.le_of_ble_eq_true rfl) (by first | assumption | decide | omega) hcg (fun y1 w2 hm1 hq1 => ?_)
        obtain ⟨rfl, rfl⟩ := hq1
        refine k_SS_132 1 d_SS_write_94 (by omega) (Nat.le_of_ble_eq_true rfl) (by first | assumption | decide | omega) hla (fun y1 w2 hm1 hq1 => ?_)
        obtain ⟨rfl, rfl⟩ := hq1
        refine XE.aload d_SS_write_97 rfl ?_
        refine g_SS_76 (x := wR w 100 1 (hN (mh m x))) d_SS_write_99 (by first | assumption | decide | omega) (by first | assumption | rfl) ?_
        refine g_SS_143 (x := wR w 100 1 (hN (mh m x))) d_SS_write_102 (by first | assumption | decide | omega) (by first | assumption | rfl) ?_
        refine XE.iload_n d_SS_write_105 rfl ?_
        refine XE.iload_n d_SS_write_106 rfl ?_
        refine XE.iast d_SS_write_107 (by decide) rfl (by first | assumption | decide | omega) (by first | assumption | exact ixn2 (by assumption) (by omega) (by omega)) ?_
        refine XE.iconst (x := nI 0) d_SS_write_108 (by decide) ?_
        exact XE.ri d_SS_write_109 ⟨rfl, hcr, ((fc_gi w g).tr (fc_nt _ _ _ _ _ _)).tr (FC.sI (by decide))⟩
      refine XE.aload d_SS_write_43 rfl ?_
      refine g_SS_76 d_SS_write_45 (by first | assumption | decide | omega) (by first | assumption | rfl) ?_
      refine XE.aload d_SS_write_48 rfl ?_
      refine XE.iload_n d_SS_write_50 rfl ?_
      refine k_SS_150 1 d_SS_write_51 (by omega) (Nat.le_of_ble_eq_true rfl) (by first | assumption | decide | omega) hrd (fun r1 w1 hm1 hq1 => ?_)
      rw [hq1.1, hq1.2]
      clear hq1 hm1 r1 w1
      refine XE.if_eq 60 d_SS_write_54 (by decide) (fun h54 => ?_) (fun h54 => ?_)
      · rw [if_neg (by rw [(bI_eq0 _).mp h54]; decide)] at eg
        refine XE.aload_n d_SS_write_60 rfl ?_
        refine XE.aload d_SS_write_61 rfl ?_
        refine k_SS_153 1 d_SS_write_63 (by omega) (Nat.le_of_ble_eq_true rfl) (by first | assumption | decide | omega) hes (fun y1 w2 hm1 hq1 => ?_)
        obtain ⟨rfl, hR1, g, rfl⟩ := hq1
        exact hend eg g hR1
      · rw [if_pos (te _ h54)] at eg
        refine XE.bipush (x := (-8)) d_SS_write_57 (by decide) ?_
        exact XE.ri d_SS_write_59 ⟨by rw [eg], by rw [eg]; exact hR, FC.rf1⟩
    refine XE.aload_n d_SS_write_0 rfl ?_
    refine XE.iload_n d_SS_write_1 rfl ?_
    refine k_SS_66 0 d_SS_write_2 (by omega) (Nat.le_of_ble_eq_true rfl) (by first | assumption | decide | omega) hh (fun r1 w1 hm1 hq1 => ?_)
    rw [hq1.1, hq1.2]
    clear hq1 hm1 r1 w1
    refine XE.astore d_SS_write_5 (by decide) ?_
    refine XE.aload d_SS_write_7 rfl ?_
    refine XE.ifnull 41 d_SS_write_9 (by decide) (fun h9 => absurd h9 (x0)) (fun h9 => ?_)
    refine XE.iload_n d_SS_write_12 rfl ?_
    refine XE.bipush (x := nI 32) d_SS_write_13 (by decide) ?_
    refine k_SS_37 0 d_SS_write_15 (by omega) (Nat.le_of_ble_eq_true rfl) hbl (fun r1 w1 hm1 hq1 => ?_)
    rw [hq1.1, hq1.2]
    clear hq1 hm1 r1 w1
    refine XE.if_eq 41 d_SS_write_18 (by decide) (fun h18 => ?_) (fun h18 => ?_)
    · have bd : mayM m v (nI 2) cl = false := by rw [em, (bI_eq0 _).mp h18, Bool.and_false, Bool.and_false]
      refine XE.iconst (x := (-1)) d_SS_write_41 (by decide) ?_
      exact bad d_SS_write_42 bd
    · have g1 := dec2 (te _ h18)
      refine XE.aload d_SS_write_21 rfl ?_
      refine XE.iconst (x := nI 2) d_SS_write_23 (by decide) ?_
      refine k_SS_97 0 d_SS_write_24 (by omega) (Nat.le_of_ble_eq_true rfl) (by first | assumption | decide | omega) (Hd_may_ok x0 h3 2) (fun r1 w1 hm1 hq1 => ?_)
      rw [hq1.1, hq1.2]
      clear hq1 hm1 r1 w1
      refine XE.if_eq 41 d_SS_write_27 (by decide) (fun h27 => ?_) (fun h27 => ?_)
      · have bd : mayM m v (nI 2) cl = false := by rw [em, (bI_eq0 _).mp h27, Bool.false_and]
        refine XE.iconst (x := (-1)) d_SS_write_41 (by decide) ?_
        exact bad d_SS_write_42 bd
      · have g2 := te _ h27
        refine XE.aload d_SS_write_30 rfl ?_
        refine g_SS_76 d_SS_write_32 (by first | assumption | decide | omega) (by first | assumption | rfl) ?_
        refine g_SS_136 d_SS_write_35 (by first | assumption | decide | omega) (by first | assumption | rfl) ?_
        refine XE.if_eq 43 d_SS_write_38 (by decide) (fun h38 => ?_) (fun h38 => ?_)
        · exact good g1 g2 ((bI_eq0 _).mp h38)
        · have bd : mayM m v (nI 2) cl = false := by rw [em, te _ h38]; simp
          refine XE.iconst (x := (-1)) d_SS_write_41 (by decide) ?_
          exact bad d_SS_write_42 bd
theorem mi_wrt (hB : WB m) (hI : MI m) (v cl a : Int32) : MI (wrtM m v cl a).2 := by
  unfold wrtM
  split
  · exact hI
  · rename_i q1
    split
    · exact hI
    · have q1 : mayM m v (nI 2) cl = true := by
        cases z : mayM m v (nI 2) cl with
        | true => rfl
        | false => exact absurd z q1
      obtain ⟨b1, -, b3, i, hi, rfl⟩ := mayM_t q1
      obtain ⟨-, a2, a3, a4⟩ := hOf_nz hB b1
      have n24 := hB.n24 a2 a3
      have hI2 := mi_wrH hI hB (hOf m v)
      have : MI (noteM (wrH m (hOf m v)) (4, hN (mh m (hOf m v)), nI i, a, 0)) := hI2.note (hI.ti.written (hI.2.2.2.2.1 _ a2 a3)) ⟨n24, Or.inr (Or.inr (Or.inr ⟨rfl, hB.op a2 a3 a4, i, by omega, rfl⟩))⟩ (fun k hk => (hI2.2.2.1 k hk).2.1) (fun n hn hg => hI2.2.2.2.2.2.1 n hn hg)
      exact this
end WRT
