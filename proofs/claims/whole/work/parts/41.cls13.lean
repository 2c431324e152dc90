/-! THE CLASS: closing a handle -/
abbrev hRm (h : HR) : Bool := hR h
section CLO
variable {w : WW} {m : MS} {c d : Nat}
theorem opL_clH (m : MS) (x : Nat) : opL (clH m x) = (opL m).filter (fun y => !(y == x)) := by
  show (List.range' 1 (mH m)).filter (fun y => hO (uf (mh m) x (hsO (mh m x) false) y)) = ((List.range' 1 (mH m)).filter (fun y => hO (mh m y))).filter (fun y => !(y == x))
  rw [List.filter_filter]
  refine List.filter_congr (fun y _ => ?_)
  by_cases e : y = x
  · subst e
    rw [uf_s, show (y == y) = true from beq_self_eq_true y]
    rfl
  · rw [uf_n _ _ e, beq_eq_false_iff_ne.mpr e]
    rfl
theorem clH_f (m : MS) (x y : Nat) : hN (mh (clH m x) y) = hN (mh m y) ∧ hG (mh (clH m x) y) = hG (mh m y) ∧ hR (mh (clH m x) y) = hR (mh m y) ∧ hA (mh (clH m x) y) = hA (mh m y) ∧ hS (mh (clH m x) y) = hS (mh m y) ∧ hC (mh (clH m x) y) = hC (mh m y) ∧ (hO (mh (clH m x) y) = true → hO (mh m y) = true ∧ y ≠ x) := by
  show hN (uf (mh m) x (hsO (mh m x) false) y) = _ ∧ hG (uf (mh m) x (hsO (mh m x) false) y) = _ ∧ hR (uf (mh m) x (hsO (mh m x) false) y) = _ ∧ hA (uf (mh m) x (hsO (mh m x) false) y) = _ ∧ hS (uf (mh m) x (hsO (mh m x) false) y) = _ ∧ hC (uf (mh m) x (hsO (mh m x) false) y) = _ ∧ (hO (uf (mh m) x (hsO (mh m x) false) y) = true → _)
  by_cases e : y = x
  · subst e
    rw [uf_s]
    exact ⟨rfl, rfl, rfl, rfl, rfl, rfl, fun z => Bool.noConfusion z⟩
  · rw [uf_n _ _ e]
    exact ⟨rfl, rfl, rfl, rfl, rfl, rfl, fun z => ⟨z, e⟩⟩
theorem fc_op (w : WW) (a : Nat → Nat) (l : Int32) : FC 0 w (sI (arW w 101 1 a) 0 1 3 l) := FC.mk0 ⟨fun k o j h => ⟨by rw [wI_sI, if_neg (by omega)]; rfl, by rw [wR_sI, wR_arW, if_neg (by omega)]⟩, fun _ _ => rfl, fun _ _ _ => rfl⟩ rfl
theorem cr_clh (hR : CR w m) {x : Nat} {a : Nat → Nat} (ha : HO Eq a (opL (clH m x))) : CR (sI (arW w 101 1 a) 0 1 3 (nI (opL (clH m x)).length)) (clH m x) := by
  obtain ⟨c1, c2, c3, c4, c5, ⟨h1, h2, h3, h4, h5, h6⟩, c7, c8⟩ := hR
  refine ⟨c1, c2, c3, c4, KC.cg (w := sI (arW w 101 1 a) 0 1 3 (nI (opL (clH m x)).length)) (m := m) c5 rfl (lkL_cg rfl (fun k _ => (clH_f m x k.1).1)), ⟨h1, h2, fun y y1 y2 => ?_, fun y y1 y2 y3 => ?_, rfl, ha⟩, c7, c8⟩
  · have q := h3 y y1 y2
    obtain ⟨-, e2, e3, e4, e5, e6, -⟩ := clH_f m x y
    unfold HDR
    rw [e2, e3, e4, e5, e6]
    exact q
  · obtain ⟨e1, -, -, -, -, -, e7⟩ := clH_f m x y
    rw [e1]
    exact h4 y y1 y2 (e7 y3).1
theorem SS_dropFromOpens_ok (hR : CR w m) (hB : WB m) (hI : MI m) (x : Nat) : E_SS_dropFromOpens d [.inr (0, 1), .inr (2, x)] w (fun r w' => r = none ∧ CR w' (clH m x) ∧ ∃ a l, w' = sI (arW w 101 1 a) 0 1 3 l) := by
  refine S_SS_dropFromOpens ?_
  have h12 := hR.op hI
  obtain ⟨s0, s2, s5, s7, g0, l0, l1, l2, l5⟩ := hR.1
  have hoc := hR.2.2.2.2.2.1.2.2.2.2.1
  have eo := opL_clH m x
  generalize hp : (fun y : Nat => !(y == x)) = p at eo
  have loop : ∀ k i a, i + k = (opL m).length → (∀ t, i ≤ t → a t = wR w 101 1 t) → HO Eq a (((opL m).take i).filter p) →
      X_SS_dropFromOpens d 4 [some (.inr (0, 1)), some (.inr (2, x)), some (.inl (nI (((opL m).take i).filter p).length)), some (.inl (nI i))] [] (arW w 101 1 a) (fun r w' => r = none ∧ CR w' (clH m x) ∧ ∃ a l, w' = sI (arW w 101 1 a) 0 1 3 l) := by
    intro k
    induction k with
    | zero =>
      intro i a hi ha hH
      rw [List.take_of_length_le (by omega), ← eo] at *
      refine XE.iload_n d_SS_dropFromOpens_4 rfl ?_
      refine XE.aload_n d_SS_dropFromOpens_5 rfl ?_
      refine g_SS_94 d_SS_dropFromOpens_6 (by first | assumption | decide | omega) (by first | assumption | rfl) ?_
      refine XE.icmp_ge 43 d_SS_dropFromOpens_9 (by decide) (fun h9 => ?_) (fun h9 => absurd h9 ((fun z => z ((le_nI (by omega) (by omega)).mpr (by omega)))))
      refine XE.aload_n d_SS_dropFromOpens_43 rfl ?_
      refine XE.iload_n d_SS_dropFromOpens_44 rfl ?_
      refine p_SS_94 d_SS_dropFromOpens_45 (by first | assumption | decide | omega) ?_
      exact XE.rv d_SS_dropFromOpens_48 ⟨rfl, cr_clh hR hH, _, _, rfl⟩
    | succ k ih =>
      intro i a hi ha hH
      have hlt : i < (opL m).length := by omega
      have hix : IXN (nI i) (wL (arW w 101 1 a) 101 1) i := IXN.nI (by show i < wL w 101 1; omega) (by show wL w 101 1 ≤ _; omega)
      have hfl := flt_len (p := p) (L := opL m) (i := i)
      have hkx : IXN (nI (((opL m).take i).filter p).length) (wL (arW w 101 1 a) 101 1) (((opL m).take i).filter p).length := IXN.nI (by show _ < wL w 101 1; omega) (by show wL w 101 1 ≤ _; omega)
      obtain ⟨e1, e2, e3, e4, e5, e6⟩ := hR.oph hB hlt
      have hv : wR (arW w 101 1 a) 101 1 i = (opL m)[i] := by rw [wR_arW, if_pos ⟨rfl, rfl⟩, ha i (Nat.le_refl _)]; exact e1
      have ft := flt_take (p := p) hlt
      refine XE.iload_n d_SS_dropFromOpens_4 rfl ?_
      refine XE.aload_n d_SS_dropFromOpens_5 rfl ?_
      refine g_SS_94 d_SS_dropFromOpens_6 (by first | assumption | decide | omega) (by first | assumption | rfl) ?_
      refine XE.icmp_ge 43 d_SS_dropFromOpens_9 (by decide) (fun h9 => absurd h9 ((fun z => by have := (le_nI (by omega) (by omega)).mp z; omega))) (fun h9 => ?_)
      refine XE.aload_n d_SS_dropFromOpens_12 rfl ?_
      refine g_SS_20 d_SS_dropFromOpens_13 (by first | assumption | decide | omega) (by first | assumption | rfl) ?_
      refine XE.iload_n d_SS_dropFromOpens_16 rfl ?_
      refine XE.aald (x := (opL m)[i]) d_SS_dropFromOpens_17 (by decide) rfl (by first | assumption | decide | omega) (by first | assumption | exact ixn2 (by assumption) (by omega) (by omega)) (by first | assumption | rfl) ?_
      refine XE.aload_n d_SS_dropFromOpens_18 rfl ?_
      refine XE.acmp_eq 37 d_SS_dropFromOpens_19 (by decide) (by decide) (fun h19 => ?_) (fun h19 => ?_)
      · have q : ¬ p (opL m)[i] = true := by (rw [← hp]; simp [h19])
        refine XE.iinc d_SS_dropFromOpens_37 rfl (inc_nI _) ?_
        refine XE.goto 4 d_SS_dropFromOpens_40 (by decide) ?_
        first | (rw [if_neg q] at ft; have := ih (i + 1) a (by omega) (fun t h => ha t (by omega)) (by rw [ft]; exact hH); rw [ft] at this; exact this) | (rw [if_pos q] at ft; have hl2 : (((opL m).take (i + 1)).filter p).length = (((opL m).take i).filter p).length + 1 := (by rw [ft, List.length_append]; rfl); have := ih (i + 1) (uf a (((opL m).take i).filter p).length (opL m)[i]) (by omega) (fun t h => by rw [uf_n _ _ (by omega)]; exact ha t (by omega)) (by rw [ft]; exact hH.snoc (fun t ht => uf_n _ _ (by omega)) (uf_s _ _ _)); rw [hl2, ← arW_s] at this; exact this)
      · have q : p (opL m)[i] = true := by (rw [← hp]; simp [h19])
        refine XE.aload_n d_SS_dropFromOpens_22 rfl ?_
        refine g_SS_20 d_SS_dropFromOpens_23 (by first | assumption | decide | omega) (by first | assumption | rfl) ?_
        refine XE.iload_n d_SS_dropFromOpens_26 rfl ?_
        refine XE.aload_n d_SS_dropFromOpens_27 rfl ?_
        refine g_SS_20 d_SS_dropFromOpens_28 (by first | assumption | decide | omega) (by first | assumption | rfl) ?_
        refine XE.iload_n d_SS_dropFromOpens_31 rfl ?_
        refine XE.aald (x := (opL m)[i]) d_SS_dropFromOpens_32 (by decide) rfl (by first | assumption | decide | omega) (by first | assumption | exact ixn2 (by assumption) (by omega) (by omega)) (by first | assumption | rfl) ?_
        refine XE.aast d_SS_dropFromOpens_33 (by decide) rfl rfl (by first | exact Or.inl rfl | exact Or.inr rfl) (by first | assumption | decide | omega) (by first | assumption | exact ixn2 (by assumption) (by omega) (by omega)) ?_
        refine XE.iinc d_SS_dropFromOpens_34 rfl (inc_nI _) ?_
        refine XE.iinc d_SS_dropFromOpens_37 rfl (inc_nI _) ?_
        refine XE.goto 4 d_SS_dropFromOpens_40 (by decide) ?_
        first | (rw [if_neg q] at ft; have := ih (i + 1) a (by omega) (fun t h => ha t (by omega)) (by rw [ft]; exact hH); rw [ft] at this; exact this) | (rw [if_pos q] at ft; have hl2 : (((opL m).take (i + 1)).filter p).length = (((opL m).take i).filter p).length + 1 := (by rw [ft, List.length_append]; rfl); have := ih (i + 1) (uf a (((opL m).take i).filter p).length (opL m)[i]) (by omega) (fun t h => by rw [uf_n _ _ (by omega)]; exact ha t (by omega)) (by rw [ft]; exact hH.snoc (fun t ht => uf_n _ _ (by omega)) (uf_s _ _ _)); rw [hl2, ← arW_s] at this; exact this)
  have st := loop (opL m).length 0 (fun t => wR w 101 1 t) (by omega) (fun _ _ => rfl) HO.nil
  rw [arW_id] at st
  refine XE.iconst (x := nI 0) d_SS_dropFromOpens_0 (by decide) ?_
  refine XE.istore_n d_SS_dropFromOpens_1 (by decide) ?_
  refine XE.iconst (x := nI 0) d_SS_dropFromOpens_2 (by decide) ?_
  refine XE.istore_n d_SS_dropFromOpens_3 (by decide) ?_
  exact st
/-! bare nodes -/
theorem bare_ins (hI : MI m) {n : Nat} (hn : n ≤ 24) : bareM m n = (ins (mT m) (nI n) == 0) := by
  unfold bareM
  cases hf : tF (mT m) n with
  | true => rfl
  | false =>
    have : ins (mT m) (nI n) = 0 := List.countP_eq_zero.mpr (fun x hx => by
      intro z
      rw [Bool.and_eq_true, beq_iff_eq] at z
      obtain ⟨-, g24, -, hp, -⟩ := hI.ti
      have := List.mem_range'_1.mp hx
      obtain ⟨p, p1, p2, p3, p4⟩ := hp x (by omega) (by omega) z.1
      rw [z.2] at p2
      have e := (eq_nI (by omega) (by omega)).mp p2
      subst e
      rw [hf] at p4
      exact absurd p4 (by decide))
    rw [this]
    rfl
theorem bare_no (hI : MI m) {n : Nat} (h : ins (mT m) (nI n) = 0) : ∀ x, 1 ≤ x → x ≤ 24 → tT (mT m) x = true → tD (mT m) x ≠ nI n := by
  intro x x1 x2 ht e
  have hg := hI.ti.2.2.1 x x2 ht
  have := List.countP_eq_zero.mp h x (List.mem_range'_1.mpr ⟨x1, by omega⟩)
  rw [Bool.and_eq_true, beq_iff_eq] at this
  exact this ⟨ht, e⟩
theorem rmv_eq (hI : MI m) {n : Nat} (hn : n ≤ 24) (h1 : 1 ≤ n) : (!(n == 0) && ins (mT m) (nI n) == 0) = bareM m n := by
  rw [bare_ins hI hn, beq_eq_false_iff_ne.mpr (by omega : n ≠ 0)]
  rfl
theorem SS_doomIf_ok (hR : CR w m) (hB : WB m) (hI : MI m) {x : Nat} (x1 : 1 ≤ x) (x2 : x ≤ mH m) (hn : wR w 2 x 1 = wR w 100 1 (hN (mh m x))) (ht : tT (mT m) (hN (mh m x)) = true) (hd : 2 ≤ d) : E_SS_doomIfItRemoves d [.inr (0, 1), .inr (2, x)] w (fun r w' => r = none ∧ CR w' (clD m x) ∧ FC 0 w w' ∧ ∀ k o j, wR w' k o j = wR w k o j) := by
  refine S_SS_doomIfItRemoves ?_
  have n24 := hB.n24 x1 x2
  have n1 := hI.2.2.2.2.1 x x1 x2
  have hT := hR.ct hB
  have h0 := hT.nz n24 ht
  have hnum := ((hT.2 _ n24).2.2 ht).1
  have h5 : wI w 2 x 5 = bI (hRm (mh m x)) := (hR.2.2.2.2.2.1.2.2.1 x x1 x2).2.2.2.2.1
  have x0 : x ≠ 0 := by omega
  have hrm := SS_isRemovable_ok (d := 1) hR.1 hT hI.ti n24 h0 hnum (by omega)
  rw [rmv_eq hI n24 n1] at hrm
  have ec : clD m x = if hRm (mh m x) = true ∧ bareM m (hN (mh m x)) = true then setD m (uf (mM m) (hN (mh m x)) true) else m := rfl
  refine XE.aload_n d_SS_doomIfItRemoves_0 rfl ?_
  refine g_SS_267 d_SS_doomIfItRemoves_1 (by first | assumption | decide | omega) (by first | assumption | rfl) ?_
  refine XE.if_eq 26 d_SS_doomIfItRemoves_4 (by decide) (fun h4 => ?_) (fun h4 => ?_)
  · have e : clD m x = m := by rw [ec, if_neg (fun z => by rw [z.1] at h4; exact absurd h4 (by decide))]
    first | exact XE.rv d_SS_doomIfItRemoves_26 ⟨rfl, by rw [e]; exact hR, FC.rf, fun _ _ _ => rfl⟩ | exact XE.rv d_SS_doomIfItRemoves_26 ⟨rfl, by rw [e]; exact hR.dset hB n24 ht true, FC.sI (by decide), fun _ _ _ => rfl⟩
  · have q := te _ h4
    refine XE.aload_n d_SS_doomIfItRemoves_7 rfl ?_
    refine XE.aload_n d_SS_doomIfItRemoves_8 rfl ?_
    refine g_SS_76 d_SS_doomIfItRemoves_9 (by first | assumption | decide | omega) (by first | assumption | rfl) ?_
    refine k_SS_100 1 d_SS_doomIfItRemoves_12 (by omega) (Nat.le_of_ble_eq_true rfl) (by first | assumption | decide | omega) hrm (fun r1 w1 hm1 hq1 => ?_)
    rw [hq1.1, hq1.2]
    clear hq1 hm1 r1 w1
    refine XE.if_eq 26 d_SS_doomIfItRemoves_15 (by decide) (fun h15 => ?_) (fun h15 => ?_)
    · have e : clD m x = m := by rw [ec, if_neg (fun z => by rw [z.2] at h15; exact absurd h15 (by decide))]
      first | exact XE.rv d_SS_doomIfItRemoves_26 ⟨rfl, by rw [e]; exact hR, FC.rf, fun _ _ _ => rfl⟩ | exact XE.rv d_SS_doomIfItRemoves_26 ⟨rfl, by rw [e]; exact hR.dset hB n24 ht true, FC.sI (by decide), fun _ _ _ => rfl⟩
    · have e : clD m x = setD m (uf (mM m) (hN (mh m x)) true) := by rw [ec, if_pos ⟨q, te _ h15⟩]
      refine XE.aload_n d_SS_doomIfItRemoves_18 rfl ?_
      refine g_SS_76 d_SS_doomIfItRemoves_19 (by first | assumption | decide | omega) (by first | assumption | rfl) ?_
      refine XE.iconst (x := nI 1) d_SS_doomIfItRemoves_22 (by decide) ?_
      refine p_SS_104 d_SS_doomIfItRemoves_23 (by first | assumption | decide | omega) (by first | assumption | decide) ?_
      first | exact XE.rv d_SS_doomIfItRemoves_26 ⟨rfl, by rw [e]; exact hR, FC.rf, fun _ _ _ => rfl⟩ | exact XE.rv d_SS_doomIfItRemoves_26 ⟨rfl, by rw [e]; exact hR.dset hB n24 ht true, FC.sI (by decide), fun _ _ _ => rfl⟩
/-! a node removed -/
theorem cr_removed (hR : CR w m) (hB : WB m) {n : Nat} (hn : n ≤ 24) (ht : tT (mT m) n = true) (hc : cntO m n = 0) :
    CR (ntW (sR w 100 1 n 0) (mN m - mU m) (mU m) (wR w 100 1 n) 1 0 0) (noteM (setD m (uf (mM m) n false)) (2, n, 0, 0, 0)) := by
  have hT := hR.ct hB
  have hle := hR.N hB hn
  obtain ⟨c1, c2, c3, c4, c5, c6, c7, c8⟩ := hR
  have hN' : ∀ k, wR (sR w 100 1 n 0) 100 1 k = if k = n then 0 else wR w 100 1 k := fun k => by
    rw [wR_sR]
    simp
  have tT' : ∀ k, tT (mT (noteM (setD m (uf (mM m) n false)) (2, n, 0, 0, 0))) k = if k = n then false else tT (mT m) k := fun k => by rw [mT_note]; rfl
  have tn : ∀ k, tT (mT (noteM (setD m (uf (mM m) n false)) (2, n, 0, 0, 0))) k = true → k ≠ n ∧ tT (mT m) k = true := fun k hk => by
    rw [tT'] at hk
    by_cases e : k = n
    · rw [if_pos e] at hk; exact absurd hk (by decide)
    · rw [if_neg e] at hk; exact ⟨e, hk⟩
  refine CY.cr ?_ ?_
  · refine CY.nt ?_ _ _ _ _ _ _
    refine ⟨c1, c2, fun k hk hs => ?_, fun k hk hs => ?_, ?_, c7, c8⟩
    · obtain ⟨e, hs⟩ := tn k hs
      rw [hN', if_neg e]
      show wI w 1 (wR w 100 1 k) 4 = bI (uf (mM m) n false k)
      rw [uf_n _ _ e]
      exact c4 k hk hs
    · obtain ⟨e, hs⟩ := tn k hs
      rw [hN', if_neg e]
      exact c5 k hk hs
    · obtain ⟨h1, h2, h3, h4, h5, h6⟩ := c6
      refine ⟨h1, h2, h3, fun x x1 x2 x3 => ?_, h5, h6⟩
      rw [hN']
      have x3 : hO (mh m x) = true := x3
      show wR w 2 x 1 = if hN (mh m x) = n then 0 else wR w 100 1 (hN (mh m x))
      rw [if_neg (cntO_no hc x1 x2 x3)]
      exact h4 x x1 x2 x3
  · obtain ⟨f1, f1', f2, f3, f4, f5, f6, f7, f8⟩ := nt_facts (w := sR w 100 1 n 0) (m := m) (o := wR w 100 1 n) (k := 1) (a := 0) (b := 0) c3.2.1 c3.2.2.1 hB.un rfl
    have hnum := ((hT.2 n hn).2.2 ht).1
    refine LGC.add (w := w) (m := setD m (uf (mM m) n false)) c3 hB.un f1 f1' (Nat.le_of_eq f2.symm) f3 f4 f5 (Nat.le_of_eq f6.symm) ?_ ?_ ?_
    · rw [f8, f6]
      refine ⟨hT.1, fun k hk => ?_⟩
      have e1 : (ctW (sR w 100 1 n 0)).1 k = if k = n then 0 else wR w 100 1 k := hN' k
      rw [e1, tT_app2]
      by_cases e : k = n
      · rw [if_pos e, if_pos e]
        exact ⟨Nat.zero_le _, ⟨fun z => absurd rfl z, fun z => absurd z (by decide)⟩, fun z => absurd z (by decide)⟩
      · rw [if_neg e, if_neg e]
        exact hT.2 k hk
    · show rcOk (wC (ntW (sR w 100 1 n 0) (mN m - mU m) (mU m) (wR w 100 1 n) 1 0 0) 1) (rcW (ntW (sR w 100 1 n 0) (mN m - mU m) (mU m) (wR w 100 1 n) 1 0 0) (mN m - mU m)) (ctW (ntW (sR w 100 1 n 0) (mN m - mU m) (mU m) (wR w 100 1 n) 1 0 0))
      rw [f7, f8, f6]
      exact ⟨Nat.pos_of_ne_zero (hT.nz hn ht), hle, ⟨n, hn, hnum⟩, Or.inr (Or.inl rfl)⟩
    · show CTE _ (und (rcW (ntW (sR w 100 1 n 0) (mN m - mU m) (mU m) (wR w 100 1 n) 1 0 0) (mN m - mU m)) (ctW (ntW (sR w 100 1 n 0) (mN m - mU m) (mU m) (wR w 100 1 n) 1 0 0))) _
      rw [f7, f8]
      have num : (wI w 1 (wR w 100 1 n) 0).toNatClampNeg = n := by rw [show wI w 1 (wR w 100 1 n) 0 = nI n from hnum]; exact nI_clamp (by omega)
      unfold und
      rw [if_neg (by show ¬ (1 : Int32) = 0; decide), if_pos rfl]
      refine ⟨fun k hk => ?_, rfl, fun o o1 o2 j hj => rfl, fun o o1 o2 i hi => rfl⟩
      show uf (fun k => wR (sR w 100 1 n 0) 100 1 k) (wI w 1 (wR w 100 1 n) 0).toNatClampNeg (wR w 100 1 n) k = wR w 100 1 k
      rw [num]
      by_cases e : k = n
      · rw [e, uf_s]
      · rw [uf_n _ _ e, hN', if_neg e]
theorem SS_settleDoom_ok (hR : CR w m) (hB : WB m) (hI : MI m) {n : Nat} (n1 : 1 ≤ n) (hn : n ≤ 24) (ht : tT (mT m) n = true) (hd : 2 ≤ d) : E_SS_settleDoom d [.inr (0, 1), .inr (1, wR w 100 1 n)] w (fun r w' => r = none ∧ CR w' (clR m n) ∧ FC 1 w w') := by
  refine S_SS_settleDoom ?_
  have hT := hR.ct hB
  have h0 := hT.nz hn ht
  have hnum : wI w 1 (wR w 100 1 n) 0 = nI n := ((hT.2 _ hn).2.2 ht).1
  have hdm : wI w 1 (wR w 100 1 n) 4 = bI (mM m n) := hR.2.2.2.1 _ hn ht
  have hrm := SS_isRemovable_ok (d := 1) hR.1 hT hI.ti hn h0 hnum (by omega)
  rw [rmv_eq hI hn n1] at hrm
  have hop := SS_opensOf_ok (d := 1) hR hB hI hn ht
  have hoc : cntO m n ≤ 512 := Nat.le_trans (by unfold cntO; exact List.countP_le_length) (by rw [List.length_range']; exact hB.1)
  obtain ⟨s0, s2, s5, s7, g0, l0, l1, l2, l5⟩ := hR.1
  have k1 := hR.2.2.1.1
  have k2 := hR.2.2.1.2.1
  have hun := hB.un
  have hix : IXN (nI n) (wL w 100 1) n := IXN.nI (by omega) (by omega)
  have hcg := Cg_init_ok (w := nO (sR w 100 1 n 0) 5 4) (d := 1) (o := wC w 5 + 1) (nd := wR w 100 1 n) (by omega) (by omega) (nI 1) (nI 0) (nI 0)
  have hla := Lg_add_ok (w := cgW (nO (sR w 100 1 n 0) 5 4) (wC w 5 + 1) (wR w 100 1 n) 1 0 0) (d := 1) (j := mN m - mU m) (u := mU m) (c := wC w 5 + 1) g0 l5 k1 k2 (by omega) (by omega)
  have ec : clR m n = if mM m n = true ∧ cntO m n = 0 then (if bareM m n = true then noteM (setD m (uf (mM m) n false)) (2, n, 0, 0, 0) else setD m (uf (mM m) n false)) else m := rfl
  refine XE.aload_n d_SS_settleDoom_0 rfl ?_
  refine g_SS_104 d_SS_settleDoom_1 (by first | assumption | decide | omega) (by first | assumption | rfl) ?_
  refine XE.if_eq 15 d_SS_settleDoom_4 (by decide) (fun h4 => ?_) (fun h4 => ?_)
  · have e : clR m n = m := by rw [ec, if_neg (fun z => by rw [z.1] at h4; exact absurd h4 (by decide))]
    exact XE.rv d_SS_settleDoom_15 ⟨rfl, by rw [e]; exact hR, FC.rf1⟩
  · have q := te _ h4
    refine XE.aload_n d_SS_settleDoom_7 rfl ?_
    refine XE.aload_n d_SS_settleDoom_8 rfl ?_
    refine k_SS_199 1 d_SS_settleDoom_9 (by omega) (Nat.le_of_ble_eq_true rfl) (by first | assumption | decide | omega) hop (fun r1 w1 hm1 hq1 => ?_)
    rw [hq1.1, hq1.2]
    clear hq1 hm1 r1 w1
    refine XE.if_le 16 d_SS_settleDoom_12 (by decide) (fun h12 => ?_) (fun h12 => ?_)
    · have q2 : cntO m n = 0 := by have := (le_nI (a := cntO m n) (b := 0) (by omega) (by omega)).mp h12; omega
      refine XE.aload_n d_SS_settleDoom_16 rfl ?_
      refine XE.aload_n d_SS_settleDoom_17 rfl ?_
      refine k_SS_100 1 d_SS_settleDoom_18 (by omega) (Nat.le_of_ble_eq_true rfl) (by first | assumption | decide | omega) hrm (fun r1 w1 hm1 hq1 => ?_)
      rw [hq1.1, hq1.2]
      clear hq1 hm1 r1 w1
      refine XE.if_eq 55 d_SS_settleDoom_21 (by decide) (fun h21 => ?_) (fun h21 => ?_)
      · have e : clR m n = setD m (uf (mM m) n false) := by rw [ec, if_pos ⟨q, q2⟩, if_neg (fun z => by rw [z] at h21; exact absurd h21 (by decide))]
        refine XE.aload_n d_SS_settleDoom_55 rfl ?_
        refine XE.iconst (x := nI 0) d_SS_settleDoom_56 (by decide) ?_
        refine p_SS_104 d_SS_settleDoom_57 (by first | assumption | decide | omega) (by first | assumption | decide) ?_
        first | exact XE.rv d_SS_settleDoom_60 ⟨rfl, by rw [e]; exact cr_removed hR hB hn ht q2, (FC.sR (by decide)).tr (fc_nt _ _ _ _ _ _)⟩ | exact XE.rv d_SS_settleDoom_60 ⟨rfl, by rw [e]; exact hR.dset hB hn ht false, FC.up1 (FC.sI (by decide))⟩
      · have e : clR m n = noteM (setD m (uf (mM m) n false)) (2, n, 0, 0, 0) := by rw [ec, if_pos ⟨q, q2⟩, if_pos (te _ h21)]
        refine XE.aload_n d_SS_settleDoom_24 rfl ?_
        refine g_SS_11 d_SS_settleDoom_25 (by first | assumption | decide | omega) (by first | assumption | rfl) ?_
        refine XE.aload_n d_SS_settleDoom_28 rfl ?_
        refine g_SS_108 d_SS_settleDoom_29 (by first | assumption | decide | omega) (by first | assumption | rfl) ?_
        refine XE.null d_SS_settleDoom_32 ?_
        refine XE.aast d_SS_settleDoom_33 (by decide) rfl rfl (by first | exact Or.inl rfl | exact Or.inr rfl) (by first | assumption | decide | omega) (by first | assumption | exact ixn2 (by assumption) (by omega) (by omega)) ?_
        refine XE.aload_n d_SS_settleDoom_34 rfl ?_
        refine g_SS_33 d_SS_settleDoom_35 (by first | assumption | decide | omega) (by first | assumption | rfl) ?_
        refine n_SS_121 d_SS_settleDoom_38 ?_
        refine XE.dup d_SS_settleDoom_41 ?_
        refine XE.iconst (x := nI 1) d_SS_settleDoom_42 (by decide) ?_
        refine XE.aload_n d_SS_settleDoom_43 rfl ?_
        refine XE.iconst (x := nI 0) d_SS_settleDoom_44 (by decide) ?_
        refine XE.iconst (x := nI 0) d_SS_settleDoom_45 (by decide) ?_
        refine k_SS_129 1 d_SS_settleDoom_46 (by omega) (Nat.le_of_ble_eq_true rfl) (by first | assumption | decide | omega) hcg (fun y1 w2 hm1 hq1 => ?_)
        obtain ⟨rfl, rfl⟩ := hq1
        refine k_SS_132 1 d_SS_settleDoom_49 (by omega) (Nat.le_of_ble_eq_true rfl) (by first | assumption | decide | omega) hla (fun y1 w2 hm1 hq1 => ?_)
        obtain ⟨rfl, rfl⟩ := hq1
        refine XE.goto 60 d_SS_settleDoom_52 (by decide) ?_
        first | exact XE.rv d_SS_settleDoom_60 ⟨rfl, by rw [e]; exact cr_removed hR hB hn ht q2, (FC.sR (by decide)).tr (fc_nt _ _ _ _ _ _)⟩ | exact XE.rv d_SS_settleDoom_60 ⟨rfl, by rw [e]; exact hR.dset hB hn ht false, FC.up1 (FC.sI (by decide))⟩
    · have e : clR m n = m := by rw [ec, if_neg (fun z => h12 (by rw [z.2]; decide))]
      exact XE.rv d_SS_settleDoom_15 ⟨rfl, by rw [e]; exact hR, FC.rf1⟩
/-! the invariants over closing -/
theorem mi_subk (h : MI m) {K : List KR'} (hs : K.Sublist (mK m)) : MI (setK m K) := by
  obtain ⟨i1, i2, i3, i4, i5, i6, i7, i8⟩ := h
  exact ⟨i1, fun n => Nat.le_trans (hs.countP_le) (i2 n), fun k hk => i3 k (hs.subset hk), i4, i5, i6, i7, i8⟩
theorem mi_setd (h : MI m) {n : Nat} {b : Bool} (hb : b = true → n ≤ tG (mT m)) : MI (setD m (uf (mM m) n b)) := by
  obtain ⟨i1, i2, i3, i4, i5, i6, i7, i8⟩ := h
  refine ⟨i1, i2, i3, i4, i5, fun k hk hg => ?_, i7, i8⟩
  have hg : tG (mT m) < k := hg
  show uf (mM m) n b k = false
  by_cases e : k = n
  · subst e
    rw [uf_s]
    cases b with
    | false => rfl
    | true => have := hb rfl; omega
  · rw [uf_n _ _ e]
    exact i6 k hk hg
theorem mi_clK (h : MI m) (x : Nat) : MI (clK m x) := mi_subk h List.filter_sublist
theorem mi_clH (h : MI m) (hB : WB m) (x : Nat) : MI (clH (clK m x) x) := by
  have h1 := mi_clK h x
  refine h1.seth (hB.kK x).kb (fun y _ _ => ?_) (fun k hk => ?_)
  · obtain ⟨a1, a2, -, -, -, -, a7⟩ := clH_f (clK m x) x y
    exact ⟨a1, fun z => (a7 z).1, fun z => by rw [← a2]; exact z⟩
  · have hk := List.mem_filter.mp hk
    have e : k.1 ≠ x := by simpa using hk.2
    show hO (uf (mh m) x (hsO (mh m x) false) k.1) = true
    rw [uf_n _ _ e]
    exact (h.2.2.1 k hk.1).1
theorem mi_clD (h : MI m) {x : Nat} (hn : hN (mh m x) ≤ 24) (ht : tT (mT m) (hN (mh m x)) = true) : MI (clD m x) := by
  unfold clD
  split
  · exact mi_setd h (fun _ => h.ti.2.2.1 _ hn ht)
  · exact h
theorem mi_clR (h : MI m) {n : Nat} (n1 : 1 ≤ n) (hn : n ≤ 24) : MI (clR m n) := by
  unfold clR
  split
  · split
    · rename_i hb
      rw [bare_ins h hn, beq_iff_eq] at hb
      have h2 : MI (setD m (uf (mM m) n false)) := mi_setd h (fun z => Bool.noConfusion z)
      refine h2.note (h.ti.removed n1 (bare_no h hb)) ⟨hn, Or.inr (Or.inl rfl)⟩ (fun k hk => (h2.2.2.1 k hk).2.1) (fun k hk hg => h2.2.2.2.2.2.1 k hk hg)
    · exact mi_setd h (fun z => Bool.noConfusion z)
  · exact h
theorem mi_clA (h : MI m) (hB : WB m) {x : Nat} (x1 : 1 ≤ x) (x2 : x ≤ mH m) (x3 : hO (mh m x) = true) : MI (clA m x) := by
  have e : hN (mh (clH (clK m x) x) x) = hN (mh m x) := (clH_f (clK m x) x x).1
  refine mi_clR (mi_clD (mi_clH h hB x) (by rw [e]; exact hB.n24 x1 x2) (by rw [e]; exact hB.op x1 x2 x3)) (h.2.2.2.2.1 x x1 x2) (hB.n24 x1 x2)
theorem wb_clA {x : Nat} (hB : WB m) (h11 : mN m + 1 ≤ 1100) : WB (clA m x) := by
  refine (((hB.kK x).kH x).kD x).kR _ ?_
  have : mN (clD (clH (clK m x) x) x) = mN m := by unfold clD; split <;> rfl
  rw [this]
  exact h11
theorem SS_close_ok (hR : CR w m) (hB : WB m) (hD : BD c m) (hI : MI m) (hc : c + 1 ≤ 580) (hd : 6 ≤ d) (v : Int32) : E_SS_close d [.inr (0, 1), .inl v] w (fun r w' => r = some (.inl (clM m v).1) ∧ CR w' (clM m v).2 ∧ FC 1 w w') := by
  refine S_SS_close ?_
  have hh := SS_openHandle_ok (d := 0) hR hB hI v
  by_cases hx : hOf m v = 0
  · have e : clM m v = (-1, m) := if_pos hx
    rw [hx, nk_z] at hh
    rw [e]
    refine XE.aload_n d_SS_close_0 rfl ?_
    refine XE.iload_n d_SS_close_1 rfl ?_
    refine k_SS_66 0 d_SS_close_2 (by omega) (Nat.le_of_ble_eq_true rfl) (by first | assumption | decide | omega) hh (fun r1 w1 hm1 hq1 => ?_)
    rw [hq1.1, hq1.2]
    clear hq1 hm1 r1 w1
    refine XE.astore_n d_SS_close_5 (by decide) ?_
    refine XE.aload_n d_SS_close_6 rfl ?_
    refine XE.ifnonnull 12 d_SS_close_7 (by decide) (fun h7 => absurd h7 ((fun z => z rfl))) (fun h7 => ?_)
    refine XE.iconst (x := (-1)) d_SS_close_10 (by decide) ?_
    exact XE.ri d_SS_close_11 ⟨rfl, hR, FC.rf1⟩
  · have hX := hR.hx hB hx
    rw [nk_nz hx] at hh
    have eg : clM m v = (nI (nOpen (clT (clA m (hOf m v)) (hOf m v))), clT (clA m (hOf m v)) (hOf m v)) := if_neg hx
    have h11 : mN m + 1 ≤ 1100 := by have := hD.2.1; have := hB.1; omega
    generalize hq : hOf m v = x at *
    rw [eg]
    have hcl := cr_clK (d := 5) hR hB hI hX (by omega)
    obtain ⟨x0, x1, x2, x3, x4, x5, x6, x7, x7b, x8, x9, h1, h2, h3, h4, h5, h6⟩ := hX
    have n1 := hI.2.2.2.2.1 x x1 x2
    have hI1 := mi_clK hI x
    have hB1 := hB.kK x
    have hI2 := mi_clH hI hB x
    have hB2 := hB1.kH x
    have e2 : hN (mh (clH (clK m x) x) x) = hN (mh m x) := (clH_f (clK m x) x x).1
    have hI3 := mi_clD (x := x) hI2 (by rw [e2]; exact x4) (by rw [e2]; exact x5)
    have hB3 := hB2.kD x
    have t3 : mT (clD (clH (clK m x) x) x) = mT m := by unfold clD; split <;> rfl
    have hIA := mi_clA hI hB x1 x2 x3
    have hBA := wb_clA (x := x) hB h11
    have hDA := hD.kA hc x
    have gA : hG (mh (clA m x) x) = hG (mh m x) := by rw [mh_clA, uf_s]; rfl
    have hHA : mH (clA m x) = mH m := by unfold clA clR; split <;> (try split) <;> (unfold clD; split <;> rfl)
    have fin : ∀ w2 : WW, CR w2 (clA m x) → FC 1 w w2 → X_SS_close d 38 [some (.inr (0, 1)), some (.inl v), some (.inr (2, x))] [] w2 (fun r w' => r = some (.inl (nI (nOpen (clT (clA m x) x)))) ∧ CR w' (clT (clA m x) x) ∧ FC 1 w w') := by
      intro w2 hR2 hF2
      have g6 : wI w2 2 x 6 = hG (mh m x) := by rw [(hR2.2.2.2.2.2.1.2.2.1 x x1 (by omega)).2.2.2.2.2, gA]
      have ec : clT (clA m x) x = if hG (mh (clA m x) x) = nI 3 then tryM (clA m x) else clA m x := rfl
      rw [gA] at ec
      have o2 : wI w2 0 1 3 = nI (nOpen (clA m x)) := by rw [← opL_len]; exact hR2.2.2.2.2.2.1.2.2.2.2.1
      have hta := SS_tryAgain_ok (d := 5) hR2 hBA hDA hIA (by omega)
      refine XE.aload_n d_SS_close_38 rfl ?_
      refine g_SS_70 d_SS_close_39 (by first | assumption | decide | omega) (by first | assumption | rfl) ?_
      refine XE.iconst (x := nI 3) d_SS_close_42 (by decide) ?_
      refine XE.icmp_ne 50 d_SS_close_43 (by decide) (fun h43 => ?_) (fun h43 => ?_)
      · rw [if_neg h43] at ec
        rw [ec]
        refine XE.aload_n d_SS_close_50 rfl ?_
        refine g_SS_94 d_SS_close_51 (by first | assumption | decide | omega) (by first | assumption | rfl) ?_
        first | exact XE.ri d_SS_close_54 ⟨rfl, hR3, hF2.tr hF3⟩ | exact XE.ri d_SS_close_54 ⟨rfl, hR2, hF2⟩
      · rw [if_pos h43] at ec
        rw [ec]
        refine XE.aload_n d_SS_close_46 rfl ?_
        refine k_SS_73 5 d_SS_close_47 (by omega) (Nat.le_of_ble_eq_true rfl) (by first | assumption | decide | omega) hta (fun y1 w3 hm1 hq1 => ?_)
        obtain ⟨rfl, hR3, hF3⟩ := hq1
        have o3 : wI w3 0 1 3 = nI (nOpen (tryM (clA m x))) := by ( rw [← opL_len]; exact hR3.2.2.2.2.2.1.2.2.2.2.1 )
        refine XE.aload_n d_SS_close_50 rfl ?_
        refine g_SS_94 d_SS_close_51 (by first | assumption | decide | omega) (by first | assumption | rfl) ?_
        first | exact XE.ri d_SS_close_54 ⟨rfl, hR3, hF2.tr hF3⟩ | exact XE.ri d_SS_close_54 ⟨rfl, hR2, hF2⟩
    refine XE.aload_n d_SS_close_0 rfl ?_
    refine XE.iload_n d_SS_close_1 rfl ?_
    refine k_SS_66 0 d_SS_close_2 (by omega) (Nat.le_of_ble_eq_true rfl) (by first | assumption | decide | omega) hh (fun r1 w1 hm1 hq1 => ?_)
    rw [hq1.1, hq1.2]
    clear hq1 hm1 r1 w1
    refine XE.astore_n d_SS_close_5 (by decide) ?_
    refine XE.aload_n d_SS_close_6 rfl ?_
    refine XE.ifnonnull 12 d_SS_close_7 (by decide) (fun h7 => ?_) (fun h7 => absurd h7 (x0))
    refine XE.aload_n d_SS_close_12 rfl ?_
    refine g_SS_76 (x := wR w 100 1 (hN (mh m x))) d_SS_close_13 (by first | assumption | decide | omega) (by first | assumption | rfl) ?_
    refine XE.aload_n d_SS_close_16 rfl ?_
    refine k_SS_80 5 d_SS_close_17 (by omega) (Nat.le_of_ble_eq_true rfl) (by first | assumption | decide | omega) hcl (fun y1 w2 hm1 hq1 => ?_)
    obtain ⟨rfl, hR1, hF1, hK1⟩ := hq1
    refine XE.aload_n d_SS_close_20 rfl ?_
    refine XE.aload_n d_SS_close_21 rfl ?_
    refine k_SS_84 5 d_SS_close_22 (by omega) (Nat.le_of_ble_eq_true rfl) (by first | assumption | decide | omega) (SS_dropFromOpens_ok hR1 hB1 hI1 x) (fun y2 w3 hm2 hq2 => ?_)
    obtain ⟨rfl, hR2, a, l, rfl⟩ := hq2
    have r1 : wR w2 2 x 1 = wR w2 100 1 (hN (mh m x)) := (by rw [hK1.2.2.1 _ _ _ (by omega), hK1.2.2.1 _ _ _ (by omega)]; exact x6)
    have hdi := SS_doomIf_ok (d := 5) hR2 hB2 hI2 (x := x) x1 x2 (by rw [e2]; exact r1) (by rw [e2]; exact x5) (by omega)
    refine XE.aload_n d_SS_close_25 rfl ?_
    refine XE.aload_n d_SS_close_26 rfl ?_
    refine k_SS_87 5 d_SS_close_27 (by omega) (Nat.le_of_ble_eq_true rfl) (by first | assumption | decide | omega) hdi (fun y3 w4 hm3 hq3 => ?_)
    obtain ⟨rfl, hR3, hF3, hr3⟩ := hq3
    have r3 : wR w4 2 x 1 = wR w4 100 1 (hN (mh m x)) := (by rw [hr3, hr3]; exact r1)
    have hsd := SS_settleDoom_ok (d := 5) hR3 hB3 hI3 n1 x4 (by rw [t3]; exact x5) (by omega)
    refine XE.aload_n d_SS_close_30 rfl ?_
    refine XE.aload_n d_SS_close_31 rfl ?_
    refine g_SS_76 (x := wR w4 100 1 (hN (mh m x))) d_SS_close_32 (by first | assumption | decide | omega) (by first | assumption | rfl) ?_
    refine k_SS_90 5 d_SS_close_35 (by omega) (Nat.le_of_ble_eq_true rfl) (by first | assumption | decide | omega) hsd (fun y4 w5 hm4 hq4 => ?_)
    obtain ⟨rfl, hR4, hF4⟩ := hq4
    exact fin w5 hR4 (((hF1.tr (fc_op w2 a l)).tr hF3).tr hF4)
end CLO
