/-! THE CLASS: looking at the table -/
def nk (k x : Nat) : Nat × Nat := (if x = 0 then 0 else k, x)
theorem nk_z (k : Nat) : nk k 0 = (0, 0) := rfl
theorem nk_nz {k x : Nat} (h : x ≠ 0) : nk k x = (k, x) := by unfold nk; rw [if_neg h]
def fth (t : Tb) (v : Int32) : Bool := (decide (nI 0 ≤ v) && decide (v ≤ nI 24)) && (tT t v.toNatClampNeg && tF t v.toNatClampNeg)
theorem fth_nI {t : Tb} {n : Nat} (h : n ≤ 24) : fth t (nI n) = (tT t n && tF t n) := by
  unfold fth
  rw [nI_clamp (by omega), decide_eq_true ((le_nI (by omega) (by omega)).mpr (Nat.zero_le n)), decide_eq_true ((le_nI (by omega) (by omega)).mpr h)]
  rfl
theorem fth_neg {t : Tb} {v : Int32} (h : v < 0) : fth t v = false := by
  unfold fth
  rw [decide_eq_false (p := nI 0 ≤ v) (Int32.not_le.mpr h)]
  rfl
theorem CTR.no {B : Nat} {c : CT} {t : Tb} (h : CTR B c t) {n : Nat} (hn : n ≤ 24) (ht : tT t n = false) : c.1 n = 0 := by
  have := (h.2 n hn).2.1
  rw [ht] at this
  exact Classical.not_not.mp (fun z => by have := this.mp z; exact absurd this (by decide))
section TAB
variable {w : WW} {t : Tb} {d B : Nat}
theorem SS_isFolderThere_ok (hS : SSt w) (hT : CTR B (ctW w) t) (hd : 1 ≤ d) (v : Int32) : E_SS_isFolderThere d [.inr (0, 1), .inl v] w (fun r w' => r = some (.inl (bI (fth t v))) ∧ w' = w) := by
  refine S_SS_isFolderThere ?_
  obtain ⟨s0, s2, s5, s7, g0, l0, l1, l2, l5⟩ := hS
  have hl : nI (wL w 100 1) = nI 25 := congrArg nI l0
  by_cases hr : nI 0 ≤ v ∧ v ≤ nI 24
  · obtain ⟨n, hn, rfl⟩ := rng0 (by decide) hr
    have e : (decide (nI 0 ≤ nI n) && decide (nI n ≤ nI 24)) = true := by simp [hr]
    have hix : IXN (nI n) (wL w 100 1) n := IXN.nI (by omega) (by omega)
    rw [fth_nI hn]
    have hc := hT.2 n hn
    cases ht : tT t n with
    | false =>
      have h0 : wR w 100 1 n = 0 := hT.no hn ht
      refine XE.iload_n d_SS_isFolderThere_0 rfl ?_
      refine XE.aload_n d_SS_isFolderThere_1 rfl ?_
      refine g_SS_11 d_SS_isFolderThere_2 (by first | assumption | decide | omega) (by first | assumption | rfl) ?_
      refine XE.alen d_SS_isFolderThere_5 (Or.inr (by decide)) (by first | assumption | decide | omega) (by first | assumption | rfl) ?_
      refine k_SS_37 0 d_SS_isFolderThere_6 (by omega) (Nat.le_of_ble_eq_true rfl) (SS_isBelow_ok (b := 24) (nI n) (by decide)) (fun r1 w1 hm1 hq1 => ?_)
      rw [hq1.1, hq1.2]
      clear hq1 hm1 r1 w1
      rw [e]
      refine XE.if_eq 37 d_SS_isFolderThere_9 (by decide) (fun h9 => absurd h9 ((by decide))) (fun h9 => ?_)
      refine XE.aload_n d_SS_isFolderThere_12 rfl ?_
      refine g_SS_11 d_SS_isFolderThere_13 (by first | assumption | decide | omega) (by first | assumption | rfl) ?_
      refine XE.iload_n d_SS_isFolderThere_16 rfl ?_
      refine XE.aald (x := 0) d_SS_isFolderThere_17 (by decide) rfl (by first | assumption | decide | omega) (by first | assumption | exact ixn2 (by assumption) (by omega) (by omega)) (by first | assumption | rfl) ?_
      refine XE.ifnull 37 d_SS_isFolderThere_18 (by decide) (fun h18 => ?_) (fun h18 => absurd h18 ((fun z => z rfl)))
      refine XE.iconst (x := nI 0) d_SS_isFolderThere_37 (by decide) ?_
      exact XE.rb d_SS_isFolderThere_38 (by decide) ⟨rfl, rfl⟩
    | true =>
      have h0 : wR w 100 1 n ≠ 0 := hT.nz hn ht
      have hf : wI w 1 (wR w 100 1 n) 1 = bI (tF t n) := (hc.2.2 ht).2.1
      refine XE.iload_n d_SS_isFolderThere_0 rfl ?_
      refine XE.aload_n d_SS_isFolderThere_1 rfl ?_
      refine g_SS_11 d_SS_isFolderThere_2 (by first | assumption | decide | omega) (by first | assumption | rfl) ?_
      refine XE.alen d_SS_isFolderThere_5 (Or.inr (by decide)) (by first | assumption | decide | omega) (by first | assumption | rfl) ?_
      refine k_SS_37 0 d_SS_isFolderThere_6 (by omega) (Nat.le_of_ble_eq_true rfl) (SS_isBelow_ok (b := 24) (nI n) (by decide)) (fun r1 w1 hm1 hq1 => ?_)
      rw [hq1.1, hq1.2]
      clear hq1 hm1 r1 w1
      rw [e]
      refine XE.if_eq 37 d_SS_isFolderThere_9 (by decide) (fun h9 => absurd h9 ((by decide))) (fun h9 => ?_)
      refine XE.aload_n d_SS_isFolderThere_12 rfl ?_
      refine g_SS_11 d_SS_isFolderThere_13 (by first | assumption | decide | omega) (by first | assumption | rfl) ?_
      refine XE.iload_n d_SS_isFolderThere_16 rfl ?_
      refine XE.aald d_SS_isFolderThere_17 (by decide) rfl (by first | assumption | decide | omega) (by first | assumption | exact ixn2 (by assumption) (by omega) (by omega)) (by first | assumption | rfl) ?_
      refine XE.ifnull 37 d_SS_isFolderThere_18 (by decide) (fun h18 => absurd h18 (h0)) (fun h18 => ?_)
      refine XE.aload_n d_SS_isFolderThere_21 rfl ?_
      refine g_SS_11 d_SS_isFolderThere_22 (by first | assumption | decide | omega) (by first | assumption | rfl) ?_
      refine XE.iload_n d_SS_isFolderThere_25 rfl ?_
      refine XE.aald d_SS_isFolderThere_26 (by decide) rfl (by first | assumption | decide | omega) (by first | assumption | exact ixn2 (by assumption) (by omega) (by omega)) (by first | assumption | rfl) ?_
      refine g_SS_136 d_SS_isFolderThere_27 (by first | assumption | decide | omega) (by first | assumption | rfl) ?_
      refine XE.if_eq 37 d_SS_isFolderThere_30 (by decide) (fun h30 => ?_) (fun h30 => ?_)
      · rw [(bI_eq0 _).mp h30]
        refine XE.iconst (x := nI 0) d_SS_isFolderThere_37 (by decide) ?_
        exact XE.rb d_SS_isFolderThere_38 (by decide) ⟨rfl, rfl⟩
      · rw [te _ h30]
        refine XE.iconst (x := nI 1) d_SS_isFolderThere_33 (by decide) ?_
        refine XE.goto 38 d_SS_isFolderThere_34 (by decide) ?_
        exact XE.rb d_SS_isFolderThere_38 (by decide) ⟨rfl, rfl⟩
  · have e : (decide (nI 0 ≤ v) && decide (v ≤ nI 24)) = false := by
      cases h : (decide (nI 0 ≤ v) && decide (v ≤ nI 24)) with
      | false => rfl
      | true => exact absurd (dec2 h) hr
    have ef : fth t v = false := by unfold fth; rw [e]; rfl
    refine XE.iload_n d_SS_isFolderThere_0 rfl ?_
    refine XE.aload_n d_SS_isFolderThere_1 rfl ?_
    refine g_SS_11 d_SS_isFolderThere_2 (by first | assumption | decide | omega) (by first | assumption | rfl) ?_
    refine XE.alen d_SS_isFolderThere_5 (Or.inr (by decide)) (by first | assumption | decide | omega) (by first | assumption | rfl) ?_
    refine k_SS_37 0 d_SS_isFolderThere_6 (by omega) (Nat.le_of_ble_eq_true rfl) (SS_isBelow_ok (b := 24) v (by decide)) (fun r1 w1 hm1 hq1 => ?_)
    rw [hq1.1, hq1.2]
    clear hq1 hm1 r1 w1
    rw [e]
    refine XE.if_eq 37 d_SS_isFolderThere_9 (by decide) (fun h9 => ?_) (fun h9 => absurd h9 ((by decide)))
    refine XE.iconst (x := nI 0) d_SS_isFolderThere_37 (by decide) ?_
    rw [ef]; exact XE.rb d_SS_isFolderThere_38 (by decide) ⟨rfl, rfl⟩
/-- which node stands there: its object, or null -/
def atO (c : CT) (x : Option Nat) : Nat := match x with
  | none => 0
  | some n => c.1 n
theorem find_r {p : Nat → Bool} : ∀ {k s n : Nat}, s ≤ n → n < s + k → p n = true → (∀ x, s ≤ x → x < n → p x = false) → (List.range' s k).find? p = some n := by
  intro k
  induction k with
  | zero => intro s n h1 h2; omega
  | succ k ih =>
    intro s n h1 h2 h3 h4
    rw [List.range'_succ]
    by_cases e : s = n
    · subst e; rw [List.find?_cons_of_pos h3]
    · rw [List.find?_cons_of_neg (by rw [h4 s (Nat.le_refl _) (by omega)]; decide)]
      exact ih (by omega) (by omega) h3 (fun x a b => h4 x (by omega) b)
theorem SS_nodeAt_ok (hS : SSt w) (hT : CTR B (ctW w) t) (hI : TI t) (a b : Int32) (ha : ¬ a < 0) : E_SS_nodeAt d [.inr (0, 1), .inl a, .inl b] w (fun r w' => r = some (.inr (nk 1 (atO (ctW w) (atP t a b)))) ∧ w' = w) := by
  refine S_SS_nodeAt ?_
  obtain ⟨s0, s2, s5, s7, g0, l0, l1, l2, l5⟩ := hS
  have hl : nI (wL w 100 1) = nI 25 := congrArg nI l0
  obtain ⟨hro, g24, htg, -⟩ := hI
  let p : Nat → Bool := fun x => tT t x && tD t x == a && tN t x == b
  have hp0 : p 0 = false := by
    have : (tD t 0 == a) = false := beq_eq_false_iff_ne.mpr (by rw [hro.2.2.1]; intro z; rw [← z] at ha; exact ha (by decide))
    show (tT t 0 && tD t 0 == a && tN t 0 == b) = false
    rw [this, Bool.and_false, Bool.false_and]
  have loop : ∀ k i l4, i + k = 25 → (∀ x, x < i → p x = false) → X_SS_nodeAt d 2 [some (.inr (0, 1)), some (.inl a), some (.inl b), some (.inl (nI i)), l4] [] w (fun r w' => r = some (.inr (nk 1 (atO (ctW w) (atP t a b)))) ∧ w' = w) := by
    intro k
    induction k with
    | zero =>
      intro i l4 hi hno
      have e : atP t a b = none := List.find?_eq_none.mpr (fun x hx => by
        have := List.mem_range'_1.mp hx
        rw [show (tT t x && tD t x == a && tN t x == b) = p x from rfl, hno x (by omega)]
        decide)
      rw [e]
      refine XE.iload_n d_SS_nodeAt_2 rfl ?_
      refine XE.aload_n d_SS_nodeAt_3 rfl ?_
      refine g_SS_11 d_SS_nodeAt_4 (by first | assumption | decide | omega) (by first | assumption | rfl) ?_
      refine XE.alen d_SS_nodeAt_7 (Or.inr (by decide)) (by first | assumption | decide | omega) (by first | assumption | rfl) ?_
      refine XE.icmp_ge 51 d_SS_nodeAt_8 (by decide) (fun h8 => ?_) (fun h8 => absurd h8 ((fun z => z ((le_nI (by omega) (by omega)).mpr (by omega)))))
      refine XE.null d_SS_nodeAt_51 ?_
      exact XE.rr d_SS_nodeAt_52 ⟨rfl, rfl⟩
    | succ k ih =>
      intro i l4 hi hno
      have hix : IXN (nI i) (wL w 100 1) i := IXN.nI (by omega) (by omega)
      have go : ∀ l4, p i = false → X_SS_nodeAt d 2 [some (.inr (0, 1)), some (.inl a), some (.inl b), some (.inl (nI (i + 1))), l4] [] w (fun r w' => r = some (.inr (nk 1 (atO (ctW w) (atP t a b)))) ∧ w' = w) := fun l4 h =>
        ih (i + 1) l4 (by omega) (fun x hx => by
          by_cases e : x = i
          · rw [e]; exact h
          · exact hno x (by omega))
      cases ht : tT t i with
      | false =>
        have h0 : wR w 100 1 i = 0 := hT.no (by omega) ht
        have q : p i = false := by show (tT t i && tD t i == a && tN t i == b) = false; rw [ht]; rfl
        refine XE.iload_n d_SS_nodeAt_2 rfl ?_
        refine XE.aload_n d_SS_nodeAt_3 rfl ?_
        refine g_SS_11 d_SS_nodeAt_4 (by first | assumption | decide | omega) (by first | assumption | rfl) ?_
        refine XE.alen d_SS_nodeAt_7 (Or.inr (by decide)) (by first | assumption | decide | omega) (by first | assumption | rfl) ?_
        refine XE.icmp_ge 51 d_SS_nodeAt_8 (by decide) (fun h8 => absurd h8 ((fun z => by have := (le_nI (by omega) (by omega)).mp z; omega))) (fun h8 => ?_)
        refine XE.aload_n d_SS_nodeAt_11 rfl ?_
        refine g_SS_11 d_SS_nodeAt_12 (by first | assumption | decide | omega) (by first | assumption | rfl) ?_
        refine XE.iload_n d_SS_nodeAt_15 rfl ?_
        refine XE.aald (x := 0) d_SS_nodeAt_16 (by decide) rfl (by first | assumption | decide | omega) (by first | assumption | exact ixn2 (by assumption) (by omega) (by omega)) (by first | assumption | rfl) ?_
        refine XE.astore d_SS_nodeAt_17 (by decide) ?_
        refine XE.aload d_SS_nodeAt_19 rfl ?_
        refine XE.ifnull 45 d_SS_nodeAt_21 (by decide) (fun h21 => ?_) (fun h21 => absurd h21 ((fun z => z rfl)))
        refine XE.iinc d_SS_nodeAt_45 rfl (inc_nI _) ?_
        refine XE.goto 2 d_SS_nodeAt_48 (by decide) ?_
        exact go _ q
      | true =>
        have h0 : wR w 100 1 i ≠ 0 := hT.nz (by omega) ht
        have hc := (hT.2 i (by omega)).2.2 ht
        have hdd : wI w 1 (wR w 100 1 i) 2 = tD t i := hc.2.2.1
        have hnn : wI w 1 (wR w 100 1 i) 3 = tN t i := hc.2.2.2.1
        have ep : p i = (tD t i == a && tN t i == b) := by show (tT t i && tD t i == a && tN t i == b) = _; rw [ht, Bool.true_and]
        refine XE.iload_n d_SS_nodeAt_2 rfl ?_
        refine XE.aload_n d_SS_nodeAt_3 rfl ?_
        refine g_SS_11 d_SS_nodeAt_4 (by first | assumption | decide | omega) (by first | assumption | rfl) ?_
        refine XE.alen d_SS_nodeAt_7 (Or.inr (by decide)) (by first | assumption | decide | omega) (by first | assumption | rfl) ?_
        refine XE.icmp_ge 51 d_SS_nodeAt_8 (by decide) (fun h8 => absurd h8 ((fun z => by have := (le_nI (by omega) (by omega)).mp z; omega))) (fun h8 => ?_)
        refine XE.aload_n d_SS_nodeAt_11 rfl ?_
        refine g_SS_11 d_SS_nodeAt_12 (by first | assumption | decide | omega) (by first | assumption | rfl) ?_
        refine XE.iload_n d_SS_nodeAt_15 rfl ?_
        refine XE.aald d_SS_nodeAt_16 (by decide) rfl (by first | assumption | decide | omega) (by first | assumption | exact ixn2 (by assumption) (by omega) (by omega)) (by first | assumption | rfl) ?_
        refine XE.astore d_SS_nodeAt_17 (by decide) ?_
        refine XE.aload d_SS_nodeAt_19 rfl ?_
        refine XE.ifnull 45 d_SS_nodeAt_21 (by decide) (fun h21 => absurd h21 (h0)) (fun h21 => ?_)
        refine XE.aload d_SS_nodeAt_24 rfl ?_
        refine g_SS_123 d_SS_nodeAt_26 (by first | assumption | decide | omega) (by first | assumption | rfl) ?_
        refine XE.iload_n d_SS_nodeAt_29 rfl ?_
        refine XE.icmp_ne 45 d_SS_nodeAt_30 (by decide) (fun h30 => ?_) (fun h30 => ?_)
        · have q : p i = false := by rw [ep, beq_eq_false_iff_ne.mpr h30]; rfl
          refine XE.iinc d_SS_nodeAt_45 rfl (inc_nI _) ?_
          refine XE.goto 2 d_SS_nodeAt_48 (by decide) ?_
          exact go _ q
        · refine XE.aload d_SS_nodeAt_33 rfl ?_
          refine g_SS_126 d_SS_nodeAt_35 (by first | assumption | decide | omega) (by first | assumption | rfl) ?_
          refine XE.iload_n d_SS_nodeAt_38 rfl ?_
          refine XE.icmp_ne 45 d_SS_nodeAt_39 (by decide) (fun h39 => ?_) (fun h39 => ?_)
          · have q : p i = false := by rw [ep, beq_eq_false_iff_ne.mpr h39, Bool.and_false]
            refine XE.iinc d_SS_nodeAt_45 rfl (inc_nI _) ?_
            refine XE.goto 2 d_SS_nodeAt_48 (by decide) ?_
            exact go _ q
          · have q : p i = true := by rw [ep, beq_iff_eq.mpr h30, beq_iff_eq.mpr h39]; rfl
            refine XE.aload d_SS_nodeAt_42 rfl ?_
            have i1 : 1 ≤ i := Nat.pos_of_ne_zero (fun z => by rw [z, hp0] at q; exact absurd q (by decide))
            have e : atP t a b = some i := find_r (p := p) i1 (by have := htg i (by omega) ht; omega) q (fun x _ h => hno x h)
            rw [e]; exact XE.rr d_SS_nodeAt_44 ⟨by show _ = some (Sum.inr (nk 1 (wR w 100 1 i))); rw [nk_nz h0], rfl⟩
  refine XE.iconst (x := nI 0) d_SS_nodeAt_0 (by decide) ?_
  refine XE.istore_n d_SS_nodeAt_1 (by decide) ?_
  exact loop 25 0 _ (by omega) (fun x h => absurd h (Nat.not_lt_zero x))
theorem ins25 (hI : TI t) {v : Int32} (hv : ¬ v < 0) : (List.range 25).countP (fun x => tT t x && tD t x == v) = ins t v := by
  obtain ⟨hro, g24, htg, -⟩ := hI
  have e : List.range 25 = 0 :: (List.range' 1 (tG t) ++ List.range' (1 + tG t) (24 - tG t)) := by
    have e1 := List.range'_append (s := 1) (m := tG t) (n := 24 - tG t) (step := 1)
    rw [Nat.one_mul] at e1
    rw [e1, show tG t + (24 - tG t) = 24 by omega]
    rfl
  rw [e, List.countP_cons_of_neg, List.countP_append]
  · unfold ins
    have : (List.range' (1 + tG t) (24 - tG t)).countP (fun x => tT t x && tD t x == v) = 0 := List.countP_eq_zero.mpr (fun x hx => by
      have := List.mem_range'_1.mp hx
      have h : tT t x = false := by
        cases h : tT t x with
        | false => rfl
        | true => have := htg x (by omega) h; omega
      rw [h]; simp)
    rw [this, Nat.add_zero]
  · rw [hro.2.2.1, beq_eq_false_iff_ne.mpr (fun z => hv (by rw [← z]; decide)), Bool.and_false]; decide
theorem cnt_le {p : Nat → Bool} {n : Nat} : (List.range n).countP p ≤ n := by
  have := List.countP_le_length (p := p) (l := List.range n)
  rwa [List.length_range] at this
theorem SS_nodesIn_ok {o n : Nat} (hS : SSt w) (hT : CTR B (ctW w) t) (hI : TI t) (hn : n ≤ 24) (ho : o ≠ 0) (hon : wI w 1 o 0 = nI n) : E_SS_nodesIn d [.inr (0, 1), .inr (1, o)] w (fun r w' => r = some (.inl (nI (ins t (nI n)))) ∧ w' = w) := by
  refine S_SS_nodesIn ?_
  obtain ⟨s0, s2, s5, s7, g0, l0, l1, l2, l5⟩ := hS
  have hl : nI (wL w 100 1) = nI 25 := congrArg nI l0
  rw [← ins25 hI (v := nI n) (nI_pos (by omega))]
  generalize hp : (fun x => tT t x && tD t x == nI n) = p
  have loop : ∀ k i, i + k = 25 → X_SS_nodesIn d 4 [some (.inr (0, 1)), some (.inr (1, o)), some (.inl (nI ((List.range i).countP p))), some (.inl (nI i))] [] w (fun r w' => r = some (.inl (nI ((List.range 25).countP p))) ∧ w' = w) := by
    intro k
    induction k with
    | zero =>
      intro i hi
      have hi : i = 25 := hi
      subst hi
      refine XE.iload_n d_SS_nodesIn_4 rfl ?_
      refine XE.aload_n d_SS_nodesIn_5 rfl ?_
      refine g_SS_11 d_SS_nodesIn_6 (by first | assumption | decide | omega) (by first | assumption | rfl) ?_
      refine XE.alen d_SS_nodesIn_9 (Or.inr (by decide)) (by first | assumption | decide | omega) (by first | assumption | rfl) ?_
      refine XE.icmp_ge 47 d_SS_nodesIn_10 (by decide) (fun h10 => ?_) (fun h10 => absurd h10 ((fun z => z ((le_nI (by omega) (by omega)).mpr (by omega)))))
      refine XE.iload_n d_SS_nodesIn_47 rfl ?_
      exact XE.ri d_SS_nodesIn_48 ⟨rfl, rfl⟩
    | succ k ih =>
      intro i hi
      have hix : IXN (nI i) (wL w 100 1) i := IXN.nI (by omega) (by omega)
      have hs : (List.range (i + 1)).countP p = (List.range i).countP p + if p i = true then 1 else 0 := by
        rw [List.range_succ, List.countP_append, List.countP_singleton]
      have ih := ih (i + 1) (by omega)
      cases ht : tT t i with
      | false =>
        have h0 : wR w 100 1 i = 0 := hT.no (by omega) ht
        have q : p i = false := by rw [← hp]; show (tT t i && _) = false; rw [ht]; rfl
        rw [q] at hs
        rw [hs] at ih
        refine XE.iload_n d_SS_nodesIn_4 rfl ?_
        refine XE.aload_n d_SS_nodesIn_5 rfl ?_
        refine g_SS_11 d_SS_nodesIn_6 (by first | assumption | decide | omega) (by first | assumption | rfl) ?_
        refine XE.alen d_SS_nodesIn_9 (Or.inr (by decide)) (by first | assumption | decide | omega) (by first | assumption | rfl) ?_
        refine XE.icmp_ge 47 d_SS_nodesIn_10 (by decide) (fun h10 => absurd h10 ((fun z => by have := (le_nI (by omega) (by omega)).mp z; omega))) (fun h10 => ?_)
        refine XE.aload_n d_SS_nodesIn_13 rfl ?_
        refine g_SS_11 d_SS_nodesIn_14 (by first | assumption | decide | omega) (by first | assumption | rfl) ?_
        refine XE.iload_n d_SS_nodesIn_17 rfl ?_
        refine XE.aald (x := 0) d_SS_nodesIn_18 (by decide) rfl (by first | assumption | decide | omega) (by first | assumption | exact ixn2 (by assumption) (by omega) (by omega)) (by first | assumption | rfl) ?_
        refine XE.ifnull 41 d_SS_nodesIn_19 (by decide) (fun h19 => ?_) (fun h19 => absurd h19 ((fun z => z rfl)))
        refine XE.iinc d_SS_nodesIn_41 rfl (inc_nI _) ?_
        refine XE.goto 4 d_SS_nodesIn_44 (by decide) ?_
        exact ih
      | true =>
        have h0 : wR w 100 1 i ≠ 0 := hT.nz (by omega) ht
        have hdd : wI w 1 (wR w 100 1 i) 2 = tD t i := ((hT.2 i (by omega)).2.2 ht).2.2.1
        have ep : p i = (tD t i == nI n) := by rw [← hp]; show (tT t i && _) = _; rw [ht, Bool.true_and]
        refine XE.iload_n d_SS_nodesIn_4 rfl ?_
        refine XE.aload_n d_SS_nodesIn_5 rfl ?_
        refine g_SS_11 d_SS_nodesIn_6 (by first | assumption | decide | omega) (by first | assumption | rfl) ?_
        refine XE.alen d_SS_nodesIn_9 (Or.inr (by decide)) (by first | assumption | decide | omega) (by first | assumption | rfl) ?_
        refine XE.icmp_ge 47 d_SS_nodesIn_10 (by decide) (fun h10 => absurd h10 ((fun z => by have := (le_nI (by omega) (by omega)).mp z; omega))) (fun h10 => ?_)
        refine XE.aload_n d_SS_nodesIn_13 rfl ?_
        refine g_SS_11 d_SS_nodesIn_14 (by first | assumption | decide | omega) (by first | assumption | rfl) ?_
        refine XE.iload_n d_SS_nodesIn_17 rfl ?_
        refine XE.aald d_SS_nodesIn_18 (by decide) rfl (by first | assumption | decide | omega) (by first | assumption | exact ixn2 (by assumption) (by omega) (by omega)) (by first | assumption | rfl) ?_
        refine XE.ifnull 41 d_SS_nodesIn_19 (by decide) (fun h19 => absurd h19 (h0)) (fun h19 => ?_)
        refine XE.aload_n d_SS_nodesIn_22 rfl ?_
        refine g_SS_11 d_SS_nodesIn_23 (by first | assumption | decide | omega) (by first | assumption | rfl) ?_
        refine XE.iload_n d_SS_nodesIn_26 rfl ?_
        refine XE.aald d_SS_nodesIn_27 (by decide) rfl (by first | assumption | decide | omega) (by first | assumption | exact ixn2 (by assumption) (by omega) (by omega)) (by first | assumption | rfl) ?_
        refine g_SS_123 d_SS_nodesIn_28 (by first | assumption | decide | omega) (by first | assumption | rfl) ?_
        refine XE.aload_n d_SS_nodesIn_31 rfl ?_
        refine g_SS_108 d_SS_nodesIn_32 (by first | assumption | decide | omega) (by first | assumption | rfl) ?_
        refine XE.icmp_ne 41 d_SS_nodesIn_35 (by decide) (fun h35 => ?_) (fun h35 => ?_)
        · rw [ep, beq_eq_false_iff_ne.mpr h35] at hs
          rw [hs] at ih
          refine XE.iinc d_SS_nodesIn_41 rfl (inc_nI _) ?_
          refine XE.goto 4 d_SS_nodesIn_44 (by decide) ?_
          exact ih
        · rw [ep, beq_iff_eq.mpr h35, if_pos rfl] at hs
          rw [hs] at ih
          refine XE.iinc d_SS_nodesIn_38 rfl (inc_nI _) ?_
          refine XE.iinc d_SS_nodesIn_41 rfl (inc_nI _) ?_
          refine XE.goto 4 d_SS_nodesIn_44 (by decide) ?_
          exact ih
  refine XE.iconst (x := nI 0) d_SS_nodesIn_0 (by decide) ?_
  refine XE.istore_n d_SS_nodesIn_1 (by decide) ?_
  refine XE.iconst (x := nI 0) d_SS_nodesIn_2 (by decide) ?_
  refine XE.istore_n d_SS_nodesIn_3 (by decide) ?_
  exact loop 25 0 (by omega)
theorem ins_le (hI : TI t) : ∀ v, ins t v ≤ 24 := fun v => by
  have := List.countP_le_length (p := fun x => tT t x && tD t x == v) (l := List.range' 1 (tG t))
  rw [List.length_range'] at this
  exact Nat.le_trans this hI.2.1
theorem SS_isRemovable_ok {o n : Nat} (hS : SSt w) (hT : CTR B (ctW w) t) (hI : TI t) (hn : n ≤ 24) (ho : o ≠ 0) (hon : wI w 1 o 0 = nI n) (hd : 1 ≤ d) : E_SS_isRemovable d [.inr (0, 1), .inr (1, o)] w (fun r w' => r = some (.inl (bI (!(n == 0) && ins t (nI n) == 0))) ∧ w' = w) := by
  refine S_SS_isRemovable ?_
  have hle := ins_le hI (nI n)
  refine XE.aload_n d_SS_isRemovable_0 rfl ?_
  refine g_SS_108 d_SS_isRemovable_1 (by first | assumption | decide | omega) (by first | assumption | rfl) ?_
  refine XE.if_eq 19 d_SS_isRemovable_4 (by decide) (fun h4 => ?_) (fun h4 => ?_)
  · have e := (eq_nI (b := 0) (by omega) (by omega)).mp h4
    rw [show (n == 0) = true from beq_iff_eq.mpr e]
    refine XE.iconst (x := nI 0) d_SS_isRemovable_19 (by decide) ?_
    exact XE.rb d_SS_isRemovable_20 (by decide) ⟨rfl, rfl⟩
  · have e : (n == 0) = false := beq_eq_false_iff_ne.mpr (fun z => h4 (by rw [z]; rfl))
    rw [e]
    refine XE.aload_n d_SS_isRemovable_7 rfl ?_
    refine XE.aload_n d_SS_isRemovable_8 rfl ?_
    refine k_SS_203 0 d_SS_isRemovable_9 (by omega) (Nat.le_of_ble_eq_true rfl) (by first | assumption | decide | omega) (SS_nodesIn_ok hS hT hI hn ho hon) (fun r1 w1 hm1 hq1 => ?_)
    rw [hq1.1, hq1.2]
    clear hq1 hm1 r1 w1
    refine XE.if_ne 19 d_SS_isRemovable_12 (by decide) (fun h12 => ?_) (fun h12 => ?_)
    · rw [show (ins t (nI n) == 0) = false from beq_eq_false_iff_ne.mpr (fun z => h12 (by rw [z]; rfl))]
      refine XE.iconst (x := nI 0) d_SS_isRemovable_19 (by decide) ?_
      exact XE.rb d_SS_isRemovable_20 (by decide) ⟨rfl, rfl⟩
    · rw [show (ins t (nI n) == 0) = true from beq_iff_eq.mpr ((eq_nI (b := 0) (by omega) (by omega)).mp h12)]
      refine XE.iconst (x := nI 1) d_SS_isRemovable_15 (by decide) ?_
      refine XE.goto 20 d_SS_isRemovable_16 (by decide) ?_
      exact XE.rb d_SS_isRemovable_20 (by decide) ⟨rfl, rfl⟩
theorem SS_inside_ok {n : Nat} (hS : SSt w) (hT : CTR B (ctW w) t) (hI : TI t) (hn : 1 ≤ n) (hn2 : n ≤ 24) (u : Int32) (hE : EI t 25 u) (hd : 2 ≤ d) (hfo : ∀ y, y ≤ 24 → u = nI y → tF t y = true) : E_SS_isOrLiesInside d [.inr (0, 1), .inl u, .inl (nI n)] w (fun r w' => r = some (.inl (bI (inA t n 25 u))) ∧ w' = w) := by
  refine S_SS_isOrLiesInside ?_
  have hS' := hS
  obtain ⟨s0, s2, s5, s7, g0, l0, l1, l2, l5⟩ := hS
  have loop : ∀ k i (uu u : Int32), i + k = 25 → EI t k u → (∀ y, y ≤ 24 → u = nI y → tF t y = true) → X_SS_isOrLiesInside d 5 [some (.inr (0, 1)), some (.inl uu), some (.inl (nI n)), some (.inl u), some (.inl (nI i))] [] w (fun r w' => r = some (.inl (bI (inA t n k u))) ∧ w' = w) := by
    intro k
    induction k with
    | zero =>
      intro i uu u hi hu _
      have hi : i = 25 := hi
      subst hi
      refine XE.iload d_SS_isOrLiesInside_5 rfl ?_
      refine XE.bipush (x := nI 24) d_SS_isOrLiesInside_7 (by decide) ?_
      refine XE.icmp_gt 45 d_SS_isOrLiesInside_9 (by decide) (fun h9 => ?_) (fun h9 => absurd h9 ((fun z => z ((lt_nI (by omega) (by omega)).mpr (by omega)))))
      refine XE.iconst (x := nI 0) d_SS_isOrLiesInside_45 (by decide) ?_
      exact XE.rb d_SS_isOrLiesInside_46 (by decide) ⟨rfl, rfl⟩
    | succ k ih =>
      intro i uu u hi hu hf
      rcases hu with hu | ⟨z, hz, rfl, hzt, hzE⟩
      · have e : inA t n (k + 1) u = false := by show (if u < 0 then false else _) = false; rw [if_pos hu]
        rw [e]
        refine XE.iload d_SS_isOrLiesInside_5 rfl ?_
        refine XE.bipush (x := nI 24) d_SS_isOrLiesInside_7 (by decide) ?_
        refine XE.icmp_gt 45 d_SS_isOrLiesInside_9 (by decide) (fun h9 => absurd h9 ((fun z => by have := (lt_nI (by omega) (by omega)).mp z; omega))) (fun h9 => ?_)
        refine XE.iload_n d_SS_isOrLiesInside_12 rfl ?_
        refine XE.iload_n d_SS_isOrLiesInside_13 rfl ?_
        refine XE.icmp_ne 19 d_SS_isOrLiesInside_14 (by decide) (fun h14 => ?_) (fun h14 => absurd h14 ((fun z => nI_pos (n := n) (by omega) (by rw [← z]; exact hu))))
        refine XE.aload_n d_SS_isOrLiesInside_19 rfl ?_
        refine XE.iload_n d_SS_isOrLiesInside_20 rfl ?_
        refine k_SS_111 1 d_SS_isOrLiesInside_21 (by omega) (Nat.le_of_ble_eq_true rfl) (by first | assumption | decide | omega) (SS_isFolderThere_ok hS' hT (by omega) u) (fun r1 w1 hm1 hq1 => ?_)
        rw [hq1.1, hq1.2]
        clear hq1 hm1 r1 w1
        rw [fth_neg hu]
        refine XE.if_ne 29 d_SS_isOrLiesInside_24 (by decide) (fun h24 => absurd h24 ((fun z => z rfl))) (fun h24 => ?_)
        refine XE.iconst (x := nI 0) d_SS_isOrLiesInside_27 (by decide) ?_
        exact XE.rb d_SS_isOrLiesInside_28 (by decide) ⟨rfl, rfl⟩
      · have hi2 : inA t n (k + 1) (nI z) = (nI z == nI n || inA t n k (tD t z)) := by
          show (if nI z < 0 then false else _) = _
          rw [if_neg (nI_pos (by omega)), nI_clamp (by omega)]
        rw [hi2]
        have h0 : wR w 100 1 z ≠ 0 := hT.nz hz hzt
        have hdd : wI w 1 (wR w 100 1 z) 2 = tD t z := ((hT.2 z hz).2.2 hzt).2.2.1
        have hix : IXN (nI z) (wL w 100 1) z := IXN.nI (by omega) (by omega)
        have hff : fth t (nI z) = true := by rw [fth_nI hz, hzt, hf z hz rfl]; rfl
        have hnx : ∀ y, y ≤ 24 → tD t z = nI y → tF t y = true := fun y hy he => by
          by_cases z0 : z = 0
          · rw [z0, hI.1.2.2.1] at he
            exact absurd (show (nI y : Int32) < 0 by rw [← he]; decide) (nI_pos (by omega))
          · obtain ⟨p, p1, p2, p3, p4⟩ := hI.2.2.2.1 z (by omega) hz hzt
            rw [he] at p2
            rw [(eq_nI (by omega) (by omega)).mp p2]
            exact p4
        refine XE.iload d_SS_isOrLiesInside_5 rfl ?_
        refine XE.bipush (x := nI 24) d_SS_isOrLiesInside_7 (by decide) ?_
        refine XE.icmp_gt 45 d_SS_isOrLiesInside_9 (by decide) (fun h9 => absurd h9 ((fun z => by have := (lt_nI (by omega) (by omega)).mp z; omega))) (fun h9 => ?_)
        refine XE.iload_n d_SS_isOrLiesInside_12 rfl ?_
        refine XE.iload_n d_SS_isOrLiesInside_13 rfl ?_
        refine XE.icmp_ne 19 d_SS_isOrLiesInside_14 (by decide) (fun h14 => ?_) (fun h14 => ?_)
        · rw [beq_eq_false_iff_ne.mpr h14, Bool.false_or]
          refine XE.aload_n d_SS_isOrLiesInside_19 rfl ?_
          refine XE.iload_n d_SS_isOrLiesInside_20 rfl ?_
          refine k_SS_111 1 d_SS_isOrLiesInside_21 (by omega) (Nat.le_of_ble_eq_true rfl) (by first | assumption | decide | omega) (SS_isFolderThere_ok hS' hT (by omega) (nI z)) (fun r1 w1 hm1 hq1 => ?_)
          rw [hq1.1, hq1.2]
          clear hq1 hm1 r1 w1
          rw [hff]
          refine XE.if_ne 29 d_SS_isOrLiesInside_24 (by decide) (fun h24 => ?_) (fun h24 => absurd h24 ((by decide)))
          refine XE.aload_n d_SS_isOrLiesInside_29 rfl ?_
          refine g_SS_11 d_SS_isOrLiesInside_30 (by first | assumption | decide | omega) (by first | assumption | rfl) ?_
          refine XE.iload_n d_SS_isOrLiesInside_33 rfl ?_
          refine XE.aald d_SS_isOrLiesInside_34 (by decide) rfl (by first | assumption | decide | omega) (by first | assumption | exact ixn2 (by assumption) (by omega) (by omega)) (by first | assumption | rfl) ?_
          refine g_SS_123 d_SS_isOrLiesInside_35 (by first | assumption | decide | omega) (by first | assumption | rfl) ?_
          refine XE.istore_n d_SS_isOrLiesInside_38 (by decide) ?_
          refine XE.iinc d_SS_isOrLiesInside_39 rfl (inc_nI _) ?_
          refine XE.goto 5 d_SS_isOrLiesInside_42 (by decide) ?_
          exact ih (i + 1) uu (tD t z) (by omega) hzE hnx
        · rw [h14, show (nI n == nI n) = true from beq_self_eq_true _, Bool.true_or]
          refine XE.iconst (x := nI 1) d_SS_isOrLiesInside_17 (by decide) ?_
          exact XE.rb d_SS_isOrLiesInside_18 (by decide) ⟨rfl, rfl⟩
  refine XE.iload_n d_SS_isOrLiesInside_0 rfl ?_
  refine XE.istore_n d_SS_isOrLiesInside_1 (by decide) ?_
  refine XE.iconst (x := nI 0) d_SS_isOrLiesInside_2 (by decide) ?_
  refine XE.istore d_SS_isOrLiesInside_3 (by decide) ?_
  exact loop 25 0 u u (by omega) hE hfo
end TAB
