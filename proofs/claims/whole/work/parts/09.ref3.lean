/-! the reference's log: apply and note -/
/-- the cells of a node emptied, up to i -/
def zr (w : WW) (n i : Nat) : WW := (w.1, (fun k o j => if k = 116 ∧ o = 1 ∧ 32 * n ≤ j ∧ j < 32 * n + i then 0 else w.2.1 k o j), w.2.2)
theorem wI_zr (w : WW) (n i k o j : Nat) : wI (zr w n i) k o j = if k = 116 ∧ o = 1 ∧ 32 * n ≤ j ∧ j < 32 * n + i then 0 else wI w k o j := rfl
theorem zr_0 (w : WW) (n : Nat) : zr w n 0 = w := by
  have : (fun k o j => if k = 116 ∧ o = 1 ∧ 32 * n ≤ j ∧ j < 32 * n + 0 then 0 else w.2.1 k o j) = w.2.1 := by
    funext k o j
    rw [if_neg (by omega)]
  show (w.1, _, w.2.2) = w
  rw [this]
theorem zr_s (w : WW) (n i : Nat) : sI (zr w n i) 116 1 (32 * n + i) (nI 0) = zr w n (i + 1) := by
  show (w.1, _, w.2.2) = (w.1, _, w.2.2)
  congr 2
  funext k o j
  show (if k = 116 ∧ o = 1 ∧ j = 32 * n + i then nI 0 else if k = 116 ∧ o = 1 ∧ 32 * n ≤ j ∧ j < 32 * n + i then 0 else w.2.1 k o j) = if k = 116 ∧ o = 1 ∧ 32 * n ≤ j ∧ j < 32 * n + (i + 1) then 0 else w.2.1 k o j
  by_cases h1 : k = 116 ∧ o = 1
  · obtain ⟨rfl, rfl⟩ := h1
    by_cases h2 : j = 32 * n + i
    · rw [if_pos ⟨rfl, rfl, h2⟩, if_pos ⟨rfl, rfl, by omega, by omega⟩]; rfl
    · rw [if_neg (fun q => h2 q.2.2)]
      by_cases h3 : 32 * n ≤ j ∧ j < 32 * n + i
      · rw [if_pos ⟨rfl, rfl, h3⟩, if_pos ⟨rfl, rfl, h3.1, by omega⟩]
      · rw [if_neg (fun q => h3 q.2.2), if_neg (fun q => h3 ⟨q.2.2.1, by omega⟩)]
  · rw [if_neg (fun q => h1 ⟨q.1, q.2.1⟩), if_neg (fun q => h1 ⟨q.1, q.2.1⟩), if_neg (fun q => h1 ⟨q.1, q.2.1⟩)]
section AP
variable {w : WW} {d c n : Nat} {a b e z : Int32}
theorem Md_apply_1 (hS : MdS w) (hc : c ≤ 1100) (hn : n ≤ 24) (f0 : wI w 110 1 (5 * c) = nI 1) (f1 : wI w 110 1 (5 * c + 1) = nI n) (f2 : wI w 110 1 (5 * c + 2) = a) (f3 : wI w 110 1 (5 * c + 3) = b) (f4 : wI w 110 1 (5 * c + 4) = e) (hz1 : e = nI 1 → z = nI 1) (hz0 : ¬ e = nI 1 → z = nI 0) :
    E_Md_apply d [.inr (7, 1), .inl (nI c)] w (fun r w' => r = none ∧ w' = sI (sI (zr (sI (sI (sI w 7 1 3 (nI n)) 111 1 n (nI 1)) 112 1 n z) n 32) 113 1 n a) 114 1 n b) := by
  refine S_Md_apply ?_
  obtain ⟨s2, s4, s5, s6, s7, s8, s9, s11, s13, s15, l0, l1, l2, l3, l4, l5, l6, l7, l8, l9⟩ := hS
  have loop : ∀ (v : WW), (wR v 7 1 9 = 1) → wL v 116 1 = 800 → wR v 7 1 2 = 1 → wL v 110 1 = 6000 → wR v 7 1 6 = 1 → wL v 113 1 = 25 → wR v 7 1 7 = 1 → wL v 114 1 = 25 → wI v 110 1 (5 * c) = nI 1 → wI v 110 1 (5 * c + 2) = a → wI v 110 1 (5 * c + 3) = b → ∀ k i, i + k = 32 → X_Md_apply d 61 [some (.inr (7, 1)), some (.inl (nI c)), some (.inl (nI (5 * c))), some (.inl (nI n)), some (.inl (nI i))] [] (zr v n i) (fun r w' => r = none ∧ w' = sI (sI (zr v n 32) 113 1 n a) 114 1 n b) := by
    intro v q1 q2 q3 q4 q5 q6 q7 q8 q9 q10 q11 k
    induction k with
    | zero =>
      intro i hi
      have hi : i = 32 := hi
      subst hi
      refine XE.iload d_Md_apply_61 rfl ?_
      refine XE.bipush (x := nI 32) d_Md_apply_63 (by decide) ?_
      refine XE.icmp_ge 87 d_Md_apply_65 (by decide) (fun h65 => ?_) (fun h65 => absurd h65 ((by rw [le_nI (by omega) (by omega)]; omega)))
      refine XE.aload_n d_Md_apply_87 rfl ?_
      refine g_Md_7 d_Md_apply_88 (by first | assumption | decide | omega) (by first | assumption | rfl) ?_
      refine XE.iload_n d_Md_apply_91 rfl ?_
      refine XE.iald d_Md_apply_92 (Or.inr ⟨by decide, rfl⟩) (by first | assumption | decide | omega) (by first | assumption | exact ixn2 (by assumption) (by omega) (by omega)) (by first | assumption | rfl) ?_
      refine XE.iconst (x := nI 2) d_Md_apply_93 (by decide) ?_
      refine XE.icmp_ne 104 d_Md_apply_94 (by decide) (fun h94 => ?_) (fun h94 => absurd h94 ((by decide)))
      refine XE.aload_n d_Md_apply_104 rfl ?_
      refine g_Md_7 d_Md_apply_105 (by first | assumption | decide | omega) (by first | assumption | rfl) ?_
      refine XE.iload_n d_Md_apply_108 rfl ?_
      refine XE.iald d_Md_apply_109 (Or.inr ⟨by decide, rfl⟩) (by first | assumption | decide | omega) (by first | assumption | exact ixn2 (by assumption) (by omega) (by omega)) (by first | assumption | rfl) ?_
      refine XE.iconst (x := nI 4) d_Md_apply_110 (by decide) ?_
      refine XE.icmp_ne 140 d_Md_apply_111 (by decide) (fun h111 => ?_) (fun h111 => absurd h111 ((by decide)))
      refine XE.aload_n d_Md_apply_140 rfl ?_
      refine g_Md_7 d_Md_apply_141 (by first | assumption | decide | omega) (by first | assumption | rfl) ?_
      refine XE.iload_n d_Md_apply_144 rfl ?_
      refine XE.iald d_Md_apply_145 (Or.inr ⟨by decide, rfl⟩) (by first | assumption | decide | omega) (by first | assumption | exact ixn2 (by assumption) (by omega) (by omega)) (by first | assumption | rfl) ?_
      refine XE.iconst (x := nI 1) d_Md_apply_146 (by decide) ?_
      refine XE.icmp_eq 160 d_Md_apply_147 (by decide) (fun h147 => ?_) (fun h147 => absurd h147 ((by decide)))
      refine XE.aload_n d_Md_apply_160 rfl ?_
      refine g_Md_20 d_Md_apply_161 (by first | assumption | decide | omega) (by first | assumption | rfl) ?_
      refine XE.iload_n d_Md_apply_164 rfl ?_
      refine XE.aload_n d_Md_apply_165 rfl ?_
      refine g_Md_7 d_Md_apply_166 (by first | assumption | decide | omega) (by first | assumption | rfl) ?_
      refine XE.iload_n d_Md_apply_169 rfl ?_
      refine XE.iconst (x := nI 2) d_Md_apply_170 (by decide) ?_
      refine XE.iadd d_Md_apply_171 (by first | exact nI_add _ _ | rfl) ?_
      refine XE.iald d_Md_apply_172 (Or.inr ⟨by decide, rfl⟩) (by first | assumption | decide | omega) (by first | assumption | exact ixn2 (by assumption) (by omega) (by omega)) (by first | assumption | rfl) ?_
      refine XE.iast d_Md_apply_173 (by decide) rfl (by first | assumption | decide | omega) (by first | assumption | exact ixn2 (by assumption) (by omega) (by omega)) ?_
      refine XE.aload_n d_Md_apply_174 rfl ?_
      refine g_Md_23 d_Md_apply_175 (by first | assumption | decide | omega) (by first | assumption | rfl) ?_
      refine XE.iload_n d_Md_apply_178 rfl ?_
      refine XE.aload_n d_Md_apply_179 rfl ?_
      refine g_Md_7 d_Md_apply_180 (by first | assumption | decide | omega) (by first | assumption | rfl) ?_
      refine XE.iload_n d_Md_apply_183 rfl ?_
      refine XE.iconst (x := nI 3) d_Md_apply_184 (by decide) ?_
      refine XE.iadd d_Md_apply_185 (by first | exact nI_add _ _ | rfl) ?_
      refine XE.iald d_Md_apply_186 (Or.inr ⟨by decide, rfl⟩) (by first | assumption | decide | omega) (by first | assumption | exact ixn2 (by assumption) (by omega) (by omega)) (by first | assumption | rfl) ?_
      refine XE.iast d_Md_apply_187 (by decide) rfl (by first | assumption | decide | omega) (by first | assumption | exact ixn2 (by assumption) (by omega) (by omega)) ?_
      exact XE.rv d_Md_apply_188 ⟨rfl, rfl⟩
    | succ k ih =>
      intro i hi
      refine XE.iload d_Md_apply_61 rfl ?_
      refine XE.bipush (x := nI 32) d_Md_apply_63 (by decide) ?_
      refine XE.icmp_ge 87 d_Md_apply_65 (by decide) (fun h65 => absurd h65 ((by rw [le_nI (by omega) (by omega)]; omega))) (fun h65 => ?_)
      refine XE.aload_n d_Md_apply_68 rfl ?_
      refine g_Md_29 d_Md_apply_69 (by first | assumption | decide | omega) (by first | assumption | rfl) ?_
      refine XE.bipush (x := nI 32) d_Md_apply_72 (by decide) ?_
      refine XE.iload_n d_Md_apply_74 rfl ?_
      refine XE.imul d_Md_apply_75 (by first | exact pk_mul _ _ | rfl) ?_
      refine XE.iload d_Md_apply_76 rfl ?_
      refine XE.iadd d_Md_apply_78 (by first | exact nI_add _ _ | rfl) ?_
      refine XE.iconst (x := nI 0) d_Md_apply_79 (by decide) ?_
      refine XE.iast d_Md_apply_80 (by decide) rfl (by first | assumption | decide | omega) (by first | assumption | exact ixn2 (by assumption) (by omega) (by omega)) ?_
      refine XE.iinc d_Md_apply_81 rfl (inc_nI _) ?_
      refine XE.goto 61 d_Md_apply_84 (by decide) ?_
      rw [zr_s]
      exact ih (i + 1) (by omega)
  refine XE.iconst (x := nI 5) d_Md_apply_0 (by decide) ?_
  refine XE.iload_n d_Md_apply_1 rfl ?_
  refine XE.imul d_Md_apply_2 (by first | exact pk_mul _ _ | rfl) ?_
  refine XE.istore_n d_Md_apply_3 (by decide) ?_
  refine XE.aload_n d_Md_apply_4 rfl ?_
  refine g_Md_7 d_Md_apply_5 (by first | assumption | decide | omega) (by first | assumption | rfl) ?_
  refine XE.iload_n d_Md_apply_8 rfl ?_
  refine XE.iconst (x := nI 1) d_Md_apply_9 (by decide) ?_
  refine XE.iadd d_Md_apply_10 (by first | exact nI_add _ _ | rfl) ?_
  refine XE.iald d_Md_apply_11 (Or.inr ⟨by decide, rfl⟩) (by first | assumption | decide | omega) (by first | assumption | exact ixn2 (by assumption) (by omega) (by omega)) (by first | assumption | rfl) ?_
  refine XE.istore_n d_Md_apply_12 (by decide) ?_
  refine XE.aload_n d_Md_apply_13 rfl ?_
  refine g_Md_7 d_Md_apply_14 (by first | assumption | decide | omega) (by first | assumption | rfl) ?_
  refine XE.iload_n d_Md_apply_17 rfl ?_
  refine XE.iald d_Md_apply_18 (Or.inr ⟨by decide, rfl⟩) (by first | assumption | decide | omega) (by first | assumption | exact ixn2 (by assumption) (by omega) (by omega)) (by first | assumption | rfl) ?_
  refine XE.iconst (x := nI 1) d_Md_apply_19 (by decide) ?_
  refine XE.icmp_ne 87 d_Md_apply_20 (by decide) (fun h20 => absurd h20 ((by decide))) (fun h20 => ?_)
  refine XE.aload_n d_Md_apply_23 rfl ?_
  refine XE.iload_n d_Md_apply_24 rfl ?_
  refine p_Md_53 d_Md_apply_25 (by first | assumption | decide | omega) ?_
  refine XE.aload_n d_Md_apply_28 rfl ?_
  refine g_Md_13 d_Md_apply_29 (by first | assumption | decide | omega) (by first | assumption | rfl) ?_
  refine XE.iload_n d_Md_apply_32 rfl ?_
  refine XE.iconst (x := nI 1) d_Md_apply_33 (by decide) ?_
  refine XE.zast d_Md_apply_34 (by decide) rfl (Or.inr rfl) (by first | assumption | decide | omega) (by first | assumption | exact ixn2 (by assumption) (by omega) (by omega)) ?_
  refine XE.aload_n d_Md_apply_35 rfl ?_
  refine g_Md_17 d_Md_apply_36 (by first | assumption | decide | omega) (by first | assumption | rfl) ?_
  refine XE.iload_n d_Md_apply_39 rfl ?_
  refine XE.aload_n d_Md_apply_40 rfl ?_
  refine g_Md_7 d_Md_apply_41 (by first | assumption | decide | omega) (by first | assumption | rfl) ?_
  refine XE.iload_n d_Md_apply_44 rfl ?_
  refine XE.iconst (x := nI 4) d_Md_apply_45 (by decide) ?_
  refine XE.iadd d_Md_apply_46 (by first | exact nI_add _ _ | rfl) ?_
  refine XE.iald d_Md_apply_47 (Or.inr ⟨by decide, rfl⟩) (by first | assumption | decide | omega) (by first | assumption | exact ixn2 (by assumption) (by omega) (by omega)) (by first | assumption | rfl) ?_
  refine XE.iconst (x := nI 1) d_Md_apply_48 (by decide) ?_
  refine XE.icmp_ne 56 d_Md_apply_49 (by decide) (fun h49 => ?_) (fun h49 => ?_)
  · have hz := hz0 h49
    subst hz
    refine XE.iconst (x := nI 0) d_Md_apply_56 (by decide) ?_
    refine XE.zast d_Md_apply_57 (by decide) rfl (by decide) (by first | assumption | decide | omega) (by first | assumption | exact ixn2 (by assumption) (by omega) (by omega)) ?_
    refine XE.iconst (x := nI 0) d_Md_apply_58 (by decide) ?_
    refine XE.istore d_Md_apply_59 (by decide) ?_
    first | (have L := loop (sI (sI (sI w 7 1 3 (nI n)) 111 1 n (nI 1)) 112 1 n (nI 0)) s9 l6 s2 l0 s6 l3 s7 l4 f0 f2 f3 32 0 rfl; rw [zr_0] at L; exact L) | (have L := loop (sI (sI (sI w 7 1 3 (nI n)) 111 1 n (nI 1)) 112 1 n (nI 1)) s9 l6 s2 l0 s6 l3 s7 l4 f0 f2 f3 32 0 rfl; rw [zr_0] at L; exact L)
  · have hz := hz1 h49
    subst hz
    refine XE.iconst (x := nI 1) d_Md_apply_52 (by decide) ?_
    refine XE.goto 57 d_Md_apply_53 (by decide) ?_
    refine XE.zast d_Md_apply_57 (by decide) rfl (by decide) (by first | assumption | decide | omega) (by first | assumption | exact ixn2 (by assumption) (by omega) (by omega)) ?_
    refine XE.iconst (x := nI 0) d_Md_apply_58 (by decide) ?_
    refine XE.istore d_Md_apply_59 (by decide) ?_
    first | (have L := loop (sI (sI (sI w 7 1 3 (nI n)) 111 1 n (nI 1)) 112 1 n (nI 0)) s9 l6 s2 l0 s6 l3 s7 l4 f0 f2 f3 32 0 rfl; rw [zr_0] at L; exact L) | (have L := loop (sI (sI (sI w 7 1 3 (nI n)) 111 1 n (nI 1)) 112 1 n (nI 1)) s9 l6 s2 l0 s6 l3 s7 l4 f0 f2 f3 32 0 rfl; rw [zr_0] at L; exact L)
theorem Md_apply_2 (hS : MdS w) (hc : c ≤ 1100) (hn : n ≤ 24) (f0 : wI w 110 1 (5 * c) = nI 2) (f1 : wI w 110 1 (5 * c + 1) = nI n) :
    E_Md_apply d [.inr (7, 1), .inl (nI c)] w (fun r w' => r = none ∧ w' = sI w 111 1 n (nI 0)) := by
  refine S_Md_apply ?_
  obtain ⟨s2, s4, s5, s6, s7, s8, s9, s11, s13, s15, l0, l1, l2, l3, l4, l5, l6, l7, l8, l9⟩ := hS
  refine XE.iconst (x := nI 5) d_Md_apply_0 (by decide) ?_
  refine XE.iload_n d_Md_apply_1 rfl ?_
  refine XE.imul d_Md_apply_2 (by first | exact pk_mul _ _ | rfl) ?_
  refine XE.istore_n d_Md_apply_3 (by decide) ?_
  refine XE.aload_n d_Md_apply_4 rfl ?_
  refine g_Md_7 d_Md_apply_5 (by first | assumption | decide | omega) (by first | assumption | rfl) ?_
  refine XE.iload_n d_Md_apply_8 rfl ?_
  refine XE.iconst (x := nI 1) d_Md_apply_9 (by decide) ?_
  refine XE.iadd d_Md_apply_10 (by first | exact nI_add _ _ | rfl) ?_
  refine XE.iald d_Md_apply_11 (Or.inr ⟨by decide, rfl⟩) (by first | assumption | decide | omega) (by first | assumption | exact ixn2 (by assumption) (by omega) (by omega)) (by first | assumption | rfl) ?_
  refine XE.istore_n d_Md_apply_12 (by decide) ?_
  refine XE.aload_n d_Md_apply_13 rfl ?_
  refine g_Md_7 d_Md_apply_14 (by first | assumption | decide | omega) (by first | assumption | rfl) ?_
  refine XE.iload_n d_Md_apply_17 rfl ?_
  refine XE.iald d_Md_apply_18 (Or.inr ⟨by decide, rfl⟩) (by first | assumption | decide | omega) (by first | assumption | exact ixn2 (by assumption) (by omega) (by omega)) (by first | assumption | rfl) ?_
  refine XE.iconst (x := nI 1) d_Md_apply_19 (by decide) ?_
  refine XE.icmp_ne 87 d_Md_apply_20 (by decide) (fun h20 => ?_) (fun h20 => absurd h20 ((by decide)))
  refine XE.aload_n d_Md_apply_87 rfl ?_
  refine g_Md_7 d_Md_apply_88 (by first | assumption | decide | omega) (by first | assumption | rfl) ?_
  refine XE.iload_n d_Md_apply_91 rfl ?_
  refine XE.iald d_Md_apply_92 (Or.inr ⟨by decide, rfl⟩) (by first | assumption | decide | omega) (by first | assumption | exact ixn2 (by assumption) (by omega) (by omega)) (by first | assumption | rfl) ?_
  refine XE.iconst (x := nI 2) d_Md_apply_93 (by decide) ?_
  refine XE.icmp_ne 104 d_Md_apply_94 (by decide) (fun h94 => absurd h94 ((by decide))) (fun h94 => ?_)
  refine XE.aload_n d_Md_apply_97 rfl ?_
  refine g_Md_13 d_Md_apply_98 (by first | assumption | decide | omega) (by first | assumption | rfl) ?_
  refine XE.iload_n d_Md_apply_101 rfl ?_
  refine XE.iconst (x := nI 0) d_Md_apply_102 (by decide) ?_
  refine XE.zast d_Md_apply_103 (by decide) rfl (by first | assumption | decide) (by first | assumption | decide | omega) (by first | assumption | exact ixn2 (by assumption) (by omega) (by omega)) ?_
  refine XE.aload_n d_Md_apply_104 rfl ?_
  refine g_Md_7 d_Md_apply_105 (by first | assumption | decide | omega) (by first | assumption | rfl) ?_
  refine XE.iload_n d_Md_apply_108 rfl ?_
  refine XE.iald d_Md_apply_109 (Or.inr ⟨by decide, rfl⟩) (by first | assumption | decide | omega) (by first | assumption | exact ixn2 (by assumption) (by omega) (by omega)) (by first | assumption | rfl) ?_
  refine XE.iconst (x := nI 4) d_Md_apply_110 (by decide) ?_
  refine XE.icmp_ne 140 d_Md_apply_111 (by decide) (fun h111 => ?_) (fun h111 => absurd h111 ((by decide)))
  refine XE.aload_n d_Md_apply_140 rfl ?_
  refine g_Md_7 d_Md_apply_141 (by first | assumption | decide | omega) (by first | assumption | rfl) ?_
  refine XE.iload_n d_Md_apply_144 rfl ?_
  refine XE.iald d_Md_apply_145 (Or.inr ⟨by decide, rfl⟩) (by first | assumption | decide | omega) (by first | assumption | exact ixn2 (by assumption) (by omega) (by omega)) (by first | assumption | rfl) ?_
  refine XE.iconst (x := nI 1) d_Md_apply_146 (by decide) ?_
  refine XE.icmp_eq 160 d_Md_apply_147 (by decide) (fun h147 => absurd h147 ((by decide))) (fun h147 => ?_)
  refine XE.aload_n d_Md_apply_150 rfl ?_
  refine g_Md_7 d_Md_apply_151 (by first | assumption | decide | omega) (by first | assumption | rfl) ?_
  refine XE.iload_n d_Md_apply_154 rfl ?_
  refine XE.iald d_Md_apply_155 (Or.inr ⟨by decide, rfl⟩) (by first | assumption | decide | omega) (by first | assumption | exact ixn2 (by assumption) (by omega) (by omega)) (by first | assumption | rfl) ?_
  refine XE.iconst (x := nI 3) d_Md_apply_156 (by decide) ?_
  refine XE.icmp_ne 188 d_Md_apply_157 (by decide) (fun h157 => ?_) (fun h157 => absurd h157 ((by decide)))
  exact XE.rv d_Md_apply_188 ⟨rfl, rfl⟩
theorem Md_apply_3 (hS : MdS w) (hc : c ≤ 1100) (hn : n ≤ 24) (f0 : wI w 110 1 (5 * c) = nI 3) (f1 : wI w 110 1 (5 * c + 1) = nI n) (f2 : wI w 110 1 (5 * c + 2) = a) (f3 : wI w 110 1 (5 * c + 3) = b) :
    E_Md_apply d [.inr (7, 1), .inl (nI c)] w (fun r w' => r = none ∧ w' = sI (sI w 113 1 n a) 114 1 n b) := by
  refine S_Md_apply ?_
  obtain ⟨s2, s4, s5, s6, s7, s8, s9, s11, s13, s15, l0, l1, l2, l3, l4, l5, l6, l7, l8, l9⟩ := hS
  refine XE.iconst (x := nI 5) d_Md_apply_0 (by decide) ?_
  refine XE.iload_n d_Md_apply_1 rfl ?_
  refine XE.imul d_Md_apply_2 (by first | exact pk_mul _ _ | rfl) ?_
  refine XE.istore_n d_Md_apply_3 (by decide) ?_
  refine XE.aload_n d_Md_apply_4 rfl ?_
  refine g_Md_7 d_Md_apply_5 (by first | assumption | decide | omega) (by first | assumption | rfl) ?_
  refine XE.iload_n d_Md_apply_8 rfl ?_
  refine XE.iconst (x := nI 1) d_Md_apply_9 (by decide) ?_
  refine XE.iadd d_Md_apply_10 (by first | exact nI_add _ _ | rfl) ?_
  refine XE.iald d_Md_apply_11 (Or.inr ⟨by decide, rfl⟩) (by first | assumption | decide | omega) (by first | assumption | exact ixn2 (by assumption) (by omega) (by omega)) (by first | assumption | rfl) ?_
  refine XE.istore_n d_Md_apply_12 (by decide) ?_
  refine XE.aload_n d_Md_apply_13 rfl ?_
  refine g_Md_7 d_Md_apply_14 (by first | assumption | decide | omega) (by first | assumption | rfl) ?_
  refine XE.iload_n d_Md_apply_17 rfl ?_
  refine XE.iald d_Md_apply_18 (Or.inr ⟨by decide, rfl⟩) (by first | assumption | decide | omega) (by first | assumption | exact ixn2 (by assumption) (by omega) (by omega)) (by first | assumption | rfl) ?_
  refine XE.iconst (x := nI 1) d_Md_apply_19 (by decide) ?_
  refine XE.icmp_ne 87 d_Md_apply_20 (by decide) (fun h20 => ?_) (fun h20 => absurd h20 ((by decide)))
  refine XE.aload_n d_Md_apply_87 rfl ?_
  refine g_Md_7 d_Md_apply_88 (by first | assumption | decide | omega) (by first | assumption | rfl) ?_
  refine XE.iload_n d_Md_apply_91 rfl ?_
  refine XE.iald d_Md_apply_92 (Or.inr ⟨by decide, rfl⟩) (by first | assumption | decide | omega) (by first | assumption | exact ixn2 (by assumption) (by omega) (by omega)) (by first | assumption | rfl) ?_
  refine XE.iconst (x := nI 2) d_Md_apply_93 (by decide) ?_
  refine XE.icmp_ne 104 d_Md_apply_94 (by decide) (fun h94 => ?_) (fun h94 => absurd h94 ((by decide)))
  refine XE.aload_n d_Md_apply_104 rfl ?_
  refine g_Md_7 d_Md_apply_105 (by first | assumption | decide | omega) (by first | assumption | rfl) ?_
  refine XE.iload_n d_Md_apply_108 rfl ?_
  refine XE.iald d_Md_apply_109 (Or.inr ⟨by decide, rfl⟩) (by first | assumption | decide | omega) (by first | assumption | exact ixn2 (by assumption) (by omega) (by omega)) (by first | assumption | rfl) ?_
  refine XE.iconst (x := nI 4) d_Md_apply_110 (by decide) ?_
  refine XE.icmp_ne 140 d_Md_apply_111 (by decide) (fun h111 => ?_) (fun h111 => absurd h111 ((by decide)))
  refine XE.aload_n d_Md_apply_140 rfl ?_
  refine g_Md_7 d_Md_apply_141 (by first | assumption | decide | omega) (by first | assumption | rfl) ?_
  refine XE.iload_n d_Md_apply_144 rfl ?_
  refine XE.iald d_Md_apply_145 (Or.inr ⟨by decide, rfl⟩) (by first | assumption | decide | omega) (by first | assumption | exact ixn2 (by assumption) (by omega) (by omega)) (by first | assumption | rfl) ?_
  refine XE.iconst (x := nI 1) d_Md_apply_146 (by decide) ?_
  refine XE.icmp_eq 160 d_Md_apply_147 (by decide) (fun h147 => absurd h147 ((by decide))) (fun h147 => ?_)
  refine XE.aload_n d_Md_apply_150 rfl ?_
  refine g_Md_7 d_Md_apply_151 (by first | assumption | decide | omega) (by first | assumption | rfl) ?_
  refine XE.iload_n d_Md_apply_154 rfl ?_
  refine XE.iald d_Md_apply_155 (Or.inr ⟨by decide, rfl⟩) (by first | assumption | decide | omega) (by first | assumption | exact ixn2 (by assumption) (by omega) (by omega)) (by first | assumption | rfl) ?_
  refine XE.iconst (x := nI 3) d_Md_apply_156 (by decide) ?_
  refine XE.icmp_ne 188 d_Md_apply_157 (by decide) (fun h157 => absurd h157 ((by decide))) (fun h157 => ?_)
  refine XE.aload_n d_Md_apply_160 rfl ?_
  refine g_Md_20 d_Md_apply_161 (by first | assumption | decide | omega) (by first | assumption | rfl) ?_
  refine XE.iload_n d_Md_apply_164 rfl ?_
  refine XE.aload_n d_Md_apply_165 rfl ?_
  refine g_Md_7 d_Md_apply_166 (by first | assumption | decide | omega) (by first | assumption | rfl) ?_
  refine XE.iload_n d_Md_apply_169 rfl ?_
  refine XE.iconst (x := nI 2) d_Md_apply_170 (by decide) ?_
  refine XE.iadd d_Md_apply_171 (by first | exact nI_add _ _ | rfl) ?_
  refine XE.iald d_Md_apply_172 (Or.inr ⟨by decide, rfl⟩) (by first | assumption | decide | omega) (by first | assumption | exact ixn2 (by assumption) (by omega) (by omega)) (by first | assumption | rfl) ?_
  refine XE.iast d_Md_apply_173 (by decide) rfl (by first | assumption | decide | omega) (by first | assumption | exact ixn2 (by assumption) (by omega) (by omega)) ?_
  refine XE.aload_n d_Md_apply_174 rfl ?_
  refine g_Md_23 d_Md_apply_175 (by first | assumption | decide | omega) (by first | assumption | rfl) ?_
  refine XE.iload_n d_Md_apply_178 rfl ?_
  refine XE.aload_n d_Md_apply_179 rfl ?_
  refine g_Md_7 d_Md_apply_180 (by first | assumption | decide | omega) (by first | assumption | rfl) ?_
  refine XE.iload_n d_Md_apply_183 rfl ?_
  refine XE.iconst (x := nI 3) d_Md_apply_184 (by decide) ?_
  refine XE.iadd d_Md_apply_185 (by first | exact nI_add _ _ | rfl) ?_
  refine XE.iald d_Md_apply_186 (Or.inr ⟨by decide, rfl⟩) (by first | assumption | decide | omega) (by first | assumption | exact ixn2 (by assumption) (by omega) (by omega)) (by first | assumption | rfl) ?_
  refine XE.iast d_Md_apply_187 (by decide) rfl (by first | assumption | decide | omega) (by first | assumption | exact ixn2 (by assumption) (by omega) (by omega)) ?_
  exact XE.rv d_Md_apply_188 ⟨rfl, rfl⟩
theorem Md_apply_4 {i : Nat} (hS : MdS w) (hc : c ≤ 1100) (hn : n ≤ 24) (hi : i < 32) (f0 : wI w 110 1 (5 * c) = nI 4) (f1 : wI w 110 1 (5 * c + 1) = nI n) (f2 : wI w 110 1 (5 * c + 2) = nI i) (f3 : wI w 110 1 (5 * c + 3) = b) :
    E_Md_apply d [.inr (7, 1), .inl (nI c)] w (fun r w' => r = none ∧ w' = sI w 116 1 (32 * n + i) b) := by
  refine S_Md_apply ?_
  obtain ⟨s2, s4, s5, s6, s7, s8, s9, s11, s13, s15, l0, l1, l2, l3, l4, l5, l6, l7, l8, l9⟩ := hS
  refine XE.iconst (x := nI 5) d_Md_apply_0 (by decide) ?_
  refine XE.iload_n d_Md_apply_1 rfl ?_
  refine XE.imul d_Md_apply_2 (by first | exact pk_mul _ _ | rfl) ?_
  refine XE.istore_n d_Md_apply_3 (by decide) ?_
  refine XE.aload_n d_Md_apply_4 rfl ?_
  refine g_Md_7 d_Md_apply_5 (by first | assumption | decide | omega) (by first | assumption | rfl) ?_
  refine XE.iload_n d_Md_apply_8 rfl ?_
  refine XE.iconst (x := nI 1) d_Md_apply_9 (by decide) ?_
  refine XE.iadd d_Md_apply_10 (by first | exact nI_add _ _ | rfl) ?_
  refine XE.iald d_Md_apply_11 (Or.inr ⟨by decide, rfl⟩) (by first | assumption | decide | omega) (by first | assumption | exact ixn2 (by assumption) (by omega) (by omega)) (by first | assumption | rfl) ?_
  refine XE.istore_n d_Md_apply_12 (by decide) ?_
  refine XE.aload_n d_Md_apply_13 rfl ?_
  refine g_Md_7 d_Md_apply_14 (by first | assumption | decide | omega) (by first | assumption | rfl) ?_
  refine XE.iload_n d_Md_apply_17 rfl ?_
  refine XE.iald d_Md_apply_18 (Or.inr ⟨by decide, rfl⟩) (by first | assumption | decide | omega) (by first | assumption | exact ixn2 (by assumption) (by omega) (by omega)) (by first | assumption | rfl) ?_
  refine XE.iconst (x := nI 1) d_Md_apply_19 (by decide) ?_
  refine XE.icmp_ne 87 d_Md_apply_20 (by decide) (fun h20 => ?_) (fun h20 => absurd h20 ((by decide)))
  refine XE.aload_n d_Md_apply_87 rfl ?_
  refine g_Md_7 d_Md_apply_88 (by first | assumption | decide | omega) (by first | assumption | rfl) ?_
  refine XE.iload_n d_Md_apply_91 rfl ?_
  refine XE.iald d_Md_apply_92 (Or.inr ⟨by decide, rfl⟩) (by first | assumption | decide | omega) (by first | assumption | exact ixn2 (by assumption) (by omega) (by omega)) (by first | assumption | rfl) ?_
  refine XE.iconst (x := nI 2) d_Md_apply_93 (by decide) ?_
  refine XE.icmp_ne 104 d_Md_apply_94 (by decide) (fun h94 => ?_) (fun h94 => absurd h94 ((by decide)))
  refine XE.aload_n d_Md_apply_104 rfl ?_
  refine g_Md_7 d_Md_apply_105 (by first | assumption | decide | omega) (by first | assumption | rfl) ?_
  refine XE.iload_n d_Md_apply_108 rfl ?_
  refine XE.iald d_Md_apply_109 (Or.inr ⟨by decide, rfl⟩) (by first | assumption | decide | omega) (by first | assumption | exact ixn2 (by assumption) (by omega) (by omega)) (by first | assumption | rfl) ?_
  refine XE.iconst (x := nI 4) d_Md_apply_110 (by decide) ?_
  refine XE.icmp_ne 140 d_Md_apply_111 (by decide) (fun h111 => absurd h111 ((by decide))) (fun h111 => ?_)
  refine XE.aload_n d_Md_apply_114 rfl ?_
  refine g_Md_29 d_Md_apply_115 (by first | assumption | decide | omega) (by first | assumption | rfl) ?_
  refine XE.bipush (x := nI 32) d_Md_apply_118 (by decide) ?_
  refine XE.iload_n d_Md_apply_120 rfl ?_
  refine XE.imul d_Md_apply_121 (by first | exact pk_mul _ _ | rfl) ?_
  refine XE.aload_n d_Md_apply_122 rfl ?_
  refine g_Md_7 d_Md_apply_123 (by first | assumption | decide | omega) (by first | assumption | rfl) ?_
  refine XE.iload_n d_Md_apply_126 rfl ?_
  refine XE.iconst (x := nI 2) d_Md_apply_127 (by decide) ?_
  refine XE.iadd d_Md_apply_128 (by first | exact nI_add _ _ | rfl) ?_
  refine XE.iald d_Md_apply_129 (Or.inr ⟨by decide, rfl⟩) (by first | assumption | decide | omega) (by first | assumption | exact ixn2 (by assumption) (by omega) (by omega)) (by first | assumption | rfl) ?_
  refine XE.iadd d_Md_apply_130 (by first | exact nI_add _ _ | rfl) ?_
  refine XE.aload_n d_Md_apply_131 rfl ?_
  refine g_Md_7 d_Md_apply_132 (by first | assumption | decide | omega) (by first | assumption | rfl) ?_
  refine XE.iload_n d_Md_apply_135 rfl ?_
  refine XE.iconst (x := nI 3) d_Md_apply_136 (by decide) ?_
  refine XE.iadd d_Md_apply_137 (by first | exact nI_add _ _ | rfl) ?_
  refine XE.iald d_Md_apply_138 (Or.inr ⟨by decide, rfl⟩) (by first | assumption | decide | omega) (by first | assumption | exact ixn2 (by assumption) (by omega) (by omega)) (by first | assumption | rfl) ?_
  refine XE.iast d_Md_apply_139 (by decide) rfl (by first | assumption | decide | omega) (by first | assumption | exact ixn2 (by assumption) (by omega) (by omega)) ?_
  refine XE.aload_n d_Md_apply_140 rfl ?_
  refine g_Md_7 d_Md_apply_141 (by first | assumption | decide | omega) (by first | assumption | rfl) ?_
  refine XE.iload_n d_Md_apply_144 rfl ?_
  refine XE.iald d_Md_apply_145 (Or.inr ⟨by decide, rfl⟩) (by first | assumption | decide | omega) (by first | assumption | exact ixn2 (by assumption) (by omega) (by omega)) (by first | assumption | rfl) ?_
  refine XE.iconst (x := nI 1) d_Md_apply_146 (by decide) ?_
  refine XE.icmp_eq 160 d_Md_apply_147 (by decide) (fun h147 => absurd h147 ((by decide))) (fun h147 => ?_)
  refine XE.aload_n d_Md_apply_150 rfl ?_
  refine g_Md_7 d_Md_apply_151 (by first | assumption | decide | omega) (by first | assumption | rfl) ?_
  refine XE.iload_n d_Md_apply_154 rfl ?_
  refine XE.iald d_Md_apply_155 (Or.inr ⟨by decide, rfl⟩) (by first | assumption | decide | omega) (by first | assumption | exact ixn2 (by assumption) (by omega) (by omega)) (by first | assumption | rfl) ?_
  refine XE.iconst (x := nI 3) d_Md_apply_156 (by decide) ?_
  refine XE.icmp_ne 188 d_Md_apply_157 (by decide) (fun h157 => ?_) (fun h157 => absurd h157 ((by decide)))
  exact XE.rv d_Md_apply_188 ⟨rfl, rfl⟩
end AP
/-- everything but the ints is the same, and of the ints what isn't the reference's -/
def FM (w w' : WW) : Prop := w'.1 = w.1 ∧ w'.2.2 = w.2.2 ∧ ∀ k o j, k ≠ 7 → k < 110 → wI w' k o j = wI w k o j
theorem FM.rf {w : WW} : FM w w := ⟨rfl, rfl, fun _ _ _ _ _ => rfl⟩
theorem FM.tr {w w1 w2 : WW} (a : FM w w1) (b : FM w1 w2) : FM w w2 := ⟨b.1.trans a.1, b.2.1.trans a.2.1, fun k o j h1 h2 => (b.2.2 k o j h1 h2).trans (a.2.2 k o j h1 h2)⟩
theorem FM.sI {w : WW} {k o j : Nat} {x : Int32} (h : k = 7 ∨ 110 ≤ k) : FM w (sI w k o j x) := ⟨rfl, rfl, fun k' o' j' h1 h2 => by
  rw [wI_sI, if_neg]
  rintro ⟨rfl, -⟩
  omega⟩
theorem FM.zr {w : WW} {n i : Nat} : FM w (zr w n i) := ⟨rfl, rfl, fun k' o' j' h1 h2 => by
  rw [wI_zr, if_neg]
  rintro ⟨rfl, -⟩
  omega⟩
theorem FM.S {w w' : WW} (h : FM w w') (hS : MdS w) : MdS w' := by
  obtain ⟨h1, h2, -⟩ := h
  unfold MdS at hS ⊢
  unfold wR wL at hS ⊢
  rw [h2]
  exact hS
/-- a change that fits a table -/
def okC (c : Ch) (t : Tb) : Prop := c.2.1 ≤ 24 ∧ ((c.1 = 1 ∧ (c.2.2.2.2 = 0 ∨ c.2.2.2.2 = 1)) ∨ (c.1 = 2) ∨ (c.1 = 3 ∧ tT t c.2.1 = true) ∨ (c.1 = 4 ∧ tT t c.2.1 = true ∧ ∃ i, i < 32 ∧ c.2.2.1 = nI i))
/-- what apply leaves alone -/
def FA (w w' : WW) : Prop := w'.1 = w.1 ∧ w'.2.2 = w.2.2 ∧ ∀ k o j, ¬ (k = 7 ∧ j = 3) → ¬ (k = 111 ∨ k = 112 ∨ k = 113 ∨ k = 114 ∨ k = 116) → wI w' k o j = wI w k o j
theorem FA.FM {w w' : WW} (h : FA w w') : FM w w' := ⟨h.1, h.2.1, fun k o j h1 h2 => h.2.2 k o j (fun q => h1 q.1) (by omega)⟩
set_option maxHeartbeats 1000000 in
theorem Md_apply_ok {w : WW} {d c : Nat} {ch : Ch} {t : Tb} (hS : MdS w) (hT : RMt w t) (hc : c ≤ 1100) (hf : ∀ f, f < 5 → wI w 110 1 (5 * c + f) = chF ch f) (hok : okC ch t) :
    E_Md_apply d [.inr (7, 1), .inl (nI c)] w (fun r w' => r = none ∧ RMt w' (app ch t) ∧ FA w w') := by
  obtain ⟨kd, n, a, b, e⟩ := ch
  obtain ⟨hn, hk⟩ := hok
  have hn : n ≤ 24 := hn
  have f0 : wI w 110 1 (5 * c) = nI kd := hf 0 (by decide)
  have f1 : wI w 110 1 (5 * c + 1) = nI n := hf 1 (by decide)
  have f2 : wI w 110 1 (5 * c + 2) = a := hf 2 (by decide)
  have f3 : wI w 110 1 (5 * c + 3) = b := hf 3 (by decide)
  have f4 : wI w 110 1 (5 * c + 4) = e := hf 4 (by decide)
  clear hf
  obtain ⟨g1, g2, g3⟩ := hT
  dsimp only at hk
  rcases hk with ⟨rfl, he⟩ | rfl | ⟨rfl, ht⟩ | ⟨rfl, ht, i, hi, rfl⟩
  · refine (Md_apply_1 (z := bI (e == 1)) hS hc hn f0 f1 f2 f3 f4 (fun h => by rw [show e = 1 from h]; rfl) (fun h => by
      have : (e == 1) = false := by
        rw [beq_eq_false_iff_ne]
        exact h
      rw [this]; rfl)).mono (fun r w' q => ⟨q.1, ?_, ?_⟩)
    · rw [q.2]
      refine ⟨?_, fun x hx => ?_, fun x hx hx2 => ?_⟩
      · simp [wI_sI, wI_zr, app, tG]
      · by_cases h : x = n
        · simp [wI_sI, wI_zr, app, tT, h, uf_s, bI]; rfl
        · simp [wI_sI, wI_zr, app, tT, h, uf_n]; exact g2 x hx
      · by_cases h : x = n
        · subst h
          refine ⟨by simp [wI_sI, wI_zr, app, tF, uf_s], by simp [wI_sI, wI_zr, app, tD, uf_s], by simp [wI_sI, wI_zr, app, tN, uf_s], fun i hi => ?_⟩
          simp [wI_sI, wI_zr, app, tC, uf_s, hi]
        · have hx3 : tT t x = true := by simpa [app, tT, h, uf_n] using hx2
          obtain ⟨e1, e2, e3, e4⟩ := g3 x hx hx3
          refine ⟨by simp [wI_sI, wI_zr, app, tF, h, uf_n]; exact e1, by simp [wI_sI, wI_zr, app, tD, h, uf_n]; exact e2, by simp [wI_sI, wI_zr, app, tN, h, uf_n]; exact e3, fun i hi => ?_⟩
          have : ¬ (32 * n ≤ 32 * x + i ∧ 32 * x + i < 32 * n + 32) := by omega
          simp only [wI_sI, wI_zr, app, tC, h, uf_n, if_true, ne_eq, not_false_eq_true]
          simp [this]; exact e4 i hi
    · rw [q.2]
      refine ⟨rfl, rfl, fun k o j h1 h2 => ?_⟩
      simp only [wI_sI, wI_zr]
      rw [if_neg (by omega), if_neg (by omega), if_neg (by omega), if_neg (by omega), if_neg (by omega), if_neg (by omega)]
  · refine (Md_apply_2 hS hc hn f0 f1).mono (fun r w' q => ⟨q.1, ?_, ?_⟩)
    · rw [q.2]
      refine ⟨by simp [wI_sI, app, tG]; exact g1, fun x hx => ?_, fun x hx hx2 => ?_⟩
      · by_cases h : x = n
        · simp [wI_sI, app, tT, h, uf_s, bI]; rfl
        · simp [wI_sI, app, tT, h, uf_n]; exact g2 x hx
      · have h : ¬ x = n := fun h => by simp [app, tT, h, uf_s] at hx2
        have hx3 : tT t x = true := by simpa [app, tT, h, uf_n] using hx2
        exact g3 x hx hx3
    · rw [q.2]
      refine ⟨rfl, rfl, fun k o j h1 h2 => ?_⟩
      simp only [wI_sI]
      rw [if_neg (by omega)]
  · refine (Md_apply_3 hS hc hn f0 f1 f2 f3).mono (fun r w' q => ⟨q.1, ?_, ?_⟩)
    · rw [q.2]
      refine ⟨by simp [wI_sI, app, tG]; exact g1, fun x hx => by simp [wI_sI, app, tT]; exact g2 x hx, fun x hx hx2 => ?_⟩
      have hx3 : tT t x = true := hx2
      obtain ⟨e1, e2, e3, e4⟩ := g3 x hx hx3
      by_cases h : x = n
      · subst h
        exact ⟨by simp [wI_sI, app, tF]; exact e1, by simp [wI_sI, app, tD, uf_s], by simp [wI_sI, app, tN, uf_s], fun i hi => by simp [wI_sI, app, tC]; exact e4 i hi⟩
      · exact ⟨by simp [wI_sI, app, tF]; exact e1, by simp [wI_sI, app, tD, h, uf_n]; exact e2, by simp [wI_sI, app, tN, h, uf_n]; exact e3, fun i hi => by simp [wI_sI, app, tC]; exact e4 i hi⟩
    · rw [q.2]
      refine ⟨rfl, rfl, fun k o j h1 h2 => ?_⟩
      simp only [wI_sI]
      rw [if_neg (by omega), if_neg (by omega)]
  · have hcl : (nI i).toNatClampNeg = i := nI_clamp (by omega)
    refine (Md_apply_4 hS hc hn hi f0 f1 f2 f3).mono (fun r w' q => ⟨q.1, ?_, ?_⟩)
    · rw [q.2]
      refine ⟨by simp [wI_sI, app, tG]; exact g1, fun x hx => by simp [wI_sI, app, tT]; exact g2 x hx, fun x hx hx2 => ?_⟩
      have hx3 : tT t x = true := hx2
      obtain ⟨e1, e2, e3, e4⟩ := g3 x hx hx3
      refine ⟨by simp [wI_sI, app, tF]; exact e1, by simp [wI_sI, app, tD]; exact e2, by simp [wI_sI, app, tN]; exact e3, fun i' hi' => ?_⟩
      by_cases h : x = n
      · subst h
        by_cases h2 : i' = i
        · subst h2
          simp [wI_sI, app, tC, uf_s, hcl]
        · simp [wI_sI, app, tC, uf_s, hcl, h2, uf_n]; exact e4 i' hi'
      · have : ¬ 32 * x + i' = 32 * n + i := by omega
        simp [wI_sI, app, tC, h, uf_n, this]; exact e4 i' hi'
    · rw [q.2]
      refine ⟨rfl, rfl, fun k o j h1 h2 => ?_⟩
      simp only [wI_sI]
      rw [if_neg (by omega)]
