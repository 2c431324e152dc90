/-! the reference: the new object -/
section NA
variable {own : String} {cc : ByteArray} {nL : Nat} {ret : Option FieldType} {ini : Bool} {d pc : Nat} {ls : List (Option VV)} {st : List VV} {w : WW} {Q : Option VV → WW → Prop}
theorem XE.newa1 {k n : Nat} {x : Int32} (hd : decode cc pc = .ok (.newarray .int, 2)) (hk : 100 ≤ k) (hk2 : k < 120) (ha : aelem k = 0) (hcl : Cond.arrayClass .int ∈ tbl) (h0 : wC w k = 0) (hx0 : ¬ x < 0) (hx : x.toNatClampNeg = n) (hn : n ≤ ksz k) (kk : XE own cc nL ret ini d (pc + 2) ls (.inr (k, 1) :: st) (nA w k n) Q) : XE own cc nL ret ini d pc ls (.inl x :: st) w Q :=
  XE.newa hd hk hk2 ha hcl hx0 hx hn (by rw [h0]; exact kk)
theorem XE.newz1 {k n : Nat} {x : Int32} (hd : decode cc pc = .ok (.newarray .boolean, 2)) (hk : 100 ≤ k) (hk2 : k < 120) (ha : aelem k = 1) (hcl : Cond.arrayClass .boolean ∈ tbl) (h0 : wC w k = 0) (hx0 : ¬ x < 0) (hx : x.toNatClampNeg = n) (hn : n ≤ ksz k) (kk : XE own cc nL ret ini d (pc + 2) ls (.inr (k, 1) :: st) (nA w k n) Q) : XE own cc nL ret ini d pc ls (.inl x :: st) w Q :=
  XE.newz hd hk hk2 ha hcl hx0 hx hn (by rw [h0]; exact kk)
end NA
def m00 : MS := (0, 0, (fun _ => (0, 0, 0, 0, 0)), (fun _ => false), 0, (fun _ => (0, 0, 0, 0, 0, false, false)), 0, (fun _ => (0, 0, 0, 0, 0, 0)), [], 0)
/-- what the reference's object is before its constructor: nothing of it is there yet -/
def Md0 (w : WW) : Prop := wC w 110 = 0 ∧ wC w 111 = 0 ∧ wC w 112 = 0 ∧ wC w 113 = 0 ∧ wC w 114 = 0 ∧ wC w 115 = 0 ∧ wC w 116 = 0 ∧ wC w 117 = 0 ∧ wC w 118 = 0 ∧ wC w 119 = 0 ∧ (∀ j, wI w 7 1 j = 0) ∧ (∀ k j, 110 ≤ k → wI w k 1 j = 0)
/-- what the new object leaves alone -/
def FN (w w' : WW) : Prop := (∀ k o j, k ≠ 7 → k < 110 → wI w' k o j = wI w k o j ∧ wR w' k o j = wR w k o j) ∧ (∀ k, k < 110 → wC w' k = wC w k) ∧ (∀ k o, k < 110 → wL w' k o = wL w k o)
set_option maxHeartbeats 4000000 in
set_option maxRecDepth 20000 in
theorem Md_init_ok {w : WW} {d : Nat} (h0 : Md0 w) (hd : 1 ≤ d) : E_Md_init d [.inr (7, 1)] w (fun r w' => r = none ∧ RM w' m00 ∧ FN w w' ∧ ∀ k, 110 ≤ k → k < 120 → wC w' k ≤ 1) := by
  refine S_Md_init ?_
  obtain ⟨z0, z1, z2, z3, z4, z5, z6, z7, z8, z9, zi, za⟩ := h0
  have tail : ∀ w1 : WW, MdS w1 → X_Md_init d 89 [some (.inr (7, 1))] [] w1 (fun r w' => r = none ∧ w' = sI (sI (sI (sI w1 111 1 0 (nI 1)) 112 1 0 (nI 1)) 113 1 0 (-3)) 114 1 0 (-3)) := by
    intro w1 hS
    obtain ⟨s2, s4, s5, s6, s7, s8, s9, s11, s13, s15, l0, l1, l2, l3, l4, l5, l6, l7, l8, l9⟩ := hS
    refine XE.aload_n d_Md_init_89 rfl ?_
    refine g_Md_13 d_Md_init_90 (by first | assumption | decide | omega) (by first | assumption | rfl) ?_
    refine XE.iconst (x := nI 0) d_Md_init_93 (by decide) ?_
    refine XE.iconst (x := nI 1) d_Md_init_94 (by decide) ?_
    refine XE.zast d_Md_init_95 (by decide) rfl (by first | assumption | decide) (by first | assumption | decide | omega) (ixn2 (n := 0) l1 (by omega) (by omega)) ?_
    refine XE.aload_n d_Md_init_96 rfl ?_
    refine g_Md_17 d_Md_init_97 (by first | assumption | decide | omega) (by first | assumption | rfl) ?_
    refine XE.iconst (x := nI 0) d_Md_init_100 (by decide) ?_
    refine XE.iconst (x := nI 1) d_Md_init_101 (by decide) ?_
    refine XE.zast d_Md_init_102 (by decide) rfl (by first | assumption | decide) (by first | assumption | decide | omega) (ixn2 (n := 0) l2 (by omega) (by omega)) ?_
    refine XE.aload_n d_Md_init_103 rfl ?_
    refine g_Md_20 d_Md_init_104 (by first | assumption | decide | omega) (by first | assumption | rfl) ?_
    refine XE.iconst (x := nI 0) d_Md_init_107 (by decide) ?_
    refine XE.bipush (x := (-3)) d_Md_init_108 (by decide) ?_
    refine XE.iast d_Md_init_110 (by decide) rfl (by first | assumption | decide | omega) (ixn2 (n := 0) l3 (by omega) (by omega)) ?_
    refine XE.aload_n d_Md_init_111 rfl ?_
    refine g_Md_23 d_Md_init_112 (by first | assumption | decide | omega) (by first | assumption | rfl) ?_
    refine XE.iconst (x := nI 0) d_Md_init_115 (by decide) ?_
    refine XE.bipush (x := (-3)) d_Md_init_116 (by decide) ?_
    refine XE.iast d_Md_init_118 (by decide) rfl (by first | assumption | decide | omega) (ixn2 (n := 0) l4 (by omega) (by omega)) ?_
    exact XE.rv d_Md_init_119 ⟨rfl, rfl⟩
  have fin : ∀ w1 : WW, MdS w1 → (∀ k o j, wI w1 k o j = wI w k o j) → RM (sI (sI (sI (sI w1 111 1 0 (nI 1)) 112 1 0 (nI 1)) 113 1 0 (-3)) 114 1 0 (-3)) m00 := by
    intro w1 hS hI
    have z : ∀ j, wI w1 7 1 j = 0 := fun j => (hI 7 1 j).trans (zi j)
    have y : ∀ k j, 110 ≤ k → wI w1 k 1 j = 0 := fun k j h => (hI k 1 j).trans (za k j h)
    refine ⟨hS, z 0, z 1, fun c hc => absurd hc (Nat.not_lt_zero _), ⟨z 3, fun n hn => ?_, fun n hn ht => ?_⟩, fun n hn => y 115 n (by omega), z 10, fun x h1 h2 => ?_, z 12, ⟨fun x h1 h2 => ?_, fun r _ _ => y 118 _ (by omega)⟩, z 14, fun i hi => absurd hi (Nat.not_lt_zero _), z 16⟩
    · show wI _ 111 1 n = bI (n == 0)
      simp only [wI_sI]
      rw [if_neg (by omega), if_neg (by omega), if_neg (by omega)]
      by_cases h : n = 0
      · rw [if_pos ⟨trivial, trivial, h⟩, h]; rfl
      · rw [if_neg (fun q => h q.2.2), y 111 n (by omega), show (n == 0) = false by simp [h]]; rfl
    · have h0 : n = 0 := by
        have : (n == 0) = true := ht
        simpa using this
      subst h0
      refine ⟨rfl, rfl, rfl, fun i hi => ?_⟩
      show wI _ 116 1 (32 * 0 + i) = 0
      simp only [wI_sI]
      rw [if_neg (by omega), if_neg (by omega), if_neg (by omega), if_neg (by omega)]
      exact y 116 _ (by omega)
    · exact absurd (Nat.le_trans h1 h2) (by decide)
    · exact absurd (Nat.le_trans h1 h2) (by decide)
  refine XE.aload_n d_Md_init_0 rfl ?_
  refine k_Md_1 d_Md_init_1 (by first | assumption | decide | omega) (by decide) (by omega) ?_
  refine XE.aload_n d_Md_init_4 rfl ?_
  refine XE.sipush (x := nI 6000) d_Md_init_5 (by decide) ?_
  refine XE.newa1 (k := 110) (n := 6000) d_Md_init_8 (by decide) (by decide) rfl ac_int (by assumption) (by first | assumption | decide) (by first | assumption | decide) (by first | assumption | decide) ?_
  refine p_Md_7 d_Md_init_10 (by first | assumption | decide | omega) (by first | exact Or.inl rfl | exact Or.inr rfl) ?_
  refine XE.aload_n d_Md_init_13 rfl ?_
  refine XE.bipush (x := nI 25) d_Md_init_14 (by decide) ?_
  refine XE.newz1 (k := 111) (n := 25) d_Md_init_16 (by decide) (by decide) rfl ac_bool (by assumption) (by first | assumption | decide) (by first | assumption | decide) (by first | assumption | decide) ?_
  refine p_Md_13 d_Md_init_18 (by first | assumption | decide | omega) (by first | exact Or.inl rfl | exact Or.inr rfl) ?_
  refine XE.aload_n d_Md_init_21 rfl ?_
  refine XE.bipush (x := nI 25) d_Md_init_22 (by decide) ?_
  refine XE.newz1 (k := 112) (n := 25) d_Md_init_24 (by decide) (by decide) rfl ac_bool (by assumption) (by first | assumption | decide) (by first | assumption | decide) (by first | assumption | decide) ?_
  refine p_Md_17 d_Md_init_26 (by first | assumption | decide | omega) (by first | exact Or.inl rfl | exact Or.inr rfl) ?_
  refine XE.aload_n d_Md_init_29 rfl ?_
  refine XE.bipush (x := nI 25) d_Md_init_30 (by decide) ?_
  refine XE.newa1 (k := 113) (n := 25) d_Md_init_32 (by decide) (by decide) rfl ac_int (by assumption) (by first | assumption | decide) (by first | assumption | decide) (by first | assumption | decide) ?_
  refine p_Md_20 d_Md_init_34 (by first | assumption | decide | omega) (by first | exact Or.inl rfl | exact Or.inr rfl) ?_
  refine XE.aload_n d_Md_init_37 rfl ?_
  refine XE.bipush (x := nI 25) d_Md_init_38 (by decide) ?_
  refine XE.newa1 (k := 114) (n := 25) d_Md_init_40 (by decide) (by decide) rfl ac_int (by assumption) (by first | assumption | decide) (by first | assumption | decide) (by first | assumption | decide) ?_
  refine p_Md_23 d_Md_init_42 (by first | assumption | decide | omega) (by first | exact Or.inl rfl | exact Or.inr rfl) ?_
  refine XE.aload_n d_Md_init_45 rfl ?_
  refine XE.bipush (x := nI 25) d_Md_init_46 (by decide) ?_
  refine XE.newz1 (k := 115) (n := 25) d_Md_init_48 (by decide) (by decide) rfl ac_bool (by assumption) (by first | assumption | decide) (by first | assumption | decide) (by first | assumption | decide) ?_
  refine p_Md_26 d_Md_init_50 (by first | assumption | decide | omega) (by first | exact Or.inl rfl | exact Or.inr rfl) ?_
  refine XE.aload_n d_Md_init_53 rfl ?_
  refine XE.sipush (x := nI 800) d_Md_init_54 (by decide) ?_
  refine XE.newa1 (k := 116) (n := 800) d_Md_init_57 (by decide) (by decide) rfl ac_int (by assumption) (by first | assumption | decide) (by first | assumption | decide) (by first | assumption | decide) ?_
  refine p_Md_29 d_Md_init_59 (by first | assumption | decide | omega) (by first | exact Or.inl rfl | exact Or.inr rfl) ?_
  refine XE.aload_n d_Md_init_62 rfl ?_
  refine XE.sipush (x := nI 3640) d_Md_init_63 (by decide) ?_
  refine XE.newa1 (k := 117) (n := 3640) d_Md_init_66 (by decide) (by decide) rfl ac_int (by assumption) (by first | assumption | decide) (by first | assumption | decide) (by first | assumption | decide) ?_
  refine p_Md_32 d_Md_init_68 (by first | assumption | decide | omega) (by first | exact Or.inl rfl | exact Or.inr rfl) ?_
  refine XE.aload_n d_Md_init_71 rfl ?_
  refine XE.sipush (x := nI 3120) d_Md_init_72 (by decide) ?_
  refine XE.newa1 (k := 118) (n := 3120) d_Md_init_75 (by decide) (by decide) rfl ac_int (by assumption) (by first | assumption | decide) (by first | assumption | decide) (by first | assumption | decide) ?_
  refine p_Md_35 d_Md_init_77 (by first | assumption | decide | omega) (by first | exact Or.inl rfl | exact Or.inr rfl) ?_
  refine XE.aload_n d_Md_init_80 rfl ?_
  refine XE.sipush (x := nI 800) d_Md_init_81 (by decide) ?_
  refine XE.newa1 (k := 119) (n := 800) d_Md_init_84 (by decide) (by decide) rfl ac_int (by assumption) (by first | assumption | decide) (by first | assumption | decide) (by first | assumption | decide) ?_
  refine p_Md_38 d_Md_init_86 (by first | assumption | decide | omega) (by first | exact Or.inl rfl | exact Or.inr rfl) ?_
  generalize hw : sR _ 7 1 15 1 = w1
  have hS : MdS w1 := by subst hw; simp [MdS, wR_sR, wR_nA, wL_nA, wL_sR, wC_nA, wC_sR, z0, z1, z2, z3, z4, z5, z6, z7, z8, z9]
  refine (tail w1 hS).mono (fun r w' q => ⟨q.1, ?_, ?_, fun k h1 h2 => ?_⟩)
  rw [q.2]; exact fin w1 hS (fun _ _ _ => by subst hw; rfl)
  rw [q.2, ← hw]; exact ⟨fun k o j h1 h2 => ⟨by simp only [wI_sI]; rw [if_neg (by omega), if_neg (by omega), if_neg (by omega), if_neg (by omega)]; rfl, by simp only [wR_sI, wR_sR, wR_nA]; repeat rw [if_neg (by omega)]⟩, fun k h => by simp only [wC_sI, wC_sR, wC_nA]; repeat rw [if_neg (by omega)], fun k o h => by simp only [wL_sI, wL_sR, wL_nA]; repeat rw [if_neg (by omega)]⟩
  rw [q.2, ← hw]
  have hk : k = 110 ∨ k = 111 ∨ k = 112 ∨ k = 113 ∨ k = 114 ∨ k = 115 ∨ k = 116 ∨ k = 117 ∨ k = 118 ∨ k = 119 := by omega
  rcases hk with rfl | rfl | rfl | rfl | rfl | rfl | rfl | rfl | rfl | rfl <;> simp [wC_sI, wC_sR, wC_nA, z0, z1, z2, z3, z4, z5, z6, z7, z8, z9]
