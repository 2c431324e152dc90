/-! THE CLASS: the new object -/
/-- the world as the law begins: the script alone -/
def w00 (L : Nat) (xs : Nat → Int32) : WW := ((fun k => if k = 99 then 1 else 0), (fun k o j => if k = 99 ∧ o = 1 then xs j else 0), (fun _ _ _ => 0), (fun k o => if k = 99 ∧ o = 1 then L else 0), 0, 0)
def wS0 (L : Nat) (xs : Nat → Int32) : WW := sR (sR (nA (nO (sR (nA (sR (nA (sR (ndW (nO (sR (nA (nO (w00 L xs) 0 9) 100 25) 0 1 0 1) 1 8) 1 (nI 0) (-3) (-3) true) 100 1 0 1) 101 12) 0 1 2 1) 102 512) 0 1 5 1) 6 3) 105 6) 6 1 0 1) 0 1 7 1
section INI
variable {L d : Nat} {xs : Nat → Int32}
theorem SS_init_ok (hd : 2 ≤ d) : E_SS_init d [.inr (0, 1)] (nO (w00 L xs) 0 9) (fun r w' => r = none ∧ w' = wS0 L xs) := by
  refine S_SS_init ?_
  have hnd := Nd_init_ok (w := nO (sR (nA (nO (w00 L xs) 0 9) 100 25) 0 1 0 1) 1 8) (d := 1) (o := 1) (by decide) (by omega) (nI 0) (-3) (-3) true
  have hlg := Lg_init_ok (w := nO (sR (nA (sR (nA (sR (ndW (nO (sR (nA (nO (w00 L xs) 0 9) 100 25) 0 1 0 1) 1 8) 1 (nI 0) (-3) (-3) true) 100 1 0 1) 101 12) 0 1 2 1) 102 512) 0 1 5 1) 6 3) (d := 1) (o := 1) (by decide) (by omega)
  have hix : IXN (nI 0) (wL (ndW (nO (sR (nA (nO (w00 L xs) 0 9) 100 25) 0 1 0 1) 1 8) 1 (nI 0) (-3) (-3) true) 100 1) 0 := IXN.nI (by show 0 < 25; decide) (by show 25 ≤ _; decide)
  refine XE.aload_n d_SS_init_0 rfl ?_
  refine k_SS_3 d_SS_init_1 (by first | assumption | decide | omega) (by decide) (by omega) ?_
  refine XE.aload_n d_SS_init_4 rfl ?_
  refine XE.bipush (x := nI 25) d_SS_init_5 (by decide) ?_
  refine na_SS_9 (n := 25) 100 (by decide) (by decide) rfl d_SS_init_7 (by first | assumption | decide) (by first | assumption | decide) (by first | assumption | decide) ?_
  refine p_SS_11 d_SS_init_10 (by first | assumption | decide | omega) (by first | exact Or.inl rfl | exact Or.inr rfl) ?_
  refine XE.aload_n d_SS_init_13 rfl ?_
  refine g_SS_11 (x := 1) d_SS_init_14 (by first | assumption | decide | omega) (by first | assumption | rfl) ?_
  refine XE.iconst (x := nI 0) d_SS_init_17 (by decide) ?_
  refine n_SS_9 d_SS_init_18 ?_
  refine XE.dup d_SS_init_21 ?_
  refine XE.iconst (x := nI 0) d_SS_init_22 (by decide) ?_
  refine XE.bipush (x := (-3)) d_SS_init_23 (by decide) ?_
  refine XE.bipush (x := (-3)) d_SS_init_25 (by decide) ?_
  refine XE.iconst (x := nI 1) d_SS_init_27 (by decide) ?_
  refine k_SS_15 1 d_SS_init_28 (by omega) (Nat.le_of_ble_eq_true rfl) (by first | assumption | decide | omega) hnd (fun y1 w2 hm1 hq1 => ?_)
  obtain ⟨rfl, rfl⟩ := hq1
  refine XE.aast d_SS_init_31 (by decide) rfl rfl (by first | exact Or.inl rfl | exact Or.inr rfl) (by first | assumption | decide | omega) (by first | assumption | exact ixn2 (by assumption) (by omega) (by omega)) ?_
  refine XE.aload_n d_SS_init_32 rfl ?_
  refine XE.bipush (x := nI 12) d_SS_init_33 (by decide) ?_
  refine na_SS_18 (n := 12) 101 (by decide) (by decide) rfl d_SS_init_35 (by first | assumption | decide) (by first | assumption | decide) (by first | assumption | decide) ?_
  refine p_SS_20 d_SS_init_38 (by first | assumption | decide | omega) (by first | exact Or.inl rfl | exact Or.inr rfl) ?_
  refine XE.aload_n d_SS_init_41 rfl ?_
  refine XE.sipush (x := nI 512) d_SS_init_42 (by decide) ?_
  refine na_SS_24 (n := 512) 102 (by decide) (by decide) rfl d_SS_init_45 (by first | assumption | decide) (by first | assumption | decide) (by first | assumption | decide) ?_
  refine p_SS_26 d_SS_init_48 (by first | assumption | decide | omega) (by first | exact Or.inl rfl | exact Or.inr rfl) ?_
  refine XE.aload_n d_SS_init_51 rfl ?_
  refine n_SS_30 d_SS_init_52 ?_
  refine XE.dup d_SS_init_55 ?_
  refine k_SS_32 1 d_SS_init_56 (by omega) (Nat.le_of_ble_eq_true rfl) (by first | assumption | decide | omega) hlg (fun y1 w2 hm1 hq1 => ?_)
  obtain ⟨rfl, rfl⟩ := hq1
  refine p_SS_33 d_SS_init_59 (by first | assumption | decide | omega) (by first | exact Or.inl rfl | exact Or.inr rfl) ?_
  exact XE.rv d_SS_init_62 ⟨rfl, rfl⟩
theorem wS0_I (k o j : Nat) : wI (wS0 L xs) k o j = if k = 1 ∧ o = 1 ∧ (j = 1 ∨ j = 2 ∨ j = 3) then (if j = 1 then 1 else -3) else wI (w00 L xs) k o j := by
  unfold wS0 ndW
  simp only [wI_sI, wI_sR, wI_nA, wI_nO]
  by_cases h : k = 1 ∧ o = 1
  · obtain ⟨rfl, rfl⟩ := h
    by_cases j1 : j = 1
    · subst j1; rfl
    · by_cases j3 : j = 3
      · subst j3; rfl
      · by_cases j2 : j = 2
        · subst j2; rfl
        · by_cases j0 : j = 0
          · subst j0; rfl
          · simp [j0, j1, j2, j3]
  · rw [if_neg (fun z => h ⟨z.1, z.2.1⟩), if_neg (fun z => h ⟨z.1, z.2.1⟩), if_neg (fun z => h ⟨z.1, z.2.1⟩), if_neg (fun z => h ⟨z.1, z.2.1⟩), if_neg (fun z => h ⟨z.1, z.2.1⟩)]
theorem w00_I (k o j : Nat) : wI (w00 L xs) k o j = if k = 99 ∧ o = 1 then xs j else 0 := rfl
theorem wS0_N (n : Nat) : wR (wS0 L xs) 100 1 n = if n = 0 then 1 else 0 := by
  show (if 100 = 100 ∧ 1 = 1 ∧ n = 0 then 1 else 0) = _
  simp
theorem cr_00 : CR (wS0 L xs) m00 := by
  have only0 : ∀ n, tT (mT m00) n = true → n = 0 := fun n hn => by
    have : (n == 0) = true := hn
    simpa using this
  refine ⟨⟨rfl, rfl, rfl, rfl, rfl, rfl, rfl, rfl, rfl⟩, ⟨rfl, rfl, fun o o1 o2 => ?_, fun o j ho => ?_⟩, ⟨rfl, rfl, fun i hi => absurd hi (Nat.not_lt_zero _), ?_⟩, fun n hn ht => ?_, fun n hn ht => ?_, ⟨rfl, rfl, fun x x1 x2 => ?_, fun x x1 x2 => ?_, rfl, HO.nil⟩, ⟨rfl, rfl, fun i hi => absurd hi (Nat.not_lt_zero _), fun r r1 r2 => ?_⟩, rfl⟩
  · have o2 : o ≤ 1 := o2
    have : o = 1 := by omega
    subst this
    exact ⟨rfl, rfl, Or.inr ⟨rfl, rfl⟩⟩
  · have ho : 1 < o := ho
    rw [wS0_I, wS0_I, if_neg (by omega), if_neg (by omega), w00_I, w00_I, if_neg (by omega), if_neg (by omega)]
    exact ⟨rfl, rfl⟩
  · show CTR 1 (ctW (wS0 L xs)) tb0
    refine ⟨rfl, fun n hn => ?_⟩
    have e : (ctW (wS0 L xs)).1 n = if n = 0 then 1 else 0 := wS0_N n
    rw [e]
    by_cases h : n = 0
    · subst h
      exact ⟨Nat.le_refl _, ⟨fun _ => rfl, fun _ => by decide⟩, fun _ => ⟨rfl, rfl, rfl, rfl, fun z => Bool.noConfusion z⟩⟩
    · rw [if_neg h]
      exact ⟨Nat.zero_le _, ⟨fun z => absurd rfl z, fun z => absurd (only0 n z) h⟩, fun z => absurd (only0 n z) h⟩
  · have := only0 n ht
    subst this
    rfl
  · have := only0 n ht
    subst this
    exact ⟨rfl, HO.nil⟩
  · exact absurd (Nat.le_trans x1 x2) (by decide)
  · exact absurd (Nat.le_trans x1 x2) (by decide)
  · exact absurd (Nat.le_trans r1 r2) (by decide)
theorem md0_S0 : Md0 (nO (wS0 L xs) 7 17) := by
  refine ⟨rfl, rfl, rfl, rfl, rfl, rfl, rfl, rfl, rfl, rfl, fun j => ?_, fun k j hk => ?_⟩
  · show wI (wS0 L xs) 7 1 j = 0
    rw [wS0_I, if_neg (by omega), w00_I, if_neg (by omega)]
  · show wI (wS0 L xs) k 1 j = 0
    rw [wS0_I, if_neg (by omega), w00_I, if_neg (by omega)]
end INI
