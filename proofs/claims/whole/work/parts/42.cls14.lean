/-! THE CLASS: doom, read, sync -/
theorem and_bit (x : Int32) {b i : Nat} (hb : (nI b).toBitVec = BitVec.twoPow 32 i) : x &&& nI b = 0 ∨ x &&& nI b = nI b := by
  have h := BitVec.and_twoPow x.toBitVec i
  by_cases q : x.toBitVec.getLsbD i = true
  · right
    apply Int32.toBitVec_inj.mp
    rw [Int32.toBitVec_and, hb, h, if_pos q]
  · left
    apply Int32.toBitVec_inj.mp
    rw [Int32.toBitVec_and, hb, h, if_neg q]
    rfl
theorem has0 {a : Int32} {b : Nat} : hasM a b = false ↔ a &&& nI b = 0 := by
  unfold hasM
  rw [Bool.not_eq_false', beq_iff_eq]
theorem has_bit (a : Int32) {b i : Nat} (hb : (nI b).toBitVec = BitVec.twoPow 32 i) (h0 : nI b ≠ 0) : (a &&& nI b == nI b) = hasM a b := by
  unfold hasM
  rcases and_bit a hb with h | h
  · rw [h, beq_eq_false_iff_ne.mpr (fun z => h0 z.symm)]
    rfl
  · rw [h, beq_self_eq_true, beq_eq_false_iff_ne.mpr h0]
    rfl
theorem bit_1 : (nI 1).toBitVec = BitVec.twoPow 32 0 := by decide
theorem bit_2 : (nI 2).toBitVec = BitVec.twoPow 32 1 := by decide
theorem bit_4 : (nI 4).toBitVec = BitVec.twoPow 32 2 := by decide
section DRS
variable {w : WW} {m : MS} {c d : Nat}
theorem SS_doom_ok (hR : CR w m) (hB : WB m) (hI : MI m) (hd : 2 ≤ d) (v : Int32) (on : Bool) : E_SS_doom d [.inr (0, 1), .inl v, .inl (bI on)] w (fun r w' => r = some (.inl (domM m v on).1) ∧ CR w' (domM m v on).2 ∧ FC 0 w w') := by
  refine S_SS_doom ?_
  have hh := SS_openHandle_ok (d := 0) hR hB hI v
  have hb := bI_01 on
  by_cases hx : hOf m v = 0
  · have e : domM m v on = (-1, m) := if_pos (Or.inl hx)
    rw [hx, nk_z] at hh
    rw [e]
    refine XE.aload_n d_SS_doom_0 rfl ?_
    refine XE.iload_n d_SS_doom_1 rfl ?_
    refine k_SS_66 0 d_SS_doom_2 (by omega) (Nat.le_of_ble_eq_true rfl) (by first | assumption | decide | omega) hh (fun r1 w1 hm1 hq1 => ?_)
    rw [hq1.1, hq1.2]
    clear hq1 hm1 r1 w1
    refine XE.astore_n d_SS_doom_5 (by decide) ?_
    refine XE.aload_n d_SS_doom_6 rfl ?_
    refine XE.ifnull 18 d_SS_doom_7 (by decide) (fun h7 => ?_) (fun h7 => absurd h7 ((fun z => z rfl)))
    refine XE.iconst (x := (-1)) d_SS_doom_18 (by decide) ?_
    exact XE.ri d_SS_doom_19 ⟨rfl, hR, FC.rf⟩
  · have hX := hR.hx hB hx
    rw [nk_nz hx] at hh
    have eg : domM m v on = if hOf m v = 0 ∨ hA (mh m (hOf m v)) &&& nI 4 = 0 then (-1, m)
      else if on = true ∧ (hN (mh m (hOf m v)) = 0 ∨ (tF (mT m) (hN (mh m (hOf m v))) = true ∧ 0 < ins (mT m) (nI (hN (mh m (hOf m v)))))) then (-1, m)
      else (0, setD m (uf (mM m) (hN (mh m (hOf m v))) on)) := rfl
    generalize hq : hOf m v = x at *
    obtain ⟨x0, x1, x2, x3, x4, x5, x6, x7, x7b, x8, x9, h1, h2, h3, h4, h5, h6⟩ := hX
    have n1 := hI.2.2.2.2.1 x x1 x2
    have hrm := SS_isRemovable_ok (d := 1) hR.1 (hR.ct hB) hI.ti x4 x7 x8 (by omega)
    rw [rmv_eq hI x4 n1] at hrm
    have hbr : bareM m (hN (mh m x)) = true ↔ ¬ (hN (mh m x) = 0 ∨ (tF (mT m) (hN (mh m x)) = true ∧ 0 < ins (mT m) (nI (hN (mh m x))))) := by
      unfold bareM
      rw [Bool.or_eq_true, Bool.not_eq_true', beq_iff_eq]
      constructor
      · rintro (z | z) (y | y)
        · omega
        · rw [z] at y; exact absurd y.1 (by decide)
        · omega
        · omega
      · intro z
        cases q : tF (mT m) (hN (mh m x)) with
        | false => exact Or.inl rfl
        | true => exact Or.inr (Nat.eq_zero_of_not_pos (fun y => z (Or.inr ⟨q, y⟩)))
    refine XE.aload_n d_SS_doom_0 rfl ?_
    refine XE.iload_n d_SS_doom_1 rfl ?_
    refine k_SS_66 0 d_SS_doom_2 (by omega) (Nat.le_of_ble_eq_true rfl) (by first | assumption | decide | omega) hh (fun r1 w1 hm1 hq1 => ?_)
    rw [hq1.1, hq1.2]
    clear hq1 hm1 r1 w1
    refine XE.astore_n d_SS_doom_5 (by decide) ?_
    refine XE.aload_n d_SS_doom_6 rfl ?_
    refine XE.ifnull 18 d_SS_doom_7 (by decide) (fun h7 => absurd h7 (x0)) (fun h7 => ?_)
    refine XE.aload_n d_SS_doom_10 rfl ?_
    refine XE.iconst (x := nI 4) d_SS_doom_11 (by decide) ?_
    refine k_SS_97 0 d_SS_doom_12 (by omega) (Nat.le_of_ble_eq_true rfl) (by first | assumption | decide | omega) (Hd_may_ok x0 h3 4) (fun r1 w1 hm1 hq1 => ?_)
    rw [hq1.1, hq1.2]
    clear hq1 hm1 r1 w1
    refine XE.if_ne 20 d_SS_doom_15 (by decide) (fun h15 => ?_) (fun h15 => ?_)
    · have q : ¬ (x = 0 ∨ hA (mh m x) &&& nI 4 = 0) := fun z => z.elim x0 (fun y => h15 ((bI_eq0 _).mpr (has0.mpr y)))
      refine XE.iload_n d_SS_doom_20 rfl ?_
      refine XE.if_eq 37 d_SS_doom_21 (by decide) (fun h21 => ?_) (fun h21 => ?_)
      · have e : domM m v on = (0, setD m (uf (mM m) (hN (mh m x)) on)) := by rw [eg, if_neg q, if_neg (fun z => by rw [z.1] at h21; exact absurd h21 (by decide))]
        refine XE.aload_n d_SS_doom_37 rfl ?_
        refine g_SS_76 d_SS_doom_38 (by first | assumption | decide | omega) (by first | assumption | rfl) ?_
        refine XE.iload_n d_SS_doom_41 rfl ?_
        refine p_SS_104 d_SS_doom_42 (by first | assumption | decide | omega) (by first | assumption | decide) ?_
        refine XE.iconst (x := nI 0) d_SS_doom_45 (by decide) ?_
        exact XE.ri d_SS_doom_46 ⟨by rw [e]; rfl, by rw [e]; exact hR.dset hB x4 x5 on, FC.sI (by decide)⟩
      · refine XE.aload_n d_SS_doom_24 rfl ?_
        refine XE.aload_n d_SS_doom_25 rfl ?_
        refine g_SS_76 d_SS_doom_26 (by first | assumption | decide | omega) (by first | assumption | rfl) ?_
        refine k_SS_100 1 d_SS_doom_29 (by omega) (Nat.le_of_ble_eq_true rfl) (by first | assumption | decide | omega) hrm (fun r1 w1 hm1 hq1 => ?_)
        rw [hq1.1, hq1.2]
        clear hq1 hm1 r1 w1
        refine XE.if_ne 37 d_SS_doom_32 (by decide) (fun h32 => ?_) (fun h32 => ?_)
        · have e : domM m v on = (0, setD m (uf (mM m) (hN (mh m x)) on)) := by rw [eg, if_neg q, if_neg (fun z => hbr.mp (te _ h32) z.2)]
          refine XE.aload_n d_SS_doom_37 rfl ?_
          refine g_SS_76 d_SS_doom_38 (by first | assumption | decide | omega) (by first | assumption | rfl) ?_
          refine XE.iload_n d_SS_doom_41 rfl ?_
          refine p_SS_104 d_SS_doom_42 (by first | assumption | decide | omega) (by first | assumption | decide) ?_
          refine XE.iconst (x := nI 0) d_SS_doom_45 (by decide) ?_
          exact XE.ri d_SS_doom_46 ⟨by rw [e]; rfl, by rw [e]; exact hR.dset hB x4 x5 on, FC.sI (by decide)⟩
        · have e : domM m v on = (-1, m) := by rw [eg, if_neg q, if_pos ⟨te _ h21, Classical.not_not.mp (fun z => by rw [hbr.mpr z] at h32; exact absurd h32 (by decide))⟩]
          refine XE.iconst (x := (-1)) d_SS_doom_35 (by decide) ?_
          exact XE.ri d_SS_doom_36 ⟨by rw [e], by rw [e]; exact hR, FC.rf⟩
    · have e : domM m v on = (-1, m) := by rw [eg, if_pos (Or.inr (has0.mp ((bI_eq0 _).mp h15)))]
      refine XE.iconst (x := (-1)) d_SS_doom_18 (by decide) ?_
      exact XE.ri d_SS_doom_19 ⟨by rw [e], by rw [e]; exact hR, FC.rf⟩
theorem mi_dom (hB : WB m) (hI : MI m) (v : Int32) (on : Bool) : MI (domM m v on).2 := by
  unfold domM
  split
  · exact hI
  · rename_i h1
    split
    · exact hI
    · obtain ⟨-, a2, a3, a4⟩ := hOf_nz hB (fun z => h1 (Or.inl z))
      exact mi_setd hI (fun _ => hI.ti.2.2.1 _ (hB.n24 a2 a3) (hB.op a2 a3 a4))
theorem may_eq {v : Int32} (hx : hOf m v ≠ 0) {b i : Nat} (hb : (nI b).toBitVec = BitVec.twoPow 32 i) (h0 : nI b ≠ 0) (cc : Int32) : mayM m v (nI b) cc = (hasM (hA (mh m (hOf m v))) b && (!tF (mT m) (hN (mh m (hOf m v))) && (decide (nI 0 ≤ cc) && decide (cc ≤ nI 31)))) := by
  unfold mayM
  rw [has_bit _ hb h0, beq_eq_false_iff_ne.mpr hx]
  rfl
theorem any_lk (m : MS) (x : Nat) {p q : KR' → Bool} (h : ∀ k ∈ mK m, p k = ((hN (mh m k.1) == hN (mh m x)) && q k)) : (mK m).any p = (lkL m (hN (mh m x))).any q := by
  unfold lkL
  rw [List.any_filter]
  apply Bool.eq_iff_iff.mpr
  rw [List.any_eq_true, List.any_eq_true]
  constructor
  · rintro ⟨k, a, b⟩
    exact ⟨k, a, by rw [← h k a]; exact b⟩
  · rintro ⟨k, a, b⟩
    exact ⟨k, a, by rw [h k a]; exact b⟩
theorem met_rd (m : MS) (x i : Nat) : (mK m).any (metP m x i (i + 1) false 0) = (lkL m (hN (mh m x))).any (rdP x i) := by
  refine any_lk m x (fun k _ => ?_)
  unfold metP rdP
  rw [Bool.and_assoc, Bool.and_assoc]
  congr 1
  rw [show decide (k.2.1 < i + 1) = decide (k.2.1 ≤ i) from decide_eq_decide.mpr (by omega), Bool.and_assoc]
  congr 2
  by_cases e : k.1 = x
  · rw [if_pos ⟨e, rfl⟩, beq_iff_eq.mpr e]
    cases k.2.2.2 <;> rfl
  · rw [if_neg (fun z => e z.1), if_neg (fun z => e z.1), beq_eq_false_iff_ne.mpr e]
    cases k.2.2.2 <;> rfl
theorem met_wr (m : MS) (x i : Nat) : (mK m).any (metP m x i (i + 1) true 2) = (lkL m (hN (mh m x))).any (wrQ x i) := by
  refine any_lk m x (fun k _ => ?_)
  unfold metP wrQ
  rw [Bool.and_assoc, Bool.and_assoc]
  congr 1
  rw [show decide (k.2.1 < i + 1) = decide (k.2.1 ≤ i) from decide_eq_decide.mpr (by omega), Bool.and_assoc]
  congr 2
  by_cases e : k.1 = x
  · rw [if_neg (fun z => absurd z.2 (by decide)), if_pos ⟨e, rfl⟩, beq_iff_eq.mpr e]
    cases k.2.2.2 <;> rfl
  · rw [if_neg (fun z => e z.1), if_neg (fun z => e z.1), beq_eq_false_iff_ne.mpr e]
    cases k.2.2.2 <;> rfl
theorem SS_read_ok (hR : CR w m) (hB : WB m) (hI : MI m) (hd : 2 ≤ d) (v cl : Int32) : E_SS_read d [.inr (0, 1), .inl v, .inl cl] w (fun r w' => r = some (.inl (redM m v cl).1) ∧ CR w' (redM m v cl).2 ∧ FC 0 w w') := by
  refine S_SS_read ?_
  have hh := SS_openHandle_ok (d := 0) hR hB hI v
  by_cases hx : hOf m v = 0
  · have e : redM m v cl = (-1, m) := if_pos (by unfold mayM; rw [hx]; rfl)
    rw [hx, nk_z] at hh
    rw [e]
    refine XE.aload_n d_SS_read_0 rfl ?_
    refine XE.iload_n d_SS_read_1 rfl ?_
    refine k_SS_66 0 d_SS_read_2 (by omega) (Nat.le_of_ble_eq_true rfl) (by first | assumption | decide | omega) hh (fun r1 w1 hm1 hq1 => ?_)
    rw [hq1.1, hq1.2]
    clear hq1 hm1 r1 w1
    refine XE.astore_n d_SS_read_5 (by decide) ?_
    refine XE.aload_n d_SS_read_6 rfl ?_
    refine XE.ifnull 37 d_SS_read_7 (by decide) (fun h7 => ?_) (fun h7 => absurd h7 ((fun z => z rfl)))
    refine XE.iconst (x := (-1)) d_SS_read_37 (by decide) ?_
    exact XE.ri d_SS_read_38 ⟨rfl, hR, FC.rf⟩
  · have hX := hR.hx hB hx
    rw [nk_nz hx] at hh
    have em := may_eq (m := m) (v := v) hx bit_1 (by decide) cl
    have eg : redM m v cl = if mayM m v (nI 1) cl = false then (-1, m)
      else if (mK m).any (metP m (hOf m v) cl.toNatClampNeg (cl.toNatClampNeg + 1) false 0) = true then (-8, m)
      else (0, setS m (tC (mT m) (hN (mh m (hOf m v))) cl.toNatClampNeg)) := rfl
    generalize hq : hOf m v = x at *
    obtain ⟨x0, x1, x2, x3, x4, x5, x6, x7, x7b, x8, x9, h1, h2, h3, h4, h5, h6⟩ := hX
    have hbl := SS_isBelow_ok (w := w) (d := 0) (b := 31) cl (by decide)
    have hT := hR.ct hB
    have bad : ∀ {pc : Nat} {ls : List (Option VV)}, decode c_SS_read pc = .ok (.ireturn, 1) → mayM m v (nI 1) cl = false → X_SS_read d pc ls [.inl (-1)] w (fun r w' => r = some (.inl (redM m v cl).1) ∧ CR w' (redM m v cl).2 ∧ FC 0 w w') := by
      intro pc ls hdc hn
      have e : redM m v cl = (-1, m) := by rw [eg, if_pos hn]
      exact XE.ri hdc ⟨by rw [e], by rw [e]; exact hR, FC.rf⟩
    have good : (nI 0 ≤ cl ∧ cl ≤ nI 31) → hasM (hA (mh m x)) 1 = true → tF (mT m) (hN (mh m x)) = false → X_SS_read d 39 [some (.inr (0, 1)), some (.inl v), some (.inl cl), some (.inr (2, x))] [] w (fun r w' => r = some (.inl (redM m v cl).1) ∧ CR w' (redM m v cl).2 ∧ FC 0 w w') := by
      intro g1 g2 g3
      have hmay : mayM m v (nI 1) cl = true := by rw [em, g2, g3]; simp [g1]
      obtain ⟨i, hi, rfl⟩ := rng0 (by decide) g1
      rw [hmay, if_neg (by decide), nI_clamp (by omega), met_rd] at eg
      have hnl := hR.nl hB hI x4 x5
      obtain ⟨y5, y6, y7⟩ := hR.2.1.2.2.1 _ (Nat.pos_of_ne_zero x7) x7b
      have yl : wL w 103 (wR w 100 1 (hN (mh m x))) = 32 := by
        rcases y7 with ⟨-, y, -⟩ | ⟨y, -⟩
        · exact y
        · rw [x9, g3] at y; exact absurd y (by decide)
      have hix : IXN (nI i) (wL w 103 (wR w 100 1 (hN (mh m x)))) i := IXN.nI (by omega) (by omega)
      have hcv : wI w 103 (wR w 100 1 (hN (mh m x))) i = tC (mT m) (hN (mh m x)) i := ((hT.2 _ x4).2.2 x5).2.2.2.2 g3 i (by omega)
      have hrd := Nd_barsReading_ok (d := 1) (x := x) x7 hnl hi (by omega)
      refine XE.aload_n d_SS_read_39 rfl ?_
      refine g_SS_76 d_SS_read_40 (by first | assumption | decide | omega) (by first | assumption | rfl) ?_
      refine XE.aload_n d_SS_read_43 rfl ?_
      refine XE.iload_n d_SS_read_44 rfl ?_
      refine k_SS_139 1 d_SS_read_45 (by omega) (Nat.le_of_ble_eq_true rfl) (by first | assumption | decide | omega) hrd (fun r1 w1 hm1 hq1 => ?_)
      rw [hq1.1, hq1.2]
      clear hq1 hm1 r1 w1
      refine XE.if_eq 54 d_SS_read_48 (by decide) (fun h48 => ?_) (fun h48 => ?_)
      · rw [if_neg (by rw [(bI_eq0 _).mp h48]; decide)] at eg
        refine XE.aload_n d_SS_read_54 rfl ?_
        refine XE.aload_n d_SS_read_55 rfl ?_
        refine g_SS_76 d_SS_read_56 (by first | assumption | decide | omega) (by first | assumption | rfl) ?_
        refine g_SS_143 d_SS_read_59 (by first | assumption | decide | omega) (by first | assumption | rfl) ?_
        refine XE.iload_n d_SS_read_62 rfl ?_
        refine XE.iald d_SS_read_63 (Or.inr ⟨by decide, rfl⟩) (by first | assumption | decide | omega) (by first | assumption | exact ixn2 (by assumption) (by omega) (by omega)) (by first | assumption | rfl) ?_
        refine p_SS_147 d_SS_read_64 (by first | assumption | decide | omega) ?_
        refine XE.iconst (x := nI 0) d_SS_read_67 (by decide) ?_
        exact XE.ri d_SS_read_68 ⟨by rw [eg]; rfl, by rw [eg]; exact ⟨hR.1, hR.2.1, hR.2.2.1, hR.2.2.2.1, hR.2.2.2.2.1, hR.2.2.2.2.2.1, hR.2.2.2.2.2.2.1, rfl⟩, FC.sI (by decide)⟩
      · rw [if_pos (te _ h48)] at eg
        refine XE.bipush (x := (-8)) d_SS_read_51 (by decide) ?_
        exact XE.ri d_SS_read_53 ⟨by rw [eg], by rw [eg]; exact hR, FC.rf⟩
    refine XE.aload_n d_SS_read_0 rfl ?_
    refine XE.iload_n d_SS_read_1 rfl ?_
    refine k_SS_66 0 d_SS_read_2 (by omega) (Nat.le_of_ble_eq_true rfl) (by first | assumption | decide | omega) hh (fun r1 w1 hm1 hq1 => ?_)
    rw [hq1.1, hq1.2]
    clear hq1 hm1 r1 w1
    refine XE.astore_n d_SS_read_5 (by decide) ?_
    refine XE.aload_n d_SS_read_6 rfl ?_
    refine XE.ifnull 37 d_SS_read_7 (by decide) (fun h7 => absurd h7 (x0)) (fun h7 => ?_)
    refine XE.iload_n d_SS_read_10 rfl ?_
    refine XE.bipush (x := nI 32) d_SS_read_11 (by decide) ?_
    refine k_SS_37 0 d_SS_read_13 (by omega) (Nat.le_of_ble_eq_true rfl) hbl (fun r1 w1 hm1 hq1 => ?_)
    rw [hq1.1, hq1.2]
    clear hq1 hm1 r1 w1
    refine XE.if_eq 37 d_SS_read_16 (by decide) (fun h16 => ?_) (fun h16 => ?_)
    · have bd : mayM m v (nI 1) cl = false := by rw [em, (bI_eq0 _).mp h16, Bool.and_false, Bool.and_false]
      refine XE.iconst (x := (-1)) d_SS_read_37 (by decide) ?_
      exact bad d_SS_read_38 bd
    · have g1 := dec2 (te _ h16)
      refine XE.aload_n d_SS_read_19 rfl ?_
      refine XE.iconst (x := nI 1) d_SS_read_20 (by decide) ?_
      refine k_SS_97 0 d_SS_read_21 (by omega) (Nat.le_of_ble_eq_true rfl) (by first | assumption | decide | omega) (Hd_may_ok x0 h3 1) (fun r1 w1 hm1 hq1 => ?_)
      rw [hq1.1, hq1.2]
      clear hq1 hm1 r1 w1
      refine XE.if_eq 37 d_SS_read_24 (by decide) (fun h24 => ?_) (fun h24 => ?_)
      · have bd : mayM m v (nI 1) cl = false := by rw [em, (bI_eq0 _).mp h24, Bool.false_and]
        refine XE.iconst (x := (-1)) d_SS_read_37 (by decide) ?_
        exact bad d_SS_read_38 bd
      · have g2 := te _ h24
        refine XE.aload_n d_SS_read_27 rfl ?_
        refine g_SS_76 d_SS_read_28 (by first | assumption | decide | omega) (by first | assumption | rfl) ?_
        refine g_SS_136 d_SS_read_31 (by first | assumption | decide | omega) (by first | assumption | rfl) ?_
        refine XE.if_eq 39 d_SS_read_34 (by decide) (fun h34 => ?_) (fun h34 => ?_)
        · exact good g1 g2 ((bI_eq0 _).mp h34)
        · have bd : mayM m v (nI 1) cl = false := by rw [em, te _ h34]; simp
          refine XE.iconst (x := (-1)) d_SS_read_37 (by decide) ?_
          exact bad d_SS_read_38 bd
theorem SS_sync_ok (hR : CR w m) (hB : WB m) (hd : 1 ≤ d) : E_SS_sync d [.inr (0, 1)] w (fun r w' => r = some (.inl (nI (mN m))) ∧ CR w' (synM m) ∧ FC 0 w w') := by
  refine S_SS_sync ?_
  obtain ⟨s0, s2, s5, s7, g0, l0, l1, l2, l5⟩ := hR.1
  have k1 := hR.2.2.1.1
  have k2 := hR.2.2.1.2.1
  have hun := hB.un
  have e : mU m + (mN m - mU m) = mN m := by omega
  have hT := hR.ct hB
  have hcr : CR (sI (sI w 6 1 2 (nI (mU m + (mN m - mU m)))) 6 1 1 (nI 0)) (synM m) := by
    obtain ⟨c1, c2, c3, c4, c5, c6, c7, c8⟩ := hR
    rw [e]
    refine ⟨c1, c2, ⟨?_, rfl, fun i hi => ?_, ?_⟩, c4, c5, c6, c7, c8⟩
    · show nI 0 = nI (mN m - mN m)
      rw [Nat.sub_self]
    · have hi : i < mN m - mN m := hi
      omega
    · show UG (wC w 1) _ (mG m) (mN m) (mN m - mN m) (ctW w)
      rw [Nat.sub_self]
      exact hT
  have hch := Lg_changes_ok (w := sI (sI w 6 1 2 (nI (mU m + (mN m - mU m)))) 6 1 1 (nI 0)) (d := 0) (j := 0) (u := mU m + (mN m - mU m)) rfl rfl
  refine XE.aload_n d_SS_sync_0 rfl ?_
  refine g_SS_33 d_SS_sync_1 (by first | assumption | decide | omega) (by first | assumption | rfl) ?_
  refine k_SS_183 0 d_SS_sync_4 (by omega) (Nat.le_of_ble_eq_true rfl) (by first | assumption | decide | omega) (Lg_dur_ok k1 k2) (fun y1 w2 hm1 hq1 => ?_)
  obtain ⟨rfl, rfl⟩ := hq1
  refine XE.aload_n d_SS_sync_7 rfl ?_
  refine g_SS_33 d_SS_sync_8 (by first | assumption | decide | omega) (by first | assumption | rfl) ?_
  refine k_SS_186 0 d_SS_sync_11 (by omega) (Nat.le_of_ble_eq_true rfl) (by first | assumption | decide | omega) hch (fun r1 w1 hm1 hq1 => ?_)
  rw [hq1.1, hq1.2]
  clear hq1 hm1 r1 w1
  exact XE.ri d_SS_sync_14 ⟨by rw [e]; rfl, hcr, (FC.sI (by decide)).tr (FC.sI (by decide))⟩
theorem mi_syn (hI : MI m) : MI (synM m) := hI
theorem mi_red (hI : MI m) (v cl : Int32) : MI (redM m v cl).2 := by
  unfold redM
  split
  · exact hI
  · split
    · exact hI
    · exact hI
end DRS
