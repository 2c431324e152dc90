/-! the reference: lock, unlock -/
theorem badM_f {m : MS} {v f n : Int32} (h : badM m v f n = false) : mayM m v (nI 0) f = true ∧ ∃ i k, i ≤ 31 ∧ 1 ≤ k ∧ i + k ≤ 32 ∧ f = nI i ∧ n = nI k := by
  unfold badM at h
  rw [Bool.or_eq_false_iff, Bool.not_eq_false', Bool.not_eq_false', Bool.and_eq_true, decide_eq_true_eq, decide_eq_true_eq] at h
  obtain ⟨h1, h2, h3⟩ := h
  obtain ⟨-, -, -, i, hi, rfl⟩ := mayM_t h1
  rw [pk_sub (by omega)] at h3
  obtain ⟨k, rfl, k1, k2, -⟩ := rng_nI (n := 32 - i) (by omega) h2 h3
  exact ⟨h1, i, k, hi, k1, by omega, rfl, rfl⟩
def addK (m : MS) (k : KR') : MS := setK m (mK m ++ [k])
def lckM (m : MS) (v f n : Int32) (al : Bool) : Int32 × MS :=
  if badM m v f n = true then (-1, m)
  else if (mK m).any (metP m (hOf m v) f.toNatClampNeg (f.toNatClampNeg + n.toNatClampNeg) al 1) = true then (-8, m)
  else if lksN m (hN (mh m (hOf m v))) = 8 then (-2, m)
  else (nI (lksN (addK m (hOf m v, f.toNatClampNeg, f.toNatClampNeg + n.toNatClampNeg, al)) (hN (mh m (hOf m v)))), addK m (hOf m v, f.toNatClampNeg, f.toNatClampNeg + n.toNatClampNeg, al))
theorem RM.kadd {w w' : WW} {m : MS} {k : KR'} (hM : RM w m) (hF : w'.1 = w.1 ∧ w'.2.2 = w.2.2) (e0 : wI w' 7 1 14 = nI ((mK m).length + 1)) (e1 : ∀ f, f < 4 → wI w' 119 1 (4 * (mK m).length + f) = krF k f)
    (e2 : ∀ k o j, ¬ (k = 7 ∧ j = 14) → ¬ (k = 119 ∧ 4 * (mK m).length ≤ j) → wI w' k o j = wI w k o j) : RM w' (addK m k) := by
  obtain ⟨hS, c0, c1, hLg, hT, hDm, hh, hH, hq, hQ, hk4, hK, hs⟩ := hM
  refine ⟨?_, ?_, ?_, ?_, ?_, ?_, ?_, ?_, ?_, ⟨?_, ?_⟩, ?_, ?_, ?_⟩
  · unfold MdS at hS ⊢
    unfold wR wL at hS ⊢
    rw [hF.2]
    exact hS
  · rw [e2 _ _ _ (by omega) (by omega)]; exact c0
  · rw [e2 _ _ _ (by omega) (by omega)]; exact c1
  · intro c hc f hf; rw [e2 _ _ _ (by omega) (by omega)]; exact hLg c hc f hf
  · obtain ⟨x1, x2, x3⟩ := hT
    refine ⟨by rw [e2 _ _ _ (by omega) (by omega)]; exact x1, fun x hx => by rw [e2 _ _ _ (by omega) (by omega)]; exact x2 x hx, fun x hx hx2 => ?_⟩
    obtain ⟨y1, y2, y3, y4⟩ := x3 x hx hx2
    exact ⟨by rw [e2 _ _ _ (by omega) (by omega)]; exact y1, by rw [e2 _ _ _ (by omega) (by omega)]; exact y2, by rw [e2 _ _ _ (by omega) (by omega)]; exact y3, fun i hi => by rw [e2 _ _ _ (by omega) (by omega)]; exact y4 i hi⟩
  · intro x hx; rw [e2 _ _ _ (by omega) (by omega)]; exact hDm x hx
  · rw [e2 _ _ _ (by omega) (by omega)]; exact hh
  · intro x h1 h2 f hf; rw [e2 _ _ _ (by omega) (by omega)]; exact hH x h1 h2 f hf
  · rw [e2 _ _ _ (by omega) (by omega)]; exact hq
  · intro x h1 h2 f hf; rw [e2 _ _ _ (by omega) (by omega)]; exact hQ.1 x h1 h2 f hf
  · intro x h1 h2; rw [e2 _ _ _ (by omega) (by omega)]; exact hQ.2 x h1 h2
  · show wI w' 7 1 14 = nI (mK m ++ [k]).length
    rw [List.length_append]; exact e0
  · intro t ht f hf
    have ht : t < (mK m ++ [k]).length := ht
    show wI w' 119 1 (4 * t + f) = krF ((mK m ++ [k])[t]) f
    rw [List.length_append] at ht
    by_cases h : t < (mK m).length
    · rw [List.getElem_append_left h, e2 _ _ _ (by omega) (by omega)]; exact hK t h f hf
    · have : t = (mK m).length := by
        have : t < (mK m).length + 1 := ht
        omega
      subst this
      rw [List.getElem_append_right (Nat.le_refl _)]
      simp only [Nat.sub_self, List.getElem_cons_zero]
      exact e1 f hf
  · rw [e2 _ _ _ (by omega) (by omega)]; exact hs
theorem WB.addk {m : MS} (hB : WB m) {k : KR'} (hl : (mK m).length ≤ 199) (h : 1 ≤ k.1 ∧ k.1 ≤ mH m ∧ k.2.1 ≤ 32 ∧ k.2.2.1 ≤ 32) : WB (addK m k) := by
  obtain ⟨b1, b2, b3, b4, b5, b6, b7, b8, b9, b10⟩ := hB
  refine ⟨b1, b2, b3, ?_, b5, b6, fun q hq => ?_, b8, b9, b10⟩
  · show (mK m ++ [k]).length ≤ 200
    rw [List.length_append]
    show (mK m).length + 1 ≤ 200
    omega
  · rcases List.mem_append.mp hq with z | z
    · exact b7 q z
    · rw [List.mem_singleton.mp z]; exact h
set_option maxHeartbeats 1000000 in
theorem Md_lock_ok {w : WW} {m : MS} {d : Nat} (hM : RM w m) (hB : WB m) (hl : (∀ n, lksN m n ≠ 8 → n ≤ 24 → (mK m).length ≤ 199)) (hd : 4 ≤ d) (v f n : Int32) (al : Bool) : E_Md_lock d [.inr (7, 1), .inl v, .inl f, .inl n, .inl (bI al)] w (fun r w' => r = some (.inl (lckM m v f n al).1) ∧ RM w' (lckM m v f n al).2 ∧ FM w w') := by
  refine S_Md_lock ?_
  have hbd := Md_badRange_ok (d := 3) hM hB (by omega) v f n
  have b1 := hB.1
  have b4 := hB.2.2.2.1
  cases hm : badM m v f n with
  | true =>
    have e : lckM m v f n al = (-1, m) := if_pos hm
    rw [hm] at hbd
    refine XE.aload_n d_Md_lock_0 rfl ?_
    refine XE.iload_n d_Md_lock_1 rfl ?_
    refine XE.iload_n d_Md_lock_2 rfl ?_
    refine XE.iload_n d_Md_lock_3 rfl ?_
    refine k_Md_119 3 d_Md_lock_4 (by omega) (Nat.le_of_ble_eq_true rfl) (by first | assumption | decide | omega) hbd (fun r1 w1 hm1 hq1 => ?_)
    rw [hq1.1, hq1.2]
    clear hq1 hm1 r1 w1
    refine XE.if_eq 12 d_Md_lock_7 (by decide) (fun h7 => absurd h7 ((by decide))) (fun h7 => ?_)
    refine XE.iconst (x := (-1)) d_Md_lock_10 (by decide) ?_
    exact XE.ri d_Md_lock_11 ⟨by rw [e], by rw [e]; exact hM, FM.rf⟩
  | false =>
    obtain ⟨hmy, i, k, hi, k1, hik, rfl, rfl⟩ := badM_f hm
    obtain ⟨hx, -, hfo, -⟩ := mayM_t hmy
    have ci : (nI i).toNatClampNeg = i := nI_clamp (by omega)
    have ck : (nI k).toNatClampNeg = k := nI_clamp (by omega)
    obtain ⟨ev, x1, x2, x3⟩ := hOf_nz hB hx
    have eM : lckM m v (nI i) (nI k) al = if (mK m).any (metP m (hOf m v) i (i + k) al 1) = true then (-8, m)
        else if lksN m (hN (mh m (hOf m v))) = 8 then (-2, m)
        else (nI (lksN (addK m (hOf m v, i, i + k, al)) (hN (mh m (hOf m v)))), addK m (hOf m v, i, i + k, al)) := by unfold lckM; rw [if_neg (by rw [hm]; decide), ci, ck]
    rw [hm] at hbd
    generalize hOf m v = x at *
    subst ev
    have n24 := hB.n24 x1 x2
    have s15 := hM.1.2.2.2.2.2.2.2.2.2.1
    have l9 := hM.1.2.2.2.2.2.2.2.2.2.2.2.2.2.2.2.2.2.2.2
    have hk : wI w 7 1 14 = nI (mK m).length := hM.2.2.2.2.2.2.2.2.2.2.1
    have hmt := Md_met_ok (d := 1) hM hB x1 x2 (f := i) (e := i + k) (by omega) (by omega) al 1 (by omega) (by omega)
    have hc : E_Md_h 0 [.inr (7, 1), .inl (nI x), .inl (nI 0)] w (fun r w' => r = some (.inl (nI (hN (mh m x)))) ∧ w' = w) := Md_h_m 0 hM hB x1 x2 (by decide)
    have hlo := Md_locksOf_ok (d := 1) hM hB n24 (by omega)
    have hln : lksN m (hN (mh m x)) ≤ 1000000 := Nat.le_trans List.countP_le_length (by omega)
    let kk : KR' := (x, i, i + k, al)
    let L := (mK m).length
    have good : ¬ (mK m).any (metP m x i (i + k) al 1) = true → ¬ lksN m (hN (mh m x)) = 8 → ∀ z : Int32, z = bI al → X_Md_lock d 104 [some (.inr (7, 1)), some (.inl (nI x)), some (.inl (nI i)), some (.inl (nI k)), some (.inl (bI al)), some (.inl (nI (4 * L)))] [.inl z, .inl (nI (4 * L + 3)), .inr (119, 1)] (sI (sI (sI w 119 1 (4 * L) (nI x)) 119 1 (4 * L + 1) (nI i)) 119 1 (4 * L + 2) (nI (i + k))) (fun r w' => r = some (.inl (lckM m (nI x) (nI i) (nI k) al).1) ∧ RM w' (lckM m (nI x) (nI i) (nI k) al).2 ∧ FM w w') := by
      intro g1 g2 z hz
      subst hz
      have h199 := hl _ g2 n24
      have e : lckM m (nI x) (nI i) (nI k) al = (nI (lksN (addK m kk) (hN (mh m x))), addK m kk) := by rw [eM, if_neg g1, if_neg g2]
      let w5 : WW := sI (sI (sI (sI (sI w 119 1 (4 * L) (nI x)) 119 1 (4 * L + 1) (nI i)) 119 1 (4 * L + 2) (nI (i + k))) 119 1 (4 * L + 3) (bI al)) 7 1 14 (nI (L + 1))
      have hM5 : RM w5 (addK m kk) := by
        refine hM.kadd ⟨rfl, rfl⟩ ?_ ?_ ?_
        · simp [w5, wI_sI, L]
        · intro f hf
          match f, hf with
          | 0, _ => simp [w5, wI_sI, krF, kk, L]
          | 1, _ => simp [w5, wI_sI, krF, kk, L]
          | 2, _ => simp [w5, wI_sI, krF, kk, L]
          | 3, _ => simp [w5, wI_sI, krF, kk, L]
        · intro k' o j h1 h2
          have h2 : ¬ (k' = 119 ∧ 4 * L ≤ j) := h2
          simp only [w5, wI_sI]
          rw [if_neg (by omega), if_neg (by omega), if_neg (by omega), if_neg (by omega), if_neg (by omega)]
      have hF5 : FM w w5 := (((FM.sI (Or.inr (by decide))).tr (FM.sI (Or.inr (by decide)))).tr ((FM.sI (Or.inr (by decide))).tr (FM.sI (Or.inr (by decide))))).tr (FM.sI (Or.inl rfl))
      have hB5 : WB (addK m kk) := hB.addk h199 ⟨x1, x2, by show i ≤ 32; omega, by show i + k ≤ 32; omega⟩
      have hc5 : E_Md_h 0 [.inr (7, 1), .inl (nI x), .inl (nI 0)] w5 (fun r w' => r = some (.inl (nI (hN (mh m x)))) ∧ w' = w5) := Md_h_m (m := addK m kk) 0 hM5 hB5 x1 x2 (by decide)
      have hlo5 := Md_locksOf_ok (d := 1) hM5 hB5 n24 (by omega)
      have hLL : L ≤ 199 := h199
      refine XE.iast d_Md_lock_104 (by decide) rfl (by first | assumption | decide | omega) (ixn2 (K := 800) l9 (by omega) (by omega)) ?_
      refine XE.aload_n d_Md_lock_105 rfl ?_
      refine XE.dup d_Md_lock_106 ?_
      refine g_Md_100 d_Md_lock_107 (by first | assumption | decide | omega) (by first | assumption | rfl) ?_
      refine XE.iconst (x := nI 1) d_Md_lock_110 (by decide) ?_
      refine XE.iadd d_Md_lock_111 (by first | exact nI_add _ _ | rfl) ?_
      refine p_Md_100 d_Md_lock_112 (by first | assumption | decide | omega) ?_
      refine XE.aload_n d_Md_lock_115 rfl ?_
      refine XE.aload_n d_Md_lock_116 rfl ?_
      refine XE.iload_n d_Md_lock_117 rfl ?_
      refine XE.iconst (x := nI 0) d_Md_lock_118 (by decide) ?_
      refine k_Md_49 0 d_Md_lock_119 (by omega) (Nat.le_of_ble_eq_true rfl) (by first | assumption | decide | omega) hc5 (fun r1 w1 hm1 hq1 => ?_)
      rw [hq1.1, hq1.2]
      clear hq1 hm1 r1 w1
      refine k_Md_122 1 d_Md_lock_122 (by omega) (Nat.le_of_ble_eq_true rfl) (by first | assumption | decide | omega) hlo5 (fun r1 w1 hm1 hq1 => ?_)
      rw [hq1.1, hq1.2]
      clear hq1 hm1 r1 w1
      exact XE.ri d_Md_lock_125 ⟨by rw [e], by rw [e]; exact hM5, hF5⟩
    refine XE.aload_n d_Md_lock_0 rfl ?_
    refine XE.iload_n d_Md_lock_1 rfl ?_
    refine XE.iload_n d_Md_lock_2 rfl ?_
    refine XE.iload_n d_Md_lock_3 rfl ?_
    refine k_Md_119 3 d_Md_lock_4 (by omega) (Nat.le_of_ble_eq_true rfl) (by first | assumption | decide | omega) hbd (fun r1 w1 hm1 hq1 => ?_)
    rw [hq1.1, hq1.2]
    clear hq1 hm1 r1 w1
    refine XE.if_eq 12 d_Md_lock_7 (by decide) (fun h7 => ?_) (fun h7 => absurd h7 ((by decide)))
    refine XE.aload_n d_Md_lock_12 rfl ?_
    refine XE.iload_n d_Md_lock_13 rfl ?_
    refine XE.iload_n d_Md_lock_14 rfl ?_
    refine XE.iload_n d_Md_lock_15 rfl ?_
    refine XE.iload_n d_Md_lock_16 rfl ?_
    refine XE.iadd d_Md_lock_17 (by first | exact nI_add _ _ | rfl) ?_
    refine XE.iload d_Md_lock_18 rfl ?_
    refine XE.iconst (x := nI 1) d_Md_lock_20 (by decide) ?_
    refine k_Md_112 1 d_Md_lock_21 (by omega) (Nat.le_of_ble_eq_true rfl) (by first | assumption | decide | omega) hmt (fun r1 w1 hm1 hq1 => ?_)
    rw [hq1.1, hq1.2]
    clear hq1 hm1 r1 w1
    refine XE.if_eq 30 d_Md_lock_24 (by decide) (fun h24 => ?_) (fun h24 => ?_)
    · have g1 : ¬ (mK m).any (metP m x i (i + k) al 1) = true := by rw [(bI_eq0 _).mp h24]; decide
      refine XE.aload_n d_Md_lock_30 rfl ?_
      refine XE.aload_n d_Md_lock_31 rfl ?_
      refine XE.iload_n d_Md_lock_32 rfl ?_
      refine XE.iconst (x := nI 0) d_Md_lock_33 (by decide) ?_
      refine k_Md_49 0 d_Md_lock_34 (by omega) (Nat.le_of_ble_eq_true rfl) (by first | assumption | decide | omega) hc (fun r1 w1 hm1 hq1 => ?_)
      rw [hq1.1, hq1.2]
      clear hq1 hm1 r1 w1
      refine k_Md_122 1 d_Md_lock_37 (by omega) (Nat.le_of_ble_eq_true rfl) (by first | assumption | decide | omega) hlo (fun r1 w1 hm1 hq1 => ?_)
      rw [hq1.1, hq1.2]
      clear hq1 hm1 r1 w1
      refine XE.bipush (x := nI 8) d_Md_lock_40 (by decide) ?_
      refine XE.icmp_ne 48 d_Md_lock_42 (by decide) (fun h42 => ?_) (fun h42 => ?_)
      · have g2 : ¬ lksN m (hN (mh m x)) = 8 := fun y => h42 (by rw [y])
        have h199 := hl _ g2 n24
        refine XE.iconst (x := nI 4) d_Md_lock_48 (by decide) ?_
        refine XE.aload_n d_Md_lock_49 rfl ?_
        refine g_Md_100 d_Md_lock_50 (by first | assumption | decide | omega) (by first | assumption | rfl) ?_
        refine XE.imul d_Md_lock_53 (by first | exact pk_mul _ _ | rfl) ?_
        refine XE.istore d_Md_lock_54 (by decide) ?_
        refine XE.aload_n d_Md_lock_56 rfl ?_
        refine g_Md_38 d_Md_lock_57 (by first | assumption | decide | omega) (by first | assumption | rfl) ?_
        refine XE.iload d_Md_lock_60 rfl ?_
        refine XE.iload_n d_Md_lock_62 rfl ?_
        refine XE.iast d_Md_lock_63 (by decide) rfl (by first | assumption | decide | omega) (ixn2 (K := 800) l9 (by omega) (by omega)) ?_
        refine XE.aload_n d_Md_lock_64 rfl ?_
        refine g_Md_38 d_Md_lock_65 (by first | assumption | decide | omega) (by first | assumption | rfl) ?_
        refine XE.iload d_Md_lock_68 rfl ?_
        refine XE.iconst (x := nI 1) d_Md_lock_70 (by decide) ?_
        refine XE.iadd d_Md_lock_71 (by first | exact nI_add _ _ | rfl) ?_
        refine XE.iload_n d_Md_lock_72 rfl ?_
        refine XE.iast d_Md_lock_73 (by decide) rfl (by first | assumption | decide | omega) (ixn2 (K := 800) l9 (by omega) (by omega)) ?_
        refine XE.aload_n d_Md_lock_74 rfl ?_
        refine g_Md_38 d_Md_lock_75 (by first | assumption | decide | omega) (by first | assumption | rfl) ?_
        refine XE.iload d_Md_lock_78 rfl ?_
        refine XE.iconst (x := nI 2) d_Md_lock_80 (by decide) ?_
        refine XE.iadd d_Md_lock_81 (by first | exact nI_add _ _ | rfl) ?_
        refine XE.iload_n d_Md_lock_82 rfl ?_
        refine XE.iload_n d_Md_lock_83 rfl ?_
        refine XE.iadd d_Md_lock_84 (by first | exact nI_add _ _ | rfl) ?_
        refine XE.iast d_Md_lock_85 (by decide) rfl (by first | assumption | decide | omega) (ixn2 (K := 800) l9 (by omega) (by omega)) ?_
        refine XE.aload_n d_Md_lock_86 rfl ?_
        refine g_Md_38 d_Md_lock_87 (by first | assumption | decide | omega) (by first | assumption | rfl) ?_
        refine XE.iload d_Md_lock_90 rfl ?_
        refine XE.iconst (x := nI 3) d_Md_lock_92 (by decide) ?_
        refine XE.iadd d_Md_lock_93 (by first | exact nI_add _ _ | rfl) ?_
        refine XE.iload d_Md_lock_94 rfl ?_
        refine XE.if_eq 103 d_Md_lock_96 (by decide) (fun h96 => ?_) (fun h96 => ?_)
        · have z : nI 0 = bI al := by rw [(bI_eq0 _).mp h96]; rfl
          refine XE.iconst (x := nI 0) d_Md_lock_103 (by decide) ?_
          exact good g1 g2 _ z
        · have z : nI 1 = bI al := by rw [te _ h96]; rfl
          refine XE.iconst (x := nI 1) d_Md_lock_99 (by decide) ?_
          refine XE.goto 104 d_Md_lock_100 (by decide) ?_
          exact good g1 g2 _ z
      · have e : lckM m (nI x) (nI i) (nI k) al = (-2, m) := by rw [eM, if_neg g1, if_pos ((eq_nI hln (by omega)).mp h42)]
        refine XE.bipush (x := (-2)) d_Md_lock_45 (by decide) ?_
        exact XE.ri d_Md_lock_47 ⟨by rw [e], by rw [e]; exact hM, FM.rf⟩
    · have e : lckM m (nI x) (nI i) (nI k) al = (-8, m) := by rw [eM, if_pos (te _ h24)]
      refine XE.bipush (x := (-8)) d_Md_lock_27 (by decide) ?_
      exact XE.ri d_Md_lock_29 ⟨by rw [e], by rw [e]; exact hM, FM.rf⟩
def ulkP (x i k : Nat) (q : KR') : Bool := q.1 == x && (q.2.1 == i && q.2.2.1 == i + k)
def ulkM (m : MS) (v f n : Int32) : Int32 × MS :=
  if badM m v f n = true then (-1, m)
  else match (mK m).findIdx? (ulkP (hOf m v) f.toNatClampNeg n.toNatClampNeg) with
    | none => (-1, m)
    | some i => (nI (lksN (setK m ((mK m).eraseIdx i)) (hN (mh m (hOf m v)))), setK m ((mK m).eraseIdx i))
def ulkR (m : MS) (n : Nat) (o : Option Nat) : Int32 × MS := match o with
  | none => (-1, m)
  | some i => (nI (lksN (setK m ((mK m).eraseIdx i)) n), setK m ((mK m).eraseIdx i))
theorem Md_unlock_ok {w : WW} {m : MS} {d : Nat} (hM : RM w m) (hB : WB m) (hd : 4 ≤ d) (v f n : Int32) : E_Md_unlock d [.inr (7, 1), .inl v, .inl f, .inl n] w (fun r w' => r = some (.inl (ulkM m v f n).1) ∧ RM w' (ulkM m v f n).2 ∧ FM w w') := by
  refine S_Md_unlock ?_
  have hbd := Md_badRange_ok (d := 3) hM hB (by omega) v f n
  have b1 := hB.1
  have b4 := hB.2.2.2.1
  cases hm : badM m v f n with
  | true =>
    have e : ulkM m v f n = (-1, m) := if_pos hm
    rw [hm] at hbd
    refine XE.aload_n d_Md_unlock_0 rfl ?_
    refine XE.iload_n d_Md_unlock_1 rfl ?_
    refine XE.iload_n d_Md_unlock_2 rfl ?_
    refine XE.iload_n d_Md_unlock_3 rfl ?_
    refine k_Md_119 3 d_Md_unlock_4 (by omega) (Nat.le_of_ble_eq_true rfl) (by first | assumption | decide | omega) hbd (fun r1 w1 hm1 hq1 => ?_)
    rw [hq1.1, hq1.2]
    clear hq1 hm1 r1 w1
    refine XE.if_eq 12 d_Md_unlock_7 (by decide) (fun h7 => absurd h7 ((by decide))) (fun h7 => ?_)
    refine XE.iconst (x := (-1)) d_Md_unlock_10 (by decide) ?_
    exact XE.ri d_Md_unlock_11 ⟨by rw [e], by rw [e]; exact hM, FM.rf⟩
  | false =>
    obtain ⟨hmy, i, k, hi, k1, hik, rfl, rfl⟩ := badM_f hm
    obtain ⟨hx, -, hfo, -⟩ := mayM_t hmy
    have ci : (nI i).toNatClampNeg = i := nI_clamp (by omega)
    have ck : (nI k).toNatClampNeg = k := nI_clamp (by omega)
    obtain ⟨ev, x1, x2, x3⟩ := hOf_nz hB hx
    have eM : ulkM m v (nI i) (nI k) = ulkR m (hN (mh m (hOf m v))) ((mK m).findIdx? (ulkP (hOf m v) i k)) := by
      unfold ulkM ulkR
      rw [if_neg (by rw [hm]; decide), ci, ck]
    rw [hm] at hbd
    generalize hOf m v = x at *
    subst ev
    have n24 := hB.n24 x1 x2
    have s15 := hM.1.2.2.2.2.2.2.2.2.2.1
    have l9 := hM.1.2.2.2.2.2.2.2.2.2.2.2.2.2.2.2.2.2.2.2
    have hk : wI w 7 1 14 = nI (mK m).length := hM.2.2.2.2.2.2.2.2.2.2.1
    have hK := hM.2.2.2.2.2.2.2.2.2.2.2.1
    have loop : ∀ kk j, j + kk = (mK m).length → X_Md_unlock d 15 [some (.inr (7, 1)), some (.inl (nI x)), some (.inl (nI i)), some (.inl (nI k)), some (.inl (nI j))] [] w (fun r w' => r = some (.inl (ulkR m (hN (mh m x)) ((((mK m).drop j).findIdx? (ulkP x i k)).map (· + j))).1) ∧ RM w' (ulkR m (hN (mh m x)) ((((mK m).drop j).findIdx? (ulkP x i k)).map (· + j))).2 ∧ FM w w') := by
      intro kk
      induction kk with
      | zero =>
        intro j h1
        have e : ((mK m).drop j).findIdx? (ulkP x i k) = none := by rw [List.drop_of_length_le (by omega)]; rfl
        refine XE.iload d_Md_unlock_15 rfl ?_
        refine XE.aload_n d_Md_unlock_17 rfl ?_
        refine g_Md_100 d_Md_unlock_18 (by first | assumption | decide | omega) (by first | assumption | rfl) ?_
        refine XE.icmp_ge 95 d_Md_unlock_21 (by decide) (fun h21 => ?_) (fun h21 => absurd h21 ((by rw [le_nI (by omega) (by omega)]; omega)))
        refine XE.iconst (x := (-1)) d_Md_unlock_95 (by decide) ?_
        exact XE.ri d_Md_unlock_96 ⟨by rw [e]; rfl, by rw [e]; exact hM, FM.rf⟩
      | succ kk ih =>
        intro j h1
        have hj : j < (mK m).length := by omega
        have hdr : (mK m).drop j = (mK m)[j] :: (mK m).drop (j + 1) := List.drop_eq_getElem_cons hj
        obtain ⟨a1, a2, a3, a4⟩ := hB.2.2.2.2.2.2.1 (mK m)[j] (List.getElem_mem hj)
        have k0 : wI w 119 1 (4 * j) = nI ((mK m)[j]).1 := hK j hj 0 (by decide)
        have k1' : wI w 119 1 (4 * j + 1) = nI ((mK m)[j]).2.1 := hK j hj 1 (by decide)
        have k2 : wI w 119 1 (4 * j + 2) = nI ((mK m)[j]).2.2.1 := hK j hj 2 (by decide)
        have e1 : ulkP x i k (mK m)[j] = false → (((mK m).drop j).findIdx? (ulkP x i k)).map (· + j) = (((mK m).drop (j + 1)).findIdx? (ulkP x i k)).map (· + (j + 1)) := fun h => by
          rw [hdr, List.findIdx?_cons, h, if_neg (by decide), Option.map_map]
          congr 1
          funext y
          show y + 1 + j = y + (j + 1)
          omega
        have e2 : ulkP x i k (mK m)[j] = true → (((mK m).drop j).findIdx? (ulkP x i k)).map (· + j) = some j := fun h => by
          rw [hdr, List.findIdx?_cons, h]; simp
        have pp : ulkP x i k (mK m)[j] = true ↔ nI ((mK m)[j]).1 = nI x ∧ nI ((mK m)[j]).2.1 = nI i ∧ nI ((mK m)[j]).2.2.1 = nI (i + k) := by
          rw [eq_nI (by omega) (by omega), eq_nI (by omega) (by omega), eq_nI (by omega) (by omega)]
          simp [ulkP]
        have no : ¬ (nI ((mK m)[j]).1 = nI x ∧ nI ((mK m)[j]).2.1 = nI i ∧ nI ((mK m)[j]).2.2.1 = nI (i + k)) → X_Md_unlock d 15 [some (.inr (7, 1)), some (.inl (nI x)), some (.inl (nI i)), some (.inl (nI k)), some (.inl (nI (j + 1)))] [] w (fun r w' => r = some (.inl (ulkR m (hN (mh m x)) ((((mK m).drop j).findIdx? (ulkP x i k)).map (· + j))).1) ∧ RM w' (ulkR m (hN (mh m x)) ((((mK m).drop j).findIdx? (ulkP x i k)).map (· + j))).2 ∧ FM w w') := fun h => by
          rw [e1 (by rw [← Bool.not_eq_true, pp]; exact h)]
          exact ih (j + 1) (by omega)
        let m1 : MS := setK m ((mK m).eraseIdx j)
        have hB1 : WB m1 := hB.setk (by rw [List.length_eraseIdx_of_lt hj]; omega) (fun q hq => List.mem_of_mem_eraseIdx hq)
        refine XE.iload d_Md_unlock_15 rfl ?_
        refine XE.aload_n d_Md_unlock_17 rfl ?_
        refine g_Md_100 d_Md_unlock_18 (by first | assumption | decide | omega) (by first | assumption | rfl) ?_
        refine XE.icmp_ge 95 d_Md_unlock_21 (by decide) (fun h21 => absurd h21 ((by rw [le_nI (by omega) (by omega)]; omega))) (fun h21 => ?_)
        refine XE.aload_n d_Md_unlock_24 rfl ?_
        refine g_Md_38 d_Md_unlock_25 (by first | assumption | decide | omega) (by first | assumption | rfl) ?_
        refine XE.iconst (x := nI 4) d_Md_unlock_28 (by decide) ?_
        refine XE.iload d_Md_unlock_29 rfl ?_
        refine XE.imul d_Md_unlock_31 (by first | exact pk_mul _ _ | rfl) ?_
        refine XE.iald d_Md_unlock_32 (Or.inr ⟨by decide, rfl⟩) (by first | assumption | decide | omega) (by first | assumption | exact ixn2 (by assumption) (by omega) (by omega)) (by first | assumption | rfl) ?_
        refine XE.iload_n d_Md_unlock_33 rfl ?_
        refine XE.icmp_ne 89 d_Md_unlock_34 (by decide) (fun h34 => ?_) (fun h34 => ?_)
        · have z := no (fun y => h34 y.1)
          refine XE.iinc d_Md_unlock_89 rfl (inc_nI _) ?_
          refine XE.goto 15 d_Md_unlock_92 (by decide) ?_
          exact z
        · refine XE.aload_n d_Md_unlock_37 rfl ?_
          refine g_Md_38 d_Md_unlock_38 (by first | assumption | decide | omega) (by first | assumption | rfl) ?_
          refine XE.iconst (x := nI 4) d_Md_unlock_41 (by decide) ?_
          refine XE.iload d_Md_unlock_42 rfl ?_
          refine XE.imul d_Md_unlock_44 (by first | exact pk_mul _ _ | rfl) ?_
          refine XE.iconst (x := nI 1) d_Md_unlock_45 (by decide) ?_
          refine XE.iadd d_Md_unlock_46 (by first | exact nI_add _ _ | rfl) ?_
          refine XE.iald d_Md_unlock_47 (Or.inr ⟨by decide, rfl⟩) (by first | assumption | decide | omega) (by first | assumption | exact ixn2 (by assumption) (by omega) (by omega)) (by first | assumption | rfl) ?_
          refine XE.iload_n d_Md_unlock_48 rfl ?_
          refine XE.icmp_ne 89 d_Md_unlock_49 (by decide) (fun h49 => ?_) (fun h49 => ?_)
          · have z := no (fun y => h49 y.2.1)
            refine XE.iinc d_Md_unlock_89 rfl (inc_nI _) ?_
            refine XE.goto 15 d_Md_unlock_92 (by decide) ?_
            exact z
          · refine XE.aload_n d_Md_unlock_52 rfl ?_
            refine g_Md_38 d_Md_unlock_53 (by first | assumption | decide | omega) (by first | assumption | rfl) ?_
            refine XE.iconst (x := nI 4) d_Md_unlock_56 (by decide) ?_
            refine XE.iload d_Md_unlock_57 rfl ?_
            refine XE.imul d_Md_unlock_59 (by first | exact pk_mul _ _ | rfl) ?_
            refine XE.iconst (x := nI 2) d_Md_unlock_60 (by decide) ?_
            refine XE.iadd d_Md_unlock_61 (by first | exact nI_add _ _ | rfl) ?_
            refine XE.iald d_Md_unlock_62 (Or.inr ⟨by decide, rfl⟩) (by first | assumption | decide | omega) (by first | assumption | exact ixn2 (by assumption) (by omega) (by omega)) (by first | assumption | rfl) ?_
            refine XE.iload_n d_Md_unlock_63 rfl ?_
            refine XE.iload_n d_Md_unlock_64 rfl ?_
            refine XE.iadd d_Md_unlock_65 (by first | exact nI_add _ _ | rfl) ?_
            refine XE.icmp_eq 72 d_Md_unlock_66 (by decide) (fun h66 => ?_) (fun h66 => ?_)
            · have q := e2 (pp.mpr ⟨h34, h49, h66⟩)
              refine XE.aload_n d_Md_unlock_72 rfl ?_
              refine XE.iload d_Md_unlock_73 rfl ?_
              refine k_Md_103 0 d_Md_unlock_75 (by omega) (Nat.le_of_ble_eq_true rfl) (by first | assumption | decide | omega) (Md_unlockAt_ok hM hB hj) (fun y1 w2 hm1 hq1 => ?_)
              obtain ⟨rfl, hM2, hF2⟩ := hq1
              have hc : E_Md_h 0 [.inr (7, 1), .inl (nI x), .inl (nI 0)] w2 (fun r w' => r = some (.inl (nI (hN (mh m x)))) ∧ w' = w2) := Md_h_m (m := m1) 0 hM2 hB1 x1 x2 (by decide)
              have hlo := Md_locksOf_ok (d := 1) (m := m1) hM2 hB1 n24 (by omega)
              refine XE.aload_n d_Md_unlock_78 rfl ?_
              refine XE.aload_n d_Md_unlock_79 rfl ?_
              refine XE.iload_n d_Md_unlock_80 rfl ?_
              refine XE.iconst (x := nI 0) d_Md_unlock_81 (by decide) ?_
              refine k_Md_49 0 d_Md_unlock_82 (by omega) (Nat.le_of_ble_eq_true rfl) (by first | assumption | decide | omega) hc (fun r1 w1 hm1 hq1 => ?_)
              rw [hq1.1, hq1.2]
              clear hq1 hm1 r1 w1
              refine k_Md_122 1 d_Md_unlock_85 (by omega) (Nat.le_of_ble_eq_true rfl) (by first | assumption | decide | omega) hlo (fun r1 w1 hm1 hq1 => ?_)
              rw [hq1.1, hq1.2]
              clear hq1 hm1 r1 w1
              exact XE.ri d_Md_unlock_88 ⟨by rw [q]; rfl, by rw [q]; exact hM2, hF2⟩
            · have z := no (fun y => h66 y.2.2)
              refine XE.goto 89 d_Md_unlock_69 (by decide) ?_
              refine XE.iinc d_Md_unlock_89 rfl (inc_nI _) ?_
              refine XE.goto 15 d_Md_unlock_92 (by decide) ?_
              exact z
    refine XE.aload_n d_Md_unlock_0 rfl ?_
    refine XE.iload_n d_Md_unlock_1 rfl ?_
    refine XE.iload_n d_Md_unlock_2 rfl ?_
    refine XE.iload_n d_Md_unlock_3 rfl ?_
    refine k_Md_119 3 d_Md_unlock_4 (by omega) (Nat.le_of_ble_eq_true rfl) (by first | assumption | decide | omega) hbd (fun r1 w1 hm1 hq1 => ?_)
    rw [hq1.1, hq1.2]
    clear hq1 hm1 r1 w1
    refine XE.if_eq 12 d_Md_unlock_7 (by decide) (fun h7 => ?_) (fun h7 => absurd h7 ((by decide)))
    refine XE.iconst (x := nI 0) d_Md_unlock_12 (by decide) ?_
    refine XE.istore d_Md_unlock_13 (by decide) ?_
    have z := loop _ 0 (Nat.zero_add _)
    rw [List.drop_zero, show (((mK m).findIdx? (ulkP x i k)).map (· + 0)) = (mK m).findIdx? (ulkP x i k) by simp, ← eM] at z
    exact z
