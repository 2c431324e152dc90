/-! the reference's note -/
def noteM (m : MS) (c : Ch) : MS := (mN m + 1, (if mN m + 1 - mU m = 6 then mN m + 1 else mU m), uf (mG m) (mN m) c, m.2.2.2)
theorem mT_note (m : MS) (c : Ch) : mT (noteM m c) = app c (mT m) := by
  show app (uf (mG m) (mN m) c (mN m)) (rep (uf (mG m) (mN m) c) (mN m)) = app c (rep (mG m) (mN m))
  rw [uf_s, rep_congr (lg' := mG m) (fun c' h => uf_n _ _ (Nat.ne_of_lt h))]
theorem Md_note_ok {w : WW} {m : MS} {d kd n : Nat} {a b e : Int32} (hM : RM w m) (h11 : mN m ≤ 1100) (hu : mU m ≤ mN m) (hk : kd ≤ 4) (hok : okC (kd, n, a, b, e) (mT m)) (hd : 1 ≤ d) :
    E_Md_note d [.inr (7, 1), .inl (nI kd), .inl (nI n), .inl a, .inl b, .inl e] w (fun r w' => r = none ∧ RM w' (noteM m (kd, n, a, b, e)) ∧ FM w w') := by
  refine S_Md_note ?_
  obtain ⟨hS, c0, c1, hLg, hT, hDm, hh, hH, hq, hQ, hk4, hK, hs⟩ := hM
  have hS' := hS
  obtain ⟨s2, s4, s5, s6, s7, s8, s9, s11, s13, s15, l0, l1, l2, l3, l4, l5, l6, l7, l8, l9⟩ := hS
  have hn : n ≤ 24 := hok.1
  generalize hN0 : mN m = N at *
  let w5 : WW := sI (sI (sI (sI (sI w 110 1 (5 * N) (nI kd)) 110 1 (5 * N + 1) (nI n)) 110 1 (5 * N + 2) a) 110 1 (5 * N + 3) b) 110 1 (5 * N + 4) e
  have hf : ∀ f, f < 5 → wI w5 110 1 (5 * N + f) = chF (kd, n, a, b, e) f := by
    intro f hf
    match f, hf with
    | 0, _ => simp [w5, wI_sI, chF]
    | 1, _ => simp [w5, wI_sI, chF]
    | 2, _ => simp [w5, wI_sI, chF]
    | 3, _ => simp [w5, wI_sI, chF]
    | 4, _ => simp [w5, wI_sI, chF]
  have hf2 : ∀ k o j, ¬ (k = 110 ∧ o = 1 ∧ 5 * N ≤ j ∧ j < 5 * N + 5) → wI w5 k o j = wI w k o j := by
    intro k o j h
    simp only [w5, wI_sI]
    rw [if_neg (by omega), if_neg (by omega), if_neg (by omega), if_neg (by omega), if_neg (by omega)]
  have hT5 : RMt w5 (mT m) := hT
  have fin : ∀ (w1 : WW) (u : Nat), RMt w1 (app (kd, n, a, b, e) (mT m)) → FA w5 w1 → (if N + 1 - mU m = 6 then N + 1 else mU m) = u → ∀ w3 : WW, (w3 = sI w1 7 1 0 (nI (N + 1)) ∧ u = mU m ∨ w3 = sI (sI w1 7 1 0 (nI (N + 1))) 7 1 1 (nI u)) → RM w3 (noteM m (kd, n, a, b, e)) ∧ FM w w3 := by
    intro w1 u hT1 hA1 hu3 w3 hw3
    have F3 : FM w w3 := by
      have F5 : FM w w5 := (((FM.sI (Or.inr (by decide))).tr (FM.sI (Or.inr (by decide)))).tr (FM.sI (Or.inr (by decide)))).tr ((FM.sI (Or.inr (by decide))).tr (FM.sI (Or.inr (by decide))))
      rcases hw3 with ⟨rfl, -⟩ | rfl
      · exact (F5.tr hA1.FM).tr (FM.sI (Or.inl rfl))
      · exact ((F5.tr hA1.FM).tr (FM.sI (Or.inl rfl))).tr (FM.sI (Or.inl rfl))
    have k1 : ∀ k o j, ¬ (k = 7 ∧ (j = 0 ∨ j = 1)) → wI w3 k o j = wI w1 k o j := by
      intro k o j h
      rcases hw3 with ⟨rfl, -⟩ | rfl
      · rw [wI_sI, if_neg (by omega)]
      · rw [wI_sI, if_neg (by omega), wI_sI, if_neg (by omega)]
    have key : ∀ k o j, (k = 115 ∨ k = 117 ∨ k = 118 ∨ k = 119 ∨ (k = 7 ∧ j ≠ 0 ∧ j ≠ 1 ∧ j ≠ 3)) → wI w3 k o j = wI w k o j := by
      intro k o j h
      rw [k1 k o j (by omega), hA1.2.2 k o j (by omega) (by omega), hf2 k o j (by omega)]
    have e1 : wI w3 7 1 1 = nI u := by
      rcases hw3 with ⟨rfl, h⟩ | rfl
      · rw [wI_sI, if_neg (by omega), hA1.2.2 7 1 1 (by omega) (by omega), hf2 7 1 1 (by omega), c1, h]
      · rw [wI_sI, if_pos ⟨rfl, rfl, rfl⟩]
    have e0 : wI w3 7 1 0 = nI (N + 1) := by
      rcases hw3 with ⟨rfl, h⟩ | rfl
      · rw [wI_sI, if_pos ⟨rfl, rfl, rfl⟩]
      · rw [wI_sI, if_neg (by omega), wI_sI, if_pos ⟨rfl, rfl, rfl⟩]
    refine ⟨⟨F3.S hS', ?_, ?_, ?_, ?_, ?_, ?_, ?_, ?_, ?_, ?_, ?_, ?_⟩, F3⟩
    · show wI w3 7 1 0 = nI (mN m + 1)
      rw [hN0]; exact e0
    · show wI w3 7 1 1 = nI (if mN m + 1 - mU m = 6 then mN m + 1 else mU m)
      rw [hN0, hu3]; exact e1
    · intro c hc f hf'
      have hc : c < N + 1 := by rw [← hN0]; exact hc
      show wI w3 110 1 (5 * c + f) = chF (uf (mG m) (mN m) (kd, n, a, b, e) c) f
      rw [k1 _ _ _ (by omega), hA1.2.2 _ _ _ (by omega) (by omega), hN0]
      by_cases h : c = N
      · subst h
        rw [uf_s]; exact hf f hf'
      · rw [uf_n _ _ h, hf2 _ _ _ (by omega)]
        exact hLg c (by omega) f hf'
    · rw [mT_note]
      obtain ⟨x1, x2, x3⟩ := hT1
      refine ⟨by rw [k1 _ _ _ (by omega)]; exact x1, fun x hx => by rw [k1 _ _ _ (by omega)]; exact x2 x hx, fun x hx hx2 => ?_⟩
      obtain ⟨y1, y2, y3, y4⟩ := x3 x hx hx2
      exact ⟨by rw [k1 _ _ _ (by omega)]; exact y1, by rw [k1 _ _ _ (by omega)]; exact y2, by rw [k1 _ _ _ (by omega)]; exact y3, fun i hi => by rw [k1 _ _ _ (by omega)]; exact y4 i hi⟩
    · intro x hx; rw [key _ _ _ (by omega)]; exact hDm x hx
    · rw [key _ _ _ (by omega)]; exact hh
    · intro x h1 h2 f hf'; rw [key _ _ _ (by omega)]; exact hH x h1 h2 f hf'
    · rw [key _ _ _ (by omega)]; exact hq
    · exact ⟨fun x h1 h2 f hf' => by rw [key _ _ _ (by omega)]; exact hQ.1 x h1 h2 f hf', fun x h1 h2 => by rw [key _ _ _ (by omega)]; exact hQ.2 x h1 h2⟩
    · rw [key _ _ _ (by omega)]; exact hk4
    · intro i hi f hf'; rw [key _ _ _ (by omega)]; exact hK i hi f hf'
    · rw [key _ _ _ (by omega)]; exact hs
  refine XE.iconst (x := nI 5) d_Md_note_0 (by decide) ?_
  refine XE.aload_n d_Md_note_1 rfl ?_
  refine g_Md_56 d_Md_note_2 (by first | assumption | decide | omega) (by first | assumption | rfl) ?_
  refine XE.imul d_Md_note_5 (by first | exact pk_mul _ _ | rfl) ?_
  refine XE.istore d_Md_note_6 (by decide) ?_
  refine XE.aload_n d_Md_note_8 rfl ?_
  refine g_Md_7 d_Md_note_9 (by first | assumption | decide | omega) (by first | assumption | rfl) ?_
  refine XE.iload d_Md_note_12 rfl ?_
  refine XE.iload_n d_Md_note_14 rfl ?_
  refine XE.iast d_Md_note_15 (by decide) rfl (by first | assumption | decide | omega) (by first | assumption | exact ixn2 (by assumption) (by omega) (by omega)) ?_
  refine XE.aload_n d_Md_note_16 rfl ?_
  refine g_Md_7 d_Md_note_17 (by first | assumption | decide | omega) (by first | assumption | rfl) ?_
  refine XE.iload d_Md_note_20 rfl ?_
  refine XE.iconst (x := nI 1) d_Md_note_22 (by decide) ?_
  refine XE.iadd d_Md_note_23 (by first | exact nI_add _ _ | rfl) ?_
  refine XE.iload_n d_Md_note_24 rfl ?_
  refine XE.iast d_Md_note_25 (by decide) rfl (by first | assumption | decide | omega) (by first | assumption | exact ixn2 (by assumption) (by omega) (by omega)) ?_
  refine XE.aload_n d_Md_note_26 rfl ?_
  refine g_Md_7 d_Md_note_27 (by first | assumption | decide | omega) (by first | assumption | rfl) ?_
  refine XE.iload d_Md_note_30 rfl ?_
  refine XE.iconst (x := nI 2) d_Md_note_32 (by decide) ?_
  refine XE.iadd d_Md_note_33 (by first | exact nI_add _ _ | rfl) ?_
  refine XE.iload_n d_Md_note_34 rfl ?_
  refine XE.iast d_Md_note_35 (by decide) rfl (by first | assumption | decide | omega) (by first | assumption | exact ixn2 (by assumption) (by omega) (by omega)) ?_
  refine XE.aload_n d_Md_note_36 rfl ?_
  refine g_Md_7 d_Md_note_37 (by first | assumption | decide | omega) (by first | assumption | rfl) ?_
  refine XE.iload d_Md_note_40 rfl ?_
  refine XE.iconst (x := nI 3) d_Md_note_42 (by decide) ?_
  refine XE.iadd d_Md_note_43 (by first | exact nI_add _ _ | rfl) ?_
  refine XE.iload d_Md_note_44 rfl ?_
  refine XE.iast d_Md_note_46 (by decide) rfl (by first | assumption | decide | omega) (by first | assumption | exact ixn2 (by assumption) (by omega) (by omega)) ?_
  refine XE.aload_n d_Md_note_47 rfl ?_
  refine g_Md_7 d_Md_note_48 (by first | assumption | decide | omega) (by first | assumption | rfl) ?_
  refine XE.iload d_Md_note_51 rfl ?_
  refine XE.iconst (x := nI 4) d_Md_note_53 (by decide) ?_
  refine XE.iadd d_Md_note_54 (by first | exact nI_add _ _ | rfl) ?_
  refine XE.iload d_Md_note_55 rfl ?_
  refine XE.iast d_Md_note_57 (by decide) rfl (by first | assumption | decide | omega) (by first | assumption | exact ixn2 (by assumption) (by omega) (by omega)) ?_
  refine XE.aload_n d_Md_note_58 rfl ?_
  refine XE.aload_n d_Md_note_59 rfl ?_
  refine g_Md_56 d_Md_note_60 (by first | assumption | decide | omega) (by first | assumption | rfl) ?_
  refine k_Md_59 0 d_Md_note_63 (by omega) (Nat.le_of_ble_eq_true rfl) (by first | assumption | decide | omega) (Md_apply_ok (w := w5) (t := mT m) hS' hT5 (by omega) hf hok) (fun r1 w1 hm1 hq1 => ?_)
  obtain ⟨rfl, hT1, hA1⟩ := hq1
  have d0 : wI w1 7 1 0 = nI N := by rw [hA1.2.2 7 1 0 (by omega) (by omega), hf2 7 1 0 (by omega), c0]
  have d1 : wI w1 7 1 1 = nI (mU m) := by rw [hA1.2.2 7 1 1 (by omega) (by omega), hf2 7 1 1 (by omega), c1]
  refine XE.aload_n d_Md_note_66 rfl ?_
  refine XE.dup d_Md_note_67 ?_
  refine g_Md_56 d_Md_note_68 (by first | assumption | decide | omega) (by first | assumption | rfl) ?_
  refine XE.iconst (x := nI 1) d_Md_note_71 (by decide) ?_
  refine XE.iadd d_Md_note_72 (by first | exact nI_add _ _ | rfl) ?_
  refine p_Md_56 d_Md_note_73 (by first | assumption | decide | omega) ?_
  refine XE.aload_n d_Md_note_76 rfl ?_
  refine g_Md_56 (x := nI (N + 1)) d_Md_note_77 (by first | assumption | decide | omega) (by rw [wI_sI, if_pos ⟨rfl, rfl, rfl⟩]) ?_
  refine XE.aload_n d_Md_note_80 rfl ?_
  refine g_Md_63 (x := nI (mU m)) d_Md_note_81 (by first | assumption | decide | omega) (by rw [wI_sI, if_neg (by omega)]; exact d1) ?_
  refine XE.isub d_Md_note_84 (pk_sub (by omega)) ?_
  refine XE.bipush (x := nI 6) d_Md_note_85 (by decide) ?_
  refine XE.icmp_ne 98 d_Md_note_87 (by decide) (fun h87 => ?_) (fun h87 => ?_)
  · have e6 : ¬ N + 1 - mU m = 6 := fun h => h87 (by rw [h])
    first | exact XE.rv d_Md_note_98 ⟨rfl, fin w1 _ hT1 hA1 (by rw [if_neg e6]) _ (Or.inl ⟨rfl, rfl⟩)⟩ | exact XE.rv d_Md_note_98 ⟨rfl, fin w1 _ hT1 hA1 (by rw [if_pos e6]) _ (Or.inr rfl)⟩
  · have e6 : N + 1 - mU m = 6 := (eq_nI (by omega) (by omega)).mp h87
    refine XE.aload_n d_Md_note_90 rfl ?_
    refine XE.aload_n d_Md_note_91 rfl ?_
    refine g_Md_56 (x := nI (N + 1)) d_Md_note_92 (by first | assumption | decide | omega) (by rw [wI_sI, if_pos ⟨rfl, rfl, rfl⟩]) ?_
    refine p_Md_63 d_Md_note_95 (by first | assumption | decide | omega) ?_
    first | exact XE.rv d_Md_note_98 ⟨rfl, fin w1 _ hT1 hA1 (by rw [if_neg e6]) _ (Or.inl ⟨rfl, rfl⟩)⟩ | exact XE.rv d_Md_note_98 ⟨rfl, fin w1 _ hT1 hA1 (by rw [if_pos e6]) _ (Or.inr rfl)⟩
