/-! the reference: open, outcome, cancel, giveUp -/
theorem bI_and (a b : Prop) [Decidable a] [Decidable b] : bI (decide a && decide b) = 0 ↔ ¬ (a ∧ b) := by
  rw [bI_eq0, Bool.and_eq_false_iff, decide_eq_false_iff_not, decide_eq_false_iff_not]
  by_cases h : a <;> simp [h]
def addQ (m : MS) (q : QR) : MS := (m.1, m.2.1, m.2.2.1, m.2.2.2.1, m.2.2.2.2.1, m.2.2.2.2.2.1, mQ m + 1, uf (mq m) (mQ m + 1) q, m.2.2.2.2.2.2.2.2)
def opnOk (c d n md ws : Int32) : Prop := (nI 0 ≤ c ∧ c ≤ nI 3) ∧ (nI 0 ≤ d ∧ d ≤ nI 24) ∧ (nI 0 ≤ n ∧ n ≤ nI 15) ∧ (nI 0 ≤ md ∧ md ≤ nI 1023) ∧ (nI 0 ≤ ws ∧ ws ≤ nI 2) ∧ ¬ md &&& nI 7 = 0 ∧ ¬ md &&& nI 516 = nI 512
def opnS (m : MS) (c d n md ws : Int32) : MS := tryS (addQ m (c, d.toNatClampNeg, n, md, ws, 0)) (mQ m + 1)
theorem RM.qadd {w w' : WW} {m : MS} {q : QR} (hM : RM w m) (hF : w'.1 = w.1 ∧ w'.2.2 = w.2.2) (b : mQ m < 512) (hz : qO q = 0) (e0 : wI w' 7 1 12 = nI (mQ m + 1)) (e1 : ∀ f, f < 5 → wI w' 118 1 (6 * (mQ m + 1) + f) = qrF q f)
    (e2 : ∀ k o j, ¬ (k = 7 ∧ j = 12) → ¬ (k = 118 ∧ 6 * (mQ m + 1) ≤ j ∧ j < 6 * (mQ m + 1) + 5) → wI w' k o j = wI w k o j) : RM w' (addQ m q) := by
  obtain ⟨hS, c0, c1, hLg, hT, hDm, hh, hH, hq, hQ, hk4, hK, hs⟩ := hM
  refine ⟨?_, ?_, ?_, ?_, ?_, ?_, ?_, ?_, e0, ⟨?_, ?_⟩, ?_, ?_, ?_⟩
  · unfold MdS at hS ⊢
    unfold wR wL at hS ⊢
    rw [hF.2]
    exact hS
  · rw [e2 _ _ _ (by omega) (by omega)]; exact c0
  · rw [e2 _ _ _ (by omega) (by omega)]; exact c1
  · intro c hc f hf; rw [e2 _ _ _ (by omega) (by omega)]; exact hLg c hc f hf
  · obtain ⟨x1, x2, x3⟩ := hT
    refine ⟨by rw [e2 _ _ _ (by omega) (by omega)]; exact x1, fun x hx => by rw [e2 _ _ _ (by omega) (by omega)]; exact x2 x hx, fun x hx hx2 => ?_⟩
    obtain ⟨y1, y2, y3, y4⟩ := x3 x hx hx2
    exact ⟨by rw [e2 _ _ _ (by omega) (by omega)]; exact y1, by rw [e2 _ _ _ (by omega) (by omega)]; exact y2, by rw [e2 _ _ _ (by omega) (by omega)]; exact y3, fun i hi => by rw [e2 _ _ _ (by omega) (by omega)]; exact y4 i hi⟩
  · intro x hx; rw [e2 _ _ _ (by omega) (by omega)]; exact hDm x hx
  · rw [e2 _ _ _ (by omega) (by omega)]; exact hh
  · intro x h1 h2 f hf; rw [e2 _ _ _ (by omega) (by omega)]; exact hH x h1 h2 f hf
  · intro x h1 h2 f hf
    show wI w' 118 1 (6 * x + f) = qrF (uf (mq m) (mQ m + 1) q x) f
    have h2 : x ≤ mQ m + 1 := h2
    by_cases h : x = mQ m + 1
    · subst h
      rw [uf_s]
      by_cases hf5 : f = 5
      · subst hf5
        rw [e2 _ _ _ (by omega) (by omega), hQ.2 _ (by omega) (by omega)]
        exact hz.symm
      · exact e1 f (by omega)
    · rw [uf_n _ _ h, e2 _ _ _ (by omega) (by omega)]; exact hQ.1 x h1 (by omega) f hf
  · intro x h1 h2
    have h1 : mQ m + 1 < x := h1
    rw [e2 _ _ _ (by omega) (by omega)]
    exact hQ.2 x (by omega) h2
  · rw [e2 _ _ _ (by omega) (by omega)]; exact hk4
  · intro i hi f hf; rw [e2 _ _ _ (by omega) (by omega)]; exact hK i hi f hf
  · rw [e2 _ _ _ (by omega) (by omega)]; exact hs
theorem WB.addq {m : MS} (hB : WB m) {q : QR} (h5 : mQ m < 512) (hd : qD q ≤ 24) (hm : ∃ md, md < 1024 ∧ qM q = nI md) : WB (addQ m q) := by
  obtain ⟨b1, b2, b3, b4, b5, b6, b7, b8, b9, b10, b11⟩ := hB
  refine ⟨b1, by show mQ m + 1 ≤ 512; omega, b3, b4, b5, b6, b7, fun r h1 h2 => ?_, b9, fun r h1 h2 => ?_, b11⟩
  · show qD (uf (mq m) (mQ m + 1) q r) ≤ 24
    have h2 : r ≤ mQ m + 1 := h2
    by_cases h : r = mQ m + 1
    · rw [h, uf_s]; exact hd
    · rw [uf_n _ _ h]; exact b8 r h1 (by omega)
  · show ∃ md, md < 1024 ∧ qM (uf (mq m) (mQ m + 1) q r) = nI md
    have h2 : r ≤ mQ m + 1 := h2
    by_cases h : r = mQ m + 1
    · rw [h, uf_s]; exact hm
    · rw [uf_n _ _ h]; exact b10 r h1 (by omega)
theorem BD.addq {c : Nat} {m : MS} (hD : BD c m) {q : QR} (hz : qO q = 0) : BD c (addQ m q) := by
  obtain ⟨d1, d2, d3⟩ := hD
  refine ⟨?_, d2, d3⟩
  have : wtN (addQ m q) = wtN m + 1 := by
    show (List.range' 1 (mQ m + 1)).countP (fun r => qO (uf (mq m) (mQ m + 1) q r) == 0) = _
    rw [List.range'_1_concat, List.countP_append]
    congr 1
    · refine List.countP_congr (fun x hx => ?_)
      rw [uf_n _ _ (by have := (List.mem_range'_1.mp hx).2; omega)]
    · rw [show 1 + mQ m = mQ m + 1 by omega, List.countP_cons_of_pos (by rw [uf_s, hz]; rfl)]
      rfl
  rw [this]
  show mH m + (wtN m + 1) ≤ mQ m + 1
  omega
set_option maxHeartbeats 1000000 in
theorem Md_open_ok {w : WW} {m : MS} {c d : Nat} (hM : RM w m) (hB : WB m) (hD : BD c m) (h5 : mQ m < 512) (hd : 4 ≤ d) (cl di na md ws : Int32) :
    E_Md_open d [.inr (7, 1), .inl cl, .inl di, .inl na, .inl md, .inl ws] w (fun r w' => FM w w' ∧ (¬ opnOk cl di na md ws → r = some (.inl (-1)) ∧ RM w' m) ∧ (opnOk cl di na md ws → r = some (.inl (nI (mQ m + 1))) ∧ RM w' (opnS m cl di na md ws))) := by
  refine S_Md_open ?_
  have hM' := hM
  obtain ⟨hS, c0, c1, hLg, hT, hDm, hh, hH, hq, hQ, hk4, hK, hs⟩ := hM
  obtain ⟨s2, s4, s5, s6, s7, s8, s9, s11, s13, s15, l0, l1, l2, l3, l4, l5, l6, l7, l8, l9⟩ := hS
  have bad : ∀ {pc : Nat} {ls : List (Option VV)}, decode c_Md_open pc = .ok (.ireturn, 1) → ¬ opnOk cl di na md ws → X_Md_open d pc ls [.inl (-1)] w (fun r w' => FM w w' ∧ (¬ opnOk cl di na md ws → r = some (.inl (-1)) ∧ RM w' m) ∧ (opnOk cl di na md ws → r = some (.inl (nI (mQ m + 1))) ∧ RM w' (opnS m cl di na md ws))) := by
    intro pc ls hdc hn
    exact XE.ri hdc ⟨FM.rf, fun _ => ⟨rfl, hM'⟩, fun h => absurd h hn⟩
  have good : opnOk cl di na md ws → X_Md_open d 75 [some (.inr (7, 1)), some (.inl cl), some (.inl di), some (.inl na), some (.inl md), some (.inl ws), none] [] w (fun r w' => FM w w' ∧ (¬ opnOk cl di na md ws → r = some (.inl (-1)) ∧ RM w' m) ∧ (opnOk cl di na md ws → r = some (.inl (nI (mQ m + 1))) ∧ RM w' (opnS m cl di na md ws))) := by
    intro ok
    obtain ⟨-, o2, -, o4, -, -, -⟩ := id ok
    obtain ⟨dn, rfl, hdn, ec⟩ : ∃ x, di = nI x ∧ x ≤ 24 ∧ di.toNatClampNeg = x := by
      have h0 : ¬ di < 0 := Int32.not_lt.mpr o2.1
      obtain ⟨j, hj, rfl⟩ := nI_of h0
      exact ⟨j, rfl, (nI_leI hj (by omega)).mp o2.2, nI_clamp hj⟩
    obtain ⟨mdn, hmdn, emd⟩ : ∃ x, x < 1024 ∧ md = nI x := by
      have h0 : ¬ md < 0 := Int32.not_lt.mpr o4.1
      obtain ⟨j, hj, rfl⟩ := nI_of h0
      exact ⟨j, by have := (nI_leI hj (by omega)).mp o4.2; omega, rfl⟩
    let q : QR := (cl, dn, na, md, ws, 0)
    let m1 : MS := addQ m q
    let B := 6 * (mQ m + 1)
    let w6 : WW := sI (sI (sI (sI (sI (sI w 7 1 12 (nI (mQ m + 1))) 118 1 B cl) 118 1 (B + 1) (nI dn)) 118 1 (B + 2) na) 118 1 (B + 3) md) 118 1 (B + 4) ws
    have hM1 : RM w6 m1 := by
      refine hM'.qadd ⟨rfl, rfl⟩ h5 rfl ?_ ?_ ?_
      · simp [w6, wI_sI]
      · intro f hf
        match f, hf with
        | 0, _ => simp [w6, B, wI_sI, qrF, q, qC]
        | 1, _ => simp [w6, B, wI_sI, qrF, q, qD]
        | 2, _ => simp [w6, B, wI_sI, qrF, q, qN]
        | 3, _ => simp [w6, B, wI_sI, qrF, q, qM]
        | 4, _ => simp [w6, B, wI_sI, qrF, q, qW]
      · intro k o j h1 h2
        simp only [w6, wI_sI]
        rw [if_neg (by omega), if_neg (by omega), if_neg (by omega), if_neg (by omega), if_neg (by omega), if_neg (by omega)]
    have hF6 : FM w w6 := (((FM.sI (Or.inl rfl)).tr (FM.sI (Or.inr (by decide)))).tr ((FM.sI (Or.inr (by decide))).tr (FM.sI (Or.inr (by decide))))).tr ((FM.sI (Or.inr (by decide))).tr (FM.sI (Or.inr (by decide))))
    have hB1 : WB m1 := hB.addq h5 hdn ⟨mdn, hmdn, emd⟩
    have hD1 : BD c m1 := hD.addq rfl
    have qz : qO (mq m1 (mQ m + 1)) = 0 := by
      show qO (uf (mq m) (mQ m + 1) q (mQ m + 1)) = 0
      rw [uf_s]; rfl
    have r2 : mQ m + 1 ≤ mQ m1 := Nat.le_refl _
    have h51 := wait_lt hB1 hD1 (by omega : 1 ≤ mQ m + 1) r2 qz
    have eS : opnS m cl (nI dn) na md ws = tryS m1 (mQ m + 1) := by
      unfold opnS
      rw [ec]
    have hat : E_Md_attempt 3 [.inr (7, 1), .inl (nI (mQ m + 1))] w6 (fun q w' => q = some (.inl (attM m1 (mQ m + 1)).1) ∧ RM w' (attM m1 (mQ m + 1)).2 ∧ FM w6 w') :=
      Md_attempt_ok hM1 hB1 (by omega) r2 h51 (by have := hD1.2.1; have := hD1.2.2; omega) (by omega)
    refine XE.aload_n d_Md_open_75 rfl ?_
    refine XE.dup d_Md_open_76 ?_
    refine g_Md_88 d_Md_open_77 (by first | assumption | decide | omega) (by first | assumption | rfl) ?_
    refine XE.iconst (x := nI 1) d_Md_open_80 (by decide) ?_
    refine XE.iadd d_Md_open_81 (by first | exact nI_add _ _ | rfl) ?_
    refine p_Md_88 d_Md_open_82 (by first | assumption | decide | omega) ?_
    refine XE.bipush (x := nI 6) d_Md_open_85 (by decide) ?_
    refine XE.aload_n d_Md_open_87 rfl ?_
    refine g_Md_88 (x := nI (mQ m + 1)) d_Md_open_88 (by first | assumption | decide | omega) (by rw [wI_sI, if_pos ⟨rfl, rfl, rfl⟩]) ?_
    refine XE.imul d_Md_open_91 (by first | exact pk_mul _ _ | rfl) ?_
    refine XE.istore d_Md_open_92 (by decide) ?_
    refine XE.aload_n d_Md_open_94 rfl ?_
    refine g_Md_35 d_Md_open_95 (by first | assumption | decide | omega) (by first | assumption | rfl) ?_
    refine XE.iload d_Md_open_98 rfl ?_
    refine XE.iload_n d_Md_open_100 rfl ?_
    refine XE.iast d_Md_open_101 (by decide) rfl (by first | assumption | decide | omega) (by first | assumption | exact ixn2 (by assumption) (by omega) (by omega)) ?_
    refine XE.aload_n d_Md_open_102 rfl ?_
    refine g_Md_35 d_Md_open_103 (by first | assumption | decide | omega) (by first | assumption | rfl) ?_
    refine XE.iload d_Md_open_106 rfl ?_
    refine XE.iconst (x := nI 1) d_Md_open_108 (by decide) ?_
    refine XE.iadd d_Md_open_109 (by first | exact nI_add _ _ | rfl) ?_
    refine XE.iload_n d_Md_open_110 rfl ?_
    refine XE.iast d_Md_open_111 (by decide) rfl (by first | assumption | decide | omega) (by first | assumption | exact ixn2 (by assumption) (by omega) (by omega)) ?_
    refine XE.aload_n d_Md_open_112 rfl ?_
    refine g_Md_35 d_Md_open_113 (by first | assumption | decide | omega) (by first | assumption | rfl) ?_
    refine XE.iload d_Md_open_116 rfl ?_
    refine XE.iconst (x := nI 2) d_Md_open_118 (by decide) ?_
    refine XE.iadd d_Md_open_119 (by first | exact nI_add _ _ | rfl) ?_
    refine XE.iload_n d_Md_open_120 rfl ?_
    refine XE.iast d_Md_open_121 (by decide) rfl (by first | assumption | decide | omega) (by first | assumption | exact ixn2 (by assumption) (by omega) (by omega)) ?_
    refine XE.aload_n d_Md_open_122 rfl ?_
    refine g_Md_35 d_Md_open_123 (by first | assumption | decide | omega) (by first | assumption | rfl) ?_
    refine XE.iload d_Md_open_126 rfl ?_
    refine XE.iconst (x := nI 3) d_Md_open_128 (by decide) ?_
    refine XE.iadd d_Md_open_129 (by first | exact nI_add _ _ | rfl) ?_
    refine XE.iload d_Md_open_130 rfl ?_
    refine XE.iast d_Md_open_132 (by decide) rfl (by first | assumption | decide | omega) (by first | assumption | exact ixn2 (by assumption) (by omega) (by omega)) ?_
    refine XE.aload_n d_Md_open_133 rfl ?_
    refine g_Md_35 d_Md_open_134 (by first | assumption | decide | omega) (by first | assumption | rfl) ?_
    refine XE.iload d_Md_open_137 rfl ?_
    refine XE.iconst (x := nI 4) d_Md_open_139 (by decide) ?_
    refine XE.iadd d_Md_open_140 (by first | exact nI_add _ _ | rfl) ?_
    refine XE.iload d_Md_open_141 rfl ?_
    refine XE.iast d_Md_open_143 (by decide) rfl (by first | assumption | decide | omega) (by first | assumption | exact ixn2 (by assumption) (by omega) (by omega)) ?_
    refine XE.aload_n d_Md_open_144 rfl ?_
    refine g_Md_35 d_Md_open_145 (by first | assumption | decide | omega) (by first | assumption | rfl) ?_
    refine XE.iload d_Md_open_148 rfl ?_
    refine XE.iconst (x := nI 5) d_Md_open_150 (by decide) ?_
    refine XE.iadd d_Md_open_151 (by first | exact nI_add _ _ | rfl) ?_
    refine XE.aload_n d_Md_open_152 rfl ?_
    refine XE.aload_n d_Md_open_153 rfl ?_
    refine g_Md_88 (x := nI (mQ m + 1)) d_Md_open_154 (by first | assumption | decide | omega) rfl ?_
    refine k_Md_91 3 d_Md_open_157 (by omega) (Nat.le_of_ble_eq_true rfl) (by first | assumption | decide | omega) hat (fun x1 w2 hm1 hq1 => ?_)
    obtain ⟨rfl, hM2, hF2⟩ := hq1
    have s13' : wR w2 7 1 13 = 1 := hM2.1.2.2.2.2.2.2.2.2.1
    have l8' : wL w2 118 1 = 3120 := hM2.1.2.2.2.2.2.2.2.2.2.2.2.2.2.2.2.2.2.2.1
    have n2 : wI w2 7 1 12 = nI (mQ m + 1) := by have := hM2.2.2.2.2.2.2.2.2.1; rw [(att_inv hB1 ⟨h51, hD1.2.1, hD1.2.2⟩ (by omega) r2).2.1] at this; exact this
    refine XE.iast d_Md_open_160 (by decide) rfl (by first | assumption | decide | omega) (by first | assumption | exact ixn2 (by assumption) (by omega) (by omega)) ?_
    refine XE.aload_n d_Md_open_161 rfl ?_
    refine g_Md_88 d_Md_open_162 (by first | assumption | decide | omega) (by first | assumption | rfl) ?_
    exact XE.ri d_Md_open_165 ⟨(hF6.tr hF2).tr (FM.sI (Or.inr (by decide))), fun h => absurd ok h, fun _ => ⟨rfl, by rw [eS]; exact try_store hB1 hD1 (by omega) r2 qz hM2⟩⟩
  refine XE.iload_n d_Md_open_0 rfl ?_
  refine XE.iconst (x := nI 0) d_Md_open_1 (by decide) ?_
  refine XE.iconst (x := nI 3) d_Md_open_2 (by decide) ?_
  refine k_Md_45 0 d_Md_open_3 (by omega) (Nat.le_of_ble_eq_true rfl) (Md_in_ok cl (nI 0) (nI 3)) (fun r1 w1 hm1 hq1 => ?_)
  rw [hq1.1, hq1.2]
  clear hq1 hm1 r1 w1
  refine XE.if_eq 51 d_Md_open_6 (by decide) (fun h6 => ?_) (fun h6 => ?_)
  · have nk : ¬ opnOk cl di na md ws := fun z => (bI_and _ _).mp h6 z.1
    refine XE.iconst (x := (-1)) d_Md_open_51 (by decide) ?_
    exact bad d_Md_open_52 nk
  · refine XE.iload_n d_Md_open_9 rfl ?_
    refine XE.iconst (x := nI 0) d_Md_open_10 (by decide) ?_
    refine XE.bipush (x := nI 24) d_Md_open_11 (by decide) ?_
    refine k_Md_45 0 d_Md_open_13 (by omega) (Nat.le_of_ble_eq_true rfl) (Md_in_ok di (nI 0) (nI 24)) (fun r1 w1 hm1 hq1 => ?_)
    rw [hq1.1, hq1.2]
    clear hq1 hm1 r1 w1
    refine XE.if_eq 51 d_Md_open_16 (by decide) (fun h16 => ?_) (fun h16 => ?_)
    · have nk : ¬ opnOk cl di na md ws := fun z => (bI_and _ _).mp h16 z.2.1
      refine XE.iconst (x := (-1)) d_Md_open_51 (by decide) ?_
      exact bad d_Md_open_52 nk
    · refine XE.iload_n d_Md_open_19 rfl ?_
      refine XE.iconst (x := nI 0) d_Md_open_20 (by decide) ?_
      refine XE.bipush (x := nI 15) d_Md_open_21 (by decide) ?_
      refine k_Md_45 0 d_Md_open_23 (by omega) (Nat.le_of_ble_eq_true rfl) (Md_in_ok na (nI 0) (nI 15)) (fun r1 w1 hm1 hq1 => ?_)
      rw [hq1.1, hq1.2]
      clear hq1 hm1 r1 w1
      refine XE.if_eq 51 d_Md_open_26 (by decide) (fun h26 => ?_) (fun h26 => ?_)
      · have nk : ¬ opnOk cl di na md ws := fun z => (bI_and _ _).mp h26 z.2.2.1
        refine XE.iconst (x := (-1)) d_Md_open_51 (by decide) ?_
        exact bad d_Md_open_52 nk
      · refine XE.iload d_Md_open_29 rfl ?_
        refine XE.iconst (x := nI 0) d_Md_open_31 (by decide) ?_
        refine XE.sipush (x := nI 1023) d_Md_open_32 (by decide) ?_
        refine k_Md_45 0 d_Md_open_35 (by omega) (Nat.le_of_ble_eq_true rfl) (Md_in_ok md (nI 0) (nI 1023)) (fun r1 w1 hm1 hq1 => ?_)
        rw [hq1.1, hq1.2]
        clear hq1 hm1 r1 w1
        refine XE.if_eq 51 d_Md_open_38 (by decide) (fun h38 => ?_) (fun h38 => ?_)
        · have nk : ¬ opnOk cl di na md ws := fun z => (bI_and _ _).mp h38 z.2.2.2.1
          refine XE.iconst (x := (-1)) d_Md_open_51 (by decide) ?_
          exact bad d_Md_open_52 nk
        · refine XE.iload d_Md_open_41 rfl ?_
          refine XE.iconst (x := nI 0) d_Md_open_43 (by decide) ?_
          refine XE.iconst (x := nI 2) d_Md_open_44 (by decide) ?_
          refine k_Md_45 0 d_Md_open_45 (by omega) (Nat.le_of_ble_eq_true rfl) (Md_in_ok ws (nI 0) (nI 2)) (fun r1 w1 hm1 hq1 => ?_)
          rw [hq1.1, hq1.2]
          clear hq1 hm1 r1 w1
          refine XE.if_ne 53 d_Md_open_48 (by decide) (fun h48 => ?_) (fun h48 => ?_)
          · refine XE.iload d_Md_open_53 rfl ?_
            refine XE.bipush (x := nI 7) d_Md_open_55 (by decide) ?_
            refine XE.iand d_Md_open_57 rfl ?_
            refine XE.if_eq 73 d_Md_open_58 (by decide) (fun h58 => ?_) (fun h58 => ?_)
            · have nk : ¬ opnOk cl di na md ws := fun z => z.2.2.2.2.2.1 h58
              refine XE.iconst (x := (-1)) d_Md_open_73 (by decide) ?_
              exact bad d_Md_open_74 nk
            · refine XE.iload d_Md_open_61 rfl ?_
              refine XE.sipush (x := nI 516) d_Md_open_63 (by decide) ?_
              refine XE.iand d_Md_open_66 rfl ?_
              refine XE.sipush (x := nI 512) d_Md_open_67 (by decide) ?_
              refine XE.icmp_ne 75 d_Md_open_70 (by decide) (fun h70 => ?_) (fun h70 => ?_)
              · exact good ⟨Classical.not_not.mp (fun z => h6 ((bI_and _ _).mpr z)), Classical.not_not.mp (fun z => h16 ((bI_and _ _).mpr z)), Classical.not_not.mp (fun z => h26 ((bI_and _ _).mpr z)), Classical.not_not.mp (fun z => h38 ((bI_and _ _).mpr z)), Classical.not_not.mp (fun z => h48 ((bI_and _ _).mpr z)), h58, h70⟩
              · have nk : ¬ opnOk cl di na md ws := fun z => z.2.2.2.2.2.2 h70
                refine XE.iconst (x := (-1)) d_Md_open_73 (by decide) ?_
                exact bad d_Md_open_74 nk
          · have nk : ¬ opnOk cl di na md ws := fun z => (bI_and _ _).mp h48 z.2.2.2.2.1
            refine XE.iconst (x := (-1)) d_Md_open_51 (by decide) ?_
            exact bad d_Md_open_52 nk
