/-! the reference: met, read, lock, unlock -/
set_option maxHeartbeats 1000000 in
theorem Md_met_ok {w : WW} {m : MS} {d x f e : Nat} (hM : RM w m) (hB : WB m) (x1 : 1 ≤ x) (x2 : x ≤ mH m) (hf : f ≤ 64) (he : e ≤ 64) (any : Bool) (own : Nat) (ho : own ≤ 2) (hd : 1 ≤ d) :
    E_Md_met d [.inr (7, 1), .inl (nI x), .inl (nI f), .inl (nI e), .inl (bI any), .inl (nI own)] w (fun r w' => r = some (.inl (bI ((mK m).any (metP m x f e any own)))) ∧ w' = w) := by
  refine S_Md_met ?_
  have b1 := hB.1
  have b4 := hB.2.2.2.1
  obtain ⟨-, -, -, -, -, -, -, s11, -, s15, -, -, -, -, -, -, -, l17, -, l19⟩ := hM.1
  have hk : wI w 7 1 14 = nI (mK m).length := hM.2.2.2.2.2.2.2.2.2.2.1
  have hK := hM.2.2.2.2.2.2.2.2.2.2.2.1
  let p := metP m x f e any own
  have loop : ∀ k i l7 l8 l9, i + k = (mK m).length → X_Md_met d 3 [some (.inr (7, 1)), some (.inl (nI x)), some (.inl (nI f)), some (.inl (nI e)), some (.inl (bI any)), some (.inl (nI own)), some (.inl (nI i)), l7, l8, l9] [] w (fun r w' => r = some (.inl (bI (((mK m).drop i).any p))) ∧ w' = w) := by
    intro k
    induction k with
    | zero =>
      intro i _ _ _ h1
      refine XE.iload d_Md_met_3 rfl ?_
      refine XE.aload_n d_Md_met_5 rfl ?_
      refine g_Md_100 d_Md_met_6 (by first | assumption | decide | omega) (by first | assumption | rfl) ?_
      refine XE.icmp_ge 167 d_Md_met_9 (by decide) (fun h9 => ?_) (fun h9 => absurd h9 ((by rw [le_nI (by omega) (by omega)]; omega)))
      refine XE.iconst (x := nI 0) d_Md_met_167 (by decide) ?_
      exact XE.rb d_Md_met_168 (by decide) ⟨by rw [List.drop_of_length_le (by omega)]; rfl, rfl⟩
    | succ k ih =>
      intro i _ _ _ h1
      have hi : i < (mK m).length := by omega
      have hdr : (mK m).drop i = (mK m)[i] :: (mK m).drop (i + 1) := List.drop_eq_getElem_cons hi
      have e1 : p (mK m)[i] = false → ((mK m).drop i).any p = ((mK m).drop (i + 1)).any p := fun h => by rw [hdr, List.any_cons, h]; rfl
      have e2 : p (mK m)[i] = true → ((mK m).drop i).any p = true := fun h => by rw [hdr, List.any_cons, h]; rfl
      obtain ⟨a1, a2, a3, a4⟩ := hB.2.2.2.2.2.2.1 (mK m)[i] (List.getElem_mem hi)
      have n1 := hB.n24 a1 a2
      have n2 := hB.n24 x1 x2
      have k0 : wI w 119 1 (4 * i) = nI ((mK m)[i]).1 := hK i hi 0 (by decide)
      have k1 : wI w 119 1 (4 * i + 1) = nI ((mK m)[i]).2.1 := hK i hi 1 (by decide)
      have k2 : wI w 119 1 (4 * i + 2) = nI ((mK m)[i]).2.2.1 := hK i hi 2 (by decide)
      have k3 : wI w 119 1 (4 * i + 3) = bI ((mK m)[i]).2.2.2 := hK i hi 3 (by decide)
      have px : p (mK m)[i] = (hN (mh m ((mK m)[i]).1) == hN (mh m x) && decide (((mK m)[i]).2.1 < e) && decide (f < ((mK m)[i]).2.2.1) && (if ((mK m)[i]).1 = x ∧ own = 0 then false else if ((mK m)[i]).1 = x ∧ own = 2 then !((mK m)[i]).2.2.2 else any || ((mK m)[i]).2.2.2)) := rfl
      generalize (mK m)[i] = kk at *
      obtain ⟨kh, kf, ke, ka⟩ := kk
      dsimp only at a1 a2 a3 a4 k0 k1 k2 k3 px n1
      have pn : ¬ (hN (mh m kh) = hN (mh m x) ∧ kf < e ∧ f < ke) → p (kh, kf, ke, ka) = false := fun h => by
        rw [px]
        by_cases z1 : hN (mh m kh) = hN (mh m x) <;> by_cases z2 : kf < e <;> by_cases z3 : f < ke <;> simp [z1, z2, z3] <;> exact absurd ⟨z1, z2, z3⟩ h
      have py : (hN (mh m kh) = hN (mh m x) ∧ kf < e ∧ f < ke) → p (kh, kf, ke, ka) = (if kh = x ∧ own = 0 then false else if kh = x ∧ own = 2 then !ka else any || ka) := fun h => by
        rw [px]; simp [h.1, h.2.1, h.2.2]
      have q36 : nI (hN (mh m kh)) = nI (hN (mh m x)) ↔ hN (mh m kh) = hN (mh m x) := eq_nI (by omega) (by omega)
      have q49 : nI e ≤ nI kf ↔ e ≤ kf := le_nI (by omega) (by omega)
      have q62 : nI f < nI ke ↔ f < ke := lt_nI (by omega) (by omega)
      have q76 : nI kh = nI x ↔ kh = x := eq_nI (by omega) (by omega)
      have no : ¬ (hN (mh m kh) = hN (mh m x) ∧ kf < e ∧ f < ke) → ∀ l7 l8 l9, X_Md_met d 3 [some (.inr (7, 1)), some (.inl (nI x)), some (.inl (nI f)), some (.inl (nI e)), some (.inl (bI any)), some (.inl (nI own)), some (.inl (nI (i + 1))), l7, l8, l9] [] w (fun r w' => r = some (.inl (bI (((mK m).drop i).any p))) ∧ w' = w) := fun h l7 l8 l9 => by
        rw [e1 (pn h)]
        exact ih (i + 1) l7 l8 l9 (by omega)
      have hc : ∀ y, 1 ≤ y → y ≤ mH m → E_Md_h 0 [.inr (7, 1), .inl (nI y), .inl (nI 0)] w (fun r w' => r = some (.inl (nI (hN (mh m y)))) ∧ w' = w) := fun y y1 y2 => Md_h_m 0 hM hB y1 y2 (by decide)
      -- behind the tests of place and range: from 86, with 'mine' known
      have end9 : ∀ l7 l8 (c : Bool), p (kh, kf, ke, ka) = c → X_Md_met d 154 [some (.inr (7, 1)), some (.inl (nI x)), some (.inl (nI f)), some (.inl (nI e)), some (.inl (bI any)), some (.inl (nI own)), some (.inl (nI i)), l7, l8, some (.inl (bI c))] [] w (fun r w' => r = some (.inl (bI (((mK m).drop i).any p))) ∧ w' = w) := by
        intro l7 l8 c hc
        refine XE.iload d_Md_met_154 rfl ?_
        refine XE.if_eq 161 d_Md_met_156 (by decide) (fun h156 => ?_) (fun h156 => ?_)
        · have z := e1 (hc.trans ((bI_eq0 c).mp h156))
          have z2 := ih (i + 1) l7 l8 (some (.inl (bI c))) (by omega)
          rw [← z] at z2
          refine XE.iinc d_Md_met_161 rfl (inc_nI _) ?_
          refine XE.goto 3 d_Md_met_164 (by decide) ?_
          exact z2
        · have z := e2 (hc.trans (te c h156))
          refine XE.iconst (x := nI 1) d_Md_met_159 (by decide) ?_
          exact XE.rb d_Md_met_160 (by decide) ⟨by rw [z]; rfl, rfl⟩
      have mid : ∀ (mine : Bool), (mine = true ↔ kh = x) → (hN (mh m kh) = hN (mh m x) ∧ kf < e ∧ f < ke) → ∀ l9, X_Md_met d 86 [some (.inr (7, 1)), some (.inl (nI x)), some (.inl (nI f)), some (.inl (nI e)), some (.inl (bI any)), some (.inl (nI own)), some (.inl (nI i)), some (.inl (nI (4 * i))), some (.inl (bI mine)), l9] [] w (fun r w' => r = some (.inl (bI (((mK m).drop i).any p))) ∧ w' = w) := by
        intro mine hm hin l9
        have pv := py hin
        -- from 111, with the general answer in 9
        have m2 : X_Md_met d 111 [some (.inr (7, 1)), some (.inl (nI x)), some (.inl (nI f)), some (.inl (nI e)), some (.inl (bI any)), some (.inl (nI own)), some (.inl (nI i)), some (.inl (nI (4 * i))), some (.inl (bI mine)), some (.inl (bI (any || ka)))] [] w (fun r w' => r = some (.inl (bI (((mK m).drop i).any p))) ∧ w' = w) := by
          by_cases hk : kh = x
          · have h8 := hm.mpr hk
            subst h8
            by_cases o2 : own = 2
            · subst o2
              have pe : p (kh, kf, ke, ka) = !ka := by rw [pv, if_neg (by omega), if_pos ⟨hk, rfl⟩]
              cases ka with
              | true =>
                refine XE.iload d_Md_met_111 rfl ?_
                refine XE.if_eq 141 d_Md_met_113 (by decide) (fun h113 => absurd h113 ((by decide))) (fun h113 => ?_)
                refine XE.iload d_Md_met_116 rfl ?_
                refine XE.iconst (x := nI 2) d_Md_met_118 (by decide) ?_
                refine XE.icmp_ne 141 d_Md_met_119 (by decide) (fun h119 => absurd h119 ((by decide))) (fun h119 => ?_)
                refine XE.aload_n d_Md_met_122 rfl ?_
                refine g_Md_38 d_Md_met_123 (by first | assumption | decide | omega) (by first | assumption | rfl) ?_
                refine XE.iload d_Md_met_126 rfl ?_
                refine XE.iconst (x := nI 3) d_Md_met_128 (by decide) ?_
                refine XE.iadd d_Md_met_129 (by first | exact nI_add _ _ | rfl) ?_
                refine XE.iald d_Md_met_130 (Or.inr ⟨by decide, rfl⟩) (by first | assumption | decide | omega) (by first | assumption | exact ixn2 (by assumption) (by omega) (by omega)) (by first | assumption | rfl) ?_
                refine XE.if_ne 138 d_Md_met_131 (by decide) (fun h131 => ?_) (fun h131 => absurd h131 ((by decide)))
                refine XE.iconst (x := nI 0) d_Md_met_138 (by decide) ?_
                refine XE.istore d_Md_met_139 (by decide) ?_
                refine XE.iload d_Md_met_141 rfl ?_
                refine XE.if_eq 154 d_Md_met_143 (by decide) (fun h143 => absurd h143 ((by decide))) (fun h143 => ?_)
                refine XE.iload d_Md_met_146 rfl ?_
                refine XE.if_ne 154 d_Md_met_148 (by decide) (fun h148 => ?_) (fun h148 => absurd h148 ((by decide)))
                exact end9 _ _ false pe
              | false =>
                refine XE.iload d_Md_met_111 rfl ?_
                refine XE.if_eq 141 d_Md_met_113 (by decide) (fun h113 => absurd h113 ((by decide))) (fun h113 => ?_)
                refine XE.iload d_Md_met_116 rfl ?_
                refine XE.iconst (x := nI 2) d_Md_met_118 (by decide) ?_
                refine XE.icmp_ne 141 d_Md_met_119 (by decide) (fun h119 => absurd h119 ((by decide))) (fun h119 => ?_)
                refine XE.aload_n d_Md_met_122 rfl ?_
                refine g_Md_38 d_Md_met_123 (by first | assumption | decide | omega) (by first | assumption | rfl) ?_
                refine XE.iload d_Md_met_126 rfl ?_
                refine XE.iconst (x := nI 3) d_Md_met_128 (by decide) ?_
                refine XE.iadd d_Md_met_129 (by first | exact nI_add _ _ | rfl) ?_
                refine XE.iald d_Md_met_130 (Or.inr ⟨by decide, rfl⟩) (by first | assumption | decide | omega) (by first | assumption | exact ixn2 (by assumption) (by omega) (by omega)) (by first | assumption | rfl) ?_
                refine XE.if_ne 138 d_Md_met_131 (by decide) (fun h131 => absurd h131 ((by decide))) (fun h131 => ?_)
                refine XE.iconst (x := nI 1) d_Md_met_134 (by decide) ?_
                refine XE.goto 139 d_Md_met_135 (by decide) ?_
                refine XE.istore d_Md_met_139 (by decide) ?_
                refine XE.iload d_Md_met_141 rfl ?_
                refine XE.if_eq 154 d_Md_met_143 (by decide) (fun h143 => absurd h143 ((by decide))) (fun h143 => ?_)
                refine XE.iload d_Md_met_146 rfl ?_
                refine XE.if_ne 154 d_Md_met_148 (by decide) (fun h148 => ?_) (fun h148 => absurd h148 ((by decide)))
                exact end9 _ _ true pe
            · by_cases o0 : own = 0
              · subst o0
                have pe : p (kh, kf, ke, ka) = false := by rw [pv, if_pos ⟨hk, rfl⟩]
                refine XE.iload d_Md_met_111 rfl ?_
                refine XE.if_eq 141 d_Md_met_113 (by decide) (fun h113 => absurd h113 ((by decide))) (fun h113 => ?_)
                refine XE.iload d_Md_met_116 rfl ?_
                refine XE.iconst (x := nI 2) d_Md_met_118 (by decide) ?_
                refine XE.icmp_ne 141 d_Md_met_119 (by decide) (fun h119 => ?_) (fun h119 => absurd h119 ((by decide)))
                refine XE.iload d_Md_met_141 rfl ?_
                refine XE.if_eq 154 d_Md_met_143 (by decide) (fun h143 => absurd h143 ((by decide))) (fun h143 => ?_)
                refine XE.iload d_Md_met_146 rfl ?_
                refine XE.if_ne 154 d_Md_met_148 (by decide) (fun h148 => absurd h148 ((by decide))) (fun h148 => ?_)
                refine XE.iconst (x := nI 0) d_Md_met_151 (by decide) ?_
                refine XE.istore d_Md_met_152 (by decide) ?_
                exact end9 _ _ false pe
              · have o1 : own = 1 := by omega
                subst o1
                have pe : p (kh, kf, ke, ka) = (any || ka) := by rw [pv, if_neg (by omega), if_neg (by omega)]
                refine XE.iload d_Md_met_111 rfl ?_
                refine XE.if_eq 141 d_Md_met_113 (by decide) (fun h113 => absurd h113 ((by decide))) (fun h113 => ?_)
                refine XE.iload d_Md_met_116 rfl ?_
                refine XE.iconst (x := nI 2) d_Md_met_118 (by decide) ?_
                refine XE.icmp_ne 141 d_Md_met_119 (by decide) (fun h119 => ?_) (fun h119 => absurd h119 ((by decide)))
                refine XE.iload d_Md_met_141 rfl ?_
                refine XE.if_eq 154 d_Md_met_143 (by decide) (fun h143 => absurd h143 ((by decide))) (fun h143 => ?_)
                refine XE.iload d_Md_met_146 rfl ?_
                refine XE.if_ne 154 d_Md_met_148 (by decide) (fun h148 => ?_) (fun h148 => absurd h148 ((by decide)))
                exact end9 _ _ _ pe
          · have h8 : mine = false := by
              cases mine with
              | false => rfl
              | true => exact absurd (hm.mp rfl) hk
            subst h8
            have pe : p (kh, kf, ke, ka) = (any || ka) := by rw [pv, if_neg (fun z => hk z.1), if_neg (fun z => hk z.1)]
            refine XE.iload d_Md_met_111 rfl ?_
            refine XE.if_eq 141 d_Md_met_113 (by decide) (fun h113 => ?_) (fun h113 => absurd h113 ((by decide)))
            refine XE.iload d_Md_met_141 rfl ?_
            refine XE.if_eq 154 d_Md_met_143 (by decide) (fun h143 => ?_) (fun h143 => absurd h143 ((by decide)))
            exact end9 _ _ _ pe
        refine XE.iload d_Md_met_86 rfl ?_
        refine XE.if_ne 104 d_Md_met_88 (by decide) (fun h88 => ?_) (fun h88 => ?_)
        · have z : (any || ka) = true := by rw [te _ h88]; rfl
          refine XE.iconst (x := nI 1) d_Md_met_104 (by decide) ?_
          refine XE.goto 109 d_Md_met_105 (by decide) ?_
          refine XE.istore d_Md_met_109 (by decide) ?_
          rw [z] at m2
          exact m2
        · refine XE.aload_n d_Md_met_91 rfl ?_
          refine g_Md_38 d_Md_met_92 (by first | assumption | decide | omega) (by first | assumption | rfl) ?_
          refine XE.iload d_Md_met_95 rfl ?_
          refine XE.iconst (x := nI 3) d_Md_met_97 (by decide) ?_
          refine XE.iadd d_Md_met_98 (by first | exact nI_add _ _ | rfl) ?_
          refine XE.iald d_Md_met_99 (Or.inr ⟨by decide, rfl⟩) (by first | assumption | decide | omega) (by first | assumption | exact ixn2 (by assumption) (by omega) (by omega)) (by first | assumption | rfl) ?_
          refine XE.iconst (x := nI 1) d_Md_met_100 (by decide) ?_
          refine XE.icmp_ne 108 d_Md_met_101 (by decide) (fun h101 => ?_) (fun h101 => ?_)
          · have z : (any || ka) = false := by rw [(bI_eq0 _).mp h88]; cases ka with | false => rfl | true => exact absurd rfl h101
            refine XE.iconst (x := nI 0) d_Md_met_108 (by decide) ?_
            refine XE.istore d_Md_met_109 (by decide) ?_
            rw [z] at m2
            exact m2
          · have z : (any || ka) = true := by rw [(bI_eq1 _).mp h101]; exact Bool.or_true _
            refine XE.iconst (x := nI 1) d_Md_met_104 (by decide) ?_
            refine XE.goto 109 d_Md_met_105 (by decide) ?_
            refine XE.istore d_Md_met_109 (by decide) ?_
            rw [z] at m2
            exact m2
      refine XE.iload d_Md_met_3 rfl ?_
      refine XE.aload_n d_Md_met_5 rfl ?_
      refine g_Md_100 d_Md_met_6 (by first | assumption | decide | omega) (by first | assumption | rfl) ?_
      refine XE.icmp_ge 167 d_Md_met_9 (by decide) (fun h9 => absurd h9 ((by rw [le_nI (by omega) (by omega)]; omega))) (fun h9 => ?_)
      refine XE.iconst (x := nI 4) d_Md_met_12 (by decide) ?_
      refine XE.iload d_Md_met_13 rfl ?_
      refine XE.imul d_Md_met_15 (by first | exact pk_mul _ _ | rfl) ?_
      refine XE.istore d_Md_met_16 (by decide) ?_
      refine XE.aload_n d_Md_met_18 rfl ?_
      refine XE.aload_n d_Md_met_19 rfl ?_
      refine g_Md_38 d_Md_met_20 (by first | assumption | decide | omega) (by first | assumption | rfl) ?_
      refine XE.iload d_Md_met_23 rfl ?_
      refine XE.iald d_Md_met_25 (Or.inr ⟨by decide, rfl⟩) (by first | assumption | decide | omega) (by first | assumption | exact ixn2 (by assumption) (by omega) (by omega)) (by first | assumption | rfl) ?_
      refine XE.iconst (x := nI 0) d_Md_met_26 (by decide) ?_
      refine k_Md_49 0 d_Md_met_27 (by omega) (Nat.le_of_ble_eq_true rfl) (by first | assumption | decide | omega) (hc kh a1 a2) (fun r1 w1 hm1 hq1 => ?_)
      rw [hq1.1, hq1.2]
      clear hq1 hm1 r1 w1
      refine XE.aload_n d_Md_met_30 rfl ?_
      refine XE.iload_n d_Md_met_31 rfl ?_
      refine XE.iconst (x := nI 0) d_Md_met_32 (by decide) ?_
      refine k_Md_49 0 d_Md_met_33 (by omega) (Nat.le_of_ble_eq_true rfl) (by first | assumption | decide | omega) (hc x x1 x2) (fun r1 w1 hm1 hq1 => ?_)
      rw [hq1.1, hq1.2]
      clear hq1 hm1 r1 w1
      refine XE.icmp_ne 161 d_Md_met_36 (by decide) (fun h36 => ?_) (fun h36 => ?_)
      · have z := no (fun y => h36 (q36.mpr y.1))
        refine XE.iinc d_Md_met_161 rfl (inc_nI _) ?_
        refine XE.goto 3 d_Md_met_164 (by decide) ?_
        exact z _ _ _
      · refine XE.aload_n d_Md_met_39 rfl ?_
        refine g_Md_38 d_Md_met_40 (by first | assumption | decide | omega) (by first | assumption | rfl) ?_
        refine XE.iload d_Md_met_43 rfl ?_
        refine XE.iconst (x := nI 1) d_Md_met_45 (by decide) ?_
        refine XE.iadd d_Md_met_46 (by first | exact nI_add _ _ | rfl) ?_
        refine XE.iald d_Md_met_47 (Or.inr ⟨by decide, rfl⟩) (by first | assumption | decide | omega) (by first | assumption | exact ixn2 (by assumption) (by omega) (by omega)) (by first | assumption | rfl) ?_
        refine XE.iload_n d_Md_met_48 rfl ?_
        refine XE.icmp_ge 161 d_Md_met_49 (by decide) (fun h49 => ?_) (fun h49 => ?_)
        · have z := no (fun y => by have := q49.mp h49; omega)
          refine XE.iinc d_Md_met_161 rfl (inc_nI _) ?_
          refine XE.goto 3 d_Md_met_164 (by decide) ?_
          exact z _ _ _
        · refine XE.aload_n d_Md_met_52 rfl ?_
          refine g_Md_38 d_Md_met_53 (by first | assumption | decide | omega) (by first | assumption | rfl) ?_
          refine XE.iload d_Md_met_56 rfl ?_
          refine XE.iconst (x := nI 2) d_Md_met_58 (by decide) ?_
          refine XE.iadd d_Md_met_59 (by first | exact nI_add _ _ | rfl) ?_
          refine XE.iald d_Md_met_60 (Or.inr ⟨by decide, rfl⟩) (by first | assumption | decide | omega) (by first | assumption | exact ixn2 (by assumption) (by omega) (by omega)) (by first | assumption | rfl) ?_
          refine XE.iload_n d_Md_met_61 rfl ?_
          refine XE.icmp_gt 68 d_Md_met_62 (by decide) (fun h62 => ?_) (fun h62 => ?_)
          · refine XE.aload_n d_Md_met_68 rfl ?_
            refine g_Md_38 d_Md_met_69 (by first | assumption | decide | omega) (by first | assumption | rfl) ?_
            refine XE.iload d_Md_met_72 rfl ?_
            refine XE.iald d_Md_met_74 (Or.inr ⟨by decide, rfl⟩) (by first | assumption | decide | omega) (by first | assumption | exact ixn2 (by assumption) (by omega) (by omega)) (by first | assumption | rfl) ?_
            refine XE.iload_n d_Md_met_75 rfl ?_
            refine XE.icmp_ne 83 d_Md_met_76 (by decide) (fun h76 => ?_) (fun h76 => ?_)
            · have zz := mid false (by constructor; intro y; cases y; intro y; exact absurd (q76.mpr y) h76) ⟨q36.mp h36, by have : ¬ e ≤ kf := fun y => h49 (q49.mpr y); omega, q62.mp h62⟩
              refine XE.iconst (x := nI 0) d_Md_met_83 (by decide) ?_
              refine XE.istore d_Md_met_84 (by decide) ?_
              exact zz _
            · have zz := mid true (by constructor; intro _; exact q76.mp h76; intro _; rfl) ⟨q36.mp h36, by have : ¬ e ≤ kf := fun y => h49 (q49.mpr y); omega, q62.mp h62⟩
              refine XE.iconst (x := nI 1) d_Md_met_79 (by decide) ?_
              refine XE.goto 84 d_Md_met_80 (by decide) ?_
              refine XE.istore d_Md_met_84 (by decide) ?_
              exact zz _
          · have z := no (fun y => h62 (q62.mpr y.2.2))
            refine XE.goto 161 d_Md_met_65 (by decide) ?_
            refine XE.iinc d_Md_met_161 rfl (inc_nI _) ?_
            refine XE.goto 3 d_Md_met_164 (by decide) ?_
            exact z _ _ _
  refine XE.iconst (x := nI 0) d_Md_met_0 (by decide) ?_
  refine XE.istore d_Md_met_1 (by decide) ?_
  exact loop _ 0 _ _ _ (Nat.zero_add _)
