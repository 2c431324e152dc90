/-! the reference: close -/
def clK (m : MS) (x : Nat) : MS := setK m ((mK m).filter (fun k => !(k.1 == x)))
def clH (m : MS) (x : Nat) : MS := setH m (uf (mh m) x (hsO (mh m x) false))
def bareM (m : MS) (n : Nat) : Bool := !tF (mT m) n || ins (mT m) (nI n) == 0
def clD (m : MS) (x : Nat) : MS := if hR (mh m x) = true ∧ bareM m (hN (mh m x)) = true then setD m (uf (mM m) (hN (mh m x)) true) else m
def clR (m : MS) (n : Nat) : MS := if mM m n = true ∧ cntO m n = 0 then (if bareM m n = true then noteM (setD m (uf (mM m) n false)) (2, n, 0, 0, 0) else setD m (uf (mM m) n false)) else m
def clT (m : MS) (x : Nat) : MS := if hG (mh m x) = nI 3 then tryM m else m
/-- all but the trying again -/
def clA (m : MS) (x : Nat) : MS := clR (clD (clH (clK m x) x) x) (hN (mh m x))
def clM (m : MS) (v : Int32) : Int32 × MS := if hOf m v = 0 then (-1, m) else (nI (nOpen (clT (clA m (hOf m v)) (hOf m v))), clT (clA m (hOf m v)) (hOf m v))
theorem cntO_no {m : MS} {n : Nat} (h : cntO m n = 0) {x : Nat} (h1 : 1 ≤ x) (h2 : x ≤ mH m) (h3 : hO (mh m x) = true) : hN (mh m x) ≠ n := fun e => by
  have := cnt_mem (p := fun x => hO (mh m x) && hN (mh m x) == n) (r := x) (by simp [h3, e]) (mH m) 1 h1 (by omega)
  unfold cntO at h
  omega
theorem tT_app2 (n : Nat) (a b e : Int32) (t : Tb) (x : Nat) : tT (app (2, n, a, b, e) t) x = if x = n then false else tT t x := rfl
theorem WB.rem {m : MS} (hB : WB m) {n : Nat} {a b e : Int32} (hc : cntO m n = 0) (h11 : mN m + 1 ≤ 1100) : WB (noteM m (2, n, a, b, e)) := by
  have hcn := @cntO_no m n hc
  obtain ⟨b1, b2, b3, b4, b5, b6, b7, b8, b9, b10, b11, b12⟩ := hB
  refine ⟨b1, b2, h11, b4, ?_, b6, b7, b8, ?_, b10, ?_, ?_⟩
  · rw [mT_note]; exact b5
  · intro x h1 h2 h3
    have h4 : hN (mh (noteM m (2, n, a, b, e)) x) ≠ n := hcn h1 h2 h3
    rw [mT_note, tT_app2, if_neg h4]
    exact b9 x h1 h2 h3
  · show (if mN m + 1 - mU m = 6 then mN m + 1 else mU m) ≤ mN m + 1
    split <;> omega
  · show mN m + 1 ≤ (if mN m + 1 - mU m = 6 then mN m + 1 else mU m) + 5
    split <;> omega
theorem WB.kK {m : MS} (hB : WB m) (x : Nat) : WB (clK m x) := hB.setk (Nat.le_trans (List.length_filter_le _ _) hB.2.2.2.1) (fun k hk => (List.mem_filter.mp hk).1)
theorem WB.kH {m : MS} (hB : WB m) (x : Nat) : WB (clH m x) := hB.seth (fun y _ _ => by
  by_cases h : y = x
  · subst h; rw [uf_s]; exact ⟨rfl, fun z => by cases z⟩
  · rw [uf_n _ _ h]; exact ⟨rfl, id⟩)
theorem WB.kD {m : MS} (hB : WB m) (x : Nat) : WB (clD m x) := by
  unfold clD
  split
  · exact hB.setd _
  · exact hB
theorem WB.kR {m : MS} (hB : WB m) (n : Nat) (h11 : mN m + 1 ≤ 1100) : WB (clR m n) := by
  unfold clR
  split
  · rename_i h
    split
    · exact WB.rem (hB.setd _) h.2 h11
    · exact hB.setd _
  · exact hB
theorem BD.kA {c : Nat} {m : MS} (hD : BD c m) (hc : c + 1 ≤ 580) (x : Nat) : BD (c + 1) (clA m x) := by
  obtain ⟨d1, d2, d3⟩ := hD
  unfold clA clR
  split
  · split
    · refine ⟨?_, ?_, hc⟩
      · unfold clD; split <;> exact d1
      · unfold clD; split <;> (show mN m + 1 ≤ mH m + (c + 1); omega)
    · refine ⟨?_, ?_, hc⟩
      · unfold clD; split <;> exact d1
      · unfold clD; split <;> (show mN m ≤ mH m + (c + 1); omega)
  · refine ⟨?_, ?_, hc⟩
    · unfold clD; split <;> exact d1
    · unfold clD; split <;> (show mN m ≤ mH m + (c + 1); omega)
theorem mh_clA {m : MS} {x : Nat} : mh (clA m x) = uf (mh m) x (hsO (mh m x) false) := by
  unfold clA clR
  split
  · split
    · unfold clD; split <;> rfl
    · unfold clD; split <;> rfl
  · unfold clD; split <;> rfl
set_option maxHeartbeats 2000000 in
theorem Md_close_ok {w : WW} {m : MS} {c d : Nat} (hM : RM w m) (hB : WB m) (hD : BD c m) (hc : c + 1 ≤ 580) (hd : 5 ≤ d) (v : Int32) : E_Md_close d [.inr (7, 1), .inl v] w (fun r w' => r = some (.inl (clM m v).1) ∧ RM w' (clM m v).2 ∧ FM w w') := by
  refine S_Md_close ?_
  have b1 := hB.1
  have hsh := Md_shut_ok (d := 2) hM hB v (by omega)
  by_cases hx : hOf m v = 0
  · have e : clM m v = (-1, m) := if_pos hx
    refine XE.aload_n d_Md_close_0 rfl ?_
    refine XE.iload_n d_Md_close_1 rfl ?_
    refine k_Md_94 2 d_Md_close_2 (by omega) (Nat.le_of_ble_eq_true rfl) (by first | assumption | decide | omega) hsh (fun r1 w1 hm1 hq1 => ?_)
    rw [hq1.1, hq1.2]
    clear hq1 hm1 r1 w1
    refine XE.if_eq 10 d_Md_close_5 (by decide) (fun h5 => absurd h5 ((by rw [hx]; decide))) (fun h5 => ?_)
    refine XE.iconst (x := (-1)) d_Md_close_8 (by decide) ?_
    exact XE.ri d_Md_close_9 ⟨by rw [e], by rw [e]; exact hM, FM.rf⟩
  · obtain ⟨ev, x1, x2, x3⟩ := hOf_nz hB hx
    generalize hX : hOf m v = x at *
    subst ev
    have t0 : (x == 0) = false := by simp [hx]
    have e : clM m (nI x) = (nI (nOpen (clT (clA m x) x)), clT (clA m x) x) := by unfold clM; rw [hX, if_neg hx]
    have b4 := hB.2.2.2.1
    have n24 := hB.n24 x1 x2
    have ht := hB.op x1 x2 x3
    -- the end: from 145 on
    have tail3 : ∀ w1 ls3, RM w1 (clA m x) → FM w w1 → X_Md_close d 145 [some (.inr (7, 1)), some (.inl (nI x)), some (.inl (nI (hN (mh m x)))), ls3] [] w1 (fun r w' => r = some (.inl (clM m (nI x)).1) ∧ RM w' (clM m (nI x)).2 ∧ FM w w') := by
      intro w1 ls3 hM1 hF1
      have hB1 : WB (clA m x) := (((hB.kK x).kH x).kD x).kR _ (by unfold clD; split <;> (show mN m + 1 ≤ 1100; have := hD.2.1; have := hD.2.2; omega))
      have hD1 := hD.kA hc x
      have eh : mh (clA m x) x = hsO (mh m x) false := by rw [mh_clA, uf_s]
      have eH : mH (clA m x) = mH m := by
        unfold clA clR
        split
        · split
          · unfold clD; split <;> rfl
          · unfold clD; split <;> rfl
        · unfold clD; split <;> rfl
      have h3 : E_Md_h 0 [.inr (7, 1), .inl (nI x), .inl (nI 3)] w1 (fun r w' => r = some (.inl (hG (mh m x))) ∧ w' = w1) := by
        have := Md_h_m (d := 0) 3 hM1 hB1 x1 (by rw [eH]; exact x2) (by decide)
        rw [eh] at this
        exact this
      have eg : hG (mh (clA m x) x) = hG (mh m x) := by rw [eh]; rfl
      have e1 : hG (mh m x) = nI 3 → clT (clA m x) x = tryM (clA m x) := fun h => by unfold clT; rw [eg, if_pos h]
      have e2 : ¬ hG (mh m x) = nI 3 → clT (clA m x) x = clA m x := fun h => by unfold clT; rw [eg, if_neg h]
      refine XE.aload_n d_Md_close_145 rfl ?_
      refine XE.iload_n d_Md_close_146 rfl ?_
      refine XE.iconst (x := nI 3) d_Md_close_147 (by decide) ?_
      refine k_Md_49 0 d_Md_close_148 (by omega) (Nat.le_of_ble_eq_true rfl) (by first | assumption | decide | omega) h3 (fun r1 w1 hm1 hq1 => ?_)
      rw [hq1.1, hq1.2]
      clear hq1 hm1 r1 w1
      refine XE.iconst (x := nI 3) d_Md_close_151 (by decide) ?_
      refine XE.icmp_ne 159 d_Md_close_152 (by decide) (fun h152 => ?_) (fun h152 => ?_)
      · have q := e2 h152
        have hop := Md_openOf_all (d := 1) hM1 hB1 (by omega)
        rw [← q] at hop
        have fi : RM w1 (clT (clA m x) x) ∧ FM w w1 := ⟨by rw [q]; exact hM1, hF1⟩
        refine XE.aload_n d_Md_close_159 rfl ?_
        refine XE.iconst (x := (-1)) d_Md_close_160 (by decide) ?_
        refine k_Md_66 1 d_Md_close_161 (by omega) (Nat.le_of_ble_eq_true rfl) (by first | assumption | decide | omega) hop (fun r1 w1 hm1 hq1 => ?_)
        rw [hq1.1, hq1.2]
        clear hq1 hm1 r1 w1
        exact XE.ri d_Md_close_164 ⟨by rw [e], by rw [e]; exact fi.1, fi.2⟩
      · have q := e1 h152
        have tr := try_all hB1 hD1
        refine XE.aload_n d_Md_close_155 rfl ?_
        refine k_Md_97 4 d_Md_close_156 (by omega) (Nat.le_of_ble_eq_true rfl) (by first | assumption | decide | omega) (Md_tryAgain_ok hM1 hB1 hD1 (by omega)) (fun y1 w2 hm1 hq1 => ?_)
        obtain ⟨rfl, hM2, hF2⟩ := hq1
        have hop := Md_openOf_all (d := 1) hM2 tr.1 (by omega)
        rw [← q] at hop
        have fi : RM w2 (clT (clA m x) x) ∧ FM w w2 := ⟨by rw [q]; exact hM2, hF1.tr hF2⟩
        refine XE.aload_n d_Md_close_159 rfl ?_
        refine XE.iconst (x := (-1)) d_Md_close_160 (by decide) ?_
        refine k_Md_66 1 d_Md_close_161 (by omega) (Nat.le_of_ble_eq_true rfl) (by first | assumption | decide | omega) hop (fun r1 w1 hm1 hq1 => ?_)
        rw [hq1.1, hq1.2]
        clear hq1 hm1 r1 w1
        exact XE.ri d_Md_close_164 ⟨by rw [e], by rw [e]; exact fi.1, fi.2⟩
    generalize hn0 : hN (mh m x) = n at *
    let m2 : MS := clH (clK m x) x
    let m3 : MS := clD m2 x
    have hB2 : WB m2 := (hB.kK x).kH x
    have hB3 : WB m3 := hB2.kD x
    have hx2 : mh m2 x = hsO (mh m x) false := uf_s _ _ _
    have eA : clA m x = clR m3 n := by unfold clA; rw [hn0]
    have eT : mT m3 = mT m := by
      show mT (clD m2 x) = mT m
      unfold clD; split <;> rfl
    have eN : mN m3 = mN m := by
      show mN (clD m2 x) = mN m
      unfold clD; split <;> rfl
    have eU : mU m3 = mU m := by
      show mU (clD m2 x) = mU m
      unfold clD; split <;> rfl
    have hub : mN m + 1 ≤ 1100 := by have := hD.2.1; have := hD.2.2; omega
    have eb : bareM m3 n = bareM m n := by unfold bareM; rw [eT]
    have te : ∀ b : Bool, ¬ bI b = 0 → b = true := fun b h => (bI_eq1 b).mp ((bI_01 b).resolve_left h)
    -- from 108: the doomed node goes, if it has no open handle
    have tail2 : ∀ w1, RM w1 m3 → FM w w1 → X_Md_close d 108 [some (.inr (7, 1)), some (.inl (nI x)), some (.inl (nI n)), some (.inl (bI (bareM m n)))] [] w1 (fun r w' => r = some (.inl (clM m (nI x)).1) ∧ RM w' (clM m (nI x)).2 ∧ FM w w') := by
      intro w1 hM1 hF1
      have z8 := hM1.1.2.2.2.2.2.1
      have k5 := hM1.1.2.2.2.2.2.2.2.2.2.2.2.2.2.2.2.1
      have hdn : wI w1 115 1 n = bI (mM m3 n) := hM1.2.2.2.2.2.1 n (by omega)
      have hcn : cntO m3 n ≤ 1000000 := Nat.le_trans List.countP_le_length (by rw [List.length_range']; have := hB3.1; omega)
      let m4 : MS := setD m3 (uf (mM m3) n false)
      have hM4 : RM (sI w1 115 1 n (nI 0)) m4 := hM1.dset n false
      have r0 : mM m3 n = true → cntO m3 n = 0 → bareM m n = true → clA m x = noteM m4 (2, n, 0, 0, 0) := fun a b c => by rw [eA]; unfold clR; rw [if_pos ⟨a, b⟩, eb, if_pos c]
      have r1 : mM m3 n = true → cntO m3 n = 0 → ¬ bareM m n = true → clA m x = m4 := fun a b c => by rw [eA]; unfold clR; rw [if_pos ⟨a, b⟩, eb, if_neg c]
      have r2 : ¬ (mM m3 n = true ∧ cntO m3 n = 0) → clA m x = m3 := fun a => by rw [eA]; unfold clR; rw [if_neg a]
      have hnt : E_Md_note 2 [.inr (7, 1), .inl (nI 2), .inl (nI n), .inl (nI 0), .inl (nI 0), .inl (nI 0)] (sI w1 115 1 n (nI 0)) (fun r w' => r = none ∧ RM w' (noteM m4 (2, n, 0, 0, 0)) ∧ FM (sI w1 115 1 n (nI 0)) w') :=
        Md_note_ok (m := m4) hM4 (by show mN m3 ≤ 1100; rw [eN]; omega) hB3.un.1 (by decide) ⟨n24, Or.inr (Or.inl rfl)⟩ (by omega)
      refine XE.aload_n d_Md_close_108 rfl ?_
      refine g_Md_26 d_Md_close_109 (by first | assumption | decide | omega) (by first | assumption | rfl) ?_
      refine XE.iload_n d_Md_close_112 rfl ?_
      refine XE.zald d_Md_close_113 (by decide) rfl (by first | assumption | decide | omega) (by first | assumption | exact ixn2 (by assumption) (by omega) (by omega)) (by first | assumption | rfl) ?_
      refine XE.if_eq 145 d_Md_close_114 (by decide) (fun h114 => ?_) (fun h114 => ?_)
      · have q := r2 (fun z => by rw [z.1] at h114; exact absurd h114 (by decide))
        have hT3 := tail3 w1 (some (.inl (bI (bareM m n)))) (by rw [q]; exact hM1) hF1
        exact hT3
      · refine XE.aload_n d_Md_close_117 rfl ?_
        refine XE.iload_n d_Md_close_118 rfl ?_
        refine k_Md_66 1 d_Md_close_119 (by omega) (Nat.le_of_ble_eq_true rfl) (by first | assumption | decide | omega) (Md_openOf_n hM1 hB3 n24 (by omega)) (fun r1 w1 hm1 hq1 => ?_)
        rw [hq1.1, hq1.2]
        clear hq1 hm1 r1 w1
        refine XE.if_ne 145 d_Md_close_122 (by decide) (fun h122 => ?_) (fun h122 => ?_)
        · have q := r2 (fun z => h122 (by rw [z.2]; rfl))
          have hT3 := tail3 w1 (some (.inl (bI (bareM m n)))) (by rw [q]; exact hM1) hF1
          exact hT3
        · have q0 : cntO m3 n = 0 := (eq_nI (b := 0) hcn (by omega)).mp h122
          refine XE.aload_n d_Md_close_125 rfl ?_
          refine g_Md_26 d_Md_close_126 (by first | assumption | decide | omega) (by first | assumption | rfl) ?_
          refine XE.iload_n d_Md_close_129 rfl ?_
          refine XE.iconst (x := nI 0) d_Md_close_130 (by decide) ?_
          refine XE.zast d_Md_close_131 (by decide) rfl (by first | assumption | decide) (by first | assumption | decide | omega) (by first | assumption | exact ixn2 (by assumption) (by omega) (by omega)) ?_
          refine XE.iload_n d_Md_close_132 rfl ?_
          refine XE.if_eq 145 d_Md_close_133 (by decide) (fun h133 => ?_) (fun h133 => ?_)
          · have q := r1 (te _ h114) q0 (by rw [(bI_eq0 _).mp h133]; decide)
            have hT3 := tail3 (sI w1 115 1 n (nI 0)) (some (.inl (bI (bareM m n)))) (by rw [q]; exact hM4) (hF1.tr (FM.sI (Or.inr (by decide))))
            exact hT3
          · refine XE.aload_n d_Md_close_136 rfl ?_
            refine XE.iconst (x := nI 2) d_Md_close_137 (by decide) ?_
            refine XE.iload_n d_Md_close_138 rfl ?_
            refine XE.iconst (x := nI 0) d_Md_close_139 (by decide) ?_
            refine XE.iconst (x := nI 0) d_Md_close_140 (by decide) ?_
            refine XE.iconst (x := nI 0) d_Md_close_141 (by decide) ?_
            refine k_Md_73 2 d_Md_close_142 (by omega) (Nat.le_of_ble_eq_true rfl) (by first | assumption | decide | omega) hnt (fun y1 w2 hm1 hq1 => ?_)
            obtain ⟨rfl, hM5, hF5⟩ := hq1
            have hT3 := tail3 w2 (some (.inl (bI (bareM m n)))) (by rw [r0 (te _ h114) q0 (te _ h133)]; exact hM5) ((hF1.tr (FM.sI (Or.inr (by decide)))).tr hF5)
            exact hT3
    -- from 51: the handle is shut
    have tail1 : ∀ w1 ls3, RM w1 (clK m x) → FM w w1 → X_Md_close d 51 [some (.inr (7, 1)), some (.inl (nI x)), some (.inl (nI n)), ls3] [] w1 (fun r w' => r = some (.inl (clM m (nI x)).1) ∧ RM w' (clM m (nI x)).2 ∧ FM w w') := by
      intro w1 ls3 hM1 hF1
      have s11 := hM1.1.2.2.2.2.2.2.2.1
      have l7 := hM1.1.2.2.2.2.2.2.2.2.2.2.2.2.2.2.2.2.2.1
      have hM2 : RM (sI w1 117 1 (7 * x + 6) (nI 0)) m2 := hM1.oset x1 false
      have hF2 : FM w (sI w1 117 1 (7 * x + 6) (nI 0)) := hF1.tr (FM.sI (Or.inr (by decide)))
      have s5 := hM2.1.2.2.1
      have s8 := hM2.1.2.2.2.2.2.1
      have l2 := hM2.1.2.2.2.2.2.2.2.2.2.2.2.2.1
      have l5 := hM2.1.2.2.2.2.2.2.2.2.2.2.2.2.2.2.2.1
      have hfo : wI (sI w1 117 1 (7 * x + 6) (nI 0)) 112 1 n = bI (tF (mT m) n) := (hM2.2.2.2.2.1.2.2 n n24 ht).1
      have hin : E_Md_inside 0 [.inr (7, 1), .inl (nI n)] (sI w1 117 1 (7 * x + 6) (nI 0)) (fun r w' => r = some (.inl (nI (ins (mT m) (nI n)))) ∧ w' = sI w1 117 1 (7 * x + 6) (nI 0)) := Md_inside_ok hM2.1 hM2.2.2.2.2.1 hB.g24 (nI n)
      have h5 : E_Md_h 0 [.inr (7, 1), .inl (nI x), .inl (nI 5)] (sI w1 117 1 (7 * x + 6) (nI 0)) (fun r w' => r = some (.inl (bI (hR (mh m x)))) ∧ w' = sI w1 117 1 (7 * x + 6) (nI 0)) := by
        have := Md_h_m (d := 0) 5 hM2 hB2 x1 x2 (by decide)
        rw [hx2] at this
        exact this
      have hns : ins (mT m) (nI n) ≤ 1000000 := Nat.le_trans List.countP_le_length (by rw [List.length_range']; have := hB.g24; omega)
      have bt : (bI (tF (mT m) n) = 0 → nI 1 = bI (bareM m n)) ∧ (¬ bI (tF (mT m) n) = 0 → ¬ nI (ins (mT m) (nI n)) = 0 → nI 0 = bI (bareM m n)) ∧ (nI (ins (mT m) (nI n)) = 0 → nI 1 = bI (bareM m n)) := by
        refine ⟨fun h => ?_, fun h h2 => ?_, fun h => ?_⟩
        · unfold bareM; rw [(bI_eq0 _).mp h]; rfl
        · unfold bareM
          rw [te _ h]
          have : ¬ ins (mT m) (nI n) = 0 := fun z => h2 (by rw [z]; rfl)
          have t2 : (ins (mT m) (nI n) == 0) = false := by simp [this]
          rw [t2]; rfl
        · unfold bareM
          rw [(eq_nI (b := 0) hns (by omega)).mp h]
          simp; rfl
      have dd : ∀ _ : Bool, hN (mh m2 x) = n ∧ bareM m2 n = bareM m n ∧ hR (mh m2 x) = hR (mh m x) := fun _ => ⟨by rw [hx2]; exact hn0, rfl, by rw [hx2]; rfl⟩
      have d1 : hR (mh m x) = true → bareM m n = true → m3 = setD m2 (uf (mM m2) n true) := fun a b => by
        show clD m2 x = _
        unfold clD; rw [(dd true).1, (dd true).2.2, (dd true).2.1, if_pos ⟨a, b⟩]
      have d0 : ¬ (hR (mh m x) = true ∧ bareM m n = true) → m3 = m2 := fun a => by
        show clD m2 x = _
        unfold clD; rw [(dd true).1, (dd true).2.2, (dd true).2.1, if_neg a]
      have mid : X_Md_close d 87 [some (.inr (7, 1)), some (.inl (nI x)), some (.inl (nI n)), some (.inl (bI (bareM m n)))] [] (sI w1 117 1 (7 * x + 6) (nI 0)) (fun r w' => r = some (.inl (clM m (nI x)).1) ∧ RM w' (clM m (nI x)).2 ∧ FM w w') := by
        refine XE.aload_n d_Md_close_87 rfl ?_
        refine XE.iload_n d_Md_close_88 rfl ?_
        refine XE.iconst (x := nI 5) d_Md_close_89 (by decide) ?_
        refine k_Md_49 0 d_Md_close_90 (by omega) (Nat.le_of_ble_eq_true rfl) (by first | assumption | decide | omega) h5 (fun r1 w1 hm1 hq1 => ?_)
        rw [hq1.1, hq1.2]
        clear hq1 hm1 r1 w1
        refine XE.iconst (x := nI 1) d_Md_close_93 (by decide) ?_
        refine XE.icmp_ne 108 d_Md_close_94 (by decide) (fun h94 => ?_) (fun h94 => ?_)
        · have q := tail2 _ (by rw [d0 (fun z => h94 (by rw [z.1]; rfl))]; exact hM2) hF2
          exact q
        · refine XE.iload_n d_Md_close_97 rfl ?_
          refine XE.if_eq 108 d_Md_close_98 (by decide) (fun h98 => ?_) (fun h98 => ?_)
          · have q := tail2 _ (by rw [d0 (fun z => by rw [z.2] at h98; exact absurd h98 (by decide))]; exact hM2) hF2
            exact q
          · have q := tail2 (sI (sI w1 117 1 (7 * x + 6) (nI 0)) 115 1 n (nI 1)) (by rw [d1 ((bI_eq1 _).mp h94) (te _ h98)]; exact hM2.dset n true) (hF2.tr (FM.sI (Or.inr (by decide))))
            refine XE.aload_n d_Md_close_101 rfl ?_
            refine g_Md_26 d_Md_close_102 (by first | assumption | decide | omega) (by first | assumption | rfl) ?_
            refine XE.iload_n d_Md_close_105 rfl ?_
            refine XE.iconst (x := nI 1) d_Md_close_106 (by decide) ?_
            refine XE.zast d_Md_close_107 (by decide) rfl (by first | assumption | decide) (by first | assumption | decide | omega) (by first | assumption | exact ixn2 (by assumption) (by omega) (by omega)) ?_
            exact q
      refine XE.aload_n d_Md_close_51 rfl ?_
      refine g_Md_32 d_Md_close_52 (by first | assumption | decide | omega) (by first | assumption | rfl) ?_
      refine XE.bipush (x := nI 7) d_Md_close_55 (by decide) ?_
      refine XE.iload_n d_Md_close_57 rfl ?_
      refine XE.imul d_Md_close_58 (by first | exact pk_mul _ _ | rfl) ?_
      refine XE.bipush (x := nI 6) d_Md_close_59 (by decide) ?_
      refine XE.iadd d_Md_close_61 (by first | exact nI_add _ _ | rfl) ?_
      refine XE.iconst (x := nI 0) d_Md_close_62 (by decide) ?_
      refine XE.iast d_Md_close_63 (by decide) rfl (by first | assumption | decide | omega) (by first | assumption | exact ixn2 (by assumption) (by omega) (by omega)) ?_
      refine XE.aload_n d_Md_close_64 rfl ?_
      refine g_Md_17 d_Md_close_65 (by first | assumption | decide | omega) (by first | assumption | rfl) ?_
      refine XE.iload_n d_Md_close_68 rfl ?_
      refine XE.zald d_Md_close_69 (by decide) rfl (by first | assumption | decide | omega) (by first | assumption | exact ixn2 (by assumption) (by omega) (by omega)) (by first | assumption | rfl) ?_
      refine XE.if_eq 81 d_Md_close_70 (by decide) (fun h70 => ?_) (fun h70 => ?_)
      · have q := bt.1 h70
        refine XE.iconst (x := nI 1) d_Md_close_81 (by decide) ?_
        refine XE.goto 86 d_Md_close_82 (by decide) ?_
        refine XE.istore_n d_Md_close_86 (by decide) ?_
        rw [← q] at mid
        exact mid
      · refine XE.aload_n d_Md_close_73 rfl ?_
        refine XE.iload_n d_Md_close_74 rfl ?_
        refine k_Md_106 0 d_Md_close_75 (by omega) (Nat.le_of_ble_eq_true rfl) (by first | assumption | decide | omega) hin (fun r1 w1 hm1 hq1 => ?_)
        rw [hq1.1, hq1.2]
        clear hq1 hm1 r1 w1
        refine XE.if_ne 85 d_Md_close_78 (by decide) (fun h78 => ?_) (fun h78 => ?_)
        · have q := bt.2.1 h70 h78
          refine XE.iconst (x := nI 0) d_Md_close_85 (by decide) ?_
          refine XE.istore_n d_Md_close_86 (by decide) ?_
          rw [← q] at mid
          exact mid
        · have q := bt.2.2 h78
          refine XE.iconst (x := nI 1) d_Md_close_81 (by decide) ?_
          refine XE.goto 86 d_Md_close_82 (by decide) ?_
          refine XE.istore_n d_Md_close_86 (by decide) ?_
          rw [← q] at mid
          exact mid
    -- the loop over the locks, from the last one down
    have loop : ∀ t w1 v, t ≤ (mK m).length → RM w1 (setK m ((mK m).take t ++ ((mK m).drop t).filter (fun k => !(k.1 == x)))) → FM w w1 → v = nI t - nI 1 → X_Md_close d 24 [some (.inr (7, 1)), some (.inl (nI x)), some (.inl (nI n)), some (.inl v)] [] w1 (fun r w' => r = some (.inl (clM m (nI x)).1) ∧ RM w' (clM m (nI x)).2 ∧ FM w w') := by
      intro t
      induction t with
      | zero =>
        intro w1 v h1 hM1 hF1 hv
        have hv : v = nI 0 - nI 1 := hv
        subst hv
        refine XE.iload_n d_Md_close_24 rfl ?_
        refine XE.if_lt 51 d_Md_close_25 (by decide) (fun h25 => ?_) (fun h25 => absurd h25 ((by decide)))
        exact tail1 w1 _ hM1 hF1
      | succ t ih =>
        intro w1 v h1 hM1 hF1 hv
        have hv : v = nI t := by rw [hv, pk_sub (by omega)]; rfl
        subst hv
        have ht' : t < (mK m).length := by omega
        let K1 := (mK m).take (t + 1) ++ ((mK m).drop (t + 1)).filter (fun k => !(k.1 == x))
        have htk : (mK m).take (t + 1) = (mK m).take t ++ [(mK m)[t]] := (List.take_append_getElem ht').symm
        have hdr : (mK m).drop t = (mK m)[t] :: (mK m).drop (t + 1) := List.drop_eq_getElem_cons ht'
        have hlt : ((mK m).take t).length = t := by rw [List.length_take]; omega
        have hl1 : t < K1.length := by
          show t < ((mK m).take (t + 1) ++ _).length
          rw [List.length_append, List.length_take]; omega
        have hl2 : K1.length ≤ 200 := by
          have a : K1.length = ((mK m).take (t + 1)).length + (((mK m).drop (t + 1)).filter (fun k => !(k.1 == x))).length := List.length_append
          have b := List.length_filter_le (fun k : KR' => !(k.1 == x)) ((mK m).drop (t + 1))
          rw [List.length_drop] at b
          rw [List.length_take] at a
          omega
        have hsub : ∀ k ∈ K1, k ∈ mK m := fun k hk => by
          rcases List.mem_append.mp hk with h | h
          · exact List.mem_of_mem_take h
          · exact List.mem_of_mem_drop (List.mem_filter.mp h).1
        have hg : K1[t] = (mK m)[t] := by
          show ((mK m).take (t + 1) ++ _)[t] = _
          rw [List.getElem_append_left (by rw [List.length_take]; omega), List.getElem_take]
        have hBK : WB (setK m K1) := hB.setk hl2 hsub
        have s15 := hM1.1.2.2.2.2.2.2.2.2.2.1
        have l9 := hM1.1.2.2.2.2.2.2.2.2.2.2.2.2.2.2.2.2.2.2.2
        have k0 : wI w1 119 1 (4 * t) = nI ((mK m)[t]).1 := by
          have := hM1.2.2.2.2.2.2.2.2.2.2.2.1 t hl1 0 (by decide)
          rw [← hg]
          exact this
        obtain ⟨a1, a2, -⟩ := hB.2.2.2.2.2.2.1 (mK m)[t] (List.getElem_mem ht')
        have e1 : ¬ ((mK m)[t]).1 = x → K1 = (mK m).take t ++ ((mK m).drop t).filter (fun k => !(k.1 == x)) := fun h => by
          show (mK m).take (t + 1) ++ _ = _
          rw [htk, hdr, List.filter_cons_of_pos (by simp [h]), List.append_assoc]; rfl
        have e2 : ((mK m)[t]).1 = x → K1.eraseIdx t = (mK m).take t ++ ((mK m).drop t).filter (fun k => !(k.1 == x)) := fun h => by
          show ((mK m).take (t + 1) ++ _).eraseIdx t = _
          rw [htk, hdr, List.filter_cons_of_neg (by simp [h]), List.append_assoc, List.eraseIdx_append_of_length_le (by omega), hlt, Nat.sub_self]; rfl
        have iv : nI t + Int32.ofInt (-1) = nI t - nI 1 := by rw [Int32.sub_eq_add_neg]; rfl
        refine XE.iload_n d_Md_close_24 rfl ?_
        refine XE.if_lt 51 d_Md_close_25 (by decide) (fun h25 => absurd h25 ((nI_pos (by omega)))) (fun h25 => ?_)
        refine XE.aload_n d_Md_close_28 rfl ?_
        refine g_Md_38 d_Md_close_29 (by first | assumption | decide | omega) (by first | assumption | rfl) ?_
        refine XE.iconst (x := nI 4) d_Md_close_32 (by decide) ?_
        refine XE.iload_n d_Md_close_33 rfl ?_
        refine XE.imul d_Md_close_34 (by first | exact pk_mul _ _ | rfl) ?_
        refine XE.iald d_Md_close_35 (Or.inr ⟨by decide, rfl⟩) (by first | assumption | decide | omega) (ixn2 l9 (by omega) (by omega)) k0 ?_
        refine XE.iload_n d_Md_close_36 rfl ?_
        refine XE.icmp_ne 45 d_Md_close_37 (by decide) (fun h37 => ?_) (fun h37 => ?_)
        · have q := e1 (fun z => h37 (by rw [z]))
          have q2 := ih w1 _ (by omega) (by rw [← q]; exact hM1) hF1 rfl
          refine XE.iinc d_Md_close_45 rfl iv ?_
          refine XE.goto 24 d_Md_close_48 (by decide) ?_
          exact q2
        · have q := e2 ((eq_nI (by omega) (by omega)).mp h37)
          refine XE.aload_n d_Md_close_40 rfl ?_
          refine XE.iload_n d_Md_close_41 rfl ?_
          refine k_Md_103 0 d_Md_close_42 (by omega) (Nat.le_of_ble_eq_true rfl) (by first | assumption | decide | omega) (Md_unlockAt_ok (m := setK m K1) hM1 hBK hl1) (fun y1 w2 hm1 hq1 => ?_)
          obtain ⟨rfl, hM2, hF2⟩ := hq1
          have q2 := ih w2 _ (by omega) (by rw [← q]; exact hM2) (hF1.tr hF2) rfl
          refine XE.iinc d_Md_close_45 rfl iv ?_
          refine XE.goto 24 d_Md_close_48 (by decide) ?_
          exact q2
    have hk0 : wI w 7 1 14 = nI (mK m).length := hM.2.2.2.2.2.2.2.2.2.2.1
    have hc0 : E_Md_h 0 [.inr (7, 1), .inl (nI x), .inl (nI 0)] w (fun r w' => r = some (.inl (nI n)) ∧ w' = w) := by
      have := Md_h_m (d := 0) 0 hM hB x1 x2 (by decide)
      rw [show hrF (mh m x) 0 = nI n by show nI (hN (mh m x)) = nI n; rw [hn0]] at this
      exact this
    refine XE.aload_n d_Md_close_0 rfl ?_
    refine XE.iload_n d_Md_close_1 rfl ?_
    refine k_Md_94 2 d_Md_close_2 (by omega) (Nat.le_of_ble_eq_true rfl) (by first | assumption | decide | omega) hsh (fun r1 w1 hm1 hq1 => ?_)
    rw [hq1.1, hq1.2]
    clear hq1 hm1 r1 w1
    refine XE.if_eq 10 d_Md_close_5 (by decide) (fun h5 => ?_) (fun h5 => absurd h5 ((fun z => z (by rw [t0]; rfl))))
    refine XE.aload_n d_Md_close_10 rfl ?_
    refine XE.iload_n d_Md_close_11 rfl ?_
    refine XE.iconst (x := nI 0) d_Md_close_12 (by decide) ?_
    refine k_Md_49 0 d_Md_close_13 (by omega) (Nat.le_of_ble_eq_true rfl) (by first | assumption | decide | omega) hc0 (fun r1 w1 hm1 hq1 => ?_)
    rw [hq1.1, hq1.2]
    clear hq1 hm1 r1 w1
    refine XE.istore_n d_Md_close_16 (by decide) ?_
    refine XE.aload_n d_Md_close_17 rfl ?_
    refine g_Md_100 d_Md_close_18 (by first | assumption | decide | omega) (by first | assumption | rfl) ?_
    refine XE.iconst (x := nI 1) d_Md_close_21 (by decide) ?_
    refine XE.isub d_Md_close_22 rfl ?_
    refine XE.istore_n d_Md_close_23 (by decide) ?_
    exact loop (mK m).length w _ (Nat.le_refl _) (by rw [List.take_length, List.drop_length]; show RM w (setK m (mK m ++ [])); rw [List.append_nil]; exact hM) FM.rf rfl
