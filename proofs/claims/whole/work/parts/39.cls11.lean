/-! THE CLASS: open, cancel, giveUp -/
section OPN
variable {w : WW} {m : MS} {c d : Nat}
def rqA (w : WW) (q : Nat) (cl di na md ws : Int32) : WW := sI (sR (rqW (nO w 3 6) (q + 1) cl di na md ws) 102 1 q (q + 1)) 0 1 6 (nI (q + 1))
theorem fc_rq (w : WW) (q : Nat) (cl di na md ws : Int32) : FC 0 w (rqA w q cl di na md ws) := by
  have h0 : (0 : Nat) ≠ 7 ∧ 0 ≠ 99 ∧ 0 < 110 := by decide
  have h3 : (3 : Nat) ≠ 7 ∧ 3 ≠ 99 ∧ 3 < 110 := by decide
  have h1 : (102 : Nat) ≠ 7 ∧ 102 ≠ 99 ∧ 102 < 110 := by decide
  exact ((((((((FC.nO (Or.inr rfl)).tr (FC.sI h3)).tr (FC.sI h3)).tr (FC.sI h3)).tr (FC.sI h3)).tr (FC.sI h3)).tr (FC.sI h3)).tr (FC.sR h1)).tr (FC.sI h0)
theorem CR.qadd (hR : CR w m) (dn : Nat) (cl na md ws : Int32) : CR (rqA w (mQ m) cl (nI dn) na md ws) (addQ m (cl, dn, na, md, ws, 0)) := by
  obtain ⟨c1, c2, c3, c4, c5, c6, ⟨q0, q1, q2, q3⟩, c8⟩ := hR
  refine ⟨c1, c2, c3, c4, c5, c6, ⟨rfl, ?_, fun i hi => ?_, fun r r1 r2 => ?_⟩, c8⟩
  · show wC w 3 + 1 = mQ m + 1
    rw [q1]
  · have hi : i < mQ m + 1 := hi
    show (if 102 = 102 ∧ 1 = 1 ∧ i = mQ m then mQ m + 1 else wR w 102 1 i) = i + 1
    by_cases e : i = mQ m
    · rw [if_pos ⟨rfl, rfl, e⟩, e]
    · rw [if_neg (fun z => e z.2.2)]; exact q2 i (by omega)
  · have r2 : r ≤ mQ m + 1 := r2
    show RQR _ r (uf (mq m) (mQ m + 1) _ r)
    by_cases e : r = mQ m + 1
    · subst e
      rw [uf_s]
      unfold rqA rqW RQR
      simp [wI_sI, wI_sR, wI_nO, qC, qD, qN, qM, qW, qO]
    · rw [uf_n _ _ e]
      have q := q3 r r1 (by omega)
      have f : ∀ j, wI (rqA w (mQ m) cl (nI dn) na md ws) 3 r j = wI w 3 r j := fun j => by
        unfold rqA rqW
        simp only [wI_sI, wI_sR, wI_nO, e, false_and, and_false, if_false]
        rw [if_neg (by omega)]
      unfold RQR
      rw [f, f, f, f, f, f]
      exact q
set_option maxHeartbeats 1000000 in
theorem SS_open_ok (hR : CR w m) (hB : WB m) (hD : BD c m) (hI : MI m) (h5 : mQ m < 512) (hd : 5 ≤ d) (cl di na md ws : Int32) :
    E_SS_open d [.inr (0, 1), .inl cl, .inl di, .inl na, .inl md, .inl ws] w (fun r w' => FC 0 w w' ∧ (¬ opnOk cl di na md ws → r = some (.inl (-1)) ∧ CR w' m) ∧ (opnOk cl di na md ws → r = some (.inl (nI (mQ m + 1))) ∧ CR w' (opnS m cl di na md ws))) := by
  refine S_SS_open ?_
  have bad : ∀ {pc : Nat} {ls : List (Option VV)}, decode c_SS_open pc = .ok (.ireturn, 1) → ¬ opnOk cl di na md ws → X_SS_open d pc ls [.inl (-1)] w (fun r w' => FC 0 w w' ∧ (¬ opnOk cl di na md ws → r = some (.inl (-1)) ∧ CR w' m) ∧ (opnOk cl di na md ws → r = some (.inl (nI (mQ m + 1))) ∧ CR w' (opnS m cl di na md ws))) := by
    intro pc ls hdc hn
    exact XE.ri hdc ⟨FC.rf, fun _ => ⟨rfl, hR⟩, fun h => absurd h hn⟩
  obtain ⟨s0, s2, s5, s7, g0, l0, l1, l2, l5⟩ := hR.1
  obtain ⟨q0, q1, q2, q3⟩ := hR.2.2.2.2.2.2.1
  have good : opnOk cl di na md ws → X_SS_open d 47 [some (.inr (0, 1)), some (.inl cl), some (.inl di), some (.inl na), some (.inl md), some (.inl ws), none] [] w (fun r w' => FC 0 w w' ∧ (¬ opnOk cl di na md ws → r = some (.inl (-1)) ∧ CR w' m) ∧ (opnOk cl di na md ws → r = some (.inl (nI (mQ m + 1))) ∧ CR w' (opnS m cl di na md ws))) := by
    intro ok
    obtain ⟨-, o2, -, o4, -, -, -⟩ := id ok
    obtain ⟨dn, hdn, rfl⟩ := rng0 (by decide) o2
    obtain ⟨mdn, hmdn, emd⟩ := rng0 (by decide) o4
    have hR1 := hR.qadd dn cl na md ws
    have eS : opnS m cl (nI dn) na md ws = tryS (addQ m (cl, dn, na, md, ws, 0)) (mQ m + 1) := by unfold opnS; rw [nI_clamp (by omega)]
    have qz : qO (mq (addQ m (cl, dn, na, md, ws, 0)) (mQ m + 1)) = 0 := by
      show qO (uf (mq m) (mQ m + 1) _ (mQ m + 1)) = 0
      rw [uf_s]; rfl
    have hB1 : WB (addQ m (cl, dn, na, md, ws, 0)) := hB.addq h5 hdn ⟨mdn, by omega, emd⟩
    have hD1 : BD c (addQ m (cl, dn, na, md, ws, 0)) := hD.addq rfl
    have hI1 : MI (addQ m (cl, dn, na, md, ws, 0)) := hI
    have hwl := wait_lt hB1 hD1 (by omega : 1 ≤ mQ m + 1) (Nat.le_refl (mQ m + 1)) qz
    have h11 : mN (addQ m (cl, dn, na, md, ws, 0)) + 1 ≤ 1100 := by have := hD1.2.1; have := hD1.2.2; omega
    have hat := SS_attempt_ok (d := 4) (r := mQ m + 1) hR1 hB1 hI1 (by omega) (Nat.le_refl (mQ m + 1)) h11 (by omega)
    have i2 := (att_inv hB1 ⟨hwl, hD1.2.1, hD1.2.2⟩ (by omega : 1 ≤ mQ m + 1) (Nat.le_refl (mQ m + 1))).2.1
    have hix : IXN (nI (mQ m)) (wL (rqW (nO w 3 6) (mQ m + 1) cl (nI dn) na md ws) 102 1) (mQ m) := IXN.nI (by show mQ m < wL w 102 1; omega) (by show wL w 102 1 ≤ _; omega)
    have hrq := Rq_init_ok (w := nO w 3 6) (d := 1) (o := mQ m + 1) (by omega) (by omega) cl (nI dn) na md ws
    refine n_SS_24 d_SS_open_47 ?_
    rw [q1]
    refine XE.dup d_SS_open_50 ?_
    refine XE.iload_n d_SS_open_51 rfl ?_
    refine XE.iload_n d_SS_open_52 rfl ?_
    refine XE.iload_n d_SS_open_53 rfl ?_
    refine XE.iload d_SS_open_54 rfl ?_
    refine XE.iload d_SS_open_56 rfl ?_
    refine k_SS_52 1 d_SS_open_58 (by omega) (Nat.le_of_ble_eq_true rfl) (by first | assumption | decide | omega) hrq (fun y1 w2 hm1 hq1 => ?_)
    obtain ⟨rfl, rfl⟩ := hq1
    refine XE.astore d_SS_open_61 (by decide) ?_
    refine XE.aload_n d_SS_open_63 rfl ?_
    refine g_SS_26 d_SS_open_64 (by first | assumption | decide | omega) (by first | assumption | rfl) ?_
    refine XE.aload_n d_SS_open_67 rfl ?_
    refine g_SS_48 d_SS_open_68 (by first | assumption | decide | omega) (by first | assumption | rfl) ?_
    refine XE.aload d_SS_open_71 rfl ?_
    refine XE.aast d_SS_open_73 (by decide) rfl rfl (by first | exact Or.inl rfl | exact Or.inr rfl) (by first | assumption | decide | omega) (by first | assumption | exact ixn2 (by assumption) (by omega) (by omega)) ?_
    refine XE.aload_n d_SS_open_74 rfl ?_
    refine XE.dup d_SS_open_75 ?_
    refine g_SS_48 d_SS_open_76 (by first | assumption | decide | omega) (by first | assumption | rfl) ?_
    refine XE.iconst (x := nI 1) d_SS_open_79 (by decide) ?_
    refine XE.iadd d_SS_open_80 (by first | exact nI_add _ _ | rfl) ?_
    refine p_SS_48 d_SS_open_81 (by first | assumption | decide | omega) ?_
    refine XE.aload d_SS_open_84 rfl ?_
    refine XE.aload_n d_SS_open_86 rfl ?_
    refine XE.aload d_SS_open_87 rfl ?_
    refine k_SS_55 4 d_SS_open_89 (by omega) (Nat.le_of_ble_eq_true rfl) (by first | assumption | decide | omega) hat (fun y1 w2 hm1 hq1 => ?_)
    obtain ⟨rfl, hR2, hF2⟩ := hq1
    have hR3 := try_storeC hB1 hD1 (by omega : 1 ≤ mQ m + 1) (Nat.le_refl (mQ m + 1)) qz hR2
    have hcn : wI w2 0 1 6 = nI (mQ m + 1) := by rw [hR2.2.2.2.2.2.2.1.1, i2]; rfl
    refine p_SS_59 d_SS_open_92 (by first | assumption | decide | omega) ?_
    refine XE.aload_n d_SS_open_95 rfl ?_
    refine g_SS_48 d_SS_open_96 (by first | assumption | decide | omega) (by first | assumption | rfl) ?_
    exact XE.ri d_SS_open_99 ⟨((fc_rq w (mQ m) cl (nI dn) na md ws).tr hF2).tr (FC.sI (by decide)), fun z => absurd ok z, fun _ => ⟨rfl, by rw [eS]; exact hR3⟩⟩
  have h4 := SS_isBelow_ok (w := w) (d := 1) (b := 3) cl (by decide)
  have h3 := SS_isBelow_ok (w := w) (d := 1) (b := 2) ws (by decide)
  have hpl := SS_isPlace_ok (w := w) (d := 1) (by omega) di na
  have hmo := SS_isMode_ok (w := w) (d := 1) (by omega) md
  refine XE.iload_n d_SS_open_0 rfl ?_
  refine XE.iconst (x := nI 4) d_SS_open_1 (by decide) ?_
  refine k_SS_37 1 d_SS_open_2 (by omega) (Nat.le_of_ble_eq_true rfl) h4 (fun r1 w1 hm1 hq1 => ?_)
  rw [hq1.1, hq1.2]
  clear hq1 hm1 r1 w1
  refine XE.if_eq 33 d_SS_open_5 (by decide) (fun h5 => ?_) (fun h5 => ?_)
  · have bd : ¬ opnOk cl di na md ws := fun z => dec2f ((bI_eq0 _).mp h5) z.1
    refine XE.iconst (x := (-1)) d_SS_open_33 (by decide) ?_
    exact bad d_SS_open_34 bd
  · have g5 := dec2 (te _ h5)
    refine XE.iload_n d_SS_open_8 rfl ?_
    refine XE.iload_n d_SS_open_9 rfl ?_
    refine k_SS_41 1 d_SS_open_10 (by omega) (Nat.le_of_ble_eq_true rfl) hpl (fun r1 w1 hm1 hq1 => ?_)
    rw [hq1.1, hq1.2]
    clear hq1 hm1 r1 w1
    refine XE.if_eq 33 d_SS_open_13 (by decide) (fun h13 => ?_) (fun h13 => ?_)
    · have bd : ¬ opnOk cl di na md ws := fun z => by have := (bI_eq0 _).mp h13; simp [z.2.1, z.2.2.1] at this
      refine XE.iconst (x := (-1)) d_SS_open_33 (by decide) ?_
      exact bad d_SS_open_34 bd
    · have g13 := te _ h13
      rw [Bool.and_eq_true] at g13
      refine XE.iload d_SS_open_16 rfl ?_
      refine k_SS_44 1 d_SS_open_18 (by omega) (Nat.le_of_ble_eq_true rfl) hmo (fun y1 w2 hm1 hq1 => ?_)
      obtain ⟨bm, rfl, hbm, rfl⟩ := hq1
      refine XE.if_eq 33 d_SS_open_21 (by decide) (fun h21 => ?_) (fun h21 => ?_)
      · have bd : ¬ opnOk cl di na md ws := fun z => by have := (bI_eq0 _).mp h21; rw [hbm.mpr ⟨z.2.2.2.1, z.2.2.2.2.2⟩] at this; exact absurd this (by decide)
        refine XE.iconst (x := (-1)) d_SS_open_33 (by decide) ?_
        exact bad d_SS_open_34 bd
      · have g21 := hbm.mp (te _ h21)
        refine XE.iload d_SS_open_24 rfl ?_
        refine XE.iconst (x := nI 3) d_SS_open_26 (by decide) ?_
        refine k_SS_37 1 d_SS_open_27 (by omega) (Nat.le_of_ble_eq_true rfl) h3 (fun r1 w1 hm1 hq1 => ?_)
        rw [hq1.1, hq1.2]
        clear hq1 hm1 r1 w1
        refine XE.if_ne 35 d_SS_open_30 (by decide) (fun h30 => ?_) (fun h30 => ?_)
        · have g30 := dec2 (te _ h30)
          refine XE.aload_n d_SS_open_35 rfl ?_
          refine g_SS_48 d_SS_open_36 (by first | assumption | decide | omega) (by first | assumption | rfl) ?_
          refine XE.sipush (x := nI 512) d_SS_open_39 (by decide) ?_
          refine XE.icmp_lt 47 d_SS_open_42 (by decide) (fun h42 => ?_) (fun h42 => absurd h42 ((fun z => z ((lt_nI (by omega) (by omega)).mpr (by omega)))))
          exact good ⟨g5, dec2 g13.1, dec2 g13.2, g21.1, g30, g21.2⟩
        · have bd : ¬ opnOk cl di na md ws := fun z => dec2f ((bI_eq0 _).mp h30) z.2.2.2.2.1
          refine XE.iconst (x := (-1)) d_SS_open_33 (by decide) ?_
          exact bad d_SS_open_34 bd
theorem SS_cancel_ok (hR : CR w m) (hB : WB m) (hd : 1 ≤ d) (v : Int32) : E_SS_cancel d [.inr (0, 1), .inl v] w (fun r w' => r = some (.inl (canM m v).1) ∧ CR w' (canM m v).2 ∧ FC 0 w w') := by
  refine S_SS_cancel ?_
  have hq := SS_requestNumbered_ok (d := 0) hR hB v
  by_cases hx : rqOf m v = 0
  · have e : canM m v = (-1, m) := if_pos (Or.inl hx)
    rw [hx, nk_z] at hq
    rw [e]
    refine XE.aload_n d_SS_cancel_0 rfl ?_
    refine XE.iload_n d_SS_cancel_1 rfl ?_
    refine k_SS_62 0 d_SS_cancel_2 (by omega) (Nat.le_of_ble_eq_true rfl) (by first | assumption | decide | omega) hq (fun r1 w1 hm1 hq1 => ?_)
    rw [hq1.1, hq1.2]
    clear hq1 hm1 r1 w1
    refine XE.astore_n d_SS_cancel_5 (by decide) ?_
    refine XE.aload_n d_SS_cancel_6 rfl ?_
    refine XE.ifnull 17 d_SS_cancel_7 (by decide) (fun h7 => ?_) (fun h7 => absurd h7 ((fun z => z rfl)))
    refine XE.iconst (x := (-1)) d_SS_cancel_17 (by decide) ?_
    exact XE.ri d_SS_cancel_18 ⟨rfl, hR, FC.rf⟩
  · have hr : 1 ≤ v ∧ v ≤ nI (mQ m) := Classical.not_not.mp (fun z => hx (if_neg z))
    obtain ⟨x, -, x1, x2, x3⟩ := rqOf_nz hB hr
    have ec : canM m v = if x = 0 ∨ ¬ qO (mq m x) = 0 then (-1, m) else (0, setQ m (uf (mq m) x (qsO (mq m x) (-9)))) := by unfold canM; rw [x3]
    rw [x3] at hx
    rw [x3, nk_nz hx] at hq
    have h5 : wI w 3 x 5 = qO (mq m x) := (hR.2.2.2.2.2.2.1.2.2.2 x x1 x2).2.2.2.2.2
    refine XE.aload_n d_SS_cancel_0 rfl ?_
    refine XE.iload_n d_SS_cancel_1 rfl ?_
    refine k_SS_62 0 d_SS_cancel_2 (by omega) (Nat.le_of_ble_eq_true rfl) (by first | assumption | decide | omega) hq (fun r1 w1 hm1 hq1 => ?_)
    rw [hq1.1, hq1.2]
    clear hq1 hm1 r1 w1
    refine XE.astore_n d_SS_cancel_5 (by decide) ?_
    refine XE.aload_n d_SS_cancel_6 rfl ?_
    refine XE.ifnull 17 d_SS_cancel_7 (by decide) (fun h7 => absurd h7 (hx)) (fun h7 => ?_)
    refine XE.aload_n d_SS_cancel_10 rfl ?_
    refine g_SS_59 d_SS_cancel_11 (by first | assumption | decide | omega) (by first | assumption | rfl) ?_
    refine XE.if_eq 19 d_SS_cancel_14 (by decide) (fun h14 => ?_) (fun h14 => ?_)
    · have e : canM m v = (0, setQ m (uf (mq m) x (qsO (mq m x) (-9)))) := by rw [ec, if_neg (fun z => z.elim hx (fun y => y h14))]
      refine XE.aload_n d_SS_cancel_19 rfl ?_
      refine XE.bipush (x := (-9)) d_SS_cancel_20 (by decide) ?_
      refine p_SS_59 d_SS_cancel_22 (by first | assumption | decide | omega) ?_
      refine XE.iconst (x := nI 0) d_SS_cancel_25 (by decide) ?_
      exact XE.ri d_SS_cancel_26 ⟨by rw [e]; rfl, by rw [e]; exact hR.qset x1 x2 (-9), FC.sI (by decide)⟩
    · have e : canM m v = (-1, m) := by rw [ec, if_pos (Or.inr h14)]
      refine XE.iconst (x := (-1)) d_SS_cancel_17 (by decide) ?_
      exact XE.ri d_SS_cancel_18 ⟨by rw [e], by rw [e]; exact hR, FC.rf⟩
/-! an attempt leaves grants below 2 alone -/
theorem att_hG (hB : WB m) {r : Nat} (r1 : 1 ≤ r) (r2 : r ≤ mQ m) {x : Nat} (x2 : x ≤ mH m) (hg : ¬ nI 2 ≤ hG (mh m x)) : mh (attM m r).2 x = mh m x ∧ mH m ≤ mH (attM m r).2 := by
  rcases att_cases m hB r1 r2 with ⟨v, e, hv⟩ | ⟨n, hn, -, e⟩ | ⟨n, hn, ht, -, -, -, e⟩ | ⟨hg', -, -, -, -, -, e⟩
  · rw [e]; exact ⟨rfl, Nat.le_refl _⟩
  · rw [e]
    refine ⟨if_neg (fun z => ?_), Nat.le_refl _⟩
    have := z.2
    unfold brkP at this
    simp only [Bool.and_eq_true, decide_eq_true_eq] at this
    exact hg this.2.2
  · rw [e]; exact ⟨uf_n _ _ (by omega), Nat.le_succ _⟩
  · rw [e]; exact ⟨uf_n _ _ (by show x ≠ mH m + 1; omega), Nat.le_succ _⟩
theorem try_hG (hB : WB m) {r : Nat} (r1 : 1 ≤ r) (r2 : r ≤ mQ m) {x : Nat} (x2 : x ≤ mH m) (hg : ¬ nI 2 ≤ hG (mh m x)) : mh (tryS m r) x = mh m x ∧ mH m ≤ mH (tryS m r) := by
  unfold tryS
  split
  · exact att_hG hB r1 r2 x2 hg
  · exact ⟨rfl, Nat.le_refl _⟩
theorem tryL_hG {c x : Nat} : ∀ (k i : Nat) (m : MS), WB m → BD c m → 1 ≤ i → i + k = mQ m + 1 → x ≤ mH m → ¬ nI 2 ≤ hG (mh m x) → mh (tryL k i m) x = mh m x ∧ mH m ≤ mH (tryL k i m) := by
  intro k
  induction k with
  | zero => intro i m _ _ _ _ _ _; exact ⟨rfl, Nat.le_refl _⟩
  | succ k ih =>
    intro i m hB hD h1 h2 x2 hg
    obtain ⟨a, b, e⟩ := try_inv hB hD h1 (by omega : i ≤ mQ m)
    obtain ⟨p, q⟩ := try_hG hB h1 (by omega : i ≤ mQ m) x2 hg
    obtain ⟨p2, q2⟩ := ih (i + 1) (tryS m i) a b (by omega) (by omega) (by omega) (by rw [p]; exact hg)
    exact ⟨p2.trans p, Nat.le_trans q q2⟩
theorem gset_mi (hI : MI m) (hB : WB m) (x : Nat) (v : Int32) (hv : nI 2 ≤ v → nI 2 ≤ hG (mh m x)) : MI (setH m (uf (mh m) x (hsG (mh m x) v))) := by
  have e : ∀ y, hN (uf (mh m) x (hsG (mh m x) v) y) = hN (mh m y) ∧ hO (uf (mh m) x (hsG (mh m x) v) y) = hO (mh m y) ∧ (nI 2 ≤ hG (uf (mh m) x (hsG (mh m x) v) y) → nI 2 ≤ hG (mh m y)) := fun y => by
    by_cases h : y = x
    · subst h; rw [uf_s]; exact ⟨rfl, rfl, hv⟩
    · rw [uf_n _ _ h]; exact ⟨rfl, rfl, id⟩
  exact hI.seth hB.kb (fun y _ _ => ⟨(e y).1, fun z => by rw [← (e y).2.1]; exact z, (e y).2.2⟩) (fun k hk => by rw [(e k.1).2.1]; exact (hI.2.2.1 k hk).1)
theorem SS_giveUp_ok (hR : CR w m) (hB : WB m) (hD : BD c m) (hI : MI m) (hd : 6 ≤ d) (v : Int32) : E_SS_giveUp d [.inr (0, 1), .inl v] w (fun r w' => r = some (.inl (givM m v).1) ∧ CR w' (givM m v).2 ∧ FC 0 w w') := by
  refine S_SS_giveUp ?_
  have hh := SS_openHandle_ok (d := 0) hR hB hI v
  by_cases hx : hOf m v = 0
  · have e : givM m v = (-1, m) := if_pos (Or.inl hx)
    rw [hx, nk_z] at hh
    rw [e]
    refine XE.aload_n d_SS_giveUp_0 rfl ?_
    refine XE.iload_n d_SS_giveUp_1 rfl ?_
    refine k_SS_66 0 d_SS_giveUp_2 (by omega) (Nat.le_of_ble_eq_true rfl) (by first | assumption | decide | omega) hh (fun r1 w1 hm1 hq1 => ?_)
    rw [hq1.1, hq1.2]
    clear hq1 hm1 r1 w1
    refine XE.astore_n d_SS_giveUp_5 (by decide) ?_
    refine XE.aload_n d_SS_giveUp_6 rfl ?_
    refine XE.ifnull 17 d_SS_giveUp_7 (by decide) (fun h7 => ?_) (fun h7 => absurd h7 ((fun z => z rfl)))
    refine XE.iconst (x := (-1)) d_SS_giveUp_17 (by decide) ?_
    exact XE.ri d_SS_giveUp_18 ⟨rfl, hR, FC.rf⟩
  · have hX := hR.hx hB hx
    rw [nk_nz hx] at hh
    have eg : givM m v = if hOf m v = 0 ∨ hG (mh m (hOf m v)) = 0 then (-1, m)
        else if hG (mh m (hOf m v)) = nI 1 then (nI 0, setH m (uf (mh m) (hOf m v) (hsG (mh m (hOf m v)) (nI 0))))
        else if hG (mh m (hOf m v)) = nI 3 then (nI 1, tryM (setH m (uf (mh m) (hOf m v) (hsG (mh m (hOf m v)) (nI 1)))))
        else (nI 1, setH m (uf (mh m) (hOf m v) (hsG (mh m (hOf m v)) (nI 1)))) := rfl
    generalize hq : hOf m v = x at *
    obtain ⟨x0, x1, x2, x3, x4, x5, x6, x7, x7b, x8, x9, h1, h2, h3, h4, h5, h6⟩ := hX
    have g0 : ¬ hG (mh m x) = 0 → ¬ (x = 0 ∨ hG (mh m x) = 0) := fun h z => z.elim hx h
    have r6 : ∀ a : Int32, wI (sI w 2 x 6 a) 2 x 6 = a := fun a => by rw [wI_sI, if_pos ⟨rfl, rfl, rfl⟩]
    by_cases hg0 : hG (mh m x) = 0
    · have e : givM m v = (-1, m) := by rw [eg, if_pos (Or.inr hg0)]
      rw [e]
      refine XE.aload_n d_SS_giveUp_0 rfl ?_
      refine XE.iload_n d_SS_giveUp_1 rfl ?_
      refine k_SS_66 0 d_SS_giveUp_2 (by omega) (Nat.le_of_ble_eq_true rfl) (by first | assumption | decide | omega) hh (fun r1 w1 hm1 hq1 => ?_)
      rw [hq1.1, hq1.2]
      clear hq1 hm1 r1 w1
      refine XE.astore_n d_SS_giveUp_5 (by decide) ?_
      refine XE.aload_n d_SS_giveUp_6 rfl ?_
      refine XE.ifnull 17 d_SS_giveUp_7 (by decide) (fun h7 => absurd h7 (x0)) (fun h7 => ?_)
      refine XE.aload_n d_SS_giveUp_10 rfl ?_
      refine g_SS_70 d_SS_giveUp_11 (by first | assumption | decide | omega) (by first | assumption | rfl) ?_
      refine XE.if_ne 19 d_SS_giveUp_14 (by decide) (fun h14 => absurd h14 ((fun z => z hg0))) (fun h14 => ?_)
      refine XE.iconst (x := (-1)) d_SS_giveUp_17 (by decide) ?_
      exact XE.ri d_SS_giveUp_18 ⟨rfl, hR, FC.rf⟩
    · by_cases hg1 : hG (mh m x) = nI 1
      · have e : givM m v = (nI 0, setH m (uf (mh m) x (hsG (mh m x) (nI 0)))) := by rw [eg, if_neg (g0 hg0), if_pos hg1]
        have r6 := r6 (nI 0)
        rw [e]
        refine XE.aload_n d_SS_giveUp_0 rfl ?_
        refine XE.iload_n d_SS_giveUp_1 rfl ?_
        refine k_SS_66 0 d_SS_giveUp_2 (by omega) (Nat.le_of_ble_eq_true rfl) (by first | assumption | decide | omega) hh (fun r1 w1 hm1 hq1 => ?_)
        rw [hq1.1, hq1.2]
        clear hq1 hm1 r1 w1
        refine XE.astore_n d_SS_giveUp_5 (by decide) ?_
        refine XE.aload_n d_SS_giveUp_6 rfl ?_
        refine XE.ifnull 17 d_SS_giveUp_7 (by decide) (fun h7 => absurd h7 (x0)) (fun h7 => ?_)
        refine XE.aload_n d_SS_giveUp_10 rfl ?_
        refine g_SS_70 d_SS_giveUp_11 (by first | assumption | decide | omega) (by first | assumption | rfl) ?_
        refine XE.if_ne 19 d_SS_giveUp_14 (by decide) (fun h14 => ?_) (fun h14 => absurd h14 (hg0))
        refine XE.aload_n d_SS_giveUp_19 rfl ?_
        refine g_SS_70 d_SS_giveUp_20 (by first | assumption | decide | omega) (by first | assumption | rfl) ?_
        refine XE.iconst (x := nI 3) d_SS_giveUp_23 (by decide) ?_
        refine XE.icmp_ne 31 d_SS_giveUp_24 (by decide) (fun h24 => ?_) (fun h24 => absurd h24 ((fun z => absurd (hg1.symm.trans z) (by decide))))
        refine XE.iconst (x := nI 0) d_SS_giveUp_31 (by decide) ?_
        refine XE.istore_n d_SS_giveUp_32 (by decide) ?_
        refine XE.aload_n d_SS_giveUp_33 rfl ?_
        refine XE.aload_n d_SS_giveUp_34 rfl ?_
        refine g_SS_70 d_SS_giveUp_35 (by first | assumption | decide | omega) (by first | assumption | rfl) ?_
        refine XE.iconst (x := nI 1) d_SS_giveUp_38 (by decide) ?_
        refine XE.icmp_ne 46 d_SS_giveUp_39 (by decide) (fun h39 => absurd h39 ((fun z => z hg1))) (fun h39 => ?_)
        refine XE.iconst (x := nI 0) d_SS_giveUp_42 (by decide) ?_
        refine XE.goto 47 d_SS_giveUp_43 (by decide) ?_
        refine p_SS_70 d_SS_giveUp_47 (by first | assumption | decide | omega) ?_
        refine XE.iload_n d_SS_giveUp_50 rfl ?_
        refine XE.if_eq 58 d_SS_giveUp_51 (by decide) (fun h51 => ?_) (fun h51 => absurd h51 ((by decide)))
        refine XE.aload_n d_SS_giveUp_58 rfl ?_
        refine g_SS_70 d_SS_giveUp_59 (by first | assumption | decide | omega) (by first | assumption | rfl) ?_
        exact XE.ri d_SS_giveUp_62 ⟨rfl, hR.gset hB (nI 0), FC.sI (by decide)⟩
      · by_cases hg3 : hG (mh m x) = nI 3
        · have e : givM m v = (nI 1, tryM (setH m (uf (mh m) x (hsG (mh m x) (nI 1))))) := by rw [eg, if_neg (g0 hg0), if_neg hg1, if_pos hg3]
          rw [e]
          have hB2 := hB.gset x (nI 1)
          have hD2 : BD c (setH m (uf (mh m) x (hsG (mh m x) (nI 1)))) := hD
          have hI2 := gset_mi hI hB x (nI 1) (fun z => absurd z (by decide))
          have hta := SS_tryAgain_ok (d := 5) (hR.gset hB (x := x) (nI 1)) hB2 hD2 hI2 (by omega)
          have e1 : mh (setH m (uf (mh m) x (hsG (mh m x) (nI 1)))) x = hsG (mh m x) (nI 1) := uf_s _ _ _
          obtain ⟨t1, t2⟩ := tryL_hG (x := x) _ 1 _ hB2 hD2 (by omega) (Nat.add_comm 1 _) x2 (by rw [e1]; show ¬ nI 2 ≤ nI 1; decide)
          refine XE.aload_n d_SS_giveUp_0 rfl ?_
          refine XE.iload_n d_SS_giveUp_1 rfl ?_
          refine k_SS_66 0 d_SS_giveUp_2 (by omega) (Nat.le_of_ble_eq_true rfl) (by first | assumption | decide | omega) hh (fun r1 w1 hm1 hq1 => ?_)
          rw [hq1.1, hq1.2]
          clear hq1 hm1 r1 w1
          refine XE.astore_n d_SS_giveUp_5 (by decide) ?_
          refine XE.aload_n d_SS_giveUp_6 rfl ?_
          refine XE.ifnull 17 d_SS_giveUp_7 (by decide) (fun h7 => absurd h7 (x0)) (fun h7 => ?_)
          refine XE.aload_n d_SS_giveUp_10 rfl ?_
          refine g_SS_70 d_SS_giveUp_11 (by first | assumption | decide | omega) (by first | assumption | rfl) ?_
          refine XE.if_ne 19 d_SS_giveUp_14 (by decide) (fun h14 => ?_) (fun h14 => absurd h14 (hg0))
          refine XE.aload_n d_SS_giveUp_19 rfl ?_
          refine g_SS_70 d_SS_giveUp_20 (by first | assumption | decide | omega) (by first | assumption | rfl) ?_
          refine XE.iconst (x := nI 3) d_SS_giveUp_23 (by decide) ?_
          refine XE.icmp_ne 31 d_SS_giveUp_24 (by decide) (fun h24 => absurd h24 ((fun z => z hg3))) (fun h24 => ?_)
          refine XE.iconst (x := nI 1) d_SS_giveUp_27 (by decide) ?_
          refine XE.goto 32 d_SS_giveUp_28 (by decide) ?_
          refine XE.istore_n d_SS_giveUp_32 (by decide) ?_
          refine XE.aload_n d_SS_giveUp_33 rfl ?_
          refine XE.aload_n d_SS_giveUp_34 rfl ?_
          refine g_SS_70 d_SS_giveUp_35 (by first | assumption | decide | omega) (by first | assumption | rfl) ?_
          refine XE.iconst (x := nI 1) d_SS_giveUp_38 (by decide) ?_
          refine XE.icmp_ne 46 d_SS_giveUp_39 (by decide) (fun h39 => ?_) (fun h39 => absurd h39 (hg1))
          refine XE.iconst (x := nI 1) d_SS_giveUp_46 (by decide) ?_
          refine p_SS_70 d_SS_giveUp_47 (by first | assumption | decide | omega) ?_
          refine XE.iload_n d_SS_giveUp_50 rfl ?_
          refine XE.if_eq 58 d_SS_giveUp_51 (by decide) (fun h51 => absurd h51 ((by decide))) (fun h51 => ?_)
          refine XE.aload_n d_SS_giveUp_54 rfl ?_
          refine k_SS_73 5 d_SS_giveUp_55 (by omega) (Nat.le_of_ble_eq_true rfl) (by first | assumption | decide | omega) hta (fun y1 w2 hm1 hq1 => ?_)
          obtain ⟨rfl, hR2, hF2⟩ := hq1
          have f6 : wI w2 2 x 6 = nI 1 := by ( have := (hR2.2.2.2.2.2.1.2.2.1 x x1 (Nat.le_trans x2 t2)).2.2.2.2.2; rw [this, show mh (tryM (setH m (uf (mh m) x (hsG (mh m x) (nI 1))))) x = _ from t1, e1]; rfl )
          refine XE.aload_n d_SS_giveUp_58 rfl ?_
          refine g_SS_70 d_SS_giveUp_59 (by first | assumption | decide | omega) (by first | assumption | rfl) ?_
          exact XE.ri d_SS_giveUp_62 ⟨rfl, hR2, (FC.sI (by decide)).tr hF2⟩
        · have e : givM m v = (nI 1, setH m (uf (mh m) x (hsG (mh m x) (nI 1)))) := by rw [eg, if_neg (g0 hg0), if_neg hg1, if_neg hg3]
          have r6 := r6 (nI 1)
          rw [e]
          refine XE.aload_n d_SS_giveUp_0 rfl ?_
          refine XE.iload_n d_SS_giveUp_1 rfl ?_
          refine k_SS_66 0 d_SS_giveUp_2 (by omega) (Nat.le_of_ble_eq_true rfl) (by first | assumption | decide | omega) hh (fun r1 w1 hm1 hq1 => ?_)
          rw [hq1.1, hq1.2]
          clear hq1 hm1 r1 w1
          refine XE.astore_n d_SS_giveUp_5 (by decide) ?_
          refine XE.aload_n d_SS_giveUp_6 rfl ?_
          refine XE.ifnull 17 d_SS_giveUp_7 (by decide) (fun h7 => absurd h7 (x0)) (fun h7 => ?_)
          refine XE.aload_n d_SS_giveUp_10 rfl ?_
          refine g_SS_70 d_SS_giveUp_11 (by first | assumption | decide | omega) (by first | assumption | rfl) ?_
          refine XE.if_ne 19 d_SS_giveUp_14 (by decide) (fun h14 => ?_) (fun h14 => absurd h14 (hg0))
          refine XE.aload_n d_SS_giveUp_19 rfl ?_
          refine g_SS_70 d_SS_giveUp_20 (by first | assumption | decide | omega) (by first | assumption | rfl) ?_
          refine XE.iconst (x := nI 3) d_SS_giveUp_23 (by decide) ?_
          refine XE.icmp_ne 31 d_SS_giveUp_24 (by decide) (fun h24 => ?_) (fun h24 => absurd h24 (hg3))
          refine XE.iconst (x := nI 0) d_SS_giveUp_31 (by decide) ?_
          refine XE.istore_n d_SS_giveUp_32 (by decide) ?_
          refine XE.aload_n d_SS_giveUp_33 rfl ?_
          refine XE.aload_n d_SS_giveUp_34 rfl ?_
          refine g_SS_70 d_SS_giveUp_35 (by first | assumption | decide | omega) (by first | assumption | rfl) ?_
          refine XE.iconst (x := nI 1) d_SS_giveUp_38 (by decide) ?_
          refine XE.icmp_ne 46 d_SS_giveUp_39 (by decide) (fun h39 => ?_) (fun h39 => absurd h39 (hg1))
          refine XE.iconst (x := nI 1) d_SS_giveUp_46 (by decide) ?_
          refine p_SS_70 d_SS_giveUp_47 (by first | assumption | decide | omega) ?_
          refine XE.iload_n d_SS_giveUp_50 rfl ?_
          refine XE.if_eq 58 d_SS_giveUp_51 (by decide) (fun h51 => ?_) (fun h51 => absurd h51 ((by decide)))
          refine XE.aload_n d_SS_giveUp_58 rfl ?_
          refine g_SS_70 d_SS_giveUp_59 (by first | assumption | decide | omega) (by first | assumption | rfl) ?_
          exact XE.ri d_SS_giveUp_62 ⟨rfl, hR.gset hB (nI 1), FC.sI (by decide)⟩
end OPN
