/-! THE CLASS: lock, unlock -/
theorem fidx {α : Type} {p q : α → Bool} (h : ∀ k, p k = true → q k = true) : ∀ L : List α, (L.findIdx? p = none → (L.filter q).findIdx? p = none) ∧
    (∀ i, L.findIdx? p = some i → ∃ j, (L.filter q).findIdx? p = some j ∧ j < (L.filter q).length ∧ (L.filter q).eraseIdx j = (L.eraseIdx i).filter q ∧ ∀ q' : α → Bool, (∀ k, p k = true → q' k = false) → (L.eraseIdx i).filter q' = L.filter q') := by
  intro L
  induction L with
  | nil => exact ⟨fun _ => rfl, fun i hi => by simp at hi⟩
  | cons a L ih =>
    by_cases pa : p a = true
    · have e : (a :: L).findIdx? p = some 0 := by rw [List.findIdx?_cons, if_pos pa]
      refine ⟨fun z => by rw [e] at z; exact absurd z (by simp), fun i hi => ?_⟩
      rw [e] at hi
      have : i = 0 := (Option.some.inj hi).symm
      subst this
      rw [List.filter_cons_of_pos (h a pa)]
      refine ⟨0, by rw [List.findIdx?_cons, if_pos pa], by simp, rfl, fun q' hq' => ?_⟩
      rw [List.filter_cons_of_neg (by rw [hq' a pa]; decide)]
      rfl
    · have e : (a :: L).findIdx? p = (L.findIdx? p).map (fun i => i + 1) := by rw [List.findIdx?_cons, if_neg pa]
      by_cases qa : q a = true
      · rw [List.filter_cons_of_pos qa]
        have e2 : (a :: L.filter q).findIdx? p = ((L.filter q).findIdx? p).map (fun i => i + 1) := by rw [List.findIdx?_cons, if_neg pa]
        rw [e, e2]
        refine ⟨fun z => ?_, fun i hi => ?_⟩
        · rw [ih.1 (Option.map_eq_none_iff.mp z)]; rfl
        · obtain ⟨i', hi', rfl⟩ := Option.map_eq_some_iff.mp hi
          obtain ⟨j, j1, j2, j3, j4⟩ := ih.2 i' hi'
          refine ⟨j + 1, by rw [j1]; rfl, by simp; omega, ?_, fun q' hq' => ?_⟩
          · show a :: (L.filter q).eraseIdx j = (a :: L.eraseIdx i').filter q
            rw [List.filter_cons_of_pos qa, j3]
          · show (a :: L.eraseIdx i').filter q' = (a :: L).filter q'
            rw [List.filter_cons, List.filter_cons, j4 q' hq']
      · rw [List.filter_cons_of_neg qa]
        rw [e]
        refine ⟨fun z => ih.1 (Option.map_eq_none_iff.mp z), fun i hi => ?_⟩
        obtain ⟨i', hi', rfl⟩ := Option.map_eq_some_iff.mp hi
        obtain ⟨j, j1, j2, j3, j4⟩ := ih.2 i' hi'
        refine ⟨j, j1, j2, ?_, fun q' hq' => ?_⟩
        · show (L.filter q).eraseIdx j = (a :: L.eraseIdx i').filter q
          rw [List.filter_cons_of_neg qa, j3]
        · show (a :: L.eraseIdx i').filter q' = (a :: L).filter q'
          rw [List.filter_cons, List.filter_cons, j4 q' hq']
section LCK
variable {w : WW} {m : MS} {c d : Nat}
theorem bad_eq {v : Int32} (hx : hOf m v ≠ 0) (f n : Int32) : badM m v f n = !(rgB f n && !tF (mT m) (hN (mh m (hOf m v)))) := by
  unfold badM mayM rgB
  rw [beq_eq_false_iff_ne.mpr hx, show (hA (mh m (hOf m v)) &&& nI 0 == nI 0) = true from by rw [show (nI 0 : Int32) = 0 from rfl, Int32.and_zero]; rfl]
  cases tF (mT m) (hN (mh m (hOf m v))) <;> cases (decide (nI 0 ≤ f) && decide (f ≤ nI 31)) <;> cases (decide (nI 1 ≤ n) && decide (n ≤ nI 32 - f)) <;> rfl
theorem bad0 {v : Int32} (hx : hOf m v = 0) (f n : Int32) : badM m v f n = true := by
  unfold badM mayM
  rw [hx]
  rfl
theorem rgB_t {f n : Int32} (h : rgB f n = true) : ∃ i k, i ≤ 31 ∧ 1 ≤ k ∧ i + k ≤ 32 ∧ f = nI i ∧ n = nI k := by
  unfold rgB at h
  rw [Bool.and_eq_true] at h
  obtain ⟨i, hi, rfl⟩ := rng0 (by decide) (dec2 h.1)
  have h2 := dec2 h.2
  rw [nI_sb (by omega)] at h2
  obtain ⟨k, rfl, k1, k2, -⟩ := rng_nI (n := 32 - i) (by omega) h2.1 h2.2
  exact ⟨i, k, hi, k1, by omega, rfl, rfl⟩
theorem met_lc (m : MS) (x f e : Nat) (al : Bool) : (mK m).any (metP m x f e al 1) = (lkL m (hN (mh m x))).any (lcP f e al) := by
  refine any_lk m x (fun k _ => ?_)
  unfold metP lcP
  rw [Bool.and_assoc, Bool.and_assoc]
  congr 1
  rw [Bool.and_assoc]
  congr 2
  rw [if_neg (fun z => absurd z.2 (by decide)), if_neg (fun z => absurd z.2 (by decide))]
/-- a new lock, in no list yet -/
theorem cr_lk (hR : CR w m) (x : Nat) (f n a : Int32) : CR (lkW (nO w 4 4) (wC w 4 + 1) x f n a) m := by
  obtain ⟨c1, c2, c3, c4, c5, c6, c7, c8⟩ := hR
  refine ⟨c1, c2, c3, c4, fun k hk hs => ?_, c6, c7, c8⟩
  have q := c5 k hk hs
  refine ⟨q.1, q.2.mono (fun κ y z => ?_)⟩
  obtain ⟨z0, z1, z2, z3, z4, z5, z6, z7⟩ := z
  have hne : κ ≠ wC w 4 + 1 := by omega
  refine ⟨z0, ?_, ?_, ?_, ?_, z5, z6, Nat.le_succ_of_le z7⟩ <;> (unfold lkW; simp only [wI_sI, wR_sI, wR_sR, wI_sR, hne, false_and, and_false, if_false]; assumption)
theorem fc_lk (w : WW) (x : Nat) (f n a : Int32) : FC 1 w (lkW (nO w 4 4) (wC w 4 + 1) x f n a) := by
  have h4 : (4 : Nat) ≠ 7 ∧ 4 ≠ 99 ∧ 4 < 110 := by decide
  refine ⟨((((FC0.nO h4).tr (FC0.sR h4)).tr (FC0.sI h4)).tr (FC0.sI h4)).tr (FC0.sI h4), Nat.le_refl _, ?_, fun k h => ?_⟩
  · show (wC w 4 + 1) + wC w 5 + wC w 2 ≤ wC w 4 + wC w 5 + wC w 2 + 1
    omega
  · show (if k = 4 then _ else wC w k) = wC w k
    rw [if_neg (by omega)]
theorem lkr_new (w : WW) {x i k : Nat} (al : Bool) (h1 : 1 ≤ k) (h2 : i + k ≤ 32) : LKR (lkW (nO w 4 4) (wC w 4 + 1) x (nI i) (nI k) (bI al)) (wC w 4 + 1) (x, i, i + k, al) := by
  refine ⟨Nat.succ_ne_zero _, ?_, ?_, ?_, ?_, by show i < i + k; omega, h2, Nat.le_refl _⟩
  · unfold lkW; simp [wR_sI, wR_sR]
  · unfold lkW; simp [wI_sI, wI_sR]
  · unfold lkW; simp [wI_sI, wI_sR]
  · unfold lkW; simp [wI_sI, wI_sR]
theorem lkL_addK (m : MS) (k : KR') (n : Nat) : lkL (addK m k) n = if hN (mh m k.1) = n then lkL m n ++ [k] else lkL m n := by
  show (mK m ++ [k]).filter (fun k => hN (mh m k.1) == n) = _
  rw [List.filter_append]
  by_cases e : hN (mh m k.1) = n
  · rw [if_pos e, show [k].filter (fun k => hN (mh m k.1) == n) = [k] by simp [e]]
    rfl
  · rw [if_neg e, show [k].filter (fun k => hN (mh m k.1) == n) = [] by simp [e]]
    exact List.append_nil _
set_option maxHeartbeats 1000000 in
theorem SS_lock_ok (hR : CR w m) (hB : WB m) (hI : MI m) (hd : 3 ≤ d) (v f n : Int32) (al : Bool) : E_SS_lock d [.inr (0, 1), .inl v, .inl f, .inl n, .inl (bI al)] w (fun r w' => r = some (.inl (lckM m v f n al).1) ∧ CR w' (lckM m v f n al).2 ∧ FC 1 w w') := by
  refine S_SS_lock ?_
  have hh := SS_openHandle_ok (d := 0) hR hB hI v
  by_cases hx : hOf m v = 0
  · have e : lckM m v f n al = (-1, m) := if_pos (bad0 hx f n)
    rw [hx, nk_z] at hh
    rw [e]
    refine XE.aload_n d_SS_lock_0 rfl ?_
    refine XE.iload_n d_SS_lock_1 rfl ?_
    refine k_SS_66 0 d_SS_lock_2 (by omega) (Nat.le_of_ble_eq_true rfl) (by first | assumption | decide | omega) hh (fun r1 w1 hm1 hq1 => ?_)
    rw [hq1.1, hq1.2]
    clear hq1 hm1 r1 w1
    refine XE.astore d_SS_lock_5 (by decide) ?_
    refine XE.aload d_SS_lock_7 rfl ?_
    refine XE.ifnull 31 d_SS_lock_9 (by decide) (fun h9 => ?_) (fun h9 => absurd h9 ((fun z => z rfl)))
    refine XE.iconst (x := (-1)) d_SS_lock_31 (by decide) ?_
    exact XE.ri d_SS_lock_32 ⟨rfl, hR, FC.rf1⟩
  · have hX := hR.hx hB hx
    rw [nk_nz hx] at hh
    have em := bad_eq (m := m) (v := v) hx f n
    have eg : lckM m v f n al = if badM m v f n = true then (-1, m)
      else if (mK m).any (metP m (hOf m v) f.toNatClampNeg (f.toNatClampNeg + n.toNatClampNeg) al 1) = true then (-8, m)
      else if lksN m (hN (mh m (hOf m v))) = 8 then (-2, m)
      else (nI (lksN (addK m (hOf m v, f.toNatClampNeg, f.toNatClampNeg + n.toNatClampNeg, al)) (hN (mh m (hOf m v)))), addK m (hOf m v, f.toNatClampNeg, f.toNatClampNeg + n.toNatClampNeg, al)) := rfl
    generalize hq : hOf m v = x at *
    obtain ⟨x0, x1, x2, x3, x4, x5, x6, x7, x7b, x8, x9, h1, h2, h3, h4, h5, h6⟩ := hX
    have hrg := SS_isRange_ok (w := w) (d := 2) (by omega) f n
    have bad : ∀ {pc : Nat} {ls : List (Option VV)}, decode c_SS_lock pc = .ok (.ireturn, 1) → badM m v f n = true → X_SS_lock d pc ls [.inl (-1)] w (fun r w' => r = some (.inl (lckM m v f n al).1) ∧ CR w' (lckM m v f n al).2 ∧ FC 1 w w') := by
      intro pc ls hdc hn
      have e : lckM m v f n al = (-1, m) := by rw [eg, if_pos hn]
      exact XE.ri hdc ⟨by rw [e], by rw [e]; exact hR, FC.rf1⟩
    have good : rgB f n = true → tF (mT m) (hN (mh m x)) = false → X_SS_lock d 33 [some (.inr (0, 1)), some (.inl v), some (.inl f), some (.inl n), some (.inl (bI al)), some (.inr (2, x)), none] [] w (fun r w' => r = some (.inl (lckM m v f n al).1) ∧ CR w' (lckM m v f n al).2 ∧ FC 1 w w') := by
      intro g1 g2
      rw [em, g1, g2, if_neg (by decide)] at eg
      obtain ⟨i, k, hi, hk, hik, rfl, rfl⟩ := rgB_t g1
      rw [nI_clamp (by omega), nI_clamp (by omega), met_lc] at eg
      have hRk := cr_lk hR x (nI i) (nI k) (bI al)
      have hFk := fc_lk w x (nI i) (nI k) (bI al)
      have hnew := lkr_new w (x := x) al hk hik
      have hini := Lk_init_ok (w := nO w 4 4) (d := 2) (o := wC w 4 + 1) (by omega) (by omega) x (nI i) (nI k) al
      generalize hw : lkW (nO w 4 4) (wC w 4 + 1) x (nI i) (nI k) (bI al) = u at *
      have r1 : wR u 2 x 1 = wR u 100 1 (hN (mh m x)) := hRk.2.2.2.2.2.1.2.2.2.1 x x1 x2 x3
      have hT := hRk.ct hB
      have u0 : wR u 100 1 (hN (mh m x)) ≠ 0 := hT.nz x4 x5
      have hnl := hRk.nl hB hI x4 x5
      have hu1 : wI u 1 (wR u 100 1 (hN (mh m x))) 1 = bI (tF (mT m) (hN (mh m x))) := ((hT.2 _ x4).2.2 x5).2.1
      obtain ⟨y5, y6, y7⟩ := hRk.2.1.2.2.1 _ (Nat.pos_of_ne_zero u0) (hRk.N hB x4)
      have yl : wL u 104 (wR u 100 1 (hN (mh m x))) = 8 := by
        rcases y7 with ⟨-, -, y⟩ | ⟨y, -⟩
        · exact y
        · rw [hu1, g2] at y; exact absurd y (by decide)
      have hbl := Nd_barsLocking_ok (d := 2) u0 hnl hnew (by omega)
      have h7 : wI u 1 (wR u 100 1 (hN (mh m x))) 7 = nI (lksN m (hN (mh m x))) := by rw [← lkL_len]; exact hnl.2.1
      have h8 := hI.2.1 (hN (mh m x))
      have hend : lksN m (hN (mh m x)) < 8 → lckM m v (nI i) (nI k) al = (nI (lksN (addK m (x, i, i + k, al)) (hN (mh m x))), addK m (x, i, i + k, al)) → X_SS_lock d 80 [some (.inr (0, 1)), some (.inl v), some (.inl (nI i)), some (.inl (nI k)), some (.inl (bI al)), some (.inr (2, x)), some (.inr (4, wC w 4 + 1))] [] u (fun r w' => r = some (.inl (lckM m v (nI i) (nI k) al).1) ∧ CR w' (lckM m v (nI i) (nI k) al).2 ∧ FC 1 w w') := by
        intro hlt e
        have had := Nd_addLock_ok (d := 2) u0 hnl (by rw [lkL_len]; exact hlt) yl hnew
        rw [e]
        refine XE.aload d_SS_lock_80 rfl ?_
        refine g_SS_76 (x := wR u 100 1 (hN (mh m x))) d_SS_lock_82 (by first | assumption | decide | omega) (by first | assumption | rfl) ?_
        refine XE.aload d_SS_lock_85 rfl ?_
        refine k_SS_171 2 d_SS_lock_87 (by omega) (Nat.le_of_ble_eq_true rfl) (by first | assumption | decide | omega) had (fun y1 w2 hm1 hq1 => ?_)
        obtain ⟨rfl, hN2, hK2⟩ := hq1
        have el := lkL_addK m (x, i, i + k, al) (hN (mh m x))
        rw [if_pos rfl] at el
        rw [← el] at hN2
        have hC2 : CR w2 (addK m (x, i, i + k, al)) := hRk.setk hB x4 x5 hK2 hN2 (fun k' hk' => (by have := lkL_addK m (x, i, i + k, al) k'; rw [if_neg (fun z => hk' z.symm)] at this; exact this))
        have r2 : wR w2 2 x 1 = wR u 100 1 (hN (mh m x)) := (by rw [hK2.2.2.1 _ _ _ (by omega)]; exact r1)
        have h72 : wI w2 1 (wR u 100 1 (hN (mh m x))) 7 = nI (lksN (addK m (x, i, i + k, al)) (hN (mh m x))) := (by rw [← lkL_len]; exact hN2.2.1)
        refine XE.aload d_SS_lock_90 rfl ?_
        refine g_SS_76 d_SS_lock_92 (by first | assumption | decide | omega) (by first | assumption | rfl) ?_
        refine g_SS_168 d_SS_lock_95 (by first | assumption | decide | omega) (by first | assumption | rfl) ?_
        exact XE.ri d_SS_lock_98 ⟨rfl, hC2, hFk.tr (FC.FK hK2)⟩
      refine n_SS_159 d_SS_lock_33 ?_
      refine XE.dup d_SS_lock_36 ?_
      refine XE.aload d_SS_lock_37 rfl ?_
      refine XE.iload_n d_SS_lock_39 rfl ?_
      refine XE.iload_n d_SS_lock_40 rfl ?_
      refine XE.iload d_SS_lock_41 rfl ?_
      refine k_SS_161 2 d_SS_lock_43 (by omega) (Nat.le_of_ble_eq_true rfl) (by first | assumption | decide | omega) hini (fun r1 w1 hm1 hq1 => ?_)
      rw [hq1.1, hq1.2]
      clear hq1 hm1 r1 w1
      refine XE.astore d_SS_lock_46 (by decide) ?_
      refine XE.aload d_SS_lock_48 rfl ?_
      refine g_SS_76 (x := wR u 100 1 (hN (mh m x))) d_SS_lock_50 (by first | assumption | decide | omega) (by first | assumption | rfl) ?_
      refine XE.aload d_SS_lock_53 rfl ?_
      refine k_SS_164 2 d_SS_lock_55 (by omega) (Nat.le_of_ble_eq_true rfl) (by first | assumption | decide | omega) hbl (fun r1 w1 hm1 hq1 => ?_)
      rw [hq1.1, hq1.2]
      clear hq1 hm1 r1 w1
      refine XE.if_eq 64 d_SS_lock_58 (by decide) (fun h58 => ?_) (fun h58 => ?_)
      · rw [if_neg (by rw [(bI_eq0 _).mp h58]; decide)] at eg
        refine XE.aload d_SS_lock_64 rfl ?_
        refine g_SS_76 d_SS_lock_66 (by first | assumption | decide | omega) (by first | assumption | rfl) ?_
        refine g_SS_168 d_SS_lock_69 (by first | assumption | decide | omega) (by first | assumption | rfl) ?_
        refine XE.bipush (x := nI 8) d_SS_lock_72 (by decide) ?_
        refine XE.icmp_lt 80 d_SS_lock_74 (by decide) (fun h74 => ?_) (fun h74 => ?_)
        · have q8 := (lt_nI (by omega) (by omega)).mp h74
          rw [if_neg (by omega)] at eg
          exact hend q8 eg
        · rw [if_pos (by have : ¬ lksN m (hN (mh m x)) < 8 := fun z => h74 ((lt_nI (by omega) (by omega)).mpr z); omega)] at eg
          refine XE.bipush (x := (-2)) d_SS_lock_77 (by decide) ?_
          exact XE.ri d_SS_lock_79 ⟨by rw [eg], by rw [eg]; exact hRk, hFk⟩
      · rw [if_pos (te _ h58)] at eg
        refine XE.bipush (x := (-8)) d_SS_lock_61 (by decide) ?_
        exact XE.ri d_SS_lock_63 ⟨by rw [eg], by rw [eg]; exact hRk, hFk⟩
    refine XE.aload_n d_SS_lock_0 rfl ?_
    refine XE.iload_n d_SS_lock_1 rfl ?_
    refine k_SS_66 0 d_SS_lock_2 (by omega) (Nat.le_of_ble_eq_true rfl) (by first | assumption | decide | omega) hh (fun r1 w1 hm1 hq1 => ?_)
    rw [hq1.1, hq1.2]
    clear hq1 hm1 r1 w1
    refine XE.astore d_SS_lock_5 (by decide) ?_
    refine XE.aload d_SS_lock_7 rfl ?_
    refine XE.ifnull 31 d_SS_lock_9 (by decide) (fun h9 => absurd h9 (x0)) (fun h9 => ?_)
    refine XE.iload_n d_SS_lock_12 rfl ?_
    refine XE.iload_n d_SS_lock_13 rfl ?_
    refine k_SS_156 2 d_SS_lock_14 (by omega) (Nat.le_of_ble_eq_true rfl) hrg (fun r1 w1 hm1 hq1 => ?_)
    rw [hq1.1, hq1.2]
    clear hq1 hm1 r1 w1
    refine XE.if_eq 31 d_SS_lock_17 (by decide) (fun h17 => ?_) (fun h17 => ?_)
    · have bd : badM m v f n = true := by rw [em, (bI_eq0 _).mp h17]; rfl
      refine XE.iconst (x := (-1)) d_SS_lock_31 (by decide) ?_
      exact bad d_SS_lock_32 bd
    · have g1 := te _ h17
      refine XE.aload d_SS_lock_20 rfl ?_
      refine g_SS_76 d_SS_lock_22 (by first | assumption | decide | omega) (by first | assumption | rfl) ?_
      refine g_SS_136 d_SS_lock_25 (by first | assumption | decide | omega) (by first | assumption | rfl) ?_
      refine XE.if_eq 33 d_SS_lock_28 (by decide) (fun h28 => ?_) (fun h28 => ?_)
      · exact good g1 ((bI_eq0 _).mp h28)
      · have bd : badM m v f n = true := by rw [em, te _ h28, g1]; rfl
        refine XE.iconst (x := (-1)) d_SS_lock_31 (by decide) ?_
        exact bad d_SS_lock_32 bd
theorem mi_lck (hB : WB m) (hI : MI m) (v f n : Int32) (al : Bool) : MI (lckM m v f n al).2 := by
  unfold lckM
  split
  · exact hI
  · rename_i q1
    split
    · exact hI
    · split
      · exact hI
      · rename_i q3
        have q1 : badM m v f n = false := by
          cases z : badM m v f n with
          | false => rfl
          | true => exact absurd z q1
        obtain ⟨hm, i, k, hi, hk, hik, rfl, rfl⟩ := badM_f q1
        obtain ⟨b1, -, b3, -⟩ := mayM_t hm
        obtain ⟨-, a2, a3, a4⟩ := hOf_nz hB b1
        rw [nI_clamp (by omega), nI_clamp (by omega)]
        obtain ⟨i1, i2, i3, i4, i5, i6, i7, i8⟩ := hI
        refine ⟨i1, fun n' => ?_, fun k' hk' => ?_, i4, i5, i6, i7, i8⟩
        · show lksN (addK m (hOf m v, i, i + k, al)) n' ≤ 8
          rw [← lkL_len, lkL_addK]
          have := i2 n'
          split
          · rename_i e
            have e : hN (mh m (hOf m v)) = n' := e
            rw [List.length_append, lkL_len]
            rw [e] at q3
            show lksN m n' + 1 ≤ 8
            omega
          · rw [lkL_len]; exact this
        · have hk' : k' ∈ mK m ++ [(hOf m v, i, i + k, al)] := hk'
          rcases List.mem_append.mp hk' with z | z
          · exact i3 k' z
          · rw [List.mem_singleton] at z
            subst z
            exact ⟨a4, b3, by show i < i + k; omega⟩
set_option maxHeartbeats 1000000 in
theorem SS_unlock_ok (hR : CR w m) (hB : WB m) (hI : MI m) (hd : 2 ≤ d) (v f n : Int32) : E_SS_unlock d [.inr (0, 1), .inl v, .inl f, .inl n] w (fun r w' => r = some (.inl (ulkM m v f n).1) ∧ CR w' (ulkM m v f n).2 ∧ FC 0 w w') := by
  refine S_SS_unlock ?_
  have hh := SS_openHandle_ok (d := 0) hR hB hI v
  by_cases hx : hOf m v = 0
  · have e : ulkM m v f n = (-1, m) := if_pos (bad0 hx f n)
    rw [hx, nk_z] at hh
    rw [e]
    refine XE.aload_n d_SS_unlock_0 rfl ?_
    refine XE.iload_n d_SS_unlock_1 rfl ?_
    refine k_SS_66 0 d_SS_unlock_2 (by omega) (Nat.le_of_ble_eq_true rfl) (by first | assumption | decide | omega) hh (fun r1 w1 hm1 hq1 => ?_)
    rw [hq1.1, hq1.2]
    clear hq1 hm1 r1 w1
    refine XE.astore d_SS_unlock_5 (by decide) ?_
    refine XE.aload d_SS_unlock_7 rfl ?_
    refine XE.ifnull 31 d_SS_unlock_9 (by decide) (fun h9 => ?_) (fun h9 => absurd h9 ((fun z => z rfl)))
    refine XE.iconst (x := (-1)) d_SS_unlock_31 (by decide) ?_
    exact XE.ri d_SS_unlock_32 ⟨rfl, hR, FC.rf⟩
  · have hX := hR.hx hB hx
    rw [nk_nz hx] at hh
    have em := bad_eq (m := m) (v := v) hx f n
    have eg : ulkM m v f n = if badM m v f n = true then (-1, m)
      else ulkR m (hN (mh m (hOf m v))) ((mK m).findIdx? (ulkP (hOf m v) f.toNatClampNeg n.toNatClampNeg)) := by
      unfold ulkM ulkR
      rfl
    generalize hq : hOf m v = x at *
    obtain ⟨x0, x1, x2, x3, x4, x5, x6, x7, x7b, x8, x9, h1, h2, h3, h4, h5, h6⟩ := hX
    have hrg := SS_isRange_ok (w := w) (d := 1) (by omega) f n
    have bad : ∀ {pc : Nat} {ls : List (Option VV)}, decode c_SS_unlock pc = .ok (.ireturn, 1) → badM m v f n = true → X_SS_unlock d pc ls [.inl (-1)] w (fun r w' => r = some (.inl (ulkM m v f n).1) ∧ CR w' (ulkM m v f n).2 ∧ FC 0 w w') := by
      intro pc ls hdc hn
      have e : ulkM m v f n = (-1, m) := by rw [eg, if_pos hn]
      exact XE.ri hdc ⟨by rw [e], by rw [e]; exact hR, FC.rf⟩
    have good : rgB f n = true → tF (mT m) (hN (mh m x)) = false → X_SS_unlock d 33 [some (.inr (0, 1)), some (.inl v), some (.inl f), some (.inl n), some (.inr (2, x)), none] [] w (fun r w' => r = some (.inl (ulkM m v f n).1) ∧ CR w' (ulkM m v f n).2 ∧ FC 0 w w') := by
      intro g1 g2
      rw [em, g1, g2, if_neg (by decide)] at eg
      obtain ⟨i, k, hi, hk, hik, rfl, rfl⟩ := rgB_t g1
      rw [nI_clamp (by omega), nI_clamp (by omega)] at eg
      have hnl := hR.nl hB hI x4 x5
      have hol := Nd_oldestLock_ok (d := 1) (x := x) (f := i) (n := k) x7 hnl hi (by omega)
      have hfi := fidx (p := ulkP x i k) (q := fun q : KR' => hN (mh m q.1) == hN (mh m x)) (fun q hq => by
        unfold ulkP at hq
        rw [Bool.and_eq_true, beq_iff_eq] at hq
        rw [hq.1]
        exact beq_self_eq_true _) (mK m)
      have hlk : lkL m (hN (mh m x)) = (mK m).filter (fun q : KR' => hN (mh m q.1) == hN (mh m x)) := rfl
      have h8 : (lkL m (hN (mh m x))).length ≤ 8 := by rw [lkL_len]; exact hI.2.1 _
      cases hfo : (mK m).findIdx? (ulkP x i k) with
      | none =>
        rw [hfo] at eg
        have eg : ulkM m v (nI i) (nI k) = (-1, m) := eg
        have hn := hfi.1 hfo
        rw [← hlk] at hn
        rw [hn] at hol
        have hol : E_Nd_oldestLock 1 [.inr (1, wR w 100 1 (hN (mh m x))), .inr (2, x), .inl (nI i), .inl (nI k)] w (fun r w' => r = some (.inl (-1)) ∧ w' = w) := hol
        refine XE.aload d_SS_unlock_33 rfl ?_
        refine g_SS_76 (x := wR w 100 1 (hN (mh m x))) d_SS_unlock_35 (by first | assumption | decide | omega) (by first | assumption | rfl) ?_
        refine XE.aload d_SS_unlock_38 rfl ?_
        refine XE.iload_n d_SS_unlock_40 rfl ?_
        refine XE.iload_n d_SS_unlock_41 rfl ?_
        refine k_SS_175 1 d_SS_unlock_42 (by omega) (Nat.le_of_ble_eq_true rfl) (by first | assumption | decide | omega) hol (fun r1 w1 hm1 hq1 => ?_)
        rw [hq1.1, hq1.2]
        clear hq1 hm1 r1 w1
        refine XE.istore d_SS_unlock_45 (by decide) ?_
        refine XE.iload d_SS_unlock_47 rfl ?_
        refine XE.if_ge 54 d_SS_unlock_49 (by decide) (fun h49 => absurd h49 ((by decide))) (fun h49 => ?_)
        refine XE.iconst (x := (-1)) d_SS_unlock_52 (by decide) ?_
        exact XE.ri d_SS_unlock_53 ⟨by rw [eg], by rw [eg]; exact hR, FC.rf⟩
      | some t =>
        rw [hfo] at eg
        have eg : ulkM m v (nI i) (nI k) = (nI (lksN (setK m ((mK m).eraseIdx t)) (hN (mh m x))), setK m ((mK m).eraseIdx t)) := eg
        obtain ⟨j, j1, j2, j3, j4⟩ := hfi.2 t hfo
        rw [← hlk] at j1 j2 j3
        rw [j1] at hol
        have hol : E_Nd_oldestLock 1 [.inr (1, wR w 100 1 (hN (mh m x))), .inr (2, x), .inl (nI i), .inl (nI k)] w (fun r w' => r = some (.inl (nI j)) ∧ w' = w) := hol
        have hdr := Nd_dropLock_ok (d := 1) x7 hnl j2
        refine XE.aload d_SS_unlock_33 rfl ?_
        refine g_SS_76 (x := wR w 100 1 (hN (mh m x))) d_SS_unlock_35 (by first | assumption | decide | omega) (by first | assumption | rfl) ?_
        refine XE.aload d_SS_unlock_38 rfl ?_
        refine XE.iload_n d_SS_unlock_40 rfl ?_
        refine XE.iload_n d_SS_unlock_41 rfl ?_
        refine k_SS_175 1 d_SS_unlock_42 (by omega) (Nat.le_of_ble_eq_true rfl) (by first | assumption | decide | omega) hol (fun r1 w1 hm1 hq1 => ?_)
        rw [hq1.1, hq1.2]
        clear hq1 hm1 r1 w1
        refine XE.istore d_SS_unlock_45 (by decide) ?_
        refine XE.iload d_SS_unlock_47 rfl ?_
        refine XE.if_ge 54 d_SS_unlock_49 (by decide) (fun h49 => ?_) (fun h49 => absurd h49 ((fun z => z (Int32.not_lt.mp (nI_pos (by omega))))))
        refine XE.aload d_SS_unlock_54 rfl ?_
        refine g_SS_76 (x := wR w 100 1 (hN (mh m x))) d_SS_unlock_56 (by first | assumption | decide | omega) (by first | assumption | rfl) ?_
        refine XE.iload d_SS_unlock_59 rfl ?_
        refine k_SS_179 1 d_SS_unlock_61 (by omega) (Nat.le_of_ble_eq_true rfl) (by first | assumption | decide | omega) hdr (fun y1 w2 hm1 hq1 => ?_)
        obtain ⟨rfl, hN2, hK2⟩ := hq1
        have hN2 : NL w2 (wR w 100 1 (hN (mh m x))) (lkL (setK m ((mK m).eraseIdx t)) (hN (mh m x))) := (by rw [j3] at hN2; exact hN2)
        have hC2 : CR w2 (setK m ((mK m).eraseIdx t)) := hR.setk hB x4 x5 hK2 hN2 (fun k' hk' => j4 (fun q => hN (mh m q.1) == k') (fun q hq => (by unfold ulkP at hq; rw [Bool.and_eq_true, beq_iff_eq] at hq; rw [hq.1]; exact beq_eq_false_iff_ne.mpr (fun z => hk' z.symm))))
        have r2 : wR w2 2 x 1 = wR w 100 1 (hN (mh m x)) := (by rw [hK2.2.2.1 _ _ _ (by omega)]; exact x6)
        have h72 : wI w2 1 (wR w 100 1 (hN (mh m x))) 7 = nI (lksN (setK m ((mK m).eraseIdx t)) (hN (mh m x))) := (by rw [← lkL_len]; exact hN2.2.1)
        refine XE.aload d_SS_unlock_64 rfl ?_
        refine g_SS_76 d_SS_unlock_66 (by first | assumption | decide | omega) (by first | assumption | rfl) ?_
        refine g_SS_168 d_SS_unlock_69 (by first | assumption | decide | omega) (by first | assumption | rfl) ?_
        exact XE.ri d_SS_unlock_72 ⟨by rw [eg], by rw [eg]; exact hC2, FC.FK hK2⟩
    refine XE.aload_n d_SS_unlock_0 rfl ?_
    refine XE.iload_n d_SS_unlock_1 rfl ?_
    refine k_SS_66 0 d_SS_unlock_2 (by omega) (Nat.le_of_ble_eq_true rfl) (by first | assumption | decide | omega) hh (fun r1 w1 hm1 hq1 => ?_)
    rw [hq1.1, hq1.2]
    clear hq1 hm1 r1 w1
    refine XE.astore d_SS_unlock_5 (by decide) ?_
    refine XE.aload d_SS_unlock_7 rfl ?_
    refine XE.ifnull 31 d_SS_unlock_9 (by decide) (fun h9 => absurd h9 (x0)) (fun h9 => ?_)
    refine XE.iload_n d_SS_unlock_12 rfl ?_
    refine XE.iload_n d_SS_unlock_13 rfl ?_
    refine k_SS_156 1 d_SS_unlock_14 (by omega) (Nat.le_of_ble_eq_true rfl) hrg (fun r1 w1 hm1 hq1 => ?_)
    rw [hq1.1, hq1.2]
    clear hq1 hm1 r1 w1
    refine XE.if_eq 31 d_SS_unlock_17 (by decide) (fun h17 => ?_) (fun h17 => ?_)
    · have bd : badM m v f n = true := by rw [em, (bI_eq0 _).mp h17]; rfl
      refine XE.iconst (x := (-1)) d_SS_unlock_31 (by decide) ?_
      exact bad d_SS_unlock_32 bd
    · have g1 := te _ h17
      refine XE.aload d_SS_unlock_20 rfl ?_
      refine g_SS_76 d_SS_unlock_22 (by first | assumption | decide | omega) (by first | assumption | rfl) ?_
      refine g_SS_136 d_SS_unlock_25 (by first | assumption | decide | omega) (by first | assumption | rfl) ?_
      refine XE.if_eq 33 d_SS_unlock_28 (by decide) (fun h28 => ?_) (fun h28 => ?_)
      · exact good g1 ((bI_eq0 _).mp h28)
      · have bd : badM m v f n = true := by rw [em, te _ h28, g1]; rfl
        refine XE.iconst (x := (-1)) d_SS_unlock_31 (by decide) ?_
        exact bad d_SS_unlock_32 bd
theorem mi_ulk (hI : MI m) (v f n : Int32) : MI (ulkM m v f n).2 := by
  unfold ulkM
  split
  · exact hI
  · split
    · exact hI
    · exact mi_subk hI (List.eraseIdx_sublist _ _)
end LCK
