/-! THE CLASS: the leaves -/
theorem Rq_has_ok {w : WW} {d o : Nat} {md : Int32} (ho : o ≠ 0) (h : wI w 3 o 3 = md) (b : Nat) : E_Rq_has d [.inr (3, o), .inl (nI b)] w (fun r w' => r = some (.inl (bI (hasM md b))) ∧ w' = w) := by
  refine S_Rq_has ?_
  refine XE.aload_n d_Rq_has_0 rfl ?_
  refine g_Rq_21 d_Rq_has_1 (by first | assumption | decide | omega) (by first | assumption | rfl) ?_
  refine XE.iload_n d_Rq_has_4 rfl ?_
  refine XE.iand d_Rq_has_5 rfl ?_
  refine XE.if_eq 13 d_Rq_has_6 (by decide) (fun h6 => ?_) (fun h6 => ?_)
  · have e : hasM md b = false := hasM_f.mpr h6
    rw [e]
    refine XE.iconst (x := nI 0) d_Rq_has_13 (by decide) ?_
    exact XE.rb d_Rq_has_14 (by decide) ⟨rfl, rfl⟩
  · have e : hasM md b = true := hasM_t.mpr h6
    rw [e]
    refine XE.iconst (x := nI 1) d_Rq_has_9 (by decide) ?_
    refine XE.goto 14 d_Rq_has_10 (by decide) ?_
    exact XE.rb d_Rq_has_14 (by decide) ⟨rfl, rfl⟩
theorem Rq_access_ok {w : WW} {d o : Nat} {md : Int32} (ho : o ≠ 0) (h : wI w 3 o 3 = md) : E_Rq_access d [.inr (3, o)] w (fun r w' => r = some (.inl (accM md)) ∧ w' = w) := by
  refine S_Rq_access ?_
  refine XE.aload_n d_Rq_access_0 rfl ?_
  refine g_Rq_21 d_Rq_access_1 (by first | assumption | decide | omega) (by first | assumption | rfl) ?_
  refine XE.bipush (x := nI 7) d_Rq_access_4 (by decide) ?_
  refine XE.iand d_Rq_access_6 rfl ?_
  exact XE.ri d_Rq_access_7 ⟨rfl, rfl⟩
theorem Rq_share_ok {w : WW} {d o : Nat} {md : Int32} (ho : o ≠ 0) (h : wI w 3 o 3 = md) : E_Rq_share d [.inr (3, o)] w (fun r w' => r = some (.inl (shrM md)) ∧ w' = w) := by
  refine S_Rq_share ?_
  refine XE.aload_n d_Rq_share_0 rfl ?_
  refine g_Rq_21 d_Rq_share_1 (by first | assumption | decide | omega) (by first | assumption | rfl) ?_
  refine XE.iconst (x := nI 3) d_Rq_share_4 (by decide) ?_
  refine XE.ishr d_Rq_share_5 rfl ?_
  refine XE.bipush (x := nI 7) d_Rq_share_6 (by decide) ?_
  refine XE.iand d_Rq_share_8 rfl ?_
  exact XE.ri d_Rq_share_9 ⟨rfl, rfl⟩
def rqW (w : WW) (o : Nat) (a b c e f : Int32) : WW := sI (sI (sI (sI (sI (sI w 3 o 0 a) 3 o 1 b) 3 o 2 c) 3 o 3 e) 3 o 4 f) 3 o 5 0
theorem Rq_init_ok {w : WW} {d o : Nat} (ho : o ≠ 0) (hd : 1 ≤ d) (a b c e f : Int32) : E_Rq_init d [.inr (3, o), .inl a, .inl b, .inl c, .inl e, .inl f] w (fun r w' => r = none ∧ w' = rqW w o a b c e f) := by
  refine S_Rq_init ?_
  refine XE.aload_n d_Rq_init_0 rfl ?_
  refine k_Rq_3 d_Rq_init_1 (by first | assumption | decide | omega) (by decide) (by omega) ?_
  refine XE.aload_n d_Rq_init_4 rfl ?_
  refine XE.iload_n d_Rq_init_5 rfl ?_
  refine p_Rq_9 d_Rq_init_6 (by first | assumption | decide | omega) ?_
  refine XE.aload_n d_Rq_init_9 rfl ?_
  refine XE.iload_n d_Rq_init_10 rfl ?_
  refine p_Rq_15 d_Rq_init_11 (by first | assumption | decide | omega) ?_
  refine XE.aload_n d_Rq_init_14 rfl ?_
  refine XE.iload_n d_Rq_init_15 rfl ?_
  refine p_Rq_18 d_Rq_init_16 (by first | assumption | decide | omega) ?_
  refine XE.aload_n d_Rq_init_19 rfl ?_
  refine XE.iload d_Rq_init_20 rfl ?_
  refine p_Rq_21 d_Rq_init_22 (by first | assumption | decide | omega) ?_
  refine XE.aload_n d_Rq_init_25 rfl ?_
  refine XE.iload d_Rq_init_26 rfl ?_
  refine p_Rq_24 d_Rq_init_28 (by first | assumption | decide | omega) ?_
  refine XE.aload_n d_Rq_init_31 rfl ?_
  refine XE.iconst (x := nI 0) d_Rq_init_32 (by decide) ?_
  refine p_Rq_27 d_Rq_init_33 (by first | assumption | decide | omega) ?_
  exact XE.rv d_Rq_init_36 ⟨rfl, rfl⟩
def lkW (w : WW) (o x : Nat) (f n a : Int32) : WW := sI (sI (sI (sR w 4 o 0 x) 4 o 1 f) 4 o 2 n) 4 o 3 a
theorem Lk_init_ok {w : WW} {d o : Nat} (ho : o ≠ 0) (hd : 1 ≤ d) (x : Nat) (f n : Int32) (a : Bool) : E_Lk_init d [.inr (4, o), .inr (2, x), .inl f, .inl n, .inl (bI a)] w (fun r w' => r = none ∧ w' = lkW w o x f n (bI a)) := by
  refine S_Lk_init ?_
  have hb := bI_01 a
  refine XE.aload_n d_Lk_init_0 rfl ?_
  refine k_Lk_1 d_Lk_init_1 (by first | assumption | decide | omega) (by decide) (by omega) ?_
  refine XE.aload_n d_Lk_init_4 rfl ?_
  refine XE.aload_n d_Lk_init_5 rfl ?_
  refine p_Lk_7 d_Lk_init_6 (by first | assumption | decide | omega) (by first | exact Or.inl rfl | exact Or.inr rfl) ?_
  refine XE.aload_n d_Lk_init_9 rfl ?_
  refine XE.iload_n d_Lk_init_10 rfl ?_
  refine p_Lk_13 d_Lk_init_11 (by first | assumption | decide | omega) ?_
  refine XE.aload_n d_Lk_init_14 rfl ?_
  refine XE.iload_n d_Lk_init_15 rfl ?_
  refine p_Lk_17 d_Lk_init_16 (by first | assumption | decide | omega) ?_
  refine XE.aload_n d_Lk_init_19 rfl ?_
  refine XE.iload d_Lk_init_20 rfl ?_
  refine p_Lk_20 d_Lk_init_22 (by first | assumption | decide | omega) (by first | assumption | decide) ?_
  exact XE.rv d_Lk_init_25 ⟨rfl, rfl⟩
theorem Lk_covers_ok {w : WW} {d o f n : Nat} (ho : o ≠ 0) (h1 : wI w 4 o 1 = nI f) (h2 : wI w 4 o 2 = nI n) (hf : f ≤ 100) (hn : n ≤ 100) {c : Nat} (hc : c ≤ 100) : E_Lk_covers d [.inr (4, o), .inl (nI c)] w (fun r w' => r = some (.inl (bI (decide (f ≤ c) && decide (c < f + n)))) ∧ w' = w) := by
  refine S_Lk_covers ?_
  refine XE.iload_n d_Lk_covers_0 rfl ?_
  refine XE.aload_n d_Lk_covers_1 rfl ?_
  refine g_Lk_13 d_Lk_covers_2 (by first | assumption | decide | omega) (by first | assumption | rfl) ?_
  refine XE.icmp_lt 25 d_Lk_covers_5 (by decide) (fun h5 => ?_) (fun h5 => ?_)
  · have e : (decide (f ≤ c) && decide (c < f + n)) = false := by have := (lt_nI (by omega) (by omega)).mp h5; simp; omega
    rw [e]
    refine XE.iconst (x := nI 0) d_Lk_covers_25 (by decide) ?_
    exact XE.rb d_Lk_covers_26 (by decide) ⟨rfl, rfl⟩
  · have q5 : ¬ c < f := fun z => h5 ((lt_nI (by omega) (by omega)).mpr z)
    refine XE.iload_n d_Lk_covers_8 rfl ?_
    refine XE.aload_n d_Lk_covers_9 rfl ?_
    refine g_Lk_13 d_Lk_covers_10 (by first | assumption | decide | omega) (by first | assumption | rfl) ?_
    refine XE.aload_n d_Lk_covers_13 rfl ?_
    refine g_Lk_17 d_Lk_covers_14 (by first | assumption | decide | omega) (by first | assumption | rfl) ?_
    refine XE.iadd d_Lk_covers_17 (by first | exact nI_add _ _ | rfl) ?_
    refine XE.icmp_ge 25 d_Lk_covers_18 (by decide) (fun h18 => ?_) (fun h18 => ?_)
    · have e : (decide (f ≤ c) && decide (c < f + n)) = false := by have := (le_nI (by omega) (by omega)).mp h18; simp; omega
      rw [e]
      refine XE.iconst (x := nI 0) d_Lk_covers_25 (by decide) ?_
      exact XE.rb d_Lk_covers_26 (by decide) ⟨rfl, rfl⟩
    · have e : (decide (f ≤ c) && decide (c < f + n)) = true := by have : ¬ f + n ≤ c := fun z => h18 ((le_nI (by omega) (by omega)).mpr z); simp; omega
      rw [e]
      refine XE.iconst (x := nI 1) d_Lk_covers_21 (by decide) ?_
      refine XE.goto 26 d_Lk_covers_22 (by decide) ?_
      exact XE.rb d_Lk_covers_26 (by decide) ⟨rfl, rfl⟩
theorem Lk_meets_ok {w : WW} {d o p f n g k : Nat} (ho : o ≠ 0) (h1 : wI w 4 o 1 = nI f) (h2 : wI w 4 o 2 = nI n) (hf : f ≤ 100) (hn : n ≤ 100) (hp : p ≠ 0) (h3 : wI w 4 p 1 = nI g) (h4 : wI w 4 p 2 = nI k) (hg : g ≤ 100) (hk : k ≤ 100) (hd : 1 ≤ d) : E_Lk_meets d [.inr (4, o), .inr (4, p)] w (fun r w' => r = some (.inl (bI ((decide (f ≤ g) && decide (g < f + n)) || (decide (g ≤ f) && decide (f < g + k))))) ∧ w' = w) := by
  refine S_Lk_meets ?_
  refine XE.aload_n d_Lk_meets_0 rfl ?_
  refine XE.aload_n d_Lk_meets_1 rfl ?_
  refine g_Lk_13 d_Lk_meets_2 (by first | assumption | decide | omega) (by first | assumption | rfl) ?_
  refine k_Lk_24 0 d_Lk_meets_5 (by omega) (Nat.le_of_ble_eq_true rfl) (by first | assumption | decide | omega) (Lk_covers_ok ho h1 h2 hf hn hg) (fun r1 w1 hm1 hq1 => ?_)
  rw [hq1.1, hq1.2]
  clear hq1 hm1 r1 w1
  refine XE.if_ne 22 d_Lk_meets_8 (by decide) (fun h8 => ?_) (fun h8 => ?_)
  · have e := te _ h8
    rw [e, Bool.true_or]
    refine XE.iconst (x := nI 1) d_Lk_meets_22 (by decide) ?_
    refine XE.goto 27 d_Lk_meets_23 (by decide) ?_
    exact XE.rb d_Lk_meets_27 (by decide) ⟨rfl, rfl⟩
  · have e := (bI_eq0 _).mp h8
    rw [e, Bool.false_or]
    refine XE.aload_n d_Lk_meets_11 rfl ?_
    refine XE.aload_n d_Lk_meets_12 rfl ?_
    refine g_Lk_13 d_Lk_meets_13 (by first | assumption | decide | omega) (by first | assumption | rfl) ?_
    refine k_Lk_24 0 d_Lk_meets_16 (by omega) (Nat.le_of_ble_eq_true rfl) (by first | assumption | decide | omega) (Lk_covers_ok hp h3 h4 hg hk hf) (fun r1 w1 hm1 hq1 => ?_)
    rw [hq1.1, hq1.2]
    clear hq1 hm1 r1 w1
    refine XE.if_eq 26 d_Lk_meets_19 (by decide) (fun h19 => ?_) (fun h19 => ?_)
    · have e2 := (bI_eq0 _).mp h19
      rw [e2]
      refine XE.iconst (x := nI 0) d_Lk_meets_26 (by decide) ?_
      exact XE.rb d_Lk_meets_27 (by decide) ⟨rfl, rfl⟩
    · have e2 := te _ h19
      rw [e2]
      refine XE.iconst (x := nI 1) d_Lk_meets_22 (by decide) ?_
      refine XE.goto 27 d_Lk_meets_23 (by decide) ?_
      exact XE.rb d_Lk_meets_27 (by decide) ⟨rfl, rfl⟩
def hdW (w : WW) (o nd : Nat) (num c md g : Int32) : WW := sI (sI (sI (sI (sI (sR (sI w 2 o 0 num) 2 o 1 nd) 2 o 2 c) 2 o 3 (accM md)) 2 o 4 (shrM md)) 2 o 5 (bI (hasM md 512))) 2 o 6 g
theorem Hd_init_ok {w : WW} {d o nd q : Nat} {num c md g : Int32} (ho : o ≠ 0) (hq : q ≠ 0) (h0 : wI w 3 q 0 = c) (h3 : wI w 3 q 3 = md) (hd : 1 ≤ d) : E_Hd_init d [.inr (2, o), .inl num, .inr (1, nd), .inr (3, q), .inl g] w (fun r w' => r = none ∧ w' = hdW w o nd num c md g) := by
  refine S_Hd_init ?_
  refine XE.aload_n d_Hd_init_0 rfl ?_
  refine k_Hd_3 d_Hd_init_1 (by first | assumption | decide | omega) (by decide) (by omega) ?_
  refine XE.aload_n d_Hd_init_4 rfl ?_
  refine XE.iload_n d_Hd_init_5 rfl ?_
  refine p_Hd_9 d_Hd_init_6 (by first | assumption | decide | omega) ?_
  refine XE.aload_n d_Hd_init_9 rfl ?_
  refine XE.aload_n d_Hd_init_10 rfl ?_
  refine p_Hd_15 d_Hd_init_11 (by first | assumption | decide | omega) (by first | exact Or.inl rfl | exact Or.inr rfl) ?_
  refine XE.aload_n d_Hd_init_14 rfl ?_
  refine XE.aload_n d_Hd_init_15 rfl ?_
  refine g_Hd_19 d_Hd_init_16 (by first | assumption | decide | omega) (by first | assumption | rfl) ?_
  refine p_Hd_24 d_Hd_init_19 (by first | assumption | decide | omega) ?_
  refine XE.aload_n d_Hd_init_22 rfl ?_
  refine XE.aload_n d_Hd_init_23 rfl ?_
  refine k_Hd_25 0 d_Hd_init_24 (by omega) (Nat.le_of_ble_eq_true rfl) (by first | assumption | decide | omega) (Rq_access_ok (md := md) hq h3) (fun r1 w1 hm1 hq1 => ?_)
  rw [hq1.1, hq1.2]
  clear hq1 hm1 r1 w1
  refine p_Hd_29 d_Hd_init_27 (by first | assumption | decide | omega) ?_
  refine XE.aload_n d_Hd_init_30 rfl ?_
  refine XE.aload_n d_Hd_init_31 rfl ?_
  refine k_Hd_31 0 d_Hd_init_32 (by omega) (Nat.le_of_ble_eq_true rfl) (by first | assumption | decide | omega) (Rq_share_ok (md := md) hq h3) (fun r1 w1 hm1 hq1 => ?_)
  rw [hq1.1, hq1.2]
  clear hq1 hm1 r1 w1
  refine p_Hd_34 d_Hd_init_35 (by first | assumption | decide | omega) ?_
  refine XE.aload_n d_Hd_init_38 rfl ?_
  refine XE.aload_n d_Hd_init_39 rfl ?_
  refine XE.sipush (x := nI 512) d_Hd_init_40 (by decide) ?_
  refine k_Hd_36 0 d_Hd_init_43 (by omega) (Nat.le_of_ble_eq_true rfl) (by first | assumption | decide | omega) (Rq_has_ok (md := md) hq (by exact h3) 512) (fun r1 w1 hm1 hq1 => ?_)
  rw [hq1.1, hq1.2]
  clear hq1 hm1 r1 w1
  refine p_Hd_40 d_Hd_init_46 (by first | assumption | decide | omega) (bI_01 _) ?_
  refine XE.aload_n d_Hd_init_49 rfl ?_
  refine XE.iload d_Hd_init_50 rfl ?_
  refine p_Hd_44 d_Hd_init_52 (by first | assumption | decide | omega) ?_
  exact XE.rv d_Hd_init_55 ⟨rfl, rfl⟩
theorem Hd_may_ok {w : WW} {d o : Nat} {a : Int32} (ho : o ≠ 0) (h : wI w 2 o 3 = a) (b : Nat) : E_Hd_may d [.inr (2, o), .inl (nI b)] w (fun r w' => r = some (.inl (bI (hasM a b))) ∧ w' = w) := by
  refine S_Hd_may ?_
  refine XE.aload_n d_Hd_may_0 rfl ?_
  refine g_Hd_29 d_Hd_may_1 (by first | assumption | decide | omega) (by first | assumption | rfl) ?_
  refine XE.iload_n d_Hd_may_4 rfl ?_
  refine XE.iand d_Hd_may_5 rfl ?_
  refine XE.if_eq 13 d_Hd_may_6 (by decide) (fun h6 => ?_) (fun h6 => ?_)
  · have e : hasM a b = false := hasM_f.mpr h6
    rw [e]
    refine XE.iconst (x := nI 0) d_Hd_may_13 (by decide) ?_
    exact XE.rb d_Hd_may_14 (by decide) ⟨rfl, rfl⟩
  · have e : hasM a b = true := hasM_t.mpr h6
    rw [e]
    refine XE.iconst (x := nI 1) d_Hd_may_9 (by decide) ?_
    refine XE.goto 14 d_Hd_may_10 (by decide) ?_
    exact XE.rb d_Hd_may_14 (by decide) ⟨rfl, rfl⟩
def cgW (w : WW) (o nd : Nat) (k a b : Int32) : WW := sI (sI (sR (sI w 5 o 0 k) 5 o 1 nd) 5 o 2 a) 5 o 3 b
theorem Cg_init_ok {w : WW} {d o nd : Nat} (ho : o ≠ 0) (hd : 1 ≤ d) (k a b : Int32) : E_Cg_init d [.inr (5, o), .inl k, .inr (1, nd), .inl a, .inl b] w (fun r w' => r = none ∧ w' = cgW w o nd k a b) := by
  refine S_Cg_init ?_
  refine XE.aload_n d_Cg_init_0 rfl ?_
  refine k_Cg_1 d_Cg_init_1 (by first | assumption | decide | omega) (by decide) (by omega) ?_
  refine XE.aload_n d_Cg_init_4 rfl ?_
  refine XE.iload_n d_Cg_init_5 rfl ?_
  refine p_Cg_7 d_Cg_init_6 (by first | assumption | decide | omega) ?_
  refine XE.aload_n d_Cg_init_9 rfl ?_
  refine XE.aload_n d_Cg_init_10 rfl ?_
  refine p_Cg_13 d_Cg_init_11 (by first | assumption | decide | omega) (by first | exact Or.inl rfl | exact Or.inr rfl) ?_
  refine XE.aload_n d_Cg_init_14 rfl ?_
  refine XE.iload_n d_Cg_init_15 rfl ?_
  refine p_Cg_17 d_Cg_init_16 (by first | assumption | decide | omega) ?_
  refine XE.aload_n d_Cg_init_19 rfl ?_
  refine XE.iload d_Cg_init_20 rfl ?_
  refine p_Cg_20 d_Cg_init_22 (by first | assumption | decide | omega) ?_
  exact XE.rv d_Cg_init_25 ⟨rfl, rfl⟩
theorem Lg_init_ok {w : WW} {d o : Nat} (ho : o ≠ 0) (hd : 1 ≤ d) : E_Lg_init d [.inr (6, o)] w (fun r w' => r = none ∧ w' = sR (nA w 105 6) 6 o 0 (wC w 105 + 1)) := by
  refine S_Lg_init ?_
  refine XE.aload_n d_Lg_init_0 rfl ?_
  refine k_Lg_3 d_Lg_init_1 (by first | assumption | decide | omega) (by decide) (by omega) ?_
  refine XE.aload_n d_Lg_init_4 rfl ?_
  refine XE.bipush (x := nI 6) d_Lg_init_5 (by decide) ?_
  refine na_Lg_9 (n := 6) 105 (by decide) (by decide) rfl d_Lg_init_7 (by first | assumption | decide) (by first | assumption | decide) (by first | assumption | decide) ?_
  refine p_Lg_11 d_Lg_init_10 (by first | assumption | decide | omega) (by first | exact Or.inl rfl | exact Or.inr rfl) ?_
  exact XE.rv d_Lg_init_13 ⟨rfl, rfl⟩
theorem Lg_dur_ok {w : WW} {d j u : Nat} (h1 : wI w 6 1 1 = nI j) (h2 : wI w 6 1 2 = nI u) : E_Lg_makeAllDurable d [.inr (6, 1)] w (fun r w' => r = none ∧ w' = sI (sI w 6 1 2 (nI (u + j))) 6 1 1 (nI 0)) := by
  refine S_Lg_makeAllDurable ?_
  refine XE.aload_n d_Lg_makeAllDurable_0 rfl ?_
  refine XE.dup d_Lg_makeAllDurable_1 ?_
  refine g_Lg_24 d_Lg_makeAllDurable_2 (by first | assumption | decide | omega) (by first | assumption | rfl) ?_
  refine XE.aload_n d_Lg_makeAllDurable_5 rfl ?_
  refine g_Lg_17 d_Lg_makeAllDurable_6 (by first | assumption | decide | omega) (by first | assumption | rfl) ?_
  refine XE.iadd d_Lg_makeAllDurable_9 (by first | exact nI_add _ _ | rfl) ?_
  refine p_Lg_24 d_Lg_makeAllDurable_10 (by first | assumption | decide | omega) ?_
  refine XE.aload_n d_Lg_makeAllDurable_13 rfl ?_
  refine XE.iconst (x := nI 0) d_Lg_makeAllDurable_14 (by decide) ?_
  refine p_Lg_17 d_Lg_makeAllDurable_15 (by first | assumption | decide | omega) ?_
  exact XE.rv d_Lg_makeAllDurable_18 ⟨rfl, rfl⟩
theorem Lg_changes_ok {w : WW} {d j u : Nat} (h1 : wI w 6 1 1 = nI j) (h2 : wI w 6 1 2 = nI u) : E_Lg_changes d [.inr (6, 1)] w (fun r w' => r = some (.inl (nI (u + j))) ∧ w' = w) := by
  refine S_Lg_changes ?_
  refine XE.aload_n d_Lg_changes_0 rfl ?_
  refine g_Lg_24 d_Lg_changes_1 (by first | assumption | decide | omega) (by first | assumption | rfl) ?_
  refine XE.aload_n d_Lg_changes_4 rfl ?_
  refine g_Lg_17 d_Lg_changes_5 (by first | assumption | decide | omega) (by first | assumption | rfl) ?_
  refine XE.iadd d_Lg_changes_8 (by first | exact nI_add _ _ | rfl) ?_
  exact XE.ri d_Lg_changes_9 ⟨rfl, rfl⟩
def lgW (w : WW) (j u c : Nat) : WW := if j + 1 = 6 then sI (sI (sI (sR w 105 1 j c) 6 1 1 (nI (j + 1))) 6 1 2 (nI (u + (j + 1)))) 6 1 1 (nI 0) else sI (sR w 105 1 j c) 6 1 1 (nI (j + 1))
theorem Lg_add_ok {w : WW} {d j u c : Nat} (h0 : wR w 6 1 0 = 1) (hl : wL w 105 1 = 6) (h1 : wI w 6 1 1 = nI j) (h2 : wI w 6 1 2 = nI u) (hj : j < 6) (hd : 1 ≤ d) : E_Lg_add d [.inr (6, 1), .inr (5, c)] w (fun r w' => r = none ∧ w' = lgW w j u c) := by
  refine S_Lg_add ?_
  have hl1 : nI (wL w 105 1) = nI 6 := congrArg nI hl
  have hl2 : nI (wL (sI (sR w 105 1 j c) 6 1 1 (nI (j + 1))) 105 1) = nI 6 := congrArg nI hl
  refine XE.aload_n d_Lg_add_0 rfl ?_
  refine g_Lg_17 d_Lg_add_1 (by first | assumption | decide | omega) (by first | assumption | rfl) ?_
  refine XE.aload_n d_Lg_add_4 rfl ?_
  refine g_Lg_11 d_Lg_add_5 (by first | assumption | decide | omega) (by first | assumption | rfl) ?_
  refine XE.alen d_Lg_add_8 (Or.inr (by decide)) (by first | assumption | decide | omega) (by first | assumption | rfl) ?_
  refine XE.icmp_ge 32 d_Lg_add_9 (by decide) (fun h9 => absurd h9 ((fun z => by have := (le_nI (by omega) (by omega)).mp z; omega))) (fun h9 => ?_)
  refine XE.aload_n d_Lg_add_12 rfl ?_
  refine g_Lg_11 d_Lg_add_13 (by first | assumption | decide | omega) (by first | assumption | rfl) ?_
  refine XE.aload_n d_Lg_add_16 rfl ?_
  refine g_Lg_17 d_Lg_add_17 (by first | assumption | decide | omega) (by first | assumption | rfl) ?_
  refine XE.aload_n d_Lg_add_20 rfl ?_
  refine XE.aast d_Lg_add_21 (by decide) rfl rfl (by first | exact Or.inl rfl | exact Or.inr rfl) (by first | assumption | decide | omega) (by first | assumption | exact ixn2 (by assumption) (by omega) (by omega)) ?_
  refine XE.aload_n d_Lg_add_22 rfl ?_
  refine XE.dup d_Lg_add_23 ?_
  refine g_Lg_17 d_Lg_add_24 (by first | assumption | decide | omega) (by first | assumption | rfl) ?_
  refine XE.iconst (x := nI 1) d_Lg_add_27 (by decide) ?_
  refine XE.iadd d_Lg_add_28 (by first | exact nI_add _ _ | rfl) ?_
  refine p_Lg_17 d_Lg_add_29 (by first | assumption | decide | omega) ?_
  refine XE.aload_n d_Lg_add_32 rfl ?_
  refine g_Lg_17 d_Lg_add_33 (by first | assumption | decide | omega) (by first | assumption | rfl) ?_
  refine XE.aload_n d_Lg_add_36 rfl ?_
  refine g_Lg_11 d_Lg_add_37 (by first | assumption | decide | omega) (by first | assumption | rfl) ?_
  refine XE.alen d_Lg_add_40 (Or.inr (by decide)) (by first | assumption | decide | omega) (by first | assumption | rfl) ?_
  refine XE.icmp_lt 48 d_Lg_add_41 (by decide) (fun h41 => ?_) (fun h41 => ?_)
  · have e : lgW w j u c = sI (sR w 105 1 j c) 6 1 1 (nI (j + 1)) := if_neg (by have := (lt_nI (by omega) (by omega)).mp h41; omega)
    rw [e]
    exact XE.rv d_Lg_add_48 ⟨rfl, rfl⟩
  · have e : lgW w j u c = sI (sI (sI (sR w 105 1 j c) 6 1 1 (nI (j + 1))) 6 1 2 (nI (u + (j + 1)))) 6 1 1 (nI 0) := if_pos (by have : ¬ j + 1 < 6 := fun z => h41 ((lt_nI (by omega) (by omega)).mpr z); omega)
    rw [e]
    refine XE.aload_n d_Lg_add_44 rfl ?_
    refine k_Lg_21 0 d_Lg_add_45 (by omega) (Nat.le_of_ble_eq_true rfl) (by first | assumption | decide | omega) (Lg_dur_ok (j := j + 1) (u := u) rfl h2) (fun y1 w2 hm1 hq1 => ?_)
    obtain ⟨rfl, rfl⟩ := hq1
    exact XE.rv d_Lg_add_48 ⟨rfl, rfl⟩
def ndW (w : WW) (o : Nat) (num dr na : Int32) (f : Bool) : WW := sR (nA (sR (nA (sI (sI (sI (sI w 1 o 0 num) 1 o 2 dr) 1 o 3 na) 1 o 1 (bI f)) 103 (if f = true then 0 else 32)) 1 o 5 (wC w 103 + 1)) 104 (if f = true then 0 else 8)) 1 o 6 (wC w 104 + 1)
theorem Nd_init_ok {w : WW} {d o : Nat} (ho : o ≠ 0) (hd : 1 ≤ d) (num dr na : Int32) (f : Bool) : E_Nd_init d [.inr (1, o), .inl num, .inl dr, .inl na, .inl (bI f)] w (fun r w' => r = none ∧ w' = ndW w o num dr na f) := by
  refine S_Nd_init ?_
  have hb := bI_01 f
  cases f with
  | true =>
    refine XE.aload_n d_Nd_init_0 rfl ?_
    refine k_Nd_3 d_Nd_init_1 (by first | assumption | decide | omega) (by decide) (by omega) ?_
    refine XE.aload_n d_Nd_init_4 rfl ?_
    refine XE.iload_n d_Nd_init_5 rfl ?_
    refine p_Nd_9 d_Nd_init_6 (by first | assumption | decide | omega) ?_
    refine XE.aload_n d_Nd_init_9 rfl ?_
    refine XE.iload_n d_Nd_init_10 rfl ?_
    refine p_Nd_15 d_Nd_init_11 (by first | assumption | decide | omega) ?_
    refine XE.aload_n d_Nd_init_14 rfl ?_
    refine XE.iload_n d_Nd_init_15 rfl ?_
    refine p_Nd_18 d_Nd_init_16 (by first | assumption | decide | omega) ?_
    refine XE.aload_n d_Nd_init_19 rfl ?_
    refine XE.iload d_Nd_init_20 rfl ?_
    refine p_Nd_21 d_Nd_init_22 (by first | assumption | decide | omega) (by first | assumption | decide) ?_
    refine XE.aload_n d_Nd_init_25 rfl ?_
    refine XE.iload d_Nd_init_26 rfl ?_
    refine XE.if_eq 35 d_Nd_init_28 (by decide) (fun h28 => absurd h28 ((by decide))) (fun h28 => ?_)
    refine XE.iconst (x := nI 0) d_Nd_init_31 (by decide) ?_
    refine XE.goto 37 d_Nd_init_32 (by decide) ?_
    refine XE.newa (k := 103) (n := 0) d_Nd_init_37 (by decide) (by decide) rfl ac_int (by decide) (by decide) (by decide) ?_
    refine p_Nd_25 d_Nd_init_39 (by first | assumption | decide | omega) (by first | exact Or.inl rfl | exact Or.inr rfl) ?_
    refine XE.aload_n d_Nd_init_42 rfl ?_
    refine XE.iload d_Nd_init_43 rfl ?_
    refine XE.if_eq 52 d_Nd_init_45 (by decide) (fun h45 => absurd h45 ((by decide))) (fun h45 => ?_)
    refine XE.iconst (x := nI 0) d_Nd_init_48 (by decide) ?_
    refine XE.goto 54 d_Nd_init_49 (by decide) ?_
    refine na_Nd_29 (n := 0) 104 (by decide) (by decide) rfl d_Nd_init_54 (by first | assumption | decide) (by first | assumption | decide) (by first | assumption | decide) ?_
    refine p_Nd_31 d_Nd_init_57 (by first | assumption | decide | omega) (by first | exact Or.inl rfl | exact Or.inr rfl) ?_
    exact XE.rv d_Nd_init_60 ⟨rfl, rfl⟩
  | false =>
    refine XE.aload_n d_Nd_init_0 rfl ?_
    refine k_Nd_3 d_Nd_init_1 (by first | assumption | decide | omega) (by decide) (by omega) ?_
    refine XE.aload_n d_Nd_init_4 rfl ?_
    refine XE.iload_n d_Nd_init_5 rfl ?_
    refine p_Nd_9 d_Nd_init_6 (by first | assumption | decide | omega) ?_
    refine XE.aload_n d_Nd_init_9 rfl ?_
    refine XE.iload_n d_Nd_init_10 rfl ?_
    refine p_Nd_15 d_Nd_init_11 (by first | assumption | decide | omega) ?_
    refine XE.aload_n d_Nd_init_14 rfl ?_
    refine XE.iload_n d_Nd_init_15 rfl ?_
    refine p_Nd_18 d_Nd_init_16 (by first | assumption | decide | omega) ?_
    refine XE.aload_n d_Nd_init_19 rfl ?_
    refine XE.iload d_Nd_init_20 rfl ?_
    refine p_Nd_21 d_Nd_init_22 (by first | assumption | decide | omega) (by first | assumption | decide) ?_
    refine XE.aload_n d_Nd_init_25 rfl ?_
    refine XE.iload d_Nd_init_26 rfl ?_
    refine XE.if_eq 35 d_Nd_init_28 (by decide) (fun h28 => ?_) (fun h28 => absurd h28 ((by decide)))
    refine XE.bipush (x := nI 32) d_Nd_init_35 (by decide) ?_
    refine XE.newa (k := 103) (n := 32) d_Nd_init_37 (by decide) (by decide) rfl ac_int (by decide) (by decide) (by decide) ?_
    refine p_Nd_25 d_Nd_init_39 (by first | assumption | decide | omega) (by first | exact Or.inl rfl | exact Or.inr rfl) ?_
    refine XE.aload_n d_Nd_init_42 rfl ?_
    refine XE.iload d_Nd_init_43 rfl ?_
    refine XE.if_eq 52 d_Nd_init_45 (by decide) (fun h45 => ?_) (fun h45 => absurd h45 ((by decide)))
    refine XE.bipush (x := nI 8) d_Nd_init_52 (by decide) ?_
    refine na_Nd_29 (n := 8) 104 (by decide) (by decide) rfl d_Nd_init_54 (by first | assumption | decide) (by first | assumption | decide) (by first | assumption | decide) ?_
    refine p_Nd_31 d_Nd_init_57 (by first | assumption | decide | omega) (by first | exact Or.inl rfl | exact Or.inr rfl) ?_
    exact XE.rv d_Nd_init_60 ⟨rfl, rfl⟩
