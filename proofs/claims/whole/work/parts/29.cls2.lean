/-! THE CLASS: an array that holds a list; the locks of a node -/
def HO {α : Type} (R : Nat → α → Prop) (a : Nat → Nat) (L : List α) : Prop := ∀ t (h : t < L.length), R (a t) L[t]
theorem HO.nil {α : Type} {R : Nat → α → Prop} {a : Nat → Nat} : HO R a [] := fun t h => absurd h (Nat.not_lt_zero t)
theorem HO.snoc {α : Type} {R : Nat → α → Prop} {a b : Nat → Nat} {L : List α} {x : α} (h : HO R a L) (e : ∀ t, t < L.length → b t = a t) (hx : R (b L.length) x) : HO R b (L ++ [x]) := by
  intro t ht
  by_cases q : t < L.length
  · rw [List.getElem_append_left q, e t q]; exact h t q
  · have ht' : t < L.length + 1 := by simpa using ht
    have e2 : t = L.length := by omega
    subst e2
    rw [List.getElem_append_right (Nat.le_refl _)]
    simpa using hx
theorem HO.congr {α : Type} {R : Nat → α → Prop} {a b : Nat → Nat} {L : List α} (h : HO R a L) (e : ∀ t, t < L.length → b t = a t) : HO R b L := fun t ht => by rw [e t ht]; exact h t ht
theorem HO.erase {α : Type} {R : Nat → α → Prop} {a b : Nat → Nat} {L : List α} {j : Nat} (h : HO R a L) (hj : j < L.length) (e1 : ∀ t, t < j → b t = a t) (e2 : ∀ t, j ≤ t → t + 1 < L.length → b t = a (t + 1)) : HO R b (L.eraseIdx j) := by
  intro t ht
  have hl : (L.eraseIdx j).length = L.length - 1 := List.length_eraseIdx_of_lt hj
  rw [hl] at ht
  rw [List.getElem_eraseIdx]
  split
  · rename_i q
    rw [e1 t q]; exact h t _
  · rename_i q
    rw [e2 t (by omega) (by omega)]; exact h (t + 1) _
theorem flt_take {α : Type} {p : α → Bool} {L : List α} {i : Nat} (hi : i < L.length) : (L.take (i + 1)).filter p = if p L[i] = true then (L.take i).filter p ++ [L[i]] else (L.take i).filter p := by
  rw [List.take_succ_eq_append_getElem hi, List.filter_append]
  by_cases q : p L[i] = true
  · rw [if_pos q, List.filter_cons_of_pos q]; rfl
  · rw [if_neg q, List.filter_cons_of_neg q]; simp
theorem flt_len {α : Type} {p : α → Bool} {L : List α} {i : Nat} : ((L.take i).filter p).length ≤ i := Nat.le_trans (List.length_filter_le _ _) (by rw [List.length_take]; omega)
theorem nI_s1 {n : Nat} (h : 1 ≤ n) : nI n - nI 1 = nI (n - 1) := by
  obtain ⟨m, rfl⟩ : ∃ m, n = m + 1 := ⟨n - 1, by omega⟩
  rw [← nI_1, show nI 1 = 1 from rfl, Int32.add_sub_cancel]
  rfl
/-! the locks -/
def LKR (w : WW) (κ : Nat) (k : KR') : Prop := κ ≠ 0 ∧ wR w 4 κ 0 = k.1 ∧ wI w 4 κ 1 = nI k.2.1 ∧ wI w 4 κ 2 = nI (k.2.2.1 - k.2.1) ∧ wI w 4 κ 3 = bI k.2.2.2 ∧ k.2.1 < k.2.2.1 ∧ k.2.2.1 ≤ 32 ∧ κ ≤ wC w 4
def NL (w : WW) (o : Nat) (L : List KR') : Prop := wR w 1 o 6 = o ∧ wI w 1 o 7 = nI L.length ∧ L.length ≤ wL w 104 o ∧ wL w 104 o ≤ 8 ∧ HO (LKR w) (fun t => wR w 104 o t) L
/-- what a change of a node's locks leaves alone -/
def FK (w w' : WW) (o : Nat) : Prop := w'.1 = w.1 ∧ (∀ k o' j, ¬ (k = 1 ∧ o' = o ∧ j = 7) → wI w' k o' j = wI w k o' j) ∧ (∀ k o' j, ¬ (k = 104 ∧ o' = o) → wR w' k o' j = wR w k o' j) ∧ w'.2.2.2 = w.2.2.2
theorem FK.rf {w : WW} {o : Nat} : FK w w o := ⟨rfl, fun _ _ _ _ => rfl, fun _ _ _ _ => rfl, rfl⟩
theorem FK.lkr {w w' : WW} {o κ : Nat} {k : KR'} (h : FK w w' o) (q : LKR w κ k) : LKR w' κ k := by
  obtain ⟨a0, a1, a2, a3, a4, a5⟩ := q
  exact ⟨a0, by rw [h.2.2.1 _ _ _ (by omega)]; exact a1, by rw [h.2.1 _ _ _ (by omega)]; exact a2, by rw [h.2.1 _ _ _ (by omega)]; exact a3, by rw [h.2.1 _ _ _ (by omega)]; exact a4, a5.1, a5.2.1, by unfold wC; rw [h.1]; exact a5.2.2⟩
theorem HO.mono {α : Type} {R R' : Nat → α → Prop} {a : Nat → Nat} {L : List α} (h : HO R a L) (e : ∀ κ x, R κ x → R' κ x) : HO R' a L := fun t ht => e _ _ (h t ht)
theorem drop_c {α : Type} {L : List α} {i : Nat} (hi : i < L.length) : L.drop i = L[i] :: L.drop (i + 1) := List.drop_eq_getElem_cons hi
theorem LKR.cov {w : WW} {κ c : Nat} {k : KR'} (h : LKR w κ k) (hc : c ≤ 31) : E_Lk_covers 0 [.inr (4, κ), .inl (nI c)] w (fun r w' => r = some (.inl (bI (decide (k.2.1 ≤ c) && decide (c < k.2.2.1)))) ∧ w' = w) := by
  obtain ⟨a0, a1, a2, a3, a4, a5, a6⟩ := h
  have := Lk_covers_ok (d := 0) a0 a2 a3 (by omega) (by omega) (c := c) (by omega)
  rwa [show k.2.1 + (k.2.2.1 - k.2.1) = k.2.2.1 by omega] at this
def rdP (x c : Nat) (k : KR') : Bool := (decide (k.2.1 ≤ c) && decide (c < k.2.2.1)) && (k.2.2.2 && !(k.1 == x))
theorem Nd_barsReading_ok {w : WW} {d o x c : Nat} {L : List KR'} (ho : o ≠ 0) (hL : NL w o L) (hc : c ≤ 31) (hd : 1 ≤ d) : E_Nd_barsReading d [.inr (1, o), .inr (2, x), .inl (nI c)] w (fun r w' => r = some (.inl (bI (L.any (rdP x c)))) ∧ w' = w) := by
  refine S_Nd_barsReading ?_
  obtain ⟨n1, n2, n3, n4, n5⟩ := hL
  have loop : ∀ k i, i + k = L.length → X_Nd_barsReading d 2 [some (.inr (1, o)), some (.inr (2, x)), some (.inl (nI c)), some (.inl (nI i))] [] w (fun r w' => r = some (.inl (bI ((L.drop i).any (rdP x c)))) ∧ w' = w) := by
    intro k
    induction k with
    | zero =>
      intro i hi
      have e : L.drop i = [] := List.drop_eq_nil_of_le (by omega)
      rw [e]
      refine XE.iload_n d_Nd_barsReading_2 rfl ?_
      refine XE.aload_n d_Nd_barsReading_3 rfl ?_
      refine g_Nd_35 d_Nd_barsReading_4 (by first | assumption | decide | omega) (by first | assumption | rfl) ?_
      refine XE.icmp_ge 56 d_Nd_barsReading_7 (by decide) (fun h7 => ?_) (fun h7 => absurd h7 ((fun z => z ((le_nI (by omega) (by omega)).mpr (by omega)))))
      refine XE.iconst (x := nI 0) d_Nd_barsReading_56 (by decide) ?_
      exact XE.rb d_Nd_barsReading_57 (by decide) ⟨rfl, rfl⟩
    | succ k ih =>
      intro i hi
      have hlt : i < L.length := by omega
      have hix : IXN (nI i) (wL w 104 o) i := IXN.nI (by omega) (by omega)
      have h5 := n5 i hlt
      have hcov := h5.cov hc
      obtain ⟨a0, a1, a2, a3, a4, a5, a6⟩ := h5
      rw [drop_c hlt, List.any_cons]
      have go : rdP x c L[i] = false → X_Nd_barsReading d 2 [some (.inr (1, o)), some (.inr (2, x)), some (.inl (nI c)), some (.inl (nI (i + 1)))] [] w (fun r w' => r = some (.inl (bI (rdP x c L[i] || (L.drop (i + 1)).any (rdP x c)))) ∧ w' = w) := fun h => by
        rw [h, Bool.false_or]; exact ih (i + 1) (by omega)
      refine XE.iload_n d_Nd_barsReading_2 rfl ?_
      refine XE.aload_n d_Nd_barsReading_3 rfl ?_
      refine g_Nd_35 d_Nd_barsReading_4 (by first | assumption | decide | omega) (by first | assumption | rfl) ?_
      refine XE.icmp_ge 56 d_Nd_barsReading_7 (by decide) (fun h7 => absurd h7 ((fun z => by have := (le_nI (by omega) (by omega)).mp z; omega))) (fun h7 => ?_)
      refine XE.aload_n d_Nd_barsReading_10 rfl ?_
      refine g_Nd_31 d_Nd_barsReading_11 (by first | assumption | decide | omega) (by first | assumption | rfl) ?_
      refine XE.iload_n d_Nd_barsReading_14 rfl ?_
      refine XE.aald d_Nd_barsReading_15 (by decide) rfl (by first | assumption | decide | omega) (by first | assumption | exact ixn2 (by assumption) (by omega) (by omega)) (by first | assumption | rfl) ?_
      refine XE.iload_n d_Nd_barsReading_16 rfl ?_
      refine k_Nd_38 0 d_Nd_barsReading_17 (by omega) (Nat.le_of_ble_eq_true rfl) (by first | assumption | decide | omega) hcov (fun r1 w1 hm1 hq1 => ?_)
      rw [hq1.1, hq1.2]
      clear hq1 hm1 r1 w1
      refine XE.if_eq 50 d_Nd_barsReading_20 (by decide) (fun h20 => ?_) (fun h20 => ?_)
      · have q20 := (bI_eq0 _).mp h20
        have q : rdP x c L[i] = false := by unfold rdP; rw [q20]; rfl
        refine XE.iinc d_Nd_barsReading_50 rfl (inc_nI _) ?_
        refine XE.goto 2 d_Nd_barsReading_53 (by decide) ?_
        exact go (by first | exact q | (unfold rdP; simp_all))
      · have q20 := te _ h20
        refine XE.aload_n d_Nd_barsReading_23 rfl ?_
        refine g_Nd_31 d_Nd_barsReading_24 (by first | assumption | decide | omega) (by first | assumption | rfl) ?_
        refine XE.iload_n d_Nd_barsReading_27 rfl ?_
        refine XE.aald d_Nd_barsReading_28 (by decide) rfl (by first | assumption | decide | omega) (by first | assumption | exact ixn2 (by assumption) (by omega) (by omega)) (by first | assumption | rfl) ?_
        refine g_Nd_42 d_Nd_barsReading_29 (by first | assumption | decide | omega) (by first | assumption | rfl) ?_
        refine XE.if_eq 50 d_Nd_barsReading_32 (by decide) (fun h32 => ?_) (fun h32 => ?_)
        · have q32 := (bI_eq0 _).mp h32
          refine XE.iinc d_Nd_barsReading_50 rfl (inc_nI _) ?_
          refine XE.goto 2 d_Nd_barsReading_53 (by decide) ?_
          exact go (by first | exact q | (unfold rdP; simp_all))
        · have q32 := te _ h32
          refine XE.aload_n d_Nd_barsReading_35 rfl ?_
          refine g_Nd_31 d_Nd_barsReading_36 (by first | assumption | decide | omega) (by first | assumption | rfl) ?_
          refine XE.iload_n d_Nd_barsReading_39 rfl ?_
          refine XE.aald d_Nd_barsReading_40 (by decide) rfl (by first | assumption | decide | omega) (by first | assumption | exact ixn2 (by assumption) (by omega) (by omega)) (by first | assumption | rfl) ?_
          refine g_Nd_45 d_Nd_barsReading_41 (by first | assumption | decide | omega) (by first | assumption | rfl) ?_
          refine XE.aload_n d_Nd_barsReading_44 rfl ?_
          refine XE.acmp_eq 50 d_Nd_barsReading_45 (by decide) (by decide) (fun h45 => ?_) (fun h45 => ?_)
          · refine XE.iinc d_Nd_barsReading_50 rfl (inc_nI _) ?_
            refine XE.goto 2 d_Nd_barsReading_53 (by decide) ?_
            exact go (by first | exact q | (unfold rdP; simp_all))
          · refine XE.iconst (x := nI 1) d_Nd_barsReading_48 (by decide) ?_
            rw [show rdP x c L[i] = true by unfold rdP; simp_all, Bool.true_or]; exact XE.rb d_Nd_barsReading_49 (by decide) ⟨rfl, rfl⟩
  refine XE.iconst (x := nI 0) d_Nd_barsReading_0 (by decide) ?_
  refine XE.istore_n d_Nd_barsReading_1 (by decide) ?_
  exact loop L.length 0 (by omega)
def wrQ (x c : Nat) (k : KR') : Bool := (decide (k.2.1 ≤ c) && decide (c < k.2.2.1)) && !(k.2.2.2 && k.1 == x)
theorem Nd_barsWriting_ok {w : WW} {d o x c : Nat} {L : List KR'} (ho : o ≠ 0) (hL : NL w o L) (hc : c ≤ 31) (hd : 1 ≤ d) : E_Nd_barsWriting d [.inr (1, o), .inr (2, x), .inl (nI c)] w (fun r w' => r = some (.inl (bI (L.any (wrQ x c)))) ∧ w' = w) := by
  refine S_Nd_barsWriting ?_
  obtain ⟨n1, n2, n3, n4, n5⟩ := hL
  have loop : ∀ k i l4, i + k = L.length → X_Nd_barsWriting d 2 [some (.inr (1, o)), some (.inr (2, x)), some (.inl (nI c)), some (.inl (nI i)), l4] [] w (fun r w' => r = some (.inl (bI ((L.drop i).any (wrQ x c)))) ∧ w' = w) := by
    intro k
    induction k with
    | zero =>
      intro i l4 hi
      have e : L.drop i = [] := List.drop_eq_nil_of_le (by omega)
      rw [e]
      refine XE.iload_n d_Nd_barsWriting_2 rfl ?_
      refine XE.aload_n d_Nd_barsWriting_3 rfl ?_
      refine g_Nd_35 d_Nd_barsWriting_4 (by first | assumption | decide | omega) (by first | assumption | rfl) ?_
      refine XE.icmp_ge 68 d_Nd_barsWriting_7 (by decide) (fun h7 => ?_) (fun h7 => absurd h7 ((fun z => z ((le_nI (by omega) (by omega)).mpr (by omega)))))
      refine XE.iconst (x := nI 0) d_Nd_barsWriting_68 (by decide) ?_
      exact XE.rb d_Nd_barsWriting_69 (by decide) ⟨rfl, rfl⟩
    | succ k ih =>
      intro i l4 hi
      have hlt : i < L.length := by omega
      have hix : IXN (nI i) (wL w 104 o) i := IXN.nI (by omega) (by omega)
      have h5 := n5 i hlt
      have hcov := h5.cov hc
      obtain ⟨a0, a1, a2, a3, a4, a5, a6⟩ := h5
      rw [drop_c hlt, List.any_cons]
      have go : ∀ l4, wrQ x c L[i] = false → X_Nd_barsWriting d 2 [some (.inr (1, o)), some (.inr (2, x)), some (.inl (nI c)), some (.inl (nI (i + 1))), l4] [] w (fun r w' => r = some (.inl (bI (wrQ x c L[i] || (L.drop (i + 1)).any (wrQ x c)))) ∧ w' = w) := fun l4 h => by
        rw [h, Bool.false_or]; exact ih (i + 1) l4 (by omega)
      have fin : ∀ b : Bool, b = (L[i].2.2.2 && L[i].1 == x) → X_Nd_barsWriting d 40 [some (.inr (1, o)), some (.inr (2, x)), some (.inl (nI c)), some (.inl (nI i)), l4] [.inl (bI b)] w (fun r w' => r = some (.inl (bI (wrQ x c L[i] || (L.drop (i + 1)).any (wrQ x c)))) ∧ w' = w) := by
        intro b hb
        have eq : wrQ x c L[i] = ((decide (L[i].2.1 ≤ c) && decide (c < L[i].2.2.1)) && !b) := by rw [hb]; rfl
        refine XE.istore d_Nd_barsWriting_40 (by decide) ?_
        refine XE.aload_n d_Nd_barsWriting_42 rfl ?_
        refine g_Nd_31 d_Nd_barsWriting_43 (by first | assumption | decide | omega) (by first | assumption | rfl) ?_
        refine XE.iload_n d_Nd_barsWriting_46 rfl ?_
        refine XE.aald d_Nd_barsWriting_47 (by decide) rfl (by first | assumption | decide | omega) (by first | assumption | exact ixn2 (by assumption) (by omega) (by omega)) (by first | assumption | rfl) ?_
        refine XE.iload_n d_Nd_barsWriting_48 rfl ?_
        refine k_Nd_38 0 d_Nd_barsWriting_49 (by omega) (Nat.le_of_ble_eq_true rfl) (by first | assumption | decide | omega) hcov (fun r1 w1 hm1 hq1 => ?_)
        rw [hq1.1, hq1.2]
        clear hq1 hm1 r1 w1
        refine XE.if_eq 62 d_Nd_barsWriting_52 (by decide) (fun h52 => ?_) (fun h52 => ?_)
        · have q52 := (bI_eq0 _).mp h52
          have q : wrQ x c L[i] = false := by rw [eq, q52]; rfl
          refine XE.iinc d_Nd_barsWriting_62 rfl (inc_nI _) ?_
          refine XE.goto 2 d_Nd_barsWriting_65 (by decide) ?_
          exact go _ q
        · have q52 := te _ h52
          refine XE.iload d_Nd_barsWriting_55 rfl ?_
          refine XE.if_ne 62 d_Nd_barsWriting_57 (by decide) (fun h57 => ?_) (fun h57 => ?_)
          · have q57 := te _ h57
            have q : wrQ x c L[i] = false := by rw [eq, q57, Bool.not_true, Bool.and_false]
            refine XE.iinc d_Nd_barsWriting_62 rfl (inc_nI _) ?_
            refine XE.goto 2 d_Nd_barsWriting_65 (by decide) ?_
            exact go _ q
          · have q57 := (bI_eq0 _).mp h57
            have q : wrQ x c L[i] = true := by rw [eq, q52, q57]; rfl
            refine XE.iconst (x := nI 1) d_Nd_barsWriting_60 (by decide) ?_
            rw [q, Bool.true_or]; exact XE.rb d_Nd_barsWriting_61 (by decide) ⟨rfl, rfl⟩
      refine XE.iload_n d_Nd_barsWriting_2 rfl ?_
      refine XE.aload_n d_Nd_barsWriting_3 rfl ?_
      refine g_Nd_35 d_Nd_barsWriting_4 (by first | assumption | decide | omega) (by first | assumption | rfl) ?_
      refine XE.icmp_ge 68 d_Nd_barsWriting_7 (by decide) (fun h7 => absurd h7 ((fun z => by have := (le_nI (by omega) (by omega)).mp z; omega))) (fun h7 => ?_)
      refine XE.aload_n d_Nd_barsWriting_10 rfl ?_
      refine g_Nd_31 d_Nd_barsWriting_11 (by first | assumption | decide | omega) (by first | assumption | rfl) ?_
      refine XE.iload_n d_Nd_barsWriting_14 rfl ?_
      refine XE.aald d_Nd_barsWriting_15 (by decide) rfl (by first | assumption | decide | omega) (by first | assumption | exact ixn2 (by assumption) (by omega) (by omega)) (by first | assumption | rfl) ?_
      refine g_Nd_42 d_Nd_barsWriting_16 (by first | assumption | decide | omega) (by first | assumption | rfl) ?_
      refine XE.if_eq 39 d_Nd_barsWriting_19 (by decide) (fun h19 => ?_) (fun h19 => ?_)
      · have q19 := (bI_eq0 _).mp h19
        have q : false = (L[i].2.2.2 && L[i].1 == x) := by rw [q19]; rfl
        refine XE.iconst (x := nI 0) d_Nd_barsWriting_39 (by decide) ?_
        exact fin _ q
      · have q19 := te _ h19
        refine XE.aload_n d_Nd_barsWriting_22 rfl ?_
        refine g_Nd_31 d_Nd_barsWriting_23 (by first | assumption | decide | omega) (by first | assumption | rfl) ?_
        refine XE.iload_n d_Nd_barsWriting_26 rfl ?_
        refine XE.aald d_Nd_barsWriting_27 (by decide) rfl (by first | assumption | decide | omega) (by first | assumption | exact ixn2 (by assumption) (by omega) (by omega)) (by first | assumption | rfl) ?_
        refine g_Nd_45 d_Nd_barsWriting_28 (by first | assumption | decide | omega) (by first | assumption | rfl) ?_
        refine XE.aload_n d_Nd_barsWriting_31 rfl ?_
        refine XE.acmp_ne 39 d_Nd_barsWriting_32 (by decide) (by decide) (fun h32 => ?_) (fun h32 => ?_)
        · have q : false = (L[i].2.2.2 && L[i].1 == x) := by rw [q19, beq_eq_false_iff_ne.mpr h32]; rfl
          refine XE.iconst (x := nI 0) d_Nd_barsWriting_39 (by decide) ?_
          exact fin _ q
        · have q : true = (L[i].2.2.2 && L[i].1 == x) := by rw [q19, beq_iff_eq.mpr h32]; rfl
          refine XE.iconst (x := nI 1) d_Nd_barsWriting_35 (by decide) ?_
          refine XE.goto 40 d_Nd_barsWriting_36 (by decide) ?_
          exact fin _ q
  refine XE.iconst (x := nI 0) d_Nd_barsWriting_0 (by decide) ?_
  refine XE.istore_n d_Nd_barsWriting_1 (by decide) ?_
  exact loop L.length 0 _ (by omega)
def lcP (f e : Nat) (al : Bool) (k : KR') : Bool := (decide (k.2.1 < e) && decide (f < k.2.2.1)) && (al || k.2.2.2)
theorem Nd_barsLocking_ok {w : WW} {d o κ : Nat} {k0 : KR'} {L : List KR'} (ho : o ≠ 0) (hL : NL w o L) (h0 : LKR w κ k0) (hd : 2 ≤ d) : E_Nd_barsLocking d [.inr (1, o), .inr (4, κ)] w (fun r w' => r = some (.inl (bI (L.any (lcP k0.2.1 k0.2.2.1 k0.2.2.2)))) ∧ w' = w) := by
  refine S_Nd_barsLocking ?_
  obtain ⟨n1, n2, n3, n4, n5⟩ := hL
  obtain ⟨b0, b1, b2, b3, b4, b5, b6⟩ := h0
  have loop : ∀ k i, i + k = L.length → X_Nd_barsLocking d 2 [some (.inr (1, o)), some (.inr (4, κ)), some (.inl (nI i))] [] w (fun r w' => r = some (.inl (bI ((L.drop i).any (lcP k0.2.1 k0.2.2.1 k0.2.2.2)))) ∧ w' = w) := by
    intro k
    induction k with
    | zero =>
      intro i hi
      have e : L.drop i = [] := List.drop_eq_nil_of_le (by omega)
      rw [e]
      refine XE.iload_n d_Nd_barsLocking_2 rfl ?_
      refine XE.aload_n d_Nd_barsLocking_3 rfl ?_
      refine g_Nd_35 d_Nd_barsLocking_4 (by first | assumption | decide | omega) (by first | assumption | rfl) ?_
      refine XE.icmp_ge 50 d_Nd_barsLocking_7 (by decide) (fun h7 => ?_) (fun h7 => absurd h7 ((fun z => z ((le_nI (by omega) (by omega)).mpr (by omega)))))
      refine XE.iconst (x := nI 0) d_Nd_barsLocking_50 (by decide) ?_
      exact XE.rb d_Nd_barsLocking_51 (by decide) ⟨rfl, rfl⟩
    | succ k ih =>
      intro i hi
      have hlt : i < L.length := by omega
      have hix : IXN (nI i) (wL w 104 o) i := IXN.nI (by omega) (by omega)
      obtain ⟨a0, a1, a2, a3, a4, a5, a6⟩ := n5 i hlt
      have hmt := Lk_meets_ok (d := 1) a0 a2 a3 (by omega) (by omega) b0 b2 b3 (by omega) (by omega) (by omega)
      have em : ((decide (L[i].2.1 ≤ k0.2.1) && decide (k0.2.1 < L[i].2.1 + (L[i].2.2.1 - L[i].2.1))) || (decide (k0.2.1 ≤ L[i].2.1) && decide (L[i].2.1 < k0.2.1 + (k0.2.2.1 - k0.2.1)))) = (decide (L[i].2.1 < k0.2.2.1) && decide (k0.2.1 < L[i].2.2.1)) := by
        rw [Bool.eq_iff_iff]
        simp only [Bool.or_eq_true, Bool.and_eq_true, decide_eq_true_eq]
        omega
      rw [em] at hmt
      rw [drop_c hlt, List.any_cons]
      have go : lcP k0.2.1 k0.2.2.1 k0.2.2.2 L[i] = false → X_Nd_barsLocking d 2 [some (.inr (1, o)), some (.inr (4, κ)), some (.inl (nI (i + 1)))] [] w (fun r w' => r = some (.inl (bI (lcP k0.2.1 k0.2.2.1 k0.2.2.2 L[i] || (L.drop (i + 1)).any (lcP k0.2.1 k0.2.2.1 k0.2.2.2)))) ∧ w' = w) := fun h => by
        rw [h, Bool.false_or]; exact ih (i + 1) (by omega)
      refine XE.iload_n d_Nd_barsLocking_2 rfl ?_
      refine XE.aload_n d_Nd_barsLocking_3 rfl ?_
      refine g_Nd_35 d_Nd_barsLocking_4 (by first | assumption | decide | omega) (by first | assumption | rfl) ?_
      refine XE.icmp_ge 50 d_Nd_barsLocking_7 (by decide) (fun h7 => absurd h7 ((fun z => by have := (le_nI (by omega) (by omega)).mp z; omega))) (fun h7 => ?_)
      refine XE.aload_n d_Nd_barsLocking_10 rfl ?_
      refine g_Nd_31 d_Nd_barsLocking_11 (by first | assumption | decide | omega) (by first | assumption | rfl) ?_
      refine XE.iload_n d_Nd_barsLocking_14 rfl ?_
      refine XE.aald d_Nd_barsLocking_15 (by decide) rfl (by first | assumption | decide | omega) (by first | assumption | exact ixn2 (by assumption) (by omega) (by omega)) (by first | assumption | rfl) ?_
      refine XE.aload_n d_Nd_barsLocking_16 rfl ?_
      refine k_Nd_49 1 d_Nd_barsLocking_17 (by omega) (Nat.le_of_ble_eq_true rfl) (by first | assumption | decide | omega) hmt (fun r1 w1 hm1 hq1 => ?_)
      rw [hq1.1, hq1.2]
      clear hq1 hm1 r1 w1
      refine XE.if_eq 44 d_Nd_barsLocking_20 (by decide) (fun h20 => ?_) (fun h20 => ?_)
      · have q20 := (bI_eq0 _).mp h20
        have q : lcP k0.2.1 k0.2.2.1 k0.2.2.2 L[i] = false := by unfold lcP; rw [q20]; rfl
        refine XE.iinc d_Nd_barsLocking_44 rfl (inc_nI _) ?_
        refine XE.goto 2 d_Nd_barsLocking_47 (by decide) ?_
        exact go q
      · have q20 := te _ h20
        refine XE.aload_n d_Nd_barsLocking_23 rfl ?_
        refine g_Nd_31 d_Nd_barsLocking_24 (by first | assumption | decide | omega) (by first | assumption | rfl) ?_
        refine XE.iload_n d_Nd_barsLocking_27 rfl ?_
        refine XE.aald d_Nd_barsLocking_28 (by decide) rfl (by first | assumption | decide | omega) (by first | assumption | exact ixn2 (by assumption) (by omega) (by omega)) (by first | assumption | rfl) ?_
        refine g_Nd_42 d_Nd_barsLocking_29 (by first | assumption | decide | omega) (by first | assumption | rfl) ?_
        refine XE.if_ne 42 d_Nd_barsLocking_32 (by decide) (fun h32 => ?_) (fun h32 => ?_)
        · have q32 := te _ h32
          have q : lcP k0.2.1 k0.2.2.1 k0.2.2.2 L[i] = true := by unfold lcP; rw [q20, q32, Bool.or_true]; rfl
          refine XE.iconst (x := nI 1) d_Nd_barsLocking_42 (by decide) ?_
          rw [q, Bool.true_or]; exact XE.rb d_Nd_barsLocking_43 (by decide) ⟨rfl, rfl⟩
        · have q32 := (bI_eq0 _).mp h32
          refine XE.aload_n d_Nd_barsLocking_35 rfl ?_
          refine g_Nd_42 d_Nd_barsLocking_36 (by first | assumption | decide | omega) (by first | assumption | rfl) ?_
          refine XE.if_eq 44 d_Nd_barsLocking_39 (by decide) (fun h39 => ?_) (fun h39 => ?_)
          · have q39 := (bI_eq0 _).mp h39
            have q : lcP k0.2.1 k0.2.2.1 k0.2.2.2 L[i] = false := by unfold lcP; rw [q20, q32, q39]; rfl
            refine XE.iinc d_Nd_barsLocking_44 rfl (inc_nI _) ?_
            refine XE.goto 2 d_Nd_barsLocking_47 (by decide) ?_
            exact go q
          · have q39 := te _ h39
            have q : lcP k0.2.1 k0.2.2.1 k0.2.2.2 L[i] = true := by unfold lcP; rw [q20, q32, q39]; rfl
            refine XE.iconst (x := nI 1) d_Nd_barsLocking_42 (by decide) ?_
            rw [q, Bool.true_or]; exact XE.rb d_Nd_barsLocking_43 (by decide) ⟨rfl, rfl⟩
  refine XE.iconst (x := nI 0) d_Nd_barsLocking_0 (by decide) ?_
  refine XE.istore_n d_Nd_barsLocking_1 (by decide) ?_
  exact loop L.length 0 (by omega)
theorem Nd_addLock_ok {w : WW} {d o κ : Nat} {k0 : KR'} {L : List KR'} (ho : o ≠ 0) (hL : NL w o L) (h8 : L.length < 8) (hl : wL w 104 o = 8) (h0 : LKR w κ k0) : E_Nd_addLock d [.inr (1, o), .inr (4, κ)] w (fun r w' => r = none ∧ NL w' o (L ++ [k0]) ∧ FK w w' o) := by
  refine S_Nd_addLock ?_
  obtain ⟨n1, n2, n3, n4, n5⟩ := hL
  have hix : IXN (nI L.length) (wL w 104 o) L.length := IXN.nI (by omega) (by omega)
  have hF : FK w (sI (sR w 104 o L.length κ) 1 o 7 (nI (L.length + 1))) o := ⟨rfl, fun k o' j h => by rw [wI_sI, if_neg h]; rfl, fun k o' j h => by rw [wR_sI, wR_sR, if_neg (fun q => h ⟨q.1, q.2.1⟩)], rfl⟩
  refine XE.aload_n d_Nd_addLock_0 rfl ?_
  refine g_Nd_35 d_Nd_addLock_1 (by first | assumption | decide | omega) (by first | assumption | rfl) ?_
  refine XE.aload_n d_Nd_addLock_4 rfl ?_
  refine g_Nd_31 d_Nd_addLock_5 (by first | assumption | decide | omega) (by first | assumption | rfl) ?_
  refine XE.alen d_Nd_addLock_8 (Or.inr (by decide)) (by first | assumption | decide | omega) (by first | assumption | rfl) ?_
  refine XE.icmp_ge 32 d_Nd_addLock_9 (by decide) (fun h9 => absurd h9 ((fun z => by rw [hl] at z; have := (le_nI (by omega) (by omega)).mp z; omega))) (fun h9 => ?_)
  refine XE.aload_n d_Nd_addLock_12 rfl ?_
  refine g_Nd_31 d_Nd_addLock_13 (by first | assumption | decide | omega) (by first | assumption | rfl) ?_
  refine XE.aload_n d_Nd_addLock_16 rfl ?_
  refine g_Nd_35 d_Nd_addLock_17 (by first | assumption | decide | omega) (by first | assumption | rfl) ?_
  refine XE.aload_n d_Nd_addLock_20 rfl ?_
  refine XE.aast d_Nd_addLock_21 (by decide) rfl rfl (by first | exact Or.inl rfl | exact Or.inr rfl) (by first | assumption | decide | omega) (by first | assumption | exact ixn2 (by assumption) (by omega) (by omega)) ?_
  refine XE.aload_n d_Nd_addLock_22 rfl ?_
  refine XE.dup d_Nd_addLock_23 ?_
  refine g_Nd_35 d_Nd_addLock_24 (by first | assumption | decide | omega) (by first | assumption | rfl) ?_
  refine XE.iconst (x := nI 1) d_Nd_addLock_27 (by decide) ?_
  refine XE.iadd d_Nd_addLock_28 (by first | exact nI_add _ _ | rfl) ?_
  refine p_Nd_35 d_Nd_addLock_29 (by first | assumption | decide | omega) ?_
  refine XE.rv d_Nd_addLock_32 ⟨rfl, ⟨n1, by rw [wI_sI, if_pos ⟨rfl, rfl, rfl⟩, List.length_append]; rfl, by rw [List.length_append]; show L.length + 1 ≤ wL w 104 o; omega, n4, ?_⟩, hF⟩
  refine (HO.snoc (a := fun t => wR w 104 o t) n5 (fun t ht => ?_) ?_).mono (fun κ x q => hF.lkr q)
  rw [wR_sI, wR_sR, if_neg (fun q => by omega)]
  rw [wR_sI, wR_sR, if_pos ⟨rfl, rfl, rfl⟩]; exact h0

theorem Nd_oldestLock_ok {w : WW} {d o x f n : Nat} {L : List KR'} (ho : o ≠ 0) (hL : NL w o L) (hf : f ≤ 31) (hn : n ≤ 32) : E_Nd_oldestLock d [.inr (1, o), .inr (2, x), .inl (nI f), .inl (nI n)] w (fun r w' => r = some (.inl (match L.findIdx? (ulkP x f n) with | none => -1 | some i => nI i)) ∧ w' = w) := by
  refine S_Nd_oldestLock ?_
  obtain ⟨n1, n2, n3, n4, n5⟩ := hL
  have loop : ∀ k i, i + k = L.length → (∀ t (h : t < L.length), t < i → ulkP x f n L[t] = false) → X_Nd_oldestLock d 3 [some (.inr (1, o)), some (.inr (2, x)), some (.inl (nI f)), some (.inl (nI n)), some (.inl (nI i))] [] w (fun r w' => r = some (.inl (match L.findIdx? (ulkP x f n) with | none => -1 | some i => nI i)) ∧ w' = w) := by
    intro k
    induction k with
    | zero =>
      intro i hi hno
      have e : L.findIdx? (ulkP x f n) = none := List.findIdx?_eq_none_iff.mpr (fun q hq => by
        obtain ⟨t, ht, rfl⟩ := List.mem_iff_getElem.mp hq
        exact hno t ht (by omega))
      rw [e]
      refine XE.iload d_Nd_oldestLock_3 rfl ?_
      refine XE.aload_n d_Nd_oldestLock_5 rfl ?_
      refine g_Nd_35 d_Nd_oldestLock_6 (by first | assumption | decide | omega) (by first | assumption | rfl) ?_
      refine XE.icmp_ge 63 d_Nd_oldestLock_9 (by decide) (fun h9 => ?_) (fun h9 => absurd h9 ((fun z => z ((le_nI (by omega) (by omega)).mpr (by omega)))))
      refine XE.iconst (x := (-1)) d_Nd_oldestLock_63 (by decide) ?_
      exact XE.ri d_Nd_oldestLock_64 ⟨rfl, rfl⟩
    | succ k ih =>
      intro i hi hno
      have hlt : i < L.length := by omega
      have hix : IXN (nI i) (wL w 104 o) i := IXN.nI (by omega) (by omega)
      obtain ⟨a0, a1, a2, a3, a4, a5, a6⟩ := n5 i hlt
      have go : ulkP x f n L[i] = false → X_Nd_oldestLock d 3 [some (.inr (1, o)), some (.inr (2, x)), some (.inl (nI f)), some (.inl (nI n)), some (.inl (nI (i + 1)))] [] w (fun r w' => r = some (.inl (match L.findIdx? (ulkP x f n) with | none => -1 | some i => nI i)) ∧ w' = w) := fun h => by
        refine ih (i + 1) (by omega) (fun t ht h2 => ?_)
        by_cases e : t = i
        · subst e; exact h
        · exact hno t ht (by omega)
      refine XE.iload d_Nd_oldestLock_3 rfl ?_
      refine XE.aload_n d_Nd_oldestLock_5 rfl ?_
      refine g_Nd_35 d_Nd_oldestLock_6 (by first | assumption | decide | omega) (by first | assumption | rfl) ?_
      refine XE.icmp_ge 63 d_Nd_oldestLock_9 (by decide) (fun h9 => absurd h9 ((fun z => by have := (le_nI (by omega) (by omega)).mp z; omega))) (fun h9 => ?_)
      refine XE.aload_n d_Nd_oldestLock_12 rfl ?_
      refine g_Nd_31 d_Nd_oldestLock_13 (by first | assumption | decide | omega) (by first | assumption | rfl) ?_
      refine XE.iload d_Nd_oldestLock_16 rfl ?_
      refine XE.aald d_Nd_oldestLock_18 (by decide) rfl (by first | assumption | decide | omega) (by first | assumption | exact ixn2 (by assumption) (by omega) (by omega)) (by first | assumption | rfl) ?_
      refine g_Nd_45 d_Nd_oldestLock_19 (by first | assumption | decide | omega) (by first | assumption | rfl) ?_
      refine XE.aload_n d_Nd_oldestLock_22 rfl ?_
      refine XE.acmp_ne 57 d_Nd_oldestLock_23 (by decide) (by decide) (fun h23 => ?_) (fun h23 => ?_)
      · have q : ulkP x f n L[i] = false := by unfold ulkP; rw [beq_eq_false_iff_ne.mpr h23]; rfl
        refine XE.iinc d_Nd_oldestLock_57 rfl (inc_nI _) ?_
        refine XE.goto 3 d_Nd_oldestLock_60 (by decide) ?_
        exact go q
      · refine XE.aload_n d_Nd_oldestLock_26 rfl ?_
        refine g_Nd_31 d_Nd_oldestLock_27 (by first | assumption | decide | omega) (by first | assumption | rfl) ?_
        refine XE.iload d_Nd_oldestLock_30 rfl ?_
        refine XE.aald d_Nd_oldestLock_32 (by decide) rfl (by first | assumption | decide | omega) (by first | assumption | exact ixn2 (by assumption) (by omega) (by omega)) (by first | assumption | rfl) ?_
        refine g_Nd_53 d_Nd_oldestLock_33 (by first | assumption | decide | omega) (by first | assumption | rfl) ?_
        refine XE.iload_n d_Nd_oldestLock_36 rfl ?_
        refine XE.icmp_ne 57 d_Nd_oldestLock_37 (by decide) (fun h37 => ?_) (fun h37 => ?_)
        · have q : ulkP x f n L[i] = false := by unfold ulkP; rw [(beq_eq_false_iff_ne (a := L[i].2.1)).mpr (fun z => h37 (by rw [z]))]; simp
          refine XE.iinc d_Nd_oldestLock_57 rfl (inc_nI _) ?_
          refine XE.goto 3 d_Nd_oldestLock_60 (by decide) ?_
          exact go q
        · have q37 := (eq_nI (by omega) (by omega)).mp h37
          refine XE.aload_n d_Nd_oldestLock_40 rfl ?_
          refine g_Nd_31 d_Nd_oldestLock_41 (by first | assumption | decide | omega) (by first | assumption | rfl) ?_
          refine XE.iload d_Nd_oldestLock_44 rfl ?_
          refine XE.aald d_Nd_oldestLock_46 (by decide) rfl (by first | assumption | decide | omega) (by first | assumption | exact ixn2 (by assumption) (by omega) (by omega)) (by first | assumption | rfl) ?_
          refine g_Nd_56 d_Nd_oldestLock_47 (by first | assumption | decide | omega) (by first | assumption | rfl) ?_
          refine XE.iload_n d_Nd_oldestLock_50 rfl ?_
          refine XE.icmp_ne 57 d_Nd_oldestLock_51 (by decide) (fun h51 => ?_) (fun h51 => ?_)
          · have q : ulkP x f n L[i] = false := by unfold ulkP; rw [(beq_eq_false_iff_ne (a := L[i].2.2.1)).mpr (fun z => h51 (by rw [z, q37]; congr 1; omega))]; simp
            refine XE.iinc d_Nd_oldestLock_57 rfl (inc_nI _) ?_
            refine XE.goto 3 d_Nd_oldestLock_60 (by decide) ?_
            exact go q
          · have q51 := (eq_nI (by omega) (by omega)).mp h51
            refine XE.iload d_Nd_oldestLock_54 rfl ?_
            have e : L.findIdx? (ulkP x f n) = some i := List.findIdx?_eq_some_iff_getElem.mpr ⟨hlt, by unfold ulkP; rw [beq_iff_eq.mpr h23, beq_iff_eq.mpr q37, beq_iff_eq.mpr (show L[i].2.2.1 = f + n by omega)]; rfl, fun j hj => by rw [hno j (by omega) hj]; decide⟩
            rw [e]; exact XE.ri d_Nd_oldestLock_56 ⟨rfl, rfl⟩
  refine XE.iconst (x := nI 0) d_Nd_oldestLock_0 (by decide) ?_
  refine XE.istore d_Nd_oldestLock_1 (by decide) ?_
  exact loop L.length 0 (by omega) (fun t h h2 => absurd h2 (Nat.not_lt_zero t))

theorem Nd_dropLock_ok {w : WW} {d o j : Nat} {L : List KR'} (ho : o ≠ 0) (hL : NL w o L) (hj : j < L.length) : E_Nd_dropLock d [.inr (1, o), .inl (nI j)] w (fun r w' => r = none ∧ NL w' o (L.eraseIdx j) ∧ FK w w' o) := by
  refine S_Nd_dropLock ?_
  obtain ⟨n1, n2, n3, n4, n5⟩ := hL
  have loop : ∀ k i w1, i + k = L.length → 1 ≤ k → j ≤ i → w1.1 = w.1 → w1.2.1 = w.2.1 → w1.2.2.2 = w.2.2.2 → (∀ k o' t, ¬ (k = 104 ∧ o' = o) → wR w1 k o' t = wR w k o' t) → (∀ t, t < j → wR w1 104 o t = wR w 104 o t) → (∀ t, i ≤ t → wR w1 104 o t = wR w 104 o t) → (∀ t, j ≤ t → t < i → wR w1 104 o t = wR w 104 o (t + 1)) →
      X_Nd_dropLock d 2 [some (.inr (1, o)), some (.inl (nI j)), some (.inl (nI i))] [] w1 (fun r w' => r = none ∧ NL w' o (L.eraseIdx j) ∧ FK w w' o) := by
    intro k
    induction k with
    | zero => intro i w1 _ h; omega
    | succ k ih =>
      intro i w1 hi _ hji c1 c2 c3 c4 c5 c6 c7
      have m1 : wR w1 1 o 6 = o := by rw [c4 _ _ _ (by omega)]; exact n1
      have m2 : wI w1 1 o 7 = nI L.length := by unfold wI; rw [c2]; exact n2
      have m3 : wL w1 104 o = wL w 104 o := by unfold wL; rw [c3]
      have e1 : nI L.length - nI 1 = nI (L.length - 1) := nI_s1 (by omega)
      have hx1 : IXN (nI i) (wL w1 104 o) i := IXN.nI (by omega) (by omega)
      cases k with
      | zero =>
        have hF : FK w (sI w1 1 o 7 (nI (L.length - 1))) o := ⟨c1, fun k o' t h => by rw [wI_sI, if_neg h]; unfold wI; rw [c2], fun k o' t h => c4 k o' t h, c3⟩
        refine XE.iload_n d_Nd_dropLock_2 rfl ?_
        refine XE.aload_n d_Nd_dropLock_3 rfl ?_
        refine g_Nd_35 d_Nd_dropLock_4 (by first | assumption | decide | omega) (by first | assumption | rfl) ?_
        refine XE.iconst (x := nI 1) d_Nd_dropLock_7 (by decide) ?_
        refine XE.isub d_Nd_dropLock_8 e1 ?_
        refine XE.icmp_ge 32 d_Nd_dropLock_9 (by decide) (fun h9 => ?_) (fun h9 => absurd h9 ((fun z => z ((le_nI (by omega) (by omega)).mpr (by omega)))))
        refine XE.aload_n d_Nd_dropLock_32 rfl ?_
        refine XE.dup d_Nd_dropLock_33 ?_
        refine g_Nd_35 d_Nd_dropLock_34 (by first | assumption | decide | omega) (by first | assumption | rfl) ?_
        refine XE.iconst (x := nI 1) d_Nd_dropLock_37 (by decide) ?_
        refine XE.isub d_Nd_dropLock_38 e1 ?_
        refine p_Nd_35 d_Nd_dropLock_39 (by first | assumption | decide | omega) ?_
        refine XE.rv d_Nd_dropLock_42 ⟨rfl, ⟨m1, by rw [wI_sI, if_pos ⟨rfl, rfl, rfl⟩, List.length_eraseIdx_of_lt hj], by rw [List.length_eraseIdx_of_lt hj]; show _ ≤ wL w1 104 o; omega, by show wL w1 104 o ≤ 8; omega, ?_⟩, hF⟩
        exact (HO.erase (a := fun t => wR w 104 o t) n5 hj c5 (fun t h1 h2 => c7 t h1 (by omega))).mono (fun κ x q => hF.lkr q)
      | succ k =>
        have hx2 : IXN (nI (i + 1)) (wL w1 104 o) (i + 1) := IXN.nI (by omega) (by omega)
        have hv : wR w1 104 o (i + 1) = wR w 104 o (i + 1) := c6 _ (by omega)
        refine XE.iload_n d_Nd_dropLock_2 rfl ?_
        refine XE.aload_n d_Nd_dropLock_3 rfl ?_
        refine g_Nd_35 d_Nd_dropLock_4 (by first | assumption | decide | omega) (by first | assumption | rfl) ?_
        refine XE.iconst (x := nI 1) d_Nd_dropLock_7 (by decide) ?_
        refine XE.isub d_Nd_dropLock_8 e1 ?_
        refine XE.icmp_ge 32 d_Nd_dropLock_9 (by decide) (fun h9 => absurd h9 ((fun z => by have := (le_nI (by omega) (by omega)).mp z; omega))) (fun h9 => ?_)
        refine XE.aload_n d_Nd_dropLock_12 rfl ?_
        refine g_Nd_31 d_Nd_dropLock_13 (by first | assumption | decide | omega) (by first | assumption | rfl) ?_
        refine XE.iload_n d_Nd_dropLock_16 rfl ?_
        refine XE.aload_n d_Nd_dropLock_17 rfl ?_
        refine g_Nd_31 d_Nd_dropLock_18 (by first | assumption | decide | omega) (by first | assumption | rfl) ?_
        refine XE.iload_n d_Nd_dropLock_21 rfl ?_
        refine XE.iconst (x := nI 1) d_Nd_dropLock_22 (by decide) ?_
        refine XE.iadd d_Nd_dropLock_23 (by first | exact nI_add _ _ | rfl) ?_
        refine XE.aald (x := wR w 104 o (i + 1)) d_Nd_dropLock_24 (by decide) rfl (by first | assumption | decide | omega) (by first | assumption | exact ixn2 (by assumption) (by omega) (by omega)) (by first | assumption | rfl) ?_
        refine XE.aast d_Nd_dropLock_25 (by decide) rfl rfl (by first | exact Or.inl rfl | exact Or.inr rfl) (by first | assumption | decide | omega) (by first | assumption | exact ixn2 (by assumption) (by omega) (by omega)) ?_
        refine XE.iinc d_Nd_dropLock_26 rfl (inc_nI _) ?_
        refine XE.goto 2 d_Nd_dropLock_29 (by decide) ?_
        refine ih (i + 1) _ (by omega) (by omega) (by omega) c1 c2 c3 (fun k o' t h => by rw [wR_sR, if_neg (fun q => h ⟨q.1, q.2.1⟩)]; exact c4 k o' t h) (fun t h => by rw [wR_sR, if_neg (by omega)]; exact c5 t h) (fun t h => by rw [wR_sR, if_neg (by omega)]; exact c6 t (by omega)) (fun t h1 h2 => ?_)
        rw [wR_sR]
        by_cases q : t = i
        · rw [if_pos ⟨rfl, rfl, q⟩, q]
        · rw [if_neg (fun z => q z.2.2)]; exact c7 t h1 (by omega)
  refine XE.iload_n d_Nd_dropLock_0 rfl ?_
  refine XE.istore_n d_Nd_dropLock_1 (by decide) ?_
  exact loop (L.length - j) j w (by omega) (by omega) (Nat.le_refl _) rfl rfl rfl (fun _ _ _ _ => rfl) (fun _ _ => rfl) (fun _ _ => rfl) (fun t h1 h2 => by omega)
theorem Nd_dropLocksOf_ok {w : WW} {d o x : Nat} {L : List KR'} (ho : o ≠ 0) (hL : NL w o L) : E_Nd_dropLocksOf d [.inr (1, o), .inr (2, x)] w (fun r w' => r = none ∧ NL w' o (L.filter (fun k => !(k.1 == x))) ∧ FK w w' o) := by
  refine S_Nd_dropLocksOf ?_
  obtain ⟨n1, n2, n3, n4, n5⟩ := hL
  generalize hp : (fun k : KR' => !(k.1 == x)) = p
  have loop : ∀ k i w1, i + k = L.length → w1.1 = w.1 → w1.2.1 = w.2.1 → w1.2.2.2 = w.2.2.2 → (∀ k o' t, ¬ (k = 104 ∧ o' = o) → wR w1 k o' t = wR w k o' t) → (∀ t, i ≤ t → wR w1 104 o t = wR w 104 o t) → HO (LKR w) (fun t => wR w1 104 o t) ((L.take i).filter p) →
      X_Nd_dropLocksOf d 4 [some (.inr (1, o)), some (.inr (2, x)), some (.inl (nI ((L.take i).filter p).length)), some (.inl (nI i))] [] w1 (fun r w' => r = none ∧ NL w' o (L.filter p) ∧ FK w w' o) := by
    intro k
    induction k with
    | zero =>
      intro i w1 hi c1 c2 c3 c4 c5 c6
      have m2 : wI w1 1 o 7 = nI L.length := by unfold wI; rw [c2]; exact n2
      have m3 : wL w1 104 o = wL w 104 o := by unfold wL; rw [c3]
      rw [show L.take i = L from List.take_of_length_le (by omega)] at *
      have hF : FK w (sI w1 1 o 7 (nI (L.filter p).length)) o := ⟨c1, fun k o' t h => by rw [wI_sI, if_neg h]; unfold wI; rw [c2], fun k o' t h => c4 k o' t h, c3⟩
      have hlen : (L.filter p).length ≤ L.length := List.length_filter_le _ _
      refine XE.iload_n d_Nd_dropLocksOf_4 rfl ?_
      refine XE.aload_n d_Nd_dropLocksOf_5 rfl ?_
      refine g_Nd_35 d_Nd_dropLocksOf_6 (by first | assumption | decide | omega) (by first | assumption | rfl) ?_
      refine XE.icmp_ge 46 d_Nd_dropLocksOf_9 (by decide) (fun h9 => ?_) (fun h9 => absurd h9 ((fun z => z ((le_nI (by omega) (by omega)).mpr (by omega)))))
      refine XE.aload_n d_Nd_dropLocksOf_46 rfl ?_
      refine XE.iload_n d_Nd_dropLocksOf_47 rfl ?_
      refine p_Nd_35 d_Nd_dropLocksOf_48 (by first | assumption | decide | omega) ?_
      exact XE.rv d_Nd_dropLocksOf_51 ⟨rfl, ⟨by show wR w1 1 o 6 = o; rw [c4 _ _ _ (by omega)]; exact n1, by rw [wI_sI, if_pos ⟨rfl, rfl, rfl⟩], by show _ ≤ wL w1 104 o; omega, by show wL w1 104 o ≤ 8; omega, c6.mono (fun κ x q => hF.lkr q)⟩, hF⟩
    | succ k ih =>
      intro i w1 hi c1 c2 c3 c4 c5 c6
      have hlt : i < L.length := by omega
      have m1 : wR w1 1 o 6 = o := by rw [c4 _ _ _ (by omega)]; exact n1
      have m2 : wI w1 1 o 7 = nI L.length := by unfold wI; rw [c2]; exact n2
      have m3 : wL w1 104 o = wL w 104 o := by unfold wL; rw [c3]
      have hix : IXN (nI i) (wL w1 104 o) i := IXN.nI (by omega) (by omega)
      have hfl := flt_len (p := p) (L := L) (i := i)
      have hkx : IXN (nI ((L.take i).filter p).length) (wL w1 104 o) ((L.take i).filter p).length := IXN.nI (by omega) (by omega)
      have hv : wR w1 104 o i = wR w 104 o i := c5 i (Nat.le_refl _)
      have h5 := n5 i hlt
      have a0 : wR w 104 o i ≠ 0 := h5.1
      have a1 : wR w1 4 (wR w 104 o i) 0 = L[i].1 := by rw [c4 _ _ _ (by omega)]; exact h5.2.1
      have ft := flt_take (p := p) hlt
      refine XE.iload_n d_Nd_dropLocksOf_4 rfl ?_
      refine XE.aload_n d_Nd_dropLocksOf_5 rfl ?_
      refine g_Nd_35 d_Nd_dropLocksOf_6 (by first | assumption | decide | omega) (by first | assumption | rfl) ?_
      refine XE.icmp_ge 46 d_Nd_dropLocksOf_9 (by decide) (fun h9 => absurd h9 ((fun z => by have := (le_nI (by omega) (by omega)).mp z; omega))) (fun h9 => ?_)
      refine XE.aload_n d_Nd_dropLocksOf_12 rfl ?_
      refine g_Nd_31 d_Nd_dropLocksOf_13 (by first | assumption | decide | omega) (by first | assumption | rfl) ?_
      refine XE.iload_n d_Nd_dropLocksOf_16 rfl ?_
      refine XE.aald (x := wR w 104 o i) d_Nd_dropLocksOf_17 (by decide) rfl (by first | assumption | decide | omega) (by first | assumption | exact ixn2 (by assumption) (by omega) (by omega)) (by first | assumption | rfl) ?_
      refine g_Nd_45 d_Nd_dropLocksOf_18 (by first | assumption | decide | omega) (by first | assumption | rfl) ?_
      refine XE.aload_n d_Nd_dropLocksOf_21 rfl ?_
      refine XE.acmp_eq 40 d_Nd_dropLocksOf_22 (by decide) (by decide) (fun h22 => ?_) (fun h22 => ?_)
      · have q : ¬ p L[i] = true := by (rw [← hp]; simp [h22])
        refine XE.iinc d_Nd_dropLocksOf_40 rfl (inc_nI _) ?_
        refine XE.goto 4 d_Nd_dropLocksOf_43 (by decide) ?_
        first | (rw [if_neg q] at ft; have := ih (i + 1) w1 (by omega) c1 c2 c3 c4 (fun t h => c5 t (by omega)) (by rw [ft]; exact c6); rw [ft] at this; exact this) | (rw [if_pos q] at ft; have hl2 : ((L.take (i + 1)).filter p).length = ((L.take i).filter p).length + 1 := (by rw [ft, List.length_append]; rfl); have := ih (i + 1) (sR w1 104 o ((L.take i).filter p).length (wR w 104 o i)) (by omega) c1 c2 c3 (fun k o' t h => by rw [wR_sR, if_neg (fun q => h ⟨q.1, q.2.1⟩)]; exact c4 k o' t h) (fun t h => by rw [wR_sR, if_neg (by omega)]; exact c5 t (by omega)) (by rw [ft]; exact c6.snoc (fun t ht => by rw [wR_sR, if_neg (by omega)]) (by rw [wR_sR, if_pos ⟨rfl, rfl, rfl⟩]; exact h5)); rw [hl2] at this; exact this)
      · have q : p L[i] = true := by (rw [← hp]; simp [h22])
        refine XE.aload_n d_Nd_dropLocksOf_25 rfl ?_
        refine g_Nd_31 d_Nd_dropLocksOf_26 (by first | assumption | decide | omega) (by first | assumption | rfl) ?_
        refine XE.iload_n d_Nd_dropLocksOf_29 rfl ?_
        refine XE.aload_n d_Nd_dropLocksOf_30 rfl ?_
        refine g_Nd_31 d_Nd_dropLocksOf_31 (by first | assumption | decide | omega) (by first | assumption | rfl) ?_
        refine XE.iload_n d_Nd_dropLocksOf_34 rfl ?_
        refine XE.aald (x := wR w 104 o i) d_Nd_dropLocksOf_35 (by decide) rfl (by first | assumption | decide | omega) (by first | assumption | exact ixn2 (by assumption) (by omega) (by omega)) (by first | assumption | rfl) ?_
        refine XE.aast d_Nd_dropLocksOf_36 (by decide) rfl rfl (by first | exact Or.inl rfl | exact Or.inr rfl) (by first | assumption | decide | omega) (by first | assumption | exact ixn2 (by assumption) (by omega) (by omega)) ?_
        refine XE.iinc d_Nd_dropLocksOf_37 rfl (inc_nI _) ?_
        refine XE.iinc d_Nd_dropLocksOf_40 rfl (inc_nI _) ?_
        refine XE.goto 4 d_Nd_dropLocksOf_43 (by decide) ?_
        first | (rw [if_neg q] at ft; have := ih (i + 1) w1 (by omega) c1 c2 c3 c4 (fun t h => c5 t (by omega)) (by rw [ft]; exact c6); rw [ft] at this; exact this) | (rw [if_pos q] at ft; have hl2 : ((L.take (i + 1)).filter p).length = ((L.take i).filter p).length + 1 := (by rw [ft, List.length_append]; rfl); have := ih (i + 1) (sR w1 104 o ((L.take i).filter p).length (wR w 104 o i)) (by omega) c1 c2 c3 (fun k o' t h => by rw [wR_sR, if_neg (fun q => h ⟨q.1, q.2.1⟩)]; exact c4 k o' t h) (fun t h => by rw [wR_sR, if_neg (by omega)]; exact c5 t (by omega)) (by rw [ft]; exact c6.snoc (fun t ht => by rw [wR_sR, if_neg (by omega)]) (by rw [wR_sR, if_pos ⟨rfl, rfl, rfl⟩]; exact h5)); rw [hl2] at this; exact this)
  refine XE.iconst (x := nI 0) d_Nd_dropLocksOf_0 (by decide) ?_
  refine XE.istore_n d_Nd_dropLocksOf_1 (by decide) ?_
  refine XE.iconst (x := nI 0) d_Nd_dropLocksOf_2 (by decide) ?_
  refine XE.istore_n d_Nd_dropLocksOf_3 (by decide) ?_
  exact loop L.length 0 w (by omega) rfl rfl rfl (fun _ _ _ _ => rfl) (fun _ _ => rfl) HO.nil
