/-! the reference: locks go -/
def shl4 (w : WW) (i j : Nat) : WW := (w.1, (fun k o j' => if k = 119 ∧ o = 1 ∧ 4 * i ≤ j' ∧ j' < j then w.2.1 119 1 (j' + 4) else w.2.1 k o j'), w.2.2)
theorem wI_shl (w : WW) (i j k o j' : Nat) : wI (shl4 w i j) k o j' = if k = 119 ∧ o = 1 ∧ 4 * i ≤ j' ∧ j' < j then wI w 119 1 (j' + 4) else wI w k o j' := rfl
theorem shl4_0 (w : WW) (i : Nat) : shl4 w i (4 * i) = w := by
  have : (fun k o j' => if k = 119 ∧ o = 1 ∧ 4 * i ≤ j' ∧ j' < 4 * i then w.2.1 119 1 (j' + 4) else w.2.1 k o j') = w.2.1 := by
    funext k o j
    rw [if_neg (by omega)]
  show (w.1, _, w.2.2) = w
  rw [this]
theorem shl4_s (w : WW) (i j : Nat) (h : 4 * i ≤ j) : sI (shl4 w i j) 119 1 j (wI w 119 1 (j + 4)) = shl4 w i (j + 1) := by
  show (w.1, _, w.2.2) = (w.1, _, w.2.2)
  congr 2
  funext k o j'
  show (if k = 119 ∧ o = 1 ∧ j' = j then w.2.1 119 1 (j + 4) else if k = 119 ∧ o = 1 ∧ 4 * i ≤ j' ∧ j' < j then w.2.1 119 1 (j' + 4) else w.2.1 k o j') = if k = 119 ∧ o = 1 ∧ 4 * i ≤ j' ∧ j' < j + 1 then w.2.1 119 1 (j' + 4) else w.2.1 k o j'
  by_cases h1 : k = 119 ∧ o = 1
  · obtain ⟨rfl, rfl⟩ := h1
    by_cases h2 : j' = j
    · subst h2
      rw [if_pos ⟨rfl, rfl, rfl⟩, if_pos ⟨rfl, rfl, h, by omega⟩]
    · rw [if_neg (fun q => h2 q.2.2)]
      by_cases h3 : 4 * i ≤ j' ∧ j' < j
      · rw [if_pos ⟨rfl, rfl, h3⟩, if_pos ⟨rfl, rfl, h3.1, by omega⟩]
      · rw [if_neg (fun q => h3 q.2.2), if_neg (fun q => h3 ⟨q.2.2.1, by omega⟩)]
  · rw [if_neg (fun q => h1 ⟨q.1, q.2.1⟩), if_neg (fun q => h1 ⟨q.1, q.2.1⟩), if_neg (fun q => h1 ⟨q.1, q.2.1⟩)]
/-- one lock goes -/
theorem Md_unlockAt_ok {w : WW} {m : MS} {d i : Nat} (hM : RM w m) (hB : WB m) (hi : i < (mK m).length) :
    E_Md_unlockAt d [.inr (7, 1), .inl (nI i)] w (fun r w' => r = none ∧ RM w' (setK m ((mK m).eraseIdx i)) ∧ FM w w') := by
  refine S_Md_unlockAt ?_
  have hM' := hM
  obtain ⟨hS, c0, c1, hLg, hT, hDm, hh, hH, hq, hQ, hk4, hK, hs⟩ := hM
  have hS' := hS
  obtain ⟨s2, s4, s5, s6, s7, s8, s9, s11, s13, s15, l0, l1, l2, l3, l4, l5, l6, l7, l8, l9⟩ := hS
  have b4 := hB.2.2.2.1
  let v : WW := sI w 7 1 14 (nI ((mK m).length - 1))
  have hlen : ((mK m).eraseIdx i).length = (mK m).length - 1 := List.length_eraseIdx_of_lt hi
  have fin : RM (shl4 v i (4 * ((mK m).length - 1))) (setK m ((mK m).eraseIdx i)) := by
    have o : ∀ k o j, k ≠ 119 → wI (shl4 v i (4 * ((mK m).length - 1))) k o j = wI v k o j := fun k o j h => by
      rw [wI_shl, if_neg (fun q => h q.1)]
    refine ⟨hS', c0, c1, ?_, ?_, ?_, hh, ?_, hq, ⟨?_, ?_⟩, ?_, ?_, hs⟩
    · intro c hc f hf; rw [o _ _ _ (by omega)]; exact hLg c hc f hf
    · obtain ⟨x1, x2, x3⟩ := hT
      refine ⟨x1, fun x hx => by rw [o _ _ _ (by omega)]; exact x2 x hx, fun x hx hx2 => ?_⟩
      obtain ⟨y1, y2, y3, y4⟩ := x3 x hx hx2
      exact ⟨by rw [o _ _ _ (by omega)]; exact y1, by rw [o _ _ _ (by omega)]; exact y2, by rw [o _ _ _ (by omega)]; exact y3, fun i hi => by rw [o _ _ _ (by omega)]; exact y4 i hi⟩
    · intro x hx; rw [o _ _ _ (by omega)]; exact hDm x hx
    · intro x h1 h2 f hf; rw [o _ _ _ (by omega)]; exact hH x h1 h2 f hf
    · intro x h1 h2 f hf; rw [o _ _ _ (by omega)]; exact hQ.1 x h1 h2 f hf
    · intro x h1 h2; rw [o _ _ _ (by omega)]; exact hQ.2 x h1 h2
    · show wI (shl4 v i (4 * ((mK m).length - 1))) 7 1 14 = nI ((mK m).eraseIdx i).length
      rw [hlen, o _ _ _ (by omega)]
      simp [v, wI_sI]
    · intro t ht f hf
      have ht : t < ((mK m).eraseIdx i).length := ht
      show wI (shl4 v i (4 * ((mK m).length - 1))) 119 1 (4 * t + f) = krF (((mK m).eraseIdx i)[t]) f
      rw [List.getElem_eraseIdx, wI_shl]
      rw [hlen] at ht
      by_cases h : t < i
      · rw [dif_pos h, if_neg (by omega)]
        exact hK t (by omega) f hf
      · rw [dif_neg h, if_pos ⟨rfl, rfl, by omega, by omega⟩]
        have := hK (t + 1) (by omega) f hf
        rw [show 4 * t + f + 4 = 4 * (t + 1) + f by omega]
        exact this
  have loop : ∀ k j, j + k = 4 * ((mK m).length - 1) → 4 * i ≤ j → X_Md_unlockAt d 14 [some (.inr (7, 1)), some (.inl (nI i)), some (.inl (nI j))] [] (shl4 v i j) (fun r w' => r = none ∧ RM w' (setK m ((mK m).eraseIdx i)) ∧ FM w w') := by
    have hl14 : ∀ j, wI (shl4 v i j) 7 1 14 = nI ((mK m).length - 1) := fun j => rfl
    intro k
    induction k with
    | zero =>
      intro j h1 h2
      have h14 := hl14 j
      have e : j = 4 * ((mK m).length - 1) := h1
      subst e
      refine XE.iload_n d_Md_unlockAt_14 rfl ?_
      refine XE.iconst (x := nI 4) d_Md_unlockAt_15 (by decide) ?_
      refine XE.aload_n d_Md_unlockAt_16 rfl ?_
      refine g_Md_100 d_Md_unlockAt_17 (by first | assumption | decide | omega) (by first | assumption | rfl) ?_
      refine XE.imul d_Md_unlockAt_20 (by first | exact pk_mul _ _ | rfl) ?_
      refine XE.icmp_ge 44 d_Md_unlockAt_21 (by decide) (fun h21 => ?_) (fun h21 => absurd h21 ((by rw [le_nI (by omega) (by omega)]; omega)))
      exact XE.rv d_Md_unlockAt_44 ⟨rfl, fin, ⟨rfl, rfl, fun k o j h1 h2 => by rw [wI_shl, if_neg (by omega)]; exact (FM.sI (w := w) (Or.inl rfl)).2.2 k o j h1 h2⟩⟩
    | succ k ih =>
      intro j h1 h2
      have h14 := hl14 j
      have rd : wI (shl4 v i j) 119 1 (j + 4) = wI v 119 1 (j + 4) := by rw [wI_shl, if_neg (by omega)]
      refine XE.iload_n d_Md_unlockAt_14 rfl ?_
      refine XE.iconst (x := nI 4) d_Md_unlockAt_15 (by decide) ?_
      refine XE.aload_n d_Md_unlockAt_16 rfl ?_
      refine g_Md_100 d_Md_unlockAt_17 (by first | assumption | decide | omega) (by first | assumption | rfl) ?_
      refine XE.imul d_Md_unlockAt_20 (by first | exact pk_mul _ _ | rfl) ?_
      refine XE.icmp_ge 44 d_Md_unlockAt_21 (by decide) (fun h21 => absurd h21 ((by rw [le_nI (by omega) (by omega)]; omega))) (fun h21 => ?_)
      refine XE.aload_n d_Md_unlockAt_24 rfl ?_
      refine g_Md_38 d_Md_unlockAt_25 (by first | assumption | decide | omega) (by first | assumption | rfl) ?_
      refine XE.iload_n d_Md_unlockAt_28 rfl ?_
      refine XE.aload_n d_Md_unlockAt_29 rfl ?_
      refine g_Md_38 d_Md_unlockAt_30 (by first | assumption | decide | omega) (by first | assumption | rfl) ?_
      refine XE.iload_n d_Md_unlockAt_33 rfl ?_
      refine XE.iconst (x := nI 4) d_Md_unlockAt_34 (by decide) ?_
      refine XE.iadd d_Md_unlockAt_35 (by first | exact nI_add _ _ | rfl) ?_
      refine XE.iald d_Md_unlockAt_36 (Or.inr ⟨by decide, rfl⟩) (by first | assumption | decide | omega) (by first | assumption | exact ixn2 (by assumption) (by omega) (by omega)) (by first | assumption | rfl) ?_
      refine XE.iast d_Md_unlockAt_37 (by decide) rfl (by first | assumption | decide | omega) (by first | assumption | exact ixn2 (by assumption) (by omega) (by omega)) ?_
      refine XE.iinc d_Md_unlockAt_38 rfl (inc_nI _) ?_
      refine XE.goto 14 d_Md_unlockAt_41 (by decide) ?_
      rw [shl4_s v i j h2]
      exact ih (j + 1) (by omega) (by omega)
  refine XE.aload_n d_Md_unlockAt_0 rfl ?_
  refine XE.dup d_Md_unlockAt_1 ?_
  refine g_Md_100 d_Md_unlockAt_2 (by first | assumption | decide | omega) (by first | assumption | rfl) ?_
  refine XE.iconst (x := nI 1) d_Md_unlockAt_5 (by decide) ?_
  refine XE.isub d_Md_unlockAt_6 (pk_sub (by omega)) ?_
  refine p_Md_100 d_Md_unlockAt_7 (by first | assumption | decide | omega) ?_
  refine XE.iconst (x := nI 4) d_Md_unlockAt_10 (by decide) ?_
  refine XE.iload_n d_Md_unlockAt_11 rfl ?_
  refine XE.imul d_Md_unlockAt_12 (by first | exact pk_mul _ _ | rfl) ?_
  refine XE.istore_n d_Md_unlockAt_13 (by decide) ?_
  have L := loop (4 * ((mK m).length - 1) - 4 * i) (4 * i) (by omega) (by omega)
  rw [shl4_0] at L
  exact L
theorem WB.setk {m : MS} (hB : WB m) {K : List KR'} (hl : K.length ≤ 200) (h : ∀ k ∈ K, k ∈ mK m) : WB (setK m K) := by
  obtain ⟨b1, b2, b3, b4, b5, b6, b7, b8, b9, b10⟩ := hB
  exact ⟨b1, b2, b3, hl, b5, b6, fun k hk => b7 k (h k hk), b8, b9, b10⟩
theorem RM.dset {w : WW} {m : MS} (hM : RM w m) (n : Nat) (b : Bool) : RM (sI w 115 1 n (bI b)) (setD m (uf (mM m) n b)) := by
  obtain ⟨hS, c0, c1, hLg, hT, hDm, hh, hH, hq, hQ, hk4, hK, hs⟩ := hM
  refine ⟨hS, c0, c1, hLg, hT, ?_, hh, hH, hq, hQ, hk4, hK, hs⟩
  intro x hx
  show wI (sI w 115 1 n (bI b)) 115 1 x = bI (uf (mM m) n b x)
  by_cases h : x = n
  · subst h
    rw [uf_s, wI_sI, if_pos ⟨rfl, rfl, rfl⟩]
  · rw [uf_n _ _ h, wI_sI, if_neg (by omega)]
    exact hDm x hx
theorem WB.setd {m : MS} (hB : WB m) (f : Nat → Bool) : WB (setD m f) := hB
theorem RM.oset {w : WW} {m : MS} (hM : RM w m) {x : Nat} (h1 : 1 ≤ x) (o : Bool) : RM (sI w 117 1 (7 * x + 6) (bI o)) (setH m (uf (mh m) x (hsO (mh m x) o))) := hM.hset h1 (by decide) (fun g hg => by
  match g, hg with
  | 0, _ => rfl
  | 1, _ => rfl
  | 2, _ => rfl
  | 3, _ => rfl
  | 4, _ => rfl
  | 5, _ => rfl
  | 6, _ => rfl)
