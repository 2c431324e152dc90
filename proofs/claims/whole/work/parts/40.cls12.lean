/-! THE CLASS: its locks, its opens, doom and removal -/
def arW (w : WW) (K o : Nat) (a : Nat → Nat) : WW := (w.1, w.2.1, (fun k o' j => if k = K ∧ o' = o then a j else w.2.2.1 k o' j), w.2.2.2)
theorem wR_arW (w : WW) (K o : Nat) (a : Nat → Nat) (k o' j : Nat) : wR (arW w K o a) k o' j = if k = K ∧ o' = o then a j else wR w k o' j := rfl
theorem arW_id (w : WW) (K o : Nat) : arW w K o (fun j => wR w K o j) = w := by
  have : (fun k o' j => if k = K ∧ o' = o then wR w K o j else w.2.2.1 k o' j) = w.2.2.1 := by
    funext k o' j
    split
    · rename_i h; rw [h.1, h.2]; rfl
    · rfl
  show (w.1, w.2.1, (fun k o' j => if k = K ∧ o' = o then wR w K o j else w.2.2.1 k o' j), w.2.2.2) = w
  rw [this]
theorem arW_s (w : WW) (K o j x : Nat) (a : Nat → Nat) : sR (arW w K o a) K o j x = arW w K o (uf a j x) := by
  show (w.1, w.2.1, _, w.2.2.2) = (w.1, w.2.1, _, w.2.2.2)
  congr 3
  funext k o' j'
  show (if k = K ∧ o' = o ∧ j' = j then x else if k = K ∧ o' = o then a j' else w.2.2.1 k o' j') = if k = K ∧ o' = o then (if j' = j then x else a j') else w.2.2.1 k o' j'
  by_cases h : k = K ∧ o' = o
  · obtain ⟨rfl, rfl⟩ := h
    simp
  · rw [if_neg h, if_neg h, if_neg (fun z => h ⟨z.1, z.2.1⟩)]
theorem FK.eq {w w' : WW} {o : Nat} (h : FK w w' o) : w' = sI (arW w 104 o (fun t => wR w' 104 o t)) 1 o 7 (wI w' 1 o 7) := by
  obtain ⟨h1, h2, h3, h4⟩ := h
  have e2 : w'.2.1 = fun k o' j => if k = 1 ∧ o' = o ∧ j = 7 then wI w' 1 o 7 else w.2.1 k o' j := by
    funext k o' j
    split
    · rename_i q; rw [q.1, q.2.1, q.2.2]; rfl
    · rename_i q; exact h2 k o' j q
  have e3 : w'.2.2.1 = fun k o' j => if k = 104 ∧ o' = o then wR w' 104 o j else w.2.2.1 k o' j := by
    funext k o' j
    split
    · rename_i q; rw [q.1, q.2]; rfl
    · rename_i q; exact h3 k o' j q
  show w' = (w.1, (fun k o' j => if k = 1 ∧ o' = o ∧ j = 7 then wI w' 1 o 7 else w.2.1 k o' j), (fun k o' j => if k = 104 ∧ o' = o then wR w' 104 o j else w.2.2.1 k o' j), w.2.2.2)
  rw [← e2, ← e3, ← h1, ← h4]
section CLS
variable {w : WW} {m : MS} {c d : Nat}
theorem sI_j {w : WW} {k o j k' o' j' : Nat} {x : Int32} (h : j' ≠ j) : wI (sI w k o j x) k' o' j' = wI w k' o' j' := by rw [wI_sI, if_neg (fun z => h z.2.2)]
theorem CTE.f4 {B o j : Nat} {x : Int32} (h : 4 ≤ j) : CTE B (ctW (sI w 1 o j x)) (ctW w) := ⟨fun _ _ => rfl, rfl, fun o' _ _ j' hj => sI_j (by omega), fun _ _ _ _ _ => rfl⟩
theorem LGC.f4 (hL : LGC w m) {o j : Nat} {x : Int32} (h : 4 ≤ j) : LGC (sI w 1 o j x) m := by
  obtain ⟨l1, l2, l3, l4⟩ := hL
  exact ⟨l1, l2, l3, l4.cg (CTE.f4 h) (Nat.le_refl _) (fun _ _ => rfl) (fun _ _ => rfl)⟩
theorem NST.f4 (hN : NST w) {o j : Nat} {x : Int32} (h : 4 ≤ j) (ho : o ≤ wC w 1) : NST (sI w 1 o j x) := by
  obtain ⟨n1, n2, n3, n4⟩ := hN
  refine ⟨n1, n2, fun o' o1 o2 => ?_, fun o' j' ho' => ⟨?_, (n4 o' j' ho').2⟩⟩
  · have := n3 o' o1 o2
    rw [sI_j (by omega)]
    exact this
  · have ho' : wC w 1 < o' := ho'
    rw [wI_sI, if_neg (by omega)]
    exact (n4 o' j' ho').1
theorem CR.N (hR : CR w m) (hB : WB m) {n : Nat} (hn : n ≤ 24) : wR w 100 1 n ≤ wC w 1 := ((hR.ct hB).2 n hn).1
theorem CR.inj (hR : CR w m) (hB : WB m) {n k : Nat} (hn : n ≤ 24) (hk : k ≤ 24) (ht : tT (mT m) n = true) (hs : tT (mT m) k = true) (h : k ≠ n) : wR w 100 1 k ≠ wR w 100 1 n := fun e => h ((hR.ct hB).inj hk hn hs ht e)
theorem CR.dset (hR : CR w m) (hB : WB m) {n : Nat} (hn : n ≤ 24) (ht : tT (mT m) n = true) (b : Bool) : CR (sI w 1 (wR w 100 1 n) 4 (bI b)) (setD m (uf (mM m) n b)) := by
  have hle := hR.N hB hn
  have hij := fun k hk hs h => hR.inj hB hn (k := k) hk ht hs h
  obtain ⟨c1, c2, c3, c4, c5, c6, c7, c8⟩ := hR
  refine ⟨c1, c2.f4 (by decide) hle, c3.f4 (m := m) (by decide), fun k hk hs => ?_, fun k hk hs => ?_, c6, c7, c8⟩
  · show wI (sI w 1 (wR w 100 1 n) 4 (bI b)) 1 (wR w 100 1 k) 4 = bI (uf (mM m) n b k)
    by_cases e : k = n
    · rw [e, uf_s, wI_sI, if_pos ⟨rfl, rfl, rfl⟩]
    · rw [uf_n _ _ e, wI_sI, if_neg (fun z => hij k hk hs e z.2.1)]
      exact c4 k hk hs
  · have q := c5 k hk hs
    refine ⟨?_, q.2⟩
    show wI (sI w 1 (wR w 100 1 n) 4 (bI b)) 1 (wR w 100 1 k) 7 = _
    rw [sI_j (by decide)]
    exact q.1
/-- the locks of one node changed -/
theorem CR.setk (hR : CR w m) (hB : WB m) {n : Nat} (hn : n ≤ 24) (ht : tT (mT m) n = true) {w' : WW} {K : List KR'} (hF : FK w w' (wR w 100 1 n)) (hNL : NL w' (wR w 100 1 n) (lkL (setK m K) n)) (ho : ∀ k, k ≠ n → lkL (setK m K) k = lkL m k) : CR w' (setK m K) := by
  have hle := hR.N hB hn
  have hij := fun k hk hs h => hR.inj hB hn (k := k) hk ht hs h
  obtain ⟨c1, c2, c3, c4, c5, c6, c7, c8⟩ := hR
  have eq := hF.eq
  generalize ho' : wR w 100 1 n = o at *
  obtain ⟨-, v7, -, -, vH⟩ := hNL
  generalize ha : (fun t => wR w' 104 o t) = a at *
  generalize hl : wI w' 1 o 7 = l at *
  subst eq
  refine ⟨c1, NST.f4 (w := arW w 104 o a) c2 (by decide) hle, LGC.f4 (w := arW w 104 o a) (m := m) c3 (by decide), fun k hk hs => ?_, fun k hk hs => ?_, c6, c7, c8⟩
  · show wI (sI (arW w 104 o a) 1 o 7 l) 1 (wR w 100 1 k) 4 = _
    rw [sI_j (by decide)]
    exact c4 k hk hs
  · show wI (sI (arW w 104 o a) 1 o 7 l) 1 (wR w 100 1 k) 7 = _ ∧ HO _ (fun t => wR (arW w 104 o a) 104 (wR w 100 1 k) t) _
    by_cases e : k = n
    · subst e
      rw [ho', wI_sI, if_pos ⟨rfl, rfl, rfl⟩]
      refine ⟨v7, ?_⟩
      have : (fun t => wR (arW w 104 o a) 104 o t) = a := by funext t; rw [wR_arW, if_pos ⟨rfl, rfl⟩]
      rw [this]
      exact vH
    · have hne : wR w 100 1 k ≠ o := hij k hk hs e
      rw [wI_sI, if_neg (fun z => hne z.2.1), ho k e]
      have q := c5 k hk hs
      refine ⟨q.1, HO.congr (L := lkL m k) (R := LKR (sI (arW w 104 o a) 1 o 7 l)) (a := fun t => wR w 104 (wR w 100 1 k) t) q.2 (fun t _ => ?_)⟩
      rw [wR_arW, if_neg (fun z => hne z.2)]
/-- a node's locks as the node's own methods want them -/
theorem CR.nl (hR : CR w m) (hB : WB m) (hI : MI m) {n : Nat} (hn : n ≤ 24) (ht : tT (mT m) n = true) : NL w (wR w 100 1 n) (lkL m n) := by
  have hT := hR.ct hB
  have h0 := hT.nz hn ht
  have hle := hR.N hB hn
  have hf : wI w 1 (wR w 100 1 n) 1 = bI (tF (mT m) n) := ((hT.2 n hn).2.2 ht).2.1
  obtain ⟨c1, ⟨-, -, n3, -⟩, -, -, c5, -⟩ := hR
  obtain ⟨a5, a6, a7⟩ := n3 (wR w 100 1 n) (Nat.pos_of_ne_zero h0) hle
  have q := c5 n hn ht
  have h8 : (lkL m n).length ≤ 8 := by rw [lkL_len]; exact hI.2.1 n
  rcases a7 with ⟨b1, b2, b3⟩ | ⟨b1, b3⟩
  · exact ⟨a6, q.1, by omega, by omega, q.2⟩
  · have e : lkL m n = [] := List.filter_eq_nil_iff.mpr (fun k hk => by
      intro z
      have z := beq_iff_eq.mp z
      have := (hI.2.2.1 k hk).2.1
      rw [z] at this
      rw [this, b1] at hf
      exact absurd hf (by decide))
    rw [e] at q ⊢
    exact ⟨a6, q.1, Nat.zero_le _, by omega, q.2⟩
theorem lkL_clK (m : MS) (x n : Nat) : lkL (clK m x) n = (lkL m n).filter (fun k => !(k.1 == x)) := by
  show ((mK m).filter (fun k => !(k.1 == x))).filter (fun k => hN (mh m k.1) == n) = ((mK m).filter (fun k => hN (mh m k.1) == n)).filter (fun k => !(k.1 == x))
  rw [List.filter_filter, List.filter_filter]
  exact List.filter_congr (fun k _ => Bool.and_comm _ _)
theorem cr_clK (hR : CR w m) (hB : WB m) (hI : MI m) {x : Nat} (hx : HX w m x) (hd : 1 ≤ d) : E_Nd_dropLocksOf d [.inr (1, wR w 100 1 (hN (mh m x))), .inr (2, x)] w (fun r w' => r = none ∧ CR w' (clK m x) ∧ FC 0 w w' ∧ FK w w' (wR w 100 1 (hN (mh m x)))) := by
  obtain ⟨x0, x1, x2, x3, x4, x5, x6, x7, -⟩ := hx
  refine (Nd_dropLocksOf_ok x7 (hR.nl hB hI x4 x5)).mono (fun r w' q => ⟨q.1, ?_, FC.FK q.2.2, q.2.2⟩)
  refine hR.setk hB x4 x5 q.2.2 ?_ (fun k hk => ?_)
  · have := lkL_clK m x (hN (mh m x))
    unfold clK at this
    rw [this]
    exact q.2.1
  · have := lkL_clK m x k
    unfold clK at this
    rw [this]
    refine List.filter_eq_self.mpr (fun q hq => ?_)
    have hq := (List.mem_filter.mp hq).2
    simp only [beq_iff_eq] at hq
    simp only [Bool.not_eq_true', beq_eq_false_iff_ne]
    intro z
    rw [z] at hq
    exact hk hq.symm
end CLS
