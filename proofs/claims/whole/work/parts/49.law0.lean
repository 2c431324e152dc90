/-! THE LAW: what holds between two calls -/
theorem FM.fn {w w' : WW} (h : FM w w') : FN w w' := ⟨fun k o j h1 h2 => ⟨h.2.2 k o j h1 h2, by unfold wR; rw [h.2.1]⟩, fun k _ => by unfold wC; rw [h.1], fun k o _ => by unfold wL; rw [h.2.1]⟩
theorem cr_fn {w w' : WW} {m : MS} (hR : CR w m) (h : FN w w') : CR w' m := by
  have i0 : ∀ o j, wI w' 0 o j = wI w 0 o j := fun o j => (h.1 0 o j (by decide) (by decide)).1
  have i1 : ∀ o j, wI w' 1 o j = wI w 1 o j := fun o j => (h.1 1 o j (by decide) (by decide)).1
  have i2 : ∀ o j, wI w' 2 o j = wI w 2 o j := fun o j => (h.1 2 o j (by decide) (by decide)).1
  have i3 : ∀ o j, wI w' 3 o j = wI w 3 o j := fun o j => (h.1 3 o j (by decide) (by decide)).1
  have i4 : ∀ o j, wI w' 4 o j = wI w 4 o j := fun o j => (h.1 4 o j (by decide) (by decide)).1
  have i5 : ∀ o j, wI w' 5 o j = wI w 5 o j := fun o j => (h.1 5 o j (by decide) (by decide)).1
  have i6 : ∀ o j, wI w' 6 o j = wI w 6 o j := fun o j => (h.1 6 o j (by decide) (by decide)).1
  have i103 : ∀ o j, wI w' 103 o j = wI w 103 o j := fun o j => (h.1 103 o j (by decide) (by decide)).1
  have r0 : ∀ o j, wR w' 0 o j = wR w 0 o j := fun o j => (h.1 0 o j (by decide) (by decide)).2
  have r1 : ∀ o j, wR w' 1 o j = wR w 1 o j := fun o j => (h.1 1 o j (by decide) (by decide)).2
  have r2 : ∀ o j, wR w' 2 o j = wR w 2 o j := fun o j => (h.1 2 o j (by decide) (by decide)).2
  have r4 : ∀ o j, wR w' 4 o j = wR w 4 o j := fun o j => (h.1 4 o j (by decide) (by decide)).2
  have r5 : ∀ o j, wR w' 5 o j = wR w 5 o j := fun o j => (h.1 5 o j (by decide) (by decide)).2
  have r6 : ∀ o j, wR w' 6 o j = wR w 6 o j := fun o j => (h.1 6 o j (by decide) (by decide)).2
  have r100 : ∀ o j, wR w' 100 o j = wR w 100 o j := fun o j => (h.1 100 o j (by decide) (by decide)).2
  have r101 : ∀ o j, wR w' 101 o j = wR w 101 o j := fun o j => (h.1 101 o j (by decide) (by decide)).2
  have r102 : ∀ o j, wR w' 102 o j = wR w 102 o j := fun o j => (h.1 102 o j (by decide) (by decide)).2
  have r104 : ∀ o j, wR w' 104 o j = wR w 104 o j := fun o j => (h.1 104 o j (by decide) (by decide)).2
  have r105 : ∀ o j, wR w' 105 o j = wR w 105 o j := fun o j => (h.1 105 o j (by decide) (by decide)).2
  have c1 := h.2.1 1 (by decide)
  have c2 := h.2.1 2 (by decide)
  have c3 := h.2.1 3 (by decide)
  have c4 := h.2.1 4 (by decide)
  have c5 := h.2.1 5 (by decide)
  have c103 := h.2.1 103 (by decide)
  have c104 := h.2.1 104 (by decide)
  have l100 := fun o => h.2.2 100 o (by decide)
  have l101 := fun o => h.2.2 101 o (by decide)
  have l102 := fun o => h.2.2 102 o (by decide)
  have l103 := fun o => h.2.2 103 o (by decide)
  have l104 := fun o => h.2.2 104 o (by decide)
  have l105 := fun o => h.2.2 105 o (by decide)
  have eK : LKR w' = LKR w := by
    funext κ k
    unfold LKR
    simp only [r4, i4, c4]
  have eH : HDR w' = HDR w := by
    funext x k
    unfold HDR
    simp only [i2]
  have eQ : RQR w' = RQR w := by
    funext x k
    unfold RQR
    simp only [i3]
  have eC : ctW w' = ctW w := by
    unfold ctW
    simp only [r100, i0, i1, i103]
  have eR : rcW w' = rcW w := by
    funext i
    unfold rcW
    simp only [r105, i5, r5]
  unfold CR SSt NST LGC DC KC HC QC at hR ⊢
  simp only [eK, eH, eQ, eC, eR, i0, i1, i6, i103, r0, r1, r2, r6, r100, r101, r102, r104, r105, c1, c2, c3, c5, c103, c104, l100, l101, l102, l103, l104, l105]
  exact hR
theorem rm_fc {w w' : WW} {m : MS} (hM : RM w m) (h : FC0 w w') : RM w' m := by
  have i7 : ∀ o j, wI w' 7 o j = wI w 7 o j := fun o j => (h.1 7 o j (Or.inl rfl)).1
  have r7 : ∀ o j, wR w' 7 o j = wR w 7 o j := fun o j => (h.1 7 o j (Or.inl rfl)).2
  have i110 : ∀ o j, wI w' 110 o j = wI w 110 o j := fun o j => (h.1 110 o j (by decide)).1
  have i111 : ∀ o j, wI w' 111 o j = wI w 111 o j := fun o j => (h.1 111 o j (by decide)).1
  have i112 : ∀ o j, wI w' 112 o j = wI w 112 o j := fun o j => (h.1 112 o j (by decide)).1
  have i113 : ∀ o j, wI w' 113 o j = wI w 113 o j := fun o j => (h.1 113 o j (by decide)).1
  have i114 : ∀ o j, wI w' 114 o j = wI w 114 o j := fun o j => (h.1 114 o j (by decide)).1
  have i115 : ∀ o j, wI w' 115 o j = wI w 115 o j := fun o j => (h.1 115 o j (by decide)).1
  have i116 : ∀ o j, wI w' 116 o j = wI w 116 o j := fun o j => (h.1 116 o j (by decide)).1
  have i117 : ∀ o j, wI w' 117 o j = wI w 117 o j := fun o j => (h.1 117 o j (by decide)).1
  have i118 : ∀ o j, wI w' 118 o j = wI w 118 o j := fun o j => (h.1 118 o j (by decide)).1
  have i119 : ∀ o j, wI w' 119 o j = wI w 119 o j := fun o j => (h.1 119 o j (by decide)).1
  have l110 := fun o => h.2.2 110 o (by decide)
  have l111 := fun o => h.2.2 111 o (by decide)
  have l112 := fun o => h.2.2 112 o (by decide)
  have l113 := fun o => h.2.2 113 o (by decide)
  have l114 := fun o => h.2.2 114 o (by decide)
  have l115 := fun o => h.2.2 115 o (by decide)
  have l116 := fun o => h.2.2 116 o (by decide)
  have l117 := fun o => h.2.2 117 o (by decide)
  have l118 := fun o => h.2.2 118 o (by decide)
  have l119 := fun o => h.2.2 119 o (by decide)
  unfold RM MdS RMt at hM ⊢
  simp only [i7, r7, i110, i111, i112, i113, i114, i115, i116, i117, i118, i119, l110, l111, l112, l113, l114, l115, l116, l117, l118, l119]
  exact hM
/-- the script -/
def SX (L : Nat) (xs : Nat → Int32) (w : WW) : Prop := wL w 99 1 = L ∧ ∀ j, wI w 99 1 j = xs j
theorem SX.fc {L : Nat} {xs : Nat → Int32} {w w' : WW} (h : SX L xs w) (f : FC0 w w') : SX L xs w' := ⟨(f.2.2 99 1 (by decide)).trans h.1, fun j => ((f.1 99 1 j (by decide)).1).trans (h.2 j)⟩
theorem SX.fn {L : Nat} {xs : Nat → Int32} {w w' : WW} (h : SX L xs w) (f : FN w w') : SX L xs w' := ⟨(f.2.2 99 1 (by decide)).trans h.1, fun j => ((f.1 99 1 j (by decide) (by decide)).1).trans (h.2 j)⟩
/-- how many there are of each kind after c calls -/
def CNT (c : Nat) (w : WW) : Prop := wC w 1 ≤ wC w 2 + 1 ∧ wC w 4 + wC w 5 ≤ wC w 2 + c ∧ ∀ k, k < 120 → ¬ ((1 ≤ k ∧ k ≤ 5) ∨ k = 103 ∨ k = 104) → wC w k ≤ 1
theorem CNT.fc {c : Nat} {w w' : WW} (h : CNT c w) (f : FC 1 w w') : CNT (c + 1) w' := by
  obtain ⟨a1, a2, a3⟩ := h
  obtain ⟨-, b1, b2, b3⟩ := f
  exact ⟨by omega, by omega, fun k k1 k2 => by rw [b3 k k2]; exact a3 k k1 k2⟩
theorem CNT.fm {c : Nat} {w w' : WW} (h : CNT c w) (f : FM w w') : CNT c w' := by
  have e : ∀ k, wC w' k = wC w k := fun k => by unfold wC; rw [f.1]
  unfold CNT
  rw [e, e, e, e]
  exact ⟨h.1, h.2.1, fun k k1 k2 => by rw [e]; exact h.2.2 k k1 k2⟩
def LI (L : Nat) (xs : Nat → Int32) (c : Nat) (w : WW) (m : MS) : Prop := RM w m ∧ CR w m ∧ IV c m ∧ SX L xs w ∧ CNT c w
theorem LI.step {L : Nat} {xs : Nat → Int32} {c : Nat} {w w2 w3 : WW} {m m' : MS} (h : LI L xs c w m) (a : CR w2 m') (f : FC 1 w w2) (b : RM w3 m') (g : FM w2 w3) (i : IV (c + 1) m') : LI L xs (c + 1) w3 m' :=
  ⟨b, cr_fn a g.fn, i, (h.2.2.2.1.fc f.1).fn g.fn, (h.2.2.2.2.fc f).fm g⟩
/-- the state between two calls, at a place of the law -/
abbrev LSt (c : Nat) : List (Option VV) := [some (.inr (99, 1)), some (.inr (0, 1)), some (.inr (7, 1)), some (.inl (nI (6 * c)))]
theorem sw18 (v : Int32) : (∃ k, k ≤ 17 ∧ v = nI k) ∨ (v.toInt < 0 ∨ 17 < v.toInt) := by
  by_cases h : nI 0 ≤ v ∧ v ≤ nI 17
  · obtain ⟨k, hk, e⟩ := rng0 (by decide) h
    exact Or.inl ⟨k, hk, e⟩
  · refine Or.inr ?_
    rw [Int32.le_iff_toInt_le, Int32.le_iff_toInt_le, nI_toInt (by decide), nI_toInt (by decide)] at h
    omega
