/-! THE LAW: its loop, its start -/
section LAWL
variable {L c : Nat} {xs : Nat → Int32} {w : WW} {m : MS} {Q : Option VV → WW → Prop}
theorem law_sw (v : Int32) (hL : L ≤ 3072) (h : LI L xs c w m) (h6 : 6 * c + 6 ≤ L) (go : ∀ w' m', LI L xs (c + 1) w' m' → X_Lw_law 9 716 (LSt c) [] w' Q) : X_Lw_law 9 33 (LSt c) [.inl v] w Q := by
  rcases sw18 v with ⟨k, hk, rfl⟩ | ho
  · have hk2 : k = 0 ∨ k = 1 ∨ k = 2 ∨ k = 3 ∨ k = 4 ∨ k = 5 ∨ k = 6 ∨ k = 7 ∨ k = 8 ∨ k = 9 ∨ k = 10 ∨ k = 11 ∨ k = 12 ∨ k = 13 ∨ k = 14 ∨ k = 15 ∨ k = 16 ∨ k = 17 := by omega
    rcases hk2 with rfl | rfl | rfl | rfl | rfl | rfl | rfl | rfl | rfl | rfl | rfl | rfl | rfl | rfl | rfl | rfl | rfl | rfl
    · exact XE.tableIn (off := 87) 120 d_Lw_law_33 (by decide) (by decide) (by decide) (by decide) (law_0 hL h h6 go)
    · exact XE.tableIn (off := 150) 183 d_Lw_law_33 (by decide) (by decide) (by decide) (by decide) (law_1 hL h h6 go)
    · exact XE.tableIn (off := 173) 206 d_Lw_law_33 (by decide) (by decide) (by decide) (by decide) (law_2 hL h h6 go)
    · exact XE.tableIn (off := 196) 229 d_Lw_law_33 (by decide) (by decide) (by decide) (by decide) (law_3 hL h h6 go)
    · exact XE.tableIn (off := 219) 252 d_Lw_law_33 (by decide) (by decide) (by decide) (by decide) (law_4 hL h h6 go)
    · exact XE.tableIn (off := 242) 275 d_Lw_law_33 (by decide) (by decide) (by decide) (by decide) (law_5 hL h h6 go)
    · exact XE.tableIn (off := 291) 324 d_Lw_law_33 (by decide) (by decide) (by decide) (by decide) (law_6 hL h h6 go)
    · exact XE.tableIn (off := 334) 367 d_Lw_law_33 (by decide) (by decide) (by decide) (by decide) (law_7 hL h h6 go)
    · exact XE.tableIn (off := 367) 400 d_Lw_law_33 (by decide) (by decide) (by decide) (by decide) (law_8 hL h h6 go)
    · exact XE.tableIn (off := 380) 413 d_Lw_law_33 (by decide) (by decide) (by decide) (by decide) (law_9 hL h h6 go)
    · exact XE.tableIn (off := 423) 456 d_Lw_law_33 (by decide) (by decide) (by decide) (by decide) (law_10 hL h h6 go)
    · exact XE.tableIn (off := 492) 525 d_Lw_law_33 (by decide) (by decide) (by decide) (by decide) (law_11 hL h h6 go)
    · exact XE.tableIn (off := 535) 568 d_Lw_law_33 (by decide) (by decide) (by decide) (by decide) (law_12 hL h h6 go)
    · exact XE.tableIn (off := 548) 581 d_Lw_law_33 (by decide) (by decide) (by decide) (by decide) (law_13 hL h h6 go)
    · exact XE.tableIn (off := 561) 594 d_Lw_law_33 (by decide) (by decide) (by decide) (by decide) (law_14 hL h h6 go)
    · exact XE.tableIn (off := 594) 627 d_Lw_law_33 (by decide) (by decide) (by decide) (by decide) (law_15 hL h h6 go)
    · exact XE.tableIn (off := 627) 660 d_Lw_law_33 (by decide) (by decide) (by decide) (by decide) (law_16 hL h h6 go)
    · exact XE.tableIn (off := 660) 693 d_Lw_law_33 (by decide) (by decide) (by decide) (by decide) (law_17 hL h h6 go)
  · refine XE.tableOut 716 d_Lw_law_33 ho (by decide) ?_
    obtain ⟨hM, hR, hV, hs, hN1, hN2, hN3⟩ := h
    exact go w m ⟨hM, hR, hV.up (by omega), hs, hN1, by omega, hN3⟩
theorem gt_end (hL : L ≤ 3072) (hc : 6 * c ≤ 3072) : nI L - nI 6 < nI (6 * c) ↔ L < 6 * c + 6 := by
  by_cases h : 6 ≤ L
  · rw [nI_sb h, lt_nI (by omega) (by omega)]
    omega
  · have hl : L = 0 ∨ L = 1 ∨ L = 2 ∨ L = 3 ∨ L = 4 ∨ L = 5 := by omega
    refine ⟨fun _ => by omega, fun _ => ?_⟩
    have hn : nI L - nI 6 < nI 0 := by rcases hl with rfl | rfl | rfl | rfl | rfl | rfl <;> decide
    have h0 : nI 0 ≤ nI (6 * c) := (le_nI (by omega) (by omega)).mpr (Nat.zero_le _)
    rw [Int32.lt_iff_toInt_lt] at hn ⊢
    rw [Int32.le_iff_toInt_le] at h0
    omega
def LE (L : Nat) (xs : Nat → Int32) (r : Option VV) (w' : WW) : Prop := r = some (.inl 1) ∧ ∃ c m, c ≤ 512 ∧ LI L xs c w' m
theorem law_loop (hL : L ≤ 3072) : ∀ (n c : Nat) (w : WW) (m : MS), LI L xs c w m → c ≤ 512 → L < 6 * c + 6 + 6 * n → X_Lw_law 9 18 (LSt c) [] w (LE L xs) := by
  intro n
  induction n with
  | zero =>
    intro c w m h hc hn
    have hs1 : nI (wL w 99 1) = nI L := congrArg nI h.2.2.2.1.1
    refine XE.iload_n d_Lw_law_18 rfl ?_
    refine XE.aload_n d_Lw_law_19 rfl ?_
    refine XE.alen d_Lw_law_20 (Or.inl rfl) (by first | assumption | decide | omega) (by first | assumption | rfl) ?_
    refine XE.bipush (x := nI 6) d_Lw_law_21 (by decide) ?_
    refine XE.isub d_Lw_law_23 rfl ?_
    refine XE.icmp_gt 722 d_Lw_law_24 (by decide) (fun h24 => ?_) (fun h24 => absurd h24 ((fun z => z ((gt_end hL (by omega)).mpr (by omega)))))
    refine XE.iconst (x := nI 1) d_Lw_law_722 (by decide) ?_
    exact XE.rb d_Lw_law_723 (by decide) ⟨rfl, c, m, hc, h⟩
  | succ n ih =>
    intro c w m h hc hn
    have hs := h.2.2.2.1
    have hs1 : nI (wL w 99 1) = nI L := congrArg nI hs.1
    have hs2 := hs.1
    by_cases h6 : L < 6 * c + 6
    · have h7 := h6
      refine XE.iload_n d_Lw_law_18 rfl ?_
      refine XE.aload_n d_Lw_law_19 rfl ?_
      refine XE.alen d_Lw_law_20 (Or.inl rfl) (by first | assumption | decide | omega) (by first | assumption | rfl) ?_
      refine XE.bipush (x := nI 6) d_Lw_law_21 (by decide) ?_
      refine XE.isub d_Lw_law_23 rfl ?_
      refine XE.icmp_gt 722 d_Lw_law_24 (by decide) (fun h24 => ?_) (fun h24 => absurd h24 ((fun z => z ((gt_end hL (by omega)).mpr h6))))
      refine XE.iconst (x := nI 1) d_Lw_law_722 (by decide) ?_
      exact XE.rb d_Lw_law_723 (by decide) ⟨rfl, c, m, hc, h⟩
    · have go : ∀ w' m', LI L xs (c + 1) w' m' → X_Lw_law 9 716 (LSt c) [] w' (LE L xs) := by
        intro w' m' h'
        have := ih (c + 1) w' m' h' (by omega) (by omega)
        refine XE.iinc d_Lw_law_716 rfl (show nI (6 * c) + Int32.ofInt 6 = nI (6 * (c + 1)) from (show nI (6 * c) + nI 6 = nI (6 * (c + 1)) from nI_add _ _)) ?_
        refine XE.goto 18 d_Lw_law_719 (by decide) ?_
        exact this
      refine XE.iload_n d_Lw_law_18 rfl ?_
      refine XE.aload_n d_Lw_law_19 rfl ?_
      refine XE.alen d_Lw_law_20 (Or.inl rfl) (by first | assumption | decide | omega) (by first | assumption | rfl) ?_
      refine XE.bipush (x := nI 6) d_Lw_law_21 (by decide) ?_
      refine XE.isub d_Lw_law_23 rfl ?_
      refine XE.icmp_gt 722 d_Lw_law_24 (by decide) (fun h24 => absurd h24 ((fun z => h6 ((gt_end hL (by omega)).mp z)))) (fun h24 => ?_)
      refine XE.aload_n d_Lw_law_27 rfl ?_
      refine XE.iload_n d_Lw_law_28 rfl ?_
      refine XE.iald (x := (xs (6 * c))) d_Lw_law_29 (Or.inl rfl) (by first | assumption | decide | omega) (by first | assumption | exact ixn2 (by assumption) (by omega) (by omega)) (hs.2 _) ?_
      refine XE.bipush (x := nI 31) d_Lw_law_30 (by decide) ?_
      refine XE.iand d_Lw_law_32 rfl ?_
      exact law_sw _ hL h (by omega) go
theorem wS0_C (k : Nat) : wC (nO (wS0 L xs) 7 17) k = if k = 7 then 1 else if k = 105 then 1 else if k = 6 then 1 else if k = 102 then 1 else if k = 101 then 1 else if k = 104 then 1 else if k = 103 then 1 else if k = 1 then 1 else if k = 100 then 1 else if k = 0 then 1 else if k = 99 then 1 else 0 := by
  have e : ∀ k, wC (w00 L xs) k = if k = 99 then 1 else 0 := fun _ => rfl
  unfold wS0 ndW
  simp only [wC_sR, wC_nA, wC_nO, wC_sI, e]
  simp
theorem wS0_C1 (k : Nat) : wC (nO (wS0 L xs) 7 17) k ≤ 1 := by
  rw [wS0_C]
  repeat' split
  all_goals decide
theorem law_start (hL : L ≤ 3072) : X_Lw_law 9 0 [some (.inr (99, 1)), none, none, none] [] (w00 L xs) (LE L xs) := by
  have hin := SS_init_ok (L := L) (xs := xs) (d := 8) (by omega)
  have hmd := Md_init_ok (w := nO (wS0 L xs) 7 17) (d := 8) md0_S0 (by omega)
  have hcr : CR (nO (wS0 L xs) 7 17) m00 := cr_00 (L := L) (xs := xs)
  have hsx : SX L xs (nO (wS0 L xs) 7 17) := ⟨rfl, fun j => rfl⟩
  refine n_Lw_7 d_Lw_law_0 ?_
  refine XE.dup d_Lw_law_3 ?_
  refine k_Lw_9 8 d_Lw_law_4 (by omega) (Nat.le_of_ble_eq_true rfl) (by first | assumption | decide | omega) hin (fun y1 w2 hm1 hq1 => ?_)
  obtain ⟨rfl, rfl⟩ := hq1
  refine XE.astore_n d_Lw_law_7 (by decide) ?_
  refine n_Lw_10 d_Lw_law_8 ?_
  refine XE.dup d_Lw_law_11 ?_
  refine k_Lw_12 8 d_Lw_law_12 (by omega) (Nat.le_of_ble_eq_true rfl) (by first | assumption | decide | omega) hmd (fun y2 w3 hm2 hq2 => ?_)
  obtain ⟨rfl, hM, hF, hC⟩ := hq2
  refine XE.astore_n d_Lw_law_15 (by decide) ?_
  refine XE.iconst (x := nI 0) d_Lw_law_16 (by decide) ?_
  refine XE.istore_n d_Lw_law_17 (by decide) ?_
  exact law_loop hL 512 0 w3 m00 ⟨hM, cr_fn hcr hF, iv_00, hsx.fn hF, by rw [hF.2.1 1 (by decide), hF.2.1 2 (by decide), wS0_C, wS0_C]; decide, by rw [hF.2.1 4 (by decide), hF.2.1 5 (by decide), hF.2.1 2 (by decide), wS0_C, wS0_C, wS0_C]; decide, fun k k1 k2 => (Nat.lt_or_ge k 110).elim (fun g => by rw [hF.2.1 k g]; exact wS0_C1 k) (fun g => hC k g k1)⟩ (by decide) (by omega)
end LAWL
