/-! THE LAW: its eighteen calls -/
section LAWC
variable {L c : Nat} {xs : Nat → Int32} {w : WW} {m : MS} {Q : Option VV → WW → Prop}
theorem law_0 (hL : L ≤ 3072) (h : LI L xs c w m) (h6 : 6 * c + 6 ≤ L) (go : ∀ w' m', LI L xs (c + 1) w' m' → X_Lw_law 9 716 (LSt c) [] w' Q) : X_Lw_law 9 120 (LSt c) [] w Q := by
  have hc : c < 512 := by omega
  obtain ⟨hM, hR, hV, hs, hN⟩ := id h
  have hs1 := hs.1
  have hq5 : mQ m < 512 := Nat.lt_of_le_of_lt hV.2.2.2 hc
  by_cases ok : opnOk (xs (6 * c + 1)) (xs (6 * c + 2)) (xs (6 * c + 3)) (xs (6 * c + 4)) (xs (6 * c + 5))
  · have hcl : E_SS_open 8 [.inr (0, 1), .inl (xs (6 * c + 1)), .inl (xs (6 * c + 2)), .inl (xs (6 * c + 3)), .inl (xs (6 * c + 4)), .inl (xs (6 * c + 5))] w (fun q w' => q = some (.inl (nI (mQ m + 1))) ∧ CR w' (opnS m (xs (6 * c + 1)) (xs (6 * c + 2)) (xs (6 * c + 3)) (xs (6 * c + 4)) (xs (6 * c + 5))) ∧ FC 1 w w') := (SS_open_ok hR hV.1 hV.2.1 hV.2.2.1 hq5 (by omega) (xs (6 * c + 1)) (xs (6 * c + 2)) (xs (6 * c + 3)) (xs (6 * c + 4)) (xs (6 * c + 5))).mono (fun q w' z => ⟨(z.2.2 ok).1, (z.2.2 ok).2, z.1.up1⟩)
    have hmd : ∀ w2, RM w2 m → E_Md_open 8 [.inr (7, 1), .inl (xs (6 * c + 1)), .inl (xs (6 * c + 2)), .inl (xs (6 * c + 3)), .inl (xs (6 * c + 4)), .inl (xs (6 * c + 5))] w2 (fun q w' => q = some (.inl (nI (mQ m + 1))) ∧ RM w' (opnS m (xs (6 * c + 1)) (xs (6 * c + 2)) (xs (6 * c + 3)) (xs (6 * c + 4)) (xs (6 * c + 5))) ∧ FM w2 w') := fun w2 hM2 => (Md_open_ok hM2 hV.1 hV.2.1 hq5 (by omega) (xs (6 * c + 1)) (xs (6 * c + 2)) (xs (6 * c + 3)) (xs (6 * c + 4)) (xs (6 * c + 5))).mono (fun q w' z => ⟨(z.2.2 ok).1, (z.2.2 ok).2, z.1⟩)
    have hiv : IV (c + 1) (opnS m (xs (6 * c + 1)) (xs (6 * c + 2)) (xs (6 * c + 3)) (xs (6 * c + 4)) (xs (6 * c + 5))) := iv_opn hV hc ok
    refine XE.aload_n d_Lw_law_120 rfl ?_
    refine XE.aload_n d_Lw_law_121 rfl ?_
    refine XE.iload_n d_Lw_law_122 rfl ?_
    refine XE.iconst (x := nI 1) d_Lw_law_123 (by decide) ?_
    refine XE.iadd d_Lw_law_124 (by first | exact nI_add _ _ | rfl) ?_
    refine XE.iald (x := (xs (6 * c + 1))) d_Lw_law_125 (Or.inl rfl) (by first | assumption | decide | omega) (by first | assumption | exact ixn2 (by assumption) (by omega) (by omega)) (hs.2 _) ?_
    refine XE.aload_n d_Lw_law_126 rfl ?_
    refine XE.iload_n d_Lw_law_127 rfl ?_
    refine XE.iconst (x := nI 2) d_Lw_law_128 (by decide) ?_
    refine XE.iadd d_Lw_law_129 (by first | exact nI_add _ _ | rfl) ?_
    refine XE.iald (x := (xs (6 * c + 2))) d_Lw_law_130 (Or.inl rfl) (by first | assumption | decide | omega) (by first | assumption | exact ixn2 (by assumption) (by omega) (by omega)) (hs.2 _) ?_
    refine XE.aload_n d_Lw_law_131 rfl ?_
    refine XE.iload_n d_Lw_law_132 rfl ?_
    refine XE.iconst (x := nI 3) d_Lw_law_133 (by decide) ?_
    refine XE.iadd d_Lw_law_134 (by first | exact nI_add _ _ | rfl) ?_
    refine XE.iald (x := (xs (6 * c + 3))) d_Lw_law_135 (Or.inl rfl) (by first | assumption | decide | omega) (by first | assumption | exact ixn2 (by assumption) (by omega) (by omega)) (hs.2 _) ?_
    refine XE.aload_n d_Lw_law_136 rfl ?_
    refine XE.iload_n d_Lw_law_137 rfl ?_
    refine XE.iconst (x := nI 4) d_Lw_law_138 (by decide) ?_
    refine XE.iadd d_Lw_law_139 (by first | exact nI_add _ _ | rfl) ?_
    refine XE.iald (x := (xs (6 * c + 4))) d_Lw_law_140 (Or.inl rfl) (by first | assumption | decide | omega) (by first | assumption | exact ixn2 (by assumption) (by omega) (by omega)) (hs.2 _) ?_
    refine XE.aload_n d_Lw_law_141 rfl ?_
    refine XE.iload_n d_Lw_law_142 rfl ?_
    refine XE.iconst (x := nI 5) d_Lw_law_143 (by decide) ?_
    refine XE.iadd d_Lw_law_144 (by first | exact nI_add _ _ | rfl) ?_
    refine XE.iald (x := (xs (6 * c + 5))) d_Lw_law_145 (Or.inl rfl) (by first | assumption | decide | omega) (by first | assumption | exact ixn2 (by assumption) (by omega) (by omega)) (hs.2 _) ?_
    refine k_Lw_13 8 d_Lw_law_146 (by omega) (Nat.le_of_ble_eq_true rfl) (by first | assumption | decide | omega) hcl (fun y1 w2 hm1 hq1 => ?_)
    obtain ⟨rfl, hR2, hF2⟩ := hq1
    have hs2 := hs.fc hF2.1
    have hs21 := hs2.1
    have hM2 := rm_fc hM hF2.1
    refine XE.aload_n d_Lw_law_149 rfl ?_
    refine XE.aload_n d_Lw_law_150 rfl ?_
    refine XE.iload_n d_Lw_law_151 rfl ?_
    refine XE.iconst (x := nI 1) d_Lw_law_152 (by decide) ?_
    refine XE.iadd d_Lw_law_153 (by first | exact nI_add _ _ | rfl) ?_
    refine XE.iald (x := (xs (6 * c + 1))) d_Lw_law_154 (Or.inl rfl) (by first | assumption | decide | omega) (by first | assumption | exact ixn2 (by assumption) (by omega) (by omega)) (hs2.2 _) ?_
    refine XE.aload_n d_Lw_law_155 rfl ?_
    refine XE.iload_n d_Lw_law_156 rfl ?_
    refine XE.iconst (x := nI 2) d_Lw_law_157 (by decide) ?_
    refine XE.iadd d_Lw_law_158 (by first | exact nI_add _ _ | rfl) ?_
    refine XE.iald (x := (xs (6 * c + 2))) d_Lw_law_159 (Or.inl rfl) (by first | assumption | decide | omega) (by first | assumption | exact ixn2 (by assumption) (by omega) (by omega)) (hs2.2 _) ?_
    refine XE.aload_n d_Lw_law_160 rfl ?_
    refine XE.iload_n d_Lw_law_161 rfl ?_
    refine XE.iconst (x := nI 3) d_Lw_law_162 (by decide) ?_
    refine XE.iadd d_Lw_law_163 (by first | exact nI_add _ _ | rfl) ?_
    refine XE.iald (x := (xs (6 * c + 3))) d_Lw_law_164 (Or.inl rfl) (by first | assumption | decide | omega) (by first | assumption | exact ixn2 (by assumption) (by omega) (by omega)) (hs2.2 _) ?_
    refine XE.aload_n d_Lw_law_165 rfl ?_
    refine XE.iload_n d_Lw_law_166 rfl ?_
    refine XE.iconst (x := nI 4) d_Lw_law_167 (by decide) ?_
    refine XE.iadd d_Lw_law_168 (by first | exact nI_add _ _ | rfl) ?_
    refine XE.iald (x := (xs (6 * c + 4))) d_Lw_law_169 (Or.inl rfl) (by first | assumption | decide | omega) (by first | assumption | exact ixn2 (by assumption) (by omega) (by omega)) (hs2.2 _) ?_
    refine XE.aload_n d_Lw_law_170 rfl ?_
    refine XE.iload_n d_Lw_law_171 rfl ?_
    refine XE.iconst (x := nI 5) d_Lw_law_172 (by decide) ?_
    refine XE.iadd d_Lw_law_173 (by first | exact nI_add _ _ | rfl) ?_
    refine XE.iald (x := (xs (6 * c + 5))) d_Lw_law_174 (Or.inl rfl) (by first | assumption | decide | omega) (by first | assumption | exact ixn2 (by assumption) (by omega) (by omega)) (hs2.2 _) ?_
    refine k_Lw_17 8 d_Lw_law_175 (by omega) (Nat.le_of_ble_eq_true rfl) (by first | assumption | decide | omega) (hmd w2 hM2) (fun y2 w3 hm2 hq2 => ?_)
    obtain ⟨rfl, hM3, hG3⟩ := hq2
    refine XE.icmp_eq 716 d_Lw_law_178 (by decide) (fun h178 => ?_) (fun h178 => absurd h178 ((fun z => z rfl)))
    exact go w3 _ (h.step hR2 hF2 hM3 hG3 hiv)
  · have hcl : E_SS_open 8 [.inr (0, 1), .inl (xs (6 * c + 1)), .inl (xs (6 * c + 2)), .inl (xs (6 * c + 3)), .inl (xs (6 * c + 4)), .inl (xs (6 * c + 5))] w (fun q w' => q = some (.inl (-1)) ∧ CR w' (m) ∧ FC 1 w w') := (SS_open_ok hR hV.1 hV.2.1 hV.2.2.1 hq5 (by omega) (xs (6 * c + 1)) (xs (6 * c + 2)) (xs (6 * c + 3)) (xs (6 * c + 4)) (xs (6 * c + 5))).mono (fun q w' z => ⟨(z.2.1 ok).1, (z.2.1 ok).2, z.1.up1⟩)
    have hmd : ∀ w2, RM w2 m → E_Md_open 8 [.inr (7, 1), .inl (xs (6 * c + 1)), .inl (xs (6 * c + 2)), .inl (xs (6 * c + 3)), .inl (xs (6 * c + 4)), .inl (xs (6 * c + 5))] w2 (fun q w' => q = some (.inl (-1)) ∧ RM w' (m) ∧ FM w2 w') := fun w2 hM2 => (Md_open_ok hM2 hV.1 hV.2.1 hq5 (by omega) (xs (6 * c + 1)) (xs (6 * c + 2)) (xs (6 * c + 3)) (xs (6 * c + 4)) (xs (6 * c + 5))).mono (fun q w' z => ⟨(z.2.1 ok).1, (z.2.1 ok).2, z.1⟩)
    have hiv : IV (c + 1) (m) := hV.up hc
    refine XE.aload_n d_Lw_law_120 rfl ?_
    refine XE.aload_n d_Lw_law_121 rfl ?_
    refine XE.iload_n d_Lw_law_122 rfl ?_
    refine XE.iconst (x := nI 1) d_Lw_law_123 (by decide) ?_
    refine XE.iadd d_Lw_law_124 (by first | exact nI_add _ _ | rfl) ?_
    refine XE.iald (x := (xs (6 * c + 1))) d_Lw_law_125 (Or.inl rfl) (by first | assumption | decide | omega) (by first | assumption | exact ixn2 (by assumption) (by omega) (by omega)) (hs.2 _) ?_
    refine XE.aload_n d_Lw_law_126 rfl ?_
    refine XE.iload_n d_Lw_law_127 rfl ?_
    refine XE.iconst (x := nI 2) d_Lw_law_128 (by decide) ?_
    refine XE.iadd d_Lw_law_129 (by first | exact nI_add _ _ | rfl) ?_
    refine XE.iald (x := (xs (6 * c + 2))) d_Lw_law_130 (Or.inl rfl) (by first | assumption | decide | omega) (by first | assumption | exact ixn2 (by assumption) (by omega) (by omega)) (hs.2 _) ?_
    refine XE.aload_n d_Lw_law_131 rfl ?_
    refine XE.iload_n d_Lw_law_132 rfl ?_
    refine XE.iconst (x := nI 3) d_Lw_law_133 (by decide) ?_
    refine XE.iadd d_Lw_law_134 (by first | exact nI_add _ _ | rfl) ?_
    refine XE.iald (x := (xs (6 * c + 3))) d_Lw_law_135 (Or.inl rfl) (by first | assumption | decide | omega) (by first | assumption | exact ixn2 (by assumption) (by omega) (by omega)) (hs.2 _) ?_
    refine XE.aload_n d_Lw_law_136 rfl ?_
    refine XE.iload_n d_Lw_law_137 rfl ?_
    refine XE.iconst (x := nI 4) d_Lw_law_138 (by decide) ?_
    refine XE.iadd d_Lw_law_139 (by first | exact nI_add _ _ | rfl) ?_
    refine XE.iald (x := (xs (6 * c + 4))) d_Lw_law_140 (Or.inl rfl) (by first | assumption | decide | omega) (by first | assumption | exact ixn2 (by assumption) (by omega) (by omega)) (hs.2 _) ?_
    refine XE.aload_n d_Lw_law_141 rfl ?_
    refine XE.iload_n d_Lw_law_142 rfl ?_
    refine XE.iconst (x := nI 5) d_Lw_law_143 (by decide) ?_
    refine XE.iadd d_Lw_law_144 (by first | exact nI_add _ _ | rfl) ?_
    refine XE.iald (x := (xs (6 * c + 5))) d_Lw_law_145 (Or.inl rfl) (by first | assumption | decide | omega) (by first | assumption | exact ixn2 (by assumption) (by omega) (by omega)) (hs.2 _) ?_
    refine k_Lw_13 8 d_Lw_law_146 (by omega) (Nat.le_of_ble_eq_true rfl) (by first | assumption | decide | omega) hcl (fun y1 w2 hm1 hq1 => ?_)
    obtain ⟨rfl, hR2, hF2⟩ := hq1
    have hs2 := hs.fc hF2.1
    have hs21 := hs2.1
    have hM2 := rm_fc hM hF2.1
    refine XE.aload_n d_Lw_law_149 rfl ?_
    refine XE.aload_n d_Lw_law_150 rfl ?_
    refine XE.iload_n d_Lw_law_151 rfl ?_
    refine XE.iconst (x := nI 1) d_Lw_law_152 (by decide) ?_
    refine XE.iadd d_Lw_law_153 (by first | exact nI_add _ _ | rfl) ?_
    refine XE.iald (x := (xs (6 * c + 1))) d_Lw_law_154 (Or.inl rfl) (by first | assumption | decide | omega) (by first | assumption | exact ixn2 (by assumption) (by omega) (by omega)) (hs2.2 _) ?_
    refine XE.aload_n d_Lw_law_155 rfl ?_
    refine XE.iload_n d_Lw_law_156 rfl ?_
    refine XE.iconst (x := nI 2) d_Lw_law_157 (by decide) ?_
    refine XE.iadd d_Lw_law_158 (by first | exact nI_add _ _ | rfl) ?_
    refine XE.iald (x := (xs (6 * c + 2))) d_Lw_law_159 (Or.inl rfl) (by first | assumption | decide | omega) (by first | assumption | exact ixn2 (by assumption) (by omega) (by omega)) (hs2.2 _) ?_
    refine XE.aload_n d_Lw_law_160 rfl ?_
    refine XE.iload_n d_Lw_law_161 rfl ?_
    refine XE.iconst (x := nI 3) d_Lw_law_162 (by decide) ?_
    refine XE.iadd d_Lw_law_163 (by first | exact nI_add _ _ | rfl) ?_
    refine XE.iald (x := (xs (6 * c + 3))) d_Lw_law_164 (Or.inl rfl) (by first | assumption | decide | omega) (by first | assumption | exact ixn2 (by assumption) (by omega) (by omega)) (hs2.2 _) ?_
    refine XE.aload_n d_Lw_law_165 rfl ?_
    refine XE.iload_n d_Lw_law_166 rfl ?_
    refine XE.iconst (x := nI 4) d_Lw_law_167 (by decide) ?_
    refine XE.iadd d_Lw_law_168 (by first | exact nI_add _ _ | rfl) ?_
    refine XE.iald (x := (xs (6 * c + 4))) d_Lw_law_169 (Or.inl rfl) (by first | assumption | decide | omega) (by first | assumption | exact ixn2 (by assumption) (by omega) (by omega)) (hs2.2 _) ?_
    refine XE.aload_n d_Lw_law_170 rfl ?_
    refine XE.iload_n d_Lw_law_171 rfl ?_
    refine XE.iconst (x := nI 5) d_Lw_law_172 (by decide) ?_
    refine XE.iadd d_Lw_law_173 (by first | exact nI_add _ _ | rfl) ?_
    refine XE.iald (x := (xs (6 * c + 5))) d_Lw_law_174 (Or.inl rfl) (by first | assumption | decide | omega) (by first | assumption | exact ixn2 (by assumption) (by omega) (by omega)) (hs2.2 _) ?_
    refine k_Lw_17 8 d_Lw_law_175 (by omega) (Nat.le_of_ble_eq_true rfl) (by first | assumption | decide | omega) (hmd w2 hM2) (fun y2 w3 hm2 hq2 => ?_)
    obtain ⟨rfl, hM3, hG3⟩ := hq2
    refine XE.icmp_eq 716 d_Lw_law_178 (by decide) (fun h178 => ?_) (fun h178 => absurd h178 ((fun z => z rfl)))
    exact go w3 _ (h.step hR2 hF2 hM3 hG3 hiv)
theorem law_1 (hL : L ≤ 3072) (h : LI L xs c w m) (h6 : 6 * c + 6 ≤ L) (go : ∀ w' m', LI L xs (c + 1) w' m' → X_Lw_law 9 716 (LSt c) [] w' Q) : X_Lw_law 9 183 (LSt c) [] w Q := by
  have hc : c < 512 := by omega
  obtain ⟨hM, hR, hV, hs, hN⟩ := id h
  have hs1 := hs.1
  have hcl : E_SS_outcome 8 [.inr (0, 1), .inl (xs (6 * c + 1))] w (fun q w' => q = some (.inl (outM m (xs (6 * c + 1)))) ∧ CR w' (m) ∧ FC 1 w w') := (SS_outcome_ok hR hV.1 (by omega) (xs (6 * c + 1))).mono (fun q w' z => ⟨z.1, by rw [z.2]; exact hR, by rw [z.2]; exact FC.rf1⟩)
  have hmd : ∀ w2, RM w2 m → E_Md_outcome 8 [.inr (7, 1), .inl (xs (6 * c + 1))] w2 (fun q w' => q = some (.inl (outM m (xs (6 * c + 1)))) ∧ RM w' (m) ∧ FM w2 w') := fun w2 hM2 => (Md_outcome_ok hM2 hV.1 (by omega) (xs (6 * c + 1))).mono (fun q w' z => ⟨z.1, by rw [z.2]; exact hM2, by rw [z.2]; exact FM.rf⟩)
  have hiv : IV (c + 1) (m) := hV.up hc
  refine XE.aload_n d_Lw_law_183 rfl ?_
  refine XE.aload_n d_Lw_law_184 rfl ?_
  refine XE.iload_n d_Lw_law_185 rfl ?_
  refine XE.iconst (x := nI 1) d_Lw_law_186 (by decide) ?_
  refine XE.iadd d_Lw_law_187 (by first | exact nI_add _ _ | rfl) ?_
  refine XE.iald (x := (xs (6 * c + 1))) d_Lw_law_188 (Or.inl rfl) (by first | assumption | decide | omega) (by first | assumption | exact ixn2 (by assumption) (by omega) (by omega)) (hs.2 _) ?_
  refine k_Lw_18 8 d_Lw_law_189 (by omega) (Nat.le_of_ble_eq_true rfl) (by first | assumption | decide | omega) hcl (fun y1 w2 hm1 hq1 => ?_)
  obtain ⟨rfl, hR2, hF2⟩ := hq1
  have hs2 := hs.fc hF2.1
  have hs21 := hs2.1
  have hM2 := rm_fc hM hF2.1
  refine XE.aload_n d_Lw_law_192 rfl ?_
  refine XE.aload_n d_Lw_law_193 rfl ?_
  refine XE.iload_n d_Lw_law_194 rfl ?_
  refine XE.iconst (x := nI 1) d_Lw_law_195 (by decide) ?_
  refine XE.iadd d_Lw_law_196 (by first | exact nI_add _ _ | rfl) ?_
  refine XE.iald (x := (xs (6 * c + 1))) d_Lw_law_197 (Or.inl rfl) (by first | assumption | decide | omega) (by first | assumption | exact ixn2 (by assumption) (by omega) (by omega)) (hs2.2 _) ?_
  refine k_Lw_22 8 d_Lw_law_198 (by omega) (Nat.le_of_ble_eq_true rfl) (by first | assumption | decide | omega) (hmd w2 hM2) (fun y2 w3 hm2 hq2 => ?_)
  obtain ⟨rfl, hM3, hG3⟩ := hq2
  refine XE.icmp_eq 716 d_Lw_law_201 (by decide) (fun h201 => ?_) (fun h201 => absurd h201 ((fun z => z rfl)))
  exact go w3 _ (h.step hR2 hF2 hM3 hG3 hiv)
theorem law_2 (hL : L ≤ 3072) (h : LI L xs c w m) (h6 : 6 * c + 6 ≤ L) (go : ∀ w' m', LI L xs (c + 1) w' m' → X_Lw_law 9 716 (LSt c) [] w' Q) : X_Lw_law 9 206 (LSt c) [] w Q := by
  have hc : c < 512 := by omega
  obtain ⟨hM, hR, hV, hs, hN⟩ := id h
  have hs1 := hs.1
  have hcl : E_SS_cancel 8 [.inr (0, 1), .inl (xs (6 * c + 1))] w (fun q w' => q = some (.inl ((canM m (xs (6 * c + 1))).1)) ∧ CR w' ((canM m (xs (6 * c + 1))).2) ∧ FC 1 w w') := (SS_cancel_ok hR hV.1 (by omega) (xs (6 * c + 1))).mono (fun q w' z => ⟨z.1, z.2.1, z.2.2.up1⟩)
  have hmd : ∀ w2, RM w2 m → E_Md_cancel 8 [.inr (7, 1), .inl (xs (6 * c + 1))] w2 (fun q w' => q = some (.inl ((canM m (xs (6 * c + 1))).1)) ∧ RM w' ((canM m (xs (6 * c + 1))).2) ∧ FM w2 w') := fun w2 hM2 => Md_cancel_ok hM2 hV.1 (by omega) (xs (6 * c + 1))
  have hiv : IV (c + 1) ((canM m (xs (6 * c + 1))).2) := iv_can hV hc (xs (6 * c + 1))
  refine XE.aload_n d_Lw_law_206 rfl ?_
  refine XE.aload_n d_Lw_law_207 rfl ?_
  refine XE.iload_n d_Lw_law_208 rfl ?_
  refine XE.iconst (x := nI 1) d_Lw_law_209 (by decide) ?_
  refine XE.iadd d_Lw_law_210 (by first | exact nI_add _ _ | rfl) ?_
  refine XE.iald (x := (xs (6 * c + 1))) d_Lw_law_211 (Or.inl rfl) (by first | assumption | decide | omega) (by first | assumption | exact ixn2 (by assumption) (by omega) (by omega)) (hs.2 _) ?_
  refine k_Lw_23 8 d_Lw_law_212 (by omega) (Nat.le_of_ble_eq_true rfl) (by first | assumption | decide | omega) hcl (fun y1 w2 hm1 hq1 => ?_)
  obtain ⟨rfl, hR2, hF2⟩ := hq1
  have hs2 := hs.fc hF2.1
  have hs21 := hs2.1
  have hM2 := rm_fc hM hF2.1
  refine XE.aload_n d_Lw_law_215 rfl ?_
  refine XE.aload_n d_Lw_law_216 rfl ?_
  refine XE.iload_n d_Lw_law_217 rfl ?_
  refine XE.iconst (x := nI 1) d_Lw_law_218 (by decide) ?_
  refine XE.iadd d_Lw_law_219 (by first | exact nI_add _ _ | rfl) ?_
  refine XE.iald (x := (xs (6 * c + 1))) d_Lw_law_220 (Or.inl rfl) (by first | assumption | decide | omega) (by first | assumption | exact ixn2 (by assumption) (by omega) (by omega)) (hs2.2 _) ?_
  refine k_Lw_26 8 d_Lw_law_221 (by omega) (Nat.le_of_ble_eq_true rfl) (by first | assumption | decide | omega) (hmd w2 hM2) (fun y2 w3 hm2 hq2 => ?_)
  obtain ⟨rfl, hM3, hG3⟩ := hq2
  refine XE.icmp_eq 716 d_Lw_law_224 (by decide) (fun h224 => ?_) (fun h224 => absurd h224 ((fun z => z rfl)))
  exact go w3 _ (h.step hR2 hF2 hM3 hG3 hiv)
theorem law_3 (hL : L ≤ 3072) (h : LI L xs c w m) (h6 : 6 * c + 6 ≤ L) (go : ∀ w' m', LI L xs (c + 1) w' m' → X_Lw_law 9 716 (LSt c) [] w' Q) : X_Lw_law 9 229 (LSt c) [] w Q := by
  have hc : c < 512 := by omega
  obtain ⟨hM, hR, hV, hs, hN⟩ := id h
  have hs1 := hs.1
  have hcl : E_SS_giveUp 8 [.inr (0, 1), .inl (xs (6 * c + 1))] w (fun q w' => q = some (.inl ((givM m (xs (6 * c + 1))).1)) ∧ CR w' ((givM m (xs (6 * c + 1))).2) ∧ FC 1 w w') := (SS_giveUp_ok hR hV.1 hV.2.1 hV.2.2.1 (by omega) (xs (6 * c + 1))).mono (fun q w' z => ⟨z.1, z.2.1, z.2.2.up1⟩)
  have hmd : ∀ w2, RM w2 m → E_Md_giveUp 8 [.inr (7, 1), .inl (xs (6 * c + 1))] w2 (fun q w' => q = some (.inl ((givM m (xs (6 * c + 1))).1)) ∧ RM w' ((givM m (xs (6 * c + 1))).2) ∧ FM w2 w') := fun w2 hM2 => Md_giveUp_ok hM2 hV.1 hV.2.1 (by omega) (xs (6 * c + 1))
  have hiv : IV (c + 1) ((givM m (xs (6 * c + 1))).2) := iv_giv hV hc (xs (6 * c + 1))
  refine XE.aload_n d_Lw_law_229 rfl ?_
  refine XE.aload_n d_Lw_law_230 rfl ?_
  refine XE.iload_n d_Lw_law_231 rfl ?_
  refine XE.iconst (x := nI 1) d_Lw_law_232 (by decide) ?_
  refine XE.iadd d_Lw_law_233 (by first | exact nI_add _ _ | rfl) ?_
  refine XE.iald (x := (xs (6 * c + 1))) d_Lw_law_234 (Or.inl rfl) (by first | assumption | decide | omega) (by first | assumption | exact ixn2 (by assumption) (by omega) (by omega)) (hs.2 _) ?_
  refine k_Lw_27 8 d_Lw_law_235 (by omega) (Nat.le_of_ble_eq_true rfl) (by first | assumption | decide | omega) hcl (fun y1 w2 hm1 hq1 => ?_)
  obtain ⟨rfl, hR2, hF2⟩ := hq1
  have hs2 := hs.fc hF2.1
  have hs21 := hs2.1
  have hM2 := rm_fc hM hF2.1
  refine XE.aload_n d_Lw_law_238 rfl ?_
  refine XE.aload_n d_Lw_law_239 rfl ?_
  refine XE.iload_n d_Lw_law_240 rfl ?_
  refine XE.iconst (x := nI 1) d_Lw_law_241 (by decide) ?_
  refine XE.iadd d_Lw_law_242 (by first | exact nI_add _ _ | rfl) ?_
  refine XE.iald (x := (xs (6 * c + 1))) d_Lw_law_243 (Or.inl rfl) (by first | assumption | decide | omega) (by first | assumption | exact ixn2 (by assumption) (by omega) (by omega)) (hs2.2 _) ?_
  refine k_Lw_30 8 d_Lw_law_244 (by omega) (Nat.le_of_ble_eq_true rfl) (by first | assumption | decide | omega) (hmd w2 hM2) (fun y2 w3 hm2 hq2 => ?_)
  obtain ⟨rfl, hM3, hG3⟩ := hq2
  refine XE.icmp_eq 716 d_Lw_law_247 (by decide) (fun h247 => ?_) (fun h247 => absurd h247 ((fun z => z rfl)))
  exact go w3 _ (h.step hR2 hF2 hM3 hG3 hiv)
theorem law_4 (hL : L ≤ 3072) (h : LI L xs c w m) (h6 : 6 * c + 6 ≤ L) (go : ∀ w' m', LI L xs (c + 1) w' m' → X_Lw_law 9 716 (LSt c) [] w' Q) : X_Lw_law 9 252 (LSt c) [] w Q := by
  have hc : c < 512 := by omega
  obtain ⟨hM, hR, hV, hs, hN⟩ := id h
  have hs1 := hs.1
  have hcl : E_SS_close 8 [.inr (0, 1), .inl (xs (6 * c + 1))] w (fun q w' => q = some (.inl ((clM m (xs (6 * c + 1))).1)) ∧ CR w' ((clM m (xs (6 * c + 1))).2) ∧ FC 1 w w') := SS_close_ok hR hV.1 hV.2.1 hV.2.2.1 (by omega) (by omega) (xs (6 * c + 1))
  have hmd : ∀ w2, RM w2 m → E_Md_close 8 [.inr (7, 1), .inl (xs (6 * c + 1))] w2 (fun q w' => q = some (.inl ((clM m (xs (6 * c + 1))).1)) ∧ RM w' ((clM m (xs (6 * c + 1))).2) ∧ FM w2 w') := fun w2 hM2 => Md_close_ok hM2 hV.1 hV.2.1 (by omega) (by omega) (xs (6 * c + 1))
  have hiv : IV (c + 1) ((clM m (xs (6 * c + 1))).2) := iv_cl hV hc (xs (6 * c + 1))
  refine XE.aload_n d_Lw_law_252 rfl ?_
  refine XE.aload_n d_Lw_law_253 rfl ?_
  refine XE.iload_n d_Lw_law_254 rfl ?_
  refine XE.iconst (x := nI 1) d_Lw_law_255 (by decide) ?_
  refine XE.iadd d_Lw_law_256 (by first | exact nI_add _ _ | rfl) ?_
  refine XE.iald (x := (xs (6 * c + 1))) d_Lw_law_257 (Or.inl rfl) (by first | assumption | decide | omega) (by first | assumption | exact ixn2 (by assumption) (by omega) (by omega)) (hs.2 _) ?_
  refine k_Lw_31 8 d_Lw_law_258 (by omega) (Nat.le_of_ble_eq_true rfl) (by first | assumption | decide | omega) hcl (fun y1 w2 hm1 hq1 => ?_)
  obtain ⟨rfl, hR2, hF2⟩ := hq1
  have hs2 := hs.fc hF2.1
  have hs21 := hs2.1
  have hM2 := rm_fc hM hF2.1
  refine XE.aload_n d_Lw_law_261 rfl ?_
  refine XE.aload_n d_Lw_law_262 rfl ?_
  refine XE.iload_n d_Lw_law_263 rfl ?_
  refine XE.iconst (x := nI 1) d_Lw_law_264 (by decide) ?_
  refine XE.iadd d_Lw_law_265 (by first | exact nI_add _ _ | rfl) ?_
  refine XE.iald (x := (xs (6 * c + 1))) d_Lw_law_266 (Or.inl rfl) (by first | assumption | decide | omega) (by first | assumption | exact ixn2 (by assumption) (by omega) (by omega)) (hs2.2 _) ?_
  refine k_Lw_34 8 d_Lw_law_267 (by omega) (Nat.le_of_ble_eq_true rfl) (by first | assumption | decide | omega) (hmd w2 hM2) (fun y2 w3 hm2 hq2 => ?_)
  obtain ⟨rfl, hM3, hG3⟩ := hq2
  refine XE.icmp_eq 716 d_Lw_law_270 (by decide) (fun h270 => ?_) (fun h270 => absurd h270 ((fun z => z rfl)))
  exact go w3 _ (h.step hR2 hF2 hM3 hG3 hiv)
theorem law_5 (hL : L ≤ 3072) (h : LI L xs c w m) (h6 : 6 * c + 6 ≤ L) (go : ∀ w' m', LI L xs (c + 1) w' m' → X_Lw_law 9 716 (LSt c) [] w' Q) : X_Lw_law 9 275 (LSt c) [] w Q := by
  have hc : c < 512 := by omega
  obtain ⟨hM, hR, hV, hs, hN⟩ := id h
  have hs1 := hs.1
  by_cases hz : xs (6 * c + 2) = 0
  · have hcl : E_SS_doom 8 [.inr (0, 1), .inl (xs (6 * c + 1)), .inl (nI 0)] w (fun q w' => q = some (.inl ((domM m (xs (6 * c + 1)) false).1)) ∧ CR w' ((domM m (xs (6 * c + 1)) false).2) ∧ FC 1 w w') := (SS_doom_ok hR hV.1 hV.2.2.1 (by omega) (xs (6 * c + 1)) false).mono (fun q w' z => ⟨z.1, z.2.1, z.2.2.up1⟩)
    have hmd : ∀ w2, RM w2 m → E_Md_doom 8 [.inr (7, 1), .inl (xs (6 * c + 1)), .inl (nI 0)] w2 (fun q w' => q = some (.inl ((domM m (xs (6 * c + 1)) false).1)) ∧ RM w' ((domM m (xs (6 * c + 1)) false).2) ∧ FM w2 w') := fun w2 hM2 => Md_doom_ok hM2 hV.1 (by omega) (xs (6 * c + 1)) false
    have hiv : IV (c + 1) ((domM m (xs (6 * c + 1)) false).2) := iv_dom hV hc (xs (6 * c + 1)) false
    refine XE.aload_n d_Lw_law_275 rfl ?_
    refine XE.aload_n d_Lw_law_276 rfl ?_
    refine XE.iload_n d_Lw_law_277 rfl ?_
    refine XE.iconst (x := nI 1) d_Lw_law_278 (by decide) ?_
    refine XE.iadd d_Lw_law_279 (by first | exact nI_add _ _ | rfl) ?_
    refine XE.iald (x := (xs (6 * c + 1))) d_Lw_law_280 (Or.inl rfl) (by first | assumption | decide | omega) (by first | assumption | exact ixn2 (by assumption) (by omega) (by omega)) (hs.2 _) ?_
    refine XE.aload_n d_Lw_law_281 rfl ?_
    refine XE.iload_n d_Lw_law_282 rfl ?_
    refine XE.iconst (x := nI 2) d_Lw_law_283 (by decide) ?_
    refine XE.iadd d_Lw_law_284 (by first | exact nI_add _ _ | rfl) ?_
    refine XE.iald (x := (xs (6 * c + 2))) d_Lw_law_285 (Or.inl rfl) (by first | assumption | decide | omega) (by first | assumption | exact ixn2 (by assumption) (by omega) (by omega)) (hs.2 _) ?_
    refine XE.if_eq 293 d_Lw_law_286 (by decide) (fun h286 => ?_) (fun h286 => absurd h286 ((fun z => z hz)))
    refine XE.iconst (x := nI 0) d_Lw_law_293 (by decide) ?_
    refine k_Lw_35 8 d_Lw_law_294 (by omega) (Nat.le_of_ble_eq_true rfl) (by first | assumption | decide | omega) hcl (fun y1 w2 hm1 hq1 => ?_)
    obtain ⟨rfl, hR2, hF2⟩ := hq1
    have hs2 := hs.fc hF2.1
    have hs21 := hs2.1
    have hM2 := rm_fc hM hF2.1
    refine XE.aload_n d_Lw_law_297 rfl ?_
    refine XE.aload_n d_Lw_law_298 rfl ?_
    refine XE.iload_n d_Lw_law_299 rfl ?_
    refine XE.iconst (x := nI 1) d_Lw_law_300 (by decide) ?_
    refine XE.iadd d_Lw_law_301 (by first | exact nI_add _ _ | rfl) ?_
    refine XE.iald (x := (xs (6 * c + 1))) d_Lw_law_302 (Or.inl rfl) (by first | assumption | decide | omega) (by first | assumption | exact ixn2 (by assumption) (by omega) (by omega)) (hs2.2 _) ?_
    refine XE.aload_n d_Lw_law_303 rfl ?_
    refine XE.iload_n d_Lw_law_304 rfl ?_
    refine XE.iconst (x := nI 2) d_Lw_law_305 (by decide) ?_
    refine XE.iadd d_Lw_law_306 (by first | exact nI_add _ _ | rfl) ?_
    refine XE.iald (x := (xs (6 * c + 2))) d_Lw_law_307 (Or.inl rfl) (by first | assumption | decide | omega) (by first | assumption | exact ixn2 (by assumption) (by omega) (by omega)) (hs2.2 _) ?_
    refine XE.if_eq 315 d_Lw_law_308 (by decide) (fun h308 => ?_) (fun h308 => absurd h308 ((fun z => z hz)))
    refine XE.iconst (x := nI 0) d_Lw_law_315 (by decide) ?_
    refine k_Lw_39 8 d_Lw_law_316 (by omega) (Nat.le_of_ble_eq_true rfl) (by first | assumption | decide | omega) (hmd w2 hM2) (fun y2 w3 hm2 hq2 => ?_)
    obtain ⟨rfl, hM3, hG3⟩ := hq2
    refine XE.icmp_eq 716 d_Lw_law_319 (by decide) (fun h319 => ?_) (fun h319 => absurd h319 ((fun z => z rfl)))
    exact go w3 _ (h.step hR2 hF2 hM3 hG3 hiv)
  · have hcl : E_SS_doom 8 [.inr (0, 1), .inl (xs (6 * c + 1)), .inl (nI 1)] w (fun q w' => q = some (.inl ((domM m (xs (6 * c + 1)) true).1)) ∧ CR w' ((domM m (xs (6 * c + 1)) true).2) ∧ FC 1 w w') := (SS_doom_ok hR hV.1 hV.2.2.1 (by omega) (xs (6 * c + 1)) true).mono (fun q w' z => ⟨z.1, z.2.1, z.2.2.up1⟩)
    have hmd : ∀ w2, RM w2 m → E_Md_doom 8 [.inr (7, 1), .inl (xs (6 * c + 1)), .inl (nI 1)] w2 (fun q w' => q = some (.inl ((domM m (xs (6 * c + 1)) true).1)) ∧ RM w' ((domM m (xs (6 * c + 1)) true).2) ∧ FM w2 w') := fun w2 hM2 => Md_doom_ok hM2 hV.1 (by omega) (xs (6 * c + 1)) true
    have hiv : IV (c + 1) ((domM m (xs (6 * c + 1)) true).2) := iv_dom hV hc (xs (6 * c + 1)) true
    refine XE.aload_n d_Lw_law_275 rfl ?_
    refine XE.aload_n d_Lw_law_276 rfl ?_
    refine XE.iload_n d_Lw_law_277 rfl ?_
    refine XE.iconst (x := nI 1) d_Lw_law_278 (by decide) ?_
    refine XE.iadd d_Lw_law_279 (by first | exact nI_add _ _ | rfl) ?_
    refine XE.iald (x := (xs (6 * c + 1))) d_Lw_law_280 (Or.inl rfl) (by first | assumption | decide | omega) (by first | assumption | exact ixn2 (by assumption) (by omega) (by omega)) (hs.2 _) ?_
    refine XE.aload_n d_Lw_law_281 rfl ?_
    refine XE.iload_n d_Lw_law_282 rfl ?_
    refine XE.iconst (x := nI 2) d_Lw_law_283 (by decide) ?_
    refine XE.iadd d_Lw_law_284 (by first | exact nI_add _ _ | rfl) ?_
    refine XE.iald (x := (xs (6 * c + 2))) d_Lw_law_285 (Or.inl rfl) (by first | assumption | decide | omega) (by first | assumption | exact ixn2 (by assumption) (by omega) (by omega)) (hs.2 _) ?_
    refine XE.if_eq 293 d_Lw_law_286 (by decide) (fun h286 => absurd h286 (hz)) (fun h286 => ?_)
    refine XE.iconst (x := nI 1) d_Lw_law_289 (by decide) ?_
    refine XE.goto 294 d_Lw_law_290 (by decide) ?_
    refine k_Lw_35 8 d_Lw_law_294 (by omega) (Nat.le_of_ble_eq_true rfl) (by first | assumption | decide | omega) hcl (fun y1 w2 hm1 hq1 => ?_)
    obtain ⟨rfl, hR2, hF2⟩ := hq1
    have hs2 := hs.fc hF2.1
    have hs21 := hs2.1
    have hM2 := rm_fc hM hF2.1
    refine XE.aload_n d_Lw_law_297 rfl ?_
    refine XE.aload_n d_Lw_law_298 rfl ?_
    refine XE.iload_n d_Lw_law_299 rfl ?_
    refine XE.iconst (x := nI 1) d_Lw_law_300 (by decide) ?_
    refine XE.iadd d_Lw_law_301 (by first | exact nI_add _ _ | rfl) ?_
    refine XE.iald (x := (xs (6 * c + 1))) d_Lw_law_302 (Or.inl rfl) (by first | assumption | decide | omega) (by first | assumption | exact ixn2 (by assumption) (by omega) (by omega)) (hs2.2 _) ?_
    refine XE.aload_n d_Lw_law_303 rfl ?_
    refine XE.iload_n d_Lw_law_304 rfl ?_
    refine XE.iconst (x := nI 2) d_Lw_law_305 (by decide) ?_
    refine XE.iadd d_Lw_law_306 (by first | exact nI_add _ _ | rfl) ?_
    refine XE.iald (x := (xs (6 * c + 2))) d_Lw_law_307 (Or.inl rfl) (by first | assumption | decide | omega) (by first | assumption | exact ixn2 (by assumption) (by omega) (by omega)) (hs2.2 _) ?_
    refine XE.if_eq 315 d_Lw_law_308 (by decide) (fun h308 => absurd h308 (hz)) (fun h308 => ?_)
    refine XE.iconst (x := nI 1) d_Lw_law_311 (by decide) ?_
    refine XE.goto 316 d_Lw_law_312 (by decide) ?_
    refine k_Lw_39 8 d_Lw_law_316 (by omega) (Nat.le_of_ble_eq_true rfl) (by first | assumption | decide | omega) (hmd w2 hM2) (fun y2 w3 hm2 hq2 => ?_)
    obtain ⟨rfl, hM3, hG3⟩ := hq2
    refine XE.icmp_eq 716 d_Lw_law_319 (by decide) (fun h319 => ?_) (fun h319 => absurd h319 ((fun z => z rfl)))
    exact go w3 _ (h.step hR2 hF2 hM3 hG3 hiv)
theorem law_6 (hL : L ≤ 3072) (h : LI L xs c w m) (h6 : 6 * c + 6 ≤ L) (go : ∀ w' m', LI L xs (c + 1) w' m' → X_Lw_law 9 716 (LSt c) [] w' Q) : X_Lw_law 9 324 (LSt c) [] w Q := by
  have hc : c < 512 := by omega
  obtain ⟨hM, hR, hV, hs, hN⟩ := id h
  have hs1 := hs.1
  have hcl : E_SS_move 8 [.inr (0, 1), .inl (xs (6 * c + 1)), .inl (xs (6 * c + 2)), .inl (xs (6 * c + 3))] w (fun q w' => q = some (.inl ((movM m (xs (6 * c + 1)) (xs (6 * c + 2)) (xs (6 * c + 3))).1)) ∧ CR w' ((movM m (xs (6 * c + 1)) (xs (6 * c + 2)) (xs (6 * c + 3))).2) ∧ FC 1 w w') := SS_move_ok hR hV.1 hV.2.2.1 (by omega) (xs (6 * c + 1)) (xs (6 * c + 2)) (xs (6 * c + 3))
  have hmd : ∀ w2, RM w2 m → E_Md_move 8 [.inr (7, 1), .inl (xs (6 * c + 1)), .inl (xs (6 * c + 2)), .inl (xs (6 * c + 3))] w2 (fun q w' => q = some (.inl ((movM m (xs (6 * c + 1)) (xs (6 * c + 2)) (xs (6 * c + 3))).1)) ∧ RM w' ((movM m (xs (6 * c + 1)) (xs (6 * c + 2)) (xs (6 * c + 3))).2) ∧ FM w2 w') := fun w2 hM2 => Md_move_ok hM2 hV.1 (fun x hx ht => hV.2.2.1.ti.ei hx ht) (hV.n11 hc) (by omega) (xs (6 * c + 1)) (xs (6 * c + 2)) (xs (6 * c + 3))
  have hiv : IV (c + 1) ((movM m (xs (6 * c + 1)) (xs (6 * c + 2)) (xs (6 * c + 3))).2) := iv_mov hV hc (xs (6 * c + 1)) (xs (6 * c + 2)) (xs (6 * c + 3))
  refine XE.aload_n d_Lw_law_324 rfl ?_
  refine XE.aload_n d_Lw_law_325 rfl ?_
  refine XE.iload_n d_Lw_law_326 rfl ?_
  refine XE.iconst (x := nI 1) d_Lw_law_327 (by decide) ?_
  refine XE.iadd d_Lw_law_328 (by first | exact nI_add _ _ | rfl) ?_
  refine XE.iald (x := (xs (6 * c + 1))) d_Lw_law_329 (Or.inl rfl) (by first | assumption | decide | omega) (by first | assumption | exact ixn2 (by assumption) (by omega) (by omega)) (hs.2 _) ?_
  refine XE.aload_n d_Lw_law_330 rfl ?_
  refine XE.iload_n d_Lw_law_331 rfl ?_
  refine XE.iconst (x := nI 2) d_Lw_law_332 (by decide) ?_
  refine XE.iadd d_Lw_law_333 (by first | exact nI_add _ _ | rfl) ?_
  refine XE.iald (x := (xs (6 * c + 2))) d_Lw_law_334 (Or.inl rfl) (by first | assumption | decide | omega) (by first | assumption | exact ixn2 (by assumption) (by omega) (by omega)) (hs.2 _) ?_
  refine XE.aload_n d_Lw_law_335 rfl ?_
  refine XE.iload_n d_Lw_law_336 rfl ?_
  refine XE.iconst (x := nI 3) d_Lw_law_337 (by decide) ?_
  refine XE.iadd d_Lw_law_338 (by first | exact nI_add _ _ | rfl) ?_
  refine XE.iald (x := (xs (6 * c + 3))) d_Lw_law_339 (Or.inl rfl) (by first | assumption | decide | omega) (by first | assumption | exact ixn2 (by assumption) (by omega) (by omega)) (hs.2 _) ?_
  refine k_Lw_40 8 d_Lw_law_340 (by omega) (Nat.le_of_ble_eq_true rfl) (by first | assumption | decide | omega) hcl (fun y1 w2 hm1 hq1 => ?_)
  obtain ⟨rfl, hR2, hF2⟩ := hq1
  have hs2 := hs.fc hF2.1
  have hs21 := hs2.1
  have hM2 := rm_fc hM hF2.1
  refine XE.aload_n d_Lw_law_343 rfl ?_
  refine XE.aload_n d_Lw_law_344 rfl ?_
  refine XE.iload_n d_Lw_law_345 rfl ?_
  refine XE.iconst (x := nI 1) d_Lw_law_346 (by decide) ?_
  refine XE.iadd d_Lw_law_347 (by first | exact nI_add _ _ | rfl) ?_
  refine XE.iald (x := (xs (6 * c + 1))) d_Lw_law_348 (Or.inl rfl) (by first | assumption | decide | omega) (by first | assumption | exact ixn2 (by assumption) (by omega) (by omega)) (hs2.2 _) ?_
  refine XE.aload_n d_Lw_law_349 rfl ?_
  refine XE.iload_n d_Lw_law_350 rfl ?_
  refine XE.iconst (x := nI 2) d_Lw_law_351 (by decide) ?_
  refine XE.iadd d_Lw_law_352 (by first | exact nI_add _ _ | rfl) ?_
  refine XE.iald (x := (xs (6 * c + 2))) d_Lw_law_353 (Or.inl rfl) (by first | assumption | decide | omega) (by first | assumption | exact ixn2 (by assumption) (by omega) (by omega)) (hs2.2 _) ?_
  refine XE.aload_n d_Lw_law_354 rfl ?_
  refine XE.iload_n d_Lw_law_355 rfl ?_
  refine XE.iconst (x := nI 3) d_Lw_law_356 (by decide) ?_
  refine XE.iadd d_Lw_law_357 (by first | exact nI_add _ _ | rfl) ?_
  refine XE.iald (x := (xs (6 * c + 3))) d_Lw_law_358 (Or.inl rfl) (by first | assumption | decide | omega) (by first | assumption | exact ixn2 (by assumption) (by omega) (by omega)) (hs2.2 _) ?_
  refine k_Lw_44 8 d_Lw_law_359 (by omega) (Nat.le_of_ble_eq_true rfl) (by first | assumption | decide | omega) (hmd w2 hM2) (fun y2 w3 hm2 hq2 => ?_)
  obtain ⟨rfl, hM3, hG3⟩ := hq2
  refine XE.icmp_eq 716 d_Lw_law_362 (by decide) (fun h362 => ?_) (fun h362 => absurd h362 ((fun z => z rfl)))
  exact go w3 _ (h.step hR2 hF2 hM3 hG3 hiv)
theorem law_7 (hL : L ≤ 3072) (h : LI L xs c w m) (h6 : 6 * c + 6 ≤ L) (go : ∀ w' m', LI L xs (c + 1) w' m' → X_Lw_law 9 716 (LSt c) [] w' Q) : X_Lw_law 9 367 (LSt c) [] w Q := by
  have hc : c < 512 := by omega
  obtain ⟨hM, hR, hV, hs, hN⟩ := id h
  have hs1 := hs.1
  have hcl : E_SS_read 8 [.inr (0, 1), .inl (xs (6 * c + 1)), .inl (xs (6 * c + 2))] w (fun q w' => q = some (.inl ((redM m (xs (6 * c + 1)) (xs (6 * c + 2))).1)) ∧ CR w' ((redM m (xs (6 * c + 1)) (xs (6 * c + 2))).2) ∧ FC 1 w w') := (SS_read_ok hR hV.1 hV.2.2.1 (by omega) (xs (6 * c + 1)) (xs (6 * c + 2))).mono (fun q w' z => ⟨z.1, z.2.1, z.2.2.up1⟩)
  have hmd : ∀ w2, RM w2 m → E_Md_read 8 [.inr (7, 1), .inl (xs (6 * c + 1)), .inl (xs (6 * c + 2))] w2 (fun q w' => q = some (.inl ((redM m (xs (6 * c + 1)) (xs (6 * c + 2))).1)) ∧ RM w' ((redM m (xs (6 * c + 1)) (xs (6 * c + 2))).2) ∧ FM w2 w') := fun w2 hM2 => Md_read_ok hM2 hV.1 (by omega) (xs (6 * c + 1)) (xs (6 * c + 2))
  have hiv : IV (c + 1) ((redM m (xs (6 * c + 1)) (xs (6 * c + 2))).2) := iv_red hV hc (xs (6 * c + 1)) (xs (6 * c + 2))
  refine XE.aload_n d_Lw_law_367 rfl ?_
  refine XE.aload_n d_Lw_law_368 rfl ?_
  refine XE.iload_n d_Lw_law_369 rfl ?_
  refine XE.iconst (x := nI 1) d_Lw_law_370 (by decide) ?_
  refine XE.iadd d_Lw_law_371 (by first | exact nI_add _ _ | rfl) ?_
  refine XE.iald (x := (xs (6 * c + 1))) d_Lw_law_372 (Or.inl rfl) (by first | assumption | decide | omega) (by first | assumption | exact ixn2 (by assumption) (by omega) (by omega)) (hs.2 _) ?_
  refine XE.aload_n d_Lw_law_373 rfl ?_
  refine XE.iload_n d_Lw_law_374 rfl ?_
  refine XE.iconst (x := nI 2) d_Lw_law_375 (by decide) ?_
  refine XE.iadd d_Lw_law_376 (by first | exact nI_add _ _ | rfl) ?_
  refine XE.iald (x := (xs (6 * c + 2))) d_Lw_law_377 (Or.inl rfl) (by first | assumption | decide | omega) (by first | assumption | exact ixn2 (by assumption) (by omega) (by omega)) (hs.2 _) ?_
  refine k_Lw_45 8 d_Lw_law_378 (by omega) (Nat.le_of_ble_eq_true rfl) (by first | assumption | decide | omega) hcl (fun y1 w2 hm1 hq1 => ?_)
  obtain ⟨rfl, hR2, hF2⟩ := hq1
  have hs2 := hs.fc hF2.1
  have hs21 := hs2.1
  have hM2 := rm_fc hM hF2.1
  refine XE.aload_n d_Lw_law_381 rfl ?_
  refine XE.aload_n d_Lw_law_382 rfl ?_
  refine XE.iload_n d_Lw_law_383 rfl ?_
  refine XE.iconst (x := nI 1) d_Lw_law_384 (by decide) ?_
  refine XE.iadd d_Lw_law_385 (by first | exact nI_add _ _ | rfl) ?_
  refine XE.iald (x := (xs (6 * c + 1))) d_Lw_law_386 (Or.inl rfl) (by first | assumption | decide | omega) (by first | assumption | exact ixn2 (by assumption) (by omega) (by omega)) (hs2.2 _) ?_
  refine XE.aload_n d_Lw_law_387 rfl ?_
  refine XE.iload_n d_Lw_law_388 rfl ?_
  refine XE.iconst (x := nI 2) d_Lw_law_389 (by decide) ?_
  refine XE.iadd d_Lw_law_390 (by first | exact nI_add _ _ | rfl) ?_
  refine XE.iald (x := (xs (6 * c + 2))) d_Lw_law_391 (Or.inl rfl) (by first | assumption | decide | omega) (by first | assumption | exact ixn2 (by assumption) (by omega) (by omega)) (hs2.2 _) ?_
  refine k_Lw_49 8 d_Lw_law_392 (by omega) (Nat.le_of_ble_eq_true rfl) (by first | assumption | decide | omega) (hmd w2 hM2) (fun y2 w3 hm2 hq2 => ?_)
  obtain ⟨rfl, hM3, hG3⟩ := hq2
  refine XE.icmp_eq 716 d_Lw_law_395 (by decide) (fun h395 => ?_) (fun h395 => absurd h395 ((fun z => z rfl)))
  exact go w3 _ (h.step hR2 hF2 hM3 hG3 hiv)
theorem law_8 (hL : L ≤ 3072) (h : LI L xs c w m) (h6 : 6 * c + 6 ≤ L) (go : ∀ w' m', LI L xs (c + 1) w' m' → X_Lw_law 9 716 (LSt c) [] w' Q) : X_Lw_law 9 400 (LSt c) [] w Q := by
  have hc : c < 512 := by omega
  obtain ⟨hM, hR, hV, hs, hN⟩ := id h
  have hs1 := hs.1
  have hcl : E_SS_value 8 [.inr (0, 1)] w (fun q w' => q = some (.inl (mS m)) ∧ CR w' (m) ∧ FC 1 w w') := (SS_value_ok hR).mono (fun q w' z => ⟨z.1, by rw [z.2]; exact hR, by rw [z.2]; exact FC.rf1⟩)
  have hmd : ∀ w2, RM w2 m → E_Md_value 8 [.inr (7, 1)] w2 (fun q w' => q = some (.inl (mS m)) ∧ RM w' (m) ∧ FM w2 w') := fun w2 hM2 => (Md_value_ok hM2).mono (fun q w' z => ⟨z.1, by rw [z.2]; exact hM2, by rw [z.2]; exact FM.rf⟩)
  have hiv : IV (c + 1) (m) := hV.up hc
  refine XE.aload_n d_Lw_law_400 rfl ?_
  refine k_Lw_50 8 d_Lw_law_401 (by omega) (Nat.le_of_ble_eq_true rfl) (by first | assumption | decide | omega) hcl (fun y1 w2 hm1 hq1 => ?_)
  obtain ⟨rfl, hR2, hF2⟩ := hq1
  have hs2 := hs.fc hF2.1
  have hs21 := hs2.1
  have hM2 := rm_fc hM hF2.1
  refine XE.aload_n d_Lw_law_404 rfl ?_
  refine k_Lw_54 8 d_Lw_law_405 (by omega) (Nat.le_of_ble_eq_true rfl) (by first | assumption | decide | omega) (hmd w2 hM2) (fun y2 w3 hm2 hq2 => ?_)
  obtain ⟨rfl, hM3, hG3⟩ := hq2
  refine XE.icmp_eq 716 d_Lw_law_408 (by decide) (fun h408 => ?_) (fun h408 => absurd h408 ((fun z => z rfl)))
  exact go w3 _ (h.step hR2 hF2 hM3 hG3 hiv)
theorem law_9 (hL : L ≤ 3072) (h : LI L xs c w m) (h6 : 6 * c + 6 ≤ L) (go : ∀ w' m', LI L xs (c + 1) w' m' → X_Lw_law 9 716 (LSt c) [] w' Q) : X_Lw_law 9 413 (LSt c) [] w Q := by
  have hc : c < 512 := by omega
  obtain ⟨hM, hR, hV, hs, hN⟩ := id h
  have hs1 := hs.1
  have hcl : E_SS_write 8 [.inr (0, 1), .inl (xs (6 * c + 1)), .inl (xs (6 * c + 2)), .inl (xs (6 * c + 3))] w (fun q w' => q = some (.inl ((wrtM m (xs (6 * c + 1)) (xs (6 * c + 2)) (xs (6 * c + 3))).1)) ∧ CR w' ((wrtM m (xs (6 * c + 1)) (xs (6 * c + 2)) (xs (6 * c + 3))).2) ∧ FC 1 w w') := SS_write_ok hR hV.1 hV.2.2.1 (by omega) (xs (6 * c + 1)) (xs (6 * c + 2)) (xs (6 * c + 3))
  have hmd : ∀ w2, RM w2 m → E_Md_write 8 [.inr (7, 1), .inl (xs (6 * c + 1)), .inl (xs (6 * c + 2)), .inl (xs (6 * c + 3))] w2 (fun q w' => q = some (.inl ((wrtM m (xs (6 * c + 1)) (xs (6 * c + 2)) (xs (6 * c + 3))).1)) ∧ RM w' ((wrtM m (xs (6 * c + 1)) (xs (6 * c + 2)) (xs (6 * c + 3))).2) ∧ FM w2 w') := fun w2 hM2 => Md_write_ok hM2 hV.1 (hV.n11 hc) (by omega) (xs (6 * c + 1)) (xs (6 * c + 2)) (xs (6 * c + 3))
  have hiv : IV (c + 1) ((wrtM m (xs (6 * c + 1)) (xs (6 * c + 2)) (xs (6 * c + 3))).2) := iv_wrt hV hc (xs (6 * c + 1)) (xs (6 * c + 2)) (xs (6 * c + 3))
  refine XE.aload_n d_Lw_law_413 rfl ?_
  refine XE.aload_n d_Lw_law_414 rfl ?_
  refine XE.iload_n d_Lw_law_415 rfl ?_
  refine XE.iconst (x := nI 1) d_Lw_law_416 (by decide) ?_
  refine XE.iadd d_Lw_law_417 (by first | exact nI_add _ _ | rfl) ?_
  refine XE.iald (x := (xs (6 * c + 1))) d_Lw_law_418 (Or.inl rfl) (by first | assumption | decide | omega) (by first | assumption | exact ixn2 (by assumption) (by omega) (by omega)) (hs.2 _) ?_
  refine XE.aload_n d_Lw_law_419 rfl ?_
  refine XE.iload_n d_Lw_law_420 rfl ?_
  refine XE.iconst (x := nI 2) d_Lw_law_421 (by decide) ?_
  refine XE.iadd d_Lw_law_422 (by first | exact nI_add _ _ | rfl) ?_
  refine XE.iald (x := (xs (6 * c + 2))) d_Lw_law_423 (Or.inl rfl) (by first | assumption | decide | omega) (by first | assumption | exact ixn2 (by assumption) (by omega) (by omega)) (hs.2 _) ?_
  refine XE.aload_n d_Lw_law_424 rfl ?_
  refine XE.iload_n d_Lw_law_425 rfl ?_
  refine XE.iconst (x := nI 3) d_Lw_law_426 (by decide) ?_
  refine XE.iadd d_Lw_law_427 (by first | exact nI_add _ _ | rfl) ?_
  refine XE.iald (x := (xs (6 * c + 3))) d_Lw_law_428 (Or.inl rfl) (by first | assumption | decide | omega) (by first | assumption | exact ixn2 (by assumption) (by omega) (by omega)) (hs.2 _) ?_
  refine k_Lw_55 8 d_Lw_law_429 (by omega) (Nat.le_of_ble_eq_true rfl) (by first | assumption | decide | omega) hcl (fun y1 w2 hm1 hq1 => ?_)
  obtain ⟨rfl, hR2, hF2⟩ := hq1
  have hs2 := hs.fc hF2.1
  have hs21 := hs2.1
  have hM2 := rm_fc hM hF2.1
  refine XE.aload_n d_Lw_law_432 rfl ?_
  refine XE.aload_n d_Lw_law_433 rfl ?_
  refine XE.iload_n d_Lw_law_434 rfl ?_
  refine XE.iconst (x := nI 1) d_Lw_law_435 (by decide) ?_
  refine XE.iadd d_Lw_law_436 (by first | exact nI_add _ _ | rfl) ?_
  refine XE.iald (x := (xs (6 * c + 1))) d_Lw_law_437 (Or.inl rfl) (by first | assumption | decide | omega) (by first | assumption | exact ixn2 (by assumption) (by omega) (by omega)) (hs2.2 _) ?_
  refine XE.aload_n d_Lw_law_438 rfl ?_
  refine XE.iload_n d_Lw_law_439 rfl ?_
  refine XE.iconst (x := nI 2) d_Lw_law_440 (by decide) ?_
  refine XE.iadd d_Lw_law_441 (by first | exact nI_add _ _ | rfl) ?_
  refine XE.iald (x := (xs (6 * c + 2))) d_Lw_law_442 (Or.inl rfl) (by first | assumption | decide | omega) (by first | assumption | exact ixn2 (by assumption) (by omega) (by omega)) (hs2.2 _) ?_
  refine XE.aload_n d_Lw_law_443 rfl ?_
  refine XE.iload_n d_Lw_law_444 rfl ?_
  refine XE.iconst (x := nI 3) d_Lw_law_445 (by decide) ?_
  refine XE.iadd d_Lw_law_446 (by first | exact nI_add _ _ | rfl) ?_
  refine XE.iald (x := (xs (6 * c + 3))) d_Lw_law_447 (Or.inl rfl) (by first | assumption | decide | omega) (by first | assumption | exact ixn2 (by assumption) (by omega) (by omega)) (hs2.2 _) ?_
  refine k_Lw_58 8 d_Lw_law_448 (by omega) (Nat.le_of_ble_eq_true rfl) (by first | assumption | decide | omega) (hmd w2 hM2) (fun y2 w3 hm2 hq2 => ?_)
  obtain ⟨rfl, hM3, hG3⟩ := hq2
  refine XE.icmp_eq 716 d_Lw_law_451 (by decide) (fun h451 => ?_) (fun h451 => absurd h451 ((fun z => z rfl)))
  exact go w3 _ (h.step hR2 hF2 hM3 hG3 hiv)
theorem law_10 (hL : L ≤ 3072) (h : LI L xs c w m) (h6 : 6 * c + 6 ≤ L) (go : ∀ w' m', LI L xs (c + 1) w' m' → X_Lw_law 9 716 (LSt c) [] w' Q) : X_Lw_law 9 456 (LSt c) [] w Q := by
  have hc : c < 512 := by omega
  obtain ⟨hM, hR, hV, hs, hN⟩ := id h
  have hs1 := hs.1
  by_cases hz : xs (6 * c + 4) = 0
  · have hcl : E_SS_lock 8 [.inr (0, 1), .inl (xs (6 * c + 1)), .inl (xs (6 * c + 2)), .inl (xs (6 * c + 3)), .inl (nI 0)] w (fun q w' => q = some (.inl ((lckM m (xs (6 * c + 1)) (xs (6 * c + 2)) (xs (6 * c + 3)) false).1)) ∧ CR w' ((lckM m (xs (6 * c + 1)) (xs (6 * c + 2)) (xs (6 * c + 3)) false).2) ∧ FC 1 w w') := SS_lock_ok hR hV.1 hV.2.2.1 (by omega) (xs (6 * c + 1)) (xs (6 * c + 2)) (xs (6 * c + 3)) false
    have hmd : ∀ w2, RM w2 m → E_Md_lock 8 [.inr (7, 1), .inl (xs (6 * c + 1)), .inl (xs (6 * c + 2)), .inl (xs (6 * c + 3)), .inl (nI 0)] w2 (fun q w' => q = some (.inl ((lckM m (xs (6 * c + 1)) (xs (6 * c + 2)) (xs (6 * c + 3)) false).1)) ∧ RM w' ((lckM m (xs (6 * c + 1)) (xs (6 * c + 2)) (xs (6 * c + 3)) false).2) ∧ FM w2 w') := fun w2 hM2 => Md_lock_ok hM2 hV.1 (lk199 hV.1 hV.2.2.1) (by omega) (xs (6 * c + 1)) (xs (6 * c + 2)) (xs (6 * c + 3)) false
    have hiv : IV (c + 1) ((lckM m (xs (6 * c + 1)) (xs (6 * c + 2)) (xs (6 * c + 3)) false).2) := iv_lck hV hc (xs (6 * c + 1)) (xs (6 * c + 2)) (xs (6 * c + 3)) false
    refine XE.aload_n d_Lw_law_456 rfl ?_
    refine XE.aload_n d_Lw_law_457 rfl ?_
    refine XE.iload_n d_Lw_law_458 rfl ?_
    refine XE.iconst (x := nI 1) d_Lw_law_459 (by decide) ?_
    refine XE.iadd d_Lw_law_460 (by first | exact nI_add _ _ | rfl) ?_
    refine XE.iald (x := (xs (6 * c + 1))) d_Lw_law_461 (Or.inl rfl) (by first | assumption | decide | omega) (by first | assumption | exact ixn2 (by assumption) (by omega) (by omega)) (hs.2 _) ?_
    refine XE.aload_n d_Lw_law_462 rfl ?_
    refine XE.iload_n d_Lw_law_463 rfl ?_
    refine XE.iconst (x := nI 2) d_Lw_law_464 (by decide) ?_
    refine XE.iadd d_Lw_law_465 (by first | exact nI_add _ _ | rfl) ?_
    refine XE.iald (x := (xs (6 * c + 2))) d_Lw_law_466 (Or.inl rfl) (by first | assumption | decide | omega) (by first | assumption | exact ixn2 (by assumption) (by omega) (by omega)) (hs.2 _) ?_
    refine XE.aload_n d_Lw_law_467 rfl ?_
    refine XE.iload_n d_Lw_law_468 rfl ?_
    refine XE.iconst (x := nI 3) d_Lw_law_469 (by decide) ?_
    refine XE.iadd d_Lw_law_470 (by first | exact nI_add _ _ | rfl) ?_
    refine XE.iald (x := (xs (6 * c + 3))) d_Lw_law_471 (Or.inl rfl) (by first | assumption | decide | omega) (by first | assumption | exact ixn2 (by assumption) (by omega) (by omega)) (hs.2 _) ?_
    refine XE.aload_n d_Lw_law_472 rfl ?_
    refine XE.iload_n d_Lw_law_473 rfl ?_
    refine XE.iconst (x := nI 4) d_Lw_law_474 (by decide) ?_
    refine XE.iadd d_Lw_law_475 (by first | exact nI_add _ _ | rfl) ?_
    refine XE.iald (x := (xs (6 * c + 4))) d_Lw_law_476 (Or.inl rfl) (by first | assumption | decide | omega) (by first | assumption | exact ixn2 (by assumption) (by omega) (by omega)) (hs.2 _) ?_
    refine XE.if_eq 484 d_Lw_law_477 (by decide) (fun h477 => ?_) (fun h477 => absurd h477 ((fun z => z hz)))
    refine XE.iconst (x := nI 0) d_Lw_law_484 (by decide) ?_
    refine k_Lw_59 8 d_Lw_law_485 (by omega) (Nat.le_of_ble_eq_true rfl) (by first | assumption | decide | omega) hcl (fun y1 w2 hm1 hq1 => ?_)
    obtain ⟨rfl, hR2, hF2⟩ := hq1
    have hs2 := hs.fc hF2.1
    have hs21 := hs2.1
    have hM2 := rm_fc hM hF2.1
    refine XE.aload_n d_Lw_law_488 rfl ?_
    refine XE.aload_n d_Lw_law_489 rfl ?_
    refine XE.iload_n d_Lw_law_490 rfl ?_
    refine XE.iconst (x := nI 1) d_Lw_law_491 (by decide) ?_
    refine XE.iadd d_Lw_law_492 (by first | exact nI_add _ _ | rfl) ?_
    refine XE.iald (x := (xs (6 * c + 1))) d_Lw_law_493 (Or.inl rfl) (by first | assumption | decide | omega) (by first | assumption | exact ixn2 (by assumption) (by omega) (by omega)) (hs2.2 _) ?_
    refine XE.aload_n d_Lw_law_494 rfl ?_
    refine XE.iload_n d_Lw_law_495 rfl ?_
    refine XE.iconst (x := nI 2) d_Lw_law_496 (by decide) ?_
    refine XE.iadd d_Lw_law_497 (by first | exact nI_add _ _ | rfl) ?_
    refine XE.iald (x := (xs (6 * c + 2))) d_Lw_law_498 (Or.inl rfl) (by first | assumption | decide | omega) (by first | assumption | exact ixn2 (by assumption) (by omega) (by omega)) (hs2.2 _) ?_
    refine XE.aload_n d_Lw_law_499 rfl ?_
    refine XE.iload_n d_Lw_law_500 rfl ?_
    refine XE.iconst (x := nI 3) d_Lw_law_501 (by decide) ?_
    refine XE.iadd d_Lw_law_502 (by first | exact nI_add _ _ | rfl) ?_
    refine XE.iald (x := (xs (6 * c + 3))) d_Lw_law_503 (Or.inl rfl) (by first | assumption | decide | omega) (by first | assumption | exact ixn2 (by assumption) (by omega) (by omega)) (hs2.2 _) ?_
    refine XE.aload_n d_Lw_law_504 rfl ?_
    refine XE.iload_n d_Lw_law_505 rfl ?_
    refine XE.iconst (x := nI 4) d_Lw_law_506 (by decide) ?_
    refine XE.iadd d_Lw_law_507 (by first | exact nI_add _ _ | rfl) ?_
    refine XE.iald (x := (xs (6 * c + 4))) d_Lw_law_508 (Or.inl rfl) (by first | assumption | decide | omega) (by first | assumption | exact ixn2 (by assumption) (by omega) (by omega)) (hs2.2 _) ?_
    refine XE.if_eq 516 d_Lw_law_509 (by decide) (fun h509 => ?_) (fun h509 => absurd h509 ((fun z => z hz)))
    refine XE.iconst (x := nI 0) d_Lw_law_516 (by decide) ?_
    refine k_Lw_63 8 d_Lw_law_517 (by omega) (Nat.le_of_ble_eq_true rfl) (by first | assumption | decide | omega) (hmd w2 hM2) (fun y2 w3 hm2 hq2 => ?_)
    obtain ⟨rfl, hM3, hG3⟩ := hq2
    refine XE.icmp_eq 716 d_Lw_law_520 (by decide) (fun h520 => ?_) (fun h520 => absurd h520 ((fun z => z rfl)))
    exact go w3 _ (h.step hR2 hF2 hM3 hG3 hiv)
  · have hcl : E_SS_lock 8 [.inr (0, 1), .inl (xs (6 * c + 1)), .inl (xs (6 * c + 2)), .inl (xs (6 * c + 3)), .inl (nI 1)] w (fun q w' => q = some (.inl ((lckM m (xs (6 * c + 1)) (xs (6 * c + 2)) (xs (6 * c + 3)) true).1)) ∧ CR w' ((lckM m (xs (6 * c + 1)) (xs (6 * c + 2)) (xs (6 * c + 3)) true).2) ∧ FC 1 w w') := SS_lock_ok hR hV.1 hV.2.2.1 (by omega) (xs (6 * c + 1)) (xs (6 * c + 2)) (xs (6 * c + 3)) true
    have hmd : ∀ w2, RM w2 m → E_Md_lock 8 [.inr (7, 1), .inl (xs (6 * c + 1)), .inl (xs (6 * c + 2)), .inl (xs (6 * c + 3)), .inl (nI 1)] w2 (fun q w' => q = some (.inl ((lckM m (xs (6 * c + 1)) (xs (6 * c + 2)) (xs (6 * c + 3)) true).1)) ∧ RM w' ((lckM m (xs (6 * c + 1)) (xs (6 * c + 2)) (xs (6 * c + 3)) true).2) ∧ FM w2 w') := fun w2 hM2 => Md_lock_ok hM2 hV.1 (lk199 hV.1 hV.2.2.1) (by omega) (xs (6 * c + 1)) (xs (6 * c + 2)) (xs (6 * c + 3)) true
    have hiv : IV (c + 1) ((lckM m (xs (6 * c + 1)) (xs (6 * c + 2)) (xs (6 * c + 3)) true).2) := iv_lck hV hc (xs (6 * c + 1)) (xs (6 * c + 2)) (xs (6 * c + 3)) true
    refine XE.aload_n d_Lw_law_456 rfl ?_
    refine XE.aload_n d_Lw_law_457 rfl ?_
    refine XE.iload_n d_Lw_law_458 rfl ?_
    refine XE.iconst (x := nI 1) d_Lw_law_459 (by decide) ?_
    refine XE.iadd d_Lw_law_460 (by first | exact nI_add _ _ | rfl) ?_
    refine XE.iald (x := (xs (6 * c + 1))) d_Lw_law_461 (Or.inl rfl) (by first | assumption | decide | omega) (by first | assumption | exact ixn2 (by assumption) (by omega) (by omega)) (hs.2 _) ?_
    refine XE.aload_n d_Lw_law_462 rfl ?_
    refine XE.iload_n d_Lw_law_463 rfl ?_
    refine XE.iconst (x := nI 2) d_Lw_law_464 (by decide) ?_
    refine XE.iadd d_Lw_law_465 (by first | exact nI_add _ _ | rfl) ?_
    refine XE.iald (x := (xs (6 * c + 2))) d_Lw_law_466 (Or.inl rfl) (by first | assumption | decide | omega) (by first | assumption | exact ixn2 (by assumption) (by omega) (by omega)) (hs.2 _) ?_
    refine XE.aload_n d_Lw_law_467 rfl ?_
    refine XE.iload_n d_Lw_law_468 rfl ?_
    refine XE.iconst (x := nI 3) d_Lw_law_469 (by decide) ?_
    refine XE.iadd d_Lw_law_470 (by first | exact nI_add _ _ | rfl) ?_
    refine XE.iald (x := (xs (6 * c + 3))) d_Lw_law_471 (Or.inl rfl) (by first | assumption | decide | omega) (by first | assumption | exact ixn2 (by assumption) (by omega) (by omega)) (hs.2 _) ?_
    refine XE.aload_n d_Lw_law_472 rfl ?_
    refine XE.iload_n d_Lw_law_473 rfl ?_
    refine XE.iconst (x := nI 4) d_Lw_law_474 (by decide) ?_
    refine XE.iadd d_Lw_law_475 (by first | exact nI_add _ _ | rfl) ?_
    refine XE.iald (x := (xs (6 * c + 4))) d_Lw_law_476 (Or.inl rfl) (by first | assumption | decide | omega) (by first | assumption | exact ixn2 (by assumption) (by omega) (by omega)) (hs.2 _) ?_
    refine XE.if_eq 484 d_Lw_law_477 (by decide) (fun h477 => absurd h477 (hz)) (fun h477 => ?_)
    refine XE.iconst (x := nI 1) d_Lw_law_480 (by decide) ?_
    refine XE.goto 485 d_Lw_law_481 (by decide) ?_
    refine k_Lw_59 8 d_Lw_law_485 (by omega) (Nat.le_of_ble_eq_true rfl) (by first | assumption | decide | omega) hcl (fun y1 w2 hm1 hq1 => ?_)
    obtain ⟨rfl, hR2, hF2⟩ := hq1
    have hs2 := hs.fc hF2.1
    have hs21 := hs2.1
    have hM2 := rm_fc hM hF2.1
    refine XE.aload_n d_Lw_law_488 rfl ?_
    refine XE.aload_n d_Lw_law_489 rfl ?_
    refine XE.iload_n d_Lw_law_490 rfl ?_
    refine XE.iconst (x := nI 1) d_Lw_law_491 (by decide) ?_
    refine XE.iadd d_Lw_law_492 (by first | exact nI_add _ _ | rfl) ?_
    refine XE.iald (x := (xs (6 * c + 1))) d_Lw_law_493 (Or.inl rfl) (by first | assumption | decide | omega) (by first | assumption | exact ixn2 (by assumption) (by omega) (by omega)) (hs2.2 _) ?_
    refine XE.aload_n d_Lw_law_494 rfl ?_
    refine XE.iload_n d_Lw_law_495 rfl ?_
    refine XE.iconst (x := nI 2) d_Lw_law_496 (by decide) ?_
    refine XE.iadd d_Lw_law_497 (by first | exact nI_add _ _ | rfl) ?_
    refine XE.iald (x := (xs (6 * c + 2))) d_Lw_law_498 (Or.inl rfl) (by first | assumption | decide | omega) (by first | assumption | exact ixn2 (by assumption) (by omega) (by omega)) (hs2.2 _) ?_
    refine XE.aload_n d_Lw_law_499 rfl ?_
    refine XE.iload_n d_Lw_law_500 rfl ?_
    refine XE.iconst (x := nI 3) d_Lw_law_501 (by decide) ?_
    refine XE.iadd d_Lw_law_502 (by first | exact nI_add _ _ | rfl) ?_
    refine XE.iald (x := (xs (6 * c + 3))) d_Lw_law_503 (Or.inl rfl) (by first | assumption | decide | omega) (by first | assumption | exact ixn2 (by assumption) (by omega) (by omega)) (hs2.2 _) ?_
    refine XE.aload_n d_Lw_law_504 rfl ?_
    refine XE.iload_n d_Lw_law_505 rfl ?_
    refine XE.iconst (x := nI 4) d_Lw_law_506 (by decide) ?_
    refine XE.iadd d_Lw_law_507 (by first | exact nI_add _ _ | rfl) ?_
    refine XE.iald (x := (xs (6 * c + 4))) d_Lw_law_508 (Or.inl rfl) (by first | assumption | decide | omega) (by first | assumption | exact ixn2 (by assumption) (by omega) (by omega)) (hs2.2 _) ?_
    refine XE.if_eq 516 d_Lw_law_509 (by decide) (fun h509 => absurd h509 (hz)) (fun h509 => ?_)
    refine XE.iconst (x := nI 1) d_Lw_law_512 (by decide) ?_
    refine XE.goto 517 d_Lw_law_513 (by decide) ?_
    refine k_Lw_63 8 d_Lw_law_517 (by omega) (Nat.le_of_ble_eq_true rfl) (by first | assumption | decide | omega) (hmd w2 hM2) (fun y2 w3 hm2 hq2 => ?_)
    obtain ⟨rfl, hM3, hG3⟩ := hq2
    refine XE.icmp_eq 716 d_Lw_law_520 (by decide) (fun h520 => ?_) (fun h520 => absurd h520 ((fun z => z rfl)))
    exact go w3 _ (h.step hR2 hF2 hM3 hG3 hiv)
theorem law_11 (hL : L ≤ 3072) (h : LI L xs c w m) (h6 : 6 * c + 6 ≤ L) (go : ∀ w' m', LI L xs (c + 1) w' m' → X_Lw_law 9 716 (LSt c) [] w' Q) : X_Lw_law 9 525 (LSt c) [] w Q := by
  have hc : c < 512 := by omega
  obtain ⟨hM, hR, hV, hs, hN⟩ := id h
  have hs1 := hs.1
  have hcl : E_SS_unlock 8 [.inr (0, 1), .inl (xs (6 * c + 1)), .inl (xs (6 * c + 2)), .inl (xs (6 * c + 3))] w (fun q w' => q = some (.inl ((ulkM m (xs (6 * c + 1)) (xs (6 * c + 2)) (xs (6 * c + 3))).1)) ∧ CR w' ((ulkM m (xs (6 * c + 1)) (xs (6 * c + 2)) (xs (6 * c + 3))).2) ∧ FC 1 w w') := (SS_unlock_ok hR hV.1 hV.2.2.1 (by omega) (xs (6 * c + 1)) (xs (6 * c + 2)) (xs (6 * c + 3))).mono (fun q w' z => ⟨z.1, z.2.1, z.2.2.up1⟩)
  have hmd : ∀ w2, RM w2 m → E_Md_unlock 8 [.inr (7, 1), .inl (xs (6 * c + 1)), .inl (xs (6 * c + 2)), .inl (xs (6 * c + 3))] w2 (fun q w' => q = some (.inl ((ulkM m (xs (6 * c + 1)) (xs (6 * c + 2)) (xs (6 * c + 3))).1)) ∧ RM w' ((ulkM m (xs (6 * c + 1)) (xs (6 * c + 2)) (xs (6 * c + 3))).2) ∧ FM w2 w') := fun w2 hM2 => Md_unlock_ok hM2 hV.1 (by omega) (xs (6 * c + 1)) (xs (6 * c + 2)) (xs (6 * c + 3))
  have hiv : IV (c + 1) ((ulkM m (xs (6 * c + 1)) (xs (6 * c + 2)) (xs (6 * c + 3))).2) := iv_ulk hV hc (xs (6 * c + 1)) (xs (6 * c + 2)) (xs (6 * c + 3))
  refine XE.aload_n d_Lw_law_525 rfl ?_
  refine XE.aload_n d_Lw_law_526 rfl ?_
  refine XE.iload_n d_Lw_law_527 rfl ?_
  refine XE.iconst (x := nI 1) d_Lw_law_528 (by decide) ?_
  refine XE.iadd d_Lw_law_529 (by first | exact nI_add _ _ | rfl) ?_
  refine XE.iald (x := (xs (6 * c + 1))) d_Lw_law_530 (Or.inl rfl) (by first | assumption | decide | omega) (by first | assumption | exact ixn2 (by assumption) (by omega) (by omega)) (hs.2 _) ?_
  refine XE.aload_n d_Lw_law_531 rfl ?_
  refine XE.iload_n d_Lw_law_532 rfl ?_
  refine XE.iconst (x := nI 2) d_Lw_law_533 (by decide) ?_
  refine XE.iadd d_Lw_law_534 (by first | exact nI_add _ _ | rfl) ?_
  refine XE.iald (x := (xs (6 * c + 2))) d_Lw_law_535 (Or.inl rfl) (by first | assumption | decide | omega) (by first | assumption | exact ixn2 (by assumption) (by omega) (by omega)) (hs.2 _) ?_
  refine XE.aload_n d_Lw_law_536 rfl ?_
  refine XE.iload_n d_Lw_law_537 rfl ?_
  refine XE.iconst (x := nI 3) d_Lw_law_538 (by decide) ?_
  refine XE.iadd d_Lw_law_539 (by first | exact nI_add _ _ | rfl) ?_
  refine XE.iald (x := (xs (6 * c + 3))) d_Lw_law_540 (Or.inl rfl) (by first | assumption | decide | omega) (by first | assumption | exact ixn2 (by assumption) (by omega) (by omega)) (hs.2 _) ?_
  refine k_Lw_64 8 d_Lw_law_541 (by omega) (Nat.le_of_ble_eq_true rfl) (by first | assumption | decide | omega) hcl (fun y1 w2 hm1 hq1 => ?_)
  obtain ⟨rfl, hR2, hF2⟩ := hq1
  have hs2 := hs.fc hF2.1
  have hs21 := hs2.1
  have hM2 := rm_fc hM hF2.1
  refine XE.aload_n d_Lw_law_544 rfl ?_
  refine XE.aload_n d_Lw_law_545 rfl ?_
  refine XE.iload_n d_Lw_law_546 rfl ?_
  refine XE.iconst (x := nI 1) d_Lw_law_547 (by decide) ?_
  refine XE.iadd d_Lw_law_548 (by first | exact nI_add _ _ | rfl) ?_
  refine XE.iald (x := (xs (6 * c + 1))) d_Lw_law_549 (Or.inl rfl) (by first | assumption | decide | omega) (by first | assumption | exact ixn2 (by assumption) (by omega) (by omega)) (hs2.2 _) ?_
  refine XE.aload_n d_Lw_law_550 rfl ?_
  refine XE.iload_n d_Lw_law_551 rfl ?_
  refine XE.iconst (x := nI 2) d_Lw_law_552 (by decide) ?_
  refine XE.iadd d_Lw_law_553 (by first | exact nI_add _ _ | rfl) ?_
  refine XE.iald (x := (xs (6 * c + 2))) d_Lw_law_554 (Or.inl rfl) (by first | assumption | decide | omega) (by first | assumption | exact ixn2 (by assumption) (by omega) (by omega)) (hs2.2 _) ?_
  refine XE.aload_n d_Lw_law_555 rfl ?_
  refine XE.iload_n d_Lw_law_556 rfl ?_
  refine XE.iconst (x := nI 3) d_Lw_law_557 (by decide) ?_
  refine XE.iadd d_Lw_law_558 (by first | exact nI_add _ _ | rfl) ?_
  refine XE.iald (x := (xs (6 * c + 3))) d_Lw_law_559 (Or.inl rfl) (by first | assumption | decide | omega) (by first | assumption | exact ixn2 (by assumption) (by omega) (by omega)) (hs2.2 _) ?_
  refine k_Lw_67 8 d_Lw_law_560 (by omega) (Nat.le_of_ble_eq_true rfl) (by first | assumption | decide | omega) (hmd w2 hM2) (fun y2 w3 hm2 hq2 => ?_)
  obtain ⟨rfl, hM3, hG3⟩ := hq2
  refine XE.icmp_eq 716 d_Lw_law_563 (by decide) (fun h563 => ?_) (fun h563 => absurd h563 ((fun z => z rfl)))
  exact go w3 _ (h.step hR2 hF2 hM3 hG3 hiv)
theorem law_12 (hL : L ≤ 3072) (h : LI L xs c w m) (h6 : 6 * c + 6 ≤ L) (go : ∀ w' m', LI L xs (c + 1) w' m' → X_Lw_law 9 716 (LSt c) [] w' Q) : X_Lw_law 9 568 (LSt c) [] w Q := by
  have hc : c < 512 := by omega
  obtain ⟨hM, hR, hV, hs, hN⟩ := id h
  have hs1 := hs.1
  have hcl : E_SS_sync 8 [.inr (0, 1)] w (fun q w' => q = some (.inl (nI (mN m))) ∧ CR w' (synM m) ∧ FC 1 w w') := (SS_sync_ok hR hV.1 (by omega)).mono (fun q w' z => ⟨z.1, z.2.1, z.2.2.up1⟩)
  have hmd : ∀ w2, RM w2 m → E_Md_sync 8 [.inr (7, 1)] w2 (fun q w' => q = some (.inl (nI (mN m))) ∧ RM w' (synM m) ∧ FM w2 w') := fun w2 hM2 => Md_sync_ok hM2
  have hiv : IV (c + 1) (synM m) := iv_syn hV hc
  refine XE.aload_n d_Lw_law_568 rfl ?_
  refine k_Lw_68 8 d_Lw_law_569 (by omega) (Nat.le_of_ble_eq_true rfl) (by first | assumption | decide | omega) hcl (fun y1 w2 hm1 hq1 => ?_)
  obtain ⟨rfl, hR2, hF2⟩ := hq1
  have hs2 := hs.fc hF2.1
  have hs21 := hs2.1
  have hM2 := rm_fc hM hF2.1
  refine XE.aload_n d_Lw_law_572 rfl ?_
  refine k_Lw_71 8 d_Lw_law_573 (by omega) (Nat.le_of_ble_eq_true rfl) (by first | assumption | decide | omega) (hmd w2 hM2) (fun y2 w3 hm2 hq2 => ?_)
  obtain ⟨rfl, hM3, hG3⟩ := hq2
  refine XE.icmp_eq 716 d_Lw_law_576 (by decide) (fun h576 => ?_) (fun h576 => absurd h576 ((fun z => z rfl)))
  exact go w3 _ (h.step hR2 hF2 hM3 hG3 hiv)
theorem law_13 (hL : L ≤ 3072) (h : LI L xs c w m) (h6 : 6 * c + 6 ≤ L) (go : ∀ w' m', LI L xs (c + 1) w' m' → X_Lw_law 9 716 (LSt c) [] w' Q) : X_Lw_law 9 581 (LSt c) [] w Q := by
  have hc : c < 512 := by omega
  obtain ⟨hM, hR, hV, hs, hN⟩ := id h
  have hs1 := hs.1
  have hcl : E_SS_crash 8 [.inr (0, 1)] w (fun q w' => q = some (.inl (nI (mU m))) ∧ CR w' (crM m) ∧ FC 1 w w') := (SS_crash_ok hR hV.1 hV.2.2.1 (by omega)).mono (fun q w' z => ⟨z.1, z.2.1, z.2.2.up1⟩)
  have hmd : ∀ w2, RM w2 m → E_Md_crash 8 [.inr (7, 1)] w2 (fun q w' => q = some (.inl (nI (mU m))) ∧ RM w' (crM m) ∧ FM w2 w') := fun w2 hM2 => Md_crash_ok hM2 hV.1 hV.2.2.1.root (fun c' hc' => hV.2.2.1.2.2.2.2.2.2.2 c' (Nat.lt_of_lt_of_le hc' hV.1.un.1)) (by omega)
  have hiv : IV (c + 1) (crM m) := iv_cr hV hc
  refine XE.aload_n d_Lw_law_581 rfl ?_
  refine k_Lw_72 8 d_Lw_law_582 (by omega) (Nat.le_of_ble_eq_true rfl) (by first | assumption | decide | omega) hcl (fun y1 w2 hm1 hq1 => ?_)
  obtain ⟨rfl, hR2, hF2⟩ := hq1
  have hs2 := hs.fc hF2.1
  have hs21 := hs2.1
  have hM2 := rm_fc hM hF2.1
  refine XE.aload_n d_Lw_law_585 rfl ?_
  refine k_Lw_75 8 d_Lw_law_586 (by omega) (Nat.le_of_ble_eq_true rfl) (by first | assumption | decide | omega) (hmd w2 hM2) (fun y2 w3 hm2 hq2 => ?_)
  obtain ⟨rfl, hM3, hG3⟩ := hq2
  refine XE.icmp_eq 716 d_Lw_law_589 (by decide) (fun h589 => ?_) (fun h589 => absurd h589 ((fun z => z rfl)))
  exact go w3 _ (h.step hR2 hF2 hM3 hG3 hiv)
theorem law_14 (hL : L ≤ 3072) (h : LI L xs c w m) (h6 : 6 * c + 6 ≤ L) (go : ∀ w' m', LI L xs (c + 1) w' m' → X_Lw_law 9 716 (LSt c) [] w' Q) : X_Lw_law 9 594 (LSt c) [] w Q := by
  have hc : c < 512 := by omega
  obtain ⟨hM, hR, hV, hs, hN⟩ := id h
  have hs1 := hs.1
  have hcl : E_SS_find 8 [.inr (0, 1), .inl (xs (6 * c + 1)), .inl (xs (6 * c + 2))] w (fun q w' => q = some (.inl (fndM m (xs (6 * c + 1)) (xs (6 * c + 2)))) ∧ CR w' (m) ∧ FC 1 w w') := (SS_find_ok hR hV.1 hV.2.2.1 (by omega) (xs (6 * c + 1)) (xs (6 * c + 2))).mono (fun q w' z => ⟨z.1, by rw [z.2]; exact hR, by rw [z.2]; exact FC.rf1⟩)
  have hmd : ∀ w2, RM w2 m → E_Md_find 8 [.inr (7, 1), .inl (xs (6 * c + 1)), .inl (xs (6 * c + 2))] w2 (fun q w' => q = some (.inl (fndM m (xs (6 * c + 1)) (xs (6 * c + 2)))) ∧ RM w' (m) ∧ FM w2 w') := fun w2 hM2 => (Md_find_ok hM2 hV.1 (by omega) (xs (6 * c + 1)) (xs (6 * c + 2))).mono (fun q w' z => ⟨z.1, by rw [z.2]; exact hM2, by rw [z.2]; exact FM.rf⟩)
  have hiv : IV (c + 1) (m) := hV.up hc
  refine XE.aload_n d_Lw_law_594 rfl ?_
  refine XE.aload_n d_Lw_law_595 rfl ?_
  refine XE.iload_n d_Lw_law_596 rfl ?_
  refine XE.iconst (x := nI 1) d_Lw_law_597 (by decide) ?_
  refine XE.iadd d_Lw_law_598 (by first | exact nI_add _ _ | rfl) ?_
  refine XE.iald (x := (xs (6 * c + 1))) d_Lw_law_599 (Or.inl rfl) (by first | assumption | decide | omega) (by first | assumption | exact ixn2 (by assumption) (by omega) (by omega)) (hs.2 _) ?_
  refine XE.aload_n d_Lw_law_600 rfl ?_
  refine XE.iload_n d_Lw_law_601 rfl ?_
  refine XE.iconst (x := nI 2) d_Lw_law_602 (by decide) ?_
  refine XE.iadd d_Lw_law_603 (by first | exact nI_add _ _ | rfl) ?_
  refine XE.iald (x := (xs (6 * c + 2))) d_Lw_law_604 (Or.inl rfl) (by first | assumption | decide | omega) (by first | assumption | exact ixn2 (by assumption) (by omega) (by omega)) (hs.2 _) ?_
  refine k_Lw_76 8 d_Lw_law_605 (by omega) (Nat.le_of_ble_eq_true rfl) (by first | assumption | decide | omega) hcl (fun y1 w2 hm1 hq1 => ?_)
  obtain ⟨rfl, hR2, hF2⟩ := hq1
  have hs2 := hs.fc hF2.1
  have hs21 := hs2.1
  have hM2 := rm_fc hM hF2.1
  refine XE.aload_n d_Lw_law_608 rfl ?_
  refine XE.aload_n d_Lw_law_609 rfl ?_
  refine XE.iload_n d_Lw_law_610 rfl ?_
  refine XE.iconst (x := nI 1) d_Lw_law_611 (by decide) ?_
  refine XE.iadd d_Lw_law_612 (by first | exact nI_add _ _ | rfl) ?_
  refine XE.iald (x := (xs (6 * c + 1))) d_Lw_law_613 (Or.inl rfl) (by first | assumption | decide | omega) (by first | assumption | exact ixn2 (by assumption) (by omega) (by omega)) (hs2.2 _) ?_
  refine XE.aload_n d_Lw_law_614 rfl ?_
  refine XE.iload_n d_Lw_law_615 rfl ?_
  refine XE.iconst (x := nI 2) d_Lw_law_616 (by decide) ?_
  refine XE.iadd d_Lw_law_617 (by first | exact nI_add _ _ | rfl) ?_
  refine XE.iald (x := (xs (6 * c + 2))) d_Lw_law_618 (Or.inl rfl) (by first | assumption | decide | omega) (by first | assumption | exact ixn2 (by assumption) (by omega) (by omega)) (hs2.2 _) ?_
  refine k_Lw_79 8 d_Lw_law_619 (by omega) (Nat.le_of_ble_eq_true rfl) (by first | assumption | decide | omega) (hmd w2 hM2) (fun y2 w3 hm2 hq2 => ?_)
  obtain ⟨rfl, hM3, hG3⟩ := hq2
  refine XE.icmp_eq 716 d_Lw_law_622 (by decide) (fun h622 => ?_) (fun h622 => absurd h622 ((fun z => z rfl)))
  exact go w3 _ (h.step hR2 hF2 hM3 hG3 hiv)
theorem law_15 (hL : L ≤ 3072) (h : LI L xs c w m) (h6 : 6 * c + 6 ≤ L) (go : ∀ w' m', LI L xs (c + 1) w' m' → X_Lw_law 9 716 (LSt c) [] w' Q) : X_Lw_law 9 627 (LSt c) [] w Q := by
  have hc : c < 512 := by omega
  obtain ⟨hM, hR, hV, hs, hN⟩ := id h
  have hs1 := hs.1
  have hcl : E_SS_node 8 [.inr (0, 1), .inl (xs (6 * c + 1)), .inl (xs (6 * c + 2))] w (fun q w' => q = some (.inl (nodM m (xs (6 * c + 1)) (xs (6 * c + 2)))) ∧ CR w' (m) ∧ FC 1 w w') := (SS_node_ok hR hV.1 hV.2.2.1 (by omega) (xs (6 * c + 1)) (xs (6 * c + 2))).mono (fun q w' z => ⟨z.1, by rw [z.2]; exact hR, by rw [z.2]; exact FC.rf1⟩)
  have hmd : ∀ w2, RM w2 m → E_Md_node 8 [.inr (7, 1), .inl (xs (6 * c + 1)), .inl (xs (6 * c + 2))] w2 (fun q w' => q = some (.inl (nodM m (xs (6 * c + 1)) (xs (6 * c + 2)))) ∧ RM w' (m) ∧ FM w2 w') := fun w2 hM2 => (Md_node_ok hM2 hV.1 (by omega) (xs (6 * c + 1)) (xs (6 * c + 2))).mono (fun q w' z => ⟨z.1, by rw [z.2]; exact hM2, by rw [z.2]; exact FM.rf⟩)
  have hiv : IV (c + 1) (m) := hV.up hc
  refine XE.aload_n d_Lw_law_627 rfl ?_
  refine XE.aload_n d_Lw_law_628 rfl ?_
  refine XE.iload_n d_Lw_law_629 rfl ?_
  refine XE.iconst (x := nI 1) d_Lw_law_630 (by decide) ?_
  refine XE.iadd d_Lw_law_631 (by first | exact nI_add _ _ | rfl) ?_
  refine XE.iald (x := (xs (6 * c + 1))) d_Lw_law_632 (Or.inl rfl) (by first | assumption | decide | omega) (by first | assumption | exact ixn2 (by assumption) (by omega) (by omega)) (hs.2 _) ?_
  refine XE.aload_n d_Lw_law_633 rfl ?_
  refine XE.iload_n d_Lw_law_634 rfl ?_
  refine XE.iconst (x := nI 2) d_Lw_law_635 (by decide) ?_
  refine XE.iadd d_Lw_law_636 (by first | exact nI_add _ _ | rfl) ?_
  refine XE.iald (x := (xs (6 * c + 2))) d_Lw_law_637 (Or.inl rfl) (by first | assumption | decide | omega) (by first | assumption | exact ixn2 (by assumption) (by omega) (by omega)) (hs.2 _) ?_
  refine k_Lw_80 8 d_Lw_law_638 (by omega) (Nat.le_of_ble_eq_true rfl) (by first | assumption | decide | omega) hcl (fun y1 w2 hm1 hq1 => ?_)
  obtain ⟨rfl, hR2, hF2⟩ := hq1
  have hs2 := hs.fc hF2.1
  have hs21 := hs2.1
  have hM2 := rm_fc hM hF2.1
  refine XE.aload_n d_Lw_law_641 rfl ?_
  refine XE.aload_n d_Lw_law_642 rfl ?_
  refine XE.iload_n d_Lw_law_643 rfl ?_
  refine XE.iconst (x := nI 1) d_Lw_law_644 (by decide) ?_
  refine XE.iadd d_Lw_law_645 (by first | exact nI_add _ _ | rfl) ?_
  refine XE.iald (x := (xs (6 * c + 1))) d_Lw_law_646 (Or.inl rfl) (by first | assumption | decide | omega) (by first | assumption | exact ixn2 (by assumption) (by omega) (by omega)) (hs2.2 _) ?_
  refine XE.aload_n d_Lw_law_647 rfl ?_
  refine XE.iload_n d_Lw_law_648 rfl ?_
  refine XE.iconst (x := nI 2) d_Lw_law_649 (by decide) ?_
  refine XE.iadd d_Lw_law_650 (by first | exact nI_add _ _ | rfl) ?_
  refine XE.iald (x := (xs (6 * c + 2))) d_Lw_law_651 (Or.inl rfl) (by first | assumption | decide | omega) (by first | assumption | exact ixn2 (by assumption) (by omega) (by omega)) (hs2.2 _) ?_
  refine k_Lw_83 8 d_Lw_law_652 (by omega) (Nat.le_of_ble_eq_true rfl) (by first | assumption | decide | omega) (hmd w2 hM2) (fun y2 w3 hm2 hq2 => ?_)
  obtain ⟨rfl, hM3, hG3⟩ := hq2
  refine XE.icmp_eq 716 d_Lw_law_655 (by decide) (fun h655 => ?_) (fun h655 => absurd h655 ((fun z => z rfl)))
  exact go w3 _ (h.step hR2 hF2 hM3 hG3 hiv)
theorem law_16 (hL : L ≤ 3072) (h : LI L xs c w m) (h6 : 6 * c + 6 ≤ L) (go : ∀ w' m', LI L xs (c + 1) w' m' → X_Lw_law 9 716 (LSt c) [] w' Q) : X_Lw_law 9 660 (LSt c) [] w Q := by
  have hc : c < 512 := by omega
  obtain ⟨hM, hR, hV, hs, hN⟩ := id h
  have hs1 := hs.1
  have hcl : E_SS_handle 8 [.inr (0, 1), .inl (xs (6 * c + 1)), .inl (xs (6 * c + 2))] w (fun q w' => q = some (.inl (hdlM m (xs (6 * c + 1)) (xs (6 * c + 2)))) ∧ CR w' (m) ∧ FC 1 w w') := (SS_handle_ok hR hV.1 hV.2.2.1 (by omega) (xs (6 * c + 1)) (xs (6 * c + 2))).mono (fun q w' z => ⟨z.1, by rw [z.2]; exact hR, by rw [z.2]; exact FC.rf1⟩)
  have hmd : ∀ w2, RM w2 m → E_Md_handle 8 [.inr (7, 1), .inl (xs (6 * c + 1)), .inl (xs (6 * c + 2))] w2 (fun q w' => q = some (.inl (hdlM m (xs (6 * c + 1)) (xs (6 * c + 2)))) ∧ RM w' (m) ∧ FM w2 w') := fun w2 hM2 => (Md_handle_ok hM2 hV.1 (by omega) (xs (6 * c + 1)) (xs (6 * c + 2))).mono (fun q w' z => ⟨z.1, by rw [z.2]; exact hM2, by rw [z.2]; exact FM.rf⟩)
  have hiv : IV (c + 1) (m) := hV.up hc
  refine XE.aload_n d_Lw_law_660 rfl ?_
  refine XE.aload_n d_Lw_law_661 rfl ?_
  refine XE.iload_n d_Lw_law_662 rfl ?_
  refine XE.iconst (x := nI 1) d_Lw_law_663 (by decide) ?_
  refine XE.iadd d_Lw_law_664 (by first | exact nI_add _ _ | rfl) ?_
  refine XE.iald (x := (xs (6 * c + 1))) d_Lw_law_665 (Or.inl rfl) (by first | assumption | decide | omega) (by first | assumption | exact ixn2 (by assumption) (by omega) (by omega)) (hs.2 _) ?_
  refine XE.aload_n d_Lw_law_666 rfl ?_
  refine XE.iload_n d_Lw_law_667 rfl ?_
  refine XE.iconst (x := nI 2) d_Lw_law_668 (by decide) ?_
  refine XE.iadd d_Lw_law_669 (by first | exact nI_add _ _ | rfl) ?_
  refine XE.iald (x := (xs (6 * c + 2))) d_Lw_law_670 (Or.inl rfl) (by first | assumption | decide | omega) (by first | assumption | exact ixn2 (by assumption) (by omega) (by omega)) (hs.2 _) ?_
  refine k_Lw_84 8 d_Lw_law_671 (by omega) (Nat.le_of_ble_eq_true rfl) (by first | assumption | decide | omega) hcl (fun y1 w2 hm1 hq1 => ?_)
  obtain ⟨rfl, hR2, hF2⟩ := hq1
  have hs2 := hs.fc hF2.1
  have hs21 := hs2.1
  have hM2 := rm_fc hM hF2.1
  refine XE.aload_n d_Lw_law_674 rfl ?_
  refine XE.aload_n d_Lw_law_675 rfl ?_
  refine XE.iload_n d_Lw_law_676 rfl ?_
  refine XE.iconst (x := nI 1) d_Lw_law_677 (by decide) ?_
  refine XE.iadd d_Lw_law_678 (by first | exact nI_add _ _ | rfl) ?_
  refine XE.iald (x := (xs (6 * c + 1))) d_Lw_law_679 (Or.inl rfl) (by first | assumption | decide | omega) (by first | assumption | exact ixn2 (by assumption) (by omega) (by omega)) (hs2.2 _) ?_
  refine XE.aload_n d_Lw_law_680 rfl ?_
  refine XE.iload_n d_Lw_law_681 rfl ?_
  refine XE.iconst (x := nI 2) d_Lw_law_682 (by decide) ?_
  refine XE.iadd d_Lw_law_683 (by first | exact nI_add _ _ | rfl) ?_
  refine XE.iald (x := (xs (6 * c + 2))) d_Lw_law_684 (Or.inl rfl) (by first | assumption | decide | omega) (by first | assumption | exact ixn2 (by assumption) (by omega) (by omega)) (hs2.2 _) ?_
  refine k_Lw_87 8 d_Lw_law_685 (by omega) (Nat.le_of_ble_eq_true rfl) (by first | assumption | decide | omega) (hmd w2 hM2) (fun y2 w3 hm2 hq2 => ?_)
  obtain ⟨rfl, hM3, hG3⟩ := hq2
  refine XE.icmp_eq 716 d_Lw_law_688 (by decide) (fun h688 => ?_) (fun h688 => absurd h688 ((fun z => z rfl)))
  exact go w3 _ (h.step hR2 hF2 hM3 hG3 hiv)
theorem law_17 (hL : L ≤ 3072) (h : LI L xs c w m) (h6 : 6 * c + 6 ≤ L) (go : ∀ w' m', LI L xs (c + 1) w' m' → X_Lw_law 9 716 (LSt c) [] w' Q) : X_Lw_law 9 693 (LSt c) [] w Q := by
  have hc : c < 512 := by omega
  obtain ⟨hM, hR, hV, hs, hN⟩ := id h
  have hs1 := hs.1
  have hcl : E_SS_count 8 [.inr (0, 1), .inl (xs (6 * c + 1))] w (fun q w' => q = some (.inl (cntM m (xs (6 * c + 1)))) ∧ CR w' (m) ∧ FC 1 w w') := (SS_count_ok hR hV.1 hV.2.2.1 (by omega) (xs (6 * c + 1))).mono (fun q w' z => ⟨z.1, by rw [z.2]; exact hR, by rw [z.2]; exact FC.rf1⟩)
  have hmd : ∀ w2, RM w2 m → E_Md_count 8 [.inr (7, 1), .inl (xs (6 * c + 1))] w2 (fun q w' => q = some (.inl (cntM m (xs (6 * c + 1)))) ∧ RM w' (m) ∧ FM w2 w') := fun w2 hM2 => (Md_count_ok hM2 hV.1 (by omega) (xs (6 * c + 1))).mono (fun q w' z => ⟨z.1, by rw [z.2]; exact hM2, by rw [z.2]; exact FM.rf⟩)
  have hiv : IV (c + 1) (m) := hV.up hc
  refine XE.aload_n d_Lw_law_693 rfl ?_
  refine XE.aload_n d_Lw_law_694 rfl ?_
  refine XE.iload_n d_Lw_law_695 rfl ?_
  refine XE.iconst (x := nI 1) d_Lw_law_696 (by decide) ?_
  refine XE.iadd d_Lw_law_697 (by first | exact nI_add _ _ | rfl) ?_
  refine XE.iald (x := (xs (6 * c + 1))) d_Lw_law_698 (Or.inl rfl) (by first | assumption | decide | omega) (by first | assumption | exact ixn2 (by assumption) (by omega) (by omega)) (hs.2 _) ?_
  refine k_Lw_88 8 d_Lw_law_699 (by omega) (Nat.le_of_ble_eq_true rfl) (by first | assumption | decide | omega) hcl (fun y1 w2 hm1 hq1 => ?_)
  obtain ⟨rfl, hR2, hF2⟩ := hq1
  have hs2 := hs.fc hF2.1
  have hs21 := hs2.1
  have hM2 := rm_fc hM hF2.1
  refine XE.aload_n d_Lw_law_702 rfl ?_
  refine XE.aload_n d_Lw_law_703 rfl ?_
  refine XE.iload_n d_Lw_law_704 rfl ?_
  refine XE.iconst (x := nI 1) d_Lw_law_705 (by decide) ?_
  refine XE.iadd d_Lw_law_706 (by first | exact nI_add _ _ | rfl) ?_
  refine XE.iald (x := (xs (6 * c + 1))) d_Lw_law_707 (Or.inl rfl) (by first | assumption | decide | omega) (by first | assumption | exact ixn2 (by assumption) (by omega) (by omega)) (hs2.2 _) ?_
  refine k_Lw_91 8 d_Lw_law_708 (by omega) (Nat.le_of_ble_eq_true rfl) (by first | assumption | decide | omega) (hmd w2 hM2) (fun y2 w3 hm2 hq2 => ?_)
  obtain ⟨rfl, hM3, hG3⟩ := hq2
  refine XE.icmp_eq 716 d_Lw_law_711 (by decide) (fun h711 => ?_) (fun h711 => absurd h711 ((fun z => z rfl)))
  exact go w3 _ (h.step hR2 hF2 hM3 hG3 hiv)
end LAWC
