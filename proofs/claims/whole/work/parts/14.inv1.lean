/-! the bounds kept by the steps of the model; trying again -/
def wtN (m : MS) : Nat := (List.range' 1 (mQ m)).countP (fun r => qO (mq m r) == 0)
/-- what bounds the arrays in the long run: handles and waiting requests together are at most the requests -/
def BD (c : Nat) (m : MS) : Prop := mH m + wtN m ≤ mQ m ∧ mN m ≤ mH m + c ∧ c ≤ 580
theorem cnt_upd {p p' : Nat → Bool} {r : Nat} (h1 : p r = true) (h2 : p' r = false) (h3 : ∀ x, x ≠ r → p' x = p x) : ∀ k s, s ≤ r → r < s + k → (List.range' s k).countP p = (List.range' s k).countP p' + 1 := by
  intro k
  induction k with
  | zero => intro s a b; omega
  | succ k ih =>
    intro s a b
    rw [List.range'_succ]
    by_cases e : s = r
    · subst e
      rw [List.countP_cons_of_pos h1, List.countP_cons_of_neg (by rw [h2]; decide)]
      congr 1
      refine (List.countP_congr (fun x hx => ?_)).symm ▸ rfl
      have : x ≠ s := by
        have := (List.mem_range'_1.mp hx).1
        omega
      rw [h3 x this]
    · have := ih (s + 1) (by omega) (by omega)
      by_cases q : p s = true
      · rw [List.countP_cons_of_pos q, List.countP_cons_of_pos (by rw [h3 s e]; exact q), this]
      · rw [List.countP_cons_of_neg q, List.countP_cons_of_neg (by rw [h3 s e]; exact q), this]
theorem cnt_mem {p : Nat → Bool} {r : Nat} (h1 : p r = true) : ∀ k s, s ≤ r → r < s + k → 1 ≤ (List.range' s k).countP p := by
  intro k s a b
  have := cnt_upd (p' := fun x => if x = r then false else p x) h1 (by simp) (fun x hx => by simp [hx]) k s a b
  omega
theorem WB.brk {m : MS} (hB : WB m) (n : Nat) : WB (brkM m n) := by
  have e : ∀ x, hN (mh (brkM m n) x) = hN (mh m x) ∧ hO (mh (brkM m n) x) = hO (mh m x) := fun x => by
    show hN (if _ then _ else _) = _ ∧ hO (if _ then _ else _) = _
    split
    · exact ⟨rfl, rfl⟩
    · exact ⟨rfl, rfl⟩
  obtain ⟨b1, b2, b3, b4, b5, b6, b7, b8, b9, b10⟩ := hB
  refine ⟨b1, b2, b3, b4, b5, fun x h1 h2 => ?_, b7, b8, fun x h1 h2 h3 => ?_, b10⟩
  · rw [(e x).1]; exact b6 x h1 h2
  · rw [(e x).1]
    rw [(e x).2] at h3
    exact b9 x h1 h2 h3
theorem WB.gr {m : MS} (hB : WB m) {r n : Nat} (hn : n ≤ 24) (ht : tT (mT m) n = true) (h5 : mH m < 512) : WB (grM m r n) := by
  obtain ⟨b1, b2, b3, b4, b5, b6, b7, b8, b9, b10⟩ := hB
  have e : ∀ x, x ≤ mH m → mh (grM m r n) x = mh m x := fun x h => uf_n _ _ (by omega)
  have e2 : mh (grM m r n) (mH m + 1) = (n, accM (qM (mq m r)), shrM (qM (mq m r)), grG m r n, qC (mq m r), hasM (qM (mq m r)) 512, true) := uf_s _ _ _
  refine ⟨by show mH m + 1 ≤ 512; omega, b2, b3, b4, b5, fun x h1 h2 => ?_, fun k hk => ?_, b8, fun x h1 h2 h3 => ?_, b10⟩
  · have h2 : x ≤ mH m + 1 := h2
    by_cases h : x = mH m + 1
    · rw [h, e2]; exact hn
    · rw [e x (by omega)]; exact b6 x h1 (by omega)
  · obtain ⟨a1, a2, a3⟩ := b7 k hk
    exact ⟨a1, by show k.1 ≤ mH m + 1; omega, a3⟩
  · have h2 : x ≤ mH m + 1 := h2
    by_cases h : x = mH m + 1
    · rw [h, e2]; exact ht
    · rw [e x (by omega)] at h3 ⊢
      exact b9 x h1 (by omega) h3
/-- the three ends of an attempt -/
theorem att_cases (m : MS) (hB : WB m) {r : Nat} (r1 : 1 ≤ r) (r2 : r ≤ mQ m) : (∃ v : Int32, attM m r = (v, m) ∧ v < 0) ∨ (∃ n, n ≤ 24 ∧ brkA m n = true ∧ attM m r = (0, brkM m n)) ∨
    (∃ n, n ≤ 24 ∧ tT (mT m) n = true ∧ nOpen m ≠ 12 ∧ brkA m n = false ∧ mM m n ≠ true ∧ attM m r = (nI (mH m + 1), grM m r n)) ∨
    (tG (mT m) < 24 ∧ nOpen m ≠ 12 ∧ tT (mT m) (qD (mq m r)) = true ∧ tF (mT m) (qD (mq m r)) = true ∧ atP (mT m) (nI (qD (mq m r))) (qN (mq m r)) = none ∧ mM m (qD (mq m r)) ≠ true ∧ attM m r = (nI (mH m + 1), grM (noteM m (1, tG (mT m) + 1, nI (qD (mq m r)), qN (mq m r), bI (hasM (qM (mq m r)) 256))) r (tG (mT m) + 1))) := by
  have g24 := hB.g24
  unfold attM
  split
  · exact Or.inl ⟨-3, rfl, by decide⟩
  · rename_i hx
    have hx : tT (mT m) (qD (mq m r)) = true ∧ tF (mT m) (qD (mq m r)) = true := Classical.not_not.mp hx
    split
    · rename_i hat
      split
      · exact Or.inl ⟨-3, rfl, by decide⟩
      · split
        · exact Or.inl ⟨-7, rfl, by decide⟩
        · rename_i hd
          split
          · exact Or.inl ⟨-2, rfl, by decide⟩
          · rename_i h
            exact Or.inr (Or.inr (Or.inr ⟨by omega, fun z => h (Or.inr z), hx.1, hx.2, hat, hd, rfl⟩))
    · rename_i n hat
      obtain ⟨n1, n2, n3, -⟩ := atP_some hat
      split
      · exact Or.inl ⟨-4, rfl, by decide⟩
      · split
        · exact Or.inl ⟨-5, rfl, by decide⟩
        · split
          · rename_i hb
            exact Or.inr (Or.inl ⟨n, by omega, hb, rfl⟩)
          · rename_i hb
            split
            · exact Or.inl ⟨-7, rfl, by decide⟩
            · rename_i hd
              split
              · exact Or.inl ⟨-6, rfl, by decide⟩
              · split
                · exact Or.inl ⟨-2, rfl, by decide⟩
                · rename_i h
                  exact Or.inr (Or.inr (Or.inl ⟨n, by omega, n3, h, Bool.not_eq_true _ ▸ hb, hd, rfl⟩))
def tryS (m : MS) (r : Nat) : MS := if qO (mq m r) = 0 then setQ (attM m r).2 (uf (mq m) r (qsO (mq m r) (attM m r).1)) else m
def tryL : Nat → Nat → MS → MS
  | 0, _, m => m
  | k + 1, i, m => tryL k (i + 1) (tryS m i)
def tryM (m : MS) : MS := tryL (mQ m) 1 m
/-- an attempt leaves the requests alone, keeps the bounds, and spends a waiting request for a handle -/
theorem att_inv {m : MS} (hB : WB m) {c : Nat} (hD : mH m < 512 ∧ mN m ≤ mH m + c ∧ c ≤ 580) {r : Nat} (r1 : 1 ≤ r) (r2 : r ≤ mQ m) : WB (attM m r).2 ∧ mQ (attM m r).2 = mQ m ∧ mq (attM m r).2 = mq m ∧ mN (attM m r).2 ≤ mH (attM m r).2 + c ∧ (((attM m r).1 = 0 ∨ (attM m r).1 < 0) ∧ mH (attM m r).2 = mH m ∨ (attM m r).1 = nI (mH m + 1) ∧ mH (attM m r).2 = mH m + 1) := by
  obtain ⟨d1, d2, d3⟩ := hD
  have b1 := hB.1
  rcases att_cases m hB r1 r2 with ⟨v, e, hv⟩ | ⟨n, hn, -, e⟩ | ⟨n, hn, ht, -, -, -, e⟩ | ⟨hg, -, -, -, -, -, e⟩
  · rw [e]; exact ⟨hB, rfl, rfl, d2, Or.inl ⟨Or.inr hv, rfl⟩⟩
  · rw [e]; exact ⟨hB.brk n, rfl, rfl, d2, Or.inl ⟨Or.inl rfl, rfl⟩⟩
  · rw [e]; exact ⟨hB.gr hn ht d1, rfl, rfl, by show mN m ≤ mH m + 1 + c; omega, Or.inr ⟨rfl, rfl⟩⟩
  · rw [e]
    refine ⟨(hB.made (by omega) (by omega)).gr (by omega) ?_ d1, rfl, rfl, by show mN m + 1 ≤ mH m + 1 + c; omega, Or.inr ⟨rfl, rfl⟩⟩
    rw [mT_note, tT_app1, if_pos rfl]
theorem WB.setq {m : MS} (hB : WB m) {f : Nat → QR} (h : ∀ r, 1 ≤ r → r ≤ mQ m → qD (f r) = qD (mq m r) ∧ qM (f r) = qM (mq m r)) : WB (setQ m f) := by
  obtain ⟨b1, b2, b3, b4, b5, b6, b7, b8, b9, b10, b11⟩ := hB
  refine ⟨b1, b2, b3, b4, b5, b6, b7, fun r h1 h2 => ?_, b9, fun r h1 h2 => ?_, b11⟩
  · show qD (f r) ≤ 24
    rw [(h r h1 h2).1]; exact b8 r h1 h2
  · show ∃ md, md < 1024 ∧ qM (f r) = nI md
    rw [(h r h1 h2).2]; exact b10 r h1 h2
theorem wait_lt {c : Nat} {m : MS} (hB : WB m) (hD : BD c m) {r : Nat} (r1 : 1 ≤ r) (r2 : r ≤ mQ m) (hq : qO (mq m r) = 0) : mH m < 512 := by
  have := cnt_mem (p := fun r => qO (mq m r) == 0) (r := r) (by simp [hq]) (mQ m) 1 r1 (by omega)
  have h1 := hD.1
  have h2 := hB.2.1
  unfold wtN at h1
  omega
theorem try_inv {c : Nat} {m : MS} (hB : WB m) (hD : BD c m) {r : Nat} (r1 : 1 ≤ r) (r2 : r ≤ mQ m) : WB (tryS m r) ∧ BD c (tryS m r) ∧ mQ (tryS m r) = mQ m := by
  unfold tryS
  split
  · rename_i hq
    have h5 := wait_lt hB hD r1 r2 hq
    obtain ⟨i1, i2, i3, i4, i5⟩ := att_inv hB ⟨h5, hD.2.1, hD.2.2⟩ r1 r2
    refine ⟨i1.setq (fun x h1 h2 => ?_), ⟨?_, i4, hD.2.2⟩, i2⟩
    · rw [i3]
      by_cases h : x = r
      · subst h; rw [uf_s]; exact ⟨rfl, rfl⟩
      · rw [uf_n _ _ h]; exact ⟨rfl, rfl⟩
    · show mH (attM m r).2 + (List.range' 1 (mQ (attM m r).2)).countP (fun x => qO (uf (mq m) r (qsO (mq m r) (attM m r).1) x) == 0) ≤ mQ (attM m r).2
      rw [i2]
      have h1 := hD.1
      unfold wtN at h1
      have c0 : (attM m r).1 = 0 → (List.range' 1 (mQ m)).countP (fun x => qO (uf (mq m) r (qsO (mq m r) (attM m r).1) x) == 0) = (List.range' 1 (mQ m)).countP (fun x => qO (mq m x) == 0) := fun h => by
        refine List.countP_congr (fun x _ => ?_)
        by_cases e : x = r
        · subst e; rw [uf_s, h]; simp [qsO, qO, hq]; exact hq
        · rw [uf_n _ _ e]
      have c1 : (attM m r).1 ≠ 0 → (List.range' 1 (mQ m)).countP (fun x => qO (mq m x) == 0) = (List.range' 1 (mQ m)).countP (fun x => qO (uf (mq m) r (qsO (mq m r) (attM m r).1) x) == 0) + 1 := fun h =>
        cnt_upd (r := r) (by simp [hq]) (by rw [uf_s]; simp [qsO, qO, h]) (fun x hx => by rw [uf_n _ _ hx]) _ _ r1 (by omega)
      rcases i5 with ⟨h | h, e⟩ | ⟨h, e⟩
      · rw [c0 h, e]; exact h1
      · have := c1 (fun z => by rw [z] at h; exact absurd h (by decide))
        omega
      · have := c1 (by rw [h]; exact nI_ne0 (by omega) (by omega))
        omega
  · exact ⟨hB, hD, rfl⟩
theorem tryL_inv {c : Nat} : ∀ (k i : Nat) (m : MS), WB m → BD c m → 1 ≤ i → i + k = mQ m + 1 → WB (tryL k i m) ∧ BD c (tryL k i m) ∧ mQ (tryL k i m) = mQ m := by
  intro k
  induction k with
  | zero => intro i m hB hD _ _; exact ⟨hB, hD, rfl⟩
  | succ k ih =>
    intro i m hB hD h1 h2
    obtain ⟨a, b, e⟩ := try_inv hB hD h1 (by omega : i ≤ mQ m)
    obtain ⟨a', b', e'⟩ := ih (i + 1) (tryS m i) a b (by omega) (by omega)
    exact ⟨a', b', e'.trans e⟩
theorem try_all {c : Nat} {m : MS} (hB : WB m) (hD : BD c m) : WB (tryM m) ∧ BD c (tryM m) ∧ mQ (tryM m) = mQ m := tryL_inv (mQ m) 1 m hB hD (by omega) (by omega)
