/-! THE MODEL'S INVARIANTS over each call -/
/-- all that holds of the model after c calls -/
def IV (c : Nat) (m : MS) : Prop := WB m ∧ BD c m ∧ MI m ∧ mQ m ≤ c
section IVS
variable {m : MS} {c : Nat}
theorem BD.up (h : BD c m) (hc : c + 1 ≤ 580) : BD (c + 1) m := ⟨h.1, by have := h.2.1; omega, hc⟩
theorem IV.up (h : IV c m) (hc : c < 512) : IV (c + 1) m := ⟨h.1, h.2.1.up (by omega), h.2.2.1, Nat.le_succ_of_le h.2.2.2⟩
theorem IV.n11 (h : IV c m) (hc : c < 512) : mN m + 1 ≤ 1100 := by
  have := h.2.1.2.1
  have := h.1.1
  omega
theorem wb_note (hB : WB m) {ch : Ch} (h11 : mN m + 1 ≤ 1100) (hg : tG (app ch (mT m)) ≤ 24) (ht : ∀ k, tT (mT m) k = true → tT (app ch (mT m)) k = true) : WB (noteM m ch) := by
  obtain ⟨b1, b2, b3, b4, b5, b6, b7, b8, b9, b10, b11, b12⟩ := hB
  refine ⟨b1, b2, h11, b4, ?_, b6, b7, b8, ?_, b10, ?_, ?_⟩
  · rw [mT_note]; exact hg
  · intro x h1 h2 h3
    rw [mT_note]
    exact ht _ (b9 x h1 h2 h3)
  · show (if mN m + 1 - mU m = 6 then mN m + 1 else mU m) ≤ mN m + 1
    split <;> omega
  · show mN m + 1 ≤ (if mN m + 1 - mU m = 6 then mN m + 1 else mU m) + 5
    split <;> omega
theorem iv_opn (h : IV c m) (hc : c < 512) {cl di na md ws : Int32} (ok : opnOk cl di na md ws) : IV (c + 1) (opnS m cl di na md ws) := by
  obtain ⟨hB, hD, hI, hQ⟩ := h
  obtain ⟨-, o2, -, o4, -, -, -⟩ := id ok
  obtain ⟨dn, hdn, rfl⟩ := rng0 (by decide) o2
  obtain ⟨mdn, hmdn, emd⟩ := rng0 (by decide) o4
  have eS : opnS m cl (nI dn) na md ws = tryS (addQ m (cl, dn, na, md, ws, 0)) (mQ m + 1) := by unfold opnS; rw [nI_clamp (by omega)]
  have hB1 : WB (addQ m (cl, dn, na, md, ws, 0)) := hB.addq (by omega) hdn ⟨mdn, by omega, emd⟩
  have hD1 : BD c (addQ m (cl, dn, na, md, ws, 0)) := hD.addq rfl
  have hI1 : MI (addQ m (cl, dn, na, md, ws, 0)) := hI
  obtain ⟨a1, a2, a3⟩ := try_inv hB1 hD1 (r := mQ m + 1) (by omega) (Nat.le_refl (mQ m + 1))
  rw [eS]
  refine ⟨a1, a2.up (by omega), try_mi hB1 hD1 hI1 (r := mQ m + 1) (by omega) (Nat.le_refl (mQ m + 1)), ?_⟩
  rw [a3]
  show mQ m + 1 ≤ c + 1
  omega
theorem iv_can (h : IV c m) (hc : c < 512) (v : Int32) : IV (c + 1) (canM m v).2 := by
  unfold canM
  split
  · exact h.up hc
  · obtain ⟨hB, hD, hI, hQ⟩ := h
    refine ⟨hB.setq (fun r _ _ => ?_), ⟨?_, by have := hD.2.1; show mN m ≤ mH m + (c + 1); omega, by omega⟩, hI, Nat.le_succ_of_le hQ⟩
    · by_cases e : r = rqOf m v
      · subst e; rw [uf_s]; exact ⟨rfl, rfl⟩
      · rw [uf_n _ _ e]; exact ⟨rfl, rfl⟩
    · have h1 := hD.1
      have : wtN (setQ m (uf (mq m) (rqOf m v) (qsO (mq m (rqOf m v)) (-9)))) ≤ wtN m := List.countP_mono_left (fun r _ hr => by
        have hr : (qO (uf (mq m) (rqOf m v) (qsO (mq m (rqOf m v)) (-9)) r) == 0) = true := hr
        by_cases e : r = rqOf m v
        · subst e; rw [uf_s] at hr; exact absurd hr (by show ¬ ((-9 : Int32) == 0) = true; decide)
        · rw [uf_n _ _ e] at hr; exact hr)
      show mH m + wtN (setQ m (uf (mq m) (rqOf m v) (qsO (mq m (rqOf m v)) (-9)))) ≤ mQ m
      omega
theorem iv_try (hB : WB m) (hD : BD c m) (hI : MI m) (hQ : mQ m ≤ c) : IV c (tryM m) := by
  obtain ⟨a, b, e⟩ := try_all hB hD
  exact ⟨a, b, tryM_mi hB hD hI, by rw [e]; exact hQ⟩
theorem iv_giv (h : IV c m) (hc : c < 512) (v : Int32) : IV (c + 1) (givM m v).2 := by
  unfold givM
  split
  · exact h.up hc
  · rename_i q0
    obtain ⟨hB, hD, hI, hQ⟩ := h
    split
    · exact IV.up ⟨hB.gset _ _, hD, gset_mi hI hB _ _ (fun z => absurd z (by decide)), hQ⟩ hc
    · split
      · exact IV.up (iv_try (hB.gset _ _) hD (gset_mi hI hB _ _ (fun z => absurd z (by decide))) hQ) hc
      · exact IV.up ⟨hB.gset _ _, hD, gset_mi hI hB _ _ (fun z => absurd z (by decide)), hQ⟩ hc
theorem iv_cl (h : IV c m) (hc : c < 512) (v : Int32) : IV (c + 1) (clM m v).2 := by
  have h11 := h.n11 hc
  unfold clM
  split
  · exact h.up hc
  · rename_i hx
    obtain ⟨hB, hD, hI, hQ⟩ := h
    obtain ⟨-, a2, a3, a4⟩ := hOf_nz hB hx
    have hBA := wb_clA (x := hOf m v) hB h11
    have hDA := hD.kA (by omega) (hOf m v)
    have hIA := mi_clA hI hB a2 a3 a4
    have hQA : mQ (clA m (hOf m v)) ≤ c + 1 := by
      have : mQ (clA m (hOf m v)) = mQ m := by unfold clA clR; split <;> (try split) <;> (unfold clD; split <;> rfl)
      rw [this]; omega
    show IV (c + 1) (clT (clA m (hOf m v)) (hOf m v))
    unfold clT
    split
    · exact iv_try hBA hDA hIA hQA
    · exact ⟨hBA, hDA, hIA, hQA⟩
theorem iv_dom (h : IV c m) (hc : c < 512) (v : Int32) (on : Bool) : IV (c + 1) (domM m v on).2 := by
  have hI := mi_dom h.1 h.2.2.1 v on
  obtain ⟨hB, hD, -, hQ⟩ := h.up hc
  unfold domM at hI ⊢
  split at hI
  · rename_i q; rw [if_pos q]; exact ⟨hB, hD, hI, hQ⟩
  · rename_i q; rw [if_neg q]
    split at hI
    · rename_i q; rw [if_pos q]; exact ⟨hB, hD, hI, hQ⟩
    · rename_i q; rw [if_neg q]; exact ⟨hB, hD, hI, hQ⟩
theorem iv_red (h : IV c m) (hc : c < 512) (v cl : Int32) : IV (c + 1) (redM m v cl).2 := by
  have h := h.up hc
  unfold redM
  split
  · exact h
  · split
    · exact h
    · exact h
theorem iv_syn (h : IV c m) (hc : c < 512) : IV (c + 1) (synM m) := by
  obtain ⟨hB, hD, hI, hQ⟩ := h.up hc
  obtain ⟨b1, b2, b3, b4, b5, b6, b7, b8, b9, b10, b11, b12⟩ := hB
  exact ⟨⟨b1, b2, b3, b4, b5, b6, b7, b8, b9, b10, Nat.le_refl _, Nat.le_add_right _ _⟩, hD, hI, hQ⟩
theorem iv_mov (h : IV c m) (hc : c < 512) (v a b : Int32) : IV (c + 1) (movM m v a b).2 := by
  have h11 := h.n11 hc
  have hI := mi_mov h.1 h.2.2.1 v a b
  obtain ⟨hB, hD, hI0, hQ⟩ := h
  have bad : IV (c + 1) m := IV.up ⟨hB, hD, hI0, hQ⟩ hc
  unfold movM at hI ⊢
  split
  · exact bad
  · rename_i q1
    rw [if_neg q1] at hI
    split
    · exact bad
    · rename_i q2
      rw [if_neg q2] at hI
      split
      · exact bad
      · rename_i q3
        rw [if_neg q3] at hI
        split
        · exact bad
        · rename_i q4
          rw [if_neg q4] at hI
          split
          · exact bad
          · rename_i q5
            rw [if_neg q5] at hI
            split
            · exact bad
            · rename_i q6
              rw [if_neg q6] at hI
              exact ⟨wb_note hB h11 hB.g24 (fun _ z => z), ⟨hD.1, by have := hD.2.1; show mN m + 1 ≤ mH m + (c + 1); omega, by omega⟩, hI, Nat.le_succ_of_le hQ⟩
theorem iv_wrt (h : IV c m) (hc : c < 512) (v cl a : Int32) : IV (c + 1) (wrtM m v cl a).2 := by
  have h11 := h.n11 hc
  have hI := mi_wrt h.1 h.2.2.1 v cl a
  obtain ⟨hB, hD, hI0, hQ⟩ := h
  have bad : IV (c + 1) m := IV.up ⟨hB, hD, hI0, hQ⟩ hc
  unfold wrtM at hI ⊢
  split
  · exact bad
  · rename_i q1
    rw [if_neg q1] at hI
    split
    · exact bad
    · rename_i q2
      rw [if_neg q2] at hI
      have hW : WB (noteM (wrH m (hOf m v)) (4, hN (mh m (hOf m v)), cl, a, 0)) := wb_note (wb_wrH hB _) h11 hB.g24 (fun _ z => z)
      exact ⟨hW, ⟨hD.1, by have := hD.2.1; show mN m + 1 ≤ mH m + (c + 1); omega, by omega⟩, hI, Nat.le_succ_of_le hQ⟩
/-! the locks are few -/
theorem cnt_or {α : Type} {p q r : α → Bool} (h : ∀ x, p x = true → q x = true ∨ r x = true) : ∀ L : List α, L.countP p ≤ L.countP q + L.countP r := by
  intro L
  induction L with
  | nil => simp
  | cons a L ih =>
    rw [List.countP_cons, List.countP_cons, List.countP_cons]
    by_cases pa : p a = true
    · rcases h a pa with z | z
      · rw [if_pos pa, if_pos z]; split <;> omega
      · rw [if_pos pa, if_pos z]; split <;> omega
    · rw [if_neg pa]; split <;> split <;> omega
theorem lk_few (hB : WB m) (hI : MI m) : (mK m).length ≤ 192 := by
  have main : ∀ N, (mK m).countP (fun k => decide (1 ≤ hN (mh m k.1)) && decide (hN (mh m k.1) ≤ N)) ≤ 8 * N := by
    intro N
    induction N with
    | zero =>
      refine Nat.le_of_eq (List.countP_eq_zero.mpr (fun k _ z => ?_))
      simp only [Bool.and_eq_true, decide_eq_true_eq] at z
      omega
    | succ N ih =>
      have h := cnt_or (p := fun k : KR' => decide (1 ≤ hN (mh m k.1)) && decide (hN (mh m k.1) ≤ N + 1)) (q := fun k => decide (1 ≤ hN (mh m k.1)) && decide (hN (mh m k.1) ≤ N)) (r := fun k => hN (mh m k.1) == N + 1) (fun k z => by
        simp only [Bool.and_eq_true, decide_eq_true_eq, beq_iff_eq] at z ⊢
        omega) (mK m)
      have h2 := hI.2.1 (N + 1)
      unfold lksN at h2
      omega
  have e : (mK m).countP (fun k => decide (1 ≤ hN (mh m k.1)) && decide (hN (mh m k.1) ≤ 24)) = (mK m).length := List.countP_eq_length.mpr (fun k hk => by
    obtain ⟨a, b⟩ := hB.kb k hk
    have := hI.2.2.2.2.1 k.1 a b
    have := hB.n24 a b
    simp only [Bool.and_eq_true, decide_eq_true_eq]
    omega)
  rw [← e]
  exact main 24
theorem lk199 (hB : WB m) (hI : MI m) : ∀ n, lksN m n ≠ 8 → n ≤ 24 → (mK m).length ≤ 199 := fun _ _ _ => Nat.le_trans (lk_few hB hI) (by decide)
theorem iv_lck (h : IV c m) (hc : c < 512) (v f n : Int32) (al : Bool) : IV (c + 1) (lckM m v f n al).2 := by
  have hI := mi_lck h.1 h.2.2.1 v f n al
  have h := h.up hc
  have hl := lk_few h.1 h.2.2.1
  unfold lckM at hI ⊢
  split
  · exact h
  · rename_i q1
    rw [if_neg q1] at hI
    split
    · exact h
    · rename_i q2
      rw [if_neg q2] at hI
      split
      · exact h
      · rename_i q3
        rw [if_neg q3] at hI
        have q1 : badM m v f n = false := by
          cases z : badM m v f n with
          | false => rfl
          | true => exact absurd z q1
        obtain ⟨hm, i, k, hi, hk, hik, rfl, rfl⟩ := badM_f q1
        obtain ⟨b1, -, b3, -⟩ := mayM_t hm
        obtain ⟨-, a2, a3, a4⟩ := hOf_nz h.1 b1
        rw [nI_clamp (by omega), nI_clamp (by omega)] at hI ⊢
        exact ⟨h.1.addk (by omega) ⟨a2, a3, by show i ≤ 32; omega, hik⟩, h.2.1, hI, h.2.2.2⟩
theorem iv_ulk (h : IV c m) (hc : c < 512) (v f n : Int32) : IV (c + 1) (ulkM m v f n).2 := by
  have hI := mi_ulk h.2.2.1 v f n
  have h := h.up hc
  unfold ulkM at hI ⊢
  split
  · exact h
  · rename_i q1
    rw [if_neg q1] at hI
    split
    · exact h
    · rename_i i hq
      rw [hq] at hI
      exact ⟨h.1.setk (Nat.le_trans (List.eraseIdx_sublist _ _).length_le h.1.2.2.2.1) (fun k hk => (List.eraseIdx_sublist _ _).subset hk), h.2.1, hI, h.2.2.2⟩
theorem iv_cr (h : IV c m) (hc : c < 512) : IV (c + 1) (crM m) := by
  obtain ⟨hB, hD, hI, hQ⟩ := h.up hc
  have hun := hB.un
  have hTI := hI.2.2.2.2.2.2.1 (mU m) hun.1
  have hno : ∀ x, 1 ≤ x → x ≤ mH m → hO (mh (crM m) x) = true → False := fun x x1 x2 x3 => by
    have x3 : hO (if 1 ≤ x ∧ x ≤ mH m then hsO (mh m x) false else mh m x) = true := x3
    rw [if_pos ⟨x1, x2⟩] at x3
    exact Bool.noConfusion x3
  have hNn : ∀ x, 1 ≤ x → x ≤ mH m → hN (mh (crM m) x) = hN (mh m x) := fun x x1 x2 => by
    show hN (if 1 ≤ x ∧ x ≤ mH m then hsO (mh m x) false else mh m x) = _
    rw [if_pos ⟨x1, x2⟩]
    rfl
  have hqq : ∀ r, 1 ≤ r → r ≤ mQ m → mq (crM m) r = crQ m r := fun r r1 r2 => if_pos ⟨r1, r2⟩
  have hqc : ∀ r, qD (crQ m r) = qD (mq m r) ∧ qM (crQ m r) = qM (mq m r) ∧ qO (crQ m r) ≠ 0 := fun r => by
    unfold crQ
    split
    · exact ⟨rfl, rfl, by show (-9 : Int32) ≠ 0; decide⟩
    · rename_i z; exact ⟨rfl, rfl, z⟩
  refine ⟨⟨hB.1, hB.2.1, Nat.le_trans hun.1 hB.2.2.1, Nat.zero_le _, hTI.2.1, fun x x1 x2 => ?_, fun k hk => absurd hk List.not_mem_nil, fun r r1 r2 => ?_, fun x x1 x2 x3 => (hno x x1 x2 x3).elim, fun r r1 r2 => ?_, Nat.le_refl _, Nat.le_add_right _ _⟩, ⟨?_, ?_, hD.2.2⟩, ⟨?_, fun n => ?_, fun k hk => absurd hk List.not_mem_nil, fun x y x1 x2 _ _ ox => (hno x x1 x2 ox).elim, fun x x1 x2 => ?_, fun n _ _ => rfl, fun c' hc' => hI.2.2.2.2.2.2.1 c' (Nat.le_trans hc' hun.1), fun c' hc' => hI.2.2.2.2.2.2.2 c' (Nat.lt_of_lt_of_le hc' hun.1)⟩, hQ⟩
  · rw [hNn x x1 x2]; exact hB.n24 x1 x2
  · rw [hqq r r1 r2, (hqc r).1]; exact hB.d24 r1 r2
  · rw [hqq r r1 r2, (hqc r).2.1]; exact hB.md r1 r2
  · have : wtN (crM m) = 0 := List.countP_eq_zero.mpr (fun r hr z => by
      have hr : r ∈ List.range' 1 (mQ m) := hr
      have := List.mem_range'_1.mp hr
      rw [hqq r (by omega) (by omega), beq_iff_eq] at z
      exact (hqc r).2.2 z)
    rw [this]
    have := hD.1
    show mH m + 0 ≤ mQ m
    omega
  · have := hD.2.1
    show mU m ≤ mH m + (c + 1)
    omega
  · have e := opL_len (crM m)
    rw [op_cr] at e
    rw [← e]
    exact Nat.zero_le _
  · exact Nat.zero_le _
  · rw [hNn x x1 x2]; exact hI.2.2.2.2.1 x x1 x2
theorem iv_00 : IV 0 m00 := by
  refine ⟨⟨by decide, by decide, by decide, by decide, by decide, fun x x1 x2 => ?_, fun k hk => absurd hk List.not_mem_nil, fun r r1 r2 => ?_, fun x x1 x2 => ?_, fun r r1 r2 => ?_, Nat.le_refl _, Nat.le_add_right _ _⟩, ⟨by decide, by decide, by decide⟩, ⟨by decide, fun n => by show (0 : Nat) ≤ 8; decide, fun k hk => absurd hk List.not_mem_nil, fun x y x1 x2 => ?_, fun x x1 x2 => ?_, fun n _ _ => rfl, fun c' hc' => ?_, fun c' hc' => absurd hc' (Nat.not_lt_zero _)⟩, Nat.le_refl _⟩
  · exact absurd (Nat.le_trans x1 x2) (by decide)
  · exact absurd (Nat.le_trans r1 r2) (by decide)
  · exact absurd (Nat.le_trans x1 x2) (by decide)
  · exact absurd (Nat.le_trans r1 r2) (by decide)
  · exact absurd (Nat.le_trans x1 x2) (by decide)
  · exact absurd (Nat.le_trans x1 x2) (by decide)
  · have hc' : c' ≤ 0 := hc'
    have : c' = 0 := by omega
    subst this
    have only0 : ∀ n, tT tb0 n = true → n = 0 := fun n hn => by
      have : (n == 0) = true := hn
      simpa using this
    refine ⟨⟨rfl, rfl, rfl, rfl, fun _ _ => rfl⟩, by decide, fun n hn ht => ?_, fun n n1 n2 ht => ?_, fun _ => 0, fun n p n1 n2 p1 ht => ?_⟩
    · have := only0 n ht; rw [this]; exact Nat.zero_le _
    · have := only0 n ht; omega
    · have := only0 n ht; omega
end IVS
