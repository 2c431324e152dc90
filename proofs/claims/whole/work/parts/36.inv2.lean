/-! THE MODEL'S INVARIANTS: the tree -/
theorem tF_app1 (n : Nat) (a b e : Int32) (t : Tb) (x : Nat) : tF (app (1, n, a, b, e) t) x = if x = n then (e == 1) else tF t x := rfl
theorem tD_app1 (n : Nat) (a b e : Int32) (t : Tb) (x : Nat) : tD (app (1, n, a, b, e) t) x = if x = n then a else tD t x := rfl
theorem tN_app1 (n : Nat) (a b e : Int32) (t : Tb) (x : Nat) : tN (app (1, n, a, b, e) t) x = if x = n then b else tN t x := rfl
theorem tC_app1 (n : Nat) (a b e : Int32) (t : Tb) (x i : Nat) : tC (app (1, n, a, b, e) t) x i = if x = n then 0 else tC t x i := by
  show (if x = n then (fun _ => 0) else t.2.2.2.2.2 x) i = _
  split <;> rfl
theorem tD_app3 (n : Nat) (a b e : Int32) (t : Tb) (x : Nat) : tD (app (3, n, a, b, e) t) x = if x = n then a else tD t x := rfl
theorem tN_app3 (n : Nat) (a b e : Int32) (t : Tb) (x : Nat) : tN (app (3, n, a, b, e) t) x = if x = n then b else tN t x := rfl
theorem tC_app4 (n : Nat) (a b e : Int32) (t : Tb) (x i : Nat) : tC (app (4, n, a, b, e) t) x i = if x = n ∧ i = a.toNatClampNeg then b else tC t x i := by
  show (if x = n then (fun j => if j = a.toNatClampNeg then b else t.2.2.2.2.2 n j) else t.2.2.2.2.2 x) i = _
  by_cases h : x = n
  · subst h
    rw [if_pos rfl]
    show (if i = a.toNatClampNeg then b else t.2.2.2.2.2 x i) = _
    simp only [true_and]
    rfl
  · rw [if_neg h, if_neg (fun z => h z.1)]
    rfl
section TREE
variable {t : Tb}
theorem TI.made (h : TI t) {d : Nat} {b : Int32} (hd : d ≤ 24) (h1 : tT t d = true) (h2 : tF t d = true) (hg : tG t < 24) (f : Bool) : TI (app (1, tG t + 1, nI d, b, bI f) t) := by
  obtain ⟨⟨r1, r2, r3, r4, r5⟩, g24, htg, hp, rk, hrk⟩ := h
  have hno : ∀ n, n ≤ 24 → tT t n = true → n ≠ tG t + 1 := fun n hn ht => by have := htg n hn ht; omega
  have hd' := hno d hd h1
  refine ⟨⟨?_, ?_, ?_, ?_, fun i hi => ?_⟩, hg, fun n hn ht => ?_, fun n n1 n2 ht => ?_, uf rk (tG t + 1) (rk d + 1), fun n p n1 n2 p1 ht he => ?_⟩
  · rw [tT_app1, if_neg (by omega)]; exact r1
  · rw [tF_app1, if_neg (by omega)]; exact r2
  · rw [tD_app1, if_neg (by omega)]; exact r3
  · rw [tN_app1, if_neg (by omega)]; exact r4
  · rw [tC_app1, if_neg (by omega)]; exact r5 i hi
  · rw [tT_app1] at ht
    show n ≤ tG t + 1
    by_cases e : n = tG t + 1
    · omega
    · rw [if_neg e] at ht
      have := htg n hn ht
      omega
  · rw [tT_app1] at ht
    by_cases e : n = tG t + 1
    · refine ⟨d, hd, by rw [tD_app1, if_pos e], by rw [tT_app1, if_neg hd']; exact h1, by rw [tF_app1, if_neg hd']; exact h2⟩
    · rw [if_neg e] at ht
      obtain ⟨p, p1, p2, p3, p4⟩ := hp n n1 n2 ht
      have := hno p p1 p3
      exact ⟨p, p1, by rw [tD_app1, if_neg e]; exact p2, by rw [tT_app1, if_neg this]; exact p3, by rw [tF_app1, if_neg this]; exact p4⟩
  · rw [tT_app1] at ht
    rw [tD_app1] at he
    by_cases e : n = tG t + 1
    · rw [if_pos e] at he
      have := (eq_nI (by omega) (by omega)).mp he
      rw [e, uf_s, ← this, uf_n _ _ hd']
      omega
    · rw [if_neg e] at ht he
      obtain ⟨q, q1, q2, q3, q4⟩ := hp n n1 n2 ht
      rw [he] at q2
      have e2 := (eq_nI (by omega) (by omega)).mp q2
      subst e2
      rw [uf_n _ _ e, uf_n _ _ (hno _ p1 q3)]
      exact hrk n _ n1 n2 p1 ht he
theorem TI.removed (h : TI t) {n : Nat} (hn : 1 ≤ n) (hc : ∀ x, 1 ≤ x → x ≤ 24 → tT t x = true → tD t x ≠ nI n) : TI (app (2, n, 0, 0, 0) t) := by
  obtain ⟨⟨r1, r2, r3, r4, r5⟩, g24, htg, hp, rk, hrk⟩ := h
  have hT : ∀ x, tT (app (2, n, 0, 0, 0) t) x = true → tT t x = true := fun x hx => by
    rw [tT_app2] at hx
    split at hx
    · exact absurd hx (by decide)
    · exact hx
  refine ⟨⟨?_, r2, r3, r4, r5⟩, g24, fun x hx ht => htg x hx (hT x ht), fun x x1 x2 ht => ?_, rk, fun x p x1 x2 p1 ht he => hrk x p x1 x2 p1 (hT x ht) he⟩
  · rw [tT_app2, if_neg (by omega)]; exact r1
  · have ht' := hT x ht
    obtain ⟨p, p1, p2, p3, p4⟩ := hp x x1 x2 ht'
    refine ⟨p, p1, p2, ?_, p4⟩
    rw [tT_app2, if_neg (fun e => hc x x1 x2 ht' (by rw [p2, e]))]
    exact p3
theorem TI.written (h : TI t) {n : Nat} {a b : Int32} (hn : 1 ≤ n) : TI (app (4, n, a, b, 0) t) := by
  obtain ⟨⟨r1, r2, r3, r4, r5⟩, g24, htg, hp, hrk⟩ := h
  exact ⟨⟨r1, r2, r3, r4, fun i hi => by rw [tC_app4, if_neg (by omega)]; exact r5 i hi⟩, g24, htg, hp, hrk⟩
/-! ways up end -/
theorem EI.up {k : Nat} : ∀ {x : Int32}, EI t k x → EI t (k + 1) x := by
  induction k with
  | zero => intro x h; exact Or.inl h
  | succ k ih =>
    intro x h
    rcases h with h | ⟨y, a, b, c, e⟩
    · exact Or.inl h
    · exact Or.inr ⟨y, a, b, c, ih e⟩
theorem EI.le {k j : Nat} {x : Int32} (h : EI t k x) (hk : k ≤ j) : EI t j x := by
  obtain ⟨i, rfl⟩ : ∃ i, j = k + i := ⟨j - k, by omega⟩
  clear hk
  induction i with
  | zero => exact h
  | succ i ih => exact ih.up
theorem cnt_lt {p q : Nat → Bool} {L : List Nat} (h : ∀ x ∈ L, p x = true → q x = true) {a : Nat} (ha : a ∈ L) (h1 : p a = false) (h2 : q a = true) : L.countP p < L.countP q := by
  induction L with
  | nil => exact absurd ha List.not_mem_nil
  | cons b L ih =>
    have hle : L.countP p ≤ L.countP q := List.countP_mono_left (fun x hx => h x (List.mem_cons_of_mem _ hx))
    rcases List.mem_cons.mp ha with e | e
    · subst e
      rw [List.countP_cons_of_neg (by rw [h1]; decide), List.countP_cons_of_pos h2]
      omega
    · have := ih (fun x hx => h x (List.mem_cons_of_mem _ hx)) e
      by_cases pb : p b = true
      · rw [List.countP_cons_of_pos pb, List.countP_cons_of_pos (h b List.mem_cons_self pb)]
        omega
      · rw [List.countP_cons_of_neg pb]
        by_cases qb : q b = true
        · rw [List.countP_cons_of_pos qb]; omega
        · rw [List.countP_cons_of_neg qb]; omega
theorem TI.ei (h : TI t) {x : Nat} (hx : x ≤ 24) (ht : tT t x = true) : EI t 25 (nI x) := by
  obtain ⟨⟨r1, r2, r3, r4, r5⟩, g24, htg, hp, rk, hrk⟩ := h
  let c : Nat → Nat := fun x => (List.range 25).countP (fun y => decide (rk y ≤ rk x))
  have main : ∀ k x, x ≤ 24 → tT t x = true → c x ≤ k → EI t k (nI x) := by
    intro k
    induction k with
    | zero =>
      intro x hx _ hc
      have : 0 < c x := List.countP_pos_iff.mpr ⟨x, List.mem_range.mpr (by omega), by simp⟩
      omega
    | succ k ih =>
      intro x hx ht hc
      refine Or.inr ⟨x, hx, rfl, ht, ?_⟩
      by_cases h0 : x = 0
      · subst h0
        rw [r3]
        have : EI t 0 (-3) := by show (-3 : Int32) < 0; decide
        exact this.le (Nat.zero_le k)
      · obtain ⟨p, p1, p2, p3, p4⟩ := hp x (by omega) hx ht
        rw [p2]
        have hlt := hrk x p (by omega) hx p1 ht p2
        refine ih p p1 p3 ?_
        have : c p < c x := cnt_lt (a := x) (fun y _ hy => by
          have := of_decide_eq_true hy
          exact decide_eq_true (by omega)) (List.mem_range.mpr (by omega)) (decide_eq_false (by omega)) (by simp)
        omega
  exact main 25 x hx ht (cnt_le (p := fun y => decide (rk y ≤ rk x)) (n := 25))
theorem inA_up {n k : Nat} : ∀ {x : Int32}, EI t k x → inA t n (k + 1) x = inA t n k x := by
  induction k with
  | zero =>
    intro x h
    have h : x < 0 := h
    show (if x < 0 then false else _) = false
    rw [if_pos h]
  | succ k ih =>
    intro x h
    show (if x < 0 then false else _) = (if x < 0 then false else _)
    rcases h with h | ⟨y, a, rfl, c, e⟩
    · rw [if_pos h, if_pos h]
    · rw [if_neg (nI_pos (by omega)), if_neg (nI_pos (by omega)), nI_clamp (by omega), ih e]
theorem TI.moved (h : TI t) {n y : Nat} {b : Int32} (hn : 1 ≤ n) (hn2 : n ≤ 24) (hnt : tT t n = true) (hy : y ≤ 24) (hyt : tT t y = true) (hyf : tF t y = true) (hin : inA t n 25 (nI y) = false) : TI (app (3, n, nI y, b, 0) t) := by
  have hE := fun x hx ht => TI.ei h (x := x) hx ht
  obtain ⟨⟨r1, r2, r3, r4, r5⟩, g24, htg, hp, rk, hrk⟩ := h
  have hs : ∀ x, x ≤ 24 → tT t x = true → inA t n 25 (nI x) = (nI x == nI n || inA t n 25 (tD t x)) := fun x hx ht => by
    have e := hE x hx ht
    rcases e with e | ⟨z, z1, z2, z3, z4⟩
    · exact absurd e (nI_pos (by omega))
    · have := (eq_nI (by omega) (by omega)).mp z2
      subst this
      rw [inA_up z4]
      show (if nI x < 0 then false else _) = _
      rw [if_neg (nI_pos (by omega)), nI_clamp (by omega)]
  have hself : inA t n 25 (nI n) = true := by rw [hs n hn2 hnt, show (nI n == nI n) = true from beq_self_eq_true _, Bool.true_or]
  refine ⟨⟨r1, r2, ?_, ?_, r5⟩, g24, htg, fun x x1 x2 ht => ?_, (fun x => if inA t n 25 (nI x) = true then rk x + (rk y + 1) else rk x), fun x p x1 x2 p1 ht he => ?_⟩
  · rw [tD_app3, if_neg (by omega)]; exact r3
  · rw [tN_app3, if_neg (by omega)]; exact r4
  · by_cases e : x = n
    · exact ⟨y, hy, by rw [tD_app3, if_pos e], hyt, hyf⟩
    · obtain ⟨p, p1, p2, p3, p4⟩ := hp x x1 x2 ht
      exact ⟨p, p1, by rw [tD_app3, if_neg e]; exact p2, p3, p4⟩
  · rw [tD_app3] at he
    have ht : tT t x = true := ht
    by_cases e : x = n
    · rw [if_pos e] at he
      have := (eq_nI (by omega) (by omega)).mp he
      subst this
      subst e
      show (if _ then _ else _) < (if _ then _ else _)
      rw [hin, hself, if_neg (by decide), if_pos rfl]
      omega
    · rw [if_neg e] at he
      have hr := hrk x p x1 x2 p1 ht he
      have h1 := hs x x2 ht
      rw [he, show (nI x == nI n) = false from beq_eq_false_iff_ne.mpr (fun z => e ((eq_nI (by omega) (by omega)).mp z)), Bool.false_or] at h1
      show (if inA t n 25 (nI p) = true then rk p + (rk y + 1) else rk p) < (if inA t n 25 (nI x) = true then rk x + (rk y + 1) else rk x)
      rw [h1]
      by_cases q : inA t n 25 (nI p) = true
      · rw [if_pos q, if_pos q]; omega
      · rw [if_neg q, if_neg q]; exact hr
end TREE
/-- the invariants after a change is noted -/
theorem MI.note {m : MS} (h : MI m) {c : Ch} (ht : TI (app c (mT m))) (ho : okC c (mT m)) (hf : ∀ k ∈ mK m, tF (app c (mT m)) (hN (mh m k.1)) = false) (hm : ∀ n, n ≤ 24 → tG (app c (mT m)) < n → mM m n = false) : MI (noteM m c) := by
  obtain ⟨i1, i2, i3, i4, i5, i6, i7, i8⟩ := h
  have er : ∀ k, k ≤ mN m → rep (uf (mG m) (mN m) c) k = rep (mG m) k := fun k hk => rep_congr (fun j hj => uf_n _ _ (by omega))
  refine ⟨i1, i2, fun k hk => ⟨(i3 k hk).1, ?_, (i3 k hk).2.2⟩, i4, i5, fun n hn hg => ?_, fun k hk => ?_, fun k hk => ?_⟩
  · rw [mT_note]; exact hf k hk
  · rw [mT_note] at hg; exact hm n hn hg
  · have hk : k ≤ mN m + 1 := hk
    by_cases e : k = mN m + 1
    · subst e
      show TI (mT (noteM m c))
      rw [mT_note]
      exact ht
    · show TI (rep (uf (mG m) (mN m) c) k)
      rw [er k (by omega)]
      exact i7 k (by omega)
  · have hk : k < mN m + 1 := hk
    show okC (uf (mG m) (mN m) c k) (rep (uf (mG m) (mN m) c) k)
    rw [er k (by omega)]
    by_cases e : k = mN m
    · subst e
      rw [uf_s]
      exact ho
    · rw [uf_n _ _ e]
      exact i8 k (by omega)
theorem MI.made {m : MS} (h : MI m) (hB : WB m) {d : Nat} {b : Int32} (hd : d ≤ 24) (h1 : tT (mT m) d = true) (h2 : tF (mT m) d = true) (hg : tG (mT m) < 24) (f : Bool) : MI (noteM m (1, tG (mT m) + 1, nI d, b, bI f)) := by
  refine h.note (h.ti.made hd h1 h2 hg f) ⟨hg, Or.inl ⟨rfl, bI_01 f⟩⟩ (fun k hk => ?_) (fun n hn hg => h.2.2.2.2.2.1 n hn (by have hg : tG (mT m) + 1 < n := hg; omega))
  obtain ⟨a1, a2, -⟩ := hB.2.2.2.2.2.2.1 k hk
  obtain ⟨b1, b2, -⟩ := h.2.2.1 k hk
  have := h.ti.2.2.1 _ (hB.n24 a1 a2) (hB.op a1 a2 b1)
  rw [tF_app1, if_neg (by omega)]
  exact b2
