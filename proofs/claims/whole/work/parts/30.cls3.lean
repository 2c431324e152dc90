/-! THE CLASS: what its cells are, held against the model -/
def SSt (w : WW) : Prop := wR w 0 1 0 = 1 ∧ wR w 0 1 2 = 1 ∧ wR w 0 1 5 = 1 ∧ wR w 0 1 7 = 1 ∧ wR w 6 1 0 = 1 ∧ wL w 100 1 = 25 ∧ wL w 101 1 = 12 ∧ wL w 102 1 = 512 ∧ wL w 105 1 = 6
/-- the store of nodes: each has its own arrays; what isn't made yet is empty -/
def NST (w : WW) : Prop := wC w 103 = wC w 1 ∧ wC w 104 = wC w 1 ∧ (∀ o, 1 ≤ o → o ≤ wC w 1 → wR w 1 o 5 = o ∧ wR w 1 o 6 = o ∧ (wI w 1 o 1 = 0 ∧ wL w 103 o = 32 ∧ wL w 104 o = 8 ∨ wI w 1 o 1 = 1 ∧ wL w 104 o = 0)) ∧ (∀ o j, wC w 1 < o → wI w 1 o j = 0 ∧ wI w 103 o j = 0)
/-- the class's table: which node stands at a number, how many were given, the nodes' fields, the nodes' cells -/
abbrev CT : Type := (Nat → Nat) × Int32 × (Nat → Nat → Int32) × (Nat → Nat → Int32)
def ctW (w : WW) : CT := ((fun n => wR w 100 1 n), wI w 0 1 1, (fun o j => wI w 1 o j), (fun o i => wI w 103 o i))
def CTR (B : Nat) (c : CT) (t : Tb) : Prop := c.2.1 = nI (tG t) ∧ ∀ n, n ≤ 24 → c.1 n ≤ B ∧ (c.1 n ≠ 0 ↔ tT t n = true) ∧
  (tT t n = true → c.2.2.1 (c.1 n) 0 = nI n ∧ c.2.2.1 (c.1 n) 1 = bI (tF t n) ∧ c.2.2.1 (c.1 n) 2 = tD t n ∧ c.2.2.1 (c.1 n) 3 = tN t n ∧ (tF t n = false → ∀ i, i < 32 → c.2.2.2 (c.1 n) i = tC t n i))
/-- what undoes a change -/
abbrev RC : Type := Int32 × Nat × Int32 × Int32
def rcW (w : WW) (i : Nat) : RC := (wI w 5 (wR w 105 1 i) 0, wR w 5 (wR w 105 1 i) 1, wI w 5 (wR w 105 1 i) 2, wI w 5 (wR w 105 1 i) 3)
def und (r : RC) (c : CT) : CT :=
  if r.1 = 0 then (uf c.1 (c.2.2.1 r.2.1 0).toNatClampNeg 0, c.2.1 - 1, c.2.2)
  else if r.1 = 1 then (uf c.1 (c.2.2.1 r.2.1 0).toNatClampNeg r.2.1, c.2)
  else if r.1 = 2 then (c.1, c.2.1, (fun o j => if o = r.2.1 ∧ j = 2 then r.2.2.1 else if o = r.2.1 ∧ j = 3 then r.2.2.2 else c.2.2.1 o j), c.2.2.2)
  else (c.1, c.2.1, c.2.2.1, (fun o i => if o = r.2.1 ∧ i = r.2.2.1.toNatClampNeg then r.2.2.2 else c.2.2.2 o i))
def rcOk (B : Nat) (r : RC) (c : CT) : Prop := 1 ≤ r.2.1 ∧ r.2.1 ≤ B ∧ (∃ n, n ≤ 24 ∧ c.2.2.1 r.2.1 0 = nI n) ∧ (r.1 = 0 ∨ r.1 = 1 ∨ r.1 = 2 ∨ (r.1 = 3 ∧ c.2.2.1 r.2.1 1 = 0 ∧ ∃ i, i < 32 ∧ r.2.2.1 = nI i))
/-- the class's table and its records: undone one by one they give the tables of the log -/
def UG (B : Nat) (rc : Nat → RC) (lg : Nat → Ch) (u : Nat) : Nat → CT → Prop
  | 0, c => CTR B c (rep lg u)
  | j + 1, c => CTR B c (rep lg (u + (j + 1))) ∧ rcOk B (rc j) c ∧ UG B rc lg u j (und (rc j) c)
theorem UG.top {B : Nat} {rc : Nat → RC} {lg : Nat → Ch} {u j : Nat} {c : CT} (h : UG B rc lg u j c) : CTR B c (rep lg (u + j)) := by
  cases j with
  | zero => exact h
  | succ j => exact h.1
def LGC (w : WW) (m : MS) : Prop := wI w 6 1 1 = nI (mN m - mU m) ∧ wI w 6 1 2 = nI (mU m) ∧ (∀ i, i < mN m - mU m → wR w 105 1 i ≠ 0 ∧ wR w 105 1 i ≤ wC w 5) ∧ UG (wC w 1) (rcW w) (mG m) (mU m) (mN m - mU m) (ctW w)
def DC (w : WW) (m : MS) : Prop := ∀ n, n ≤ 24 → tT (mT m) n = true → wI w 1 (wR w 100 1 n) 4 = bI (mM m n)
def lkL (m : MS) (n : Nat) : List KR' := (mK m).filter (fun k => hN (mh m k.1) == n)
def KC (w : WW) (m : MS) : Prop := ∀ n, n ≤ 24 → tT (mT m) n = true → wI w 1 (wR w 100 1 n) 7 = nI (lkL m n).length ∧ HO (LKR w) (fun t => wR w 104 (wR w 100 1 n) t) (lkL m n)
def opL (m : MS) : List Nat := (List.range' 1 (mH m)).filter (fun x => hO (mh m x))
def HDR (w : WW) (x : Nat) (h : HR) : Prop := wI w 2 x 0 = nI x ∧ wI w 2 x 2 = hC h ∧ wI w 2 x 3 = hA h ∧ wI w 2 x 4 = hS h ∧ wI w 2 x 5 = bI (hR h) ∧ wI w 2 x 6 = hG h
def HC (w : WW) (m : MS) : Prop := wI w 0 1 4 = nI (mH m) ∧ wC w 2 = mH m ∧ (∀ x, 1 ≤ x → x ≤ mH m → HDR w x (mh m x)) ∧ (∀ x, 1 ≤ x → x ≤ mH m → hO (mh m x) = true → wR w 2 x 1 = wR w 100 1 (hN (mh m x))) ∧ wI w 0 1 3 = nI (opL m).length ∧ HO Eq (fun t => wR w 101 1 t) (opL m)
def RQR (w : WW) (r : Nat) (q : QR) : Prop := wI w 3 r 0 = qC q ∧ wI w 3 r 1 = nI (qD q) ∧ wI w 3 r 2 = qN q ∧ wI w 3 r 3 = qM q ∧ wI w 3 r 4 = qW q ∧ wI w 3 r 5 = qO q
def QC (w : WW) (m : MS) : Prop := wI w 0 1 6 = nI (mQ m) ∧ wC w 3 = mQ m ∧ (∀ i, i < mQ m → wR w 102 1 i = i + 1) ∧ ∀ r, 1 ≤ r → r ≤ mQ m → RQR w r (mq m r)
def CR (w : WW) (m : MS) : Prop := SSt w ∧ NST w ∧ LGC w m ∧ DC w m ∧ KC w m ∧ HC w m ∧ QC w m ∧ wI w 0 1 8 = mS m
/-! the model's invariants that the class needs -/
def TI (t : Tb) : Prop := ROOT t ∧ tG t ≤ 24 ∧ (∀ n, n ≤ 24 → tT t n = true → n ≤ tG t) ∧ (∀ n, 1 ≤ n → n ≤ 24 → tT t n = true → ∃ p, p ≤ 24 ∧ tD t n = nI p ∧ tT t p = true ∧ tF t p = true) ∧
  ∃ rk : Nat → Nat, ∀ n p, 1 ≤ n → n ≤ 24 → p ≤ 24 → tT t n = true → tD t n = nI p → rk p < rk n
def MI (m : MS) : Prop := nOpen m ≤ 12 ∧ (∀ n, lksN m n ≤ 8) ∧ (∀ k ∈ mK m, hO (mh m k.1) = true ∧ tF (mT m) (hN (mh m k.1)) = false ∧ k.2.1 < k.2.2.1) ∧ (∀ x y, 1 ≤ x → x ≤ mH m → 1 ≤ y → y ≤ mH m → hO (mh m x) = true → hO (mh m y) = true → hN (mh m x) = hN (mh m y) → nI 2 ≤ hG (mh m x) → nI 2 ≤ hG (mh m y) → x = y) ∧
  (∀ x, 1 ≤ x → x ≤ mH m → 1 ≤ hN (mh m x)) ∧ (∀ n, n ≤ 24 → tG (mT m) < n → mM m n = false) ∧ (∀ c, c ≤ mN m → TI (rep (mG m) c)) ∧ ∀ c, c < mN m → okC (mG m c) (rep (mG m) c)
/-- what the class's calls leave alone: the reference's cells and the script -/
def FC0 (w w' : WW) : Prop := (∀ k o j, k = 7 ∨ 99 = k ∨ 110 ≤ k → wI w' k o j = wI w k o j ∧ wR w' k o j = wR w k o j) ∧ (∀ k, k = 7 ∨ 99 = k ∨ 110 ≤ k → wC w' k = wC w k) ∧ (∀ k o, k = 7 ∨ 99 = k ∨ 110 ≤ k → wL w' k o = wL w k o)
theorem FC0.rf {w : WW} : FC0 w w := ⟨fun _ _ _ _ => ⟨rfl, rfl⟩, fun _ _ => rfl, fun _ _ _ => rfl⟩
theorem FC0.tr {w w1 w2 : WW} (a : FC0 w w1) (b : FC0 w1 w2) : FC0 w w2 := ⟨fun k o j h => ⟨(b.1 k o j h).1.trans (a.1 k o j h).1, (b.1 k o j h).2.trans (a.1 k o j h).2⟩, fun k h => (b.2.1 k h).trans (a.2.1 k h), fun k o h => (b.2.2 k o h).trans (a.2.2 k o h)⟩
theorem FC0.sI {w : WW} {k o j : Nat} {x : Int32} (h : k ≠ 7 ∧ k ≠ 99 ∧ k < 110) : FC0 w (sI w k o j x) := ⟨fun k' o' j' h1 => ⟨by rw [wI_sI, if_neg (by omega)], rfl⟩, fun _ _ => rfl, fun _ _ _ => rfl⟩
theorem FC0.sR {w : WW} {k o j x : Nat} (h : k ≠ 7 ∧ k ≠ 99 ∧ k < 110) : FC0 w (sR w k o j x) := ⟨fun k' o' j' h1 => ⟨rfl, by rw [wR_sR, if_neg (by omega)]⟩, fun _ _ => rfl, fun _ _ _ => rfl⟩
theorem FC0.nO {w : WW} {k n : Nat} (h : k ≠ 7 ∧ k ≠ 99 ∧ k < 110) : FC0 w (nO w k n) := ⟨fun k' o' j' h1 => ⟨rfl, rfl⟩, fun k' h1 => by rw [wC_nO, if_neg (by omega)], fun _ _ _ => rfl⟩
theorem FC0.nA {w : WW} {k n : Nat} (h : k ≠ 7 ∧ k ≠ 99 ∧ k < 110) : FC0 w (nA w k n) := ⟨fun k' o' j' h1 => ⟨rfl, rfl⟩, fun k' h1 => by rw [wC_nA, if_neg (by omega)], fun k' o' h1 => by rw [wL_nA, if_neg (by omega)]⟩
theorem FC0.FK {w w' : WW} {o : Nat} (h : FK w w' o) : FC0 w w' := ⟨fun k o' j h1 => ⟨h.2.1 _ _ _ (by omega), h.2.2.1 _ _ _ (by omega)⟩, fun k _ => by unfold wC; rw [h.1], fun k o' _ => by unfold wL; rw [h.2.2.2]⟩
/-- what the calls make: nodes, locks and changes no more than handles, but for n -/
def GA (n : Nat) (w w' : WW) : Prop := wC w' 1 + wC w 2 ≤ wC w 1 + wC w' 2 ∧ wC w' 4 + wC w' 5 + wC w 2 ≤ wC w 4 + wC w 5 + wC w' 2 + n ∧ ∀ k, ¬ ((1 ≤ k ∧ k ≤ 5) ∨ k = 103 ∨ k = 104) → wC w' k = wC w k
def FC (n : Nat) (w w' : WW) : Prop := FC0 w w' ∧ GA n w w'
/-- what was made, just so -/
def GN (a b c : Nat) (w w' : WW) : Prop := wC w' 1 = wC w 1 + a ∧ wC w' 2 = wC w 2 + b ∧ wC w' 4 = wC w 4 ∧ wC w' 5 = wC w 5 + c ∧ ∀ k, ¬ ((1 ≤ k ∧ k ≤ 5) ∨ k = 103 ∨ k = 104) → wC w' k = wC w k
theorem GA.eq {w w' : WW} (h : w'.1 = w.1) : GA 0 w w' := by
  have e : ∀ k, wC w' k = wC w k := fun k => by unfold wC; rw [h]
  unfold GA
  rw [e, e, e, e]
  exact ⟨Nat.le_refl _, Nat.le_refl _, fun k _ => e k⟩
theorem FC.mk0 {w w' : WW} (h : FC0 w w') (e : w'.1 = w.1) : FC 0 w w' := ⟨h, GA.eq e⟩
theorem FC.rf {w : WW} : FC 0 w w := ⟨FC0.rf, GA.eq rfl⟩
theorem FC.up1 {w w' : WW} (h : FC 0 w w') : FC 1 w w' := ⟨h.1, h.2.1, Nat.le_succ_of_le h.2.2.1, h.2.2.2⟩
theorem FC.rf1 {w : WW} : FC 1 w w := FC.rf.up1
theorem FC.tr {a b : Nat} {w w1 w2 : WW} (x : FC a w w1) (y : FC b w1 w2) : FC (a + b) w w2 := by
  obtain ⟨x0, x1, x2, x3⟩ := x
  obtain ⟨y0, y1, y2, y3⟩ := y
  exact ⟨x0.tr y0, by omega, by omega, fun k h => (y3 k h).trans (x3 k h)⟩
theorem FC.FK {w w' : WW} {o : Nat} (h : FK w w' o) : FC 0 w w' := FC.mk0 (FC0.FK h) h.1
theorem FC.sI {w : WW} {k o j : Nat} {x : Int32} (h : k ≠ 7 ∧ k ≠ 99 ∧ k < 110) : FC 0 w (sI w k o j x) := FC.mk0 (FC0.sI h) rfl
theorem FC.sR {w : WW} {k o j x : Nat} (h : k ≠ 7 ∧ k ≠ 99 ∧ k < 110) : FC 0 w (sR w k o j x) := FC.mk0 (FC0.sR h) rfl
theorem FC.nO {w : WW} {k n : Nat} (h : k = 2 ∨ k = 3) : FC 0 w (nO w k n) := by
  refine ⟨FC0.nO (by omega), ?_, ?_, fun k' h' => ?_⟩
  · rw [wC_nO, wC_nO, if_neg (by omega)]
    by_cases e : 2 = k
    · rw [if_pos e, ← e]; omega
    · rw [if_neg e]; exact Nat.le_refl _
  · rw [wC_nO, wC_nO, wC_nO, if_neg (by omega), if_neg (by omega)]
    by_cases e : 2 = k
    · rw [if_pos e, ← e]; omega
    · rw [if_neg e]; exact Nat.le_refl _
  · rw [wC_nO, if_neg (by omega)]
theorem fc_new {w w1 w2 : WW} (a : FC0 w w1) (b : GN 1 0 1 w w1) (x : FC0 w1 w2) (y : GN 0 1 0 w1 w2) : FC 0 w w2 := by
  obtain ⟨b1, b2, b3, b4, b5⟩ := b
  obtain ⟨y1, y2, y3, y4, y5⟩ := y
  exact ⟨a.tr x, by omega, by omega, fun k h => (y5 k h).trans (b5 k h)⟩
/-! what follows at once -/
theorem CR.ct {w : WW} {m : MS} (h : CR w m) (hB : WB m) : CTR (wC w 1) (ctW w) (mT m) := by
  have := h.2.2.1.2.2.2.top
  have e : mU m + (mN m - mU m) = mN m := by have := hB.un.1; omega
  rw [e] at this
  exact this
theorem CTR.nz {B : Nat} {c : CT} {t : Tb} (h : CTR B c t) {n : Nat} (hn : n ≤ 24) (ht : tT t n = true) : c.1 n ≠ 0 := (h.2 n hn).2.1.mpr ht
theorem CTR.inj {B : Nat} {c : CT} {t : Tb} (h : CTR B c t) {n k : Nat} (hn : n ≤ 24) (hk : k ≤ 24) (ht : tT t n = true) (hs : tT t k = true) (e : c.1 n = c.1 k) : n = k := by
  have a := ((h.2 n hn).2.2 ht).1
  have b := ((h.2 k hk).2.2 hs).1
  rw [e, b] at a
  exact ((eq_nI (by omega) (by omega)).mp a).symm
theorem MI.ti {m : MS} (h : MI m) : TI (mT m) := h.2.2.2.2.2.2.1 (mN m) (Nat.le_refl _)
theorem MI.root {m : MS} (h : MI m) : ROOT (mT m) := h.ti.1
theorem opL_len (m : MS) : (opL m).length = nOpen m := List.countP_eq_length_filter.symm
theorem opL_mem {m : MS} {x : Nat} : x ∈ opL m ↔ (1 ≤ x ∧ x ≤ mH m) ∧ hO (mh m x) = true := by
  unfold opL
  rw [List.mem_filter, List.mem_range'_1]
  exact ⟨fun h => ⟨⟨h.1.1, by omega⟩, h.2⟩, fun h => ⟨⟨h.1.1, by omega⟩, h.2⟩⟩
theorem lkL_len (m : MS) (n : Nat) : (lkL m n).length = lksN m n := List.countP_eq_length_filter.symm
theorem lt_le {v : Int32} {b : Nat} (hb : b ≤ 1000000) : v < nI (b + 1) ↔ v ≤ nI b := by
  rw [Int32.lt_iff_toInt_lt, Int32.le_iff_toInt_le, nI_toInt (by omega), nI_toInt (by omega)]
  omega
/-! the class's small tests -/
theorem SS_isBelow_ok {w : WW} {d : Nat} (v : Int32) {b : Nat} (hb : b ≤ 1000000) : E_SS_isBelow d [.inl v, .inl (nI (b + 1))] w (fun r w' => r = some (.inl (bI (decide (nI 0 ≤ v) && decide (v ≤ nI b)))) ∧ w' = w) := by
  refine S_SS_isBelow ?_
  refine XE.iload_n d_SS_isBelow_0 rfl ?_
  refine XE.if_lt 13 d_SS_isBelow_1 (by decide) (fun h1 => ?_) (fun h1 => ?_)
  · have e : (decide (nI 0 ≤ v) && decide (v ≤ nI b)) = false := by rw [decide_eq_false (p := nI 0 ≤ v) (Int32.not_le.mpr h1)]; rfl
    rw [e]
    refine XE.iconst (x := nI 0) d_SS_isBelow_13 (by decide) ?_
    exact XE.rb d_SS_isBelow_14 (by decide) ⟨rfl, rfl⟩
  · refine XE.iload_n d_SS_isBelow_4 rfl ?_
    refine XE.iload_n d_SS_isBelow_5 rfl ?_
    refine XE.icmp_ge 13 d_SS_isBelow_6 (by decide) (fun h6 => ?_) (fun h6 => ?_)
    · have e : (decide (nI 0 ≤ v) && decide (v ≤ nI b)) = false := by rw [decide_eq_false (p := v ≤ nI b) (fun z => Int32.not_le.mpr ((lt_le hb).mpr z) h6), Bool.and_false]
      rw [e]
      refine XE.iconst (x := nI 0) d_SS_isBelow_13 (by decide) ?_
      exact XE.rb d_SS_isBelow_14 (by decide) ⟨rfl, rfl⟩
    · have e : (decide (nI 0 ≤ v) && decide (v ≤ nI b)) = true := by rw [decide_eq_true (p := nI 0 ≤ v) (Int32.not_lt.mp h1), decide_eq_true ((lt_le hb).mp (Int32.not_le.mp h6))]; rfl
      rw [e]
      refine XE.iconst (x := nI 1) d_SS_isBelow_9 (by decide) ?_
      refine XE.goto 14 d_SS_isBelow_10 (by decide) ?_
      exact XE.rb d_SS_isBelow_14 (by decide) ⟨rfl, rfl⟩
theorem SS_isPlace_ok {w : WW} {d : Nat} (hd : 1 ≤ d) (a b : Int32) : E_SS_isPlace d [.inl a, .inl b] w (fun r w' => r = some (.inl (bI ((decide (nI 0 ≤ a) && decide (a ≤ nI 24)) && (decide (nI 0 ≤ b) && decide (b ≤ nI 15))))) ∧ w' = w) := by
  refine S_SS_isPlace ?_
  refine XE.iload_n d_SS_isPlace_0 rfl ?_
  refine XE.bipush (x := nI 25) d_SS_isPlace_1 (by decide) ?_
  refine k_SS_37 0 d_SS_isPlace_3 (by omega) (Nat.le_of_ble_eq_true rfl) (SS_isBelow_ok (b := 24) a (by decide)) (fun r1 w1 hm1 hq1 => ?_)
  rw [hq1.1, hq1.2]
  clear hq1 hm1 r1 w1
  refine XE.if_eq 22 d_SS_isPlace_6 (by decide) (fun h6 => ?_) (fun h6 => ?_)
  · rw [(bI_eq0 _).mp h6, Bool.false_and]
    refine XE.iconst (x := nI 0) d_SS_isPlace_22 (by decide) ?_
    exact XE.rb d_SS_isPlace_23 (by decide) ⟨rfl, rfl⟩
  · rw [te _ h6, Bool.true_and]
    refine XE.iload_n d_SS_isPlace_9 rfl ?_
    refine XE.bipush (x := nI 16) d_SS_isPlace_10 (by decide) ?_
    refine k_SS_37 0 d_SS_isPlace_12 (by omega) (Nat.le_of_ble_eq_true rfl) (SS_isBelow_ok (b := 15) b (by decide)) (fun r1 w1 hm1 hq1 => ?_)
    rw [hq1.1, hq1.2]
    clear hq1 hm1 r1 w1
    refine XE.if_eq 22 d_SS_isPlace_15 (by decide) (fun h15 => ?_) (fun h15 => ?_)
    · rw [(bI_eq0 _).mp h15]
      refine XE.iconst (x := nI 0) d_SS_isPlace_22 (by decide) ?_
      exact XE.rb d_SS_isPlace_23 (by decide) ⟨rfl, rfl⟩
    · rw [te _ h15]
      refine XE.iconst (x := nI 1) d_SS_isPlace_18 (by decide) ?_
      refine XE.goto 23 d_SS_isPlace_19 (by decide) ?_
      exact XE.rb d_SS_isPlace_23 (by decide) ⟨rfl, rfl⟩
def mdOk (md : Int32) : Prop := (nI 0 ≤ md ∧ md ≤ nI 1023) ∧ ¬ md &&& nI 7 = 0 ∧ ¬ md &&& nI 516 = nI 512
set_option maxRecDepth 100000 in
theorem bit516 : ∀ md, md < 1024 → (nI md &&& nI 516 = nI 512 ↔ (¬ nI md &&& nI 512 = 0 ∧ nI md &&& nI 4 = 0)) := by decide +kernel
theorem rng0 {v : Int32} {b : Nat} (hb : b ≤ 1000000) (h : nI 0 ≤ v ∧ v ≤ nI b) : ∃ j, j ≤ b ∧ v = nI j := by
  have h0 : ¬ v < 0 := Int32.not_lt.mpr h.1
  obtain ⟨j, hj, rfl⟩ := nI_of h0
  exact ⟨j, (nI_leI hj (by omega)).mp h.2, rfl⟩
theorem dec2 {a b : Prop} [Decidable a] [Decidable b] (h : (decide a && decide b) = true) : a ∧ b := by simpa using h
theorem dec2f {a b : Prop} [Decidable a] [Decidable b] (h : (decide a && decide b) = false) : ¬ (a ∧ b) := by simpa using h
theorem SS_isMode_ok {w : WW} {d : Nat} (hd : 1 ≤ d) (md : Int32) : E_SS_isMode d [.inl md] w (fun r w' => ∃ b : Bool, r = some (.inl (bI b)) ∧ (b = true ↔ mdOk md) ∧ w' = w) := by
  refine S_SS_isMode ?_
  by_cases hr : nI 0 ≤ md ∧ md ≤ nI 1023
  · obtain ⟨j, hj, rfl⟩ := rng0 (by decide) hr
    have hb := bit516 j (by omega)
    have e : (decide (nI 0 ≤ nI j) && decide (nI j ≤ nI 1023)) = true := by simp [hr]
    refine XE.iload_n d_SS_isMode_0 rfl ?_
    refine XE.sipush (x := nI 1024) d_SS_isMode_1 (by decide) ?_
    refine k_SS_37 0 d_SS_isMode_4 (by omega) (Nat.le_of_ble_eq_true rfl) (SS_isBelow_ok (b := 1023) (nI j) (by decide)) (fun r1 w1 hm1 hq1 => ?_)
    rw [hq1.1, hq1.2]
    clear hq1 hm1 r1 w1
    rw [e]
    refine XE.if_eq 17 d_SS_isMode_7 (by decide) (fun h7 => absurd h7 ((by decide))) (fun h7 => ?_)
    refine XE.iload_n d_SS_isMode_10 rfl ?_
    refine XE.bipush (x := nI 7) d_SS_isMode_11 (by decide) ?_
    refine XE.iand d_SS_isMode_13 rfl ?_
    refine XE.if_ne 19 d_SS_isMode_14 (by decide) (fun h14 => ?_) (fun h14 => ?_)
    · have q7 := h14
      refine XE.iload_n d_SS_isMode_19 rfl ?_
      refine XE.sipush (x := nI 512) d_SS_isMode_20 (by decide) ?_
      refine XE.iand d_SS_isMode_23 rfl ?_
      refine XE.if_eq 33 d_SS_isMode_24 (by decide) (fun h24 => ?_) (fun h24 => ?_)
      · refine XE.iconst (x := nI 1) d_SS_isMode_33 (by decide) ?_
        refine XE.goto 38 d_SS_isMode_34 (by decide) ?_
        exact XE.rb d_SS_isMode_38 (by decide) ⟨true, rfl, ⟨fun _ => ⟨hr, q7, fun z => (hb.mp z).1 h24⟩, fun _ => rfl⟩, rfl⟩
        skip
      · refine XE.iload_n d_SS_isMode_27 rfl ?_
        refine XE.iconst (x := nI 4) d_SS_isMode_28 (by decide) ?_
        refine XE.iand d_SS_isMode_29 rfl ?_
        refine XE.if_eq 37 d_SS_isMode_30 (by decide) (fun h30 => ?_) (fun h30 => ?_)
        · refine XE.iconst (x := nI 0) d_SS_isMode_37 (by decide) ?_
          first | exact XE.rb d_SS_isMode_38 (by decide) ⟨true, rfl, ⟨fun _ => ⟨hr, q7, fun z => h30 (hb.mp z).2⟩, fun _ => rfl⟩, rfl⟩ | exact XE.rb d_SS_isMode_38 (by decide) ⟨false, rfl, ⟨fun z => absurd z (by decide), fun z => absurd (hb.mpr ⟨h24, h30⟩) z.2.2⟩, rfl⟩
        · refine XE.iconst (x := nI 1) d_SS_isMode_33 (by decide) ?_
          refine XE.goto 38 d_SS_isMode_34 (by decide) ?_
          first | exact XE.rb d_SS_isMode_38 (by decide) ⟨true, rfl, ⟨fun _ => ⟨hr, q7, fun z => h30 (hb.mp z).2⟩, fun _ => rfl⟩, rfl⟩ | exact XE.rb d_SS_isMode_38 (by decide) ⟨false, rfl, ⟨fun z => absurd z (by decide), fun z => absurd (hb.mpr ⟨h24, h30⟩) z.2.2⟩, rfl⟩
    · refine XE.iconst (x := nI 0) d_SS_isMode_17 (by decide) ?_
      exact XE.rb d_SS_isMode_18 (by decide) ⟨false, rfl, ⟨fun z => absurd z (by decide), fun z => absurd h14 z.2.1⟩, rfl⟩
      skip
  · have e : (decide (nI 0 ≤ md) && decide (md ≤ nI 1023)) = false := by
      cases h : (decide (nI 0 ≤ md) && decide (md ≤ nI 1023)) with
      | false => rfl
      | true => exact absurd (dec2 h) hr
    refine XE.iload_n d_SS_isMode_0 rfl ?_
    refine XE.sipush (x := nI 1024) d_SS_isMode_1 (by decide) ?_
    refine k_SS_37 0 d_SS_isMode_4 (by omega) (Nat.le_of_ble_eq_true rfl) (SS_isBelow_ok (b := 1023) md (by decide)) (fun r1 w1 hm1 hq1 => ?_)
    rw [hq1.1, hq1.2]
    clear hq1 hm1 r1 w1
    rw [e]
    refine XE.if_eq 17 d_SS_isMode_7 (by decide) (fun h7 => ?_) (fun h7 => absurd h7 ((by decide)))
    refine XE.iconst (x := nI 0) d_SS_isMode_17 (by decide) ?_
    exact XE.rb d_SS_isMode_18 (by decide) ⟨false, rfl, ⟨fun z => absurd z (by decide), fun z => absurd z.1 hr⟩, rfl⟩
def rgB (f n : Int32) : Bool := (decide (nI 0 ≤ f) && decide (f ≤ nI 31)) && (decide (nI 1 ≤ n) && decide (n ≤ nI 32 - f))
theorem nI_sb {a b : Nat} (h : b ≤ a) : nI a - nI b = nI (a - b) := by
  obtain ⟨c, rfl⟩ : ∃ c, a = c + b := ⟨a - b, by omega⟩
  rw [← nI_add, Int32.add_sub_cancel, Nat.add_sub_cancel]
theorem SS_isRange_ok {w : WW} {d : Nat} (hd : 1 ≤ d) (f n : Int32) : E_SS_isRange d [.inl f, .inl n] w (fun r w' => r = some (.inl (bI (rgB f n))) ∧ w' = w) := by
  refine S_SS_isRange ?_
  by_cases hr : nI 0 ≤ f ∧ f ≤ nI 31
  · obtain ⟨i, hi, rfl⟩ := rng0 (by decide) hr
    have e : (decide (nI 0 ≤ nI i) && decide (nI i ≤ nI 31)) = true := by simp [hr]
    have er : rgB (nI i) n = (decide (nI 1 ≤ n) && decide (n ≤ nI (32 - i))) := by unfold rgB; rw [e, nI_sb (by omega), Bool.true_and]
    by_cases hn : nI 0 ≤ n - nI 1 ∧ n - nI 1 ≤ nI 31
    · obtain ⟨j, hj, hj2⟩ := rng0 (by decide) hn
      have en : n = nI (j + 1) := by rw [← nI_1, ← hj2]; exact (Int32.sub_add_cancel _ _).symm
      subst en
      have e2 : (decide (nI 0 ≤ nI j) && decide (nI j ≤ nI 31)) = true := by rw [hj2] at hn; simp [hn]
      have e1 : (decide (nI 1 ≤ nI (j + 1))) = true := decide_eq_true ((le_nI (by omega) (by omega)).mpr (by omega))
      refine XE.iload_n d_SS_isRange_0 rfl ?_
      refine XE.bipush (x := nI 32) d_SS_isRange_1 (by decide) ?_
      refine k_SS_37 0 d_SS_isRange_3 (by omega) (Nat.le_of_ble_eq_true rfl) (SS_isBelow_ok (b := 31) (nI i) (by decide)) (fun r1 w1 hm1 hq1 => ?_)
      rw [hq1.1, hq1.2]
      clear hq1 hm1 r1 w1
      rw [e]
      refine XE.if_eq 32 d_SS_isRange_6 (by decide) (fun h6 => absurd h6 ((by decide))) (fun h6 => ?_)
      refine XE.iload_n d_SS_isRange_9 rfl ?_
      refine XE.iconst (x := nI 1) d_SS_isRange_10 (by decide) ?_
      refine XE.isub d_SS_isRange_11 hj2 ?_
      refine XE.bipush (x := nI 32) d_SS_isRange_12 (by decide) ?_
      refine k_SS_37 0 d_SS_isRange_14 (by omega) (Nat.le_of_ble_eq_true rfl) (SS_isBelow_ok (b := 31) (nI j) (by decide)) (fun r1 w1 hm1 hq1 => ?_)
      rw [hq1.1, hq1.2]
      clear hq1 hm1 r1 w1
      rw [e2]
      refine XE.if_eq 32 d_SS_isRange_17 (by decide) (fun h17 => absurd h17 ((by decide))) (fun h17 => ?_)
      refine XE.iload_n d_SS_isRange_20 rfl ?_
      refine XE.iload_n d_SS_isRange_21 rfl ?_
      refine XE.iadd d_SS_isRange_22 (by first | exact nI_add _ _ | rfl) ?_
      refine XE.bipush (x := nI 32) d_SS_isRange_23 (by decide) ?_
      refine XE.icmp_gt 32 d_SS_isRange_25 (by decide) (fun h25 => ?_) (fun h25 => ?_)
      · rw [er, e1, decide_eq_false (fun z => by have := (le_nI (by omega) (by omega)).mp z; have := (lt_nI (by omega) (by omega)).mp h25; omega), Bool.and_false]
        refine XE.iconst (x := nI 0) d_SS_isRange_32 (by decide) ?_
        exact XE.rb d_SS_isRange_33 (by decide) ⟨rfl, rfl⟩
      · rw [er, e1, decide_eq_true ((le_nI (by omega) (by omega)).mpr (by have : ¬ 32 < i + (j + 1) := fun z => h25 ((lt_nI (by omega) (by omega)).mpr z); omega)), Bool.and_true]
        refine XE.iconst (x := nI 1) d_SS_isRange_28 (by decide) ?_
        refine XE.goto 33 d_SS_isRange_29 (by decide) ?_
        exact XE.rb d_SS_isRange_33 (by decide) ⟨rfl, rfl⟩
    · have e2 : (decide (nI 0 ≤ n - nI 1) && decide (n - nI 1 ≤ nI 31)) = false := by
        cases h : (decide (nI 0 ≤ n - nI 1) && decide (n - nI 1 ≤ nI 31)) with
        | false => rfl
        | true => exact absurd (dec2 h) hn
      have ef : rgB (nI i) n = false := by
        rw [er]
        cases h : (decide (nI 1 ≤ n) && decide (n ≤ nI (32 - i))) with
        | false => rfl
        | true =>
          obtain ⟨h1, h2⟩ := dec2 h
          obtain ⟨x, rfl, x1, x2, -⟩ := rng_nI (n := 32 - i) (by omega) h1 h2
          rw [nI_s1 x1] at hn
          exact absurd ⟨(le_nI (by omega) (by omega)).mpr (by omega), (le_nI (by omega) (by omega)).mpr (by omega)⟩ hn
      refine XE.iload_n d_SS_isRange_0 rfl ?_
      refine XE.bipush (x := nI 32) d_SS_isRange_1 (by decide) ?_
      refine k_SS_37 0 d_SS_isRange_3 (by omega) (Nat.le_of_ble_eq_true rfl) (SS_isBelow_ok (b := 31) (nI i) (by decide)) (fun r1 w1 hm1 hq1 => ?_)
      rw [hq1.1, hq1.2]
      clear hq1 hm1 r1 w1
      rw [e]
      refine XE.if_eq 32 d_SS_isRange_6 (by decide) (fun h6 => absurd h6 ((by decide))) (fun h6 => ?_)
      refine XE.iload_n d_SS_isRange_9 rfl ?_
      refine XE.iconst (x := nI 1) d_SS_isRange_10 (by decide) ?_
      refine XE.isub d_SS_isRange_11 rfl ?_
      refine XE.bipush (x := nI 32) d_SS_isRange_12 (by decide) ?_
      refine k_SS_37 0 d_SS_isRange_14 (by omega) (Nat.le_of_ble_eq_true rfl) (SS_isBelow_ok (b := 31) (n - nI 1) (by decide)) (fun r1 w1 hm1 hq1 => ?_)
      rw [hq1.1, hq1.2]
      clear hq1 hm1 r1 w1
      rw [e2]
      refine XE.if_eq 32 d_SS_isRange_17 (by decide) (fun h17 => ?_) (fun h17 => absurd h17 ((by decide)))
      refine XE.iconst (x := nI 0) d_SS_isRange_32 (by decide) ?_
      rw [ef]; exact XE.rb d_SS_isRange_33 (by decide) ⟨rfl, rfl⟩
  · have e : (decide (nI 0 ≤ f) && decide (f ≤ nI 31)) = false := by
      cases h : (decide (nI 0 ≤ f) && decide (f ≤ nI 31)) with
      | false => rfl
      | true => exact absurd (dec2 h) hr
    have er : rgB f n = false := by unfold rgB; rw [e]; rfl
    refine XE.iload_n d_SS_isRange_0 rfl ?_
    refine XE.bipush (x := nI 32) d_SS_isRange_1 (by decide) ?_
    refine k_SS_37 0 d_SS_isRange_3 (by omega) (Nat.le_of_ble_eq_true rfl) (SS_isBelow_ok (b := 31) f (by decide)) (fun r1 w1 hm1 hq1 => ?_)
    rw [hq1.1, hq1.2]
    clear hq1 hm1 r1 w1
    rw [e]
    refine XE.if_eq 32 d_SS_isRange_6 (by decide) (fun h6 => ?_) (fun h6 => absurd h6 ((by decide)))
    refine XE.iconst (x := nI 0) d_SS_isRange_32 (by decide) ?_
    rw [er]; exact XE.rb d_SS_isRange_33 (by decide) ⟨rfl, rfl⟩
