/-! THE ABSTRACT WORLD. A value is an int or a reference (kind, ordinal); ordinal 0 is null. Kinds below 99 are the classes of vwCl in their order, 99 is the script, kinds from 100 on are regions of arrays. -/
abbrev VV : Type := Int32 ⊕ (Nat × Nat)
abbrev AD : Type := Nat → Nat → Nat
/-- how many of a kind; the ints; the references; the lengths; cells and slots made so far -/
abbrev WW : Type := (Nat → Nat) × (Nat → Nat → Nat → Int32) × (Nat → Nat → Nat → Nat) × (Nat → Nat → Nat) × Nat × Nat
def wC (w : WW) (k : Nat) : Nat := w.1 k
def wI (w : WW) (k o j : Nat) : Int32 := w.2.1 k o j
def wR (w : WW) (k o j : Nat) : Nat := w.2.2.1 k o j
def wL (w : WW) (k o : Nat) : Nat := w.2.2.2.1 k o
def wn (w : WW) : Nat := w.2.2.2.2.1
def wz (w : WW) : Nat := w.2.2.2.2.2
def sI (w : WW) (k o j : Nat) (x : Int32) : WW := (w.1, (fun k' o' j' => if k' = k ∧ o' = o ∧ j' = j then x else w.2.1 k' o' j'), w.2.2)
def sR (w : WW) (k o j r : Nat) : WW := (w.1, w.2.1, (fun k' o' j' => if k' = k ∧ o' = o ∧ j' = j then r else w.2.2.1 k' o' j'), w.2.2.2)
def nO (w : WW) (k n : Nat) : WW := ((fun k' => if k' = k then w.1 k + 1 else w.1 k'), w.2.1, w.2.2.1, w.2.2.2.1, w.2.2.2.2.1 + 1, w.2.2.2.2.2 + n)
def nA (w : WW) (k n : Nat) : WW := ((fun k' => if k' = k then w.1 k + 1 else w.1 k'), w.2.1, w.2.2.1, (fun k' o' => if k' = k ∧ o' = w.1 k + 1 then n else w.2.2.2.1 k' o'), w.2.2.2.2.1 + 1, w.2.2.2.2.2 + n)
theorem wC_sI (w : WW) (k o j : Nat) (x : Int32) (k' : Nat) : wC (sI w k o j x) k' = wC w k' := rfl
theorem wI_sI (w : WW) (k o j : Nat) (x : Int32) (k' o' j' : Nat) : wI (sI w k o j x) k' o' j' = if k' = k ∧ o' = o ∧ j' = j then x else wI w k' o' j' := rfl
theorem wR_sI (w : WW) (k o j : Nat) (x : Int32) (k' o' j' : Nat) : wR (sI w k o j x) k' o' j' = wR w k' o' j' := rfl
theorem wL_sI (w : WW) (k o j : Nat) (x : Int32) (k' o' : Nat) : wL (sI w k o j x) k' o' = wL w k' o' := rfl
theorem wn_sI (w : WW) (k o j : Nat) (x : Int32) : wn (sI w k o j x) = wn w := rfl
theorem wz_sI (w : WW) (k o j : Nat) (x : Int32) : wz (sI w k o j x) = wz w := rfl
theorem wC_sR (w : WW) (k o j r : Nat) (k' : Nat) : wC (sR w k o j r) k' = wC w k' := rfl
theorem wI_sR (w : WW) (k o j r : Nat) (k' o' j' : Nat) : wI (sR w k o j r) k' o' j' = wI w k' o' j' := rfl
theorem wR_sR (w : WW) (k o j r : Nat) (k' o' j' : Nat) : wR (sR w k o j r) k' o' j' = if k' = k ∧ o' = o ∧ j' = j then r else wR w k' o' j' := rfl
theorem wL_sR (w : WW) (k o j r : Nat) (k' o' : Nat) : wL (sR w k o j r) k' o' = wL w k' o' := rfl
theorem wn_sR (w : WW) (k o j r : Nat) : wn (sR w k o j r) = wn w := rfl
theorem wz_sR (w : WW) (k o j r : Nat) : wz (sR w k o j r) = wz w := rfl
theorem wC_nO (w : WW) (k n k' : Nat) : wC (nO w k n) k' = if k' = k then wC w k + 1 else wC w k' := rfl
theorem wI_nO (w : WW) (k n k' o' j' : Nat) : wI (nO w k n) k' o' j' = wI w k' o' j' := rfl
theorem wR_nO (w : WW) (k n k' o' j' : Nat) : wR (nO w k n) k' o' j' = wR w k' o' j' := rfl
theorem wL_nO (w : WW) (k n k' o' : Nat) : wL (nO w k n) k' o' = wL w k' o' := rfl
theorem wn_nO (w : WW) (k n : Nat) : wn (nO w k n) = wn w + 1 := rfl
theorem wz_nO (w : WW) (k n : Nat) : wz (nO w k n) = wz w + n := rfl
theorem wC_nA (w : WW) (k n k' : Nat) : wC (nA w k n) k' = if k' = k then wC w k + 1 else wC w k' := rfl
theorem wI_nA (w : WW) (k n k' o' j' : Nat) : wI (nA w k n) k' o' j' = wI w k' o' j' := rfl
theorem wR_nA (w : WW) (k n k' o' j' : Nat) : wR (nA w k n) k' o' j' = wR w k' o' j' := rfl
theorem wL_nA (w : WW) (k n k' o' : Nat) : wL (nA w k n) k' o' = if k' = k ∧ o' = wC w k + 1 then n else wL w k' o' := rfl
theorem wn_nA (w : WW) (k n : Nat) : wn (nA w k n) = wn w + 1 := rfl
theorem wz_nA (w : WW) (k n : Nat) : wz (nA w k n) = wz w + n := rfl
/-! what the values and cells are on the machine -/
def rv (ad : AD) (q : Nat × Nat) : Value := if q.2 = 0 then .null else .ref (ad q.1 q.2)
def vv (ad : AD) : VV → Value
  | .inl x => .int x
  | .inr q => rv ad q
def inR (w : WW) (k o : Nat) : Prop := 1 ≤ o ∧ o ≤ wC w k
def okV (w : WW) : VV → Prop
  | .inl _ => True
  | .inr q => q.2 ≤ wC w q.1
def fv (ad : AD) (w : WW) (k o j : Nat) : Value := match fty k j with
  | 0 => .int (wI w k o j)
  | 1 => .int (wI w k o j)
  | k' + 2 => rv ad (k', wR w k o j)
def av (ad : AD) (w : WW) (k o j : Nat) : Value := match aelem k with
  | 0 => .int (wI w k o j)
  | 1 => .int (wI w k o j)
  | k' + 2 => rv ad (k', wR w k o j)
def aty (k : Nat) : FieldType := match aelem k with
  | 0 => .int
  | 1 => .boolean
  | k' + 2 => .object (knm k')
def Rel (s : State) (D : va_G) (b0 : Nat) (ad : AD) (w : WW) (H : Heap) : Prop :=
  (∀ (k o : Nat) (C : String) (T : u_T) (N : Nat), vwCl[k]? = some (C, T, N) → inR w k o → t_OB (ad k o) (D.1 k) N (D.2 k) H (fv ad w k o)) ∧
  (∀ k o : Nat, 100 ≤ k → inR w k o → ∃ cA : ClassId, ArrOfT s cA (aty k) ∧ va_RA s cA (aty k) ∧ H[ad k o]? = some (arrV cA (wL w k o) (av ad w k o))) ∧
  (∀ k o k' o' : Nat, k ≠ 99 → k' ≠ 99 → inR w k o → inR w k' o' → ad k o = ad k' o' → k = k' ∧ o = o') ∧
  (∀ k o : Nat, k ≠ 99 → inR w k o → b0 ≤ ad k o ∧ ad k o < H.size) ∧
  (∀ k o j k' : Nat, k < 99 → fty k j = k' + 2 → inR w k o → wR w k o j ≤ wC w k') ∧
  (∀ k o j k' : Nat, 100 ≤ k → aelem k = k' + 2 → inR w k o → wR w k o j ≤ wC w k') ∧
  (∀ k o j : Nat, wC w k < o → wI w k o j = 0 ∧ wR w k o j = 0) ∧
  (∀ o : Nat, inR w 99 o → ad 99 o < b0 ∧ va_X (ad 99 o) (wL w 99 o) (wI w 99 o) s H)
def EX (w : WW) (ad ad' : AD) : Prop := ∀ k o : Nat, inR w k o → ad' k o = ad k o
theorem EX.rf {w : WW} {ad : AD} : EX w ad ad := fun _ _ _ => rfl
theorem vv_ext {w : WW} {ad ad' : AD} (h : EX w ad ad') {v : VV} (hv : okV w v) : vv ad' v = vv ad v := by
  cases v with
  | inl x => rfl
  | inr q =>
    show rv ad' q = rv ad q
    unfold rv
    by_cases h0 : q.2 = 0
    · rw [if_pos h0, if_pos h0]
    · rw [if_neg h0, if_neg h0, h q.1 q.2 ⟨Nat.pos_of_ne_zero h0, hv⟩]
theorem vv_cat (ad : AD) (v : VV) : (vv ad v).category = 1 := by
  cases v with
  | inl x => rfl
  | inr q =>
    show (rv ad q).category = 1
    unfold rv
    by_cases h0 : q.2 = 0
    · rw [if_pos h0]; rfl
    · rw [if_neg h0]; rfl
theorem rv_nz {ad : AD} {k o : Nat} (h : o ≠ 0) : rv ad (k, o) = .ref (ad k o) := if_neg h
theorem rv_z {ad : AD} {k : Nat} : rv ad (k, 0) = .null := rfl
theorem okV.mono {w w' : WW} (h : ∀ k, wC w k ≤ wC w' k) {v : VV} (hv : okV w v) : okV w' v := by
  cases v with
  | inl x => trivial
  | inr q => exact Nat.le_trans hv (h q.1)
theorem Rel.moved {s U : State} (hvm : s.vm.Alike U.vm) {D : va_G} {b0 : Nat} {ad : AD} {w : WW} {H : Heap} (h : Rel s D b0 ad w H) : Rel U D b0 ad w H := by
  obtain ⟨h1, h2, h3, h4, h5, h6, h7, h8⟩ := h
  refine ⟨h1, fun k o hk ho => ?_, h3, h4, h5, h6, h7, fun o ho => ⟨(h8 o ho).1, (h8 o ho).2.moved hvm⟩⟩
  obtain ⟨cA, a1, a2, a3⟩ := h2 k o hk ho
  exact ⟨cA, arrOfT_moved hvm a1, a2.moved hvm, a3⟩
/-! the locals -/
def prs (ad : AD) (ls : List (Option VV)) : List (Nat × Value) := (List.range ls.length).filterMap (fun i => match ls[i]? with
  | some (some v) => some (i, vv ad v)
  | _ => none)
theorem prs_of {ad : AD} {ls : List (Option VV)} {i : Nat} {v : VV} (h : ls[i]? = some (some v)) : (i, vv ad v) ∈ prs ad ls :=
  List.mem_filterMap.mpr ⟨i, List.mem_range.mpr (List.getElem?_eq_some_iff.mp h).1, by rw [h]⟩
theorem prs_to {ad : AD} {ls : List (Option VV)} {q : Nat × Value} (h : q ∈ prs ad ls) : ∃ v, ls[q.1]? = some (some v) ∧ q.2 = vv ad v := by
  obtain ⟨i, hi, he⟩ := List.mem_filterMap.mp h
  split at he
  · rename_i v hv
    cases he
    exact ⟨v, hv, rfl⟩
  · cases he
def LR (ad : AD) (ls : List (Option VV)) (rl : Array Slot) (nL : Nat) : Prop := ls.length = nL ∧ lv_has rl nL (prs ad ls)
theorem LR.get {ad : AD} {ls : List (Option VV)} {rl : Array Slot} {nL i : Nat} {v : VV} (h : LR ad ls rl nL) (hl : ls[i]? = some (some v)) : rl[i]? = some (.val (vv ad v)) := h.2.2.2 _ (prs_of hl)
theorem LR.of {ad' : AD} {ls' : List (Option VV)} {rl : Array Slot} {nL : Nat} {lv : List (Nat × Value)} (hn : ls'.length = nL) (h : lv_has rl nL lv) (hm : ∀ i v, ls'[i]? = some (some v) → (i, vv ad' v) ∈ lv) : LR ad' ls' rl nL := by
  refine ⟨hn, h.1, h.2.1, fun q hq => ?_⟩
  obtain ⟨v, h1, h2⟩ := prs_to hq
  have := h.2.2 _ (hm q.1 v h1)
  rw [h2]
  exact this
theorem LR.set {ad : AD} {ls : List (Option VV)} {rl rl' : Array Slot} {nL i : Nat} {v : VV} (h : LR ad ls rl nL)
    (h' : lv_has rl' nL ((i, vv ad v) :: (prs ad ls).filter (fun q => !(q.1 == i) && !(q.1 + 1 == i && q.2.category == 2)))) : LR ad (ls.set i (some v)) rl' nL := by
  refine LR.of (by rw [List.length_set]; exact h.1) h' (fun j u hj => ?_)
  by_cases hji : j = i
  · subst hji
    have hlt : j < ls.length := by
      have := (List.getElem?_eq_some_iff.mp hj).1
      rwa [List.length_set] at this
    rw [List.getElem?_set_self hlt] at hj
    cases hj
    exact List.mem_cons_self
  · rw [List.getElem?_set_ne (fun q => hji q.symm)] at hj
    refine List.mem_cons_of_mem _ (List.mem_filter.mpr ⟨prs_of hj, ?_⟩)
    simp [hji, vv_cat]
theorem LR.ext {w : WW} {ad ad' : AD} {ls : List (Option VV)} {rl : Array Slot} {nL : Nat} (h : LR ad ls rl nL) (he : EX w ad ad') (hok : ∀ v, some v ∈ ls → okV w v) : LR ad' ls rl nL :=
  LR.of h.1 h.2 (fun i v hi => by rw [vv_ext he (hok v (List.mem_of_getElem? hi))]; exact prs_of hi)
theorem map_ext {w : WW} {ad ad' : AD} (he : EX w ad ad') : ∀ {st : List VV}, (∀ v ∈ st, okV w v) → st.map (vv ad') = st.map (vv ad) := by
  intro st h
  exact List.map_congr_left (fun v hv => vv_ext he (h v hv))
/-! the judgement -/
def OKS (w : WW) (ls : List (Option VV)) (st : List VV) : Prop := (∀ v, some v ∈ ls → okV w v) ∧ ∀ v ∈ st, okV w v
def retI : Option FieldType → Instr
  | none => .return_
  | some .int => .ireturn
  | some .boolean => .ireturn
  | some _ => .areturn
def RT : Option FieldType → Option VV → Prop
  | none, none => True
  | some .int, some (.inl _) => True
  | some .boolean, some (.inl x) => x = 0 ∨ x = 1
  | some (.object _), some (.inr _) => True
  | some (.array _), some (.inr _) => True
  | _, _ => False
/-- the cells of a world, weighed by their kinds -/
def tot (f : Nat → Nat) (w : WW) : Nat := ((List.range 120).map (fun k => f k * wC w k)).sum
theorem sum_up (f c c' : Nat → Nat) (a : Nat) (h : ∀ k, k ≠ a → c' k = c k) (ha : c' a = c a + 1) : ∀ m, ((List.range m).map (fun k => f k * c' k)).sum = ((List.range m).map (fun k => f k * c k)).sum + if a < m then f a else 0 := by
  intro m
  induction m with
  | zero => simp
  | succ m ih =>
    rw [List.range_succ, List.map_append, List.map_append, List.sum_append, List.sum_append, ih]
    simp only [List.map_cons, List.map_nil, List.sum_cons, List.sum_nil]
    by_cases e : m = a
    · subst e
      rw [ha, Nat.mul_add, if_neg (Nat.lt_irrefl _), if_pos (Nat.lt_succ_self _)]
      omega
    · rw [h m e]
      by_cases l : a < m
      · rw [if_pos l, if_pos (by omega)]
        omega
      · rw [if_neg l, if_neg (by omega)]
        omega
/-- a world that grew out of another: nothing is lost, and what was made is counted by its kind -/
def MON (w w' : WW) : Prop := wn w ≤ wn w' ∧ wz w ≤ wz w' ∧ (∀ k, wC w k ≤ wC w' k) ∧ wn w' + tot (fun _ => 1) w = wn w + tot (fun _ => 1) w' ∧ wz w' + tot ksz w ≤ wz w + tot ksz w'
theorem MON.rf {w : WW} : MON w w := ⟨Nat.le_refl _, Nat.le_refl _, fun _ => Nat.le_refl _, rfl, Nat.le_refl _⟩
theorem MON.tr {w w1 w2 : WW} (a : MON w w1) (b : MON w1 w2) : MON w w2 := by
  obtain ⟨a1, a2, a3, a4, a5⟩ := a
  obtain ⟨b1, b2, b3, b4, b5⟩ := b
  exact ⟨Nat.le_trans a1 b1, Nat.le_trans a2 b2, fun k => Nat.le_trans (a3 k) (b3 k), by omega, by omega⟩
def VK (D : va_G) (s : State) : Prop := va_K D vwCl [] s ∧ ∀ C ∈ aoN, va_AO C s
theorem VK.moved {D : va_G} {u U : State} (hvm : u.vm.Alike U.vm) (h : VK D u) : VK D U := ⟨h.1.moved hvm, fun C hC => (h.2 C hC).moved hvm⟩
def CX (p : Program) (R : Room) (s : State) (m : MethodId) (args : Array Value) (meth : Method) (c : Code) (D : va_G) (b0 : Nat) (own : String) (cc : ByteArray) (nL : Nat) (ret : Option FieldType) (ini : Bool) (d : Nat) : Prop :=
  p.tables.exec = Jvm.exec ∧ c.code = cc ∧ meth.sig.returnType = ret ∧ c.maxLocals = nL ∧ s.vm.findClass own = some m.cls ∧ (∀ w ∈ tbl, w.before args s = true) ∧ meth.locks = false ∧ (ini = true → meth.name = "<init>") ∧ VK D s ∧ d ≤ R.frames ∧ 34 * d ≤ R.locals ∧ b0 ≤ s.heap.size
def KR (p : Program) (l : Launch) (e : Env) (R : Room) (s : State) (m : MethodId) (args : Array Value) (below : List Frame) (meth : Method) (c : Code) (Q : State → Prop) (D : va_G) (b0 c0 s0 : Nat) (w0 : WW) (ad0 : AD) (cc : ByteArray) (ret : Option FieldType) (r : Option VV) (w' : WW) : Prop :=
  wn w' ≤ R.cells + c0 ∧ wz w' ≤ R.slots + s0 ∧ ∀ (H' : Heap) (locs' : List Loc) (ad' : AD) (pc' : Nat) (rl' : Array Slot) (cells' slots' : Nat), va_S (fun q => b0 ≤ q) s.heap H' locs' → Rel s D b0 ad' w' H' → EX w0 ad0 ad' → (∀ v, r = some v → okV w' v) → RT ret r → decode cc pc' = .ok (retI ret, 1) → cells' + c0 = wn w' → slots' + s0 = wz w' →
    W p l e R s m args below meth c H' locs' cells' slots' Q (F0 m pc' rl' (r.toList.map (vv ad')))
def ST (s : State) (D : va_G) (b0 c0 s0 : Nat) (w0 : WW) (ad0 : AD) (nL : Nat) (ls : List (Option VV)) (st : List VV) (w : WW) (H : Heap) (locs : List Loc) (cells slots : Nat) (ad : AD) (rl : Array Slot) : Prop :=
  va_S (fun q => b0 ≤ q) s.heap H locs ∧ Rel s D b0 ad w H ∧ LR ad ls rl nL ∧ OKS w ls st ∧ (∀ k, wC w0 k ≤ wC w k) ∧ EX w0 ad0 ad ∧ cells + c0 = wn w ∧ slots + s0 = wz w
def XS (own : String) (cc : ByteArray) (nL : Nat) (ret : Option FieldType) (ini : Bool) (d pc : Nat) (ls : List (Option VV)) (st : List VV) (w : WW) (r : Option VV) (w' : WW) : Prop :=
  (MON w w' ∧ RT ret r) ∧ ∀ (p : Program) (l : Launch) (e : Env) (R : Room) (s : State) (m : MethodId) (args : Array Value) (below : List Frame) (meth : Method) (c : Code) (Q : State → Prop) (D : va_G) (b0 c0 s0 : Nat) (w0 : WW) (ad0 : AD),
    CX p R s m args meth c D b0 own cc nL ret ini d → KR p l e R s m args below meth c Q D b0 c0 s0 w0 ad0 cc ret r w' → ∀ (H : Heap) (locs : List Loc) (cells slots : Nat) (ad : AD) (rl : Array Slot), ST s D b0 c0 s0 w0 ad0 nL ls st w H locs cells slots ad rl →
      W p l e R s m args below meth c H locs cells slots Q (F0 m pc rl (st.map (vv ad)))
/-- from this place the method ends, with an answer and a world that have Q -/
def XE (own : String) (cc : ByteArray) (nL : Nat) (ret : Option FieldType) (ini : Bool) (d pc : Nat) (ls : List (Option VV)) (st : List VV) (w : WW) (Q : Option VV → WW → Prop) : Prop := ∃ (r : Option VV) (w' : WW), Q r w' ∧ XS own cc nL ret ini d pc ls st w r w'
section STL
variable {s : State} {D : va_G} {b0 c0 s0 : Nat} {w0 : WW} {ad0 : AD} {nL : Nat} {ls : List (Option VV)} {st : List VV} {w : WW} {H : Heap} {locs : List Loc} {cells slots : Nat} {ad : AD} {rl : Array Slot}
theorem ST.stk (S : ST s D b0 c0 s0 w0 ad0 nL ls st w H locs cells slots ad rl) {st' : List VV} (h : ∀ v ∈ st', okV w v) : ST s D b0 c0 s0 w0 ad0 nL ls st' w H locs cells slots ad rl :=
  ⟨S.1, S.2.1, S.2.2.1, ⟨S.2.2.2.1.1, h⟩, S.2.2.2.2⟩
theorem ST.ok (S : ST s D b0 c0 s0 w0 ad0 nL ls st w H locs cells slots ad rl) {v : VV} (h : v ∈ st) : okV w v := S.2.2.2.1.2 v h
theorem ST.push (S : ST s D b0 c0 s0 w0 ad0 nL ls st w H locs cells slots ad rl) {v : VV} (h : okV w v) : ST s D b0 c0 s0 w0 ad0 nL ls (v :: st) w H locs cells slots ad rl :=
  S.stk (fun u hu => by
    rcases List.mem_cons.mp hu with rfl | hu
    · exact h
    · exact S.ok hu)
theorem ST.pop {v : VV} (S : ST s D b0 c0 s0 w0 ad0 nL ls (v :: st) w H locs cells slots ad rl) : ST s D b0 c0 s0 w0 ad0 nL ls st w H locs cells slots ad rl :=
  S.stk (fun u hu => S.ok (List.mem_cons_of_mem _ hu))
theorem ST.top {v : VV} (S : ST s D b0 c0 s0 w0 ad0 nL ls (v :: st) w H locs cells slots ad rl) : okV w v := S.ok List.mem_cons_self
theorem ST.loc (S : ST s D b0 c0 s0 w0 ad0 nL ls st w H locs cells slots ad rl) {i : Nat} {v : VV} (h : ls[i]? = some (some v)) : okV w v := S.2.2.2.1.1 v (List.mem_of_getElem? h)
theorem ST.setl (S : ST s D b0 c0 s0 w0 ad0 nL ls st w H locs cells slots ad rl) {i : Nat} {v : VV} {rl' : Array Slot} (hv : okV w v) (h' : lv_has rl' nL ((i, vv ad v) :: (prs ad ls).filter (fun q => !(q.1 == i) && !(q.1 + 1 == i && q.2.category == 2)))) :
    ST s D b0 c0 s0 w0 ad0 nL (ls.set i (some v)) st w H locs cells slots ad rl' := by
  refine ⟨S.1, S.2.1, S.2.2.1.set h', ⟨fun u hu => ?_, S.2.2.2.1.2⟩, S.2.2.2.2⟩
  rcases List.mem_or_eq_of_mem_set hu with h | h
  · exact S.2.2.2.1.1 u h
  · cases h; exact hv
end STL
section XR
variable {own : String} {cc : ByteArray} {nL : Nat} {ret : Option FieldType} {ini : Bool} {d pc : Nat} {ls : List (Option VV)} {st : List VV} {w : WW} {Q : Option VV → WW → Prop}
theorem XE.mono {Q' : Option VV → WW → Prop} (h : XE own cc nL ret ini d pc ls st w Q') (hQ : ∀ r w', Q' r w' → Q r w') : XE own cc nL ret ini d pc ls st w Q := by
  obtain ⟨r, w', q, x⟩ := h
  exact ⟨r, w', hQ r w' q, x⟩
theorem XE.retn {r : Option VV} (hd : decode cc pc = .ok (retI ret, 1)) (hr : RT ret r) (hst : st = r.toList) (q : Q r w) : XE own cc nL ret ini d pc ls st w Q := by
  subst hst
  refine ⟨r, w, q, ⟨MON.rf, hr⟩, ?_⟩
  intro p l e R s m args below meth c Q' D b0 c0 s0 w0 ad0 C K H locs cells slots ad rl S
  exact K.2.2 H locs ad pc rl cells slots S.1 S.2.1 S.2.2.2.2.2.1 (fun v hv => S.ok (by rw [hv]; exact List.mem_singleton.mpr rfl)) hr hd S.2.2.2.2.2.2.1 S.2.2.2.2.2.2.2
theorem XE.iconst {n : Int} {x : Int32} (hd : decode cc pc = .ok (.iconst n, 1)) (hv : Int32.ofInt n = x) (k : XE own cc nL ret ini d (pc + 1) ls (.inl x :: st) w Q) : XE own cc nL ret ini d pc ls (st) w Q := by
  obtain ⟨r, w', q, hm, f⟩ := k
  refine ⟨r, w', q, hm, ?_⟩
  intro p l e R s m args below meth c Q' D b0 c0 s0 w0 ad0 C K H locs cells slots ad rl S
  exact lv_iconst C.1 C.2.1 hd hv (f p l e R s m args below meth c Q' D b0 c0 s0 w0 ad0 C K H locs cells slots ad rl (S.push (v := .inl x) trivial))
theorem XE.bipush {n : Int} {x : Int32} (hd : decode cc pc = .ok (.bipush n, 2)) (hv : (Int8.ofInt n).toInt32 = x) (k : XE own cc nL ret ini d (pc + 2) ls (.inl x :: st) w Q) : XE own cc nL ret ini d pc ls (st) w Q := by
  obtain ⟨r, w', q, hm, f⟩ := k
  refine ⟨r, w', q, hm, ?_⟩
  intro p l e R s m args below meth c Q' D b0 c0 s0 w0 ad0 C K H locs cells slots ad rl S
  exact lv_bipush C.1 C.2.1 hd hv (f p l e R s m args below meth c Q' D b0 c0 s0 w0 ad0 C K H locs cells slots ad rl (S.push (v := .inl x) trivial))
theorem XE.sipush {n : Int} {x : Int32} (hd : decode cc pc = .ok (.sipush n, 3)) (hv : (Int16.ofInt n).toInt32 = x) (k : XE own cc nL ret ini d (pc + 3) ls (.inl x :: st) w Q) : XE own cc nL ret ini d pc ls (st) w Q := by
  obtain ⟨r, w', q, hm, f⟩ := k
  refine ⟨r, w', q, hm, ?_⟩
  intro p l e R s m args below meth c Q' D b0 c0 s0 w0 ad0 C K H locs cells slots ad rl S
  exact lv_sipush C.1 C.2.1 hd hv (f p l e R s m args below meth c Q' D b0 c0 s0 w0 ad0 C K H locs cells slots ad rl (S.push (v := .inl x) trivial))
theorem XE.ldc {n : Nat} {x : Int32} (hd : decode cc pc = .ok (.ldc n, 2)) (hv : Cond.constant own n x ∈ tbl) (k : XE own cc nL ret ini d (pc + 2) ls (.inl x :: st) w Q) : XE own cc nL ret ini d pc ls (st) w Q := by
  obtain ⟨r, w', q, hm, f⟩ := k
  refine ⟨r, w', q, hm, ?_⟩
  intro p l e R s m args below meth c Q' D b0 c0 s0 w0 ad0 C K H locs cells slots ad rl S
  exact lv_ldc C.1 C.2.1 C.2.2.2.2.1 (C.2.2.2.2.2.1 _ hv) hd (f p l e R s m args below meth c Q' D b0 c0 s0 w0 ad0 C K H locs cells slots ad rl (S.push (v := .inl x) trivial))
theorem XE.null  (hd : decode cc pc = .ok (.aconst_null, 1)) (k : XE own cc nL ret ini d (pc + 1) ls (.inr (0, 0) :: st) w Q) : XE own cc nL ret ini d pc ls (st) w Q := by
  obtain ⟨r, w', q, hm, f⟩ := k
  refine ⟨r, w', q, hm, ?_⟩
  intro p l e R s m args below meth c Q' D b0 c0 s0 w0 ad0 C K H locs cells slots ad rl S
  exact lv_null C.1 C.2.1 hd (f p l e R s m args below meth c Q' D b0 c0 s0 w0 ad0 C K H locs cells slots ad rl (S.push (v := .inr (0, 0)) (Nat.zero_le _)))
theorem XE.iload_n {n : Fin 4} {x : Int32} (hd : decode cc pc = .ok (.iload_n n, 1)) (hl : ls[n.val]? = some (some (.inl x))) (k : XE own cc nL ret ini d (pc + 1) ls (.inl x :: st) w Q) : XE own cc nL ret ini d pc ls (st) w Q := by
  obtain ⟨r, w', q, hm, f⟩ := k
  refine ⟨r, w', q, hm, ?_⟩
  intro p l e R s m args below meth c Q' D b0 c0 s0 w0 ad0 C K H locs cells slots ad rl S
  exact lv_iload_n C.1 C.2.1 hd rfl (S.2.2.1.get hl) (f p l e R s m args below meth c Q' D b0 c0 s0 w0 ad0 C K H locs cells slots ad rl (S.push (v := .inl x) trivial))
theorem XE.iload {n : Nat} {x : Int32} (hd : decode cc pc = .ok (.iload n, 2)) (hl : ls[n]? = some (some (.inl x))) (k : XE own cc nL ret ini d (pc + 2) ls (.inl x :: st) w Q) : XE own cc nL ret ini d pc ls (st) w Q := by
  obtain ⟨r, w', q, hm, f⟩ := k
  refine ⟨r, w', q, hm, ?_⟩
  intro p l e R s m args below meth c Q' D b0 c0 s0 w0 ad0 C K H locs cells slots ad rl S
  exact lv_iload C.1 C.2.1 hd (S.2.2.1.get hl) (f p l e R s m args below meth c Q' D b0 c0 s0 w0 ad0 C K H locs cells slots ad rl (S.push (v := .inl x) trivial))
theorem XE.aload_n {n : Fin 4} {q : Nat × Nat} (hd : decode cc pc = .ok (.aload_n n, 1)) (hl : ls[n.val]? = some (some (.inr q))) (k : XE own cc nL ret ini d (pc + 1) ls (.inr q :: st) w Q) : XE own cc nL ret ini d pc ls st w Q := by
  obtain ⟨r, w', hq, hm, f⟩ := k
  refine ⟨r, w', hq, hm, ?_⟩
  intro p l e R s m args below meth c Q' D b0 c0 s0 w0 ad0 C K H locs cells slots ad rl S
  have g := S.2.2.1.get hl
  have f2 := f p l e R s m args below meth c Q' D b0 c0 s0 w0 ad0 C K H locs cells slots ad rl (S.push (S.loc hl))
  obtain ⟨k1, o⟩ := q
  cases o with
  | zero => exact lv_aload_nN C.1 C.2.1 hd rfl g f2
  | succ o => exact lv_aload_n (x := ad k1 (o + 1)) C.1 C.2.1 hd rfl g f2
theorem XE.aload {n : Nat} {q : Nat × Nat} (hd : decode cc pc = .ok (.aload n, 2)) (hl : ls[n]? = some (some (.inr q))) (k : XE own cc nL ret ini d (pc + 2) ls (.inr q :: st) w Q) : XE own cc nL ret ini d pc ls st w Q := by
  obtain ⟨r, w', hq, hm, f⟩ := k
  refine ⟨r, w', hq, hm, ?_⟩
  intro p l e R s m args below meth c Q' D b0 c0 s0 w0 ad0 C K H locs cells slots ad rl S
  have g := S.2.2.1.get hl
  have f2 := f p l e R s m args below meth c Q' D b0 c0 s0 w0 ad0 C K H locs cells slots ad rl (S.push (S.loc hl))
  obtain ⟨k1, o⟩ := q
  cases o with
  | zero => exact lv_aloadN C.1 C.2.1 hd g f2
  | succ o => exact lv_aload (x := ad k1 (o + 1)) C.1 C.2.1 hd g f2
theorem XE.istore_n {n : Fin 4} {x : Int32} (hd : decode cc pc = .ok (.istore_n n, 1)) (hn : n.val < nL) (k : XE own cc nL ret ini d (pc + 1) (ls.set n.val (some (.inl x))) st w Q) : XE own cc nL ret ini d pc ls (.inl x :: st) w Q := by
  obtain ⟨r, w', hq, hm, f⟩ := k
  refine ⟨r, w', hq, hm, ?_⟩
  intro p l e R s m args below meth c Q' D b0 c0 s0 w0 ad0 C K H locs cells slots ad rl S
  exact lv_istore_n C.1 C.2.1 hd rfl S.2.2.1.2 hn rfl (fun rl' h' => f p l e R s m args below meth c Q' D b0 c0 s0 w0 ad0 C K H locs cells slots ad rl' (S.pop.setl (v := .inl x) trivial h'))
theorem XE.istore {n : Nat} {x : Int32} (hd : decode cc pc = .ok (.istore n, 2)) (hn : n < nL) (k : XE own cc nL ret ini d (pc + 2) (ls.set n (some (.inl x))) st w Q) : XE own cc nL ret ini d pc ls (.inl x :: st) w Q := by
  obtain ⟨r, w', hq, hm, f⟩ := k
  refine ⟨r, w', hq, hm, ?_⟩
  intro p l e R s m args below meth c Q' D b0 c0 s0 w0 ad0 C K H locs cells slots ad rl S
  exact lv_istore C.1 C.2.1 hd S.2.2.1.2 hn rfl (fun rl' h' => f p l e R s m args below meth c Q' D b0 c0 s0 w0 ad0 C K H locs cells slots ad rl' (S.pop.setl (v := .inl x) trivial h'))
theorem XE.astore_n {n : Fin 4} {q : Nat × Nat} (hd : decode cc pc = .ok (.astore_n n, 1)) (hn : n.val < nL) (k : XE own cc nL ret ini d (pc + 1) (ls.set n.val (some (.inr q))) st w Q) : XE own cc nL ret ini d pc ls (.inr q :: st) w Q := by
  obtain ⟨r, w', hq, hm, f⟩ := k
  refine ⟨r, w', hq, hm, ?_⟩
  intro p l e R s m args below meth c Q' D b0 c0 s0 w0 ad0 C K H locs cells slots ad rl S
  have f2 := fun rl' h' => f p l e R s m args below meth c Q' D b0 c0 s0 w0 ad0 C K H locs cells slots ad rl' (S.pop.setl (i := n.val) (v := .inr q) S.top h')
  obtain ⟨k1, o⟩ := q
  cases o with
  | zero => exact lv_astore_nN C.1 C.2.1 hd rfl S.2.2.1.2 hn rfl f2
  | succ o => exact lv_astore_n (x := ad k1 (o + 1)) C.1 C.2.1 hd rfl S.2.2.1.2 hn rfl f2
theorem XE.astore {n : Nat} {q : Nat × Nat} (hd : decode cc pc = .ok (.astore n, 2)) (hn : n < nL) (k : XE own cc nL ret ini d (pc + 2) (ls.set n (some (.inr q))) st w Q) : XE own cc nL ret ini d pc ls (.inr q :: st) w Q := by
  obtain ⟨r, w', hq, hm, f⟩ := k
  refine ⟨r, w', hq, hm, ?_⟩
  intro p l e R s m args below meth c Q' D b0 c0 s0 w0 ad0 C K H locs cells slots ad rl S
  have f2 := fun rl' h' => f p l e R s m args below meth c Q' D b0 c0 s0 w0 ad0 C K H locs cells slots ad rl' (S.pop.setl (i := n) (v := .inr q) S.top h')
  obtain ⟨k1, o⟩ := q
  cases o with
  | zero => exact lv_astoreN C.1 C.2.1 hd S.2.2.1.2 hn rfl f2
  | succ o => exact lv_astore (x := ad k1 (o + 1)) C.1 C.2.1 hd S.2.2.1.2 hn rfl f2
theorem XE.iinc {i : Nat} {n : Int} {x y : Int32} (hd : decode cc pc = .ok (.iinc i n, 3)) (hl : ls[i]? = some (some (.inl x))) (hv : x + Int32.ofInt n = y) (k : XE own cc nL ret ini d (pc + 3) (ls.set i (some (.inl y))) st w Q) : XE own cc nL ret ini d pc ls st w Q := by
  obtain ⟨r, w', hq, hm, f⟩ := k
  refine ⟨r, w', hq, hm, ?_⟩
  intro p l e R s m args below meth c Q' D b0 c0 s0 w0 ad0 C K H locs cells slots ad rl S
  obtain ⟨j, hj⟩ := List.getElem?_of_mem (prs_of (ad := ad) hl)
  have hn : i < nL := by rw [← S.2.2.1.1]; exact (List.getElem?_eq_some_iff.mp hl).1
  exact lv_iinc C.1 C.2.1 hd S.2.2.1.2 hj hv hn rfl (fun rl' h' => f p l e R s m args below meth c Q' D b0 c0 s0 w0 ad0 C K H locs cells slots ad rl' (S.setl (v := .inl y) trivial h'))
theorem XE.iadd {x y z : Int32} (hd : decode cc pc = .ok (.iadd, 1)) (hv : x + y = z) (k : XE own cc nL ret ini d (pc + 1) ls (.inl z :: st) w Q) : XE own cc nL ret ini d pc ls (.inl y :: .inl x :: st) w Q := by
  obtain ⟨r, w', q, hm, f⟩ := k
  refine ⟨r, w', q, hm, ?_⟩
  intro p l e R s m args below meth c Q' D b0 c0 s0 w0 ad0 C K H locs cells slots ad rl S
  subst hv
  exact lv_iadd C.1 C.2.1 hd (f p l e R s m args below meth c Q' D b0 c0 s0 w0 ad0 C K H locs cells slots ad rl (S.pop.pop.push (v := .inl _) trivial))
theorem XE.isub {x y z : Int32} (hd : decode cc pc = .ok (.isub, 1)) (hv : x - y = z) (k : XE own cc nL ret ini d (pc + 1) ls (.inl z :: st) w Q) : XE own cc nL ret ini d pc ls (.inl y :: .inl x :: st) w Q := by
  obtain ⟨r, w', q, hm, f⟩ := k
  refine ⟨r, w', q, hm, ?_⟩
  intro p l e R s m args below meth c Q' D b0 c0 s0 w0 ad0 C K H locs cells slots ad rl S
  subst hv
  exact lv_isub C.1 C.2.1 hd (f p l e R s m args below meth c Q' D b0 c0 s0 w0 ad0 C K H locs cells slots ad rl (S.pop.pop.push (v := .inl _) trivial))
theorem XE.imul {x y z : Int32} (hd : decode cc pc = .ok (.imul, 1)) (hv : x * y = z) (k : XE own cc nL ret ini d (pc + 1) ls (.inl z :: st) w Q) : XE own cc nL ret ini d pc ls (.inl y :: .inl x :: st) w Q := by
  obtain ⟨r, w', q, hm, f⟩ := k
  refine ⟨r, w', q, hm, ?_⟩
  intro p l e R s m args below meth c Q' D b0 c0 s0 w0 ad0 C K H locs cells slots ad rl S
  subst hv
  exact lv_imul C.1 C.2.1 hd (f p l e R s m args below meth c Q' D b0 c0 s0 w0 ad0 C K H locs cells slots ad rl (S.pop.pop.push (v := .inl _) trivial))
theorem XE.iand {x y z : Int32} (hd : decode cc pc = .ok (.iand, 1)) (hv : x &&& y = z) (k : XE own cc nL ret ini d (pc + 1) ls (.inl z :: st) w Q) : XE own cc nL ret ini d pc ls (.inl y :: .inl x :: st) w Q := by
  obtain ⟨r, w', q, hm, f⟩ := k
  refine ⟨r, w', q, hm, ?_⟩
  intro p l e R s m args below meth c Q' D b0 c0 s0 w0 ad0 C K H locs cells slots ad rl S
  subst hv
  exact lv_iand C.1 C.2.1 hd (f p l e R s m args below meth c Q' D b0 c0 s0 w0 ad0 C K H locs cells slots ad rl (S.pop.pop.push (v := .inl _) trivial))
theorem XE.ior {x y z : Int32} (hd : decode cc pc = .ok (.ior, 1)) (hv : x ||| y = z) (k : XE own cc nL ret ini d (pc + 1) ls (.inl z :: st) w Q) : XE own cc nL ret ini d pc ls (.inl y :: .inl x :: st) w Q := by
  obtain ⟨r, w', q, hm, f⟩ := k
  refine ⟨r, w', q, hm, ?_⟩
  intro p l e R s m args below meth c Q' D b0 c0 s0 w0 ad0 C K H locs cells slots ad rl S
  subst hv
  exact lv_ior C.1 C.2.1 hd (f p l e R s m args below meth c Q' D b0 c0 s0 w0 ad0 C K H locs cells slots ad rl (S.pop.pop.push (v := .inl _) trivial))
theorem XE.ixor {x y z : Int32} (hd : decode cc pc = .ok (.ixor, 1)) (hv : x ^^^ y = z) (k : XE own cc nL ret ini d (pc + 1) ls (.inl z :: st) w Q) : XE own cc nL ret ini d pc ls (.inl y :: .inl x :: st) w Q := by
  obtain ⟨r, w', q, hm, f⟩ := k
  refine ⟨r, w', q, hm, ?_⟩
  intro p l e R s m args below meth c Q' D b0 c0 s0 w0 ad0 C K H locs cells slots ad rl S
  subst hv
  exact lv_ixor C.1 C.2.1 hd (f p l e R s m args below meth c Q' D b0 c0 s0 w0 ad0 C K H locs cells slots ad rl (S.pop.pop.push (v := .inl _) trivial))
theorem XE.ineg {x z : Int32} (hd : decode cc pc = .ok (.ineg, 1)) (hv : -x = z) (k : XE own cc nL ret ini d (pc + 1) ls (.inl z :: st) w Q) : XE own cc nL ret ini d pc ls (.inl x :: st) w Q := by
  obtain ⟨r, w', q, hm, f⟩ := k
  refine ⟨r, w', q, hm, ?_⟩
  intro p l e R s m args below meth c Q' D b0 c0 s0 w0 ad0 C K H locs cells slots ad rl S
  subst hv
  exact lv_ineg C.1 C.2.1 hd (f p l e R s m args below meth c Q' D b0 c0 s0 w0 ad0 C K H locs cells slots ad rl (S.pop.push (v := .inl _) trivial))
theorem XE.dup {v : VV} (hd : decode cc pc = .ok (.dup, 1)) (k : XE own cc nL ret ini d (pc + 1) ls (v :: v :: st) w Q) : XE own cc nL ret ini d pc ls (v :: st) w Q := by
  obtain ⟨r, w', q, hm, f⟩ := k
  refine ⟨r, w', q, hm, ?_⟩
  intro p l e R s m args below meth c Q' D b0 c0 s0 w0 ad0 C K H locs cells slots ad rl S
  exact lv_dup C.1 C.2.1 hd (vv_cat ad v) (f p l e R s m args below meth c Q' D b0 c0 s0 w0 ad0 C K H locs cells slots ad rl (S.push S.top))
theorem XE.pop {v : VV} (hd : decode cc pc = .ok (.pop, 1)) (k : XE own cc nL ret ini d (pc + 1) ls st w Q) : XE own cc nL ret ini d pc ls (v :: st) w Q := by
  obtain ⟨r, w', q, hm, f⟩ := k
  refine ⟨r, w', q, hm, ?_⟩
  intro p l e R s m args below meth c Q' D b0 c0 s0 w0 ad0 C K H locs cells slots ad rl S
  exact lv_pop C.1 C.2.1 hd (vv_cat ad v) (f p l e R s m args below meth c Q' D b0 c0 s0 w0 ad0 C K H locs cells slots ad rl S.pop)
theorem XE.dup_x1 {a b : VV} (hd : decode cc pc = .ok (.dup_x1, 1)) (k : XE own cc nL ret ini d (pc + 1) ls (a :: b :: a :: st) w Q) : XE own cc nL ret ini d pc ls (a :: b :: st) w Q := by
  obtain ⟨r, w', q, hm, f⟩ := k
  refine ⟨r, w', q, hm, ?_⟩
  intro p l e R s m args below meth c Q' D b0 c0 s0 w0 ad0 C K H locs cells slots ad rl S
  exact lv_dup_x1 C.1 C.2.1 hd (vv_cat ad a) (vv_cat ad b) (f p l e R s m args below meth c Q' D b0 c0 s0 w0 ad0 C K H locs cells slots ad rl (((S.pop.pop.push S.top).push S.pop.top).push S.top))
theorem XE.dup2 {a b : VV} (hd : decode cc pc = .ok (.dup2, 1)) (k : XE own cc nL ret ini d (pc + 1) ls (a :: b :: a :: b :: st) w Q) : XE own cc nL ret ini d pc ls (a :: b :: st) w Q := by
  obtain ⟨r, w', q, hm, f⟩ := k
  refine ⟨r, w', q, hm, ?_⟩
  intro p l e R s m args below meth c Q' D b0 c0 s0 w0 ad0 C K H locs cells slots ad rl S
  exact lv_dup2_11 C.1 C.2.1 hd (vv_cat ad a) (vv_cat ad b) (f p l e R s m args below meth c Q' D b0 c0 s0 w0 ad0 C K H locs cells slots ad rl ((S.push S.pop.top).push S.top))
theorem XE.if_eq {x : Int32} {off : Int} (tgt : Nat) (hd : decode cc pc = .ok (.ifCond .eq off, 3)) (ht : (pc : Int) + off = (tgt : Int)) (kt : x = 0 → XE own cc nL ret ini d tgt ls st w Q) (kf : ¬ x = 0 → XE own cc nL ret ini d (pc + 3) ls st w Q) : XE own cc nL ret ini d pc ls (.inl x :: st) w Q := by
  by_cases hc : x = 0
  · obtain ⟨r, w', q, hm, f⟩ := kt hc
    refine ⟨r, w', q, hm, ?_⟩
    intro p l e R s m args below meth c Q' D b0 c0 s0 w0 ad0 C K H locs cells slots ad rl S
    have f2 := f p l e R s m args below meth c Q' D b0 c0 s0 w0 ad0 C K H locs cells slots ad rl S.pop
    exact lv_if_eq C.1 C.2.1 hd ht (fun z => f2) (fun z => absurd hc z)
  · obtain ⟨r, w', q, hm, f⟩ := kf hc
    refine ⟨r, w', q, hm, ?_⟩
    intro p l e R s m args below meth c Q' D b0 c0 s0 w0 ad0 C K H locs cells slots ad rl S
    have f2 := f p l e R s m args below meth c Q' D b0 c0 s0 w0 ad0 C K H locs cells slots ad rl S.pop
    exact lv_if_eq C.1 C.2.1 hd ht (fun z => absurd z hc) (fun z => f2)
theorem XE.icmp_eq {x y : Int32} {off : Int} (tgt : Nat) (hd : decode cc pc = .ok (.if_icmp .eq off, 3)) (ht : (pc : Int) + off = (tgt : Int)) (kt : x = y → XE own cc nL ret ini d tgt ls st w Q) (kf : ¬ x = y → XE own cc nL ret ini d (pc + 3) ls st w Q) : XE own cc nL ret ini d pc ls (.inl y :: .inl x :: st) w Q := by
  by_cases hc : x = y
  · obtain ⟨r, w', q, hm, f⟩ := kt hc
    refine ⟨r, w', q, hm, ?_⟩
    intro p l e R s m args below meth c Q' D b0 c0 s0 w0 ad0 C K H locs cells slots ad rl S
    have f2 := f p l e R s m args below meth c Q' D b0 c0 s0 w0 ad0 C K H locs cells slots ad rl S.pop.pop
    exact lv_icmp_eq C.1 C.2.1 hd ht (fun z => f2) (fun z => absurd hc z)
  · obtain ⟨r, w', q, hm, f⟩ := kf hc
    refine ⟨r, w', q, hm, ?_⟩
    intro p l e R s m args below meth c Q' D b0 c0 s0 w0 ad0 C K H locs cells slots ad rl S
    have f2 := f p l e R s m args below meth c Q' D b0 c0 s0 w0 ad0 C K H locs cells slots ad rl S.pop.pop
    exact lv_icmp_eq C.1 C.2.1 hd ht (fun z => absurd z hc) (fun z => f2)
theorem XE.if_ne {x : Int32} {off : Int} (tgt : Nat) (hd : decode cc pc = .ok (.ifCond .ne off, 3)) (ht : (pc : Int) + off = (tgt : Int)) (kt : ¬ x = 0 → XE own cc nL ret ini d tgt ls st w Q) (kf : x = 0 → XE own cc nL ret ini d (pc + 3) ls st w Q) : XE own cc nL ret ini d pc ls (.inl x :: st) w Q := by
  by_cases hc : x = 0
  · obtain ⟨r, w', q, hm, f⟩ := kf hc
    refine ⟨r, w', q, hm, ?_⟩
    intro p l e R s m args below meth c Q' D b0 c0 s0 w0 ad0 C K H locs cells slots ad rl S
    have f2 := f p l e R s m args below meth c Q' D b0 c0 s0 w0 ad0 C K H locs cells slots ad rl S.pop
    exact lv_if_ne C.1 C.2.1 hd ht (fun z => absurd hc z) (fun z => f2)
  · obtain ⟨r, w', q, hm, f⟩ := kt hc
    refine ⟨r, w', q, hm, ?_⟩
    intro p l e R s m args below meth c Q' D b0 c0 s0 w0 ad0 C K H locs cells slots ad rl S
    have f2 := f p l e R s m args below meth c Q' D b0 c0 s0 w0 ad0 C K H locs cells slots ad rl S.pop
    exact lv_if_ne C.1 C.2.1 hd ht (fun z => f2) (fun z => absurd z hc)
theorem XE.icmp_ne {x y : Int32} {off : Int} (tgt : Nat) (hd : decode cc pc = .ok (.if_icmp .ne off, 3)) (ht : (pc : Int) + off = (tgt : Int)) (kt : ¬ x = y → XE own cc nL ret ini d tgt ls st w Q) (kf : x = y → XE own cc nL ret ini d (pc + 3) ls st w Q) : XE own cc nL ret ini d pc ls (.inl y :: .inl x :: st) w Q := by
  by_cases hc : x = y
  · obtain ⟨r, w', q, hm, f⟩ := kf hc
    refine ⟨r, w', q, hm, ?_⟩
    intro p l e R s m args below meth c Q' D b0 c0 s0 w0 ad0 C K H locs cells slots ad rl S
    have f2 := f p l e R s m args below meth c Q' D b0 c0 s0 w0 ad0 C K H locs cells slots ad rl S.pop.pop
    exact lv_icmp_ne C.1 C.2.1 hd ht (fun z => absurd hc z) (fun z => f2)
  · obtain ⟨r, w', q, hm, f⟩ := kt hc
    refine ⟨r, w', q, hm, ?_⟩
    intro p l e R s m args below meth c Q' D b0 c0 s0 w0 ad0 C K H locs cells slots ad rl S
    have f2 := f p l e R s m args below meth c Q' D b0 c0 s0 w0 ad0 C K H locs cells slots ad rl S.pop.pop
    exact lv_icmp_ne C.1 C.2.1 hd ht (fun z => f2) (fun z => absurd z hc)
theorem XE.if_lt {x : Int32} {off : Int} (tgt : Nat) (hd : decode cc pc = .ok (.ifCond .lt off, 3)) (ht : (pc : Int) + off = (tgt : Int)) (kt : x < 0 → XE own cc nL ret ini d tgt ls st w Q) (kf : ¬ x < 0 → XE own cc nL ret ini d (pc + 3) ls st w Q) : XE own cc nL ret ini d pc ls (.inl x :: st) w Q := by
  by_cases hc : x < 0
  · obtain ⟨r, w', q, hm, f⟩ := kt hc
    refine ⟨r, w', q, hm, ?_⟩
    intro p l e R s m args below meth c Q' D b0 c0 s0 w0 ad0 C K H locs cells slots ad rl S
    have f2 := f p l e R s m args below meth c Q' D b0 c0 s0 w0 ad0 C K H locs cells slots ad rl S.pop
    exact lv_if_lt C.1 C.2.1 hd ht (fun z => f2) (fun z => absurd hc z)
  · obtain ⟨r, w', q, hm, f⟩ := kf hc
    refine ⟨r, w', q, hm, ?_⟩
    intro p l e R s m args below meth c Q' D b0 c0 s0 w0 ad0 C K H locs cells slots ad rl S
    have f2 := f p l e R s m args below meth c Q' D b0 c0 s0 w0 ad0 C K H locs cells slots ad rl S.pop
    exact lv_if_lt C.1 C.2.1 hd ht (fun z => absurd z hc) (fun z => f2)
theorem XE.icmp_lt {x y : Int32} {off : Int} (tgt : Nat) (hd : decode cc pc = .ok (.if_icmp .lt off, 3)) (ht : (pc : Int) + off = (tgt : Int)) (kt : x < y → XE own cc nL ret ini d tgt ls st w Q) (kf : ¬ x < y → XE own cc nL ret ini d (pc + 3) ls st w Q) : XE own cc nL ret ini d pc ls (.inl y :: .inl x :: st) w Q := by
  by_cases hc : x < y
  · obtain ⟨r, w', q, hm, f⟩ := kt hc
    refine ⟨r, w', q, hm, ?_⟩
    intro p l e R s m args below meth c Q' D b0 c0 s0 w0 ad0 C K H locs cells slots ad rl S
    have f2 := f p l e R s m args below meth c Q' D b0 c0 s0 w0 ad0 C K H locs cells slots ad rl S.pop.pop
    exact lv_icmp_lt C.1 C.2.1 hd ht (fun z => f2) (fun z => absurd hc z)
  · obtain ⟨r, w', q, hm, f⟩ := kf hc
    refine ⟨r, w', q, hm, ?_⟩
    intro p l e R s m args below meth c Q' D b0 c0 s0 w0 ad0 C K H locs cells slots ad rl S
    have f2 := f p l e R s m args below meth c Q' D b0 c0 s0 w0 ad0 C K H locs cells slots ad rl S.pop.pop
    exact lv_icmp_lt C.1 C.2.1 hd ht (fun z => absurd z hc) (fun z => f2)
theorem XE.if_ge {x : Int32} {off : Int} (tgt : Nat) (hd : decode cc pc = .ok (.ifCond .ge off, 3)) (ht : (pc : Int) + off = (tgt : Int)) (kt : 0 ≤ x → XE own cc nL ret ini d tgt ls st w Q) (kf : ¬ 0 ≤ x → XE own cc nL ret ini d (pc + 3) ls st w Q) : XE own cc nL ret ini d pc ls (.inl x :: st) w Q := by
  by_cases hc : 0 ≤ x
  · obtain ⟨r, w', q, hm, f⟩ := kt hc
    refine ⟨r, w', q, hm, ?_⟩
    intro p l e R s m args below meth c Q' D b0 c0 s0 w0 ad0 C K H locs cells slots ad rl S
    have f2 := f p l e R s m args below meth c Q' D b0 c0 s0 w0 ad0 C K H locs cells slots ad rl S.pop
    exact lv_if_ge C.1 C.2.1 hd ht (fun z => f2) (fun z => absurd hc z)
  · obtain ⟨r, w', q, hm, f⟩ := kf hc
    refine ⟨r, w', q, hm, ?_⟩
    intro p l e R s m args below meth c Q' D b0 c0 s0 w0 ad0 C K H locs cells slots ad rl S
    have f2 := f p l e R s m args below meth c Q' D b0 c0 s0 w0 ad0 C K H locs cells slots ad rl S.pop
    exact lv_if_ge C.1 C.2.1 hd ht (fun z => absurd z hc) (fun z => f2)
theorem XE.icmp_ge {x y : Int32} {off : Int} (tgt : Nat) (hd : decode cc pc = .ok (.if_icmp .ge off, 3)) (ht : (pc : Int) + off = (tgt : Int)) (kt : y ≤ x → XE own cc nL ret ini d tgt ls st w Q) (kf : ¬ y ≤ x → XE own cc nL ret ini d (pc + 3) ls st w Q) : XE own cc nL ret ini d pc ls (.inl y :: .inl x :: st) w Q := by
  by_cases hc : y ≤ x
  · obtain ⟨r, w', q, hm, f⟩ := kt hc
    refine ⟨r, w', q, hm, ?_⟩
    intro p l e R s m args below meth c Q' D b0 c0 s0 w0 ad0 C K H locs cells slots ad rl S
    have f2 := f p l e R s m args below meth c Q' D b0 c0 s0 w0 ad0 C K H locs cells slots ad rl S.pop.pop
    exact lv_icmp_ge C.1 C.2.1 hd ht (fun z => f2) (fun z => absurd hc z)
  · obtain ⟨r, w', q, hm, f⟩ := kf hc
    refine ⟨r, w', q, hm, ?_⟩
    intro p l e R s m args below meth c Q' D b0 c0 s0 w0 ad0 C K H locs cells slots ad rl S
    have f2 := f p l e R s m args below meth c Q' D b0 c0 s0 w0 ad0 C K H locs cells slots ad rl S.pop.pop
    exact lv_icmp_ge C.1 C.2.1 hd ht (fun z => absurd z hc) (fun z => f2)
theorem XE.if_gt {x : Int32} {off : Int} (tgt : Nat) (hd : decode cc pc = .ok (.ifCond .gt off, 3)) (ht : (pc : Int) + off = (tgt : Int)) (kt : 0 < x → XE own cc nL ret ini d tgt ls st w Q) (kf : ¬ 0 < x → XE own cc nL ret ini d (pc + 3) ls st w Q) : XE own cc nL ret ini d pc ls (.inl x :: st) w Q := by
  by_cases hc : 0 < x
  · obtain ⟨r, w', q, hm, f⟩ := kt hc
    refine ⟨r, w', q, hm, ?_⟩
    intro p l e R s m args below meth c Q' D b0 c0 s0 w0 ad0 C K H locs cells slots ad rl S
    have f2 := f p l e R s m args below meth c Q' D b0 c0 s0 w0 ad0 C K H locs cells slots ad rl S.pop
    exact lv_if_gt C.1 C.2.1 hd ht (fun z => f2) (fun z => absurd hc z)
  · obtain ⟨r, w', q, hm, f⟩ := kf hc
    refine ⟨r, w', q, hm, ?_⟩
    intro p l e R s m args below meth c Q' D b0 c0 s0 w0 ad0 C K H locs cells slots ad rl S
    have f2 := f p l e R s m args below meth c Q' D b0 c0 s0 w0 ad0 C K H locs cells slots ad rl S.pop
    exact lv_if_gt C.1 C.2.1 hd ht (fun z => absurd z hc) (fun z => f2)
theorem XE.icmp_gt {x y : Int32} {off : Int} (tgt : Nat) (hd : decode cc pc = .ok (.if_icmp .gt off, 3)) (ht : (pc : Int) + off = (tgt : Int)) (kt : y < x → XE own cc nL ret ini d tgt ls st w Q) (kf : ¬ y < x → XE own cc nL ret ini d (pc + 3) ls st w Q) : XE own cc nL ret ini d pc ls (.inl y :: .inl x :: st) w Q := by
  by_cases hc : y < x
  · obtain ⟨r, w', q, hm, f⟩ := kt hc
    refine ⟨r, w', q, hm, ?_⟩
    intro p l e R s m args below meth c Q' D b0 c0 s0 w0 ad0 C K H locs cells slots ad rl S
    have f2 := f p l e R s m args below meth c Q' D b0 c0 s0 w0 ad0 C K H locs cells slots ad rl S.pop.pop
    exact lv_icmp_gt C.1 C.2.1 hd ht (fun z => f2) (fun z => absurd hc z)
  · obtain ⟨r, w', q, hm, f⟩ := kf hc
    refine ⟨r, w', q, hm, ?_⟩
    intro p l e R s m args below meth c Q' D b0 c0 s0 w0 ad0 C K H locs cells slots ad rl S
    have f2 := f p l e R s m args below meth c Q' D b0 c0 s0 w0 ad0 C K H locs cells slots ad rl S.pop.pop
    exact lv_icmp_gt C.1 C.2.1 hd ht (fun z => absurd z hc) (fun z => f2)
theorem XE.if_le {x : Int32} {off : Int} (tgt : Nat) (hd : decode cc pc = .ok (.ifCond .le off, 3)) (ht : (pc : Int) + off = (tgt : Int)) (kt : x ≤ 0 → XE own cc nL ret ini d tgt ls st w Q) (kf : ¬ x ≤ 0 → XE own cc nL ret ini d (pc + 3) ls st w Q) : XE own cc nL ret ini d pc ls (.inl x :: st) w Q := by
  by_cases hc : x ≤ 0
  · obtain ⟨r, w', q, hm, f⟩ := kt hc
    refine ⟨r, w', q, hm, ?_⟩
    intro p l e R s m args below meth c Q' D b0 c0 s0 w0 ad0 C K H locs cells slots ad rl S
    have f2 := f p l e R s m args below meth c Q' D b0 c0 s0 w0 ad0 C K H locs cells slots ad rl S.pop
    exact lv_if_le C.1 C.2.1 hd ht (fun z => f2) (fun z => absurd hc z)
  · obtain ⟨r, w', q, hm, f⟩ := kf hc
    refine ⟨r, w', q, hm, ?_⟩
    intro p l e R s m args below meth c Q' D b0 c0 s0 w0 ad0 C K H locs cells slots ad rl S
    have f2 := f p l e R s m args below meth c Q' D b0 c0 s0 w0 ad0 C K H locs cells slots ad rl S.pop
    exact lv_if_le C.1 C.2.1 hd ht (fun z => absurd z hc) (fun z => f2)
theorem XE.icmp_le {x y : Int32} {off : Int} (tgt : Nat) (hd : decode cc pc = .ok (.if_icmp .le off, 3)) (ht : (pc : Int) + off = (tgt : Int)) (kt : x ≤ y → XE own cc nL ret ini d tgt ls st w Q) (kf : ¬ x ≤ y → XE own cc nL ret ini d (pc + 3) ls st w Q) : XE own cc nL ret ini d pc ls (.inl y :: .inl x :: st) w Q := by
  by_cases hc : x ≤ y
  · obtain ⟨r, w', q, hm, f⟩ := kt hc
    refine ⟨r, w', q, hm, ?_⟩
    intro p l e R s m args below meth c Q' D b0 c0 s0 w0 ad0 C K H locs cells slots ad rl S
    have f2 := f p l e R s m args below meth c Q' D b0 c0 s0 w0 ad0 C K H locs cells slots ad rl S.pop.pop
    exact lv_icmp_le C.1 C.2.1 hd ht (fun z => f2) (fun z => absurd hc z)
  · obtain ⟨r, w', q, hm, f⟩ := kf hc
    refine ⟨r, w', q, hm, ?_⟩
    intro p l e R s m args below meth c Q' D b0 c0 s0 w0 ad0 C K H locs cells slots ad rl S
    have f2 := f p l e R s m args below meth c Q' D b0 c0 s0 w0 ad0 C K H locs cells slots ad rl S.pop.pop
    exact lv_icmp_le C.1 C.2.1 hd ht (fun z => absurd z hc) (fun z => f2)
theorem XE.goto {off : Int} (tgt : Nat) (hd : decode cc pc = .ok (.goto off, 3)) (ht : (pc : Int) + off = (tgt : Int)) (k : XE own cc nL ret ini d tgt ls st w Q) : XE own cc nL ret ini d pc ls st w Q := by
  obtain ⟨r, w', q, hm, f⟩ := k
  refine ⟨r, w', q, hm, ?_⟩
  intro p l e R s m args below meth c Q' D b0 c0 s0 w0 ad0 C K H locs cells slots ad rl S
  exact lv_goto C.1 C.2.1 hd ht (f p l e R s m args below meth c Q' D b0 c0 s0 w0 ad0 C K H locs cells slots ad rl S)
theorem XE.ifnull {kk o : Nat} {off : Int} (tgt : Nat) (hd : decode cc pc = .ok (.ifnull off, 3)) (ht : (pc : Int) + off = (tgt : Int)) (kt : o = 0 → XE own cc nL ret ini d tgt ls st w Q) (kf : o ≠ 0 → XE own cc nL ret ini d (pc + 3) ls st w Q) : XE own cc nL ret ini d pc ls (.inr (kk, o) :: st) w Q := by
  cases o with
  | zero =>
    obtain ⟨r, w', q, hm, f⟩ := kt rfl
    refine ⟨r, w', q, hm, ?_⟩
    intro p l e R s m args below meth c Q' D b0 c0 s0 w0 ad0 C K H locs cells slots ad rl S
    exact lv_ifnullN C.1 C.2.1 hd ht (f p l e R s m args below meth c Q' D b0 c0 s0 w0 ad0 C K H locs cells slots ad rl S.pop)
  | succ o =>
    obtain ⟨r, w', q, hm, f⟩ := kf (Nat.succ_ne_zero o)
    refine ⟨r, w', q, hm, ?_⟩
    intro p l e R s m args below meth c Q' D b0 c0 s0 w0 ad0 C K H locs cells slots ad rl S
    exact lv_ifnull (x := ad kk (o + 1)) C.1 C.2.1 hd (f p l e R s m args below meth c Q' D b0 c0 s0 w0 ad0 C K H locs cells slots ad rl S.pop)
theorem XE.ifnonnull {kk o : Nat} {off : Int} (tgt : Nat) (hd : decode cc pc = .ok (.ifnonnull off, 3)) (ht : (pc : Int) + off = (tgt : Int)) (kt : o ≠ 0 → XE own cc nL ret ini d tgt ls st w Q) (kf : o = 0 → XE own cc nL ret ini d (pc + 3) ls st w Q) : XE own cc nL ret ini d pc ls (.inr (kk, o) :: st) w Q := by
  cases o with
  | zero =>
    obtain ⟨r, w', q, hm, f⟩ := kf rfl
    refine ⟨r, w', q, hm, ?_⟩
    intro p l e R s m args below meth c Q' D b0 c0 s0 w0 ad0 C K H locs cells slots ad rl S
    exact lv_ifnonnullN C.1 C.2.1 hd (f p l e R s m args below meth c Q' D b0 c0 s0 w0 ad0 C K H locs cells slots ad rl S.pop)
  | succ o =>
    obtain ⟨r, w', q, hm, f⟩ := kt (Nat.succ_ne_zero o)
    refine ⟨r, w', q, hm, ?_⟩
    intro p l e R s m args below meth c Q' D b0 c0 s0 w0 ad0 C K H locs cells slots ad rl S
    exact lv_ifnonnull (x := ad kk (o + 1)) C.1 C.2.1 hd ht (f p l e R s m args below meth c Q' D b0 c0 s0 w0 ad0 C K H locs cells slots ad rl S.pop)
theorem rv_rf (ad : AD) (q : Nat × Nat) : rv ad q = va_rf (if q.2 = 0 then none else some (ad q.1 q.2)) := by
  unfold rv
  by_cases h : q.2 = 0
  · rw [if_pos h, if_pos h]; rfl
  · rw [if_neg h, if_neg h]; rfl
theorem rf_eq {s : State} {D : va_G} {b0 : Nat} {ad : AD} {w : WW} {H : Heap} (hR : Rel s D b0 ad w H) {k x y : Nat} (hk : k ≠ 99) (hx : x ≤ wC w k) (hy : y ≤ wC w k) :
    ((if x = 0 then none else some (ad k x)) = (if y = 0 then (none : Option Nat) else some (ad k y))) ↔ x = y := by
  by_cases h1 : x = 0 <;> by_cases h2 : y = 0
  · simp [h1, h2]
  · simp [h1, h2]; exact fun h => h2 h.symm
  · simp [h1, h2]
  · simp only [h1, h2, if_false, Option.some.injEq]
    exact ⟨fun h => (hR.2.2.1 k x k y hk hk ⟨Nat.pos_of_ne_zero h1, hx⟩ ⟨Nat.pos_of_ne_zero h2, hy⟩ h).2, fun h => by rw [h]⟩
theorem XE.acmp_eq {kk x y : Nat} {off : Int} (tgt : Nat) (hd : decode cc pc = .ok (.if_acmp .eq off, 3)) (ht : (pc : Int) + off = (tgt : Int)) (hk : kk ≠ 99) (kt : x = y → XE own cc nL ret ini d tgt ls st w Q) (kf : x ≠ y → XE own cc nL ret ini d (pc + 3) ls st w Q) : XE own cc nL ret ini d pc ls (.inr (kk, y) :: .inr (kk, x) :: st) w Q := by
  by_cases hc : x = y
  · obtain ⟨r, w', q, hm, f⟩ := kt hc
    refine ⟨r, w', q, hm, ?_⟩
    intro p l e R s m args below meth c Q' D b0 c0 s0 w0 ad0 C K H locs cells slots ad rl S
    have f2 := f p l e R s m args below meth c Q' D b0 c0 s0 w0 ad0 C K H locs cells slots ad rl S.pop.pop
    have g := lv_acmp_eq (rest := st.map (vv ad)) (ls := rl) C.1 C.2.1 hd ht (fun _ => f2) (fun z => absurd ((rf_eq S.2.1 hk S.pop.top S.top).mpr hc) z)
    rw [← rv_rf ad (kk, y), ← rv_rf ad (kk, x)] at g
    exact g
  · obtain ⟨r, w', q, hm, f⟩ := kf hc
    refine ⟨r, w', q, hm, ?_⟩
    intro p l e R s m args below meth c Q' D b0 c0 s0 w0 ad0 C K H locs cells slots ad rl S
    have f2 := f p l e R s m args below meth c Q' D b0 c0 s0 w0 ad0 C K H locs cells slots ad rl S.pop.pop
    have g := lv_acmp_eq (rest := st.map (vv ad)) (ls := rl) C.1 C.2.1 hd ht (fun z => absurd ((rf_eq S.2.1 hk S.pop.top S.top).mp z) hc) (fun _ => f2)
    rw [← rv_rf ad (kk, y), ← rv_rf ad (kk, x)] at g
    exact g
theorem XE.acmp_ne {kk x y : Nat} {off : Int} (tgt : Nat) (hd : decode cc pc = .ok (.if_acmp .ne off, 3)) (ht : (pc : Int) + off = (tgt : Int)) (hk : kk ≠ 99) (kt : x ≠ y → XE own cc nL ret ini d tgt ls st w Q) (kf : x = y → XE own cc nL ret ini d (pc + 3) ls st w Q) : XE own cc nL ret ini d pc ls (.inr (kk, y) :: .inr (kk, x) :: st) w Q := by
  by_cases hc : x = y
  · obtain ⟨r, w', q, hm, f⟩ := kf hc
    refine ⟨r, w', q, hm, ?_⟩
    intro p l e R s m args below meth c Q' D b0 c0 s0 w0 ad0 C K H locs cells slots ad rl S
    have f2 := f p l e R s m args below meth c Q' D b0 c0 s0 w0 ad0 C K H locs cells slots ad rl S.pop.pop
    have g := lv_acmp_ne (rest := st.map (vv ad)) (ls := rl) C.1 C.2.1 hd ht (fun z => absurd ((rf_eq S.2.1 hk S.pop.top S.top).mpr hc) z) (fun _ => f2)
    rw [← rv_rf ad (kk, y), ← rv_rf ad (kk, x)] at g
    exact g
  · obtain ⟨r, w', q, hm, f⟩ := kt hc
    refine ⟨r, w', q, hm, ?_⟩
    intro p l e R s m args below meth c Q' D b0 c0 s0 w0 ad0 C K H locs cells slots ad rl S
    have f2 := f p l e R s m args below meth c Q' D b0 c0 s0 w0 ad0 C K H locs cells slots ad rl S.pop.pop
    have g := lv_acmp_ne (rest := st.map (vv ad)) (ls := rl) C.1 C.2.1 hd ht (fun _ => f2) (fun z => absurd ((rf_eq S.2.1 hk S.pop.top S.top).mp z) hc)
    rw [← rv_rf ad (kk, y), ← rv_rf ad (kk, x)] at g
    exact g
theorem XE.tableOut {dflt lo hi : Int} {offs : Array Int} {len : Nat} {x : Int32} (tgt : Nat) (hd : decode cc pc = .ok (.tableswitch dflt lo hi offs, len)) (h : x.toInt < lo ∨ hi < x.toInt) (ht : (pc : Int) + dflt = (tgt : Int)) (k : XE own cc nL ret ini d tgt ls st w Q) : XE own cc nL ret ini d pc ls (.inl x :: st) w Q := by
  obtain ⟨r, w', q, hm, f⟩ := k
  refine ⟨r, w', q, hm, ?_⟩
  intro p l e R s m args below meth c Q' D b0 c0 s0 w0 ad0 C K H locs cells slots ad rl S
  exact lv_tableOut C.1 C.2.1 hd h ht (f p l e R s m args below meth c Q' D b0 c0 s0 w0 ad0 C K H locs cells slots ad rl S.pop)
theorem XE.tableIn {dflt lo hi : Int} {offs : Array Int} {len : Nat} {x : Int32} {off : Int} (tgt : Nat) (hd : decode cc pc = .ok (.tableswitch dflt lo hi offs, len)) (h1 : ¬ x.toInt < lo) (h2 : ¬ hi < x.toInt) (ho : offs[(x.toInt - lo).toNat]? = some off) (ht : (pc : Int) + off = (tgt : Int)) (k : XE own cc nL ret ini d tgt ls st w Q) : XE own cc nL ret ini d pc ls (.inl x :: st) w Q := by
  obtain ⟨r, w', q, hm, f⟩ := k
  refine ⟨r, w', q, hm, ?_⟩
  intro p l e R s m args below meth c Q' D b0 c0 s0 w0 ad0 C K H locs cells slots ad rl S
  exact lv_tableIn C.1 C.2.1 hd h1 h2 ho ht (f p l e R s m args below meth c Q' D b0 c0 s0 w0 ad0 C K H locs cells slots ad rl S.pop)
theorem XE.lookup {dflt : Int} {ps : Array (Int × Int)} {len : Nat} {x : Int32} {off : Int} (tgt : Nat) (hd : decode cc pc = .ok (.lookupswitch dflt ps, len)) (hp : (ps.toList.zip (ps.toList.drop 1)).all (fun (a, next) => a.1 < next.1) = true) (ho : Op.lookupswitch.offset ps.toList dflt x.toInt = off) (ht : (pc : Int) + off = (tgt : Int)) (k : XE own cc nL ret ini d tgt ls st w Q) : XE own cc nL ret ini d pc ls (.inl x :: st) w Q := by
  obtain ⟨r, w', q, hm, f⟩ := k
  refine ⟨r, w', q, hm, ?_⟩
  intro p l e R s m args below meth c Q' D b0 c0 s0 w0 ad0 C K H locs cells slots ad rl S
  exact lv_lookup C.1 C.2.1 hd hp ho ht (f p l e R s m args below meth c Q' D b0 c0 s0 w0 ad0 C K H locs cells slots ad rl S.pop)
theorem XE.ishl {x y z : Int32} (hd : decode cc pc = .ok (.ishl, 1)) (hv : x <<< (y &&& 31) = z) (k : XE own cc nL ret ini d (pc + 1) ls (.inl z :: st) w Q) : XE own cc nL ret ini d pc ls (.inl y :: .inl x :: st) w Q := by
  obtain ⟨r, w', q, hm, f⟩ := k
  refine ⟨r, w', q, hm, ?_⟩
  intro p l e R s m args below meth c Q' D b0 c0 s0 w0 ad0 C K H locs cells slots ad rl S
  subst hv
  exact lv_ishl C.1 C.2.1 hd (f p l e R s m args below meth c Q' D b0 c0 s0 w0 ad0 C K H locs cells slots ad rl (S.pop.pop.push (v := .inl _) trivial))
theorem XE.ishr {x y z : Int32} (hd : decode cc pc = .ok (.ishr, 1)) (hv : x >>> (y &&& 31) = z) (k : XE own cc nL ret ini d (pc + 1) ls (.inl z :: st) w Q) : XE own cc nL ret ini d pc ls (.inl y :: .inl x :: st) w Q := by
  obtain ⟨r, w', q, hm, f⟩ := k
  refine ⟨r, w', q, hm, ?_⟩
  intro p l e R s m args below meth c Q' D b0 c0 s0 w0 ad0 C K H locs cells slots ad rl S
  subst hv
  exact lv_ishr C.1 C.2.1 hd (f p l e R s m args below meth c Q' D b0 c0 s0 w0 ad0 C K H locs cells slots ad rl (S.pop.pop.push (v := .inl _) trivial))
theorem XE.idiv {x y z : Int32} (hd : decode cc pc = .ok (.idiv, 1)) (hn : ¬ y = 0) (hv : x / y = z) (k : XE own cc nL ret ini d (pc + 1) ls (.inl z :: st) w Q) : XE own cc nL ret ini d pc ls (.inl y :: .inl x :: st) w Q := by
  obtain ⟨r, w', q, hm, f⟩ := k
  refine ⟨r, w', q, hm, ?_⟩
  intro p l e R s m args below meth c Q' D b0 c0 s0 w0 ad0 C K H locs cells slots ad rl S
  subst hv
  exact lv_idiv C.1 C.2.1 hd hn (f p l e R s m args below meth c Q' D b0 c0 s0 w0 ad0 C K H locs cells slots ad rl (S.pop.pop.push (v := .inl _) trivial))
theorem XE.irem {x y z : Int32} (hd : decode cc pc = .ok (.irem, 1)) (hn : ¬ y = 0) (hv : x - x / y * y = z) (k : XE own cc nL ret ini d (pc + 1) ls (.inl z :: st) w Q) : XE own cc nL ret ini d pc ls (.inl y :: .inl x :: st) w Q := by
  obtain ⟨r, w', q, hm, f⟩ := k
  refine ⟨r, w', q, hm, ?_⟩
  intro p l e R s m args below meth c Q' D b0 c0 s0 w0 ad0 C K H locs cells slots ad rl S
  subst hv
  exact lv_irem C.1 C.2.1 hd hn (f p l e R s m args below meth c Q' D b0 c0 s0 w0 ad0 C K H locs cells slots ad rl (S.pop.pop.push (v := .inl _) trivial))
end XR

/-! the heap: fields -/
def FLD (own : String) (idx k j : Nat) : Prop := ∃ (C : String) (T : u_T) (N : Nat), vwCl[k]? = some (C, T, N) ∧ j < N ∧ Cond.fieldLink own idx (T j).1 (T j).2.1 (T j).2.2.1 ∈ tbl
def PLD (own : String) (idx : Nat) (ini : Bool) (k j : Nat) : Prop := ∃ (C : String) (T : u_T) (N : Nat), vwCl[k]? = some (C, T, N) ∧ j < N ∧ Cond.fieldLink own idx (T j).1 (T j).2.1 (T j).2.2.1 ∈ tbl ∧ ((T j).2.2.2 = false ∨ ((T j).2.2.2 = true ∧ ini = true ∧ (T j).1 = own))
theorem fv_i {ad : AD} {w : WW} {k o j : Nat} (h : fty k j < 2) : fv ad w k o j = .int (wI w k o j) := by
  unfold fv
  split
  · rfl
  · rfl
  · rename_i h2; omega
theorem fv_r {ad : AD} {w : WW} {k o j k' : Nat} (h : fty k j = k' + 2) : fv ad w k o j = rv ad (k', wR w k o j) := by
  unfold fv
  rw [h]
theorem av_i {ad : AD} {w : WW} {k o j : Nat} (h : aelem k < 2) : av ad w k o j = .int (wI w k o j) := by
  unfold av
  split
  · rfl
  · rfl
  · rename_i h2; omega
theorem av_r {ad : AD} {w : WW} {k o j k' : Nat} (h : aelem k = k' + 2) : av ad w k o j = rv ad (k', wR w k o j) := by
  unfold av
  rw [h]
theorem fv_same {ad : AD} {w w1 : WW} {k o j : Nat} (h1 : wI w1 k o j = wI w k o j) (h2 : wR w1 k o j = wR w k o j) : fv ad w1 k o j = fv ad w k o j := by
  unfold fv
  rw [h1, h2]
theorem av_same {ad : AD} {w w1 : WW} {k o j : Nat} (h1 : wI w1 k o j = wI w k o j) (h2 : wR w1 k o j = wR w k o j) : av ad w1 k o j = av ad w k o j := by
  unfold av
  rw [h1, h2]
theorem fv_ext {w : WW} {ad ad' : AD} (h : EX w ad ad') {k o j : Nat} (hr : ∀ k', fty k j = k' + 2 → wR w k o j ≤ wC w k') : fv ad' w k o j = fv ad w k o j := by
  unfold fv
  split
  · rfl
  · rfl
  · rename_i k' he; exact vv_ext (v := .inr (k', wR w k o j)) h (hr k' he)
theorem av_ext {w : WW} {ad ad' : AD} (h : EX w ad ad') {k o j : Nat} (hr : ∀ k', aelem k = k' + 2 → wR w k o j ≤ wC w k') : av ad' w k o j = av ad w k o j := by
  unfold av
  split
  · rfl
  · rfl
  · rename_i k' he; exact vv_ext (v := .inr (k', wR w k o j)) h (hr k' he)
theorem vw_lt {k : Nat} {q : vw_C} (h : vwCl[k]? = some q) : k < 99 := Nat.lt_of_lt_of_le (List.getElem?_eq_some_iff.mp h).1 (by decide)
/-- a write to one place of one cell (an object's field or an array's element) -/
theorem Rel.wr {s : State} {D : va_G} {b0 : Nat} {ad : AD} {w w1 : WW} {H H1 : Heap} (hR : Rel s D b0 ad w H) {k o j : Nat} (hk9 : k ≠ 99) (ho : inR w k o)
    (hz : H1.size = H.size) (hq : ∀ q : Nat, q ≠ ad k o → H1[q]? = H[q]?)
    (hC : ∀ k', wC w1 k' = wC w k') (hL : ∀ k' o', wL w1 k' o' = wL w k' o')
    (hI : ∀ k' o' j', ¬ (k' = k ∧ o' = o ∧ j' = j) → wI w1 k' o' j' = wI w k' o' j' ∧ wR w1 k' o' j' = wR w k' o' j')
    (hr : ∀ k', fty k j = k' + 2 → k < 99 → wR w1 k o j ≤ wC w k') (hr2 : ∀ k', aelem k = k' + 2 → 100 ≤ k → wR w1 k o j ≤ wC w k')
    (hO : ∀ (C : String) (T : u_T) (N : Nat), vwCl[k]? = some (C, T, N) → t_OB (ad k o) (D.1 k) N (D.2 k) H1 (fv ad w1 k o))
    (hA : 100 ≤ k → ∃ cA : ClassId, ArrOfT s cA (aty k) ∧ va_RA s cA (aty k) ∧ H1[ad k o]? = some (arrV cA (wL w k o) (av ad w1 k o))) : Rel s D b0 ad w1 H1 := by
  obtain ⟨h1, h2, h3, h4, h5, h6, h7, h8⟩ := hR
  have iR : ∀ {k' o'}, inR w1 k' o' → inR w k' o' := fun h => ⟨h.1, by rw [← hC]; exact h.2⟩
  have ap : ∀ {k' o'}, k' ≠ 99 → inR w k' o' → ¬ (k' = k ∧ o' = o) → H1[ad k' o']? = H[ad k' o']? := fun h9 h n => hq _ (fun e => n (h3 _ _ _ _ h9 hk9 h ho e))
  have same : ∀ {k' o' : Nat}, ¬ (k' = k ∧ o' = o) → ∀ j', wI w1 k' o' j' = wI w k' o' j' ∧ wR w1 k' o' j' = wR w k' o' j' := fun n j' => hI _ _ _ (fun e => n ⟨e.1, e.2.1⟩)
  refine ⟨fun k' o' C T N hc h => ?_, fun k' o' hk' h => ?_, fun a b a' b' x1 x2 x3 x4 => h3 a b a' b' x1 x2 (iR x3) (iR x4), fun a b x1 x2 => ?_, fun k' o' j' k2 hk' e h => ?_, fun k' o' j' k2 hk' e h => ?_, fun k' o' j' h => ?_, fun o' h => ?_⟩
  · by_cases n : k' = k ∧ o' = o
    · obtain ⟨rfl, rfl⟩ := n
      exact hO C T N hc
    · have e9 : k' ≠ 99 := Nat.ne_of_lt (vw_lt hc)
      exact ((h1 k' o' C T N hc (iR h)).kept (ap e9 (iR h) n)).to (fun j' _ => (fv_same (same n j').1 (same n j').2).symm)
  · by_cases n : k' = k ∧ o' = o
    · obtain ⟨rfl, rfl⟩ := n
      rw [hL]
      exact hA hk'
    · obtain ⟨cA, a1, a2, a3⟩ := h2 k' o' hk' (iR h)
      refine ⟨cA, a1, a2, ?_⟩
      rw [ap (by omega) (iR h) n, a3, hL]
      congr 2
      funext j'
      exact (av_same (same n j').1 (same n j').2).symm
  · rw [hz]
    exact h4 a b x1 (iR x2)
  · rw [hC]
    by_cases n : k' = k ∧ o' = o ∧ j' = j
    · obtain ⟨rfl, rfl, rfl⟩ := n
      exact hr k2 e hk'
    · rw [(hI _ _ _ n).2]
      exact h5 k' o' j' k2 hk' e (iR h)
  · rw [hC]
    by_cases n : k' = k ∧ o' = o ∧ j' = j
    · obtain ⟨rfl, rfl, rfl⟩ := n
      exact hr2 k2 e hk'
    · rw [(hI _ _ _ n).2]
      exact h6 k' o' j' k2 hk' e (iR h)
  · rw [hC] at h
    have n : ¬ (k' = k ∧ o' = o ∧ j' = j) := fun ⟨e1, e2, _⟩ => by
      subst e1; subst e2
      exact absurd ho.2 (Nat.not_le.mpr h)
    rw [(hI _ _ _ n).1, (hI _ _ _ n).2]
    exact h7 k' o' j' h
  · obtain ⟨x1, x2⟩ := h8 o' (iR h)
    refine ⟨x1, ?_⟩
    have e : wI w1 99 o' = wI w 99 o' := by
      funext j'
      exact (hI _ _ _ (fun n => hk9 n.1.symm)).1
    rw [hL, e]
    exact x2.kept (hq _ (fun e2 => by
      have := (h4 k o hk9 ho).1
      omega))
section HP
variable {p : Program} {l : Launch} {e : Env} {R : Room} {s : State} {m : MethodId} {args : Array Value} {below : List Frame} {meth : Method} {c : Code} {H : Heap} {locs : List Loc} {cells slots : Nat} {Q' : State → Prop} {D : va_G} {b0 : Nat} {ad : AD} {w : WW} {rl : Array Slot} {rest : List Value}
variable {own : String} {cc : ByteArray} {nL : Nat} {ret : Option FieldType} {ini : Bool} {d pc : Nat}
theorem gx_getf (C : CX p R s m args meth c D b0 own cc nL ret ini d) (hR : Rel s D b0 ad w H) {k o j idx : Nat} (hF : FLD own idx k j) (ho : inR w k o) (hd : decode cc pc = .ok (.getfield idx, 3))
    (kk : W p l e R s m args below meth c H locs cells slots Q' (F0 m (pc + 3) rl (fv ad w k o j :: rest))) : W p l e R s m args below meth c H locs cells slots Q' (F0 m pc rl (.ref (ad k o) :: rest)) := by
  obtain ⟨Cn, T, N, hc, hj, hlk⟩ := hF
  obtain ⟨cell, q1, q2, q3, q4⟩ := hR.1 k o Cn T N hc ho
  obtain ⟨hx, hb, -, -, hown, hts, -, -, hK, -⟩ := C
  obtain ⟨hS, hfc, kC, hkC, hkind⟩ := hK.1.1 k _ hc
  obtain ⟨cf, kf, fi, f, hi, hsl⟩ := hS j hj
  refine W.getf hx hb hown (hts _ hlk) hi (u_facts hfc hkC (u_lays hts (vw_in hc) hj) hi).1 q1 (by rw [q3]; exact fun h => by cases h) (v := fv ad w k o j) ?_ rfl rfl hd kk
  rw [hsl, q4 j hj]
theorem gx_putf (C : CX p R s m args meth c D b0 own cc nL ret ini d) (hS0 : va_S (fun q => b0 ≤ q) s.heap H locs) (hR : Rel s D b0 ad w H) {k o j idx : Nat} (hF : PLD own idx ini k j) (ho : inR w k o) {v : Value} {w1 : WW}
    (hn : narrow (ftT (fty k j)) v = v) (hfit : fits (ftT (fty k j)) v = true)
    (hC : ∀ k', wC w1 k' = wC w k') (hL : ∀ k' o', wL w1 k' o' = wL w k' o')
    (hI : ∀ k' o' j', ¬ (k' = k ∧ o' = o ∧ j' = j) → wI w1 k' o' j' = wI w k' o' j' ∧ wR w1 k' o' j' = wR w k' o' j')
    (hr : ∀ k', fty k j = k' + 2 → wR w1 k o j ≤ wC w k') (hv : fv ad w1 k o j = v) (hd : decode cc pc = .ok (.putfield idx, 3))
    (kk : ∀ (H1 : Heap) (locs1 : List Loc), Rel s D b0 ad w1 H1 → va_S (fun q => b0 ≤ q) s.heap H1 locs1 → W p l e R s m args below meth c H1 locs1 cells slots Q' (F0 m (pc + 3) rl rest)) : W p l e R s m args below meth c H locs cells slots Q' (F0 m pc rl (v :: .ref (ad k o) :: rest)) := by
  obtain ⟨Cn, T, N, hc, hj, hlk, hfin⟩ := hF
  have hk9 : k ≠ 99 := Nat.ne_of_lt (vw_lt hc)
  obtain ⟨cell, q1, q2, q3, q4⟩ := hR.1 k o Cn T N hc ho
  obtain ⟨hx, hb, -, -, hown, hts, -, hini, hK, -⟩ := C
  have hap := va_apart (own := own) hts (vw_in hc) (fun j => ftT (fty k j)) (fty_ok hc) (fnm_ok hc) hK.1 hc
  obtain ⟨hS, hfc, kC, hkC, hkind⟩ := hK.1.1 k _ hc
  obtain ⟨cf, kf, fi, f, hi, hsl⟩ := hS j hj
  have hlay := hts _ (vw_in hc _ (u_in_lay hj))
  unfold u_lay at hlay
  have hst := (u_facts hfc hkC (u_lays hts (vw_in hc) hj) hi).1
  have go : ∀ H' : Heap, H'[ad k o]? = some (cell.setSlot f.slot v) → H'.size = H.size → (∀ q, q ≠ ad k o → H'[q]? = H[q]?) → W p l e R s m args below meth c H' (locs ++ [⟨ad k o, f.slot⟩]) cells slots Q' (F0 m (pc + 3) rl rest) := by
    intro H' e1 e2 e3
    rw [hsl] at e1 ⊢
    refine kk H' _ (hR.wr hk9 ho e2 e3 hC hL hI (fun k' h _ => hr k' h) (fun k' _ h => absurd (vw_lt hc) (by omega)) (fun C2 T2 N2 h2 => ?_) (fun h => absurd (vw_lt hc) (by omega))) (hS0.put e2 e3 (hR.2.2.2.1 k o hk9 ho).1)
    cases hc.symm.trans h2
    refine t_OB.to (V := updV (fv ad w k o) j v) ⟨_, e1, q2, q3, t_set q4 hap hj v⟩ (fun j' _ => ?_)
    by_cases hjj : j' = j
    · subst hjj
      rw [hv]
      simp [updV]
    · have hs := hI k o j' (fun z => hjj z.2.2)
      rw [fv_same hs.1 hs.2]
      simp [updV, hjj]
  rcases hfin with hf | ⟨hf, hi1, hown2⟩
  · rw [if_neg (by rw [hf]; decide)] at hlay
    have h6 := u_store hfc hkC hkind hlay hi (fty_ok hc j hj) hn hfit
    exact W.putK hx hb (f := f) ⟨hown, hts _ hlk, ⟨_, _, _, hi⟩, hst⟩ (by rw [q2]; exact h6) q1 q3 (by rw [hsl]; exact k2_hasslot (q4 j hj)) rfl rfl hd go
  · rw [if_pos hf] at hlay
    have hcf : m.cls = cf := by
      obtain ⟨_, _, c', _, _, _, -, -, hf', -, -, -, hown3, -⟩ := Cond.laysFinal_spec hlay
      have e1 : c' = cf := by have := hi.symm.trans hf'; simp at this; exact this.1.symm
      rw [hown2] at hown3
      rw [← e1]; exact Option.some.inj (hown.symm.trans hown3)
    have h6 := u_fits hfc hkC hkind (Or.inr hlay) hi (fty_ok hc j hj) hn hfit
    exact W.putFinK hx hb hown (hts _ hlk) hi hst hcf (hini hi1) (by rw [q2]; exact h6) q1 q3 (by rw [hsl]; exact k2_hasslot (q4 j hj)) rfl rfl hd go
end HP
section XH
variable {own : String} {cc : ByteArray} {nL : Nat} {ret : Option FieldType} {ini : Bool} {d pc : Nat} {ls : List (Option VV)} {st : List VV} {w : WW} {Q : Option VV → WW → Prop}
theorem XE.getI {k o j idx : Nat} {x : Int32} (hd : decode cc pc = .ok (.getfield idx, 3)) (hF : FLD own idx k j) (ht : fty k j < 2) (ho : o ≠ 0) (hx : wI w k o j = x) (kk : XE own cc nL ret ini d (pc + 3) ls (.inl x :: st) w Q) : XE own cc nL ret ini d pc ls (.inr (k, o) :: st) w Q := by
  subst hx
  obtain ⟨r, w', q, hm, f⟩ := kk
  refine ⟨r, w', q, hm, ?_⟩
  intro p l e R s m args below meth c Q' D b0 c0 s0 w0 ad0 C K H locs cells slots ad rl S
  have f2 := f p l e R s m args below meth c Q' D b0 c0 s0 w0 ad0 C K H locs cells slots ad rl (S.pop.push (v := .inl _) trivial)
  show W _ _ _ _ _ _ _ _ _ _ _ _ _ _ _ (F0 m pc rl (rv ad (k, o) :: st.map (vv ad)))
  rw [rv_nz ho]
  refine gx_getf C S.2.1 hF ⟨Nat.pos_of_ne_zero ho, S.top⟩ hd ?_
  rw [fv_i ht]
  exact f2
theorem XE.getR {k o j idx k' x : Nat} (hd : decode cc pc = .ok (.getfield idx, 3)) (hF : FLD own idx k j) (ht : fty k j = k' + 2) (ho : o ≠ 0) (hx : wR w k o j = x) (kk : XE own cc nL ret ini d (pc + 3) ls (.inr (k', x) :: st) w Q) : XE own cc nL ret ini d pc ls (.inr (k, o) :: st) w Q := by
  subst hx
  obtain ⟨r, w', q, hm, f⟩ := kk
  refine ⟨r, w', q, hm, ?_⟩
  intro p l e R s m args below meth c Q' D b0 c0 s0 w0 ad0 C K H locs cells slots ad rl S
  have hk : k < 99 := by obtain ⟨_, _, _, hc, _⟩ := hF; exact vw_lt hc
  have hin : inR w k o := ⟨Nat.pos_of_ne_zero ho, S.top⟩
  have f2 := f p l e R s m args below meth c Q' D b0 c0 s0 w0 ad0 C K H locs cells slots ad rl (S.pop.push (v := .inr (k', wR w k o j)) (S.2.1.2.2.2.2.1 k o j k' hk ht hin))
  show W _ _ _ _ _ _ _ _ _ _ _ _ _ _ _ (F0 m pc rl (rv ad (k, o) :: st.map (vv ad)))
  rw [rv_nz ho]
  refine gx_getf C S.2.1 hF hin hd ?_
  rw [fv_r ht]
  exact f2
theorem ST.world {s : State} {D : va_G} {b0 c0 s0 : Nat} {w0 : WW} {ad0 : AD} {nL : Nat} {ls : List (Option VV)} {st : List VV} {w w1 : WW} {H H1 : Heap} {locs locs1 : List Loc} {cells slots : Nat} {ad : AD} {rl : Array Slot} (S : ST s D b0 c0 s0 w0 ad0 nL ls st w H locs cells slots ad rl)
    (hS : va_S (fun q => b0 ≤ q) s.heap H1 locs1) (hR : Rel s D b0 ad w1 H1) (hC : ∀ k, wC w1 k = wC w k) (hn : wn w1 = wn w) (hz : wz w1 = wz w) : ST s D b0 c0 s0 w0 ad0 nL ls st w1 H1 locs1 cells slots ad rl := by
  have mo : ∀ k, wC w k ≤ wC w1 k := fun k => Nat.le_of_eq (hC k).symm
  exact ⟨hS, hR, S.2.2.1, ⟨fun v hv => (S.2.2.2.1.1 v hv).mono mo, fun v hv => (S.2.2.2.1.2 v hv).mono mo⟩, fun k => by rw [hC]; exact S.2.2.2.2.1 k, S.2.2.2.2.2.1, by rw [hn]; exact S.2.2.2.2.2.2.1, by rw [hz]; exact S.2.2.2.2.2.2.2⟩
theorem XE.putI {k o j idx : Nat} {x : Int32} (hd : decode cc pc = .ok (.putfield idx, 3)) (hF : PLD own idx ini k j) (ht : fty k j = 0 ∨ (fty k j = 1 ∧ (x = 0 ∨ x = 1))) (ho : o ≠ 0) (kk : XE own cc nL ret ini d (pc + 3) ls st (sI w k o j x) Q) : XE own cc nL ret ini d pc ls (.inl x :: .inr (k, o) :: st) w Q := by
  obtain ⟨r, w', q, hm, f⟩ := kk
  refine ⟨r, w', q, hm, ?_⟩
  intro p l e R s m args below meth c Q' D b0 c0 s0 w0 ad0 C K H locs cells slots ad rl S
  show W _ _ _ _ _ _ _ _ _ _ _ _ _ _ _ (F0 m pc rl (.int x :: rv ad (k, o) :: st.map (vv ad)))
  rw [rv_nz ho]
  have h2 : fty k j < 2 := by omega
  have hnf : narrow (ftT (fty k j)) (.int x) = .int x ∧ fits (ftT (fty k j)) (.int x) = true := by
    rcases ht with h | ⟨h, hb⟩
    · rw [h]; exact ⟨rfl, rfl⟩
    · rw [h]
      rcases hb with hb | hb <;> rw [hb] <;> exact ⟨by decide, by decide⟩
  refine gx_putf C S.1 S.2.1 hF ⟨Nat.pos_of_ne_zero ho, S.pop.top⟩ (w1 := sI w k o j x) hnf.1 hnf.2 (fun _ => rfl) (fun _ _ => rfl) (fun k' o' j' h => ⟨by rw [wI_sI, if_neg h], rfl⟩) (fun k' h => by omega) (by rw [fv_i h2, wI_sI, if_pos ⟨rfl, rfl, rfl⟩]) hd (fun H1 locs1 hR1 hS1 => ?_)
  exact f p l e R s m args below meth c Q' D b0 c0 s0 w0 ad0 C K H1 locs1 cells slots ad rl (S.pop.pop.world hS1 hR1 (fun _ => rfl) rfl rfl)
theorem fits_r (k : Nat) (ad : AD) (q : Nat × Nat) : narrow (kT k) (rv ad q) = rv ad q ∧ fits (kT k) (rv ad q) = true := by
  unfold kT rv
  by_cases h : 100 ≤ k <;> by_cases h2 : q.2 = 0
  · rw [if_pos h, if_pos h2]; exact ⟨rfl, rfl⟩
  · rw [if_pos h, if_neg h2]; exact ⟨rfl, rfl⟩
  · rw [if_neg h, if_pos h2]; exact ⟨rfl, rfl⟩
  · rw [if_neg h, if_neg h2]; exact ⟨rfl, rfl⟩
theorem XE.putR {k o j idx k' k2 x : Nat} (hd : decode cc pc = .ok (.putfield idx, 3)) (hF : PLD own idx ini k j) (ht : fty k j = k' + 2) (hk : k2 = k' ∨ x = 0) (ho : o ≠ 0) (kk : XE own cc nL ret ini d (pc + 3) ls st (sR w k o j x) Q) : XE own cc nL ret ini d pc ls (.inr (k2, x) :: .inr (k, o) :: st) w Q := by
  obtain ⟨r, w', q, hm, f⟩ := kk
  refine ⟨r, w', q, hm, ?_⟩
  intro p l e R s m args below meth c Q' D b0 c0 s0 w0 ad0 C K H locs cells slots ad rl S
  have hx : x ≤ wC w k' := by
    rcases hk with rfl | rfl
    · exact S.top
    · exact Nat.zero_le _
  have hv : rv ad (k2, x) = rv ad (k', x) := by
    rcases hk with rfl | rfl
    · rfl
    · rfl
  show W _ _ _ _ _ _ _ _ _ _ _ _ _ _ _ (F0 m pc rl (rv ad (k2, x) :: rv ad (k, o) :: st.map (vv ad)))
  rw [rv_nz ho, hv]
  have hnf : narrow (ftT (fty k j)) (rv ad (k', x)) = rv ad (k', x) ∧ fits (ftT (fty k j)) (rv ad (k', x)) = true := by
    rw [ht]
    exact fits_r k' ad (k', x)
  refine gx_putf C S.1 S.2.1 hF ⟨Nat.pos_of_ne_zero ho, S.pop.top⟩ (w1 := sR w k o j x) hnf.1 hnf.2 (fun _ => rfl) (fun _ _ => rfl) (fun k1 o' j' h => ⟨rfl, by rw [wR_sR, if_neg h]⟩) (fun k1 h => by
    have : k1 = k' := by omega
    subst this
    rw [wR_sR, if_pos ⟨rfl, rfl, rfl⟩]
    exact hx) (by rw [fv_r ht, wR_sR, if_pos ⟨rfl, rfl, rfl⟩]) hd (fun H1 locs1 hR1 hS1 => ?_)
  exact f p l e R s m args below meth c Q' D b0 c0 s0 w0 ad0 C K H1 locs1 cells slots ad rl (S.pop.pop.world hS1 hR1 (fun _ => rfl) rfl rfl)

/-- an index within -/
def IXN (i : Int32) (L n : Nat) : Prop := ¬ i < 0 ∧ i.toNatClampNeg = n ∧ n < L
theorem IXN.nI {n L : Nat} (h : n < L) (hL : L ≤ 1000000) : IXN (nI n) L n := ⟨nI_pos (by omega), nI_clamp (by omega), h⟩
theorem IXN.no {i : Int32} {L n : Nat} (h : IXN i L n) : ¬ (i < 0 ∨ L ≤ i.toNatClampNeg) := by
  rintro (h1 | h1)
  · exact h.1 h1
  · rw [h.2.1] at h1
    exact absurd h.2.2 (Nat.not_lt.mpr h1)
theorem aty_i {k : Nat} (h : aelem k = 0) : aty k = .int := by unfold aty; rw [h]
theorem aty_b {k : Nat} (h : aelem k = 1) : aty k = .boolean := by unfold aty; rw [h]
theorem aty_r {k k' : Nat} (h : aelem k = k' + 2) : aty k = .object (knm k') := by unfold aty; rw [h]
theorem XE.iald {k o n : Nat} {i x : Int32} (hd : decode cc pc = .ok (.iaload, 1)) (hk : k = 99 ∨ (100 ≤ k ∧ aelem k = 0)) (ho : o ≠ 0) (hi : IXN i (wL w k o) n) (hx : wI w k o n = x) (kk : XE own cc nL ret ini d (pc + 1) ls (.inl x :: st) w Q) : XE own cc nL ret ini d pc ls (.inl i :: .inr (k, o) :: st) w Q := by
  subst hx
  obtain ⟨r, w', q, hm, f⟩ := kk
  refine ⟨r, w', q, hm, ?_⟩
  intro p l e R s m args below meth c Q' D b0 c0 s0 w0 ad0 C K H locs cells slots ad rl S
  have f2 := f p l e R s m args below meth c Q' D b0 c0 s0 w0 ad0 C K H locs cells slots ad rl (S.pop.pop.push (v := .inl _) trivial)
  show W _ _ _ _ _ _ _ _ _ _ _ _ _ _ _ (F0 m pc rl (.int i :: rv ad (k, o) :: st.map (vv ad)))
  rw [rv_nz ho]
  have hin : inR w k o := ⟨Nat.pos_of_ne_zero ho, S.pop.top⟩
  have hno := hi.no
  have hlt := hi.2.2
  rcases hk with rfl | ⟨hk, ha⟩
  · obtain ⟨-, scr, h1, h2, h3, h4, h5⟩ := S.2.1.2.2.2.2.2.2.2 o hin
    exact W.iald (v := .int (wI w 99 o n)) C.1 C.2.1 h1 h2 h3 (by rw [h4]; exact hno) (by rw [hi.2.1]; exact h5 _ hlt) rfl rfl hd f2
  · obtain ⟨cA, a1, a2, a3⟩ := S.2.1.2.1 k o hk hin
    rw [aty_i ha] at a1
    exact W.iald (v := .int (wI w k o n)) C.1 C.2.1 a3 (a1 _ _) (fun q => by cases q) (by rw [arrV_size]; exact hno) (by rw [hi.2.1, arrV_read _ _ hlt, av_i (by omega)]) rfl rfl hd f2
theorem XE.zald {k o n : Nat} {i x : Int32} (hd : decode cc pc = .ok (.baload, 1)) (hk : 100 ≤ k) (ha : aelem k = 1) (ho : o ≠ 0) (hi : IXN i (wL w k o) n) (hx : wI w k o n = x) (kk : XE own cc nL ret ini d (pc + 1) ls (.inl x :: st) w Q) : XE own cc nL ret ini d pc ls (.inl i :: .inr (k, o) :: st) w Q := by
  subst hx
  obtain ⟨r, w', q, hm, f⟩ := kk
  refine ⟨r, w', q, hm, ?_⟩
  intro p l e R s m args below meth c Q' D b0 c0 s0 w0 ad0 C K H locs cells slots ad rl S
  have f2 := f p l e R s m args below meth c Q' D b0 c0 s0 w0 ad0 C K H locs cells slots ad rl (S.pop.pop.push (v := .inl _) trivial)
  show W _ _ _ _ _ _ _ _ _ _ _ _ _ _ _ (F0 m pc rl (.int i :: rv ad (k, o) :: st.map (vv ad)))
  rw [rv_nz ho]
  have hin : inR w k o := ⟨Nat.pos_of_ne_zero ho, S.pop.top⟩
  have hno := hi.no
  have hlt := hi.2.2
  obtain ⟨cA, a1, a2, a3⟩ := S.2.1.2.1 k o hk hin
  rw [aty_b ha] at a1
  exact W.zald (v := .int (wI w k o n)) C.1 C.2.1 a3 (a1 _ _) (fun q => by cases q) (by rw [arrV_size]; exact hno) (by rw [hi.2.1, arrV_read _ _ hlt, av_i (by omega)]) rfl rfl hd f2
theorem XE.alen {k o : Nat} {x : Int32} (hd : decode cc pc = .ok (.arraylength, 1)) (hk : k = 99 ∨ 100 ≤ k) (ho : o ≠ 0) (hx : nI (wL w k o) = x) (kk : XE own cc nL ret ini d (pc + 1) ls (.inl x :: st) w Q) : XE own cc nL ret ini d pc ls (.inr (k, o) :: st) w Q := by
  subst hx
  obtain ⟨r, w', q, hm, f⟩ := kk
  refine ⟨r, w', q, hm, ?_⟩
  intro p l e R s m args below meth c Q' D b0 c0 s0 w0 ad0 C K H locs cells slots ad rl S
  have f2 := f p l e R s m args below meth c Q' D b0 c0 s0 w0 ad0 C K H locs cells slots ad rl (S.pop.push (v := .inl _) trivial)
  show W _ _ _ _ _ _ _ _ _ _ _ _ _ _ _ (F0 m pc rl (rv ad (k, o) :: st.map (vv ad)))
  rw [rv_nz ho]
  have hin : inR w k o := ⟨Nat.pos_of_ne_zero ho, S.top⟩
  rcases hk with rfl | hk
  · obtain ⟨-, scr, h1, h2, h3, h4, h5⟩ := S.2.1.2.2.2.2.2.2.2 o hin
    exact W.alen (n := Int32.ofNat (wL w 99 o)) C.1 C.2.1 h1 h2 (by rw [h4] <;> rfl) rfl rfl hd f2
  · obtain ⟨cA, a1, a2, a3⟩ := S.2.1.2.1 k o hk hin
    exact W.alen (n := Int32.ofNat (wL w k o)) C.1 C.2.1 a3 (a1 _ _) (by rw [arrV_size] <;> rfl) rfl rfl hd f2
theorem XE.aald {k o n k' x : Nat} {i : Int32} (hd : decode cc pc = .ok (.aaload, 1)) (hk : 100 ≤ k) (ha : aelem k = k' + 2) (ho : o ≠ 0) (hi : IXN i (wL w k o) n) (hx : wR w k o n = x) (kk : XE own cc nL ret ini d (pc + 1) ls (.inr (k', x) :: st) w Q) : XE own cc nL ret ini d pc ls (.inl i :: .inr (k, o) :: st) w Q := by
  subst hx
  obtain ⟨r, w', q, hm, f⟩ := kk
  refine ⟨r, w', q, hm, ?_⟩
  intro p l e R s m args below meth c Q' D b0 c0 s0 w0 ad0 C K H locs cells slots ad rl S
  have hin : inR w k o := ⟨Nat.pos_of_ne_zero ho, S.pop.top⟩
  have f2 := f p l e R s m args below meth c Q' D b0 c0 s0 w0 ad0 C K H locs cells slots ad rl (S.pop.pop.push (v := .inr (k', wR w k o n)) (S.2.1.2.2.2.2.2.1 k o n k' hk ha hin))
  show W _ _ _ _ _ _ _ _ _ _ _ _ _ _ _ (F0 m pc rl (.int i :: rv ad (k, o) :: st.map (vv ad)))
  rw [rv_nz ho]
  obtain ⟨cA, a1, a2, a3⟩ := S.2.1.2.1 k o hk hin
  rw [aty_r ha] at a1
  exact W.aald (v := rv ad (k', wR w k o n)) (ty := .object (knm k')) C.1 C.2.1 a3 (a1 _ _) rfl (fun q => by cases q) (by rw [arrV_size]; exact hi.no) (by rw [hi.2.1, arrV_read _ _ hi.2.2, av_r ha]) rfl rfl hd f2
theorem av_st {ad : AD} {w w1 : WW} {k o n : Nat} {v : Value} (hv : av ad w1 k o n = v) (hI : ∀ j, j ≠ n → wI w1 k o j = wI w k o j ∧ wR w1 k o j = wR w k o j) : updV (av ad w k o) n v = av ad w1 k o := by
  funext j
  by_cases h : j = n
  · subst h
    simp [updV, hv]
  · rw [av_same (hI j h).1 (hI j h).2]
    simp [updV, h]
theorem XE.iast {k o n : Nat} {i x : Int32} (hd : decode cc pc = .ok (.iastore, 1)) (hk : 100 ≤ k) (ha : aelem k = 0) (ho : o ≠ 0) (hi : IXN i (wL w k o) n) (kk : XE own cc nL ret ini d (pc + 1) ls st (sI w k o n x) Q) : XE own cc nL ret ini d pc ls (.inl x :: .inl i :: .inr (k, o) :: st) w Q := by
  obtain ⟨r, w', q, hm, f⟩ := kk
  refine ⟨r, w', q, hm, ?_⟩
  intro p l e R s m args below meth c Q' D b0 c0 s0 w0 ad0 C K H locs cells slots ad rl S
  have hin : inR w k o := ⟨Nat.pos_of_ne_zero ho, S.pop.pop.top⟩
  show W _ _ _ _ _ _ _ _ _ _ _ _ _ _ _ (F0 m pc rl (.int x :: .int i :: rv ad (k, o) :: st.map (vv ad)))
  rw [rv_nz ho]
  obtain ⟨cA, a1, a2, a3⟩ := S.2.1.2.1 k o hk hin
  have a1' := a1
  rw [aty_i ha] at a1'
  refine W.iast C.1 C.2.1 a3 (a1' _ _) (fun q => by cases q) (by rw [arrV_size]; exact hi.no) rfl rfl hd fun H1 e1 z1 o1 => ?_
  rw [hi.2.1, arrV_store, av_st (ad := ad) (w := w) (w1 := sI w k o n x) (by rw [av_i (by omega), wI_sI, if_pos ⟨rfl, rfl, rfl⟩]) (fun j hj => ⟨by rw [wI_sI, if_neg (fun z => hj z.2.2)], rfl⟩)] at e1
  have hR1 : Rel s D b0 ad (sI w k o n x) H1 := S.2.1.wr (by omega) hin z1 o1 (fun _ => rfl) (fun _ _ => rfl) (fun k' o' j' h => ⟨by rw [wI_sI, if_neg h], rfl⟩) (fun k' _ h => by omega) (fun k' h _ => by omega) (fun C2 T2 N2 h2 => absurd (vw_lt h2) (by omega)) (fun _ => ⟨cA, a1, a2, e1⟩)
  exact f p l e R s m args below meth c Q' D b0 c0 s0 w0 ad0 C K H1 _ cells slots ad rl (S.pop.pop.pop.world (S.1.put z1 o1 (S.2.1.2.2.2.1 k o (by omega) hin).1) hR1 (fun _ => rfl) rfl rfl)
theorem XE.zast {k o n : Nat} {i x : Int32} (hd : decode cc pc = .ok (.bastore, 1)) (hk : 100 ≤ k) (ha : aelem k = 1) (hb : x = 0 ∨ x = 1) (ho : o ≠ 0) (hi : IXN i (wL w k o) n) (kk : XE own cc nL ret ini d (pc + 1) ls st (sI w k o n x) Q) : XE own cc nL ret ini d pc ls (.inl x :: .inl i :: .inr (k, o) :: st) w Q := by
  obtain ⟨r, w', q, hm, f⟩ := kk
  refine ⟨r, w', q, hm, ?_⟩
  intro p l e R s m args below meth c Q' D b0 c0 s0 w0 ad0 C K H locs cells slots ad rl S
  have hin : inR w k o := ⟨Nat.pos_of_ne_zero ho, S.pop.pop.top⟩
  show W _ _ _ _ _ _ _ _ _ _ _ _ _ _ _ (F0 m pc rl (.int x :: .int i :: rv ad (k, o) :: st.map (vv ad)))
  rw [rv_nz ho]
  obtain ⟨cA, a1, a2, a3⟩ := S.2.1.2.1 k o hk hin
  have a1' := a1
  rw [aty_b ha] at a1'
  refine W.zast C.1 C.2.1 a3 (a1' _ _) (fun q => by cases q) (by rw [arrV_size]; exact hi.no) rfl rfl hd fun H1 e1 z1 o1 => ?_
  rw [show narrow .boolean (.int x) = .int x by rcases hb with h | h <;> rw [h] <;> decide, hi.2.1, arrV_store, av_st (ad := ad) (w := w) (w1 := sI w k o n x) (by rw [av_i (by omega), wI_sI, if_pos ⟨rfl, rfl, rfl⟩]) (fun j hj => ⟨by rw [wI_sI, if_neg (fun z => hj z.2.2)], rfl⟩)] at e1
  have hR1 : Rel s D b0 ad (sI w k o n x) H1 := S.2.1.wr (by omega) hin z1 o1 (fun _ => rfl) (fun _ _ => rfl) (fun k' o' j' h => ⟨by rw [wI_sI, if_neg h], rfl⟩) (fun k' _ h => by omega) (fun k' h _ => by omega) (fun C2 T2 N2 h2 => absurd (vw_lt h2) (by omega)) (fun _ => ⟨cA, a1, a2, e1⟩)
  exact f p l e R s m args below meth c Q' D b0 c0 s0 w0 ad0 C K H1 _ cells slots ad rl (S.pop.pop.pop.world (S.1.put z1 o1 (S.2.1.2.2.2.1 k o (by omega) hin).1) hR1 (fun _ => rfl) rfl rfl)
theorem XE.aast {k o n k' k2 x : Nat} {i : Int32} {Cn : String} {T : u_T} {N : Nat} (hd : decode cc pc = .ok (.aastore, 1)) (hk : 100 ≤ k) (ha : aelem k = k' + 2) (hc : vwCl[k']? = some (Cn, T, N)) (hk2 : k2 = k' ∨ x = 0) (ho : o ≠ 0) (hi : IXN i (wL w k o) n) (kk : XE own cc nL ret ini d (pc + 1) ls st (sR w k o n x) Q) : XE own cc nL ret ini d pc ls (.inr (k2, x) :: .inl i :: .inr (k, o) :: st) w Q := by
  obtain ⟨r, w', q, hm, f⟩ := kk
  refine ⟨r, w', q, hm, ?_⟩
  intro p l e R s m args below meth c Q' D b0 c0 s0 w0 ad0 C K H locs cells slots ad rl S
  have hin : inR w k o := ⟨Nat.pos_of_ne_zero ho, S.pop.pop.top⟩
  have hx : x ≤ wC w k' := by
    rcases hk2 with rfl | rfl
    · exact S.top
    · exact Nat.zero_le _
  have hv : rv ad (k2, x) = rv ad (k', x) := by
    rcases hk2 with rfl | rfl
    · rfl
    · rfl
  show W _ _ _ _ _ _ _ _ _ _ _ _ _ _ _ (F0 m pc rl (rv ad (k2, x) :: .int i :: rv ad (k, o) :: st.map (vv ad)))
  rw [rv_nz ho, hv]
  obtain ⟨cA, a1, a2, a3⟩ := S.2.1.2.1 k o hk hin
  have a1' := a1
  have a2' := a2
  rw [aty_r ha] at a1' a2'
  have go : ∀ H1 : Heap, H1[ad k o]? = some ((arrV cA (wL w k o) (av ad w k o)).setSlot i.toNatClampNeg (rv ad (k', x))) → H1.size = H.size → (∀ q, q ≠ ad k o → H1[q]? = H[q]?) → W p l e R s m args below meth c H1 (locs ++ [⟨ad k o, i.toNatClampNeg⟩]) cells slots Q' (F0 m (pc + 1) rl (st.map (vv ad))) := by
    intro H1 e1 z1 o1
    rw [hi.2.1, arrV_store, av_st (ad := ad) (w := w) (w1 := sR w k o n x) (by rw [av_r ha, wR_sR, if_pos ⟨rfl, rfl, rfl⟩]) (fun j hj => ⟨rfl, by rw [wR_sR, if_neg (fun z => hj z.2.2)]⟩)] at e1
    have hR1 : Rel s D b0 ad (sR w k o n x) H1 := S.2.1.wr (by omega) hin z1 o1 (fun _ => rfl) (fun _ _ => rfl) (fun k1 o' j' h => ⟨rfl, by rw [wR_sR, if_neg h]⟩) (fun k' _ h => by omega) (fun k1 h _ => by
      have : k1 = k' := by omega
      subst this
      rw [wR_sR, if_pos ⟨rfl, rfl, rfl⟩]
      exact hx) (fun C2 T2 N2 h2 => absurd (vw_lt h2) (by omega)) (fun _ => ⟨cA, a1, a2, e1⟩)
    exact f p l e R s m args below meth c Q' D b0 c0 s0 w0 ad0 C K H1 _ cells slots ad rl (S.pop.pop.pop.world (S.1.put z1 o1 (S.2.1.2.2.2.1 k o (by omega) hin).1) hR1 (fun _ => rfl) rfl rfl)
  by_cases hx0 : x = 0
  · subst hx0
    exact va_WaastN (C := knm k') C.1 C.2.1 a3 (a1' _ _) (fun h => by cases h) (by rw [arrV_size]; exact hi.no) rfl rfl hd go
  · obtain ⟨cellV, g1, g2, g3, -⟩ := S.2.1.1 k' x Cn T N hc ⟨Nat.pos_of_ne_zero hx0, hx⟩
    have hcls := (C.2.2.2.2.2.2.2.2.1.1.1 k' _ hc).2
    obtain ⟨kA, comp, k1, k2', k3, -⟩ := a2'
    rw [knm_ok hc] at k3
    have hcomp : comp = D.1 k' := Option.some.inj (k3.symm.trans hcls.1)
    subst hcomp
    obtain ⟨kC, hkC, -⟩ := hcls.2
    rw [rv_nz hx0] at go ⊢
    exact W.aast C.1 C.2.1 a3 (fun q h => by cases h) (fun h => by cases h) k1 k2' rfl hkC ⟨hi.1, by rw [arrV_size, hi.2.1]; exact hi.2.2⟩ g1 (fun q h => by rw [g3] at h; cases h) (by rw [g2]; exact hkC) (by rw [g2]; exact va_assign hcls) rfl rfl hd go
/-! making -/
def adN (ad : AD) (k o a : Nat) : AD := fun k' o' => if k' = k ∧ o' = o then a else ad k' o'
theorem adN_new (ad : AD) (k o a : Nat) : adN ad k o a k o = a := if_pos ⟨rfl, rfl⟩
theorem adN_old {ad : AD} {k o a k' o' : Nat} (h : ¬ (k' = k ∧ o' = o)) : adN ad k o a k' o' = ad k' o' := if_neg h
theorem adN_EX (ad : AD) (w : WW) (k a : Nat) : EX w ad (adN ad k (wC w k + 1) a) := fun k' o' h => adN_old (fun e => by
  obtain ⟨rfl, rfl⟩ := e
  exact absurd h.2 (by omega))
theorem Rel.nw {s : State} {D : va_G} {b0 : Nat} {ad : AD} {w w1 : WW} {H H1 : Heap} (hR : Rel s D b0 ad w H) {k : Nat} (hk9 : k ≠ 99) (hb : b0 ≤ H.size)
    (hz : H1.size = H.size + 1) (hq : ∀ q : Nat, q < H.size → H1[q]? = H[q]?)
    (hC : ∀ k', wC w1 k' = if k' = k then wC w k + 1 else wC w k') (hI : ∀ k' o' j', wI w1 k' o' j' = wI w k' o' j' ∧ wR w1 k' o' j' = wR w k' o' j')
    (hL : ∀ k' o', ¬ (k' = k ∧ o' = wC w k + 1) → wL w1 k' o' = wL w k' o')
    (hO : ∀ (C : String) (T : u_T) (N : Nat), vwCl[k]? = some (C, T, N) → t_OB H.size (D.1 k) N (D.2 k) H1 (fv (adN ad k (wC w k + 1) H.size) w1 k (wC w k + 1)))
    (hA : 100 ≤ k → ∃ cA : ClassId, ArrOfT s cA (aty k) ∧ va_RA s cA (aty k) ∧ H1[H.size]? = some (arrV cA (wL w1 k (wC w k + 1)) (av (adN ad k (wC w k + 1) H.size) w1 k (wC w k + 1)))) :
    Rel s D b0 (adN ad k (wC w k + 1) H.size) w1 H1 := by
  have hE := adN_EX ad w k H.size
  obtain ⟨h1, h2, h3, h4, h5, h6, h7, h8⟩ := hR
  have mo : ∀ k', wC w k' ≤ wC w1 k' := fun k' => by
    rw [hC]
    split
    · rename_i e; rw [e]; omega
    · exact Nat.le_refl _
  have cs : ∀ {k' o'}, inR w1 k' o' → (k' = k ∧ o' = wC w k + 1) ∨ (inR w k' o' ∧ ¬ (k' = k ∧ o' = wC w k + 1)) := by
    intro k' o' h
    by_cases n : k' = k ∧ o' = wC w k + 1
    · exact Or.inl n
    · refine Or.inr ⟨⟨h.1, ?_⟩, n⟩
      have h9 := h.2
      rw [hC] at h9
      by_cases e : k' = k
      · subst e
        rw [if_pos rfl] at h9
        have : o' ≠ wC w k' + 1 := fun q => n ⟨rfl, q⟩
        omega
      · rw [if_neg e] at h9
        exact h9
  have z0 : ∀ j, wR w1 k (wC w k + 1) j = 0 := fun j => by rw [(hI _ _ _).2]; exact (h7 k _ j (by omega)).2
  refine ⟨fun k' o' C T N hc h => ?_, fun k' o' hk' h => ?_, fun a b a' b' x1 x2 x3 x4 x5 => ?_, fun a b x1 x2 => ?_, fun k' o' j' k2 hk' e h => ?_, fun k' o' j' k2 hk' e h => ?_, fun k' o' j' h => ?_, fun o' h => ?_⟩
  · rcases cs h with ⟨rfl, rfl⟩ | ⟨h', n⟩
    · rw [adN_new]
      exact hO C T N hc
    · rw [adN_old n]
      have e9 : k' ≠ 99 := Nat.ne_of_lt (vw_lt hc)
      refine ((h1 k' o' C T N hc h').kept (hq _ (h4 k' o' e9 h').2)).to (fun j' _ => ?_)
      rw [fv_same (w := w) (hI _ _ _).1 (hI _ _ _).2]
      exact (fv_ext hE (fun k2 e2 => h5 k' o' j' k2 (vw_lt hc) e2 h')).symm
  · rcases cs h with ⟨rfl, rfl⟩ | ⟨h', n⟩
    · rw [adN_new]
      exact hA hk'
    · rw [adN_old n]
      obtain ⟨cA, a1, a2, a3⟩ := h2 k' o' hk' h'
      refine ⟨cA, a1, a2, ?_⟩
      rw [hq _ (h4 k' o' (by omega) h').2, a3, hL _ _ n]
      congr 2
      funext j'
      rw [av_same (w := w) (hI _ _ _).1 (hI _ _ _).2]
      exact (av_ext hE (fun k2 e2 => h6 k' o' j' k2 hk' e2 h')).symm
  · rcases cs x3 with ⟨rfl, rfl⟩ | ⟨h', n⟩ <;> rcases cs x4 with ⟨rfl, rfl⟩ | ⟨h'', n'⟩
    · exact ⟨rfl, rfl⟩
    · rw [adN_new, adN_old n'] at x5
      have := (h4 _ _ x2 h'').2
      omega
    · rw [adN_new, adN_old n] at x5
      have := (h4 _ _ x1 h').2
      omega
    · rw [adN_old n, adN_old n'] at x5
      exact h3 _ _ _ _ x1 x2 h' h'' x5
  · rcases cs x2 with ⟨rfl, rfl⟩ | ⟨h', n⟩
    · rw [adN_new, hz]
      exact ⟨hb, by omega⟩
    · rw [adN_old n, hz]
      have := h4 a b x1 h'
      exact ⟨this.1, by omega⟩
  · rcases cs h with ⟨rfl, rfl⟩ | ⟨h', n⟩
    · rw [z0]; exact Nat.zero_le _
    · rw [(hI _ _ _).2]
      exact Nat.le_trans (h5 k' o' j' k2 hk' e h') (mo k2)
  · rcases cs h with ⟨rfl, rfl⟩ | ⟨h', n⟩
    · rw [z0]; exact Nat.zero_le _
    · rw [(hI _ _ _).2]
      exact Nat.le_trans (h6 k' o' j' k2 hk' e h') (mo k2)
  · rw [(hI _ _ _).1, (hI _ _ _).2]
    exact h7 k' o' j' (Nat.lt_of_le_of_lt (mo k') h)
  · rcases cs h with ⟨e, -⟩ | ⟨h', n⟩
    · exact absurd e.symm hk9
    · rw [adN_old n]
      obtain ⟨x1, x2⟩ := h8 o' h'
      refine ⟨x1, ?_⟩
      have e : wI w1 99 o' = wI w 99 o' := by
        funext j'
        exact (hI _ _ _).1
      rw [hL _ _ n, e]
      exact x2.kept (hq _ (by omega))
theorem ST.nw {s : State} {D : va_G} {b0 c0 s0 : Nat} {w0 : WW} {ad0 ad1 : AD} {nL : Nat} {ls : List (Option VV)} {st : List VV} {w w1 : WW} {H H1 : Heap} {locs locs1 : List Loc} {cells slots cells1 slots1 : Nat} {ad : AD} {rl : Array Slot} (S : ST s D b0 c0 s0 w0 ad0 nL ls st w H locs cells slots ad rl)
    (hS : va_S (fun q => b0 ≤ q) s.heap H1 locs1) (hR : Rel s D b0 ad1 w1 H1) (hE : EX w ad ad1) (hC : ∀ k, wC w k ≤ wC w1 k) (hn : cells1 + c0 = wn w1) (hz : slots1 + s0 = wz w1) : ST s D b0 c0 s0 w0 ad0 nL ls st w1 H1 locs1 cells1 slots1 ad1 rl :=
  ⟨hS, hR, S.2.2.1.ext hE S.2.2.2.1.1, ⟨fun v hv => (S.2.2.2.1.1 v hv).mono hC, fun v hv => (S.2.2.2.1.2 v hv).mono hC⟩, fun k => Nat.le_trans (S.2.2.2.2.1 k) (hC k),
    fun k o h => (hE k o ⟨h.1, Nat.le_trans h.2 (S.2.2.2.2.1 k)⟩).trans (S.2.2.2.2.2.1 k o h), hn, hz⟩
def NEWD (own : String) (idx k N : Nat) : Prop := ∃ (C : String) (T : u_T), vwCl[k]? = some (C, T, N) ∧ Cond.classLink own idx C ∈ tbl ∧ Cond.instantiable C N ∈ tbl ∧ Cond.initialized C ∈ tbl
theorem ft_def {w : WW} {ad : AD} {k o j : Nat} (h1 : wI w k o j = 0) (h2 : wR w k o j = 0) : defaultValue (ftT (fty k j)) = fv ad w k o j := by
  unfold fv
  split
  · rename_i h; rw [h, h1]; rfl
  · rename_i h; rw [h, h1]; rfl
  · rename_i k' h
    rw [h, h2]
    show defaultValue (kT k') = _
    unfold kT
    split <;> rfl
theorem tot_nO (f : Nat → Nat) (w : WW) {k : Nat} (n : Nat) (hk : k < 120) : tot f (nO w k n) = tot f w + f k := by
  have := sum_up f (wC w) (wC (nO w k n)) k (fun k' h => by rw [wC_nO, if_neg h]) (by rw [wC_nO, if_pos rfl]) 120
  rw [if_pos hk] at this
  exact this
theorem tot_nA (f : Nat → Nat) (w : WW) {k : Nat} (n : Nat) (hk : k < 120) : tot f (nA w k n) = tot f w + f k := by
  have := sum_up f (wC w) (wC (nA w k n)) k (fun k' h => by rw [wC_nA, if_neg h]) (by rw [wC_nA, if_pos rfl]) 120
  rw [if_pos hk] at this
  exact this
theorem mon_nO (w : WW) {k n : Nat} (hk : k < 120) (hn : n ≤ ksz k) : MON w (nO w k n) := ⟨by rw [wn_nO]; omega, by rw [wz_nO]; omega, fun k' => by
  rw [wC_nO]
  split
  · rename_i e; rw [e]; omega
  · exact Nat.le_refl _, by rw [tot_nO _ _ _ hk, wn_nO]; omega, by rw [tot_nO _ _ _ hk, wz_nO]; omega⟩
theorem mon_nA (w : WW) {k n : Nat} (hk : k < 120) (hn : n ≤ ksz k) : MON w (nA w k n) := ⟨by rw [wn_nA]; omega, by rw [wz_nA]; omega, fun k' => by
  rw [wC_nA]
  split
  · rename_i e; rw [e]; omega
  · exact Nat.le_refl _, by rw [tot_nA _ _ _ hk, wn_nA]; omega, by rw [tot_nA _ _ _ hk, wz_nA]; omega⟩
theorem XE.new {k N idx : Nat} (hd : decode cc pc = .ok (.new idx, 3)) (hN : NEWD own idx k N) (kk : XE own cc nL ret ini d (pc + 3) ls (.inr (k, wC w k + 1) :: st) (nO w k N) Q) : XE own cc nL ret ini d pc ls st w Q := by
  obtain ⟨r, w', q, hm, f⟩ := kk
  obtain ⟨Cn, T, hc, hcl, hins, hini⟩ := hN
  have mo := mon_nO w (Nat.lt_trans (vw_lt hc) (by decide)) (ksz_ok hc)
  refine ⟨r, w', q, ⟨mo.tr hm.1, hm.2⟩, ?_⟩
  intro p l e R s m args below meth c Q' D b0 c0 s0 w0 ad0 C K H locs cells slots ad rl S
  have hk9 : k ≠ 99 := Nat.ne_of_lt (vw_lt hc)
  have hts := C.2.2.2.2.2.1
  have hKn := C.2.2.2.2.2.2.2.2.1.1.1 k _ hc
  have m1 := hm.1.1
  have m2 := hm.1.2.1
  rw [wn_nO] at m1
  rw [wz_nO] at m2
  have r1 := K.1
  have r2 := K.2.1
  have c1 := S.2.2.2.2.2.2.1
  have c2 := S.2.2.2.2.2.2.2
  have hbH : b0 ≤ H.size := Nat.le_trans C.2.2.2.2.2.2.2.2.2.2.2 S.1.1
  refine W.newcK C.1 C.2.1 C.2.2.2.2.1 (hts _ hcl) (hts _ hins) (hts _ hini) rfl hd (by omega) (by omega) hKn.2.1 rfl fun H1 kC hkC e1 z1 o1 => ?_
  have hR1 : Rel s D b0 (adN ad k (wC w k + 1) H.size) (nO w k N) H1 := by
    refine S.2.1.nw hk9 hbH z1 o1 (fun k' => wC_nO w k N k') (fun _ _ _ => ⟨rfl, rfl⟩) (fun _ _ _ => rfl) (fun C2 T2 N2 h2 => ?_) (fun h => absurd (vw_lt hc) (by omega))
    cases hc.symm.trans h2
    refine (u_born (fun j => ftT (fty k j)) hts (vw_in hc) hKn hkC e1 (fty_ok hc)).to (fun j _ => ?_)
    have z := S.2.1.2.2.2.2.2.2.1 k (wC w k + 1) j (by omega)
    exact ft_def z.1 z.2
  have S1 := S.nw (locs1 := locs) (cells1 := cells + 1) (slots1 := slots + N) ⟨Nat.le_trans S.1.1 (by omega), fun x h1 h2 => (o1 x (Nat.lt_of_lt_of_le h1 S.1.1)).trans (S.1.2.1 x h1 h2), S.1.2.2⟩ hR1 (adN_EX ad w k H.size) mo.2.2.1 (by rw [wn_nO]; omega) (by rw [wz_nO]; omega)
  have S2 := S1.push (v := .inr (k, wC w k + 1)) (show wC w k + 1 ≤ wC (nO w k N) k by rw [wC_nO, if_pos rfl]; exact Nat.le_refl _)
  have f2 := f p l e R s m args below meth c Q' D b0 c0 s0 w0 ad0 C K H1 locs (cells + 1) (slots + N) _ rl S2
  have e2 : ((Sum.inr (k, wC w k + 1) : VV) :: st).map (vv (adN ad k (wC w k + 1) H.size)) = .ref H.size :: st.map (vv ad) := by
    show rv (adN ad k (wC w k + 1) H.size) (k, wC w k + 1) :: st.map (vv (adN ad k (wC w k + 1) H.size)) = _
    rw [rv_nz (Nat.succ_ne_zero _), adN_new, map_ext (adN_EX ad w k H.size) S.2.2.2.1.2]
  rw [e2] at f2
  exact f2
theorem XE.newa {k n : Nat} {x : Int32} (hd : decode cc pc = .ok (.newarray .int, 2)) (hk : 100 ≤ k) (hk2 : k < 120) (ha : aelem k = 0) (hcl : Cond.arrayClass .int ∈ tbl) (hx0 : ¬ x < 0) (hx : x.toNatClampNeg = n) (hn : n ≤ ksz k) (kk : XE own cc nL ret ini d (pc + 2) ls (.inr (k, wC w k + 1) :: st) (nA w k n) Q) : XE own cc nL ret ini d pc ls (.inl x :: st) w Q := by
  obtain ⟨r, w', q, hm, f⟩ := kk
  have mo := mon_nA w hk2 hn
  have hn6 := Nat.le_trans hn (ksz_le k)
  refine ⟨r, w', q, ⟨mo.tr hm.1, hm.2⟩, ?_⟩
  intro p l e R s m args below meth c Q' D b0 c0 s0 w0 ad0 C K H locs cells slots ad rl S
  have hts := C.2.2.2.2.2.1
  have m1 := hm.1.1
  have m2 := hm.1.2.1
  rw [wn_nA] at m1
  rw [wz_nA] at m2
  have r1 := K.1
  have r2 := K.2.1
  have c1 := S.2.2.2.2.2.2.1
  have c2 := S.2.2.2.2.2.2.2
  have hbH : b0 ≤ H.size := Nat.le_trans C.2.2.2.2.2.2.2.2.2.2.2 S.1.1
  refine va_newaK C.1 C.2.1 (atype := .int) (hts _ hcl) rfl hd rfl hx0 hx (by show n * 4 ≤ _; omega) (by omega) (by omega) rfl fun H1 cA e1 z1 o1 hAr hNm => ?_
  have hR1 : Rel s D b0 (adN ad k (wC w k + 1) H.size) (nA w k n) H1 := by
    refine S.2.1.nw (by omega) hbH z1 o1 (fun k' => wC_nA w k n k') (fun _ _ _ => ⟨rfl, rfl⟩) (fun k' o' h => by rw [wL_nA, if_neg h]) (fun C2 T2 N2 h2 => absurd (vw_lt h2) (by omega)) (fun _ => ⟨cA, by rw [aty_i ha]; exact hAr, by rw [aty_i ha]; exact hNm, ?_⟩)
    rw [e1, wL_nA, if_pos ⟨rfl, rfl⟩]
    congr 2
    funext j
    rw [av_i (by omega), wI_nA, (S.2.1.2.2.2.2.2.2.1 k (wC w k + 1) j (by omega)).1]
    rfl
  have S1 := S.pop.nw (locs1 := locs) (cells1 := cells + 1) (slots1 := slots + n) ⟨Nat.le_trans S.1.1 (by omega), fun x h1 h2 => (o1 x (Nat.lt_of_lt_of_le h1 S.1.1)).trans (S.1.2.1 x h1 h2), S.1.2.2⟩ hR1 (adN_EX ad w k H.size) mo.2.2.1 (by rw [wn_nA]; omega) (by rw [wz_nA]; omega)
  have S2 := S1.push (v := .inr (k, wC w k + 1)) (show wC w k + 1 ≤ wC (nA w k n) k by rw [wC_nA, if_pos rfl]; exact Nat.le_refl _)
  have f2 := f p l e R s m args below meth c Q' D b0 c0 s0 w0 ad0 C K H1 locs (cells + 1) (slots + n) _ rl S2
  have e2 : ((Sum.inr (k, wC w k + 1) : VV) :: st).map (vv (adN ad k (wC w k + 1) H.size)) = .ref H.size :: st.map (vv ad) := by
    show rv (adN ad k (wC w k + 1) H.size) (k, wC w k + 1) :: st.map (vv (adN ad k (wC w k + 1) H.size)) = _
    rw [rv_nz (Nat.succ_ne_zero _), adN_new, map_ext (adN_EX ad w k H.size) S.pop.2.2.2.1.2]
  rw [e2] at f2
  exact f2
theorem XE.newz {k n : Nat} {x : Int32} (hd : decode cc pc = .ok (.newarray .boolean, 2)) (hk : 100 ≤ k) (hk2 : k < 120) (ha : aelem k = 1) (hcl : Cond.arrayClass .boolean ∈ tbl) (hx0 : ¬ x < 0) (hx : x.toNatClampNeg = n) (hn : n ≤ ksz k) (kk : XE own cc nL ret ini d (pc + 2) ls (.inr (k, wC w k + 1) :: st) (nA w k n) Q) : XE own cc nL ret ini d pc ls (.inl x :: st) w Q := by
  obtain ⟨r, w', q, hm, f⟩ := kk
  have mo := mon_nA w hk2 hn
  have hn6 := Nat.le_trans hn (ksz_le k)
  refine ⟨r, w', q, ⟨mo.tr hm.1, hm.2⟩, ?_⟩
  intro p l e R s m args below meth c Q' D b0 c0 s0 w0 ad0 C K H locs cells slots ad rl S
  have hts := C.2.2.2.2.2.1
  have m1 := hm.1.1
  have m2 := hm.1.2.1
  rw [wn_nA] at m1
  rw [wz_nA] at m2
  have r1 := K.1
  have r2 := K.2.1
  have c1 := S.2.2.2.2.2.2.1
  have c2 := S.2.2.2.2.2.2.2
  have hbH : b0 ≤ H.size := Nat.le_trans C.2.2.2.2.2.2.2.2.2.2.2 S.1.1
  refine va_newaK C.1 C.2.1 (atype := .boolean) (hts _ hcl) rfl hd rfl hx0 hx (by show n * 1 ≤ _; omega) (by omega) (by omega) rfl fun H1 cA e1 z1 o1 hAr hNm => ?_
  have hR1 : Rel s D b0 (adN ad k (wC w k + 1) H.size) (nA w k n) H1 := by
    refine S.2.1.nw (by omega) hbH z1 o1 (fun k' => wC_nA w k n k') (fun _ _ _ => ⟨rfl, rfl⟩) (fun k' o' h => by rw [wL_nA, if_neg h]) (fun C2 T2 N2 h2 => absurd (vw_lt h2) (by omega)) (fun _ => ⟨cA, by rw [aty_b ha]; exact hAr, by rw [aty_b ha]; exact hNm, ?_⟩)
    rw [e1, wL_nA, if_pos ⟨rfl, rfl⟩]
    congr 2
    funext j
    rw [av_i (by omega), wI_nA, (S.2.1.2.2.2.2.2.2.1 k (wC w k + 1) j (by omega)).1]
    rfl
  have S1 := S.pop.nw (locs1 := locs) (cells1 := cells + 1) (slots1 := slots + n) ⟨Nat.le_trans S.1.1 (by omega), fun x h1 h2 => (o1 x (Nat.lt_of_lt_of_le h1 S.1.1)).trans (S.1.2.1 x h1 h2), S.1.2.2⟩ hR1 (adN_EX ad w k H.size) mo.2.2.1 (by rw [wn_nA]; omega) (by rw [wz_nA]; omega)
  have S2 := S1.push (v := .inr (k, wC w k + 1)) (show wC w k + 1 ≤ wC (nA w k n) k by rw [wC_nA, if_pos rfl]; exact Nat.le_refl _)
  have f2 := f p l e R s m args below meth c Q' D b0 c0 s0 w0 ad0 C K H1 locs (cells + 1) (slots + n) _ rl S2
  have e2 : ((Sum.inr (k, wC w k + 1) : VV) :: st).map (vv (adN ad k (wC w k + 1) H.size)) = .ref H.size :: st.map (vv ad) := by
    show rv (adN ad k (wC w k + 1) H.size) (k, wC w k + 1) :: st.map (vv (adN ad k (wC w k + 1) H.size)) = _
    rw [rv_nz (Nat.succ_ne_zero _), adN_new, map_ext (adN_EX ad w k H.size) S.pop.2.2.2.1.2]
  rw [e2] at f2
  exact f2
def ANWD (own : String) (idx k : Nat) : Prop := ∃ k' : Nat, aelem k = k' + 2 ∧ Cond.classLink own idx (knm k') ∈ tbl ∧ knm k' ∈ aoN
theorem XE.anew {k n idx : Nat} {x : Int32} (hd : decode cc pc = .ok (.anewarray idx, 3)) (hk : 100 ≤ k) (hk2 : k < 120) (hcl : ANWD own idx k) (hx0 : ¬ x < 0) (hx : x.toNatClampNeg = n) (hn : n ≤ ksz k) (kk : XE own cc nL ret ini d (pc + 3) ls (.inr (k, wC w k + 1) :: st) (nA w k n) Q) : XE own cc nL ret ini d pc ls (.inl x :: st) w Q := by
  subst hx
  obtain ⟨r, w', q, hm, f⟩ := kk
  have mo := mon_nA w hk2 hn
  have hn6 := Nat.le_trans hn (ksz_le k)
  refine ⟨r, w', q, ⟨mo.tr hm.1, hm.2⟩, ?_⟩
  intro p l e R s m args below meth c Q' D b0 c0 s0 w0 ad0 C K H locs cells slots ad rl S
  have hts := C.2.2.2.2.2.1
  obtain ⟨k', ha, hl1, hl2⟩ := hcl
  have m1 := hm.1.1
  have m2 := hm.1.2.1
  rw [wn_nA] at m1
  rw [wz_nA] at m2
  have r1 := K.1
  have r2 := K.2.1
  have c1 := S.2.2.2.2.2.2.1
  have c2 := S.2.2.2.2.2.2.2
  have hbH : b0 ≤ H.size := Nat.le_trans C.2.2.2.2.2.2.2.2.2.2.2 S.1.1
  refine W.anew C.1 C.2.1 C.2.2.2.2.1 (hts _ hl1) (va_AO.use (C.2.2.2.2.2.2.2.2.1.2 _ hl2)) rfl hd rfl hx0 (by omega) (by omega) (by omega) fun cA kA comp g1 g2 g3 g4 => ?_
  generalize hH1 : H.push ({ cls := cA, slots := Array.replicate x.toNatClampNeg .null, vm := .none } : Cell) = H1
  have z1 : H1.size = H.size + 1 := by rw [← hH1, Array.size_push]
  have e1 : H1[H.size]? = some (arrV cA x.toNatClampNeg (fun _ => .null)) := by rw [← hH1, Array.getElem?_push_size, ← arrV_new]
  have o1 : ∀ q : Nat, q < H.size → H1[q]? = H[q]? := fun q hq => by rw [← hH1, Array.getElem?_push, if_neg (Nat.ne_of_lt hq)]
  have hAr : ArrOfT s cA (.object (knm k')) := fun N z => ⟨(fun k h => by cases h), kA, g2, comp, g3⟩
  have hR1 : Rel s D b0 (adN ad k (wC w k + 1) H.size) (nA w k x.toNatClampNeg) H1 := by
    refine S.2.1.nw (by omega) hbH z1 o1 (fun k' => wC_nA w k _ k') (fun _ _ _ => ⟨rfl, rfl⟩) (fun k' o' h => by rw [wL_nA, if_neg h]) (fun C2 T2 N2 h2 => absurd (vw_lt h2) (by omega)) (fun _ => ⟨cA, by rw [aty_r ha]; exact hAr, by rw [aty_r ha]; exact ⟨kA, comp, g2, g3, g4, g1⟩, ?_⟩)
    rw [e1, wL_nA, if_pos ⟨rfl, rfl⟩]
    congr 2
    funext j
    rw [av_r ha, wR_nA, (S.2.1.2.2.2.2.2.2.1 k (wC w k + 1) j (by omega)).2]
    rfl
  have S1 := S.pop.nw (locs1 := locs) (cells1 := cells + 1) (slots1 := slots + x.toNatClampNeg) ⟨Nat.le_trans S.1.1 (by omega), fun x h1 h2 => (o1 x (Nat.lt_of_lt_of_le h1 S.1.1)).trans (S.1.2.1 x h1 h2), S.1.2.2⟩ hR1 (adN_EX ad w k H.size) mo.2.2.1 (by rw [wn_nA]; omega) (by rw [wz_nA]; omega)
  have S2 := S1.push (v := .inr (k, wC w k + 1)) (show wC w k + 1 ≤ wC (nA w k x.toNatClampNeg) k by rw [wC_nA, if_pos rfl]; exact Nat.le_refl _)
  have f2 := f p l e R s m args below meth c Q' D b0 c0 s0 w0 ad0 C K H1 locs (cells + 1) (slots + x.toNatClampNeg) _ rl S2
  have e2 : ((Sum.inr (k, wC w k + 1) : VV) :: st).map (vv (adN ad k (wC w k + 1) H.size)) = .ref H.size :: st.map (vv ad) := by
    show rv (adN ad k (wC w k + 1) H.size) (k, wC w k + 1) :: st.map (vv (adN ad k (wC w k + 1) H.size)) = _
    rw [rv_nz (Nat.succ_ne_zero _), adN_new, map_ext (adN_EX ad w k H.size) S.pop.2.2.2.1.2]
  rw [e2] at f2
  exact f2
end XH

/-! calls -/
def MT (y : MethodName) (cc : ByteArray) (nL : Nat) (ret : Option FieldType) (d : Nat) (As : List VV) (w : WW) (r : Option VV) (w' : WW) : Prop :=
  (MON w w' ∧ RT ret r) ∧ ∀ (l : Launch) (D : va_G) (b0 : Nat) (ad : AD), Met l y (Cond.code y cc nL ret :: tbl) { frames := d, cells := wn w' - wn w, slots := wz w' - wz w, locals := 34 * d }
    (fun a U => a = (As.map (vv ad)).toArray ∧ b0 ≤ U.heap.size ∧ Rel U D b0 ad w U.heap ∧ (∀ v ∈ As, okV w v) ∧ VK D U)
    (fun _ u o t => ∃ ad' : AD, EX w ad ad' ∧ o = .returned (r.map (vv ad')) ∧ Rel t D b0 ad' w' t.heap ∧ (∀ v, r = some v → okV w' v) ∧ va_F (fun q => b0 ≤ q) u t)
    (wn w' - wn w) (wz w' - wz w) (fun q => b0 ≤ q)
/-- a call with these arguments in this world returns, with an answer and a world that have Q -/
def CE (y : MethodName) (cc : ByteArray) (nL : Nat) (ret : Option FieldType) (d : Nat) (As : List VV) (w : WW) (Q : Option VV → WW → Prop) : Prop := ∃ (r : Option VV) (w' : WW), Q r w' ∧ MT y cc nL ret d As w r w'
theorem CE.mono {y : MethodName} {cc : ByteArray} {nL : Nat} {ret : Option FieldType} {d : Nat} {As : List VV} {w : WW} {Q Q' : Option VV → WW → Prop} (h : CE y cc nL ret d As w Q') (hQ : ∀ r w', Q' r w' → Q r w') : CE y cc nL ret d As w Q := by
  obtain ⟨r, w', q, x⟩ := h
  exact ⟨r, w', hQ r w' q, x⟩
theorem lg_vv (ad : AD) : ∀ As : List VV, lg_sl (As.map (vv ad)) = As.map (fun v => Slot.val (vv ad v)) := by
  intro As
  induction As with
  | nil => rfl
  | cons v As ih =>
    show (if (vv ad v).category = 2 then _ else _) ++ lg_sl (As.map (vv ad)) = _
    rw [if_neg (by rw [vv_cat]; decide), ih]
    rfl
theorem lv_args_vv (ad : AD) : ∀ (As : List VV) (i : Nat) (j : Nat) (v : VV), As[j]? = some v → (i + j, vv ad v) ∈ lv_args i (As.map (vv ad)) := by
  intro As
  induction As with
  | nil => intro i j v h; simp at h
  | cons u As ih =>
    intro i j v h
    show _ ∈ (i, vv ad u) :: lv_args (if (vv ad u).category = 2 then i + 2 else i + 1) (As.map (vv ad))
    rw [if_neg (by rw [vv_cat]; decide)]
    cases j with
    | zero =>
      cases h
      exact List.mem_cons_self
    | succ j =>
      have := ih (i + 1) j v h
      rw [show i + (j + 1) = i + 1 + j by omega]
      exact List.mem_cons_of_mem _ this
theorem RT_no {r : Option VV} {ty : FieldType} (h1 : ty ≠ .int) (h2 : ty ≠ .boolean) (h3 : ∀ n, ty ≠ .object n) (h4 : ∀ t, ty ≠ .array t) (h : RT (some ty) r) : False := by
  cases ty <;> simp_all [RT]
set_option maxHeartbeats 4000000 in
theorem CE.of {y : MethodName} {cc : ByteArray} {nL : Nat} {ret : Option FieldType} {ini : Bool} {d : Nat} {As : List VV} {w : WW} {Q : Option VV → WW → Prop} (hy : plainName y.cls = true) (hini : ini = true → y.name = "<init>") (hn : As.length ≤ nL)
    (k : XE y.cls cc nL ret ini d 0 (As.map some ++ List.replicate (nL - As.length) none) [] w Q) : CE y cc nL ret d As w Q := by
  obtain ⟨r, w', hQq, hm, f⟩ := k
  refine ⟨r, w', hQq, hm, fun l D b0 ad => ?_⟩
  refine Met.ofW (cc := cc) (maxL := nL) (ret := ret) hy rfl ?_
  intro p e s m args below meth c s₁ B hml hv
  obtain ⟨rfl, hb0, hR, hok, hK⟩ := hv
  have hts := atoms_spec (ws := Cond.code y cc nL ret :: tbl) B.pre
  have hr := B.returns
  rw [lg_entry_eq]
  have hlen : (lg_sl (As.map (vv ad))).length = As.length := by rw [lg_vv]; simp
  have hl := lv_entry (As.map (vv ad)) (n := nL) (by rw [hlen]; exact hn)
  have hx := B.exec
  have hb := B.bytes
  have hlocks := B.notSynchronized
  have m1 := hm.1.1
  have m2 := hm.1.2.1
  refine f p l e _ s m _ below meth c _ D b0 (wn w) (wz w) w ad ⟨hx, hb, hr, hml, findClass_of_methodNamed B.named, fun v hv => hts v (List.mem_cons_of_mem _ hv), hlocks, fun h => by rw [(name_of_methodNamed B.named B.method).1]; exact hini h, hK, Nat.le_refl _, Nat.le_refl _, hb0⟩ ⟨by show wn w' ≤ wn w' - wn w + wn w; omega, by show wz w' ≤ wz w' - wz w + wz w; omega, ?_⟩ s.heap [] 0 0 ad _ ⟨va_S.rf, hR, ?_, ⟨fun v hv => ?_, fun v hv => absurd hv List.not_mem_nil⟩, fun _ => Nat.le_refl _, EX.rf, Nat.zero_add _, Nat.zero_add _⟩
  · intro H' locs' ad' pc' rl' cells' slots' hS' hR' hE' hok' hrt hdg hc1 hc2
    have e1 : cells' = wn w' - wn w := by omega
    have e2 : slots' = wz w' - wz w := by omega
    subst e1; subst e2
    have post : ∀ (v : Option Value) (t : State), v = r.map (vv ad') → t.heap = H' → s.WarmedH t.vm → ∃ ad' : AD, EX w ad ad' ∧ Outcome.returned v = .returned (r.map (vv ad')) ∧ Rel t D b0 ad' w' t.heap ∧ (∀ v, r = some v → okV w' v) ∧ va_F (fun q => b0 ≤ q) s t := by
      intro v t hv ht hW
      exact ⟨ad', hE', by rw [hv], by rw [ht]; exact hR'.moved hW.alike, hok', hS'.F ht⟩
    cases ret with
    | none =>
      cases r with
      | some v => exact hrt.elim
      | none => exact W.vret hx hb hr (fun t ht hW => post none t rfl ht hW) hS'.2.2 hdg
    | some ty =>
      cases r with
      | none => cases ty <;> exact hrt.elim
      | some v =>
        cases ty with
        | int =>
          cases v with
          | inl x => exact W.iret (v := x) hx hb hr (fun t ht hW => post (some (.int x)) t rfl ht hW) hS'.2.2 hdg
          | inr q => exact hrt.elim
        | boolean =>
          cases v with
          | inl x => exact W.zret (v := x) hx hb hr (by rcases hrt with h | h <;> rw [h] <;> decide) (fun t ht hW => post (some (.int x)) t rfl ht hW) hS'.2.2 hdg
          | inr q => exact hrt.elim
        | object n =>
          cases v with
          | inl x => exact hrt.elim
          | inr q => exact W.aret (v := rv ad' q) hx hb hr (Or.inl ⟨n, rfl⟩) (by rw [rv_rf]; exact va_rf_or _) (fun t ht hW => post (some (rv ad' q)) t rfl ht hW) hS'.2.2 hdg
        | array n =>
          cases v with
          | inl x => exact hrt.elim
          | inr q => exact W.aret (v := rv ad' q) hx hb hr (Or.inr ⟨n, rfl⟩) (by rw [rv_rf]; exact va_rf_or _) (fun t ht hW => post (some (rv ad' q)) t rfl ht hW) hS'.2.2 hdg
        | _ => exact hrt.elim
  · refine LR.of (by simp; omega) hl (fun i v hi => ?_)
    have hi2 : i < As.length := by
      rcases Nat.lt_or_ge i As.length with h | h
      · exact h
      · rw [List.getElem?_append_right (by simpa using h)] at hi
        have := List.mem_of_getElem? hi
        rw [List.mem_replicate] at this
        exact absurd this.2 (by simp)
    rw [List.getElem?_append_left (by simpa using hi2), List.getElem?_map, List.getElem?_eq_getElem hi2] at hi
    have := lv_args_vv ad As 0 i v (by rw [List.getElem?_eq_getElem hi2]; simpa using hi)
    rwa [Nat.zero_add] at this
  · rcases List.mem_append.mp hv with h | h
    · obtain ⟨u, hu, he⟩ := List.mem_map.mp h
      cases he
      exact hok v hu
    · rw [List.mem_replicate] at h
      exact absurd h.2 (by simp)
/-- the words of a callee -/
def CAB (own : String) (idx : Nat) (y : MethodName) (cc : ByteArray) (nL : Nat) (ret : Option FieldType) (n : Nat) : Prop := Cond.methodLink own idx y ∈ tbl ∧ Cond.code y cc nL ret ∈ tbl ∧ Cond.initialized y.cls ∈ tbl ∧ nL ≤ 15 ∧ (y.cls ≠ "java/lang/invoke/MethodHandle" ∧ y.cls ≠ "java/lang/invoke/VarHandle" ∧ (parseMethodDescriptor y.desc).map (fun d => d.parameters.length) = some n)
theorem gi_tbl {y : MethodName} {cc : ByteArray} {nL : Nat} {ret : Option FieldType} (h : Cond.code y cc nL ret ∈ tbl) : GoodIn tbl (Cond.code y cc nL ret :: tbl) := fun v hv => by
  rcases List.mem_cons.mp hv with rfl | hv
  · exact ⟨h, tbl_good _ h⟩
  · exact ⟨hv, tbl_good _ hv⟩
theorem sum_cat (ad : AD) : ∀ st : List VV, ((st.map (vv ad)).map fun v => v.category).sum = st.length := by
  intro st
  induction st with
  | nil => rfl
  | cons v st ih => simp only [List.map_cons, List.sum_cons, ih, vv_cat, List.length_cons]; omega
section XC
variable {own : String} {cc : ByteArray} {nL : Nat} {ret : Option FieldType} {ini : Bool} {d pc : Nat} {ls : List (Option VV)} {st : List VV} {w : WW} {Q : Option VV → WW → Prop}
theorem pre_blind {D : va_G} {b0 : Nat} {ad : AD} {As : List VV} {w : WW} : FrameBlind (fun a U => a = (As.map (vv ad)).toArray ∧ b0 ≤ U.heap.size ∧ Rel U D b0 ad w U.heap ∧ (∀ v ∈ As, okV w v) ∧ VK D U) :=
  fun a U g mk q => ⟨q.1, q.2.1, Rel.moved (s := U) (U := U.calling g mk a) (Vm.Alike.refl U.vm) q.2.2.1, q.2.2.2.1, VK.moved (u := U) (U := U.calling g mk a) (Vm.Alike.refl U.vm) q.2.2.2.2⟩
/-- behind any call -/
theorem gx_back {p : Program} {l : Launch} {e : Env} {R : Room} {s : State} {m : MethodId} {args : Array Value} {below : List Frame} {meth : Method} {c : Code} {H : Heap} {locs : List Loc} {cells slots : Nat} {Q' : State → Prop} {D : va_G} {b0 c0 s0 : Nat} {ad ad0 : AD} {w0 w1 : WW} {rl : Array Slot} {rest : List VV} {r1 : Option VV} {stk : List Value}
    (S : ST s D b0 c0 s0 w0 ad0 nL ls rest w H locs cells slots ad rl) (hm : MON w w1)
    (hr : va_Run p l e R s m args below meth c H locs cells slots (wn w1 - wn w) (wz w1 - wz w) (F0 m pc rl stk) (rest.map (vv ad)) (fun u o t => ∃ ad' : AD, EX w ad ad' ∧ o = .returned (r1.map (vv ad')) ∧ Rel t D b0 ad' w1 t.heap ∧ (∀ v, r1 = some v → okV w1 v) ∧ va_F (fun q => b0 ≤ q) u t) (fun q => b0 ≤ q))
    (kk : ∀ (H1 : Heap) (locs1 : List Loc) (cells1 slots1 : Nat) (ad1 : AD), ST s D b0 c0 s0 w0 ad0 nL ls (r1.toList ++ rest) w1 H1 locs1 cells1 slots1 ad1 rl → W p l e R s m args below meth c H1 locs1 cells1 slots1 Q' (F0 m (pc + 3) rl ((r1.toList ++ rest).map (vv ad1)))) :
    W p l e R s m args below meth c H locs cells slots Q' (F0 m pc rl stk) := by
  intro T hT X
  obtain ⟨v, st₀, t, T', L, h0, X', hL, e1, e2, ⟨ad1, hE, ho, hR1, hok1, hF⟩, st2⟩ := hr T hT X
  cases ho
  obtain ⟨hz, hk⟩ := hF
  rw [h0] at hz hk
  have al : s.vm.Alike t.vm := by rw [← e2]; exact X'.warmed.alike
  have S1 : ST s D b0 c0 s0 w0 ad0 nL ls (r1.toList ++ rest) w1 T'.heap (locs ++ L) (cells + (wn w1 - wn w)) (slots + (wz w1 - wz w)) ad1 rl := by
    refine (S.nw (locs1 := locs ++ L) (H1 := T'.heap) ⟨Nat.le_trans S.1.1 (by rw [e1]; exact hz), fun q h1 h2 => by rw [e1, hk q (Nat.lt_of_lt_of_le h1 S.1.1) h2]; exact S.1.2.1 q h1 h2, fun q hq => ?_⟩ (by rw [e1]; exact hR1.moved al.symm) hE hm.2.2.1 ?_ ?_).stk (fun v hv => ?_)
    · rcases List.mem_append.mp hq with h | h
      · exact S.1.2.2 q h
      · exact hL q h
    · have := S.2.2.2.2.2.2.1
      have := hm.1
      omega
    · have := S.2.2.2.2.2.2.2
      have := hm.2.1
      omega
    · rcases List.mem_append.mp hv with h | h
      · exact hok1 v (by cases r1 with
          | none => exact absurd h List.not_mem_nil
          | some u => rw [List.mem_singleton.mp h])
      · exact (S.ok h).mono hm.2.2.1
  obtain ⟨t2, a1, b1⟩ := kk T'.heap (locs ++ L) _ _ ad1 S1 T' rfl X'
  refine ⟨t2, st2 t2 ?_, b1⟩
  have e3 : (r1.map (vv ad1)).toList ++ rest.map (vv ad) = (r1.toList ++ rest).map (vv ad1) := by
    rw [List.map_append, map_ext hE S.2.2.2.1.2]
    cases r1 <;> rfl
  show Steps p.tables e below (T'.setTop (F0 m (pc + 3) rl ((r1.map (vv ad1)).toList ++ rest.map (vv ad)))) t2
  rw [e3]
  exact a1
theorem rooms {d d' nL' cells slots c0 s0 a a' z z' : Nat} {R : Room} (h : d' + 1 ≤ d) (hf : d ≤ R.frames) (hl : 34 * d ≤ R.locals) (hn : nL' ≤ 15) (m1 : a ≤ a') (m2 : z ≤ z') (c1 : cells + c0 = a) (c2 : slots + s0 = z) (r1 : a' ≤ R.cells + c0) (r2 : z' ≤ R.slots + s0) :
    (d' + 1 ≤ R.frames ∧ 8 + (nL' + 11) + 34 * d' ≤ R.locals) ∧ (cells + (a' - a) ≤ R.cells ∧ slots + (z' - z) ≤ R.slots) := by omega
theorem XE.callV {k o idx n d' nL' : Nat} {y : MethodName} {cc' : ByteArray} {ret' : Option FieldType} {As rest : List VV} {Cn : String} {T : u_T} {N : Nat} {Qc : Option VV → WW → Prop} (hd : decode cc pc = .ok (.invokevirtual idx, 3)) (hB : CAB own idx y cc' nL' ret' n) (hc : vwCl[k]? = some (Cn, T, N)) (hyc : y.cls = Cn) (hin : Cond.instanceMethod y ∈ tbl) (hse : Cond.selects y.cls y y ∈ tbl) (ho : o ≠ 0) (hn : As.length = n) (hrest : rest.length ≤ 8) (hdd : d' + 1 ≤ d)
    (hst : st = As.reverse ++ .inr (k, o) :: rest) (hC : CE y cc' nL' ret' d' (.inr (k, o) :: As) w Qc) (kk : ∀ r1 w1, MON w w1 → Qc r1 w1 → XE own cc nL ret ini d (pc + 3) ls (r1.toList ++ rest) w1 Q) : XE own cc nL ret ini d pc ls st w Q := by
  subst hst
  obtain ⟨r1, w1, q1, hm1, hM⟩ := hC
  obtain ⟨r, w', q, hm, f⟩ := kk r1 w1 hm1.1 q1
  refine ⟨r, w', q, ⟨hm1.1.tr hm.1, hm.2⟩, ?_⟩
  intro p l e R s m args below meth c Q' D b0 c0 s0 w0 ad0 C K H locs cells slots ad rl S
  obtain ⟨b1, b2, b3, b4, b5, b6, b7⟩ := hB
  have hts := C.2.2.2.2.2.1
  have hof : ∀ v ∈ As, okV w v := fun v hv => S.ok (List.mem_append_left _ (List.mem_reverse.mpr hv))
  have hoo : okV w (.inr (k, o)) := S.ok (List.mem_append_right _ List.mem_cons_self)
  have Sr := S.stk (st' := rest) (fun v hv => S.ok (List.mem_append_right _ (List.mem_cons_of_mem _ hv)))
  have rms := rooms hdd C.2.2.2.2.2.2.2.2.2.1 C.2.2.2.2.2.2.2.2.2.2.1 b4 hm1.1.1 hm1.1.2.1 S.2.2.2.2.2.2.1 S.2.2.2.2.2.2.2 (Nat.le_trans hm.1.1 K.1) (Nat.le_trans hm.1.2.1 K.2.1)
  obtain ⟨cell, g1, g2, g3, -⟩ := S.2.1.1 k o Cn T N hc ⟨Nat.pos_of_ne_zero ho, hoo⟩
  have hcls := (C.2.2.2.2.2.2.2.2.1.1.1 k _ hc).2
  have gi : GoodIn tbl (wsV own idx y.cls y (Cond.code y cc' nL' ret' :: tbl)) := fun v hv => by
    have hv : v ∈ tbl := by
      unfold wsV at hv
      rcases List.mem_append.mp hv with h | h
      · simp only [List.mem_cons, List.mem_nil_iff, or_false] at h
        rcases h with rfl | rfl | rfl | rfl
        · exact b1
        · exact hin
        · exact hse
        · exact b3
      · rcases List.mem_cons.mp h with rfl | h
        · exact b2
        · exact h
    exact ⟨hv, tbl_good _ hv⟩
  have hrun := va_runV (p := p) (e := e) (below := below) (locs := locs) (cells := cells) (slots := slots) (meth := meth) (As := As.map (vv ad)) (rest := rest.map (vv ad)) (b := ad k o) (g := F0 m pc rl ((As.map (vv ad)).reverse ++ .ref (ad k o) :: rest.map (vv ad))) ⟨C.1, C.2.1, C.2.2.2.1, C.2.2.2.2.1, hts⟩ (hM l D b0 ad)
    (cwV (R := R) n hts gi rfl rfl rfl ⟨rfl, b5, b6, b7⟩ rms.1)
    ⟨pre_blind, ⟨cell, g1, by rw [g3]; rfl, by rw [hyc, g2]; exact hcls.1⟩, fun U hU hW => ⟨by show _ = (rv ad (k, o) :: As.map (vv ad)).toArray; rw [rv_nz ho], by rw [hU]; exact Nat.le_trans C.2.2.2.2.2.2.2.2.2.2.2 S.1.1, by rw [hU]; exact S.2.1.moved hW.alike, fun v hv => by
      rcases List.mem_cons.mp hv with rfl | h
      · exact hoo
      · exact hof v h, VK.moved hW.alike C.2.2.2.2.2.2.2.2.1⟩⟩ rfl (by rw [List.length_map]; exact hn) (by rw [S.2.2.1.2.1]) rfl (lv_room (by rw [sum_cat]; exact hrest)) hd rms.2
  have e0 : (As.reverse ++ .inr (k, o) :: rest).map (vv ad) = (As.map (vv ad)).reverse ++ .ref (ad k o) :: rest.map (vv ad) := by
    rw [List.map_append, List.map_reverse, List.map_cons]
    show _ ++ rv ad (k, o) :: _ = _
    rw [rv_nz ho]
  rw [e0]
  exact gx_back Sr hm1.1 hrun (fun H1 locs1 cells1 slots1 ad1 S1 => f p l e R s m args below meth c Q' D b0 c0 s0 w0 ad0 C K H1 locs1 cells1 slots1 ad1 rl S1)
theorem XE.callS {idx n d' nL' : Nat} {y : MethodName} {cc' : ByteArray} {ret' : Option FieldType} {As rest : List VV} {Qc : Option VV → WW → Prop} (hd : decode cc pc = .ok (.invokestatic idx, 3)) (hB : CAB own idx y cc' nL' ret' n) (hsa : Cond.static y ∈ tbl) (hn : As.length = n) (hrest : rest.length ≤ 8) (hdd : d' + 1 ≤ d)
    (hst : st = As.reverse ++ rest) (hC : CE y cc' nL' ret' d' As w Qc) (kk : ∀ r1 w1, MON w w1 → Qc r1 w1 → XE own cc nL ret ini d (pc + 3) ls (r1.toList ++ rest) w1 Q) : XE own cc nL ret ini d pc ls st w Q := by
  subst hst
  obtain ⟨r1, w1, q1, hm1, hM⟩ := hC
  obtain ⟨r, w', q, hm, f⟩ := kk r1 w1 hm1.1 q1
  refine ⟨r, w', q, ⟨hm1.1.tr hm.1, hm.2⟩, ?_⟩
  intro p l e R s m args below meth c Q' D b0 c0 s0 w0 ad0 C K H locs cells slots ad rl S
  obtain ⟨b1, b2, b3, b4, b5, b6, b7⟩ := hB
  have hts := C.2.2.2.2.2.1
  have hof : ∀ v ∈ As, okV w v := fun v hv => S.ok (List.mem_append_left _ (List.mem_reverse.mpr hv))
  have Sr := S.stk (st' := rest) (fun v hv => S.ok (List.mem_append_right _ hv))
  have rms := rooms hdd C.2.2.2.2.2.2.2.2.2.1 C.2.2.2.2.2.2.2.2.2.2.1 b4 hm1.1.1 hm1.1.2.1 S.2.2.2.2.2.2.1 S.2.2.2.2.2.2.2 (Nat.le_trans hm.1.1 K.1) (Nat.le_trans hm.1.2.1 K.2.1)
  have hrun := va_runS (p := p) (e := e) (below := below) (locs := locs) (cells := cells) (slots := slots) (meth := meth) (As := As.map (vv ad)) (rest := rest.map (vv ad)) (g := F0 m pc rl ((As.map (vv ad)).reverse ++ rest.map (vv ad))) ⟨C.1, C.2.1, C.2.2.2.1, C.2.2.2.2.1, hts⟩ (hM l D b0 ad)
    ⟨callB_of (R := R) n hts (gi_tbl b2) rfl rfl rfl (hts _ b3) (hts _ b1) ⟨b5, b6, b7⟩ rms.1, hts _ hsa⟩
    ⟨pre_blind, fun U hU hW => ⟨rfl, by rw [hU]; exact Nat.le_trans C.2.2.2.2.2.2.2.2.2.2.2 S.1.1, by rw [hU]; exact S.2.1.moved hW.alike, hof, VK.moved hW.alike C.2.2.2.2.2.2.2.2.1⟩⟩ rfl (by rw [List.length_map]; exact hn) (by rw [S.2.2.1.2.1]) rfl (lv_room (by rw [sum_cat]; exact hrest)) hd rms.2
  have e0 : (As.reverse ++ rest).map (vv ad) = (As.map (vv ad)).reverse ++ rest.map (vv ad) := by
    rw [List.map_append, List.map_reverse]
  rw [e0]
  exact gx_back Sr hm1.1 hrun (fun H1 locs1 cells1 slots1 ad1 S1 => f p l e R s m args below meth c Q' D b0 c0 s0 w0 ad0 C K H1 locs1 cells1 slots1 ad1 rl S1)
theorem XE.callI {k o idx n d' nL' : Nat} {y : MethodName} {cc' : ByteArray} {As rest : List VV} {Qc : Option VV → WW → Prop} (hd : decode cc pc = .ok (.invokespecial idx, 3)) (hB : CAB own idx y cc' nL' none n) (hy1 : y.name = "<init>") (hin : Cond.instanceMethod y ∈ tbl) (ho : o ≠ 0) (hn : As.length = n) (hrest : rest.length ≤ 8) (hdd : d' + 1 ≤ d)
    (hst : st = As.reverse ++ .inr (k, o) :: rest) (hC : CE y cc' nL' none d' (.inr (k, o) :: As) w Qc) (kk : ∀ r1 w1, MON w w1 → Qc r1 w1 → XE own cc nL ret ini d (pc + 3) ls (r1.toList ++ rest) w1 Q) : XE own cc nL ret ini d pc ls st w Q := by
  subst hst
  obtain ⟨r1, w1, q1, hm1, hM⟩ := hC
  obtain ⟨r, w', q, hm, f⟩ := kk r1 w1 hm1.1 q1
  refine ⟨r, w', q, ⟨hm1.1.tr hm.1, hm.2⟩, ?_⟩
  intro p l e R s m args below meth c Q' D b0 c0 s0 w0 ad0 C K H locs cells slots ad rl S
  obtain ⟨b1, b2, b3, b4, b5, b6, b7⟩ := hB
  have hts := C.2.2.2.2.2.1
  have hof : ∀ v ∈ As, okV w v := fun v hv => S.ok (List.mem_append_left _ (List.mem_reverse.mpr hv))
  have hoo : okV w (.inr (k, o)) := S.ok (List.mem_append_right _ List.mem_cons_self)
  have Sr := S.stk (st' := rest) (fun v hv => S.ok (List.mem_append_right _ (List.mem_cons_of_mem _ hv)))
  have rms := rooms hdd C.2.2.2.2.2.2.2.2.2.1 C.2.2.2.2.2.2.2.2.2.2.1 b4 hm1.1.1 hm1.1.2.1 S.2.2.2.2.2.2.1 S.2.2.2.2.2.2.2 (Nat.le_trans hm.1.1 K.1) (Nat.le_trans hm.1.2.1 K.2.1)
  have hrun := va_runI (p := p) (e := e) (below := below) (locs := locs) (cells := cells) (slots := slots) (meth := meth) (As := As.map (vv ad)) (rest := rest.map (vv ad)) (b := ad k o) (g := F0 m pc rl ((As.map (vv ad)).reverse ++ .ref (ad k o) :: rest.map (vv ad))) ⟨C.1, C.2.1, C.2.2.2.1, C.2.2.2.2.1, hts⟩ (hM l D b0 ad)
    ⟨callB_of (R := R) n hts (gi_tbl b2) rfl rfl rfl (hts _ b3) (hts _ b1) ⟨b5, b6, b7⟩ rms.1, hy1, hts _ hin⟩
    ⟨pre_blind, fun U hU hW => ⟨by show _ = (rv ad (k, o) :: As.map (vv ad)).toArray; rw [rv_nz ho], by rw [hU]; exact Nat.le_trans C.2.2.2.2.2.2.2.2.2.2.2 S.1.1, by rw [hU]; exact S.2.1.moved hW.alike, fun v hv => by
      rcases List.mem_cons.mp hv with rfl | h
      · exact hoo
      · exact hof v h, VK.moved hW.alike C.2.2.2.2.2.2.2.2.1⟩⟩ rfl (by rw [List.length_map]; exact hn) (by rw [S.2.2.1.2.1]) rfl (lv_room (by rw [sum_cat]; exact hrest)) hd rms.2
  have e0 : (As.reverse ++ .inr (k, o) :: rest).map (vv ad) = (As.map (vv ad)).reverse ++ .ref (ad k o) :: rest.map (vv ad) := by
    rw [List.map_append, List.map_reverse, List.map_cons]
    show _ ++ rv ad (k, o) :: _ = _
    rw [rv_nz ho]
  rw [e0]
  exact gx_back Sr hm1.1 hrun (fun H1 locs1 cells1 slots1 ad1 S1 => f p l e R s m args below meth c Q' D b0 c0 s0 w0 ad0 C K H1 locs1 cells1 slots1 ad1 rl S1)
theorem XE.objInit {k o idx : Nat} (hd : decode cc pc = .ok (.invokespecial idx, 3)) (h1 : Cond.methodLink own idx Lib.objectInit ∈ tbl) (h2 : Cond.instanceMethod Lib.objectInit ∈ tbl) (h3 : Cond.code Lib.objectInit ⟨#[0xb1]⟩ 1 none ∈ tbl) (ho : o ≠ 0) (hrest : st.length ≤ 8) (hdd : 1 ≤ d) (kk : XE own cc nL ret ini d (pc + 3) ls st w Q) : XE own cc nL ret ini d pc ls (.inr (k, o) :: st) w Q := by
  obtain ⟨r, w', q, hm, f⟩ := kk
  refine ⟨r, w', q, hm, ?_⟩
  intro p l e R s m args below meth c Q' D b0 c0 s0 w0 ad0 C K H locs cells slots ad rl S
  have f2 := f p l e R s m args below meth c Q' D b0 c0 s0 w0 ad0 C K H locs cells slots ad rl S.pop
  have hts := C.2.2.2.2.2.1
  show W _ _ _ _ _ _ _ _ _ _ _ _ _ _ _ (F0 m pc rl (rv ad (k, o) :: st.map (vv ad)))
  rw [rv_nz ho]
  have hf := C.2.2.2.2.2.2.2.2.2.1
  have hl := C.2.2.2.2.2.2.2.2.2.2.1
  refine W.objInit C.1 C.2.1 C.2.2.2.2.1 (hts _ h1) (hts _ h2) (hts _ h3) (g := F0 m pc rl (.ref (ad k o) :: st.map (vv ad))) rfl (by rw [C.2.2.2.1]; exact S.2.2.1.2.1) rfl hd (by omega) ?_ f2
  have := sum_cat ad st
  have h0 : (F0 m pc rl (.ref (ad k o) :: st.map (vv ad))).monitorRoom = 0 := rfl
  rw [h0]
  omega
end XC
