/-! THE MODEL: what the class and the reference both are, as plain functions -/
theorem inc_nI (i : Nat) : nI i + Int32.ofInt 1 = nI (i + 1) := nI_1 i
theorem ixn2 {n L K : Nat} (hL : L = K) (h : n < K) (hK : K ≤ 1000000) : IXN (nI n) L n := by
  subst hL
  exact IXN.nI h hK
def bI (b : Bool) : Int32 := if b then 1 else 0
theorem bI_t : bI true = 1 := rfl
theorem bI_f : bI false = 0 := rfl
theorem bI_01 (b : Bool) : bI b = 0 ∨ bI b = 1 := by cases b <;> decide
theorem bI_eq0 (b : Bool) : bI b = 0 ↔ b = false := by cases b <;> decide
theorem bI_eq1 (b : Bool) : bI b = 1 ↔ b = true := by cases b <;> decide
def uf {α : Type} (f : Nat → α) (k : Nat) (v : α) : Nat → α := fun j => if j = k then v else f j
theorem uf_s {α : Type} (f : Nat → α) (k : Nat) (v : α) : uf f k v k = v := if_pos rfl
theorem uf_n {α : Type} (f : Nat → α) {k j : Nat} (v : α) (h : j ≠ k) : uf f k v j = f j := if_neg h
/-! the ends of a method -/
section ENDS
variable {own : String} {cc : ByteArray} {nL : Nat} {ini : Bool} {d pc : Nat} {ls : List (Option VV)} {w : WW} {Q : Option VV → WW → Prop}
theorem XE.ri {x : Int32} (hd : decode cc pc = .ok (.ireturn, 1)) (q : Q (some (.inl x)) w) : XE own cc nL (some .int) ini d pc ls [.inl x] w Q := XE.retn (r := some (.inl x)) hd trivial rfl q
theorem XE.rb {x : Int32} (hd : decode cc pc = .ok (.ireturn, 1)) (hb : x = 0 ∨ x = 1) (q : Q (some (.inl x)) w) : XE own cc nL (some .boolean) ini d pc ls [.inl x] w Q := XE.retn (r := some (.inl x)) hd hb rfl q
theorem XE.rv (hd : decode cc pc = .ok (.return_, 1)) (q : Q none w) : XE own cc nL none ini d pc ls [] w Q := XE.retn (r := none) hd trivial rfl q
theorem XE.rr {n : String} {x : Nat × Nat} (hd : decode cc pc = .ok (.areturn, 1)) (q : Q (some (.inr x)) w) : XE own cc nL (some (.object n)) ini d pc ls [.inr x] w Q := XE.retn (r := some (.inr x)) hd trivial rfl q
end ENDS
theorem eq_nI {a b : Nat} (ha : a ≤ 1000000) (hb : b ≤ 1000000) : nI a = nI b ↔ a = b := nI_eq (by omega) (by omega)
theorem lt_nI {a b : Nat} (ha : a ≤ 1000000) (hb : b ≤ 1000000) : nI a < nI b ↔ a < b := nI_ltI (by omega) (by omega)
theorem le_nI {a b : Nat} (ha : a ≤ 1000000) (hb : b ≤ 1000000) : nI a ≤ nI b ↔ a ≤ b := nI_leI (by omega) (by omega)
/-! the table of the nodes: given, there, folder, directory, name, cells -/
abbrev Tb : Type := Nat × (Nat → Bool) × (Nat → Bool) × (Nat → Int32) × (Nat → Int32) × (Nat → Nat → Int32)
def tG (t : Tb) : Nat := t.1
def tT (t : Tb) (n : Nat) : Bool := t.2.1 n
def tF (t : Tb) (n : Nat) : Bool := t.2.2.1 n
def tD (t : Tb) (n : Nat) : Int32 := t.2.2.2.1 n
def tN (t : Tb) (n : Nat) : Int32 := t.2.2.2.2.1 n
def tC (t : Tb) (n i : Nat) : Int32 := t.2.2.2.2.2 n i
/-! a change: kind (1 made, 2 removed, 3 moved, 4 written), node, three numbers -/
abbrev Ch : Type := Nat × Nat × Int32 × Int32 × Int32
def app (c : Ch) (t : Tb) : Tb :=
  if c.1 = 1 then (c.2.1, uf t.2.1 c.2.1 true, uf t.2.2.1 c.2.1 (c.2.2.2.2 == 1), uf t.2.2.2.1 c.2.1 c.2.2.1, uf t.2.2.2.2.1 c.2.1 c.2.2.2.1, uf t.2.2.2.2.2 c.2.1 (fun _ => 0))
  else if c.1 = 2 then (t.1, uf t.2.1 c.2.1 false, t.2.2)
  else if c.1 = 3 then (t.1, t.2.1, t.2.2.1, uf t.2.2.2.1 c.2.1 c.2.2.1, uf t.2.2.2.2.1 c.2.1 c.2.2.2.1, t.2.2.2.2.2)
  else (t.1, t.2.1, t.2.2.1, t.2.2.2.1, t.2.2.2.2.1, uf t.2.2.2.2.2 c.2.1 (uf (t.2.2.2.2.2 c.2.1) c.2.2.1.toNatClampNeg c.2.2.2.1))
def tb0 : Tb := (0, (fun n => n == 0), (fun n => n == 0), (fun n => if n = 0 then -3 else 0), (fun n => if n = 0 then -3 else 0), (fun _ _ => 0))
/-- the table after the first so many changes of a log -/
def rep (lg : Nat → Ch) : Nat → Tb
  | 0 => tb0
  | n + 1 => app (lg n) (rep lg n)
theorem rep_congr {lg lg' : Nat → Ch} : ∀ {n : Nat}, (∀ c, c < n → lg c = lg' c) → rep lg n = rep lg' n := by
  intro n
  induction n with
  | zero => intro _; rfl
  | succ n ih =>
    intro h
    show app (lg n) (rep lg n) = app (lg' n) (rep lg' n)
    rw [h n (Nat.lt_succ_self n), ih (fun c hc => h c (Nat.lt_succ_of_lt hc))]
/-! a handle: node, access, share, grant, client, removes, open -/
abbrev HR : Type := Nat × Int32 × Int32 × Int32 × Int32 × Bool × Bool
def hN (h : HR) : Nat := h.1
def hA (h : HR) : Int32 := h.2.1
def hS (h : HR) : Int32 := h.2.2.1
def hG (h : HR) : Int32 := h.2.2.2.1
def hC (h : HR) : Int32 := h.2.2.2.2.1
def hR (h : HR) : Bool := h.2.2.2.2.2.1
def hO (h : HR) : Bool := h.2.2.2.2.2.2
/-! a request: client, directory, name, mode, wish, outcome -/
abbrev QR : Type := Int32 × Nat × Int32 × Int32 × Int32 × Int32
def qC (q : QR) : Int32 := q.1
def qD (q : QR) : Nat := q.2.1
def qN (q : QR) : Int32 := q.2.2.1
def qM (q : QR) : Int32 := q.2.2.2.1
def qW (q : QR) : Int32 := q.2.2.2.2.1
def qO (q : QR) : Int32 := q.2.2.2.2.2
/-! a lock: handle, first, end, alone -/
abbrev KR' : Type := Nat × Nat × Nat × Bool
/-! the state: changes, durable ones, the log, doomed, handles, the handles, requests, the requests, locks, seen -/
abbrev MS : Type := Nat × Nat × (Nat → Ch) × (Nat → Bool) × Nat × (Nat → HR) × Nat × (Nat → QR) × List KR' × Int32
def mN (m : MS) : Nat := m.1
def mU (m : MS) : Nat := m.2.1
def mG (m : MS) : Nat → Ch := m.2.2.1
def mM (m : MS) : Nat → Bool := m.2.2.2.1
def mH (m : MS) : Nat := m.2.2.2.2.1
def mh (m : MS) : Nat → HR := m.2.2.2.2.2.1
def mQ (m : MS) : Nat := m.2.2.2.2.2.2.1
def mq (m : MS) : Nat → QR := m.2.2.2.2.2.2.2.1
def mK (m : MS) : List KR' := m.2.2.2.2.2.2.2.2.1
def mS (m : MS) : Int32 := m.2.2.2.2.2.2.2.2.2
def mT (m : MS) : Tb := rep (mG m) (mN m)
def chF (c : Ch) (f : Nat) : Int32 := match f with
  | 0 => nI c.1
  | 1 => nI c.2.1
  | 2 => c.2.2.1
  | 3 => c.2.2.2.1
  | _ => c.2.2.2.2
def hrF (h : HR) (f : Nat) : Int32 := match f with
  | 0 => nI (hN h)
  | 1 => hA h
  | 2 => hS h
  | 3 => hG h
  | 4 => hC h
  | 5 => bI (hR h)
  | _ => bI (hO h)
def qrF (q : QR) (f : Nat) : Int32 := match f with
  | 0 => qC q
  | 1 => nI (qD q)
  | 2 => qN q
  | 3 => qM q
  | 4 => qW q
  | _ => qO q
def krF (k : KR') (f : Nat) : Int32 := match f with
  | 0 => nI k.1
  | 1 => nI k.2.1
  | 2 => nI k.2.2.1
  | _ => bI k.2.2.2
/-! the reference's cells -/
def MdS (w : WW) : Prop := wR w 7 1 2 = 1 ∧ wR w 7 1 4 = 1 ∧ wR w 7 1 5 = 1 ∧ wR w 7 1 6 = 1 ∧ wR w 7 1 7 = 1 ∧ wR w 7 1 8 = 1 ∧ wR w 7 1 9 = 1 ∧ wR w 7 1 11 = 1 ∧ wR w 7 1 13 = 1 ∧ wR w 7 1 15 = 1 ∧
  wL w 110 1 = 6000 ∧ wL w 111 1 = 25 ∧ wL w 112 1 = 25 ∧ wL w 113 1 = 25 ∧ wL w 114 1 = 25 ∧ wL w 115 1 = 25 ∧ wL w 116 1 = 800 ∧ wL w 117 1 = 3640 ∧ wL w 118 1 = 3120 ∧ wL w 119 1 = 800
/-- the arrays hold a table, where its nodes are there -/
def RMt (w : WW) (t : Tb) : Prop := wI w 7 1 3 = nI (tG t) ∧ (∀ n, n ≤ 24 → wI w 111 1 n = bI (tT t n)) ∧
  (∀ n, n ≤ 24 → tT t n = true → wI w 112 1 n = bI (tF t n) ∧ wI w 113 1 n = tD t n ∧ wI w 114 1 n = tN t n ∧ ∀ i, i < 32 → wI w 116 1 (32 * n + i) = tC t n i)
def RM (w : WW) (m : MS) : Prop := MdS w ∧ wI w 7 1 0 = nI (mN m) ∧ wI w 7 1 1 = nI (mU m) ∧ (∀ c, c < mN m → ∀ f, f < 5 → wI w 110 1 (5 * c + f) = chF (mG m c) f) ∧ RMt w (mT m) ∧
  (∀ n, n ≤ 24 → wI w 115 1 n = bI (mM m n)) ∧ wI w 7 1 10 = nI (mH m) ∧ (∀ x, 1 ≤ x → x ≤ mH m → ∀ f, f < 7 → wI w 117 1 (7 * x + f) = hrF (mh m x) f) ∧
  wI w 7 1 12 = nI (mQ m) ∧ ((∀ r, 1 ≤ r → r ≤ mQ m → ∀ f, f < 6 → wI w 118 1 (6 * r + f) = qrF (mq m r) f) ∧ ∀ r, mQ m < r → r < 520 → wI w 118 1 (6 * r + 5) = 0) ∧
  wI w 7 1 14 = nI (mK m).length ∧ (∀ i (h : i < (mK m).length), ∀ f, f < 4 → wI w 119 1 (4 * i + f) = krF ((mK m)[i]) f) ∧ wI w 7 1 16 = mS m

/-- the bounds that the arrays want -/
def WB (m : MS) : Prop := mH m ≤ 512 ∧ mQ m ≤ 512 ∧ mN m ≤ 1100 ∧ (mK m).length ≤ 200 ∧ tG (mT m) ≤ 24 ∧ (∀ x, 1 ≤ x → x ≤ mH m → hN (mh m x) ≤ 24) ∧ (∀ k ∈ mK m, 1 ≤ k.1 ∧ k.1 ≤ mH m ∧ k.2.1 ≤ 32 ∧ k.2.2.1 ≤ 32) ∧ (∀ r, 1 ≤ r → r ≤ mQ m → qD (mq m r) ≤ 24) ∧
  (∀ x, 1 ≤ x → x ≤ mH m → hO (mh m x) = true → tT (mT m) (hN (mh m x)) = true) ∧ (∀ r, 1 ≤ r → r ≤ mQ m → ∃ md, md < 1024 ∧ qM (mq m r) = nI md) ∧ mU m ≤ mN m ∧ mN m ≤ mU m + 5
/-- the open handle that a number names, or 0 -/
def hOf (m : MS) (v : Int32) : Nat := if 1 ≤ v ∧ v ≤ nI (mH m) ∧ hO (mh m v.toNatClampNeg) = true then v.toNatClampNeg else 0
theorem rng_nI {v : Int32} {n : Nat} (hn : n ≤ 1000000) (h1 : 1 ≤ v) (h2 : v ≤ nI n) : ∃ x, v = nI x ∧ 1 ≤ x ∧ x ≤ n ∧ v.toNatClampNeg = x := by
  have h0 : ¬ v < 0 := fun h => by
    have := Int32.lt_iff_toInt_lt.mp h
    have := Int32.le_iff_toInt_le.mp h1
    simp at *
    omega
  obtain ⟨j, hj, rfl⟩ := nI_of h0
  have a : 1 ≤ j := by
    have := (nI_leI (a := 1) (b := j) (by omega) hj).mp h1
    exact this
  have b : j ≤ n := (nI_leI hj (by omega)).mp h2
  exact ⟨j, rfl, a, b, nI_clamp hj⟩
theorem hOf_nz {m : MS} (hb : WB m) {v : Int32} (h : hOf m v ≠ 0) : v = nI (hOf m v) ∧ 1 ≤ hOf m v ∧ hOf m v ≤ mH m ∧ hO (mh m (hOf m v)) = true := by
  have h512 := hb.1
  unfold hOf at h ⊢
  by_cases c : 1 ≤ v ∧ v ≤ nI (mH m) ∧ hO (mh m v.toNatClampNeg) = true
  · rw [if_pos c]
    obtain ⟨x, e1, e2, e3, e4⟩ := rng_nI (by omega) c.1 c.2.1
    have c3 := c.2.2
    rw [e4] at c3 ⊢
    exact ⟨e1, e2, e3, c3⟩
  · rw [if_neg c] at h
    exact absurd rfl h
theorem hOf_of {m : MS} (hb : WB m) {x : Nat} (h1 : 1 ≤ x) (h2 : x ≤ mH m) (h3 : hO (mh m x) = true) : hOf m (nI x) = x := by
  have h512 := hb.1
  have e : (nI x).toNatClampNeg = x := nI_clamp (by omega)
  unfold hOf
  rw [e, if_pos ⟨(le_nI (a := 1) (by omega) (by omega)).mpr h1, (le_nI (by omega) (by omega)).mpr h2, h3⟩]
def nOpen (m : MS) : Nat := (List.range' 1 (mH m)).countP (fun x => hO (mh m x))
def cntO (m : MS) (n : Nat) : Nat := (List.range' 1 (mH m)).countP (fun x => hO (mh m x) && hN (mh m x) == n)
def ins (t : Tb) (v : Int32) : Nat := (List.range' 1 (tG t)).countP (fun x => tT t x && tD t x == v)
def atP (t : Tb) (d nm : Int32) : Option Nat := (List.range' 1 (tG t)).find? (fun x => tT t x && tD t x == d && tN t x == nm)
def oI (x : Option Nat) : Int32 := match x with
  | none => -3
  | some n => nI n
/-- does the lock k of the list stand against the handle x at the cells f .. e - 1 (any: of any kind; own: what the handle's own locks do) -/
def metP (m : MS) (x f e : Nat) (any : Bool) (own : Nat) (k : KR') : Bool :=
  hN (mh m k.1) == hN (mh m x) && decide (k.2.1 < e) && decide (f < k.2.2.1) && (if k.1 = x ∧ own = 0 then false else if k.1 = x ∧ own = 2 then !k.2.2.2 else any || k.2.2.2)
def lksN (m : MS) (n : Nat) : Nat := (mK m).countP (fun k => hN (mh m k.1) == n)

theorem WB.op {m : MS} (h : WB m) {x : Nat} (h1 : 1 ≤ x) (h2 : x ≤ mH m) (h3 : hO (mh m x) = true) : tT (mT m) (hN (mh m x)) = true := h.2.2.2.2.2.2.2.2.1 x h1 h2 h3
theorem WB.n24 {m : MS} (h : WB m) {x : Nat} (h1 : 1 ≤ x) (h2 : x ≤ mH m) : hN (mh m x) ≤ 24 := h.2.2.2.2.2.1 x h1 h2
theorem WB.d24 {m : MS} (h : WB m) {r : Nat} (h1 : 1 ≤ r) (h2 : r ≤ mQ m) : qD (mq m r) ≤ 24 := h.2.2.2.2.2.2.2.1 r h1 h2
theorem WB.md {m : MS} (h : WB m) {r : Nat} (h1 : 1 ≤ r) (h2 : r ≤ mQ m) : ∃ md, md < 1024 ∧ qM (mq m r) = nI md := h.2.2.2.2.2.2.2.2.2.1 r h1 h2
theorem WB.un {m : MS} (h : WB m) : mU m ≤ mN m ∧ mN m ≤ mU m + 5 := h.2.2.2.2.2.2.2.2.2.2
theorem WB.g24 {m : MS} (h : WB m) : tG (mT m) ≤ 24 := h.2.2.2.2.1
theorem WB.n11 {m : MS} (h : WB m) : mN m ≤ 1100 := h.2.2.1
/-! setters -/
def setH (m : MS) (f : Nat → HR) : MS := (m.1, m.2.1, m.2.2.1, m.2.2.2.1, m.2.2.2.2.1, f, m.2.2.2.2.2.2)
def setQ (m : MS) (f : Nat → QR) : MS := (m.1, m.2.1, m.2.2.1, m.2.2.2.1, m.2.2.2.2.1, m.2.2.2.2.2.1, m.2.2.2.2.2.2.1, f, m.2.2.2.2.2.2.2.2)
def setD (m : MS) (f : Nat → Bool) : MS := (m.1, m.2.1, m.2.2.1, f, m.2.2.2.2)
def setK (m : MS) (k : List KR') : MS := (m.1, m.2.1, m.2.2.1, m.2.2.2.1, m.2.2.2.2.1, m.2.2.2.2.2.1, m.2.2.2.2.2.2.1, m.2.2.2.2.2.2.2.1, k, m.2.2.2.2.2.2.2.2.2)
def setS (m : MS) (v : Int32) : MS := (m.1, m.2.1, m.2.2.1, m.2.2.2.1, m.2.2.2.2.1, m.2.2.2.2.2.1, m.2.2.2.2.2.2.1, m.2.2.2.2.2.2.2.1, m.2.2.2.2.2.2.2.2.1, v)
def hsG (h : HR) (g : Int32) : HR := (h.1, h.2.1, h.2.2.1, g, h.2.2.2.2)
def hsO (h : HR) (o : Bool) : HR := (h.1, h.2.1, h.2.2.1, h.2.2.2.1, h.2.2.2.2.1, h.2.2.2.2.2.1, o)
def qsO (q : QR) (o : Int32) : QR := (q.1, q.2.1, q.2.2.1, q.2.2.2.1, q.2.2.2.2.1, o)
def accM (md : Int32) : Int32 := md &&& nI 7
def shrM (md : Int32) : Int32 := (md >>> (nI 3 &&& 31)) &&& nI 7
def hasM (md : Int32) (b : Nat) : Bool := !(md &&& nI b == 0)
/-- an open handle of the node n with the grant 2 or 3 -/
def brkP (m : MS) (n x : Nat) : Bool := hO (mh m x) && (hN (mh m x) == n && decide (nI 2 ≤ hG (mh m x)))
def brkA (m : MS) (n : Nat) : Bool := (List.range' 1 (mH m)).any (brkP m n)
def brkM (m : MS) (n : Nat) : MS := setH m (fun x => if (1 ≤ x ∧ x ≤ mH m) ∧ brkP m n x = true then hsG (mh m x) (nI 3) else mh m x)
def shP (m : MS) (n : Nat) (md : Int32) (x : Nat) : Bool := hO (mh m x) && (hN (mh m x) == n && (!(accM md &&& (hS (mh m x) ^^^ (-1)) == 0) || !(hA (mh m x) &&& (shrM md ^^^ (-1)) == 0)))
def shA (m : MS) (n : Nat) (md : Int32) : Bool := (List.range' 1 (mH m)).any (shP m n md)
def grG (m : MS) (r n : Nat) : Int32 := if tF (mT m) n = true ∨ qW (mq m r) = nI 0 then nI 0 else if qW (mq m r) = nI 2 ∧ cntO m n = 0 then nI 2 else nI 1
def grM (m : MS) (r n : Nat) : MS := (m.1, m.2.1, m.2.2.1, m.2.2.2.1, mH m + 1, uf (mh m) (mH m + 1) (n, accM (qM (mq m r)), shrM (qM (mq m r)), grG m r n, qC (mq m r), hasM (qM (mq m r)) 512, true), m.2.2.2.2.2.2)
set_option maxRecDepth 100000 in
theorem bit9 : ∀ md, md < 1024 → nI md >>> (nI 9 &&& 31) = bI (hasM (nI md) 512) := by decide +kernel
set_option maxRecDepth 100000 in
theorem bit8 : ∀ md, md < 1024 → (nI md >>> (nI 8 &&& 31)) &&& nI 1 = bI (hasM (nI md) 256) := by decide +kernel
set_option maxRecDepth 100000 in
theorem bit192 : ∀ md, md < 1024 → (nI md &&& nI 192 = nI 192 ↔ (hasM (nI md) 64 = true ∧ hasM (nI md) 128 = true)) := by decide +kernel

theorem hasM_t {md : Int32} {b : Nat} : hasM md b = true ↔ ¬ md &&& nI b = 0 := by simp [hasM]
theorem hasM_f {md : Int32} {b : Nat} : hasM md b = false ↔ md &&& nI b = 0 := by simp [hasM]
