/-! THE CLAIM'S START: the room, and the machine's state as a world -/
theorem sum_le (f a b : Nat → Nat) : ∀ n, (∀ k, k < n → a k ≤ b k) → ((List.range n).map (fun k => f k * a k)).sum ≤ ((List.range n).map (fun k => f k * b k)).sum := by
  intro n
  induction n with
  | zero => intro _; simp
  | succ n ih =>
    intro h
    rw [List.range_succ, List.map_append, List.map_append, List.sum_append, List.sum_append]
    have h1 := ih (fun k hk => h k (by omega))
    have h2 : f n * a n ≤ f n * b n := Nat.mul_le_mul_left _ (h n (Nat.lt_succ_self n))
    simp only [List.map_cons, List.map_nil, List.sum_cons, List.sum_nil]
    omega
def gCap (k : Nat) : Nat := if (1 ≤ k ∧ k ≤ 5) ∨ k = 103 ∨ k = 104 then 1024 else 1
theorem cap_li {L c : Nat} {xs : Nat → Int32} {w : WW} {m : MS} (h : LI L xs c w m) (hc : c ≤ 512) : ∀ k, k < 120 → wC w k ≤ gCap k := by
  intro k hk
  obtain ⟨-, hR, ⟨hB, -⟩, -, n1, n2, n3⟩ := h
  have e2 : wC w 2 = mH m := hR.2.2.2.2.2.1.2.1
  have e3 : wC w 3 = mQ m := hR.2.2.2.2.2.2.1.2.1
  have e4 := hR.2.1.1
  have e5 := hR.2.1.2.1
  have b1 := hB.1
  have b2 := hB.2.1
  unfold gCap
  split
  · rename_i q
    have : k = 1 ∨ k = 2 ∨ k = 3 ∨ k = 4 ∨ k = 5 ∨ k = 103 ∨ k = 104 := by omega
    rcases this with rfl | rfl | rfl | rfl | rfl | rfl | rfl <;> omega
  · rename_i q
    exact n3 k hk q
theorem capN : ((List.range 120).map (fun k => 1 * gCap k)).sum ≤ 600000 := by decide +kernel
theorem capZ : ((List.range 120).map (fun k => ksz k * gCap k)).sum ≤ 7302250 := by decide +kernel
theorem room_ok {L c : Nat} {xs : Nat → Int32} {w' : WW} {m : MS} (h : LI L xs c w' m) (hc : c ≤ 512) (hm : MON (w00 L xs) w') : wn w' ≤ 600000 ∧ wz w' ≤ 7302250 := by
  obtain ⟨-, -, -, m1, m2⟩ := hm
  have k1 := cap_li h hc
  have a1 : tot (fun _ => 1) w' ≤ ((List.range 120).map (fun k => 1 * gCap k)).sum := sum_le (fun _ => 1) (wC w') gCap 120 k1
  have a2 : tot ksz w' ≤ ((List.range 120).map (fun k => ksz k * gCap k)).sum := sum_le ksz (wC w') gCap 120 k1
  have z1 : wn (w00 L xs) = 0 := rfl
  have z2 : wz (w00 L xs) = 0 := rfl
  have c1 := capN
  have c2 := capZ
  constructor
  · refine Nat.le_trans ?_ (Nat.le_trans a1 c1)
    omega
  · refine Nat.le_trans ?_ (Nat.le_trans a2 c2)
    omega
theorem vk_of {s : State} {args : Array Value} (hts : ∀ w ∈ lw_tbl, w.before args s = true) : ∃ D : va_G, VK D s := by
  have htb : ∀ w ∈ tbl, w.before args s = true := fun w hw => hts w (List.mem_filter.mp hw).1
  obtain ⟨c0, i0, h0⟩ := u_known (C := "ShareServer") (T := TSS) (N := 9) (n := 9) htb fi_SS (htb _ ins_SS)
  obtain ⟨c1, i1, h1⟩ := u_known (C := "ShareServer$Node") (T := TNd) (N := 8) (n := 8) htb fi_Nd (htb _ ins_Nd)
  obtain ⟨c2, i2, h2⟩ := u_known (C := "ShareServer$Handle") (T := THd) (N := 7) (n := 7) htb fi_Hd (htb _ ins_Hd)
  obtain ⟨c3, i3, h3⟩ := u_known (C := "ShareServer$Request") (T := TRq) (N := 6) (n := 6) htb fi_Rq (htb _ ins_Rq)
  obtain ⟨c4, i4, h4⟩ := u_known (C := "ShareServer$Lock") (T := TLk) (N := 4) (n := 4) htb fi_Lk (htb _ ins_Lk)
  obtain ⟨c5, i5, h5⟩ := u_known (C := "ShareServer$Change") (T := TCg) (N := 4) (n := 4) htb fi_Cg (htb _ ins_Cg)
  obtain ⟨c6, i6, h6⟩ := u_known (C := "ShareServer$Log") (T := TLg) (N := 3) (n := 3) htb fi_Lg (htb _ ins_Lg)
  obtain ⟨c7, i7, h7⟩ := u_known (C := "ShareServerModel") (T := TMd) (N := 17) (n := 17) htb fi_Md (htb _ ins_Md)
  refine ⟨(fun k => match k with | 0 => c0 | 1 => c1 | 2 => c2 | 3 => c3 | 4 => c4 | 5 => c5 | 6 => c6 | _ => c7, fun k => match k with | 0 => i0 | 1 => i1 | 2 => i2 | 3 => i3 | 4 => i4 | 5 => i5 | 6 => i6 | _ => i7), ⟨fun k q hq => ?_, fun k q h => by simp at h⟩, fun C hC => va_AO.of (hts _ (ao_all C hC))⟩
  match k, hq with
  | 0, hq => cases hq; exact h0
  | 1, hq => cases hq; exact h1
  | 2, hq => cases hq; exact h2
  | 3, hq => cases hq; exact h3
  | 4, hq => cases hq; exact h4
  | 5, hq => cases hq; exact h5
  | 6, hq => cases hq; exact h6
  | 7, hq => cases hq; exact h7
  | k + 8, hq => simp [vwCl] at hq
theorem rel_00 {s : State} {D : va_G} {b L : Nat} {xs : Nat → Int32} (hX : va_X b L xs s s.heap) (hbl : b < s.heap.size) : Rel s D s.heap.size (fun _ _ => b) (w00 L xs) s.heap := by
  have e : ∀ k, wC (w00 L xs) k = if k = 99 then 1 else 0 := fun _ => rfl
  have no : ∀ k o, k ≠ 99 → inR (w00 L xs) k o → False := fun k o hk h => by
    obtain ⟨h1, h2⟩ := h
    rw [e, if_neg hk] at h2
    omega
  refine ⟨fun k o C T N hk ho => ?_, fun k o hk ho => (no k o (by omega) ho).elim, fun k o k' o' hk _ ho => (no k o hk ho).elim, fun k o hk ho => (no k o hk ho).elim, fun k o j k' hk _ ho => (no k o (by omega) ho).elim, fun k o j k' hk _ ho => (no k o (by omega) ho).elim, fun k o j ho => ?_, fun o ho => ⟨hbl, ?_⟩⟩
  · have hlt : k < vwCl.length := (List.getElem?_eq_some_iff.mp hk).1
    have : k < 8 := hlt
    exact (no k o (by omega) ho).elim
  · refine ⟨?_, rfl⟩
    show (if k = 99 ∧ o = 1 then xs j else 0) = 0
    rw [e] at ho
    by_cases h : k = 99
    · rw [if_pos h] at ho
      rw [if_neg (by omega)]
    · rw [if_neg (fun z => h z.1)]
  · obtain ⟨h1, h2⟩ := ho
    rw [e, if_pos rfl] at h2
    have : o = 1 := by omega
    subst this
    exact hX
/-- from the entry, for every script of at most 3072 ints, the law comes to its end with true -/
theorem whole_start {p : Program} {e : Env} {s : State} {m : MethodId} {below : List Frame} {meth : Method} {c : Code} (l : Launch) {b L : Nat} {xs : Nat → Int32} (hL : L ≤ 3072) (C0 : lw_At p s m meth c b L xs) : W p l e room_1 s m #[Value.ref b] below meth c s.heap [] 0 0 (lw_Z below #[Value.ref b] s) (entryFrame m ([Value.ref b] : List Value).toArray 4) := by
  obtain ⟨hx, hb, hr, hml, hown, hts, hX, hbl, hlocks, hgv⟩ := id C0
  have htb : ∀ w ∈ tbl, w.before #[Value.ref b] s = true := fun w hw => hts w (List.mem_filter.mp hw).1
  obtain ⟨D, hK⟩ := vk_of hts
  obtain ⟨r, w', ⟨hr1, c', m', hc', hLI⟩, ⟨hmon, hrt⟩, run⟩ := law_start (L := L) (xs := xs) hL
  subst hr1
  obtain ⟨n1, n2⟩ := room_ok hLI hc' hmon
  have hl := lv_entry ([.ref b]) (n := 4) (Nat.le_of_ble_eq_true rfl)
  rw [lg_entry_eq]
  generalize (lg_sl ([.ref b]) ++ List.replicate (4 - (lg_sl ([.ref b])).length) Slot.unset).toArray = ls at hl ⊢
  have hl : lv_has ls 4 [(0, .ref b)] := hl
  refine run p l e room_1 s m #[Value.ref b] below meth c (lw_Z below #[Value.ref b] s) D s.heap.size 0 0 (w00 L xs) (fun _ _ => b) ⟨hx, hb, hr, hml, hown, htb, hlocks, fun z => Bool.noConfusion z, hK, by decide, by decide, Nat.le_refl _⟩ ⟨n1, n2, fun H' locs' ad' pc' rl' cells' slots' hS hRel hEX hok hRT hdec hc1 hs1 => ?_⟩ s.heap [] 0 0 (fun _ _ => b) ls ⟨va_S.rf, rel_00 hX hbl, ?_, ⟨fun v hv => ?_, fun v hv => absurd hv List.not_mem_nil⟩, fun _ => Nat.le_refl _, EX.rf, rfl, rfl⟩
  · refine va_forget (fun q hq => hS.2.2 q hq) (W.widen (k := 600000) (n := 7302250) (by omega) (by omega) ?_)
    exact lw_ret hx hb hr hlocks hdec
  · refine LR.of rfl hl (fun i v hi => ?_)
    match i, hi with
    | 0, hi =>
      have : v = .inr (99, 1) := (Option.some.inj (Option.some.inj hi)).symm
      subst this
      exact List.mem_cons_self
    | 1, hi => exact absurd hi (by simp)
    | 2, hi => exact absurd hi (by simp)
    | 3, hi => exact absurd hi (by simp)
    | i + 4, hi => exact absurd hi (by simp)
  · have : v = .inr (99, 1) := by simpa using hv
    subst this
    show 1 ≤ wC (w00 L xs) 99
    exact Nat.le_refl 1
