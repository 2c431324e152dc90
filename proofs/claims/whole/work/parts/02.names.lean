/-! NAMES, printed by wip/whole/gen01.py out of the task's files: kinds, fields, methods, decode rows, words by their places in lw_tbl -/
/-- the words that every callee may keep -/
def tbl : List Cond := lw_tbl.filter goodWord
theorem mt {q : Cond} (i : Nat) (h : lw_tbl[i]? = some q) (g : goodWord q = true) : q ∈ tbl := List.mem_filter.mpr ⟨List.mem_of_getElem? h, g⟩
/-- the name of the log's array: the word itself may not stand in a row -/
def nmU : String := match lw_tbl[113]? with
  | some (Cond.fieldLink _ _ _ n _) => n
  | _ => ""
def TSS : u_T := fun k => match k with
  | 0 => ("ShareServer", "nodes", "[LShareServer$Node;", true)
  | 1 => ("ShareServer", "nodesGiven", "I", false)
  | 2 => ("ShareServer", "opens", "[LShareServer$Handle;", true)
  | 3 => ("ShareServer", "openCount", "I", false)
  | 4 => ("ShareServer", "handlesMade", "I", false)
  | 5 => ("ShareServer", "requests", "[LShareServer$Request;", true)
  | 6 => ("ShareServer", "requestCount", "I", false)
  | 7 => ("ShareServer", "log", "LShareServer$Log;", true)
  | _ => ("ShareServer", "lastRead", "I", false)
def TNd : u_T := fun k => match k with
  | 0 => ("ShareServer$Node", "number", "I", true)
  | 1 => ("ShareServer$Node", "folder", "Z", true)
  | 2 => ("ShareServer$Node", "directory", "I", false)
  | 3 => ("ShareServer$Node", "name", "I", false)
  | 4 => ("ShareServer$Node", "doomed", "Z", false)
  | 5 => ("ShareServer$Node", "cells", "[I", true)
  | 6 => ("ShareServer$Node", "locks", "[LShareServer$Lock;", true)
  | _ => ("ShareServer$Node", "lockCount", "I", false)
def THd : u_T := fun k => match k with
  | 0 => ("ShareServer$Handle", "number", "I", true)
  | 1 => ("ShareServer$Handle", "node", "LShareServer$Node;", true)
  | 2 => ("ShareServer$Handle", "client", "I", true)
  | 3 => ("ShareServer$Handle", "access", "I", true)
  | 4 => ("ShareServer$Handle", "share", "I", true)
  | 5 => ("ShareServer$Handle", "removes", "Z", true)
  | _ => ("ShareServer$Handle", "grant", "I", false)
def TRq : u_T := fun k => match k with
  | 0 => ("ShareServer$Request", "client", "I", true)
  | 1 => ("ShareServer$Request", "directory", "I", true)
  | 2 => ("ShareServer$Request", "name", "I", true)
  | 3 => ("ShareServer$Request", "mode", "I", true)
  | 4 => ("ShareServer$Request", "wish", "I", true)
  | _ => ("ShareServer$Request", "outcome", "I", false)
def TLk : u_T := fun k => match k with
  | 0 => ("ShareServer$Lock", "owner", "LShareServer$Handle;", true)
  | 1 => ("ShareServer$Lock", "first", "I", true)
  | 2 => ("ShareServer$Lock", "cells", "I", true)
  | _ => ("ShareServer$Lock", "alone", "Z", true)
def TCg : u_T := fun k => match k with
  | 0 => ("ShareServer$Change", "kind", "I", true)
  | 1 => ("ShareServer$Change", "node", "LShareServer$Node;", true)
  | 2 => ("ShareServer$Change", "where", "I", true)
  | _ => ("ShareServer$Change", "before", "I", true)
def TLg : u_T := fun k => match k with
  | 0 => ("ShareServer$Log", nmU, "[LShareServer$Change;", true)
  | 1 => ("ShareServer$Log", "unsafeCount", "I", false)
  | _ => ("ShareServer$Log", "durable", "I", false)
def TMd : u_T := fun k => match k with
  | 0 => ("ShareServerModel", "changes", "I", false)
  | 1 => ("ShareServerModel", "durable", "I", false)
  | 2 => ("ShareServerModel", "change", "[I", true)
  | 3 => ("ShareServerModel", "given", "I", false)
  | 4 => ("ShareServerModel", "there", "[Z", true)
  | 5 => ("ShareServerModel", "folder", "[Z", true)
  | 6 => ("ShareServerModel", "dir", "[I", true)
  | 7 => ("ShareServerModel", "name", "[I", true)
  | 8 => ("ShareServerModel", "doomed", "[Z", true)
  | 9 => ("ShareServerModel", "cells", "[I", true)
  | 10 => ("ShareServerModel", "handles", "I", false)
  | 11 => ("ShareServerModel", "handle", "[I", true)
  | 12 => ("ShareServerModel", "requests", "I", false)
  | 13 => ("ShareServerModel", "request", "[I", true)
  | 14 => ("ShareServerModel", "locks", "I", false)
  | 15 => ("ShareServerModel", "lock", "[I", true)
  | _ => ("ShareServerModel", "seen", "I", false)
abbrev vwCl : List vw_C := [("ShareServer", TSS, 9), ("ShareServer$Node", TNd, 8), ("ShareServer$Handle", THd, 7), ("ShareServer$Request", TRq, 6), ("ShareServer$Lock", TLk, 4), ("ShareServer$Change", TCg, 4), ("ShareServer$Log", TLg, 3), ("ShareServerModel", TMd, 17)]
def knm (k : Nat) : String := match k with
  | 0 => "ShareServer"
  | 1 => "ShareServer$Node"
  | 2 => "ShareServer$Handle"
  | 3 => "ShareServer$Request"
  | 4 => "ShareServer$Lock"
  | 5 => "ShareServer$Change"
  | 6 => "ShareServer$Log"
  | 7 => "ShareServerModel"
  | _ => ""
/-- the type of a field: 0 int, 1 boolean, k + 2 a reference of the kind k -/
def fty (k j : Nat) : Nat := match k, j with
  | 0, 0 => 102
  | 0, 2 => 103
  | 0, 5 => 104
  | 0, 7 => 8
  | 1, 1 => 1
  | 1, 4 => 1
  | 1, 5 => 105
  | 1, 6 => 106
  | 2, 1 => 3
  | 2, 5 => 1
  | 4, 0 => 4
  | 4, 3 => 1
  | 5, 1 => 3
  | 6, 0 => 107
  | 7, 2 => 112
  | 7, 4 => 113
  | 7, 5 => 114
  | 7, 6 => 115
  | 7, 7 => 116
  | 7, 8 => 117
  | 7, 9 => 118
  | 7, 11 => 119
  | 7, 13 => 120
  | 7, 15 => 121
  | _, _ => 0
/-- the type of the elements of a region of arrays -/
def aelem (k : Nat) : Nat := match k with
  | 100 => 3
  | 101 => 4
  | 102 => 5
  | 104 => 6
  | 105 => 7
  | 111 => 1
  | 112 => 1
  | 115 => 1
  | _ => 0
/-- the most slots that a cell of a kind has -/
def ksz (k : Nat) : Nat := match k with
  | 0 => 9
  | 1 => 8
  | 2 => 7
  | 3 => 6
  | 4 => 4
  | 5 => 4
  | 6 => 3
  | 7 => 17
  | 100 => 25
  | 101 => 12
  | 102 => 512
  | 103 => 32
  | 104 => 8
  | 105 => 6
  | 110 => 6000
  | 111 => 25
  | 112 => 25
  | 113 => 25
  | 114 => 25
  | 115 => 25
  | 116 => 800
  | 117 => 3640
  | 118 => 3120
  | 119 => 800
  | _ => 0
theorem ksz_le (k : Nat) : ksz k ≤ 6000 := by
  unfold ksz
  split <;> decide
def kT (k : Nat) : FieldType := if 100 ≤ k then .array (match aelem k with
  | 0 => .int
  | 1 => .boolean
  | k' + 2 => .object (knm k')) else .object (knm k)
def ftT : Nat → FieldType
  | 0 => .int
  | 1 => .boolean
  | k + 2 => kT k
theorem fo_SS : ∀ j, j < 9 → parseFieldDescriptor (TSS j).2.2.1 = some (ftT (fty 0 j)) := by decide +kernel
theorem fn_SS : ∀ a, a < 9 → ∀ b, b < 9 → a ≠ b → (TSS a).2.1 ≠ (TSS b).2.1 := by decide +kernel
theorem fi_SS_0 : u_lay "ShareServer" TSS 0 ∈ tbl := (mt 135 (by decide +kernel) rfl)
theorem fi_SS_1 : u_lay "ShareServer" TSS 1 ∈ tbl := (mt 137 (by decide +kernel) rfl)
theorem fi_SS_2 : u_lay "ShareServer" TSS 2 ∈ tbl := (mt 139 (by decide +kernel) rfl)
theorem fi_SS_3 : u_lay "ShareServer" TSS 3 ∈ tbl := (mt 141 (by decide +kernel) rfl)
theorem fi_SS_4 : u_lay "ShareServer" TSS 4 ∈ tbl := (mt 143 (by decide +kernel) rfl)
theorem fi_SS_5 : u_lay "ShareServer" TSS 5 ∈ tbl := (mt 145 (by decide +kernel) rfl)
theorem fi_SS_6 : u_lay "ShareServer" TSS 6 ∈ tbl := (mt 147 (by decide +kernel) rfl)
theorem fi_SS_7 : u_lay "ShareServer" TSS 7 ∈ tbl := (mt 149 (by decide +kernel) rfl)
theorem fi_SS_8 : u_lay "ShareServer" TSS 8 ∈ tbl := (mt 151 (by decide +kernel) rfl)
theorem fi_SS : ∀ w ∈ u_ws "ShareServer" TSS 9, w ∈ tbl := fun w h => by
  obtain ⟨j, hj, he⟩ := List.mem_map.mp h
  have hj := List.mem_range.mp hj
  subst he
  match j, hj with
  | 0, _ => exact fi_SS_0
  | 1, _ => exact fi_SS_1
  | 2, _ => exact fi_SS_2
  | 3, _ => exact fi_SS_3
  | 4, _ => exact fi_SS_4
  | 5, _ => exact fi_SS_5
  | 6, _ => exact fi_SS_6
  | 7, _ => exact fi_SS_7
  | 8, _ => exact fi_SS_8
theorem fo_Nd : ∀ j, j < 8 → parseFieldDescriptor (TNd j).2.2.1 = some (ftT (fty 1 j)) := by decide +kernel
theorem fn_Nd : ∀ a, a < 8 → ∀ b, b < 8 → a ≠ b → (TNd a).2.1 ≠ (TNd b).2.1 := by decide +kernel
theorem fi_Nd_0 : u_lay "ShareServer$Node" TNd 0 ∈ tbl := (mt 83 (by decide +kernel) rfl)
theorem fi_Nd_1 : u_lay "ShareServer$Node" TNd 1 ∈ tbl := (mt 85 (by decide +kernel) rfl)
theorem fi_Nd_2 : u_lay "ShareServer$Node" TNd 2 ∈ tbl := (mt 87 (by decide +kernel) rfl)
theorem fi_Nd_3 : u_lay "ShareServer$Node" TNd 3 ∈ tbl := (mt 89 (by decide +kernel) rfl)
theorem fi_Nd_4 : u_lay "ShareServer$Node" TNd 4 ∈ tbl := (mt 91 (by decide +kernel) rfl)
theorem fi_Nd_5 : u_lay "ShareServer$Node" TNd 5 ∈ tbl := (mt 93 (by decide +kernel) rfl)
theorem fi_Nd_6 : u_lay "ShareServer$Node" TNd 6 ∈ tbl := (mt 95 (by decide +kernel) rfl)
theorem fi_Nd_7 : u_lay "ShareServer$Node" TNd 7 ∈ tbl := (mt 97 (by decide +kernel) rfl)
theorem fi_Nd : ∀ w ∈ u_ws "ShareServer$Node" TNd 8, w ∈ tbl := fun w h => by
  obtain ⟨j, hj, he⟩ := List.mem_map.mp h
  have hj := List.mem_range.mp hj
  subst he
  match j, hj with
  | 0, _ => exact fi_Nd_0
  | 1, _ => exact fi_Nd_1
  | 2, _ => exact fi_Nd_2
  | 3, _ => exact fi_Nd_3
  | 4, _ => exact fi_Nd_4
  | 5, _ => exact fi_Nd_5
  | 6, _ => exact fi_Nd_6
  | 7, _ => exact fi_Nd_7
theorem fo_Hd : ∀ j, j < 7 → parseFieldDescriptor (THd j).2.2.1 = some (ftT (fty 2 j)) := by decide +kernel
theorem fn_Hd : ∀ a, a < 7 → ∀ b, b < 7 → a ≠ b → (THd a).2.1 ≠ (THd b).2.1 := by decide +kernel
theorem fi_Hd_0 : u_lay "ShareServer$Handle" THd 0 ∈ tbl := (mt 291 (by decide +kernel) rfl)
theorem fi_Hd_1 : u_lay "ShareServer$Handle" THd 1 ∈ tbl := (mt 293 (by decide +kernel) rfl)
theorem fi_Hd_2 : u_lay "ShareServer$Handle" THd 2 ∈ tbl := (mt 295 (by decide +kernel) rfl)
theorem fi_Hd_3 : u_lay "ShareServer$Handle" THd 3 ∈ tbl := (mt 297 (by decide +kernel) rfl)
theorem fi_Hd_4 : u_lay "ShareServer$Handle" THd 4 ∈ tbl := (mt 299 (by decide +kernel) rfl)
theorem fi_Hd_5 : u_lay "ShareServer$Handle" THd 5 ∈ tbl := (mt 301 (by decide +kernel) rfl)
theorem fi_Hd_6 : u_lay "ShareServer$Handle" THd 6 ∈ tbl := (mt 303 (by decide +kernel) rfl)
theorem fi_Hd : ∀ w ∈ u_ws "ShareServer$Handle" THd 7, w ∈ tbl := fun w h => by
  obtain ⟨j, hj, he⟩ := List.mem_map.mp h
  have hj := List.mem_range.mp hj
  subst he
  match j, hj with
  | 0, _ => exact fi_Hd_0
  | 1, _ => exact fi_Hd_1
  | 2, _ => exact fi_Hd_2
  | 3, _ => exact fi_Hd_3
  | 4, _ => exact fi_Hd_4
  | 5, _ => exact fi_Hd_5
  | 6, _ => exact fi_Hd_6
theorem fo_Rq : ∀ j, j < 6 → parseFieldDescriptor (TRq j).2.2.1 = some (ftT (fty 3 j)) := by decide +kernel
theorem fn_Rq : ∀ a, a < 6 → ∀ b, b < 6 → a ≠ b → (TRq a).2.1 ≠ (TRq b).2.1 := by decide +kernel
theorem fi_Rq_0 : u_lay "ShareServer$Request" TRq 0 ∈ tbl := (mt 183 (by decide +kernel) rfl)
theorem fi_Rq_1 : u_lay "ShareServer$Request" TRq 1 ∈ tbl := (mt 185 (by decide +kernel) rfl)
theorem fi_Rq_2 : u_lay "ShareServer$Request" TRq 2 ∈ tbl := (mt 187 (by decide +kernel) rfl)
theorem fi_Rq_3 : u_lay "ShareServer$Request" TRq 3 ∈ tbl := (mt 189 (by decide +kernel) rfl)
theorem fi_Rq_4 : u_lay "ShareServer$Request" TRq 4 ∈ tbl := (mt 191 (by decide +kernel) rfl)
theorem fi_Rq_5 : u_lay "ShareServer$Request" TRq 5 ∈ tbl := (mt 193 (by decide +kernel) rfl)
theorem fi_Rq : ∀ w ∈ u_ws "ShareServer$Request" TRq 6, w ∈ tbl := fun w h => by
  obtain ⟨j, hj, he⟩ := List.mem_map.mp h
  have hj := List.mem_range.mp hj
  subst he
  match j, hj with
  | 0, _ => exact fi_Rq_0
  | 1, _ => exact fi_Rq_1
  | 2, _ => exact fi_Rq_2
  | 3, _ => exact fi_Rq_3
  | 4, _ => exact fi_Rq_4
  | 5, _ => exact fi_Rq_5
theorem fo_Lk : ∀ j, j < 4 → parseFieldDescriptor (TLk j).2.2.1 = some (ftT (fty 4 j)) := by decide +kernel
theorem fn_Lk : ∀ a, a < 4 → ∀ b, b < 4 → a ≠ b → (TLk a).2.1 ≠ (TLk b).2.1 := by decide +kernel
theorem fi_Lk_0 : u_lay "ShareServer$Lock" TLk 0 ∈ tbl := (mt 437 (by decide +kernel) rfl)
theorem fi_Lk_1 : u_lay "ShareServer$Lock" TLk 1 ∈ tbl := (mt 439 (by decide +kernel) rfl)
theorem fi_Lk_2 : u_lay "ShareServer$Lock" TLk 2 ∈ tbl := (mt 441 (by decide +kernel) rfl)
theorem fi_Lk_3 : u_lay "ShareServer$Lock" TLk 3 ∈ tbl := (mt 443 (by decide +kernel) rfl)
theorem fi_Lk : ∀ w ∈ u_ws "ShareServer$Lock" TLk 4, w ∈ tbl := fun w h => by
  obtain ⟨j, hj, he⟩ := List.mem_map.mp h
  have hj := List.mem_range.mp hj
  subst he
  match j, hj with
  | 0, _ => exact fi_Lk_0
  | 1, _ => exact fi_Lk_1
  | 2, _ => exact fi_Lk_2
  | 3, _ => exact fi_Lk_3
theorem fo_Cg : ∀ j, j < 4 → parseFieldDescriptor (TCg j).2.2.1 = some (ftT (fty 5 j)) := by decide +kernel
theorem fn_Cg : ∀ a, a < 4 → ∀ b, b < 4 → a ≠ b → (TCg a).2.1 ≠ (TCg b).2.1 := by decide +kernel
theorem fi_Cg_0 : u_lay "ShareServer$Change" TCg 0 ∈ tbl := (mt 234 (by decide +kernel) rfl)
theorem fi_Cg_1 : u_lay "ShareServer$Change" TCg 1 ∈ tbl := (mt 236 (by decide +kernel) rfl)
theorem fi_Cg_2 : u_lay "ShareServer$Change" TCg 2 ∈ tbl := (mt 238 (by decide +kernel) rfl)
theorem fi_Cg_3 : u_lay "ShareServer$Change" TCg 3 ∈ tbl := (mt 240 (by decide +kernel) rfl)
theorem fi_Cg : ∀ w ∈ u_ws "ShareServer$Change" TCg 4, w ∈ tbl := fun w h => by
  obtain ⟨j, hj, he⟩ := List.mem_map.mp h
  have hj := List.mem_range.mp hj
  subst he
  match j, hj with
  | 0, _ => exact fi_Cg_0
  | 1, _ => exact fi_Cg_1
  | 2, _ => exact fi_Cg_2
  | 3, _ => exact fi_Cg_3
theorem fo_Lg : ∀ j, j < 3 → parseFieldDescriptor (TLg j).2.2.1 = some (ftT (fty 6 j)) := by decide +kernel
theorem fn_Lg : ∀ a, a < 3 → ∀ b, b < 3 → a ≠ b → (TLg a).2.1 ≠ (TLg b).2.1 := by decide +kernel
theorem fi_Lg_0 : u_lay "ShareServer$Log" TLg 0 ∈ tbl := (mt 119 (by decide +kernel) rfl)
theorem fi_Lg_1 : u_lay "ShareServer$Log" TLg 1 ∈ tbl := (mt 121 (by decide +kernel) rfl)
theorem fi_Lg_2 : u_lay "ShareServer$Log" TLg 2 ∈ tbl := (mt 123 (by decide +kernel) rfl)
theorem fi_Lg : ∀ w ∈ u_ws "ShareServer$Log" TLg 3, w ∈ tbl := fun w h => by
  obtain ⟨j, hj, he⟩ := List.mem_map.mp h
  have hj := List.mem_range.mp hj
  subst he
  match j, hj with
  | 0, _ => exact fi_Lg_0
  | 1, _ => exact fi_Lg_1
  | 2, _ => exact fi_Lg_2
theorem fo_Md : ∀ j, j < 17 → parseFieldDescriptor (TMd j).2.2.1 = some (ftT (fty 7 j)) := by decide +kernel
theorem fn_Md : ∀ a, a < 17 → ∀ b, b < 17 → a ≠ b → (TMd a).2.1 ≠ (TMd b).2.1 := by decide +kernel
theorem fi_Md_0 : u_lay "ShareServerModel" TMd 0 ∈ tbl := (mt 543 (by decide +kernel) rfl)
theorem fi_Md_1 : u_lay "ShareServerModel" TMd 1 ∈ tbl := (mt 545 (by decide +kernel) rfl)
theorem fi_Md_2 : u_lay "ShareServerModel" TMd 2 ∈ tbl := (mt 547 (by decide +kernel) rfl)
theorem fi_Md_3 : u_lay "ShareServerModel" TMd 3 ∈ tbl := (mt 549 (by decide +kernel) rfl)
theorem fi_Md_4 : u_lay "ShareServerModel" TMd 4 ∈ tbl := (mt 551 (by decide +kernel) rfl)
theorem fi_Md_5 : u_lay "ShareServerModel" TMd 5 ∈ tbl := (mt 553 (by decide +kernel) rfl)
theorem fi_Md_6 : u_lay "ShareServerModel" TMd 6 ∈ tbl := (mt 555 (by decide +kernel) rfl)
theorem fi_Md_7 : u_lay "ShareServerModel" TMd 7 ∈ tbl := (mt 557 (by decide +kernel) rfl)
theorem fi_Md_8 : u_lay "ShareServerModel" TMd 8 ∈ tbl := (mt 559 (by decide +kernel) rfl)
theorem fi_Md_9 : u_lay "ShareServerModel" TMd 9 ∈ tbl := (mt 561 (by decide +kernel) rfl)
theorem fi_Md_10 : u_lay "ShareServerModel" TMd 10 ∈ tbl := (mt 563 (by decide +kernel) rfl)
theorem fi_Md_11 : u_lay "ShareServerModel" TMd 11 ∈ tbl := (mt 565 (by decide +kernel) rfl)
theorem fi_Md_12 : u_lay "ShareServerModel" TMd 12 ∈ tbl := (mt 567 (by decide +kernel) rfl)
theorem fi_Md_13 : u_lay "ShareServerModel" TMd 13 ∈ tbl := (mt 569 (by decide +kernel) rfl)
theorem fi_Md_14 : u_lay "ShareServerModel" TMd 14 ∈ tbl := (mt 571 (by decide +kernel) rfl)
theorem fi_Md_15 : u_lay "ShareServerModel" TMd 15 ∈ tbl := (mt 573 (by decide +kernel) rfl)
theorem fi_Md_16 : u_lay "ShareServerModel" TMd 16 ∈ tbl := (mt 575 (by decide +kernel) rfl)
theorem fi_Md : ∀ w ∈ u_ws "ShareServerModel" TMd 17, w ∈ tbl := fun w h => by
  obtain ⟨j, hj, he⟩ := List.mem_map.mp h
  have hj := List.mem_range.mp hj
  subst he
  match j, hj with
  | 0, _ => exact fi_Md_0
  | 1, _ => exact fi_Md_1
  | 2, _ => exact fi_Md_2
  | 3, _ => exact fi_Md_3
  | 4, _ => exact fi_Md_4
  | 5, _ => exact fi_Md_5
  | 6, _ => exact fi_Md_6
  | 7, _ => exact fi_Md_7
  | 8, _ => exact fi_Md_8
  | 9, _ => exact fi_Md_9
  | 10, _ => exact fi_Md_10
  | 11, _ => exact fi_Md_11
  | 12, _ => exact fi_Md_12
  | 13, _ => exact fi_Md_13
  | 14, _ => exact fi_Md_14
  | 15, _ => exact fi_Md_15
  | 16, _ => exact fi_Md_16
  | j + 17, hj => exact absurd hj (by omega)
theorem fty_ok {k : Nat} {C : String} {T : u_T} {N : Nat} (h : vwCl[k]? = some (C, T, N)) : ∀ j, j < N → parseFieldDescriptor (T j).2.2.1 = some (ftT (fty k j)) := by
  match k, h with
  | 0, h => cases h; exact fo_SS
  | 1, h => cases h; exact fo_Nd
  | 2, h => cases h; exact fo_Hd
  | 3, h => cases h; exact fo_Rq
  | 4, h => cases h; exact fo_Lk
  | 5, h => cases h; exact fo_Cg
  | 6, h => cases h; exact fo_Lg
  | 7, h => cases h; exact fo_Md
  | k + 8, h => cases h
theorem fnm_ok {k : Nat} {C : String} {T : u_T} {N : Nat} (h : vwCl[k]? = some (C, T, N)) : ∀ a, a < N → ∀ b, b < N → a ≠ b → (T a).2.1 ≠ (T b).2.1 := by
  match k, h with
  | 0, h => cases h; exact fn_SS
  | 1, h => cases h; exact fn_Nd
  | 2, h => cases h; exact fn_Hd
  | 3, h => cases h; exact fn_Rq
  | 4, h => cases h; exact fn_Lk
  | 5, h => cases h; exact fn_Cg
  | 6, h => cases h; exact fn_Lg
  | 7, h => cases h; exact fn_Md
  | k + 8, h => cases h
theorem vw_in {k : Nat} {C : String} {T : u_T} {N : Nat} (h : vwCl[k]? = some (C, T, N)) : ∀ w ∈ u_ws C T N, w ∈ tbl := by
  match k, h with
  | 0, h => cases h; exact fi_SS
  | 1, h => cases h; exact fi_Nd
  | 2, h => cases h; exact fi_Hd
  | 3, h => cases h; exact fi_Rq
  | 4, h => cases h; exact fi_Lk
  | 5, h => cases h; exact fi_Cg
  | 6, h => cases h; exact fi_Lg
  | 7, h => cases h; exact fi_Md
  | k + 8, h => cases h
theorem knm_ok {k : Nat} {C : String} {T : u_T} {N : Nat} (h : vwCl[k]? = some (C, T, N)) : knm k = C := by
  match k, h with
  | 0, h => cases h; exact rfl
  | 1, h => cases h; exact rfl
  | 2, h => cases h; exact rfl
  | 3, h => cases h; exact rfl
  | 4, h => cases h; exact rfl
  | 5, h => cases h; exact rfl
  | 6, h => cases h; exact rfl
  | 7, h => cases h; exact rfl
  | k + 8, h => cases h
theorem ksz_ok {k : Nat} {C : String} {T : u_T} {N : Nat} (h : vwCl[k]? = some (C, T, N)) : N ≤ ksz k := by
  match k, h with
  | 0, h => cases h; exact Nat.le_of_ble_eq_true rfl
  | 1, h => cases h; exact Nat.le_of_ble_eq_true rfl
  | 2, h => cases h; exact Nat.le_of_ble_eq_true rfl
  | 3, h => cases h; exact Nat.le_of_ble_eq_true rfl
  | 4, h => cases h; exact Nat.le_of_ble_eq_true rfl
  | 5, h => cases h; exact Nat.le_of_ble_eq_true rfl
  | 6, h => cases h; exact Nat.le_of_ble_eq_true rfl
  | 7, h => cases h; exact Nat.le_of_ble_eq_true rfl
  | k + 8, h => cases h
theorem ins_SS : Cond.instantiable "ShareServer" 9 ∈ tbl := (mt 53 (by decide +kernel) rfl)
theorem ins_Nd : Cond.instantiable "ShareServer$Node" 8 ∈ tbl := (mt 62 (by decide +kernel) rfl)
theorem ins_Hd : Cond.instantiable "ShareServer$Handle" 7 ∈ tbl := (mt 263 (by decide +kernel) rfl)
theorem ins_Rq : Cond.instantiable "ShareServer$Request" 6 ∈ tbl := (mt 167 (by decide +kernel) rfl)
theorem ins_Lk : Cond.instantiable "ShareServer$Lock" 4 ∈ tbl := (mt 424 (by decide +kernel) rfl)
theorem ins_Cg : Cond.instantiable "ShareServer$Change" 4 ∈ tbl := (mt 221 (by decide +kernel) rfl)
theorem ins_Lg : Cond.instantiable "ShareServer$Log" 3 ∈ tbl := (mt 106 (by decide +kernel) rfl)
theorem ins_Md : Cond.instantiable "ShareServerModel" 17 ∈ tbl := (mt 521 (by decide +kernel) rfl)
theorem vw_ins {k : Nat} {C : String} {T : u_T} {N : Nat} (h : vwCl[k]? = some (C, T, N)) : Cond.instantiable C N ∈ tbl := by
  match k, h with
  | 0, h => cases h; exact ins_SS
  | 1, h => cases h; exact ins_Nd
  | 2, h => cases h; exact ins_Hd
  | 3, h => cases h; exact ins_Rq
  | 4, h => cases h; exact ins_Lk
  | 5, h => cases h; exact ins_Cg
  | 6, h => cases h; exact ins_Lg
  | 7, h => cases h; exact ins_Md
  | k + 8, h => cases h
/-- the classes of whose arrays the tables speak -/
def aoN : List String := ["ShareServer$Change", "ShareServer$Handle", "ShareServer$Lock", "ShareServer$Node", "ShareServer$Request"]
theorem ao_Cg : Cond.arrayOver (.object "ShareServer$Change") ∈ lw_tbl := List.mem_of_getElem? (i := 112) (by decide +kernel)
theorem ao_Hd : Cond.arrayOver (.object "ShareServer$Handle") ∈ lw_tbl := List.mem_of_getElem? (i := 102) (by decide +kernel)
theorem ao_Lk : Cond.arrayOver (.object "ShareServer$Lock") ∈ lw_tbl := List.mem_of_getElem? (i := 68) (by decide +kernel)
theorem ao_Nd : Cond.arrayOver (.object "ShareServer$Node") ∈ lw_tbl := List.mem_of_getElem? (i := 61) (by decide +kernel)
theorem ao_Rq : Cond.arrayOver (.object "ShareServer$Request") ∈ lw_tbl := List.mem_of_getElem? (i := 104) (by decide +kernel)
theorem ao_all : ∀ C ∈ aoN, Cond.arrayOver (.object C) ∈ lw_tbl := List.forall_mem_cons.mpr ⟨ao_Cg, List.forall_mem_cons.mpr ⟨ao_Hd, List.forall_mem_cons.mpr ⟨ao_Lk, List.forall_mem_cons.mpr ⟨ao_Nd, List.forall_mem_cons.mpr ⟨ao_Rq, fun _ h => absurd h List.not_mem_nil⟩⟩⟩⟩⟩
theorem tbl_good : ∀ w ∈ tbl, (w.onTables && w.keeps) = true ∨ ∃ ty, w = .arrayClass ty := fun w h => good_of_word (List.mem_filter.mp h).2
abbrev c_SS_init : ByteArray := prog_1_method_1_code
def y_SS_init : MethodName := ⟨"ShareServer", "<init>", "()V"⟩
abbrev c_Nd_init : ByteArray := prog_6_method_1_code
def y_Nd_init : MethodName := ⟨"ShareServer$Node", "<init>", "(IIIZ)V"⟩
abbrev c_Lg_init : ByteArray := prog_5_method_1_code
def y_Lg_init : MethodName := ⟨"ShareServer$Log", "<init>", "()V"⟩
abbrev c_SS_open : ByteArray := prog_1_method_2_code
def y_SS_open : MethodName := ⟨"ShareServer", "open", "(IIIII)I"⟩
abbrev c_SS_isBelow : ByteArray := prog_1_method_20_code
def y_SS_isBelow : MethodName := ⟨"ShareServer", "isBelow", "(II)Z"⟩
abbrev c_SS_isPlace : ByteArray := prog_1_method_21_code
def y_SS_isPlace : MethodName := ⟨"ShareServer", "isPlace", "(II)Z"⟩
abbrev c_SS_isMode : ByteArray := prog_1_method_22_code
def y_SS_isMode : MethodName := ⟨"ShareServer", "isMode", "(I)Z"⟩
abbrev c_Rq_init : ByteArray := prog_7_method_1_code
def y_Rq_init : MethodName := ⟨"ShareServer$Request", "<init>", "(IIIII)V"⟩
abbrev c_SS_attempt : ByteArray := prog_1_method_24_code
def y_SS_attempt : MethodName := ⟨"ShareServer", "attempt", "(LShareServer$Request;)I"⟩
abbrev c_SS_isFolderThere : ByteArray := prog_1_method_42_code
def y_SS_isFolderThere : MethodName := ⟨"ShareServer", "isFolderThere", "(I)Z"⟩
abbrev c_SS_nodeAt : ByteArray := prog_1_method_43_code
def y_SS_nodeAt : MethodName := ⟨"ShareServer", "nodeAt", "(II)LShareServer$Node;"⟩
abbrev c_SS_openNew : ByteArray := prog_1_method_25_code
def y_SS_openNew : MethodName := ⟨"ShareServer", "openNew", "(LShareServer$Request;)I"⟩
abbrev c_Rq_has : ByteArray := prog_7_method_2_code
def y_Rq_has : MethodName := ⟨"ShareServer$Request", "has", "(I)Z"⟩
abbrev c_SS_makeNode : ByteArray := prog_1_method_27_code
def y_SS_makeNode : MethodName := ⟨"ShareServer", "makeNode", "(LShareServer$Request;)LShareServer$Node;"⟩
abbrev c_Cg_init : ByteArray := prog_2_method_1_code
def y_Cg_init : MethodName := ⟨"ShareServer$Change", "<init>", "(ILShareServer$Node;II)V"⟩
abbrev c_Lg_add : ByteArray := prog_5_method_2_code
def y_Lg_add : MethodName := ⟨"ShareServer$Log", "add", "(LShareServer$Change;)V"⟩
abbrev c_Lg_makeAllDurable : ByteArray := prog_5_method_3_code
def y_Lg_makeAllDurable : MethodName := ⟨"ShareServer$Log", "makeAllDurable", "()V"⟩
abbrev c_SS_makeHandle : ByteArray := prog_1_method_28_code
def y_SS_makeHandle : MethodName := ⟨"ShareServer", "makeHandle", "(LShareServer$Request;LShareServer$Node;)I"⟩
abbrev c_SS_grantFor : ByteArray := prog_1_method_29_code
def y_SS_grantFor : MethodName := ⟨"ShareServer", "grantFor", "(LShareServer$Request;LShareServer$Node;)I"⟩
abbrev c_SS_opensOf : ByteArray := prog_1_method_37_code
def y_SS_opensOf : MethodName := ⟨"ShareServer", "opensOf", "(LShareServer$Node;)I"⟩
abbrev c_Hd_init : ByteArray := prog_3_method_1_code
def y_Hd_init : MethodName := ⟨"ShareServer$Handle", "<init>", "(ILShareServer$Node;LShareServer$Request;I)V"⟩
abbrev c_Rq_access : ByteArray := prog_7_method_3_code
def y_Rq_access : MethodName := ⟨"ShareServer$Request", "access", "()I"⟩
abbrev c_Rq_share : ByteArray := prog_7_method_4_code
def y_Rq_share : MethodName := ⟨"ShareServer$Request", "share", "()I"⟩
abbrev c_SS_openThere : ByteArray := prog_1_method_26_code
def y_SS_openThere : MethodName := ⟨"ShareServer", "openThere", "(LShareServer$Request;LShareServer$Node;)I"⟩
abbrev c_SS_breaksGrant : ByteArray := prog_1_method_30_code
def y_SS_breaksGrant : MethodName := ⟨"ShareServer", "breaksGrant", "(LShareServer$Node;)Z"⟩
abbrev c_SS_clashesWithOpens : ByteArray := prog_1_method_31_code
def y_SS_clashesWithOpens : MethodName := ⟨"ShareServer", "clashesWithOpens", "(LShareServer$Request;LShareServer$Node;)Z"⟩
abbrev c_SS_outcome : ByteArray := prog_1_method_3_code
def y_SS_outcome : MethodName := ⟨"ShareServer", "outcome", "(I)I"⟩
abbrev c_SS_requestNumbered : ByteArray := prog_1_method_35_code
def y_SS_requestNumbered : MethodName := ⟨"ShareServer", "requestNumbered", "(I)LShareServer$Request;"⟩
abbrev c_SS_cancel : ByteArray := prog_1_method_4_code
def y_SS_cancel : MethodName := ⟨"ShareServer", "cancel", "(I)I"⟩
abbrev c_SS_giveUp : ByteArray := prog_1_method_5_code
def y_SS_giveUp : MethodName := ⟨"ShareServer", "giveUp", "(I)I"⟩
abbrev c_SS_openHandle : ByteArray := prog_1_method_36_code
def y_SS_openHandle : MethodName := ⟨"ShareServer", "openHandle", "(I)LShareServer$Handle;"⟩
abbrev c_SS_tryWaitingAgain : ByteArray := prog_1_method_32_code
def y_SS_tryWaitingAgain : MethodName := ⟨"ShareServer", "tryWaitingAgain", "()V"⟩
abbrev c_SS_close : ByteArray := prog_1_method_6_code
def y_SS_close : MethodName := ⟨"ShareServer", "close", "(I)I"⟩
abbrev c_Nd_dropLocksOf : ByteArray := prog_6_method_8_code
def y_Nd_dropLocksOf : MethodName := ⟨"ShareServer$Node", "dropLocksOf", "(LShareServer$Handle;)V"⟩
abbrev c_SS_dropFromOpens : ByteArray := prog_1_method_38_code
def y_SS_dropFromOpens : MethodName := ⟨"ShareServer", "dropFromOpens", "(LShareServer$Handle;)V"⟩
abbrev c_SS_doomIfItRemoves : ByteArray := prog_1_method_39_code
def y_SS_doomIfItRemoves : MethodName := ⟨"ShareServer", "doomIfItRemoves", "(LShareServer$Handle;)V"⟩
abbrev c_SS_isRemovable : ByteArray := prog_1_method_45_code
def y_SS_isRemovable : MethodName := ⟨"ShareServer", "isRemovable", "(LShareServer$Node;)Z"⟩
abbrev c_SS_nodesIn : ByteArray := prog_1_method_44_code
def y_SS_nodesIn : MethodName := ⟨"ShareServer", "nodesIn", "(LShareServer$Node;)I"⟩
abbrev c_SS_settleDoom : ByteArray := prog_1_method_40_code
def y_SS_settleDoom : MethodName := ⟨"ShareServer", "settleDoom", "(LShareServer$Node;)V"⟩
abbrev c_SS_doom : ByteArray := prog_1_method_7_code
def y_SS_doom : MethodName := ⟨"ShareServer", "doom", "(IZ)I"⟩
abbrev c_Hd_may : ByteArray := prog_3_method_2_code
def y_Hd_may : MethodName := ⟨"ShareServer$Handle", "may", "(I)Z"⟩
abbrev c_SS_move : ByteArray := prog_1_method_8_code
def y_SS_move : MethodName := ⟨"ShareServer", "move", "(III)I"⟩
abbrev c_SS_isOrLiesInside : ByteArray := prog_1_method_46_code
def y_SS_isOrLiesInside : MethodName := ⟨"ShareServer", "isOrLiesInside", "(II)Z"⟩
abbrev c_SS_read : ByteArray := prog_1_method_9_code
def y_SS_read : MethodName := ⟨"ShareServer", "read", "(II)I"⟩
abbrev c_Nd_barsReading : ByteArray := prog_6_method_2_code
def y_Nd_barsReading : MethodName := ⟨"ShareServer$Node", "barsReading", "(LShareServer$Handle;I)Z"⟩
abbrev c_Lk_covers : ByteArray := prog_4_method_2_code
def y_Lk_covers : MethodName := ⟨"ShareServer$Lock", "covers", "(I)Z"⟩
abbrev c_SS_value : ByteArray := prog_1_method_10_code
def y_SS_value : MethodName := ⟨"ShareServer", "value", "()I"⟩
abbrev c_SS_write : ByteArray := prog_1_method_11_code
def y_SS_write : MethodName := ⟨"ShareServer", "write", "(III)I"⟩
abbrev c_Nd_barsWriting : ByteArray := prog_6_method_3_code
def y_Nd_barsWriting : MethodName := ⟨"ShareServer$Node", "barsWriting", "(LShareServer$Handle;I)Z"⟩
abbrev c_SS_endSharedGrantsBeside : ByteArray := prog_1_method_41_code
def y_SS_endSharedGrantsBeside : MethodName := ⟨"ShareServer", "endSharedGrantsBeside", "(LShareServer$Handle;)V"⟩
abbrev c_SS_lock : ByteArray := prog_1_method_12_code
def y_SS_lock : MethodName := ⟨"ShareServer", "lock", "(IIIZ)I"⟩
abbrev c_SS_isRange : ByteArray := prog_1_method_23_code
def y_SS_isRange : MethodName := ⟨"ShareServer", "isRange", "(II)Z"⟩
abbrev c_Lk_init : ByteArray := prog_4_method_1_code
def y_Lk_init : MethodName := ⟨"ShareServer$Lock", "<init>", "(LShareServer$Handle;IIZ)V"⟩
abbrev c_Nd_barsLocking : ByteArray := prog_6_method_4_code
def y_Nd_barsLocking : MethodName := ⟨"ShareServer$Node", "barsLocking", "(LShareServer$Lock;)Z"⟩
abbrev c_Lk_meets : ByteArray := prog_4_method_3_code
def y_Lk_meets : MethodName := ⟨"ShareServer$Lock", "meets", "(LShareServer$Lock;)Z"⟩
abbrev c_Nd_addLock : ByteArray := prog_6_method_5_code
def y_Nd_addLock : MethodName := ⟨"ShareServer$Node", "addLock", "(LShareServer$Lock;)V"⟩
abbrev c_SS_unlock : ByteArray := prog_1_method_13_code
def y_SS_unlock : MethodName := ⟨"ShareServer", "unlock", "(III)I"⟩
abbrev c_Nd_oldestLock : ByteArray := prog_6_method_6_code
def y_Nd_oldestLock : MethodName := ⟨"ShareServer$Node", "oldestLock", "(LShareServer$Handle;II)I"⟩
abbrev c_Nd_dropLock : ByteArray := prog_6_method_7_code
def y_Nd_dropLock : MethodName := ⟨"ShareServer$Node", "dropLock", "(I)V"⟩
abbrev c_SS_sync : ByteArray := prog_1_method_14_code
def y_SS_sync : MethodName := ⟨"ShareServer", "sync", "()I"⟩
abbrev c_Lg_changes : ByteArray := prog_5_method_4_code
def y_Lg_changes : MethodName := ⟨"ShareServer$Log", "changes", "()I"⟩
abbrev c_SS_crash : ByteArray := prog_1_method_15_code
def y_SS_crash : MethodName := ⟨"ShareServer", "crash", "()I"⟩
abbrev c_SS_undoUnsafeChanges : ByteArray := prog_1_method_47_code
def y_SS_undoUnsafeChanges : MethodName := ⟨"ShareServer", "undoUnsafeChanges", "()V"⟩
abbrev c_SS_undo : ByteArray := prog_1_method_48_code
def y_SS_undo : MethodName := ⟨"ShareServer", "undo", "(LShareServer$Change;)V"⟩
abbrev c_SS_calmNodes : ByteArray := prog_1_method_49_code
def y_SS_calmNodes : MethodName := ⟨"ShareServer", "calmNodes", "()V"⟩
abbrev c_SS_loseWaiting : ByteArray := prog_1_method_33_code
def y_SS_loseWaiting : MethodName := ⟨"ShareServer", "loseWaiting", "()V"⟩
abbrev c_SS_find : ByteArray := prog_1_method_16_code
def y_SS_find : MethodName := ⟨"ShareServer", "find", "(II)I"⟩
abbrev c_SS_node : ByteArray := prog_1_method_17_code
def y_SS_node : MethodName := ⟨"ShareServer", "node", "(II)I"⟩
abbrev c_SS_handle : ByteArray := prog_1_method_18_code
def y_SS_handle : MethodName := ⟨"ShareServer", "handle", "(II)I"⟩
abbrev c_SS_count : ByteArray := prog_1_method_19_code
def y_SS_count : MethodName := ⟨"ShareServer", "count", "(I)I"⟩
abbrev c_SS_waitingRequests : ByteArray := prog_1_method_34_code
def y_SS_waitingRequests : MethodName := ⟨"ShareServer", "waitingRequests", "()I"⟩
abbrev c_Md_init : ByteArray := prog_9_method_1_code
def y_Md_init : MethodName := ⟨"ShareServerModel", "<init>", "()V"⟩
abbrev c_Md_open : ByteArray := prog_9_method_15_code
def y_Md_open : MethodName := ⟨"ShareServerModel", "open", "(IIIII)I"⟩
abbrev c_Md_in : ByteArray := prog_9_method_2_code
def y_Md_in : MethodName := ⟨"ShareServerModel", "in", "(III)Z"⟩
abbrev c_Md_attempt : ByteArray := prog_9_method_13_code
def y_Md_attempt : MethodName := ⟨"ShareServerModel", "attempt", "(I)I"⟩
abbrev c_Md_at : ByteArray := prog_9_method_7_code
def y_Md_at : MethodName := ⟨"ShareServerModel", "at", "(II)I"⟩
abbrev c_Md_openOf : ByteArray := prog_9_method_5_code
def y_Md_openOf : MethodName := ⟨"ShareServerModel", "openOf", "(I)I"⟩
abbrev c_Md_h : ByteArray := prog_9_method_3_code
def y_Md_h : MethodName := ⟨"ShareServerModel", "h", "(II)I"⟩
abbrev c_Md_note : ByteArray := prog_9_method_9_code
def y_Md_note : MethodName := ⟨"ShareServerModel", "note", "(IIIII)V"⟩
abbrev c_Md_apply : ByteArray := prog_9_method_8_code
def y_Md_apply : MethodName := ⟨"ShareServerModel", "apply", "(I)V"⟩
abbrev c_Md_grant : ByteArray := prog_9_method_12_code
def y_Md_grant : MethodName := ⟨"ShareServerModel", "grant", "(II)I"⟩
abbrev c_Md_breaks : ByteArray := prog_9_method_10_code
def y_Md_breaks : MethodName := ⟨"ShareServerModel", "breaks", "(I)Z"⟩
abbrev c_Md_sharing : ByteArray := prog_9_method_11_code
def y_Md_sharing : MethodName := ⟨"ShareServerModel", "sharing", "(II)Z"⟩
abbrev c_Md_outcome : ByteArray := prog_9_method_16_code
def y_Md_outcome : MethodName := ⟨"ShareServerModel", "outcome", "(I)I"⟩
abbrev c_Md_cancel : ByteArray := prog_9_method_17_code
def y_Md_cancel : MethodName := ⟨"ShareServerModel", "cancel", "(I)I"⟩
abbrev c_Md_giveUp : ByteArray := prog_9_method_18_code
def y_Md_giveUp : MethodName := ⟨"ShareServerModel", "giveUp", "(I)I"⟩
abbrev c_Md_shut : ByteArray := prog_9_method_4_code
def y_Md_shut : MethodName := ⟨"ShareServerModel", "shut", "(I)Z"⟩
abbrev c_Md_tryAgain : ByteArray := prog_9_method_14_code
def y_Md_tryAgain : MethodName := ⟨"ShareServerModel", "tryAgain", "()V"⟩
abbrev c_Md_close : ByteArray := prog_9_method_20_code
def y_Md_close : MethodName := ⟨"ShareServerModel", "close", "(I)I"⟩
abbrev c_Md_unlockAt : ByteArray := prog_9_method_19_code
def y_Md_unlockAt : MethodName := ⟨"ShareServerModel", "unlockAt", "(I)V"⟩
abbrev c_Md_inside : ByteArray := prog_9_method_6_code
def y_Md_inside : MethodName := ⟨"ShareServerModel", "inside", "(I)I"⟩
abbrev c_Md_doom : ByteArray := prog_9_method_21_code
def y_Md_doom : MethodName := ⟨"ShareServerModel", "doom", "(IZ)I"⟩
abbrev c_Md_move : ByteArray := prog_9_method_22_code
def y_Md_move : MethodName := ⟨"ShareServerModel", "move", "(III)I"⟩
abbrev c_Md_read : ByteArray := prog_9_method_25_code
def y_Md_read : MethodName := ⟨"ShareServerModel", "read", "(II)I"⟩
abbrev c_Md_may : ByteArray := prog_9_method_23_code
def y_Md_may : MethodName := ⟨"ShareServerModel", "may", "(III)Z"⟩
abbrev c_Md_met : ByteArray := prog_9_method_24_code
def y_Md_met : MethodName := ⟨"ShareServerModel", "met", "(IIIZI)Z"⟩
abbrev c_Md_value : ByteArray := prog_9_method_26_code
def y_Md_value : MethodName := ⟨"ShareServerModel", "value", "()I"⟩
abbrev c_Md_write : ByteArray := prog_9_method_27_code
def y_Md_write : MethodName := ⟨"ShareServerModel", "write", "(III)I"⟩
abbrev c_Md_lock : ByteArray := prog_9_method_30_code
def y_Md_lock : MethodName := ⟨"ShareServerModel", "lock", "(IIIZ)I"⟩
abbrev c_Md_badRange : ByteArray := prog_9_method_29_code
def y_Md_badRange : MethodName := ⟨"ShareServerModel", "badRange", "(III)Z"⟩
abbrev c_Md_locksOf : ByteArray := prog_9_method_28_code
def y_Md_locksOf : MethodName := ⟨"ShareServerModel", "locksOf", "(I)I"⟩
abbrev c_Md_unlock : ByteArray := prog_9_method_31_code
def y_Md_unlock : MethodName := ⟨"ShareServerModel", "unlock", "(III)I"⟩
abbrev c_Md_sync : ByteArray := prog_9_method_32_code
def y_Md_sync : MethodName := ⟨"ShareServerModel", "sync", "()I"⟩
abbrev c_Md_crash : ByteArray := prog_9_method_33_code
def y_Md_crash : MethodName := ⟨"ShareServerModel", "crash", "()I"⟩
abbrev c_Md_find : ByteArray := prog_9_method_34_code
def y_Md_find : MethodName := ⟨"ShareServerModel", "find", "(II)I"⟩
abbrev c_Md_node : ByteArray := prog_9_method_35_code
def y_Md_node : MethodName := ⟨"ShareServerModel", "node", "(II)I"⟩
abbrev c_Md_handle : ByteArray := prog_9_method_36_code
def y_Md_handle : MethodName := ⟨"ShareServerModel", "handle", "(II)I"⟩
abbrev c_Md_count : ByteArray := prog_9_method_37_code
def y_Md_count : MethodName := ⟨"ShareServerModel", "count", "(I)I"⟩
abbrev c_Lw_law : ByteArray := code
