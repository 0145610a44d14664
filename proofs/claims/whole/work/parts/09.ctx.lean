/-! PART ctx: the start's facts in one word; private methods' selects; small laws of numbers -/
theorem qs_K_demandOneMoreContainer : Cond.selects R_K y_K_demandOneMoreContainer y_K_demandOneMoreContainer ∈ lw_tbl := List.mem_append_left _ (List.mem_of_getElem? (i := 1) rfl)
theorem qs_K_keepContainer : Cond.selects R_K y_K_keepContainer y_K_keepContainer ∈ lw_tbl := List.mem_append_left _ (List.mem_of_getElem? (i := 2) rfl)
theorem qs_K_containerAt : Cond.selects R_K y_K_containerAt y_K_containerAt ∈ lw_tbl := List.mem_append_left _ (List.mem_of_getElem? (i := 3) rfl)
theorem qs_K_freshList : Cond.selects R_K y_K_freshList y_K_freshList ∈ lw_tbl := List.mem_append_left _ (List.mem_of_getElem? (i := 4) rfl)
theorem qs_K_freshListOrHeap : Cond.selects R_K y_K_freshListOrHeap y_K_freshListOrHeap ∈ lw_tbl := List.mem_append_left _ (List.mem_of_getElem? (i := 5) rfl)
theorem qs_S_closeGap : Cond.selects R_S y_S_closeGap y_S_closeGap ∈ lw_tbl := List.mem_append_left _ (List.mem_of_getElem? (i := 6) rfl)
theorem qs_K_mapAt : Cond.selects R_K y_K_mapAt y_K_mapAt ∈ lw_tbl := List.mem_append_left _ (List.mem_of_getElem? (i := 7) rfl)
theorem qs_S_bringKeyIn : Cond.selects R_S y_S_bringKeyIn y_S_bringKeyIn ∈ lw_tbl := List.mem_append_left _ (List.mem_of_getElem? (i := 8) rfl)
theorem qs_S_bucketOf : Cond.selects R_S y_S_bucketOf y_S_bucketOf ∈ lw_tbl := List.mem_append_left _ (List.mem_of_getElem? (i := 9) rfl)
theorem qs_K_walkAt : Cond.selects R_K y_K_walkAt y_K_walkAt ∈ lw_tbl := List.mem_append_left _ (List.mem_of_getElem? (i := 10) rfl)
theorem qs_K_openedWalkAt : Cond.selects R_K y_K_openedWalkAt y_K_openedWalkAt ∈ lw_tbl := List.mem_append_left _ (List.mem_of_getElem? (i := 11) rfl)
theorem qs_M_make : Cond.selects R_M y_M_make y_M_make ∈ lw_tbl := List.mem_append_left _ (List.mem_of_getElem? (i := 12) rfl)
theorem qs_M_isThere : Cond.selects R_M y_M_isThere y_M_isThere ∈ lw_tbl := List.mem_append_left _ (List.mem_of_getElem? (i := 13) rfl)
theorem qs_M_isList : Cond.selects R_M y_M_isList y_M_isList ∈ lw_tbl := List.mem_append_left _ (List.mem_of_getElem? (i := 14) rfl)
theorem qs_M_isTree : Cond.selects R_M y_M_isTree y_M_isTree ∈ lw_tbl := List.mem_append_left _ (List.mem_of_getElem? (i := 15) rfl)
theorem qs_M_isStale : Cond.selects R_M y_M_isStale y_M_isStale ∈ lw_tbl := List.mem_append_left _ (List.mem_of_getElem? (i := 16) rfl)
theorem qs_M_sizeOf : Cond.selects R_M y_M_sizeOf y_M_sizeOf ∈ lw_tbl := List.mem_append_left _ (List.mem_of_getElem? (i := 17) rfl)
theorem qs_M_isIn : Cond.selects R_M y_M_isIn y_M_isIn ∈ lw_tbl := List.mem_append_left _ (List.mem_of_getElem? (i := 18) rfl)
theorem qs_M_placeIn : Cond.selects R_M y_M_placeIn y_M_placeIn ∈ lw_tbl := List.mem_append_left _ (List.mem_of_getElem? (i := 19) rfl)
theorem qs_M_checkList : Cond.selects R_M y_M_checkList y_M_checkList ∈ lw_tbl := List.mem_append_left _ (List.mem_of_getElem? (i := 20) rfl)
theorem qs_M_at : Cond.selects R_M y_M_at y_M_at ∈ lw_tbl := List.mem_append_left _ (List.mem_of_getElem? (i := 21) rfl)
theorem qs_M_putIn : Cond.selects R_M y_M_putIn y_M_putIn ∈ lw_tbl := List.mem_append_left _ (List.mem_of_getElem? (i := 22) rfl)
theorem qs_M_changed : Cond.selects R_M y_M_changed y_M_changed ∈ lw_tbl := List.mem_append_left _ (List.mem_of_getElem? (i := 23) rfl)
theorem qs_M_insertAt : Cond.selects R_M y_M_insertAt y_M_insertAt ∈ lw_tbl := List.mem_append_left _ (List.mem_of_getElem? (i := 24) rfl)
theorem qs_M_takeOut : Cond.selects R_M y_M_takeOut y_M_takeOut ∈ lw_tbl := List.mem_append_left _ (List.mem_of_getElem? (i := 25) rfl)
theorem qs_M_lookUp : Cond.selects R_M y_M_lookUp y_M_lookUp ∈ lw_tbl := List.mem_append_left _ (List.mem_of_getElem? (i := 26) rfl)
theorem qs_M_checkMap : Cond.selects R_M y_M_checkMap y_M_checkMap ∈ lw_tbl := List.mem_append_left _ (List.mem_of_getElem? (i := 27) rfl)
theorem qs_M_isMap : Cond.selects R_M y_M_isMap y_M_isMap ∈ lw_tbl := List.mem_append_left _ (List.mem_of_getElem? (i := 28) rfl)
theorem qs_M_find : Cond.selects R_M y_M_find y_M_find ∈ lw_tbl := List.mem_append_left _ (List.mem_of_getElem? (i := 29) rfl)
theorem qs_M_add : Cond.selects R_M y_M_add y_M_add ∈ lw_tbl := List.mem_append_left _ (List.mem_of_getElem? (i := 30) rfl)
theorem qs_M_hashes : Cond.selects R_M y_M_hashes y_M_hashes ∈ lw_tbl := List.mem_append_left _ (List.mem_of_getElem? (i := 31) rfl)
theorem qs_M_freshen : Cond.selects R_M y_M_freshen y_M_freshen ∈ lw_tbl := List.mem_append_left _ (List.mem_of_getElem? (i := 32) rfl)
theorem qs_M_fail : Cond.selects R_M y_M_fail y_M_fail ∈ lw_tbl := List.mem_append_left _ (List.mem_of_getElem? (i := 33) rfl)
theorem qs_M_isOpen : Cond.selects R_M y_M_isOpen y_M_isOpen ∈ lw_tbl := List.mem_append_left _ (List.mem_of_getElem? (i := 34) rfl)
theorem qs_M_isLost : Cond.selects R_M y_M_isLost y_M_isLost ∈ lw_tbl := List.mem_append_left _ (List.mem_of_getElem? (i := 35) rfl)
theorem qs_M_checkLatest : Cond.selects R_M y_M_checkLatest y_M_checkLatest ∈ lw_tbl := List.mem_append_left _ (List.mem_of_getElem? (i := 36) rfl)
theorem qs_M_settle : Cond.selects R_M y_M_settle y_M_settle ∈ lw_tbl := List.mem_append_left _ (List.mem_of_getElem? (i := 37) rfl)
abbrev kca : Type := ClassId × ClassId × ClassId × ClassId
abbrev ktys (ca : kca) : List (ClassId × FieldType) := [(ca.1, .int), (ca.2.1, .object "ContainerKit$Container"), (ca.2.2.1, .object "ContainerKit$Walk"), (ca.2.2.2, .long)]
/-- what is known of the start z: the table's words, the classes and array classes -/
def kcx (l : Launch) (z : State) (a0 : Array Value) (D : va_G) (ca : kca) : Prop := (∀ w ∈ lw_tbl, w.before a0 z = true) ∧ va_K D kcl (ktys ca) z ∧ (Jvm.Cond.and given_1 narrow_1).before a0 z = true ∧ l.stackTraces = false
theorem yy_tope {b : yy_T} {H : Heap} {locs : List Loc} {k : Nat × Nat} {pc : Nat} {lv : List (Nat × Value)} {st : List Value} {x y : Int32} (h : x = y) (kk : yy_Y b H locs k pc lv (.int y :: st)) : yy_Y b H locs k pc lv (.int x :: st) := by
  rw [h]; exact kk
/-- a store of numbers: its object and its two rows -/
def st_at (D : va_G) (ca : kca) (H : Heap) (a na va : Nat) (kd rm ch : Int32) (n : Nat) (nf vf : Nat → Int32) : Prop :=
  va_at D kcl (a, .inr (0, [.int kd, .ref na, .ref va, .int (nI n), .int rm, .int ch])) H ∧ va_at D kcl (na, .inl (ca.1, 24, .inl nf)) H ∧ va_at D kcl (va, .inl (ca.1, 24, .inl vf)) H
theorem ym_lt {a k : Nat} {b : Int32} (hb : b.toInt = (k : Int)) (ha : a < 2 ^ 31) : nI a < b ↔ a < k := by
  rw [Int32.lt_iff_toInt_lt, nI_toInt ha, hb]; omega
theorem ym_gt {a k : Nat} {b : Int32} (hb : b.toInt = (k : Int)) (ha : a < 2 ^ 31) : b < nI a ↔ k < a := by
  rw [Int32.lt_iff_toInt_lt, nI_toInt ha, hb]; omega
theorem ym_le {a k : Nat} {b : Int32} (hb : b.toInt = (k : Int)) (ha : a < 2 ^ 31) : nI a ≤ b ↔ a ≤ k := by
  rw [Int32.le_iff_toInt_le, nI_toInt ha, hb]; omega
theorem ym_ge {a k : Nat} {b : Int32} (hb : b.toInt = (k : Int)) (ha : a < 2 ^ 31) : b ≤ nI a ↔ k ≤ a := by
  rw [Int32.le_iff_toInt_le, nI_toInt ha, hb]; omega
/-- an int between 0 and a small number -/
theorem ym_held {p : Int32} {n : Nat} (hn : n < 2 ^ 31) (h0 : ¬ p < 0) (h1 : p < nI n) : ∃ j : Nat, j < n ∧ p = nI j := by
  obtain ⟨j, hj, rfl⟩ := nI_of h0
  exact ⟨j, (nI_ltI hj hn).mp h1, rfl⟩
/-- is p a place of n -/
def ym_in (p : Int32) (n : Nat) : Prop := ¬ p < 0 ∧ p < nI n
theorem ym_in.of {j n : Nat} (h : j < n) (hn : n < 2 ^ 31) : ym_in (nI j) n := ⟨nI_pos (by omega), nI_lt h hn⟩
theorem ym_in.nat {p : Int32} {n : Nat} (hn : n < 2 ^ 31) (h : ym_in p n) : ∃ j : Nat, j < n ∧ p = nI j := ym_held hn h.1 h.2
theorem ym_in.vp {p : Int32} {n m : Nat} (h : ym_in p n) (hn : n ≤ m) (hm : m < 2 ^ 31) : vp_in p m := by
  obtain ⟨j, hj, rfl⟩ := h.nat (by omega)
  exact vp_in_nI (by omega) hm
def ym_inb (p : Int32) (n : Nat) : Bool := !decide (p < 0) && decide (p < nI n)
theorem ym_inb_t {p : Int32} {n : Nat} (h : ym_in p n) : ym_inb p n = true := by simp [ym_inb, h.1, h.2]
theorem ym_inb_f {p : Int32} {n : Nat} (h : ¬ ym_in p n) : ym_inb p n = false := by
  unfold ym_in at h
  unfold ym_inb
  by_cases h1 : p < 0
  · simp [h1]
  · by_cases h2 : p < nI n
    · exact absurd ⟨h1, h2⟩ h
    · simp [h2]
/-- a truth as a number -/
def ym_n (c : Bool) : Int32 := if c then 1 else 0
theorem ym_nt {c : Bool} (h : c = true) : ym_n c = 1 := by rw [h]; rfl
theorem ym_nf {c : Bool} (h : c = false) : ym_n c = 0 := by rw [h]; rfl
