/-! PART cv: calls that make no cell, and change the heap as their contract says -/
section YCv
variable {l : Launch} {z : State} {b : yy_T} {rm : Room} {cc : ByteArray} {nL : Nat} {own : String} {ret : Option FieldType} {hh : List (Nat × Nat × Nat × Nat)} {Post : yy_R → Heap → Prop}
variable {H : Heap} {locs : List Loc} {k : Nat × Nat} {pc n : Nat} {lv : List (Nat × Value)} {st0 rest : List Value}
variable {y : MethodName} {cd : Cond} {rmY : Room} {av : List Value} {Pre : Heap → Prop} {maxL : Nat}
theorem yy_cv (F : yy_A l z b rm cc nL own ret hh Post) (hS : yy_S z H locs) {φ : Heap → Heap → Prop} (hM : yy_M l z y cd rmY av Pre (yy_pv φ)) (hB : yy_B (yy_s b) y cd maxL) (inv : yy_PB b H locs k y av pc st0 rest) {ig : Instr} (hdg : decode cc pc = .ok (ig, 3)) (hn : pc + 3 = n) (hW8 : (rest.map fun v => v.category).sum ≤ 8)
    (hR : rmY.frames + 1 ≤ rm.frames ∧ 8 + (maxL + 11) + rmY.locals ≤ rm.locals) (hf : k.1 + rmY.cells ≤ rm.cells ∧ k.2 + rmY.slots ≤ rm.slots) (h0 : rmY.cells = 0 ∧ rmY.slots = 0) (hP : Pre H)
    (kr : ∀ (H1 : Heap) (locs1 : List Loc), φ H H1 → yy_S z H1 locs1 → yy_Y b H1 locs1 k n lv rest) : yy_Y b H locs k pc lv st0 :=
  yy_callv F hS hM hB inv hdg hn hW8 hR hf hP (fun H1 locs1 h1 h2 => by
    rw [h0.1, h0.2]
    exact kr H1 locs1 h1 h2)
theorem yy_ci (F : yy_A l z b rm cc nL own ret hh Post) (hS : yy_S z H locs) {φ : Int32 → Heap → Heap → Prop} (hM : yy_M l z y cd rmY av Pre (yy_pi φ)) (hB : yy_B (yy_s b) y cd maxL) (inv : yy_PB b H locs k y av pc st0 rest) {ig : Instr} (hdg : decode cc pc = .ok (ig, 3)) (hn : pc + 3 = n) (hW8 : (rest.map fun v => v.category).sum ≤ 8)
    (hR : rmY.frames + 1 ≤ rm.frames ∧ 8 + (maxL + 11) + rmY.locals ≤ rm.locals) (hf : k.1 + rmY.cells ≤ rm.cells ∧ k.2 + rmY.slots ≤ rm.slots) (h0 : rmY.cells = 0 ∧ rmY.slots = 0) (hP : Pre H)
    (kr : ∀ (x : Int32) (H1 : Heap) (locs1 : List Loc), φ x H H1 → yy_S z H1 locs1 → yy_Y b H1 locs1 k n lv (.int x :: rest)) : yy_Y b H locs k pc lv st0 :=
  yy_calli F hS hM hB inv hdg hn hW8 hR hf hP (fun x H1 locs1 h1 h2 => by
    rw [h0.1, h0.2]
    exact kr x H1 locs1 h1 h2)
end YCv
theorem ym_sub1 {n : Nat} (h : 1 ≤ n) : nI n - 1 = nI (n - 1) := (show nI n - 1 = nI n - nI 1 from rfl).trans (pk_sub h)
theorem ym_mul {n : Nat} {c : Int32} (k : Nat) (h : c = nI k) : nI n * c = nI (n * k) := by rw [h, pk_mul]
theorem ym_nm1 {j : Nat} (h : j < 2 ^ 31) : ¬ nI j = -1 := fun q => by
  have := congrArg Int32.toInt q
  rw [nI_toInt h] at this
  exact absurd this (by simp)
theorem ym_cnt_le (p : Nat → Bool) : ∀ n : Nat, ym_cnt p n ≤ n
  | 0 => Nat.le_refl _
  | n + 1 => by
    have h := ym_cnt_le p n
    show ym_cnt p n + (if p n then 1 else 0) ≤ n + 1
    split <;> omega
