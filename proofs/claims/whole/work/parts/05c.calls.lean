/-! PART calls: calls over the bundled judgement -/
section YC
/-- posts of one shape -/
def yy_pi (φ : Int32 → Heap → Heap → Prop) : yy_R → Heap → Heap → Prop := fun r H H1 => ∃ x : Int32, r = .inl (some (.int x)) ∧ φ x H H1
def yy_pv (φ : Heap → Heap → Prop) : yy_R → Heap → Heap → Prop := fun r H H1 => r = .inl none ∧ φ H H1
def yy_pr (φ : Option Nat → Heap → Heap → Prop) : yy_R → Heap → Heap → Prop := fun r H H1 => ∃ x : Option Nat, r = .inl (some (va_rf x)) ∧ φ x H H1
/-- or a throw -/
def yy_px (P : yy_R → Heap → Heap → Prop) (χ : String → Heap → Heap → Prop) : yy_R → Heap → Heap → Prop := fun r H H1 => P r H H1 ∨ ∃ E : String, r = .inr E ∧ χ E H H1
/-- it reads alone -/
def yy_ri (v : Int32) : yy_R → Heap → Heap → Prop := yy_pi (fun x H H1 => x = v ∧ H1 = H)
def yy_rr (v : Option Nat) : yy_R → Heap → Heap → Prop := yy_pr (fun x H H1 => x = v ∧ H1 = H)
def yy_rv : yy_R → Heap → Heap → Prop := yy_pv (fun H H1 => H1 = H)
/-- a heap that has grown alone -/
def yy_ext (H H1 : Heap) : Prop := H.size ≤ H1.size ∧ ∀ q : Nat, q < H.size → H1[q]? = H[q]?
theorem yy_ext.rf {H : Heap} : yy_ext H H := ⟨Nat.le_refl _, fun _ _ => rfl⟩
theorem yy_ext.tr {H H1 H2 : Heap} (h : yy_ext H H1) (h2 : yy_ext H1 H2) : yy_ext H H2 := ⟨Nat.le_trans h.1 h2.1, fun q hq => (h2.2 q (Nat.lt_of_lt_of_le hq h.1)).trans (h.2 q hq)⟩
theorem yy_ext.at {D : va_G} {cl : List vw_C} {q : Nat × va_E} {H H1 : Heap} (h : yy_ext H H1) (O : va_at D cl q H) : va_at D cl q H1 := O.kept (h.2 q.1 O.lt)
section YCa
variable {l : Launch} {z : State} {b : yy_T} {rm : Room} {cc : ByteArray} {nL : Nat} {own : String} {ret : Option FieldType} {hh : List (Nat × Nat × Nat × Nat)} {Post : yy_R → Heap → Prop}
variable {H : Heap} {locs : List Loc} {k : Nat × Nat} {pc n : Nat} {lv lv' : List (Nat × Value)} {st st0 rest : List Value}
variable {y : MethodName} {cd : Cond} {rmY : Room} {av : List Value} {Pre : Heap → Prop} {PostM : yy_R → Heap → Heap → Prop} {maxL : Nat}
abbrev yy_PB (b : yy_T) (H : Heap) (locs : List Loc) (k : Nat × Nat) (y : MethodName) (av : List Value) (pc : Nat) (st0 rest : List Value) : Prop :=
  ∀ ls : Array Slot, yy_P (yy_p b) (yy_l b) (yy_e b) (yy_r b) (yy_s b) (yy_m b) (yy_a b) (yy_b b) (yy_t b) (yy_c b) H locs k.1 k.2 y av (F0 (yy_m b) pc ls st0) (F0 (yy_m b) pc ls rest)
theorem yy_call (F : yy_A l z b rm cc nL own ret hh Post) (hS : yy_S z H locs) (hM : yy_M l z y cd rmY av Pre PostM) (hB : yy_B (yy_s b) y cd maxL) (inv : yy_PB b H locs k y av pc st0 rest) {ig : Instr} (hdg : decode cc pc = .ok (ig, 3)) (hn : pc + 3 = n) (hW8 : (rest.map fun v => v.category).sum ≤ 8)
    (hR : rmY.frames + 1 ≤ rm.frames ∧ 8 + (maxL + 11) + rmY.locals ≤ rm.locals) (hf : k.1 + rmY.cells ≤ rm.cells ∧ k.2 + rmY.slots ≤ rm.slots) (hP : Pre H)
    (kr : ∀ (v : Option Value) (H1 : Heap) (locs1 : List Loc), PostM (.inl v) H H1 → yy_S z H1 locs1 → yy_Y b H1 locs1 (k.1 + rmY.cells, k.2 + rmY.slots) n lv (v.toList ++ rest))
    (kt : ∀ (E : String) (q : Addr) (ce : Cell) (H1 : Heap) (locs1 : List Loc), PostM (.inr E) H H1 → yy_S z H1 locs1 → H1[q]? = some ce → ce.vm = .none → (yy_s b).vm.findClass E = some ce.cls → yy_V b H1 locs1 (k.1 + rmY.cells, k.2 + rmY.slots) pc lv rest q) :
    yy_Y b H locs k pc lv st0 := by
  subst hn
  intro ls hl
  have hMl : yy_M (yy_l b) z y cd rmY av Pre PostM := by rw [F.ll]; exact hM
  exact yy_go F.N hS hMl hB (inv ls) (by rw [F.c]; exact hdg) (by rw [F.ml, ← F.n]; exact hl.1) hW8 (by rw [F.r]; exact hR) (by rw [F.r]; exact hf) hP (fun v H1 locs1 h1 h2 => kr v H1 locs1 h1 h2 ls hl) (fun E q ce H1 locs1 h1 h2 h3 h4 h5 => kt E q ce H1 locs1 h1 h2 h3 h4 h5 ls hl)
/-- a call that answers an int, or throws -/
theorem yy_callix (F : yy_A l z b rm cc nL own ret hh Post) (hS : yy_S z H locs) {φ : Int32 → Heap → Heap → Prop} {χ : String → Heap → Heap → Prop} (hM : yy_M l z y cd rmY av Pre (yy_px (yy_pi φ) χ)) (hB : yy_B (yy_s b) y cd maxL) (inv : yy_PB b H locs k y av pc st0 rest) {ig : Instr} (hdg : decode cc pc = .ok (ig, 3)) (hn : pc + 3 = n) (hW8 : (rest.map fun v => v.category).sum ≤ 8)
    (hR : rmY.frames + 1 ≤ rm.frames ∧ 8 + (maxL + 11) + rmY.locals ≤ rm.locals) (hf : k.1 + rmY.cells ≤ rm.cells ∧ k.2 + rmY.slots ≤ rm.slots) (hP : Pre H)
    (kr : ∀ (x : Int32) (H1 : Heap) (locs1 : List Loc), φ x H H1 → yy_S z H1 locs1 → yy_Y b H1 locs1 (k.1 + rmY.cells, k.2 + rmY.slots) n lv (.int x :: rest))
    (kt : ∀ (E : String) (q : Addr) (ce : Cell) (H1 : Heap) (locs1 : List Loc), χ E H H1 → yy_S z H1 locs1 → H1[q]? = some ce → ce.vm = .none → (yy_s b).vm.findClass E = some ce.cls → yy_V b H1 locs1 (k.1 + rmY.cells, k.2 + rmY.slots) pc lv rest q) :
    yy_Y b H locs k pc lv st0 :=
  yy_call F hS hM hB inv hdg hn hW8 hR hf hP (fun v H1 locs1 h1 h2 => by
    rcases h1 with ⟨x, h, hp⟩ | ⟨E, h, -⟩
    · cases h
      exact kr x H1 locs1 hp h2
    · cases h) (fun E q ce H1 locs1 h1 h2 h3 h4 h5 => by
    rcases h1 with ⟨x, h, -⟩ | ⟨E', h, hp⟩
    · cases h
    · cases h
      exact kt E q ce H1 locs1 hp h2 h3 h4 h5)
theorem yy_callrx (F : yy_A l z b rm cc nL own ret hh Post) (hS : yy_S z H locs) {φ : Option Nat → Heap → Heap → Prop} {χ : String → Heap → Heap → Prop} (hM : yy_M l z y cd rmY av Pre (yy_px (yy_pr φ) χ)) (hB : yy_B (yy_s b) y cd maxL) (inv : yy_PB b H locs k y av pc st0 rest) {ig : Instr} (hdg : decode cc pc = .ok (ig, 3)) (hn : pc + 3 = n) (hW8 : (rest.map fun v => v.category).sum ≤ 8)
    (hR : rmY.frames + 1 ≤ rm.frames ∧ 8 + (maxL + 11) + rmY.locals ≤ rm.locals) (hf : k.1 + rmY.cells ≤ rm.cells ∧ k.2 + rmY.slots ≤ rm.slots) (hP : Pre H)
    (kr : ∀ (x : Option Nat) (H1 : Heap) (locs1 : List Loc), φ x H H1 → yy_S z H1 locs1 → yy_Y b H1 locs1 (k.1 + rmY.cells, k.2 + rmY.slots) n lv (va_rf x :: rest))
    (kt : ∀ (E : String) (q : Addr) (ce : Cell) (H1 : Heap) (locs1 : List Loc), χ E H H1 → yy_S z H1 locs1 → H1[q]? = some ce → ce.vm = .none → (yy_s b).vm.findClass E = some ce.cls → yy_V b H1 locs1 (k.1 + rmY.cells, k.2 + rmY.slots) pc lv rest q) :
    yy_Y b H locs k pc lv st0 :=
  yy_call F hS hM hB inv hdg hn hW8 hR hf hP (fun v H1 locs1 h1 h2 => by
    rcases h1 with ⟨x, h, hp⟩ | ⟨E, h, -⟩
    · cases h
      exact kr x H1 locs1 hp h2
    · cases h) (fun E q ce H1 locs1 h1 h2 h3 h4 h5 => by
    rcases h1 with ⟨x, h, -⟩ | ⟨E', h, hp⟩
    · cases h
    · cases h
      exact kt E q ce H1 locs1 hp h2 h3 h4 h5)
theorem yy_callvx (F : yy_A l z b rm cc nL own ret hh Post) (hS : yy_S z H locs) {φ : Heap → Heap → Prop} {χ : String → Heap → Heap → Prop} (hM : yy_M l z y cd rmY av Pre (yy_px (yy_pv φ) χ)) (hB : yy_B (yy_s b) y cd maxL) (inv : yy_PB b H locs k y av pc st0 rest) {ig : Instr} (hdg : decode cc pc = .ok (ig, 3)) (hn : pc + 3 = n) (hW8 : (rest.map fun v => v.category).sum ≤ 8)
    (hR : rmY.frames + 1 ≤ rm.frames ∧ 8 + (maxL + 11) + rmY.locals ≤ rm.locals) (hf : k.1 + rmY.cells ≤ rm.cells ∧ k.2 + rmY.slots ≤ rm.slots) (hP : Pre H)
    (kr : ∀ (H1 : Heap) (locs1 : List Loc), φ H H1 → yy_S z H1 locs1 → yy_Y b H1 locs1 (k.1 + rmY.cells, k.2 + rmY.slots) n lv rest)
    (kt : ∀ (E : String) (q : Addr) (ce : Cell) (H1 : Heap) (locs1 : List Loc), χ E H H1 → yy_S z H1 locs1 → H1[q]? = some ce → ce.vm = .none → (yy_s b).vm.findClass E = some ce.cls → yy_V b H1 locs1 (k.1 + rmY.cells, k.2 + rmY.slots) pc lv rest q) :
    yy_Y b H locs k pc lv st0 :=
  yy_call F hS hM hB inv hdg hn hW8 hR hf hP (fun v H1 locs1 h1 h2 => by
    rcases h1 with ⟨h, hp⟩ | ⟨E, h, -⟩
    · cases h
      exact kr H1 locs1 hp h2
    · cases h) (fun E q ce H1 locs1 h1 h2 h3 h4 h5 => by
    rcases h1 with ⟨h, -⟩ | ⟨E', h, hp⟩
    · cases h
    · cases h
      exact kt E q ce H1 locs1 hp h2 h3 h4 h5)
/-- calls that throw nothing -/
theorem yy_calli (F : yy_A l z b rm cc nL own ret hh Post) (hS : yy_S z H locs) {φ : Int32 → Heap → Heap → Prop} (hM : yy_M l z y cd rmY av Pre (yy_pi φ)) (hB : yy_B (yy_s b) y cd maxL) (inv : yy_PB b H locs k y av pc st0 rest) {ig : Instr} (hdg : decode cc pc = .ok (ig, 3)) (hn : pc + 3 = n) (hW8 : (rest.map fun v => v.category).sum ≤ 8)
    (hR : rmY.frames + 1 ≤ rm.frames ∧ 8 + (maxL + 11) + rmY.locals ≤ rm.locals) (hf : k.1 + rmY.cells ≤ rm.cells ∧ k.2 + rmY.slots ≤ rm.slots) (hP : Pre H)
    (kr : ∀ (x : Int32) (H1 : Heap) (locs1 : List Loc), φ x H H1 → yy_S z H1 locs1 → yy_Y b H1 locs1 (k.1 + rmY.cells, k.2 + rmY.slots) n lv (.int x :: rest)) : yy_Y b H locs k pc lv st0 :=
  yy_call F hS hM hB inv hdg hn hW8 hR hf hP (fun v H1 locs1 h1 h2 => by
    obtain ⟨x, h, hp⟩ := h1
    cases h
    exact kr x H1 locs1 hp h2) (fun E q ce H1 locs1 h1 h2 h3 h4 h5 => by
    obtain ⟨x, h, -⟩ := h1
    cases h)
theorem yy_callr (F : yy_A l z b rm cc nL own ret hh Post) (hS : yy_S z H locs) {φ : Option Nat → Heap → Heap → Prop} (hM : yy_M l z y cd rmY av Pre (yy_pr φ)) (hB : yy_B (yy_s b) y cd maxL) (inv : yy_PB b H locs k y av pc st0 rest) {ig : Instr} (hdg : decode cc pc = .ok (ig, 3)) (hn : pc + 3 = n) (hW8 : (rest.map fun v => v.category).sum ≤ 8)
    (hR : rmY.frames + 1 ≤ rm.frames ∧ 8 + (maxL + 11) + rmY.locals ≤ rm.locals) (hf : k.1 + rmY.cells ≤ rm.cells ∧ k.2 + rmY.slots ≤ rm.slots) (hP : Pre H)
    (kr : ∀ (x : Option Nat) (H1 : Heap) (locs1 : List Loc), φ x H H1 → yy_S z H1 locs1 → yy_Y b H1 locs1 (k.1 + rmY.cells, k.2 + rmY.slots) n lv (va_rf x :: rest)) : yy_Y b H locs k pc lv st0 :=
  yy_call F hS hM hB inv hdg hn hW8 hR hf hP (fun v H1 locs1 h1 h2 => by
    obtain ⟨x, h, hp⟩ := h1
    cases h
    exact kr x H1 locs1 hp h2) (fun E q ce H1 locs1 h1 h2 h3 h4 h5 => by
    obtain ⟨x, h, -⟩ := h1
    cases h)
theorem yy_callv (F : yy_A l z b rm cc nL own ret hh Post) (hS : yy_S z H locs) {φ : Heap → Heap → Prop} (hM : yy_M l z y cd rmY av Pre (yy_pv φ)) (hB : yy_B (yy_s b) y cd maxL) (inv : yy_PB b H locs k y av pc st0 rest) {ig : Instr} (hdg : decode cc pc = .ok (ig, 3)) (hn : pc + 3 = n) (hW8 : (rest.map fun v => v.category).sum ≤ 8)
    (hR : rmY.frames + 1 ≤ rm.frames ∧ 8 + (maxL + 11) + rmY.locals ≤ rm.locals) (hf : k.1 + rmY.cells ≤ rm.cells ∧ k.2 + rmY.slots ≤ rm.slots) (hP : Pre H)
    (kr : ∀ (H1 : Heap) (locs1 : List Loc), φ H H1 → yy_S z H1 locs1 → yy_Y b H1 locs1 (k.1 + rmY.cells, k.2 + rmY.slots) n lv rest) : yy_Y b H locs k pc lv st0 :=
  yy_call F hS hM hB inv hdg hn hW8 hR hf hP (fun v H1 locs1 h1 h2 => by
    obtain ⟨h, hp⟩ := h1
    cases h
    exact kr H1 locs1 hp h2) (fun E q ce H1 locs1 h1 h2 h3 h4 h5 => by
    obtain ⟨h, -⟩ := h1
    cases h)
/-- calls that read alone -/
theorem yy_cri (F : yy_A l z b rm cc nL own ret hh Post) (hS : yy_S z H locs) {v w : Int32} (hM : yy_M l z y cd rmY av Pre (yy_ri v)) (hB : yy_B (yy_s b) y cd maxL) (inv : yy_PB b H locs k y av pc st0 rest) {ig : Instr} (hdg : decode cc pc = .ok (ig, 3)) (hn : pc + 3 = n) (hW8 : (rest.map fun v => v.category).sum ≤ 8)
    (hR : rmY.frames + 1 ≤ rm.frames ∧ 8 + (maxL + 11) + rmY.locals ≤ rm.locals) (hf : k.1 + rmY.cells ≤ rm.cells ∧ k.2 + rmY.slots ≤ rm.slots) (h0 : rmY.cells = 0 ∧ rmY.slots = 0) (hP : Pre H) (hv : v = w)
    (kr : ∀ locs1 : List Loc, yy_S z H locs1 → yy_Y b H locs1 k n lv (.int w :: rest)) : yy_Y b H locs k pc lv st0 :=
  yy_calli F hS hM hB inv hdg hn hW8 hR hf hP (fun x H1 locs1 h1 h2 => by
    obtain ⟨e1, e2⟩ := h1
    subst e1; subst e2; subst hv
    rw [h0.1, h0.2]
    exact kr locs1 h2)
theorem yy_crr (F : yy_A l z b rm cc nL own ret hh Post) (hS : yy_S z H locs) {v w : Option Nat} (hM : yy_M l z y cd rmY av Pre (yy_rr v)) (hB : yy_B (yy_s b) y cd maxL) (inv : yy_PB b H locs k y av pc st0 rest) {ig : Instr} (hdg : decode cc pc = .ok (ig, 3)) (hn : pc + 3 = n) (hW8 : (rest.map fun v => v.category).sum ≤ 8)
    (hR : rmY.frames + 1 ≤ rm.frames ∧ 8 + (maxL + 11) + rmY.locals ≤ rm.locals) (hf : k.1 + rmY.cells ≤ rm.cells ∧ k.2 + rmY.slots ≤ rm.slots) (h0 : rmY.cells = 0 ∧ rmY.slots = 0) (hP : Pre H) (hv : v = w)
    (kr : ∀ locs1 : List Loc, yy_S z H locs1 → yy_Y b H locs1 k n lv (va_rf w :: rest)) : yy_Y b H locs k pc lv st0 :=
  yy_callr F hS hM hB inv hdg hn hW8 hR hf hP (fun x H1 locs1 h1 h2 => by
    obtain ⟨e1, e2⟩ := h1
    subst e1; subst e2; subst hv
    rw [h0.1, h0.2]
    exact kr locs1 h2)
theorem yy_crv (F : yy_A l z b rm cc nL own ret hh Post) (hS : yy_S z H locs) (hM : yy_M l z y cd rmY av Pre yy_rv) (hB : yy_B (yy_s b) y cd maxL) (inv : yy_PB b H locs k y av pc st0 rest) {ig : Instr} (hdg : decode cc pc = .ok (ig, 3)) (hn : pc + 3 = n) (hW8 : (rest.map fun v => v.category).sum ≤ 8)
    (hR : rmY.frames + 1 ≤ rm.frames ∧ 8 + (maxL + 11) + rmY.locals ≤ rm.locals) (hf : k.1 + rmY.cells ≤ rm.cells ∧ k.2 + rmY.slots ≤ rm.slots) (h0 : rmY.cells = 0 ∧ rmY.slots = 0) (hP : Pre H)
    (kr : ∀ locs1 : List Loc, yy_S z H locs1 → yy_Y b H locs1 k n lv rest) : yy_Y b H locs k pc lv st0 :=
  yy_callv F hS hM hB inv hdg hn hW8 hR hf hP (fun H1 locs1 h1 h2 => by
    have e2 : H1 = H := h1
    subst e2
    rw [h0.1, h0.2]
    exact kr locs1 h2)
end YCa
end YC
