/-! PART ops: ends, throws, fields, arrays, calls over the bundled judgement -/
section YO
section YOa
variable {l : Launch} {z : State} {b : yy_T} {rm : Room} {cc : ByteArray} {nL : Nat} {own : String} {ret : Option FieldType} {hh : List (Nat × Nat × Nat × Nat)} {Post : yy_R → Heap → Prop}
variable {H : Heap} {locs : List Loc} {k : Nat × Nat} {pc n : Nat} {lv lv' : List (Nat × Value)} {st : List Value}
theorem yy_iret (F : yy_A l z b rm cc nL own ret hh Post) (hS : yy_S z H locs) (hk : k.1 ≤ rm.cells ∧ k.2 ≤ rm.slots) {v : Int32} (hr : ret = some .int) (d : decode cc pc = .ok (.ireturn, 1)) (hp : Post (.inl (some (.int v))) H) : yy_Y b H locs k pc lv [.int v] := by
  intro ls hl T hT X
  obtain ⟨t, a1, o, b1, b2, ⟨rfl, h9⟩, L, hF, hL⟩ := (W.iret (Qc := fun _ _ o t => o = .returned (some (.int v)) ∧ t.heap = H) (free := fun q => z.heap.size ≤ q) F.x F.c (F.rt.trans hr) (fun t ht _ => ⟨rfl, ht⟩) hS.2.2 d F.lk) T hT X
  refine ⟨t, a1, ?_⟩
  rw [F.q]
  exact ⟨_, b1, b2, .inl (some (.int v)), L, rfl, by rw [h9]; exact hp, hF.2.1, hF.2.2.mono hk.1 hk.2, hL⟩
theorem yy_zret (F : yy_A l z b rm cc nL own ret hh Post) (hS : yy_S z H locs) (hk : k.1 ≤ rm.cells ∧ k.2 ≤ rm.slots) {v : Int32} {ty : FieldType} (hr : ret = some ty) (hn : narrow ty (.int v) = .int v) (d : decode cc pc = .ok (.ireturn, 1)) (hp : Post (.inl (some (.int v))) H) : yy_Y b H locs k pc lv [.int v] := by
  intro ls hl T hT X
  obtain ⟨t, a1, o, b1, b2, ⟨rfl, h9⟩, L, hF, hL⟩ := (W.zret (Qc := fun _ _ o t => o = .returned (some (.int v)) ∧ t.heap = H) (free := fun q => z.heap.size ≤ q) F.x F.c (F.rt.trans hr) hn (fun t ht _ => ⟨rfl, ht⟩) hS.2.2 d F.lk) T hT X
  refine ⟨t, a1, ?_⟩
  rw [F.q]
  exact ⟨_, b1, b2, .inl (some (.int v)), L, rfl, by rw [h9]; exact hp, hF.2.1, hF.2.2.mono hk.1 hk.2, hL⟩
theorem yy_vret (F : yy_A l z b rm cc nL own ret hh Post) (hS : yy_S z H locs) (hk : k.1 ≤ rm.cells ∧ k.2 ≤ rm.slots) (hr : ret = none) (d : decode cc pc = .ok (.return_, 1)) (hp : Post (.inl none) H) : yy_Y b H locs k pc lv [] := by
  intro ls hl T hT X
  obtain ⟨t, a1, o, b1, b2, ⟨rfl, h9⟩, L, hF, hL⟩ := (W.vret (Qc := fun _ _ o t => o = .returned none ∧ t.heap = H) (free := fun q => z.heap.size ≤ q) F.x F.c (F.rt.trans hr) (fun t ht _ => ⟨rfl, ht⟩) hS.2.2 d F.lk) T hT X
  refine ⟨t, a1, ?_⟩
  rw [F.q]
  exact ⟨_, b1, b2, .inl none, L, rfl, by rw [h9]; exact hp, hF.2.1, hF.2.2.mono hk.1 hk.2, hL⟩
theorem yy_aret (F : yy_A l z b rm cc nL own ret hh Post) (hS : yy_S z H locs) (hk : k.1 ≤ rm.cells ∧ k.2 ≤ rm.slots) {v : Value} {nm : String} (hr : ret = some (.object nm)) (hv : v = .null ∨ ∃ a, v = .ref a) (d : decode cc pc = .ok (.areturn, 1)) (hp : Post (.inl (some v)) H) : yy_Y b H locs k pc lv [v] := by
  intro ls hl T hT X
  obtain ⟨t, a1, o, b1, b2, ⟨rfl, h9⟩, L, hF, hL⟩ := (W.aret (Qc := fun _ _ o t => o = .returned (some v) ∧ t.heap = H) (free := fun q => z.heap.size ≤ q) F.x F.c (F.rt.trans hr) (Or.inl ⟨nm, rfl⟩) hv (fun t ht _ => ⟨rfl, ht⟩) hS.2.2 d F.lk) T hT X
  refine ⟨t, a1, ?_⟩
  rw [F.q]
  exact ⟨_, b1, b2, .inl (some v), L, rfl, by rw [h9]; exact hp, hF.2.1, hF.2.2.mono hk.1 hk.2, hL⟩
/-- what is thrown leaves a method that has no handlers -/
theorem yy_out (F : yy_A l z b rm cc nL own ret [] Post) (hS : yy_S z H locs) (hk : k.1 ≤ rm.cells ∧ k.2 ≤ rm.slots) {E : String} {q : Addr} {ce : Cell} (hce : H[q]? = some ce) (hv : ce.vm = .none) (hcl : (yy_s b).vm.findClass E = some ce.cls) (hp : Post (.inr E) H) : yy_V b H locs k pc lv st q := by
  intro ls hl T hT X
  have hout : ∀ x ∈ (yy_c b).exceptionTable.toList, covers x pc = false := by
    rw [F.tb]
    intro x hx
    cases hx
  obtain ⟨st1, hrun, hend, hW, hsm⟩ := X.leaveThrown q (g := F0 (yy_m b) pc ls st) rfl rfl rfl hout F.lk
  refine ⟨_, st1, ?_⟩
  rw [F.q]
  refine ⟨.threw q, hrun, hend, .inr E, locs, ⟨q, ce, rfl, ?_, hv, hcl⟩, ?_, hW, hsm.mono hk.1 hk.2, hS.2.2⟩
  · show T.heap[q]? = some ce
    rw [hT]; exact hce
  · show Post (.inr E) T.heap
    rw [hT]; exact hp
/-- a body's walk gives its contract -/
theorem yy_body {y : MethodName} {bytes : ByteArray} {maxL : Nat} {av : List Value} {Pre : Heap → Prop} {PostM : yy_R → Heap → Heap → Prop} (hy : plainFor y = true) (hlen : (lg_sl av).length ≤ maxL)
    (body : ∀ (b : yy_T) (H : Heap), yy_A l z b rm bytes maxL y.cls ret [] (fun r H1 => PostM r H H1) → yy_S z H [] → Pre H → (yy_s b).heap = H → (∀ t : String, y.name = t → (yy_t b).name = t) → yy_Y b H [] (0, 0) 0 (lv_args 0 av) []) :
    yy_M l z y (.code y bytes maxL ret) rm av Pre PostM := by
  refine MetFree.of_bodySF (code := bytes) (maxLocals := maxL) (ret := ret) hy ?_ ?_
  · intro args s m h hn
    obtain ⟨meth, c, h1, h2, h3, h4, h5, h6, -, -⟩ := Cond.code_spec hn (atoms_spec (ws := [.code y bytes maxL ret]) h _ List.mem_cons_self)
    exact ⟨meth, c, h1, h2, h3, h4, h5, h6⟩
  · intro p e s m args below meth c s₁ B hml hP _
    obtain ⟨rfl, hN, hPre⟩ := hP
    have hh0 : s₁.heap = s.heap := by rw [B.state]; rfl
    have ht : c.exceptionTable.toList = tableOf [] := by
      obtain ⟨meth9, c9, h1, h2, -, -, -, -, h7, -⟩ := Cond.code_spec B.named (atoms_spec (ws := [.code y bytes maxL ret]) B.pre _ List.mem_cons_self)
      cases Option.some.inj (h1.symm.trans B.method)
      cases Option.some.inj (h2.symm.trans (Stand.of_body B).code)
      rw [Array.isEmpty_iff.mp h7]
      rfl
    have hl := lv_entry av (n := maxL) hlen
    have hnm : ∀ t : String, y.name = t → meth.name = t := fun t ht => ht ▸ (name_of_methodNamed B.named B.method).1
    have key := body (p, l, e, rm, s, m, av.toArray, below, meth, c, maxL, yy_Q z rm below (fun r H1 => PostM r s.heap H1) s) s.heap ⟨rfl, rfl, B.exec, B.bytes, hml, rfl, findClass_of_methodNamed B.named, hN, B.notSynchronized, B.returns, ht, rfl⟩ hN.S hPre rfl hnm _ hl
    obtain ⟨t, a1, o, b1, b2, b3⟩ := key s₁ hh0 (Stand.of_body B)
    refine ⟨t, o, ?_, b1, b2, b3⟩
    rw [lg_entry_eq]
    exact a1
/-- the same for a method with handlers -/
theorem yy_bodyW {y : MethodName} {bytes : ByteArray} {maxL : Nat} {av : List Value} {Pre : Heap → Prop} {PostM : yy_R → Heap → Heap → Prop} (hy : plainName y.cls = true) (hlen : (lg_sl av).length ≤ maxL)
    (body : ∀ (b : yy_T) (H : Heap), yy_A l z b rm bytes maxL y.cls ret hh (fun r H1 => PostM r H H1) → yy_S z H [] → Pre H → (yy_s b).heap = H → yy_Y b H [] (0, 0) 0 (lv_args 0 av) []) :
    yy_M l z y (.codeWith y bytes maxL ret hh) rm av Pre PostM := by
  refine MetFree.of_bodyS (code := bytes) (maxLocals := maxL) (ret := ret) hy ?_ ?_
  · intro args s m h hn
    obtain ⟨m9, meth, c, hn9, h1, h2, h3, h4, -, h5, h6, -⟩ := Cond.codeWith_spec (atoms_spec (ws := [.codeWith y bytes maxL ret hh]) h _ List.mem_cons_self)
    cases hn.symm.trans hn9
    exact ⟨meth, c, h1, h2, h3, h4, h5, h6⟩
  · intro p e s m args below meth c s₁ B hml hP _
    obtain ⟨rfl, hN, hPre⟩ := hP
    have hh0 : s₁.heap = s.heap := by rw [B.state]; rfl
    have ht : c.exceptionTable.toList = tableOf hh := by
      obtain ⟨m9, meth9, c9, hn9, h1, h2, -, -, h6, -⟩ := Cond.codeWith_spec (atoms_spec (ws := [.codeWith y bytes maxL ret hh]) B.pre _ List.mem_cons_self)
      cases Option.some.inj (hn9.symm.trans B.named)
      cases Option.some.inj (h1.symm.trans B.method)
      cases Option.some.inj (h2.symm.trans (Stand.of_body B).code)
      rw [← h6, table_eq]
    have hl := lv_entry av (n := maxL) hlen
    have key := body (p, l, e, rm, s, m, av.toArray, below, meth, c, maxL, yy_Q z rm below (fun r H1 => PostM r s.heap H1) s) s.heap ⟨rfl, rfl, B.exec, B.bytes, hml, rfl, findClass_of_methodNamed B.named, hN, B.notSynchronized, B.returns, ht, rfl⟩ hN.S hPre rfl _ hl
    obtain ⟨t, a1, o, b1, b2, b3⟩ := key s₁ hh0 (Stand.of_body B)
    refine ⟨t, o, ?_, b1, b2, b3⟩
    rw [lg_entry_eq]
    exact a1
end YOa
end YO
