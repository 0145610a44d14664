/-! PART throw: 'throw new E("text")' in a method that has written nothing, and handlers -/
section YT
section YTa
variable {l : Launch} {z : State} {b : yy_T} {rm : Room} {cc : ByteArray} {nL : Nat} {own : String} {ret : Option FieldType} {hh : List (Nat × Nat × Nat × Nat)} {Post : yy_R → Heap → Prop}
variable {H : Heap} {locs : List Loc} {k : Nat × Nat} {pc n : Nat} {lv lv' : List (Nat × Value)} {st : List Value}
variable {Ts : List Cond} {a0 : Array Value}
/-- nothing that was there has changed: nothing counts as written -/
theorem yy_clean (hH : (yy_s b).heap = H) (kk : yy_Y b H [] k pc lv st) : yy_Y b H locs k pc lv st := by
  intro ls hl T hT X
  refine kk ls hl T hT { X with same := ?_ }
  obtain ⟨e1, h2, h3, h4, h5, -⟩ := X.same
  refine ⟨e1, h2, h3, h4, h5, fun a c9 h9 => ⟨c9, ?_, rfl, rfl, fun _ _ => rfl⟩⟩
  show T.heap[a]? = some c9
  rw [hT, ← hH]
  exact h9
theorem yy_throwS (F : yy_A l z b rm cc nL own ret [] Post) (hC : ∀ w ∈ Ts, w.before a0 z = true) (hlt : l.stackTraces = false) {cls text : String} {names : List String} {ik is ic sa : Nat} (hcls : Bundle.fit cls = true) (hnames : ∀ n ∈ names, Bundle.fit n = true)
    (h1 : Cond.classLink own ik cls ∈ Ts) (h2 : Cond.initialized cls ∈ Ts) (hstr : vk_R own is text sa z) (hat : ∀ w ∈ Bundle.ownAtoms own ic cls names, w.before (yy_a b) (yy_s b) = true) (hH : (yy_s b).heap = H)
    (hR : names.length + 3 < rm.frames ∧ (st.map fun v => v.category).sum + (13 * (names.length + 1) + 43) ≤ rm.locals) (hk : k.1 + 1 ≤ rm.cells ∧ k.2 + 6 ≤ rm.slots)
    (d0 : decode cc pc = .ok (.new ik, 3)) (d3 : decode cc (pc + 3) = .ok (.dup, 1)) (d4 : decode cc (pc + 4) = .ok (.ldc is, 2)) (d6 : decode cc (pc + 6) = .ok (.invokespecial ic, 3)) (d9 : decode cc (pc + 9) = .ok (.athrow, 1))
    (hp : ∀ H1 : Heap, yy_ext H H1 → Post (.inr cls) H1) : yy_Y b H [] k pc lv st := by
  intro ls hl T hT X
  have htr : (yy_e b).platform.stackTraces = false := (show (yy_e b).platform.stackTraces = (yy_l b).stackTraces by rw [X.admits.platform]).trans (by rw [F.ll]; exact hlt)
  have hins : (Cond.instantiable cls 6).before (yy_a b) (yy_s b) = true := hat _ (by simp [Bundle.ownAtoms])
  obtain ⟨vm₁, cX, kX, hfX, hkX, -, -, X₁, st1⟩ := X.newCold F.x (own := own) (C := cls) (index := ik) (n := 6) F.ow (F.N.w hC h1 rfl) hins (F.N.w hC h2 rfl)
    (g := F0 (yy_m b) pc ls st) rfl (by rw [F.c]; exact d0) (by rw [F.r]; exact hk.1) (by rw [F.r]; exact hk.2)
  generalize hT1 : (T.setVm vm₁).pushCell { cls := cX, slots := kX.instanceTypes.map defaultValue, vm := .none } = T1 at X₁ st1
  have hcat : (Value.ref T.heap.size).category = 1 := rfl
  have hcellA : T1.heap[T.heap.size]? = some (freshCell cX kX) := by rw [← hT1]; exact State.heap_pushCell_size _ _
  have d3' : decode (yy_c b).code (pc + 3) = .ok (.dup, 1) := by rw [F.c]; exact d3
  have d4' : decode (yy_c b).code (pc + 4) = .ok (.ldc is, 2) := by rw [F.c]; exact d4
  have hstr' : vk_R own is text sa (yy_s b) := vk_R.warm F.N.1 hstr
  have hout : ∀ x ∈ (yy_c b).exceptionTable.toList, covers x (pc + 9) = false := by
    rw [F.tb]
    intro x hx
    cases hx
  have hsz : (yy_s b).heap.size ≤ T.heap.size := X.same.2.1
  obtain ⟨U, hsteps, hrun, hend, hW, hsame, ce, hce, hO⟩ := X₁.ctorThrowS F.x htr (own := own) (cls := cls) (names := names) (ic := ic) F.ow hcls hnames hat (fun x hx => nomatch hx) hfX hkX hcellA hsz (msg := .ref sa) rfl
    (g := { method := yy_m b, pc := pc + 6, locals := ls, stack := .ref sa :: .ref T.heap.size :: .ref T.heap.size :: st, locked := none }) rfl (by rw [F.ml, ← F.n]; exact hl.1) rfl rfl (rest := st) rfl
    (by rw [F.c]; exact d6) (by rw [F.c]; exact d9) hout (by rw [F.r]; exact hR.1) (by rw [F.r]; simp only [List.map_cons, List.sum_cons, hcat]; show 2 * 0 + _ + _ ≤ _; have := hR.2; omega) F.lk
  obtain ⟨f1, f2⟩ := yy_kept hsame
  refine ⟨U, ?_, ?_⟩
  · refine st1 _ ?_
    show Steps (yy_p b).tables (yy_e b) (yy_b b) (T1.setTop { method := yy_m b, pc := pc + 3, locals := ls, stack := .ref T.heap.size :: st, locked := none }) _
    have hx := F.x
    jvm_step X₁.here [X₁.here.top, hx, d3', Value.category]
    exact X₁.ldcString F.x (own := own) (text := text) (index := is) (a := sa) F.ow hstr'.1 hstr'.2
      (g := { method := yy_m b, pc := pc + 4, locals := ls, stack := .ref T.heap.size :: .ref T.heap.size :: st, locked := none }) rfl d4' _ hsteps
  · rw [F.q]
    refine ⟨.threw T.heap.size, hrun, hend, .inr cls, [], ⟨_, ce, rfl, hce, hO.vm, hO.cls⟩, ?_, hW, hsame.mono hk.1 hk.2, fun _ h => nomatch h⟩
    refine hp U.heap ?_
    rw [← hH]
    exact ⟨f1, fun q hq => f2 q hq (fun x hx => nomatch hx)⟩
end YTa
end YT
