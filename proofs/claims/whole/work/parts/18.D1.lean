/-! PART D1: calls that throw; texts of constants; a throw by a wide index -/
def yy_tx (E : String) : yy_R → Heap → Heap → Prop := fun r H H1 => r = .inr E ∧ yy_ext H H1
theorem yy_str {l : Launch} {z : State} {a0 : Array Value} {D : va_G} {ca : kca} (X : kcx l z a0 D ca) {own tx : String} {k : Nat} (hm : Cond.stringRef own k tx ∈ lw_tbl) (he : (Cond.exactly (.string own k) "java/lang/String").before a0 z = true) : ∃ sa : Nat, vk_R own k tx sa z := by
  obtain ⟨a2, c, cA, kA, q1, -⟩ := Cond.exactly_spec (args := a0) (first := z) (o := none) (s := z) (idx := []) (t := .string own k) (cls := "java/lang/String") he
  exact ⟨a2, vk_R.of (X.1 _ hm) q1⟩
section YD
variable {l : Launch} {z : State} {b : yy_T} {rm : Room} {cc : ByteArray} {nL : Nat} {own : String} {ret : Option FieldType} {hh : List (Nat × Nat × Nat × Nat)} {Post : yy_R → Heap → Prop}
variable {H : Heap} {locs : List Loc} {k : Nat × Nat} {pc n : Nat} {lv : List (Nat × Value)} {st st0 rest : List Value}
variable {y : MethodName} {cd : Cond} {rmY : Room} {av : List Value} {Pre : Heap → Prop} {maxL : Nat} {E : String}
theorem yy_ct (F : yy_A l z b rm cc nL own ret hh Post) (hS : yy_S z H locs) (hM : yy_M l z y cd rmY av Pre (yy_tx E)) (hB : yy_B (yy_s b) y cd maxL) (inv : yy_PB b H locs k y av pc st0 rest) {ig : Instr} (hdg : decode cc pc = .ok (ig, 3)) (hW8 : (rest.map fun v => v.category).sum ≤ 8)
    (hR : rmY.frames + 1 ≤ rm.frames ∧ 8 + (maxL + 11) + rmY.locals ≤ rm.locals) (hf : k.1 + rmY.cells ≤ rm.cells ∧ k.2 + rmY.slots ≤ rm.slots) (hP : Pre H)
    (kt : ∀ (q : Addr) (ce : Cell) (H1 : Heap) (locs1 : List Loc), yy_ext H H1 → yy_S z H1 locs1 → H1[q]? = some ce → ce.vm = .none → (yy_s b).vm.findClass E = some ce.cls → yy_V b H1 locs1 (k.1 + rmY.cells, k.2 + rmY.slots) pc lv rest q) :
    yy_Y b H locs k pc lv st0 :=
  yy_call F hS hM hB inv hdg rfl hW8 hR hf hP (fun v H1 locs1 h1 h2 => by
    obtain ⟨h, -⟩ := h1
    cases h) (fun E' q ce H1 locs1 h1 h2 h3 h4 h5 => by
    obtain ⟨h, hx⟩ := h1
    cases h
    exact kt q ce H1 locs1 hx h2 h3 h4 h5)
/-- .. and what it throws goes on to the caller -/
theorem yy_ctp (F : yy_A l z b rm cc nL own ret [] Post) (hS : yy_S z H locs) (hM : yy_M l z y cd rmY av Pre (yy_tx E)) (hB : yy_B (yy_s b) y cd maxL) (inv : yy_PB b H locs k y av pc st0 rest) {ig : Instr} (hdg : decode cc pc = .ok (ig, 3)) (hW8 : (rest.map fun v => v.category).sum ≤ 8)
    (hR : rmY.frames + 1 ≤ rm.frames ∧ 8 + (maxL + 11) + rmY.locals ≤ rm.locals) (hf : k.1 + rmY.cells ≤ rm.cells ∧ k.2 + rmY.slots ≤ rm.slots) (hP : Pre H) (hp : ∀ H1 : Heap, yy_ext H H1 → Post (.inr E) H1) : yy_Y b H locs k pc lv st0 :=
  yy_ct F hS hM hB inv hdg hW8 hR hf hP (fun q ce H1 locs1 hx h2 h3 h4 h5 => yy_out F h2 hf h3 h4 h5 (hp H1 hx))
theorem yy_throwSW {Ts : List Cond} {a0 : Array Value} (F : yy_A l z b rm cc nL own ret [] Post) (hC : ∀ w ∈ Ts, w.before a0 z = true) (hlt : l.stackTraces = false) {cls text : String} {names : List String} {ik is ic sa : Nat} (hcls : Bundle.fit cls = true) (hnames : ∀ n ∈ names, Bundle.fit n = true)
    (h1 : Cond.classLink own ik cls ∈ Ts) (h2 : Cond.initialized cls ∈ Ts) (hstr : vk_R own is text sa z) (hat : ∀ w ∈ Bundle.ownAtoms own ic cls names, w.before (yy_a b) (yy_s b) = true) (hH : (yy_s b).heap = H)
    (hR : names.length + 3 < rm.frames ∧ (st.map fun v => v.category).sum + (13 * (names.length + 1) + 43) ≤ rm.locals) (hk : k.1 + 1 ≤ rm.cells ∧ k.2 + 6 ≤ rm.slots)
    (d0 : decode cc pc = .ok (.new ik, 3)) (d3 : decode cc (pc + 3) = .ok (.dup, 1)) (d4 : decode cc (pc + 4) = .ok (.ldc_w is, 3)) (d6 : decode cc (pc + 7) = .ok (.invokespecial ic, 3)) (d9 : decode cc (pc + 10) = .ok (.athrow, 1))
    (hp : ∀ H1 : Heap, yy_ext H H1 → Post (.inr cls) H1) : yy_Y b H [] k pc lv st := by
  intro ls hl T hT X
  have htr : (yy_e b).platform.stackTraces = false := (show (yy_e b).platform.stackTraces = (yy_l b).stackTraces by rw [X.admits.platform]).trans (by rw [F.ll]; exact hlt)
  have hins : (Cond.instantiable cls 6).before (yy_a b) (yy_s b) = true := hat _ (by simp [Bundle.ownAtoms])
  obtain ⟨vm₁, cX, kX, hfX, hkX, -, -, X₁, st1⟩ := X.newCold F.x (own := own) (C := cls) (index := ik) (n := 6) F.ow (F.N.w hC h1 rfl) hins (F.N.w hC h2 rfl)
    (g := F0 (yy_m b) pc ls st) rfl (by rw [F.c]; exact d0) (by rw [F.r]; exact hk.1) (by rw [F.r]; exact hk.2)
  generalize hT1 : (T.setVm vm₁).pushCell { cls := cX, slots := kX.instanceTypes.map defaultValue, vm := .none } = T1 at X₁ st1
  have hcat : (Value.ref T.heap.size).category = 1 := rfl
  have hcellA : T1.heap[T.heap.size]? = some (freshCell cX kX) := by rw [← hT1]; exact State.heap_pushCell_size _ _
  have d3' : decode (yy_c b).code (pc + 3) = .ok (.dup, 1) := by rw [F.c]; exact d3
  have d4' : decode (yy_c b).code (pc + 4) = .ok (.ldc_w is, 3) := by rw [F.c]; exact d4
  have hstr' : vk_R own is text sa (yy_s b) := vk_R.warm F.N.1 hstr
  have hout : ∀ x ∈ (yy_c b).exceptionTable.toList, covers x (pc + 10) = false := by
    rw [F.tb]
    intro x hx
    cases hx
  have hsz : (yy_s b).heap.size ≤ T.heap.size := X.same.2.1
  obtain ⟨U, hsteps, hrun, hend, hW, hsame, ce, hce, hO⟩ := X₁.ctorThrowS F.x htr (own := own) (cls := cls) (names := names) (ic := ic) F.ow hcls hnames hat (fun x hx => nomatch hx) hfX hkX hcellA hsz (msg := .ref sa) rfl
    (g := { method := yy_m b, pc := pc + 7, locals := ls, stack := .ref sa :: .ref T.heap.size :: .ref T.heap.size :: st, locked := none }) rfl (by rw [F.ml, ← F.n]; exact hl.1) rfl rfl (rest := st) rfl
    (by rw [F.c]; exact d6) (by rw [F.c]; exact d9) hout (by rw [F.r]; exact hR.1) (by rw [F.r]; simp only [List.map_cons, List.sum_cons, hcat]; show 2 * 0 + _ + _ ≤ _; have := hR.2; omega) F.lk
  obtain ⟨f1, f2⟩ := yy_kept hsame
  refine ⟨U, ?_, ?_⟩
  · refine st1 _ ?_
    show Steps (yy_p b).tables (yy_e b) (yy_b b) (T1.setTop { method := yy_m b, pc := pc + 3, locals := ls, stack := .ref T.heap.size :: st, locked := none }) _
    have hx := F.x
    jvm_step X₁.here [X₁.here.top, hx, d3', Value.category]
    exact X₁.ldcStringW F.x (own := own) (text := text) (index := is) (a := sa) F.ow hstr'.1 hstr'.2
      (g := { method := yy_m b, pc := pc + 4, locals := ls, stack := .ref T.heap.size :: .ref T.heap.size :: st, locked := none }) rfl d4' _ hsteps
  · rw [F.q]
    refine ⟨.threw T.heap.size, hrun, hend, .inr cls, [], ⟨_, ce, rfl, hce, hO.vm, hO.cls⟩, ?_, hW, hsame.mono hk.1 hk.2, fun _ h => nomatch h⟩
    refine hp U.heap ?_
    rw [← hH]
    exact ⟨f1, fun q hq => f2 q hq (fun x hx => nomatch hx)⟩
end YD
