/-! PART base: contracts that return or throw, seen from one start z (the law's entry): later tables are warmer than z's, later heaps keep z's cells; what is written lies behind z's heap -/
section YB
def yy_N (z U : State) : Prop := z.WarmedH U.vm ∧ z.heap.size ≤ U.heap.size ∧ ∀ q : Nat, q < z.heap.size → U.heap[q]? = z.heap[q]?
def yy_S (z : State) (H : Heap) (locs : List Loc) : Prop := z.heap.size ≤ H.size ∧ (∀ q : Nat, q < z.heap.size → H[q]? = z.heap[q]?) ∧ ∀ q ∈ locs, z.heap.size ≤ q.base
/-- an outcome: a value, or the name of what is thrown -/
abbrev yy_R : Type := Option Value ⊕ String
def yy_o (st : State) (o : Outcome) (t : State) (r : yy_R) : Prop := match r with
  | .inl v => o = .returned v
  | .inr E => ∃ (q : Addr) (ce : Cell), o = .threw q ∧ t.heap[q]? = some ce ∧ ce.vm = .none ∧ st.vm.findClass E = some ce.cls
def yy_E (z : State) (mc ms : Nat) (Post : yy_R → Heap → Heap → Prop) (s : State) (o : Outcome) (t : State) : Prop :=
  ∃ (r : yy_R) (L : List Loc), yy_o s o t r ∧ Post r s.heap t.heap ∧ s.WarmedH t.vm ∧ s.sameButNew ({ t with vm := s.vm } : State) L mc ms ∧ ∀ q ∈ L, z.heap.size ≤ q.base
/-- method y's contract: its code word alone is asked, all other words come from z -/
def yy_M (l : Launch) (z : State) (y : MethodName) (cd : Cond) (rm : Room) (av : List Value) (Pre : Heap → Prop) (Post : yy_R → Heap → Heap → Prop) : Prop :=
  MetFree l y (headSpec [cd] rm) (fun a s => a = av.toArray ∧ yy_N z s ∧ Pre s.heap) (fun _ _ _ _ _ => True) (fun _ s o t => yy_E z rm.cells rm.slots Post s o t)
theorem yy_N.w {z s : State} {Ts : List Cond} {a0 args : Array Value} (hC : ∀ w ∈ Ts, w.before a0 z = true) (hN : yy_N z s) {w : Cond} (hm : w ∈ Ts) (hg : goodWord w = true) : w.before args s = true := word_at hN.1 (good_of_word hg) (hC w hm)
theorem yy_N.S {z s : State} (hN : yy_N z s) : yy_S z s.heap [] := ⟨hN.2.1, hN.2.2, fun _ h => nomatch h⟩
theorem yy_N.of {z s T : State} {locs : List Loc} (hN : yy_N z s) (hW : s.WarmedH T.vm) (hS : yy_S z T.heap locs) : yy_N z T := ⟨State.WarmedH.trans hN.1 hW, hS.1, hS.2.1⟩
theorem yy_kept {s U : State} {L : List Loc} {k n : Nat} (h : s.sameButNew ({ U with vm := s.vm } : State) L k n) : s.heap.size ≤ U.heap.size ∧ ∀ q : Nat, q < s.heap.size → (∀ x ∈ L, x.base ≠ q) → U.heap[q]? = s.heap[q]? := by
  obtain ⟨-, h2, -, -, -, h6⟩ := h
  refine ⟨h2, fun q hq hz => ?_⟩
  obtain ⟨c9, e1, e2, e3, e4⟩ := h6 q _ (Array.getElem?_eq_getElem hq)
  have hs : c9.slots = (s.heap[q]).slots := Array.ext_getElem? fun i => e4 i fun hm => hz _ hm rfl
  have h9 : c9 = s.heap[q] := by
    rw [hs] at e2
    exact e2
  have e5 : U.heap[q]? = some c9 := e1
  rw [e5, h9, Array.getElem?_eq_getElem hq]
section Inv
variable {l : Launch} {z : State} {y : MethodName} {cd : Cond} {rm : Room} {av : List Value} {Pre : Heap → Prop} {Post : yy_R → Heap → Heap → Prop}
variable {p : Program} {e : Env} {R : Room} {s : State} {m : MethodId} {args : Array Value} {below : List Frame} {meth : Method} {c : Code}
/-- a call of a method with such a contract, from where its frame is pushed -/
theorem yy_inv (hM : yy_M l z y cd rm av Pre Post) {U : State} {Ls : List Loc} {c0 s0 : Nat} (X : Stand p l e R s m args below meth c U Ls c0 s0) {g : JFrame} {ig : Instr} {mk : MethodId} {len maxL : Nat}
    (hg : g.method = m) (hsize : g.locals.size = c.maxLocals) (hdg : decode c.code g.pc = .ok (ig, len)) (hW8 : 2 * g.monitorRoom + (g.stack.map fun v => v.category).sum ≤ 8) (hn : U.methodNamed? y = some mk)
    (hcd : cd.before av.toArray U = true) (hml : ∃ (methY : Method) (cY : Code), U.vm.method? mk = some methY ∧ methY.code = some cY ∧ cY.maxLocals = maxL) (hini : (Cond.initialized y.cls).before av.toArray U = true)
    (hfr : rm.frames + 1 ≤ R.frames) (hlo : 8 + (maxL + 11) + rm.locals ≤ R.locals) (hc : c0 + rm.cells ≤ R.cells) (hs : s0 + rm.slots ≤ R.slots) (hN : yy_N z U) (hP : Pre U.heap) :
    ∃ (r : yy_R) (B : State) (L : List Loc), Stand p l e R s m args below meth c B (Ls ++ L) (c0 + rm.cells) (s0 + rm.slots) ∧ (∀ q ∈ L, z.heap.size ≤ q.base) ∧ Post r U.heap B.heap ∧ B.heap.size = B.heap.size ∧ yy_S z B.heap L ∧
      (match r with
        | .inl v => Steps p.tables e below (doInvoke e (U.setTop g) [] mk av.toArray).1 (B.setTop { g with pc := g.pc + len, stack := v.toList ++ g.stack })
        | .inr E => ∃ (q : Addr) (ce : Cell), B.heap[q]? = some ce ∧ ce.vm = .none ∧ U.vm.findClass E = some ce.cls ∧ Steps p.tables e below (doInvoke e (U.setTop g) [] mk av.toArray).1 ((B.setTop g).pushFrame (.throwing q))) := by
  have hA : At U g.method c below := by rw [hg]; exact X.here
  obtain ⟨methY, cY, hmY, hcY, hlY⟩ := hml
  obtain ⟨kY, hkY, -⟩ := className_of_methodNamed hn
  have hiY : kY.init = .initialized := Cond.initialized_spec (findClass_of_methodNamed hn) hkY hini
  have hpre : (headSpec [cd] rm).pre.before av.toArray U = true := atoms_intro fun w hw => by rw [List.mem_singleton.mp hw]; exact hcd
  have hlo9 : 8 + (maxL + 11) + (headSpec [cd] rm).room.locals ≤ R.locals := hlo
  have happ : (headSpec [cd] rm).appliesLoose y e.platform (U.calling g mk av.toArray) = true :=
    Spec.appliesLoose_calling (g := g) hA hdg hn hkY hiY (X.room_calling (g := g) (R' := (headSpec [cd] rm).room) hsize hmY hcY hfr (by rw [hlY]; omega) hc hs) hpre
  obtain ⟨mid, hmid⟩ := hA.above
  have hfr9 : (U.setTop g).frames = (.java g :: mid) ++ below := by rw [State.frames_setTop' g hA.top, hmid]; rfl
  obtain ⟨o, t, hst, -, hend, hq⟩ := Steps.callFree hM p X.admits X.cas X.clock (acts := []) hfr9 happ ⟨rfl, hN, hP⟩ trivial
  have hq9 : yy_E z rm.cells rm.slots Post (U.calling g mk av.toArray) o t := hq
  rw [State.frames_setTop' g hA.top] at hend
  obtain ⟨g₀, hg0⟩ := Option.isSome_iff_exists.mp hA.top
  obtain ⟨r0, hr0⟩ := State.topJava?_eq_some.mp hg0
  obtain ⟨r, L, ho, hpost, hW, hsm, hL⟩ := hq9
  obtain ⟨e2, q2, q3, q4, q5, q6⟩ := id hsm
  have e3 : t = ({ (U.calling g mk av.toArray).setFrames t.frames with heap := t.heap, slotsUsed := t.slotsUsed } : State).setVm t.vm := by
    have h9 : t = ({ t with vm := (U.calling g mk av.toArray).vm } : State).setVm t.vm := rfl
    rw [e2] at h9
    exact h9
  have hW9 : U.WarmedH t.vm := hW
  have hB : (({ U with heap := t.heap, slotsUsed := t.slotsUsed } : State).setVm t.vm).frames = .java g₀ :: r0 := hr0
  have hsame : U.sameButNew ({ U with heap := t.heap, slotsUsed := t.slotsUsed } : State) L rm.cells rm.slots := by
    refine ⟨?_, q2, q3, q4, q5, q6⟩
    obtain ⟨u, hu, -⟩ := State.frames_cons hr0
    show ({ U with heap := t.heap, slotsUsed := t.slotsUsed } : State) = { U.setFrames U.frames with heap := t.heap, slotsUsed := t.slotsUsed }
    rw [State.setFrames_self hu]
  have hk : U.heap.size ≤ t.heap.size ∧ ∀ q : Nat, q < U.heap.size → (∀ x ∈ L, x.base ≠ q) → t.heap[q]? = U.heap[q]? := yy_kept (s := U.calling g mk av.toArray) (U := t) hsm
  have hS : yy_S z t.heap L := ⟨Nat.le_trans hN.2.1 hk.1, fun q h => (hk.2 q (Nat.lt_of_lt_of_le h hN.2.1) (fun x hx hh => Nat.not_le.mpr h (hh ▸ hL x hx))).trans (hN.2.2 q h), hL⟩
  have XB : Stand p l e R s m args below meth c (({ U with heap := t.heap, slotsUsed := t.slotsUsed } : State).setVm t.vm) (Ls ++ L) (c0 + rm.cells) (s0 + rm.slots) :=
    ⟨X.admits, X.cas, X.clock, X.frames, X.room, X.hears, X.method, X.code, (X.here.setHeapUsed t.heap t.slotsUsed).setVm hW9.alike, X.tail, State.WarmedH.trans X.warmed hW9, X.limits, X.bytes, X.same.trans (hsame.setVm s.vm)⟩
  refine ⟨r, _, L, XB, hL, hpost, rfl, hS, ?_⟩
  cases r with
  | inl v =>
    have ho9 : o = .returned v := ho
    subst ho9
    obtain ⟨c₂, i₂, len₂, hc₂, hd₂, hf₂⟩ := hend
    have hcc : c₂ = c := by
      have h1 : t.code? g.method = U.code? g.method := by
        rw [State.code?_eq, State.code?_eq, hW9.alike.method?]
      exact Option.some.inj (hc₂.symm.trans (h1.trans hA.code))
    subst hcc
    have hlen : len₂ = len := by rw [hdg] at hd₂; cases hd₂; rfl
    subst hlen
    have ht : t = (({ U with heap := t.heap, slotsUsed := t.slotsUsed } : State).setVm t.vm).setTop { g with pc := g.pc + len₂, stack := v.toList ++ g.stack } := by
      refine e3.trans ?_
      rw [hf₂, State.calling_eq hA.top, State.setFrames_setFrames, State.setTop_of_frames _ hB, hr0]
      rfl
    show Steps p.tables e below _ ((({ U with heap := t.heap, slotsUsed := t.slotsUsed } : State).setVm t.vm).setTop { g with pc := g.pc + len₂, stack := v.toList ++ g.stack })
    rw [← ht]
    exact hst
  | inr E =>
    obtain ⟨q, ce, ho9, hce, hcv, hcl⟩ := ho
    subst ho9
    have hf₂ : t.frames = .throwing q :: .java g :: U.frames.tail := hend
    have ht : t = ((({ U with heap := t.heap, slotsUsed := t.slotsUsed } : State).setVm t.vm).setTop g).pushFrame (.throwing q) := by
      refine e3.trans ?_
      rw [hf₂, State.calling_eq hA.top, State.setFrames_setFrames, State.pushFrame, State.frames_setTop _ hB, State.setTop_of_frames _ hB, State.setFrames_setFrames, hr0]
      rfl
    refine ⟨q, ce, hce, hcv, hcl, ?_⟩
    show Steps p.tables e below _ (((({ U with heap := t.heap, slotsUsed := t.slotsUsed } : State).setVm t.vm).setTop g).pushFrame (.throwing q))
    rw [← ht]
    exact hst
end Inv
/-- the frame g, with q thrown over it -/
def yy_X (p : Program) (l : Launch) (e : Env) (R : Room) (s : State) (m : MethodId) (args : Array Value) (below : List Frame) (meth : Method) (c : Code) (H : Heap) (locs : List Loc) (cells slots : Nat) (Q : State → Prop) (g : JFrame) (q : Addr) : Prop :=
  ∀ T : State, T.heap = H → Stand p l e R s m args below meth c T locs cells slots → ∃ t, Steps p.tables e below ((T.setTop g).pushFrame (.throwing q)) t ∧ Q t
section Go
variable {l : Launch} {z : State} {y : MethodName} {cd : Cond} {rm : Room} {av : List Value} {Pre : Heap → Prop} {Post : yy_R → Heap → Heap → Prop}
variable {p : Program} {e : Env} {R : Room} {s : State} {m : MethodId} {args : Array Value} {below : List Frame} {meth : Method} {c : Code} {H : Heap} {locs : List Loc} {cells slots : Nat} {Q : State → Prop}
variable {cc : ByteArray} {nL pc maxL index : Nat} {ls : Array Slot} {rest st0 : List Value} {own : String}
/-- what the method's frame stands on -/
abbrev yy_F (z : State) (p : Program) (s : State) (m : MethodId) (meth : Method) (c : Code) (cc : ByteArray) (nL : Nat) (own : String) (ret : Option FieldType) : Prop :=
  p.tables.exec = Jvm.exec ∧ c.code = cc ∧ c.maxLocals = nL ∧ s.vm.findClass own = some m.cls ∧ yy_N z s ∧ meth.locks = false ∧ meth.sig.returnType = ret
/-- a callee's own words, at the caller's start -/
abbrev yy_B (s : State) (y : MethodName) (cd : Cond) (maxL : Nat) : Prop :=
  (∀ (a' : Array Value) (U : State), s.WarmedH U.vm → cd.before a' U = true) ∧ (∀ (a' : Array Value) (U : State), s.WarmedH U.vm → (Cond.initialized y.cls).before a' U = true) ∧
  (∀ (U : State) (mk : MethodId), s.WarmedH U.vm → U.methodNamed? y = some mk → ∃ (methY : Method) (cY : Code), U.vm.method? mk = some methY ∧ methY.code = some cY ∧ cY.maxLocals = maxL)
theorem yy_B.code {bytes : ByteArray} {ret : Option FieldType} {a : Array Value} (h : (Cond.code y bytes maxL ret).before a s = true) (hi : (Cond.initialized y.cls).before a s = true) (hg : goodWord (Cond.code y bytes maxL ret) = true) : yy_B s y (.code y bytes maxL ret) maxL := by
  have h1 : ∀ (a' : Array Value) (U : State), s.WarmedH U.vm → (Cond.code y bytes maxL ret).before a' U = true := fun a' U hW => word_at hW (good_of_word hg) h
  refine ⟨h1, fun a' U hW => word_at hW (Or.inl (by first | rfl | simp [Cond.onTables, Cond.keeps, Cond.steady])) hi, fun U mk hW hn => ?_⟩
  obtain ⟨methY, cY, q1, q2, -, q4, -⟩ := Cond.code_spec hn (h1 #[] U hW)
  exact ⟨methY, cY, q1, q2, q4⟩
theorem yy_B.codeW {bytes : ByteArray} {ret : Option FieldType} {hh : List (Nat × Nat × Nat × Nat)} {a : Array Value} (h : (Cond.codeWith y bytes maxL ret hh).before a s = true) (hi : (Cond.initialized y.cls).before a s = true) (hg : goodWord (Cond.codeWith y bytes maxL ret hh) = true) : yy_B s y (.codeWith y bytes maxL ret hh) maxL := by
  have h1 : ∀ (a' : Array Value) (U : State), s.WarmedH U.vm → (Cond.codeWith y bytes maxL ret hh).before a' U = true := fun a' U hW => word_at hW (good_of_word hg) h
  refine ⟨h1, fun a' U hW => word_at hW (Or.inl (by first | rfl | simp [Cond.onTables, Cond.keeps, Cond.steady])) hi, fun U mk hW hn => ?_⟩
  obtain ⟨m9, methY, cY, hn9, q1, q2, -, q4, -⟩ := Cond.codeWith_spec (h1 #[] U hW)
  cases hn.symm.trans hn9
  exact ⟨methY, cY, q1, q2, q4⟩
/-- the step that pushes the callee's frame, whatever kind of call it is -/
abbrev yy_P (p : Program) (l : Launch) (e : Env) (R : Room) (s : State) (m : MethodId) (args : Array Value) (below : List Frame) (meth : Method) (c : Code) (H : Heap) (locs : List Loc) (cells slots : Nat) (y : MethodName) (av : List Value) (g g2 : JFrame) : Prop :=
  ∀ T : State, T.heap = H → Stand p l e R s m args below meth c T locs cells slots → ∃ (vm₁ : Vm) (mk : MethodId), Stand p l e R s m args below meth c (T.setVm vm₁) locs cells slots ∧ (T.setVm vm₁).methodNamed? y = some mk ∧
    ∀ target, Steps p.tables e below (doInvoke e ((T.setVm vm₁).setTop g2) [] mk av.toArray).1 target → Steps p.tables e below (T.setTop g) target
theorem yy_go (hN : yy_N z s) (hS : yy_S z H locs) (hM : yy_M l z y cd rm av Pre Post) (hB : yy_B s y cd maxL) (inv : yy_P p l e R s m args below meth c H locs cells slots y av (F0 m pc ls st0) (F0 m pc ls rest))
    {ig : Instr} (hdg : decode c.code pc = .ok (ig, 3)) (hsize : ls.size = c.maxLocals) (hW8 : (rest.map fun v => v.category).sum ≤ 8)
    (hR : rm.frames + 1 ≤ R.frames ∧ 8 + (maxL + 11) + rm.locals ≤ R.locals) (hf : cells + rm.cells ≤ R.cells ∧ slots + rm.slots ≤ R.slots) (hP : Pre H)
    (kr : ∀ (v : Option Value) (H1 : Heap) (locs1 : List Loc), Post (.inl v) H H1 → yy_S z H1 locs1 → W p l e R s m args below meth c H1 locs1 (cells + rm.cells) (slots + rm.slots) Q (F0 m (pc + 3) ls (v.toList ++ rest)))
    (kt : ∀ (E : String) (q : Addr) (ce : Cell) (H1 : Heap) (locs1 : List Loc), Post (.inr E) H H1 → yy_S z H1 locs1 → H1[q]? = some ce → ce.vm = .none → s.vm.findClass E = some ce.cls → yy_X p l e R s m args below meth c H1 locs1 (cells + rm.cells) (slots + rm.slots) Q (F0 m pc ls rest) q) :
    W p l e R s m args below meth c H locs cells slots Q (F0 m pc ls st0) := by
  intro T hT X
  obtain ⟨vm₁, mk, X₁, hn, hst⟩ := inv T hT X
  have hh : (T.setVm vm₁).heap = H := hT
  have hN1 : yy_N z (T.setVm vm₁) := hN.of X₁.warmed (locs := locs) (by rw [hh]; exact hS)
  obtain ⟨r, B, L, XB, hL, hpost, -, hSB, hgo⟩ := yy_inv hM X₁ (g := F0 m pc ls rest) (maxL := maxL) rfl hsize hdg (by show 2 * 0 + (rest.map fun v => v.category).sum ≤ 8; omega) hn (hB.1 _ _ X₁.warmed) (hB.2.2 _ _ X₁.warmed hn) (hB.2.1 _ _ X₁.warmed) hR.1 hR.2 hf.1 hf.2 hN1 (by rw [hh]; exact hP)
  rw [hh] at hpost
  have hS1 : yy_S z B.heap (locs ++ L) := ⟨hSB.1, hSB.2.1, fun q hq => by
    rcases List.mem_append.mp hq with h | h
    · exact hS.2.2 q h
    · exact hL q h⟩
  cases r with
  | inl v =>
    obtain ⟨t, a1, b1⟩ := kr v B.heap (locs ++ L) hpost hS1 B rfl XB
    exact ⟨t, hst t (Steps.trans hgo a1), b1⟩
  | inr E =>
    obtain ⟨q, ce, hce, hcv, hcl, hgo⟩ := hgo
    have hcl9 : s.vm.findClass E = some ce.cls := by
      have h1 : vm₁.findClass E = some ce.cls := hcl
      have h2 : s.WarmedH vm₁ := X₁.warmed
      rw [h2.alike.findClass] at h1
      exact h1
    obtain ⟨t, a1, b1⟩ := kt E q ce B.heap (locs ++ L) hpost hS1 hce hcv hcl9 B rfl XB
    exact ⟨t, hst t (Steps.trans hgo a1), b1⟩
/-- invokestatic -/
theorem yy_PS (hx : p.tables.exec = Jvm.exec) (hown : s.vm.findClass own = some m.cls) (hlink : (Cond.methodLink own index y).before args s = true) (hstat : (Cond.static y).before args s = true) (hini : (Cond.initialized y.cls).before args s = true)
    (hsig : ∀ mk, s.methodNamed? y = some mk → ∃ methY : Method, s.vm.method? mk = some methY ∧ parseMethodDescriptor y.desc = some methY.sig) (hnm : ∃ mk, s.methodNamed? y = some mk) (hy : y.cls ≠ "java/lang/invoke/MethodHandle" ∧ y.cls ≠ "java/lang/invoke/VarHandle")
    {n : Nat} (hlen : (parseMethodDescriptor y.desc).map (fun d => d.parameters.length) = some n) (hn : av.length = n) (hst0 : st0 = av.reverse ++ rest) (hdg : decode c.code pc = .ok (.invokestatic index, 3)) :
    yy_P p l e R s m args below meth c H locs cells slots y av (F0 m pc ls st0) (F0 m pc ls rest) := by
  intro T hT X
  obtain ⟨mk, hnamed⟩ := hnm
  obtain ⟨methM, hmethM, hsigM⟩ := hsig mk hnamed
  have hstatic : methM.isStatic = true := Cond.static_spec hnamed hmethM hstat
  obtain ⟨kP, hkP, -⟩ := className_of_methodNamed hnamed
  have hinitP : kP.init = .initialized := Cond.initialized_spec (findClass_of_methodNamed hnamed) hkP hini
  obtain ⟨vm₁, X₁, hstep₁⟩ := X.invokestatic hx hown hlink hnamed hmethM hstatic hkP hinitP hy (g := F0 m pc ls st0) rfl (argsL := av) (rest := rest) (by rw [hsigM] at hlen; rw [hn]; exact (Option.some.inj hlen).symm) hst0 hdg
  exact ⟨vm₁, mk, X₁, X₁.named hnamed, fun target h => hstep₁ _ fun acts => by rw [doInvoke_state]; exact h⟩
end Go
end YB
