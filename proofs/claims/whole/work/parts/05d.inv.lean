/-! PART inv: the kinds of calls, their words by membership in the table -/
section YI
/-- words that are not 'good' by their form, but stay true as tables warm -/
theorem yy_N.nestM {z s : State} {Ts : List Cond} {a0 args : Array Value} (hC : ∀ w ∈ Ts, w.before a0 z = true) (hN : yy_N z s) {o : String} {i : Nat} {y : MethodName} {h : String} (hm : Cond.methodLinkNest o i y h ∈ Ts) : (Cond.methodLinkNest o i y h).before args s = true := va_Nw.use rfl (va_Nw.warmM hN.1 (va_Nw.of rfl (hC _ hm)))
theorem yy_N.cast {z s : State} {Ts : List Cond} {a0 args : Array Value} (hC : ∀ w ∈ Ts, w.before a0 z = true) (hN : yy_N z s) {c t : String} (hm : Cond.castable c t ∈ Ts) : (Cond.castable c t).before args s = true := va_Nw.use rfl (va_Nw.warmC hN.1 (va_Nw.of rfl (hC _ hm)))
theorem yy_N.decl {z s : State} {Ts : List Cond} {a0 : Array Value} (hC : ∀ w ∈ Ts, w.before a0 z = true) (hN : yy_N z s) {x : MethodName} (hm : Cond.declares x ∈ Ts) : va_Decl s x := va_Decl.abs (va_Nw.warmD hN.1 (va_Nw.of rfl (hC _ hm)))
/-- an object's class, as a receiver needs it -/
theorem yy_recv {z s : State} {D : va_G} {cl : List vw_C} {tys : List (ClassId × FieldType)} {a ci : Nat} {fs : List Value} {H : Heap} (hN : yy_N z s) (hK : va_K D cl tys z) {q : vw_C} (hc : cl[ci]? = some q) (O : va_at D cl (a, .inr (ci, fs)) H) : ∃ cell : Cell, H[a]? = some cell ∧ cell.vm.isStatics = false ∧ s.vm.findClass q.1 = some cell.cls :=
  va_recv (hK.moved hN.1.alike) (yy_P1 O) hc (q0 := 0) rfl
section YIa
variable {l : Launch} {z : State} {b : yy_T} {rm : Room} {cc : ByteArray} {nL : Nat} {own : String} {ret : Option FieldType} {hh : List (Nat × Nat × Nat × Nat)} {Post : yy_R → Heap → Prop}
variable {H : Heap} {locs : List Loc} {k : Nat × Nat} {pc : Nat} {rest : List Value} {Ts : List Cond} {a0 : Array Value}
variable {x y : MethodName} {av : List Value} {bytes : ByteArray} {retY : Option FieldType} {maxL idx nA a : Nat} {C owner : String}
theorem yy_Bc (F : yy_A l z b rm cc nL own ret hh Post) (hC : ∀ w ∈ Ts, w.before a0 z = true) (hc : Cond.code y bytes maxL retY ∈ Ts) (hi : Cond.initialized y.cls ∈ Ts) : yy_B (yy_s b) y (.code y bytes maxL retY) maxL :=
  yy_B.code (a := a0) (F.N.w hC hc rfl) (F.N.w hC hi rfl) rfl
theorem yy_invS (F : yy_A l z b rm cc nL own ret hh Post) (hC : ∀ w ∈ Ts, w.before a0 z = true) (hl : Cond.methodLink own idx y ∈ Ts) (hs : Cond.static y ∈ Ts) (hi : Cond.initialized y.cls ∈ Ts) (hc : Cond.code y bytes maxL retY ∈ Ts)
    (hy : y.cls ≠ "java/lang/invoke/MethodHandle" ∧ y.cls ≠ "java/lang/invoke/VarHandle" ∧ (parseMethodDescriptor y.desc).map (fun d => d.parameters.length) = some nA) (hn : av.length = nA) (d : decode cc pc = .ok (.invokestatic idx, 3)) :
    yy_PB b H locs k y av pc (av.reverse ++ rest) rest := by
  intro ls
  have hcode : (Cond.code y bytes maxL retY).before (yy_a b) (yy_s b) = true := F.N.w hC hc rfl
  refine yy_PS F.x F.ow (F.N.w hC hl rfl) (F.N.w hC hs rfl) (F.N.w hC hi rfl) (fun mk hnm => ?_) (Cond.code_named hcode) ⟨hy.1, hy.2.1⟩ hy.2.2 hn rfl (by rw [F.c]; exact d)
  obtain ⟨methM, cM, h1, -, -, -, -, -, -, h9⟩ := Cond.code_spec hnm hcode
  exact ⟨methM, h1, h9⟩
theorem yy_invV (F : yy_A l z b rm cc nL own ret hh Post) (hC : ∀ w ∈ Ts, w.before a0 z = true) (hl : Cond.methodLink own idx y ∈ Ts) (hin : Cond.instanceMethod y ∈ Ts) (hse : Cond.selects C y y ∈ Ts) (hc : Cond.code y bytes maxL retY ∈ Ts)
    (hy : y.cls ≠ "java/lang/invoke/MethodHandle" ∧ y.cls ≠ "java/lang/invoke/VarHandle" ∧ (parseMethodDescriptor y.desc).map (fun d => d.parameters.length) = some nA) (hr : ∃ cell : Cell, H[a]? = some cell ∧ cell.vm.isStatics = false ∧ (yy_s b).vm.findClass C = some cell.cls) (hn : av.length = nA) (d : decode cc pc = .ok (.invokevirtual idx, 3)) :
    yy_PB b H locs k y (.ref a :: av) pc (av.reverse ++ .ref a :: rest) rest := by
  intro ls T hT X
  have hcode : (Cond.code y bytes maxL retY).before (yy_a b) (yy_s b) = true := F.N.w hC hc rfl
  obtain ⟨cellB, hcB, hobj, hcls⟩ := hr
  obtain ⟨mk, methM, hnamed, hmethM, hstM, habM⟩ := Cond.instanceMethod_spec (F.N.w (args := yy_a b) hC hin rfl)
  obtain ⟨methM', cM, hmethM', -, -, -, -, -, -, hsigM⟩ := Cond.code_spec hnamed hcode
  cases hmethM.symm.trans hmethM'
  obtain ⟨c2, r2, m2, q1, q2, q3, q4, kP, hkP, hkPi⟩ := Cond.selects_spec (F.N.w (args := yy_a b) hC hse rfl)
  cases hcls.symm.trans q1
  cases (State.methodFound?_of_named hnamed ⟨hy.1, hy.2.1⟩).symm.trans q2
  cases hnamed.symm.trans q3
  have hselP : selectMethod (yy_e b).platform (yy_s b).vm cellB.cls mk = .method mk := by rw [Launch.admits_selectMethod X.admits]; exact q4
  obtain ⟨vm₁, X₁, hstep₁⟩ := X.invokevirtual F.x F.ow (F.N.w hC hl rfl) hnamed hmethM hstM hkP hkPi ⟨hy.1, hy.2.1⟩ (a := a) (cell := cellB) (by rw [hT]; exact hcB)
    (fun q h => by rw [h] at hobj; cases hobj) hselP hmethM habM hkP hkPi (g := F0 (yy_m b) pc ls (av.reverse ++ .ref a :: rest)) rfl (argsL := av) (rest := rest) (by have h2 := hy.2.2; rw [hsigM] at h2; rw [hn]; exact (Option.some.inj h2).symm) rfl (by rw [F.c]; exact d)
  exact ⟨vm₁, mk, X₁, X₁.named hnamed, fun target h => hstep₁ _ fun acts => by rw [doInvoke_state]; exact h⟩
/-- the reference names x, through a class that may only inherit it; the receiver's class selects y -/
theorem yy_invU (F : yy_A l z b rm cc nL own ret hh Post) (hC : ∀ w ∈ Ts, w.before a0 z = true) (hl : Cond.methodLink own idx x ∈ Ts) (hsm : Cond.sameMethod x.cls owner x.name x.desc ∈ Ts) (hd0 : va_Decl (yy_s b) ⟨owner, x.name, x.desc⟩) (hse : Cond.selects C x y ∈ Ts) (hin : Cond.instanceMethod y ∈ Ts)
    (hy : owner ≠ "java/lang/invoke/MethodHandle" ∧ owner ≠ "java/lang/invoke/VarHandle" ∧ (parseMethodDescriptor x.desc).map (fun d => d.parameters.length) = some nA) (hr : ∃ cell : Cell, H[a]? = some cell ∧ cell.vm.isStatics = false ∧ (yy_s b).vm.findClass C = some cell.cls) (hn : av.length = nA) (d : decode cc pc = .ok (.invokevirtual idx, 3)) :
    yy_PB b H locs k y (.ref a :: av) pc (av.reverse ++ .ref a :: rest) rest := by
  intro ls T hT X
  obtain ⟨cellB, hcB, hobj, hcls⟩ := hr
  obtain ⟨r0, r, hn0, hrm, hstR, hsigR⟩ := hd0
  obtain ⟨cn, ck, r1, hcn, hck, hni, hf, hn1⟩ := Cond.sameMethod_found (F.N.w (args := yy_a b) hC hsm rfl)
  cases hn0.symm.trans hn1
  obtain ⟨mk, methM, hnamed, hmethM, -, habM⟩ := Cond.instanceMethod_spec (F.N.w (args := yy_a b) hC hin rfl)
  obtain ⟨c2, r2, m2, q1, q2, q3, q4, kP, hkP, hkPi⟩ := Cond.selects_spec (F.N.w (args := yy_a b) hC hse rfl)
  cases hcls.symm.trans q1
  cases hf.symm.trans q2
  cases hnamed.symm.trans q3
  have hselP : selectMethod (yy_e b).platform (yy_s b).vm cellB.cls r0 = .method mk := by rw [Launch.admits_selectMethod X.admits]; exact q4
  obtain ⟨vm₁, X₁, hstep₁⟩ := X.invokevirtualUp F.x F.ow (F.N.w hC hl rfl) (F.N.w hC hsm rfl) ⟨hy.1, hy.2.1⟩ hn0 hrm hstR (a := a) (cell := cellB) (by rw [hT]; exact hcB)
    (fun q h => by rw [h] at hobj; cases hobj) hselP hmethM habM hkP hkPi (g := F0 (yy_m b) pc ls (av.reverse ++ .ref a :: rest)) rfl (argsL := av) (rest := rest) (by have h2 := hy.2.2; rw [hsigR] at h2; rw [hn]; exact (Option.some.inj h2).symm) rfl (by rw [F.c]; exact d)
  exact ⟨vm₁, mk, X₁, X₁.named hnamed, fun target h => hstep₁ _ fun acts => by rw [doInvoke_state]; exact h⟩
/-- a constructor -/
theorem yy_invI (F : yy_A l z b rm cc nL own ret hh Post) (hC : ∀ w ∈ Ts, w.before a0 z = true) (hy1 : y.name = "<init>") (hl : Cond.methodLink own idx y ∈ Ts ∨ ∃ host : String, Cond.methodLinkNest own idx y host ∈ Ts) (hin : Cond.instanceMethod y ∈ Ts) (hc : Cond.code y bytes maxL none ∈ Ts)
    (hy : y.cls ≠ "java/lang/invoke/MethodHandle" ∧ y.cls ≠ "java/lang/invoke/VarHandle" ∧ (parseMethodDescriptor y.desc).map (fun d => d.parameters.length) = some nA) (hn : av.length = nA) (d : decode cc pc = .ok (.invokespecial idx, 3)) :
    yy_PB b H locs k y (.ref a :: av) pc (av.reverse ++ .ref a :: rest) rest := by
  intro ls T hT X
  have hpl : (yy_e b).platform.magicAccessors = ({} : Platform).magicAccessors := by rw [X.admits.platform]
  have hlen : ∀ sig, parseMethodDescriptor y.desc = some sig → av.length = sig.parameters.length := fun sig h => by have h2 := hy.2.2; rw [h] at h2; rw [hn]; exact (Option.some.inj h2).symm
  have d9 : decode (yy_c b).code pc = .ok (.invokespecial idx, 3) := by rw [F.c]; exact d
  rcases hl with hl | ⟨host, hl⟩
  · obtain ⟨mk, methM, cM, kP, vm₁, hnamed, hmethM, hcodeM, -, hlocalsM, -, hkP, -, hW₁, hstep₁⟩ := Steps.initColdArgs (e := yy_e b) X.here F.x X.warmed hpl F.ow hy1 ⟨hy.1, hy.2.1⟩ (F.N.w (args := yy_a b) hC hl rfl) (F.N.w (args := yy_a b) hC hin rfl) (F.N.w (args := yy_a b) hC hc rfl) (f := F0 (yy_m b) pc ls (av.reverse ++ .ref a :: rest)) rfl hlen rfl d9
    have X₁ := X.noted hW₁
    exact ⟨vm₁, mk, X₁, X₁.named hnamed, fun target h => hstep₁ _ fun acts => by rw [doInvoke_state]; exact h⟩
  · obtain ⟨mk, methM, cM, kP, vm₁, hnamed, hmethM, hcodeM, -, hlocalsM, -, hkP, -, hW₁, hstep₁⟩ := Steps.initColdArgsNest (e := yy_e b) X.here F.x X.warmed hpl F.ow hy1 ⟨hy.1, hy.2.1⟩ (F.N.nestM (args := yy_a b) hC hl) (F.N.w (args := yy_a b) hC hin rfl) (F.N.w (args := yy_a b) hC hc rfl) (f := F0 (yy_m b) pc ls (av.reverse ++ .ref a :: rest)) rfl hlen rfl d9
    have X₁ := X.noted hW₁
    exact ⟨vm₁, mk, X₁, X₁.named hnamed, fun target h => hstep₁ _ fun acts => by rw [doInvoke_state]; exact h⟩
end YIa
end YI
