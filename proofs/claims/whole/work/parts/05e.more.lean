/-! PART more: constructors of Object, new objects and arrays, casts, throws, handlers -/
section YM
section YMa
variable {l : Launch} {z : State} {b : yy_T} {rm : Room} {cc : ByteArray} {nL : Nat} {own : String} {ret : Option FieldType} {hh : List (Nat × Nat × Nat × Nat)} {Post : yy_R → Heap → Prop}
variable {H : Heap} {locs : List Loc} {k : Nat × Nat} {pc n : Nat} {lv lv' : List (Nat × Value)} {st : List Value}
variable {Ts : List Cond} {a0 : Array Value} {D : va_G} {cl : List vw_C} {tys : List (ClassId × FieldType)} {a ci idx : Nat} {fs : List Value} {C : String}
theorem yy_obj0 (F : yy_A l z b rm cc nL own ret hh Post) (hC : ∀ w ∈ Ts, w.before a0 z = true) (hl : Cond.methodLink own idx objectInit ∈ Ts) (hin : Cond.instanceMethod objectInit ∈ Ts) (hc : Cond.code objectInit ⟨#[0xb1]⟩ 1 none ∈ Ts) (hR : 1 ≤ rm.frames ∧ (st.map fun v => v.category).sum + 12 ≤ rm.locals) (d : decode cc pc = .ok (.invokespecial idx, 3)) (hn : pc + 3 = n) (kk : yy_Y b H locs k n lv st) : yy_Y b H locs k pc lv (.ref a :: st) := by
  subst hn
  intro ls hl9
  refine W.objInit F.x F.c F.ow (F.N.w hC hl rfl) (F.N.w hC hin rfl) (F.N.w hC hc rfl) rfl (by rw [F.ml, ← F.n]; exact hl9.1) rfl d (by rw [F.r]; exact hR.1) (by rw [F.r]; show 2 * 0 + _ + 12 ≤ _; have := hR.2; omega) ?_
  exact kk ls hl9
/-- the words of 'new': by this class, at this pool index, of class ci -/
theorem yy_new (F : yy_A l z b rm cc nL own ret hh Post) (hC : ∀ w ∈ Ts, w.before a0 z = true) (hK : va_K D cl tys z) {T : u_T} {N : Nat} {ty : Nat → FieldType} (hc : cl[ci]? = some (C, T, N)) (hw : ∀ w ∈ u_ws C T N, w ∈ Ts ∧ goodWord w = true) (hty : ∀ k, k < N → parseFieldDescriptor (T k).2.2.1 = some (ty k))
    (h1 : Cond.classLink own idx C ∈ Ts) (h2 : Cond.instantiable C N ∈ Ts) (h3 : Cond.initialized C ∈ Ts) (hS : yy_S z H locs) (hfs : ∀ j, j < N → defaultValue (ty j) = vp_V fs j) (hR : k.1 + 1 ≤ rm.cells ∧ k.2 + N ≤ rm.slots) (d : decode cc pc = .ok (.new idx, 3)) (hn : pc + 3 = n)
    (kk : ∀ H1 : Heap, va_at D cl (H.size, .inr (ci, fs)) H1 → H1.size = H.size + 1 → (∀ q : Nat, q < H.size → H1[q]? = H[q]?) → yy_S z H1 locs → yy_Y b H1 locs (k.1 + 1, k.2 + N) n lv (.ref H.size :: st)) : yy_Y b H locs k pc lv st := by
  subst hn
  intro ls hl
  have hts : ∀ w ∈ u_ws C T N, w.before (yy_a b) (yy_s b) = true := fun w h => F.N.w hC (hw w h).1 (hw w h).2
  have hKs : va_K D cl tys (yy_s b) := hK.moved F.N.1.alike
  have hKn := hKs.1 ci _ hc
  refine W.newcK F.x F.c F.ow (F.N.w hC h1 rfl) (F.N.w hC h2 rfl) (F.N.w hC h3 rfl) rfl d (by rw [F.r]; exact hR.1) (by rw [F.r]; exact hR.2) hKn.2.1 rfl fun H1 kC hkC e1 z1 o1 => ?_
  exact kk H1 ⟨_, hc, (u_born ty hts (fun _ h => h) hKn hkC e1 hty).to hfs⟩ z1 o1 (hS.new z1 o1) ls hl
variable {cA : ClassId} {N t0 : Nat} {i : Int32}
theorem yy_newi (F : yy_A l z b rm cc nL own ret hh Post) (hC : ∀ w ∈ Ts, w.before a0 z = true) (hK : va_K D cl tys z) (t0 : Nat) (ht : tys[t0]? = some (cA, .int)) (h1 : Cond.arrayClass .int ∈ Ts) (hS : yy_S z H locs) (hi : ¬ i < 0) (hN : i.toNatClampNeg = N) (hbytes : N * 4 ≤ 536870912) (hR : k.1 + 1 ≤ rm.cells ∧ k.2 + N ≤ rm.slots) (d : decode cc pc = .ok (.newarray .int, 2)) (hn : pc + 2 = n)
    (kk : ∀ H1 : Heap, va_at D cl (H.size, .inl (cA, N, .inl (fun _ => 0))) H1 → H1.size = H.size + 1 → (∀ q : Nat, q < H.size → H1[q]? = H[q]?) → yy_S z H1 locs → yy_Y b H1 locs (k.1 + 1, k.2 + N) n lv (.ref H.size :: st)) : yy_Y b H locs k pc lv (.int i :: st) := by
  subst hn
  intro ls hl
  have hKs : va_K D cl tys (yy_s b) := hK.moved F.N.1.alike
  refine va_newaK F.x F.c (atype := .int) (F.N.w hC h1 rfl) rfl d rfl hi hN hbytes (by rw [F.r]; exact hR.1) (by rw [F.r]; exact hR.2) rfl fun H1 cA9 e1 z1 o1 hAr hNm => ?_
  have hA9 : cA9 = cA := Option.some.inj (hNm.symm.trans (hKs.2 t0 _ ht).2)
  subst hA9
  refine kk H1 ?_ z1 o1 (hS.new z1 o1) ls hl
  show H1[H.size]? = some (vp_cell _ _)
  rw [vp_cell_i]
  exact e1
theorem yy_newl (F : yy_A l z b rm cc nL own ret hh Post) (hC : ∀ w ∈ Ts, w.before a0 z = true) (hK : va_K D cl tys z) (t0 : Nat) (ht : tys[t0]? = some (cA, .long)) (h1 : Cond.arrayClass .long ∈ Ts) (hS : yy_S z H locs) (hi : ¬ i < 0) (hN : i.toNatClampNeg = N) (hbytes : N * 8 ≤ 536870912) (hR : k.1 + 1 ≤ rm.cells ∧ k.2 + N ≤ rm.slots) (d : decode cc pc = .ok (.newarray .long, 2)) (hn : pc + 2 = n)
    (kk : ∀ H1 : Heap, va_at D cl (H.size, .inl (cA, N, .inr (.inl (fun _ => 0)))) H1 → H1.size = H.size + 1 → (∀ q : Nat, q < H.size → H1[q]? = H[q]?) → yy_S z H1 locs → yy_Y b H1 locs (k.1 + 1, k.2 + N) n lv (.ref H.size :: st)) : yy_Y b H locs k pc lv (.int i :: st) := by
  subst hn
  intro ls hl
  have hKs : va_K D cl tys (yy_s b) := hK.moved F.N.1.alike
  refine va_newaK F.x F.c (atype := .long) (F.N.w hC h1 rfl) rfl d rfl hi hN hbytes (by rw [F.r]; exact hR.1) (by rw [F.r]; exact hR.2) rfl fun H1 cA9 e1 z1 o1 hAr hNm => ?_
  have hA9 : cA9 = cA := Option.some.inj (hNm.symm.trans (hKs.2 t0 _ ht).2)
  subst hA9
  refine kk H1 ?_ z1 o1 (hS.new z1 o1) ls hl
  show H1[H.size]? = some (vp_cell _ _)
  rw [vp_cell_l]
  exact e1
/-- instanceof, checkcast, of an object whose class is known -/
theorem yy_instY (F : yy_A l z b rm cc nL own ret hh Post) (hC : ∀ w ∈ Ts, w.before a0 z = true) (hK : va_K D cl tys z) {nm : String} {q : vw_C} (h1 : Cond.classLink own idx nm ∈ Ts) (h2 : Cond.castable q.1 nm ∈ Ts) (hc : cl[ci]? = some q) (O : va_at D cl (a, .inr (ci, fs)) H) (d : decode cc pc = .ok (.instanceof idx, 3)) (hn : pc + 3 = n) (kk : yy_Y b H locs k n lv (.int 1 :: st)) : yy_Y b H locs k pc lv (.ref a :: st) := by
  subst hn
  intro ls hl
  exact va_instY F.x F.c F.ow (F.N.w hC h1 rfl) (va_Nw.warmC F.N.1 (va_Nw.of rfl (hC _ h2))) (yy_recv F.N hK hc O) d (kk ls hl)
theorem yy_castY (F : yy_A l z b rm cc nL own ret hh Post) (hC : ∀ w ∈ Ts, w.before a0 z = true) (hK : va_K D cl tys z) {nm : String} {q : vw_C} (h1 : Cond.classLink own idx nm ∈ Ts) (h2 : Cond.castable q.1 nm ∈ Ts) (hc : cl[ci]? = some q) (O : va_at D cl (a, .inr (ci, fs)) H) (d : decode cc pc = .ok (.checkcast idx, 3)) (hn : pc + 3 = n) (kk : yy_Y b H locs k n lv (.ref a :: st)) : yy_Y b H locs k pc lv (.ref a :: st) := by
  subst hn
  intro ls hl
  exact va_castY F.x F.c F.ow (F.N.w hC h1 rfl) (va_Nw.warmC F.N.1 (va_Nw.of rfl (hC _ h2))) (yy_recv F.N hK hc O) d (kk ls hl)
theorem yy_instS (F : yy_A l z b rm cc nL own ret hh Post) (hC : ∀ w ∈ Ts, w.before a0 z = true) (hK : va_K D cl tys z) {q : vw_C} (h1 : Cond.classLink own idx q.1 ∈ Ts) (hc : cl[ci]? = some q) (O : va_at D cl (a, .inr (ci, fs)) H) (d : decode cc pc = .ok (.instanceof idx, 3)) (hn : pc + 3 = n) (kk : yy_Y b H locs k n lv (.int 1 :: st)) : yy_Y b H locs k pc lv (.ref a :: st) := by
  subst hn
  intro ls hl
  exact va_instS F.x F.c F.ow (F.N.w hC h1 rfl) ((hK.moved F.N.1.alike).1 ci q hc).2 (yy_recv F.N hK hc O) d (kk ls hl)
theorem yy_castS (F : yy_A l z b rm cc nL own ret hh Post) (hC : ∀ w ∈ Ts, w.before a0 z = true) (hK : va_K D cl tys z) {q : vw_C} (h1 : Cond.classLink own idx q.1 ∈ Ts) (hc : cl[ci]? = some q) (O : va_at D cl (a, .inr (ci, fs)) H) (d : decode cc pc = .ok (.checkcast idx, 3)) (hn : pc + 3 = n) (kk : yy_Y b H locs k n lv (.ref a :: st)) : yy_Y b H locs k pc lv (.ref a :: st) := by
  subst hn
  intro ls hl
  exact va_castS F.x F.c F.ow (F.N.w hC h1 rfl) ((hK.moved F.N.1.alike).1 ci q hc).2 (yy_recv F.N hK hc O) d (kk ls hl)
theorem yy_instNo (F : yy_A l z b rm cc nL own ret hh Post) (hC : ∀ w ∈ Ts, w.before a0 z = true) (hK : va_K D cl tys z) {nm : String} {q : vw_C} (h1 : Cond.classLink own idx nm ∈ Ts) (h2 : va_Nc q.1 nm z) (hc : cl[ci]? = some q) (O : va_at D cl (a, .inr (ci, fs)) H) (d : decode cc pc = .ok (.instanceof idx, 3)) (hn : pc + 3 = n) (kk : yy_Y b H locs k n lv (.int 0 :: st)) : yy_Y b H locs k pc lv (.ref a :: st) := by
  subst hn
  intro ls hl
  exact va_instNo F.x F.c F.ow (F.N.w hC h1 rfl) (h2.moved F.N.1.alike) (yy_recv F.N hK hc O) d (kk ls hl)
end YMa
end YM
