/-! PART rowsN: new rows of references, writes of references and longs into rows -/
section YN
variable {l : Launch} {z : State} {b : yy_T} {rm : Room} {cc : ByteArray} {nL : Nat} {own : String} {ret : Option FieldType} {hh : List (Nat × Nat × Nat × Nat)} {Post : yy_R → Heap → Prop}
variable {H : Heap} {locs : List Loc} {k : Nat × Nat} {pc n : Nat} {lv lv' : List (Nat × Value)} {st : List Value}
variable {Ts : List Cond} {a0 : Array Value} {D : va_G} {cl : List vw_C} {tys : List (ClassId × FieldType)} {a ci idx : Nat} {fs : List Value} {C E : String} {cA : ClassId} {N : Nat} {i : Int32}
theorem yy_newq (F : yy_A l z b rm cc nL own ret hh Post) (hC : ∀ w ∈ Ts, w.before a0 z = true) (hK : va_K D cl tys z) (t0 : Nat) (ht : tys[t0]? = some (cA, .object C)) (h1 : Cond.classLink own idx C ∈ Ts) (h2 : Cond.arrayOver (.object C) ∈ Ts) (hS : yy_S z H locs) (hi : ¬ i < 0) (hN : i.toNatClampNeg = N) (hbytes : N * 4 ≤ 536870912) (hR : k.1 + 1 ≤ rm.cells ∧ k.2 + N ≤ rm.slots) (d : decode cc pc = .ok (.anewarray idx, 3)) (hn : pc + 3 = n)
    (kk : ∀ H1 : Heap, va_at D cl (H.size, .inl (cA, N, .inr (.inr (.inr (.inr (fun _ => none)))))) H1 → H1.size = H.size + 1 → (∀ q : Nat, q < H.size → H1[q]? = H[q]?) → yy_S z H1 locs → yy_Y b H1 locs (k.1 + 1, k.2 + N) n lv (.ref H.size :: st)) : yy_Y b H locs k pc lv (.int i :: st) := by
  subst hn
  subst hN
  intro ls hl
  have hKs : va_K D cl tys (yy_s b) := hK.moved F.N.1.alike
  have hov : va_AO C (yy_s b) := va_AO.moved F.N.1.alike (va_AO.of (hC _ h2))
  refine W.anew F.x F.c F.ow (F.N.w hC h1 rfl) (va_AO.use hov) rfl d rfl hi hbytes (by rw [F.r]; exact hR.1) (by rw [F.r]; exact hR.2) fun cA9 kA comp f1 f2 f3 f4 => ?_
  obtain ⟨kA', comp', g2, g3, g4, g1⟩ := (hKs.2 t0 _ ht).2
  have hcomp : comp' = comp := Option.some.inj (g4.symm.trans f4)
  subst hcomp
  have hcA : cA9 = cA := Option.some.inj (f1.symm.trans g1)
  subst hcA
  generalize hH1 : H.push ({ cls := cA9, slots := Array.replicate i.toNatClampNeg .null, vm := .none } : Cell) = H1
  have z1 : H1.size = H.size + 1 := by rw [← hH1, Array.size_push]
  have e1 : H1[H.size]? = some (arrV cA9 i.toNatClampNeg (fun _ => .null)) := by rw [← hH1, Array.getElem?_push_size, ← arrV_new]
  have o1 : ∀ q : Nat, q < H.size → H1[q]? = H[q]? := fun q hq => by rw [← hH1, Array.getElem?_push, if_neg (Nat.ne_of_lt hq)]
  refine kk H1 ?_ z1 o1 (hS.new z1 o1) ls hl
  show H1[H.size]? = some (vp_cell _ _)
  rw [vp_cell_q]
  exact e1
variable {g : Nat → Option Nat} {v : Nat}
theorem yy_aast (F : yy_A l z b rm cc nL own ret hh Post) (hK : va_K D cl tys z) (t0 : Nat) (ht : tys[t0]? = some (cA, .object E)) (hS : yy_S z H locs) (ha : z.heap.size ≤ a) (O : va_at D cl (a, .inl (cA, N, .inr (.inr (.inr (.inr g))))) H) {r : vw_C} (hc : cl[ci]? = some r) (hca : r.1 = E ∨ (Cond.castable r.1 E).before a0 z = true) (V : va_at D cl (v, .inr (ci, fs)) H) (hi : vp_in i N) (d : decode cc pc = .ok (.aastore, 1)) (hn : pc + 1 = n)
    (kk : ∀ (H1 : Heap) (locs1 : List Loc), va_at D cl (a, .inl (cA, N, .inr (.inr (.inr (.inr (va_up g i.toNatClampNeg (some v))))))) H1 → H1.size = H.size → (∀ q : Nat, q ≠ a → H1[q]? = H[q]?) → yy_S z H1 locs1 → yy_Y b H1 locs1 k n lv st) : yy_Y b H locs k pc lv (.ref v :: .int i :: .ref a :: st) := by
  subst hn
  intro ls hl
  have hKs : va_K D cl tys (yy_s b) := hK.moved F.N.1.alike
  have hlt : i.toNatClampNeg < N := Nat.not_le.mp fun q => hi (Or.inr q)
  have h0 : ¬ i < 0 := fun q => hi (Or.inl q)
  obtain ⟨r', hr', cellV, g1, g2, g3, -⟩ := V
  have hcls := (hKs.1 ci r hc).2
  obtain ⟨kA, comp, k1, k2, k3, -⟩ := (hKs.2 t0 _ ht).2
  obtain ⟨kC, hkC, -⟩ := hcls.2
  have hfit : ∃ kE, (yy_s b).vm.classes[comp]? = some kE ∧ (yy_s b).vm.assignable cellV.cls comp = true := by
    rcases hca with e | hca
    · have hcomp : comp = D.1 ci := Option.some.inj (k3.symm.trans (by rw [← e]; exact hcls.1))
      subst hcomp
      exact ⟨kC, hkC, by rw [g2]; exact va_assign hcls⟩
    · obtain ⟨kE, hkE, -⟩ := Vm.findClass_spec k3
      have hca9 : va_Nw (.castable r.1 E) (yy_s b) := va_Nw.warmC F.N.1 (va_Nw.of rfl hca)
      obtain ⟨c0, t1, f1, f2, f3⟩ := Cond.castable_spec (va_Nw.use (A := yy_a b) rfl hca9)
      cases hcls.1.symm.trans f1
      cases k3.symm.trans f2
      exact ⟨kE, hkE, by rw [g2]; exact f3⟩
  obtain ⟨kE, hkE, hasg⟩ := hfit
  refine W.aast F.x F.c O (fun q h => by cases h) (fun h => by cases h) k1 k2 rfl hkE ⟨h0, by show _ < (arrV _ _ _).slots.size; rw [arrV_size]; exact hlt⟩ g1 (fun q h => by rw [g3] at h; cases h) (by rw [g2]; exact hkC) hasg rfl rfl d fun H1 e z1 oq => ?_
  refine kk H1 _ ?_ z1 oq (hS.put z1 oq ha) ls hl
  show H1[a]? = some (vp_cell _ _)
  rw [e]
  rw [vp_cell_q, vp_cell_q, arrV_store]
  congr 2
  funext q
  by_cases hq : q = i.toNatClampNeg
  · subst hq
    simp [updV, va_up, va_rf]
  · simp [updV, va_up, hq]
variable {f : Nat → Int64} {x : Int64}
theorem yy_lald (F : yy_A l z b rm cc nL own ret hh Post) (hK : va_K D cl tys z) (t0 : Nat) (ht : tys[t0]? = some (cA, .long)) (O : va_at D cl (a, .inl (cA, N, .inr (.inl f))) H) (hi : vp_in i N) (d : decode cc pc = .ok (.laload, 1)) (hn : pc + 1 = n) (kk : yy_Y b H locs k n lv (.long (f i.toNatClampNeg) :: st)) : yy_Y b H locs k pc lv (.int i :: .ref a :: st) := by
  subst hn
  intro ls hl
  exact va_lald F.x F.c (hK.moved F.N.1.alike) (yy_P1 O) 0 t0 rfl ht hi d (kk ls hl)
theorem yy_last (F : yy_A l z b rm cc nL own ret hh Post) (hK : va_K D cl tys z) (t0 : Nat) (ht : tys[t0]? = some (cA, .long)) (hS : yy_S z H locs) (ha : z.heap.size ≤ a) (O : va_at D cl (a, .inl (cA, N, .inr (.inl f))) H) (hi : vp_in i N) (d : decode cc pc = .ok (.lastore, 1)) (hn : pc + 1 = n)
    (kk : ∀ (H1 : Heap) (locs1 : List Loc), va_at D cl (a, .inl (cA, N, .inr (.inl (vp_updL f i.toNatClampNeg x)))) H1 → H1.size = H.size → (∀ q : Nat, q ≠ a → H1[q]? = H[q]?) → yy_S z H1 locs1 → yy_Y b H1 locs1 k n lv st) : yy_Y b H locs k pc lv (.long x :: .int i :: .ref a :: st) := by
  subst hn
  intro ls hl
  have hKs : va_K D cl tys (yy_s b) := hK.moved F.N.1.alike
  refine W.last F.x F.c O ((hKs.2 t0 _ ht).1 N (fun j => .long (f j))) (fun q => by cases q) (by show ¬ (i < 0 ∨ (arrV _ _ _).slots.size ≤ _); rw [arrV_size]; exact hi) rfl rfl d fun H1 e zz oq => ?_
  refine kk H1 _ ?_ zz oq (hS.put zz oq ha) ls hl
  show H1[a]? = some (vp_cell _ _)
  rw [e]
  rw [vp_cell_l, vp_cell_l, arrV_store]
  congr 2
  funext q
  by_cases hq : q = i.toNatClampNeg
  · subst hq
    simp [updV, vp_updL]
  · simp [updV, vp_updL, hq]
end YN
