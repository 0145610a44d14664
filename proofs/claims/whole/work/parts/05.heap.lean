/-! PART heap: fields, arrays, new objects over the bundled judgement; the frame is said cell by cell -/
section YH
theorem yy_S.put {z : State} {H H1 : Heap} {locs : List Loc} {a i : Nat} (hS : yy_S z H locs) (e2 : H1.size = H.size) (e3 : ∀ q : Nat, q ≠ a → H1[q]? = H[q]?) (ha : z.heap.size ≤ a) : yy_S z H1 (locs ++ [⟨a, i⟩]) :=
  ⟨by rw [e2]; exact hS.1, fun q h => (e3 q (fun h9 => Nat.not_le.mpr h (h9 ▸ ha))).trans (hS.2.1 q h), fun q hq => by
    rcases List.mem_append.mp hq with h | h
    · exact hS.2.2 q h
    · rw [List.mem_singleton.mp h]; exact ha⟩
theorem yy_S.new {z : State} {H H1 : Heap} {locs : List Loc} (hS : yy_S z H locs) (e2 : H1.size = H.size + 1) (e3 : ∀ q : Nat, q < H.size → H1[q]? = H[q]?) : yy_S z H1 locs :=
  ⟨by rw [e2]; exact Nat.le_succ_of_le hS.1, fun q h => (e3 q (Nat.lt_of_lt_of_le h hS.1)).trans (hS.2.1 q h), hS.2.2⟩
theorem yy_P1 {D : va_G} {cl : List vw_C} {q : Nat × va_E} {H : Heap} (h : va_at D cl q H) : va_P D cl [q] H := fun k x hx => by
  have hz : k < 1 := (List.getElem?_eq_some_iff.mp hx).1
  rw [show k = 0 by omega] at hx
  cases hx
  exact h
/-- the tables' words of a field's use: by this class, at this pool index, of an object of class ci its field j -/
def yy_G (Ts : List Cond) (cl : List vw_C) (own : String) (idx ci j : Nat) : Prop := ∃ (C : String) (T : u_T) (N : Nat) (ref : String), cl[ci]? = some (C, T, N) ∧ j < N ∧ (∀ w ∈ u_ws C T N, w ∈ Ts ∧ goodWord w = true) ∧
  (Cond.fieldLink own idx ref (T j).2.1 (T j).2.2.1 ∈ Ts ∨ ∃ host : String, Cond.fieldLinkNest own idx ref (T j).2.1 (T j).2.2.1 host ∈ Ts) ∧ (ref = (T j).1 ∨ Cond.sameField ref (T j).1 (T j).2.1 (T j).2.2.1 ∈ Ts)
/-- and of a class's fields: their types, their names apart -/
def yy_Gt (cl : List vw_C) (ci : Nat) (ty : Nat → FieldType) : Prop := ∃ (C : String) (T : u_T) (N : Nat), cl[ci]? = some (C, T, N) ∧ (∀ k, k < N → parseFieldDescriptor (T k).2.2.1 = some (ty k)) ∧ ∀ a, a < N → ∀ b, b < N → a ≠ b → (T a).2.1 ≠ (T b).2.1
section YHa
variable {l : Launch} {z : State} {b : yy_T} {rm : Room} {cc : ByteArray} {nL : Nat} {own : String} {ret : Option FieldType} {hh : List (Nat × Nat × Nat × Nat)} {Post : yy_R → Heap → Prop}
variable {H : Heap} {locs : List Loc} {k : Nat × Nat} {pc n : Nat} {lv lv' : List (Nat × Value)} {st : List Value}
variable {Ts : List Cond} {a0 : Array Value} {D : va_G} {cl : List vw_C} {tys : List (ClassId × FieldType)} {a ci idx j : Nat} {fs : List Value} {v : Value}
theorem yy_get (F : yy_A l z b rm cc nL own ret hh Post) (hC : ∀ w ∈ Ts, w.before a0 z = true) (hK : va_K D cl tys z) (G : yy_G Ts cl own idx ci j) (O : va_at D cl (a, .inr (ci, fs)) H) (hv : fs[j]? = some v) (d : decode cc pc = .ok (.getfield idx, 3)) (hn : pc + 3 = n) (kk : yy_Y b H locs k n lv (v :: st)) : yy_Y b H locs k pc lv (.ref a :: st) := by
  subst hn
  intro ls hl
  obtain ⟨C, T, N, ref, hc, hj, hw, hlink, hsame⟩ := G
  have hts : ∀ w ∈ u_ws C T N, w.before (yy_a b) (yy_s b) = true := fun w h => F.N.w hC (hw w h).1 (hw w h).2
  have hKs : va_K D cl tys (yy_s b) := hK.moved F.N.1.alike
  have hs9 : ∀ x, (yy_s b).fieldFound? (T j).1 (T j).2.1 (T j).2.2.1 = some x → (yy_s b).fieldFound? ref (T j).2.1 (T j).2.2.1 = some x := by
    rcases hsame with h | h
    · intro x hx
      rw [h]; exact hx
    · exact fun x hx => u_same (args := yy_a b) (F.N.w hC h rfl) x hx
  rcases hlink with h | ⟨host, h⟩
  · exact va_get F.x F.c hts (fun _ h => h) F.ow hKs (yy_P1 O) 0 rfl hc j hj (F.N.w hC h rfl) hs9 hv d (kk ls hl)
  · exact va_getN F.x F.c hts (fun _ h => h) F.ow hKs (yy_P1 O) 0 rfl hc j hj (va_Nw.use rfl (va_Nw.warmF F.N.1 (va_Nw.of rfl (hC _ h)))) hs9 hv d (kk ls hl)
theorem yy_put (F : yy_A l z b rm cc nL own ret hh Post) (hC : ∀ w ∈ Ts, w.before a0 z = true) (hK : va_K D cl tys z) (G : yy_G Ts cl own idx ci j) {ty : Nat → FieldType} (Gt : yy_Gt cl ci ty) (hfin : ∀ (C : String) (T : u_T) (N : Nat), cl[ci]? = some (C, T, N) → (T j).2.2.2 = false)
    (hS : yy_S z H locs) (ha : z.heap.size ≤ a) (O : va_at D cl (a, .inr (ci, fs)) H) (hnv : narrow (ty j) v = v) (hfit : fits (ty j) v = true) (hlen : j < fs.length) (d : decode cc pc = .ok (.putfield idx, 3)) (hn : pc + 3 = n)
    (kk : ∀ (H1 : Heap) (locs1 : List Loc), va_at D cl (a, .inr (ci, fs.set j v)) H1 → H1.size = H.size → (∀ q : Nat, q ≠ a → H1[q]? = H[q]?) → yy_S z H1 locs1 → yy_Y b H1 locs1 k n lv st) : yy_Y b H locs k pc lv (v :: .ref a :: st) := by
  subst hn
  intro ls hl
  obtain ⟨C, T, N, ref, hc, hj, hw, hlink, hsame⟩ := G
  obtain ⟨C', T', N', hc', hty, hnm⟩ := Gt
  cases Option.some.inj (hc.symm.trans hc')
  have hf := hfin C T N hc
  have hts : ∀ w ∈ u_ws C T N, w.before (yy_a b) (yy_s b) = true := fun w h => F.N.w hC (hw w h).1 (hw w h).2
  have hKs : va_K D cl tys (yy_s b) := hK.moved F.N.1.alike
  have hs9 : ∀ x, (yy_s b).fieldFound? (T j).1 (T j).2.1 (T j).2.2.1 = some x → (yy_s b).fieldFound? ref (T j).2.1 (T j).2.2.1 = some x := by
    rcases hsame with h | h
    · intro x hx
      rw [h]; exact hx
    · exact fun x hx => u_same (args := yy_a b) (F.N.w hC h rfl) x hx
  have hap := va_apart (own := own) hts (fun _ h => h) ty hty hnm hKs hc
  obtain ⟨r, h1, cell, q1, q2, q3, q4⟩ := O
  have hr : r = (C, T, N) := Option.some.inj (h1.symm.trans hc)
  subst hr
  obtain ⟨hSl, hfc, kC, hkC, hkind⟩ := hKs.1 ci _ hc
  obtain ⟨cf, kf, fi, f, hi, hsl⟩ := hSl j hj
  have hlay := hts _ (u_in_lay hj)
  unfold u_lay at hlay
  rw [if_neg (by rw [hf]; decide)] at hlay
  have hst := (u_facts hfc hkC (u_lays hts (fun _ h => h) hj) hi).1
  have h6 := u_store hfc hkC hkind hlay hi (hty j hj) hnv hfit
  have fin : ∀ H' : Heap, H'[a]? = some (cell.setSlot f.slot v) → H'.size = H.size → (∀ q, q ≠ a → H'[q]? = H[q]?) → W (yy_p b) (yy_l b) (yy_e b) (yy_r b) (yy_s b) (yy_m b) (yy_a b) (yy_b b) (yy_t b) (yy_c b) H' (locs ++ [⟨a, f.slot⟩]) k.1 k.2 (yy_q b) (F0 (yy_m b) (pc + 3) ls st) := by
    intro H' e1 e2 e3
    rw [hsl] at e1
    exact kk H' _ ⟨_, hc, t_OB.to (V := updV (vp_V fs) j v) ⟨_, e1, q2, q3, t_set q4 hap hj v⟩ (fun i _ => vp_updV_set hlen v i)⟩ e2 e3 (hS.put e2 e3 ha) ls hl
  rcases hlink with h | ⟨host, h⟩
  · exact W.putK F.x F.c (f := f) ⟨F.ow, F.N.w hC h rfl, ⟨_, _, _, hs9 _ hi⟩, hst⟩ (by rw [q2]; exact h6) q1 q3 (by rw [hsl]; exact k2_hasslot (q4 j hj)) rfl rfl d fin
  · exact va_WputK F.x F.c (f := f) F.ow (va_Nw.use rfl (va_Nw.warmF F.N.1 (va_Nw.of rfl (hC _ h)))) (hs9 _ hi) hst (by rw [q2]; exact h6) q1 q3 (by rw [hsl]; exact k2_hasslot (q4 j hj)) rfl rfl d fin
/-- a final field, in its class's constructor -/
theorem yy_putF (F : yy_A l z b rm cc nL own ret hh Post) (hC : ∀ w ∈ Ts, w.before a0 z = true) (hK : va_K D cl tys z) (G : yy_G Ts cl own idx ci j) {ty : Nat → FieldType} (Gt : yy_Gt cl ci ty) (hfin : ∀ (C : String) (T : u_T) (N : Nat), cl[ci]? = some (C, T, N) → (T j).2.2.2 = true ∧ (T j).1 = own) (hin : (yy_t b).name = "<init>")
    (hlk : ∀ (C : String) (T : u_T) (N : Nat), cl[ci]? = some (C, T, N) → Cond.fieldLink own idx own (T j).2.1 (T j).2.2.1 ∈ Ts)
    (hS : yy_S z H locs) (ha : z.heap.size ≤ a) (O : va_at D cl (a, .inr (ci, fs)) H) (hnv : narrow (ty j) v = v) (hfit : fits (ty j) v = true) (hlen : j < fs.length) (d : decode cc pc = .ok (.putfield idx, 3)) (hn : pc + 3 = n)
    (kk : ∀ (H1 : Heap) (locs1 : List Loc), va_at D cl (a, .inr (ci, fs.set j v)) H1 → H1.size = H.size → (∀ q : Nat, q ≠ a → H1[q]? = H[q]?) → yy_S z H1 locs1 → yy_Y b H1 locs1 k n lv st) : yy_Y b H locs k pc lv (v :: .ref a :: st) := by
  subst hn
  intro ls hl
  obtain ⟨C, T, N, ref, hc, hj, hw, -, -⟩ := G
  obtain ⟨C', T', N', hc', hty, hnm⟩ := Gt
  cases Option.some.inj (hc.symm.trans hc')
  obtain ⟨hf, hdecl⟩ := hfin C T N hc
  have hlink := hlk C T N hc
  have hts : ∀ w ∈ u_ws C T N, w.before (yy_a b) (yy_s b) = true := fun w h => F.N.w hC (hw w h).1 (hw w h).2
  have hKs : va_K D cl tys (yy_s b) := hK.moved F.N.1.alike
  have hap := va_apart (own := own) hts (fun _ h => h) ty hty hnm hKs hc
  obtain ⟨r, h1, cell, q1, q2, q3, q4⟩ := O
  have hr : r = (C, T, N) := Option.some.inj (h1.symm.trans hc)
  subst hr
  obtain ⟨hSl, hfc, kC, hkC, hkind⟩ := hKs.1 ci _ hc
  obtain ⟨cf, kf, fi, f, hi, hsl⟩ := hSl j hj
  have hlay := hts _ (u_in_lay hj)
  unfold u_lay at hlay
  rw [if_pos hf] at hlay
  have hst := (u_facts hfc hkC (u_lays hts (fun _ h => h) hj) hi).1
  have hcf : (yy_m b).cls = cf := by
    obtain ⟨_, _, c', _, _, _, -, -, hf', -, -, -, hown2, -⟩ := Cond.laysFinal_spec hlay
    have e1 : c' = cf := by have := hi.symm.trans hf'; simp at this; exact this.1.symm
    rw [hdecl] at hown2
    rw [← e1]; exact Option.some.inj (F.ow.symm.trans hown2)
  have h6 := u_fits hfc hkC hkind (Or.inr hlay) hi (hty j hj) hnv hfit
  have hi9 : (yy_s b).fieldFound? own (T j).2.1 (T j).2.2.1 = some (cf, kf, fi, f) := by rw [← hdecl]; exact hi
  refine W.putFinK F.x F.c F.ow (F.N.w hC hlink rfl) hi9 hst hcf hin (by rw [q2]; exact h6) q1 q3 (by rw [hsl]; exact k2_hasslot (q4 j hj)) rfl rfl d fun H' e1 e2 e3 => ?_
  rw [hsl] at e1
  exact kk H' _ ⟨_, hc, t_OB.to (V := updV (vp_V fs) j v) ⟨_, e1, q2, q3, t_set q4 hap hj v⟩ (fun i _ => vp_updV_set hlen v i)⟩ e2 e3 (hS.put e2 e3 ha) ls hl
variable {cA : ClassId} {N t0 : Nat} {f : Nat → Int32} {i x : Int32}
theorem yy_iald (F : yy_A l z b rm cc nL own ret hh Post) (hK : va_K D cl tys z) (t0 : Nat) (ht : tys[t0]? = some (cA, .int)) (O : va_at D cl (a, .inl (cA, N, .inl f)) H) (hi : vp_in i N) (d : decode cc pc = .ok (.iaload, 1)) (hn : pc + 1 = n) (kk : yy_Y b H locs k n lv (.int (f i.toNatClampNeg) :: st)) : yy_Y b H locs k pc lv (.int i :: .ref a :: st) := by
  subst hn
  intro ls hl
  exact va_iald F.x F.c (hK.moved F.N.1.alike) (yy_P1 O) 0 t0 rfl ht hi d (kk ls hl)
theorem yy_iast (F : yy_A l z b rm cc nL own ret hh Post) (hK : va_K D cl tys z) (t0 : Nat) (ht : tys[t0]? = some (cA, .int)) (hS : yy_S z H locs) (ha : z.heap.size ≤ a) (O : va_at D cl (a, .inl (cA, N, .inl f)) H) (hi : vp_in i N) (d : decode cc pc = .ok (.iastore, 1)) (hn : pc + 1 = n)
    (kk : ∀ (H1 : Heap) (locs1 : List Loc), va_at D cl (a, .inl (cA, N, .inl (upd f i.toNatClampNeg x))) H1 → H1.size = H.size → (∀ q : Nat, q ≠ a → H1[q]? = H[q]?) → yy_S z H1 locs1 → yy_Y b H1 locs1 k n lv st) : yy_Y b H locs k pc lv (.int x :: .int i :: .ref a :: st) := by
  subst hn
  intro ls hl
  have hKs : va_K D cl tys (yy_s b) := hK.moved F.N.1.alike
  refine W.iast F.x F.c O ((hKs.2 t0 _ ht).1 N (fun j => .int (f j))) (fun q => by cases q) (by show ¬ (i < 0 ∨ (arrV _ _ _).slots.size ≤ _); rw [arrV_size]; exact hi) rfl rfl d fun H1 e zz oq => ?_
  refine kk H1 _ ?_ zz oq (hS.put zz oq ha) ls hl
  show H1[a]? = some (vp_cell _ _)
  rw [e]
  rw [vp_cell_i, vp_cell_i, arrV_store]
  congr 2
  funext q
  by_cases hq : q = i.toNatClampNeg
  · subst hq
    simp [updV, upd]
  · simp [updV, upd, hq]
theorem yy_alen (F : yy_A l z b rm cc nL own ret hh Post) (hK : va_K D cl tys z) {ty : FieldType} {X : vp_A} (t0 : Nat) (ht : tys[t0]? = some (cA, ty)) (O : va_at D cl (a, .inl (cA, X)) H) (hv : Int32.ofNat X.1 = x) (d : decode cc pc = .ok (.arraylength, 1)) (hn : pc + 1 = n) (kk : yy_Y b H locs k n lv (.int x :: st)) : yy_Y b H locs k pc lv (.ref a :: st) := by
  subst hn
  intro ls hl
  exact va_alen F.x F.c (hK.moved F.N.1.alike) (yy_P1 O) 0 t0 rfl ht hv d (kk ls hl)
variable {g : Nat → Option Nat} {C : String}
theorem yy_aald (F : yy_A l z b rm cc nL own ret hh Post) (hK : va_K D cl tys z) (t0 : Nat) (ht : tys[t0]? = some (cA, .object C)) (O : va_at D cl (a, .inl (cA, N, .inr (.inr (.inr (.inr g))))) H) (hi : vp_in i N) (d : decode cc pc = .ok (.aaload, 1)) (hn : pc + 1 = n) (kk : yy_Y b H locs k n lv (va_rf (g i.toNatClampNeg) :: st)) : yy_Y b H locs k pc lv (.int i :: .ref a :: st) := by
  subst hn
  intro ls hl
  exact va_aldq F.x F.c (hK.moved F.N.1.alike) (yy_P1 O) 0 t0 rfl ht hi d (kk ls hl)
end YHa
end YH
