/-! PART rows: a row an instruction, over a bundled judgement -/
section YR
/-- program, launch, environment, room, start, method, arguments, frames below, method's record, code, locals, what is to be reached -/
abbrev yy_T : Type := Program × Launch × Env × Room × State × MethodId × Array Value × List Frame × Method × Code × Nat × (State → Prop)
abbrev yy_p (b : yy_T) : Program := b.1
abbrev yy_l (b : yy_T) : Launch := b.2.1
abbrev yy_e (b : yy_T) : Env := b.2.2.1
abbrev yy_r (b : yy_T) : Room := b.2.2.2.1
abbrev yy_s (b : yy_T) : State := b.2.2.2.2.1
abbrev yy_m (b : yy_T) : MethodId := b.2.2.2.2.2.1
abbrev yy_a (b : yy_T) : Array Value := b.2.2.2.2.2.2.1
abbrev yy_b (b : yy_T) : List Frame := b.2.2.2.2.2.2.2.1
abbrev yy_t (b : yy_T) : Method := b.2.2.2.2.2.2.2.2.1
abbrev yy_c (b : yy_T) : Code := b.2.2.2.2.2.2.2.2.2.1
abbrev yy_n (b : yy_T) : Nat := b.2.2.2.2.2.2.2.2.2.2.1
abbrev yy_q (b : yy_T) : State → Prop := b.2.2.2.2.2.2.2.2.2.2.2
def yy_W (b : yy_T) (H : Heap) (locs : List Loc) (k : Nat × Nat) (g : JFrame) : Prop := W (yy_p b) (yy_l b) (yy_e b) (yy_r b) (yy_s b) (yy_m b) (yy_a b) (yy_b b) (yy_t b) (yy_c b) H locs k.1 k.2 (yy_q b) g
/-- at pc, with these locals and this operand stack, the method comes to its end as it must -/
def yy_Y (b : yy_T) (H : Heap) (locs : List Loc) (k : Nat × Nat) (pc : Nat) (lv : List (Nat × Value)) (st : List Value) : Prop := ∀ ls : Array Slot, lv_has ls (yy_n b) lv → yy_W b H locs k (F0 (yy_m b) pc ls st)
/-- the same with q thrown -/
def yy_V (b : yy_T) (H : Heap) (locs : List Loc) (k : Nat × Nat) (pc : Nat) (lv : List (Nat × Value)) (st : List Value) (q : Addr) : Prop := ∀ ls : Array Slot, lv_has ls (yy_n b) lv → yy_X (yy_p b) (yy_l b) (yy_e b) (yy_r b) (yy_s b) (yy_m b) (yy_a b) (yy_b b) (yy_t b) (yy_c b) H locs k.1 k.2 (yy_q b) (F0 (yy_m b) pc ls st) q
/-- how a method must end -/
def yy_Q (z : State) (rm : Room) (below : List Frame) (Post : yy_R → Heap → Prop) (s : State) : State → Prop := fun t => ∃ o, t.status = .running ∧ Ended t below o ∧ yy_E z rm.cells rm.slots (fun r _ H1 => Post r H1) s o t
/-- what a method's walk stands on: launch, start z, room, bytes, its class, its answer's type, its table of handlers, its end -/
def yy_A (l : Launch) (z : State) (b : yy_T) (rm : Room) (cc : ByteArray) (nL : Nat) (own : String) (ret : Option FieldType) (hh : List (Nat × Nat × Nat × Nat)) (Post : yy_R → Heap → Prop) : Prop :=
  yy_l b = l ∧ yy_r b = rm ∧ (yy_p b).tables.exec = Jvm.exec ∧ (yy_c b).code = cc ∧ (yy_c b).maxLocals = nL ∧ yy_n b = nL ∧ (yy_s b).vm.findClass own = some (yy_m b).cls ∧ yy_N z (yy_s b) ∧ (yy_t b).locks = false ∧ (yy_t b).sig.returnType = ret ∧ (yy_c b).exceptionTable.toList = tableOf hh ∧ yy_q b = yy_Q z rm (yy_b b) Post (yy_s b)
section YRa
variable {l : Launch} {z : State} {b : yy_T} {rm : Room} {cc : ByteArray} {nL : Nat} {own : String} {ret : Option FieldType} {hh : List (Nat × Nat × Nat × Nat)} {Post : yy_R → Heap → Prop}
theorem yy_A.ll (F : yy_A l z b rm cc nL own ret hh Post) : yy_l b = l := F.1
theorem yy_A.r (F : yy_A l z b rm cc nL own ret hh Post) : yy_r b = rm := F.2.1
theorem yy_A.x (F : yy_A l z b rm cc nL own ret hh Post) : (yy_p b).tables.exec = Jvm.exec := F.2.2.1
theorem yy_A.c (F : yy_A l z b rm cc nL own ret hh Post) : (yy_c b).code = cc := F.2.2.2.1
theorem yy_A.ml (F : yy_A l z b rm cc nL own ret hh Post) : (yy_c b).maxLocals = nL := F.2.2.2.2.1
theorem yy_A.n (F : yy_A l z b rm cc nL own ret hh Post) : yy_n b = nL := F.2.2.2.2.2.1
theorem yy_A.ow (F : yy_A l z b rm cc nL own ret hh Post) : (yy_s b).vm.findClass own = some (yy_m b).cls := F.2.2.2.2.2.2.1
theorem yy_A.N (F : yy_A l z b rm cc nL own ret hh Post) : yy_N z (yy_s b) := F.2.2.2.2.2.2.2.1
theorem yy_A.lk (F : yy_A l z b rm cc nL own ret hh Post) : (yy_t b).locks = false := F.2.2.2.2.2.2.2.2.1
theorem yy_A.rt (F : yy_A l z b rm cc nL own ret hh Post) : (yy_t b).sig.returnType = ret := F.2.2.2.2.2.2.2.2.2.1
theorem yy_A.tb (F : yy_A l z b rm cc nL own ret hh Post) : (yy_c b).exceptionTable.toList = tableOf hh := F.2.2.2.2.2.2.2.2.2.2.1
theorem yy_A.q (F : yy_A l z b rm cc nL own ret hh Post) : yy_q b = yy_Q z rm (yy_b b) Post (yy_s b) := F.2.2.2.2.2.2.2.2.2.2.2
variable {H : Heap} {locs : List Loc} {k : Nat × Nat} {pc n : Nat} {lv lv' : List (Nat × Value)} {st : List Value}

theorem yy_iconst (F : yy_A l z b rm cc nL own ret hh Post) {i : Int} {v : Int32} (d : decode cc pc = .ok ((.iconst i), 1)) (hn : pc + 1 = n) (hv : Int32.ofInt i = v) (kk : yy_Y b H locs k n lv (.int v :: st)) : yy_Y b H locs k pc lv (st) := by
  subst hn
  intro ls hl
  exact lv_iconst F.x F.c d hv (kk ls hl)
theorem yy_bipush (F : yy_A l z b rm cc nL own ret hh Post) {i : Int} {v : Int32} (d : decode cc pc = .ok ((.bipush i), 2)) (hn : pc + 2 = n) (hv : (Int8.ofInt i).toInt32 = v) (kk : yy_Y b H locs k n lv (.int v :: st)) : yy_Y b H locs k pc lv (st) := by
  subst hn
  intro ls hl
  exact lv_bipush F.x F.c d hv (kk ls hl)
theorem yy_sipush (F : yy_A l z b rm cc nL own ret hh Post) {i : Int} {v : Int32} (d : decode cc pc = .ok ((.sipush i), 3)) (hn : pc + 3 = n) (hv : (Int16.ofInt i).toInt32 = v) (kk : yy_Y b H locs k n lv (.int v :: st)) : yy_Y b H locs k pc lv (st) := by
  subst hn
  intro ls hl
  exact lv_sipush F.x F.c d hv (kk ls hl)
theorem yy_lconst (F : yy_A l z b rm cc nL own ret hh Post) {i : Fin 2} {v : Int64} (d : decode cc pc = .ok ((.lconst i), 1)) (hn : pc + 1 = n) (hv : Int64.ofNat (i : Nat) = v) (kk : yy_Y b H locs k n lv (.long v :: st)) : yy_Y b H locs k pc lv (st) := by
  subst hn
  intro ls hl
  exact lv_lconst F.x F.c d hv (kk ls hl)
theorem yy_null (F : yy_A l z b rm cc nL own ret hh Post) (d : decode cc pc = .ok ((.aconst_null), 1)) (hn : pc + 1 = n) (kk : yy_Y b H locs k n lv (.null :: st)) : yy_Y b H locs k pc lv (st) := by
  subst hn
  intro ls hl
  exact lv_null F.x F.c d (kk ls hl)
theorem yy_iload_n (F : yy_A l z b rm cc nL own ret hh Post) {i : Fin 4} {x : Int32} (d : decode cc pc = .ok ((.iload_n i), 1)) (hn : pc + 1 = n) (j : Nat) (hj : lv[j]? = some ((i : Nat), Value.int x)) (kk : yy_Y b H locs k n lv (.int x :: st)) : yy_Y b H locs k pc lv (st) := by
  subst hn
  intro ls hl
  exact lv_iload_n F.x F.c d rfl (lv_at hl j hj) (kk ls hl)
theorem yy_iload (F : yy_A l z b rm cc nL own ret hh Post) {i : Nat} {x : Int32} (d : decode cc pc = .ok ((.iload i), 2)) (hn : pc + 2 = n) (j : Nat) (hj : lv[j]? = some (i, Value.int x)) (kk : yy_Y b H locs k n lv (.int x :: st)) : yy_Y b H locs k pc lv (st) := by
  subst hn
  intro ls hl
  exact lv_iload F.x F.c d (lv_at hl j hj) (kk ls hl)
theorem yy_lload_n (F : yy_A l z b rm cc nL own ret hh Post) {i : Fin 4} {x : Int64} (d : decode cc pc = .ok ((.lload_n i), 1)) (hn : pc + 1 = n) (j : Nat) (hj : lv[j]? = some ((i : Nat), Value.long x)) (kk : yy_Y b H locs k n lv (.long x :: st)) : yy_Y b H locs k pc lv (st) := by
  subst hn
  intro ls hl
  exact lv_lload_n F.x F.c d rfl (lv_at hl j hj) (kk ls hl)
theorem yy_lload (F : yy_A l z b rm cc nL own ret hh Post) {i : Nat} {x : Int64} (d : decode cc pc = .ok ((.lload i), 2)) (hn : pc + 2 = n) (j : Nat) (hj : lv[j]? = some (i, Value.long x)) (kk : yy_Y b H locs k n lv (.long x :: st)) : yy_Y b H locs k pc lv (st) := by
  subst hn
  intro ls hl
  exact lv_lload F.x F.c d (lv_at hl j hj) (kk ls hl)
theorem yy_aload_n (F : yy_A l z b rm cc nL own ret hh Post) {i : Fin 4} {x : Nat} (d : decode cc pc = .ok ((.aload_n i), 1)) (hn : pc + 1 = n) (j : Nat) (hj : lv[j]? = some ((i : Nat), Value.ref x)) (kk : yy_Y b H locs k n lv (.ref x :: st)) : yy_Y b H locs k pc lv (st) := by
  subst hn
  intro ls hl
  exact lv_aload_n F.x F.c d rfl (lv_at hl j hj) (kk ls hl)
theorem yy_aload (F : yy_A l z b rm cc nL own ret hh Post) {i : Nat} {x : Nat} (d : decode cc pc = .ok ((.aload i), 2)) (hn : pc + 2 = n) (j : Nat) (hj : lv[j]? = some (i, Value.ref x)) (kk : yy_Y b H locs k n lv (.ref x :: st)) : yy_Y b H locs k pc lv (st) := by
  subst hn
  intro ls hl
  exact lv_aload F.x F.c d (lv_at hl j hj) (kk ls hl)
theorem yy_aload_nN (F : yy_A l z b rm cc nL own ret hh Post) {i : Fin 4} (d : decode cc pc = .ok ((.aload_n i), 1)) (hn : pc + 1 = n) (j : Nat) (hj : lv[j]? = some ((i : Nat), Value.null)) (kk : yy_Y b H locs k n lv (.null :: st)) : yy_Y b H locs k pc lv (st) := by
  subst hn
  intro ls hl
  exact lv_aload_nN F.x F.c d rfl (lv_at hl j hj) (kk ls hl)
theorem yy_aloadN (F : yy_A l z b rm cc nL own ret hh Post) {i : Nat} (d : decode cc pc = .ok ((.aload i), 2)) (hn : pc + 2 = n) (j : Nat) (hj : lv[j]? = some (i, Value.null)) (kk : yy_Y b H locs k n lv (.null :: st)) : yy_Y b H locs k pc lv (st) := by
  subst hn
  intro ls hl
  exact lv_aloadN F.x F.c d (lv_at hl j hj) (kk ls hl)
theorem yy_istore_n (F : yy_A l z b rm cc nL own ret hh Post) {i : Fin 4} {x : Int32} (d : decode cc pc = .ok ((.istore_n i), 1)) (hn : pc + 1 = n) (hi : (i : Nat) < nL) (hl' : ((i : Nat), Value.int x) :: lv.filter (fun q => !(q.1 == (i : Nat)) && !(q.1 + 1 == (i : Nat) && q.2.category == 2)) = lv') (kk : yy_Y b H locs k n lv' (st)) : yy_Y b H locs k pc lv (.int x :: st) := by
  subst hn
  intro ls hl
  exact lv_istore_n F.x F.c d rfl hl (by rw [F.n]; exact hi) hl' kk
theorem yy_istore (F : yy_A l z b rm cc nL own ret hh Post) {i : Nat} {x : Int32} (d : decode cc pc = .ok ((.istore i), 2)) (hn : pc + 2 = n) (hi : i < nL) (hl' : (i, Value.int x) :: lv.filter (fun q => !(q.1 == i) && !(q.1 + 1 == i && q.2.category == 2)) = lv') (kk : yy_Y b H locs k n lv' (st)) : yy_Y b H locs k pc lv (.int x :: st) := by
  subst hn
  intro ls hl
  exact lv_istore F.x F.c d hl (by rw [F.n]; exact hi) hl' kk
theorem yy_lstore_n (F : yy_A l z b rm cc nL own ret hh Post) {i : Fin 4} {x : Int64} (d : decode cc pc = .ok ((.lstore_n i), 1)) (hn : pc + 1 = n) (hi : (i : Nat) + 1 < nL) (hl' : ((i : Nat), Value.long x) :: lv.filter (fun q => !(q.1 == (i : Nat)) && (!(q.1 == (i : Nat) + 1) && !(q.1 + 1 == (i : Nat) && q.2.category == 2))) = lv') (kk : yy_Y b H locs k n lv' (st)) : yy_Y b H locs k pc lv (.long x :: st) := by
  subst hn
  intro ls hl
  exact lv_lstore_n F.x F.c d rfl hl (by rw [F.n]; exact hi) hl' kk
theorem yy_lstore (F : yy_A l z b rm cc nL own ret hh Post) {i : Nat} {x : Int64} (d : decode cc pc = .ok ((.lstore i), 2)) (hn : pc + 2 = n) (hi : i + 1 < nL) (hl' : (i, Value.long x) :: lv.filter (fun q => !(q.1 == i) && (!(q.1 == i + 1) && !(q.1 + 1 == i && q.2.category == 2))) = lv') (kk : yy_Y b H locs k n lv' (st)) : yy_Y b H locs k pc lv (.long x :: st) := by
  subst hn
  intro ls hl
  exact lv_lstore F.x F.c d hl (by rw [F.n]; exact hi) hl' kk
theorem yy_astore_n (F : yy_A l z b rm cc nL own ret hh Post) {i : Fin 4} {x : Nat} (d : decode cc pc = .ok ((.astore_n i), 1)) (hn : pc + 1 = n) (hi : (i : Nat) < nL) (hl' : ((i : Nat), Value.ref x) :: lv.filter (fun q => !(q.1 == (i : Nat)) && !(q.1 + 1 == (i : Nat) && q.2.category == 2)) = lv') (kk : yy_Y b H locs k n lv' (st)) : yy_Y b H locs k pc lv (.ref x :: st) := by
  subst hn
  intro ls hl
  exact lv_astore_n F.x F.c d rfl hl (by rw [F.n]; exact hi) hl' kk
theorem yy_astore (F : yy_A l z b rm cc nL own ret hh Post) {i : Nat} {x : Nat} (d : decode cc pc = .ok ((.astore i), 2)) (hn : pc + 2 = n) (hi : i < nL) (hl' : (i, Value.ref x) :: lv.filter (fun q => !(q.1 == i) && !(q.1 + 1 == i && q.2.category == 2)) = lv') (kk : yy_Y b H locs k n lv' (st)) : yy_Y b H locs k pc lv (.ref x :: st) := by
  subst hn
  intro ls hl
  exact lv_astore F.x F.c d hl (by rw [F.n]; exact hi) hl' kk
theorem yy_astore_nN (F : yy_A l z b rm cc nL own ret hh Post) {i : Fin 4} (d : decode cc pc = .ok ((.astore_n i), 1)) (hn : pc + 1 = n) (hi : (i : Nat) < nL) (hl' : ((i : Nat), Value.null) :: lv.filter (fun q => !(q.1 == (i : Nat)) && !(q.1 + 1 == (i : Nat) && q.2.category == 2)) = lv') (kk : yy_Y b H locs k n lv' (st)) : yy_Y b H locs k pc lv (.null :: st) := by
  subst hn
  intro ls hl
  exact lv_astore_nN F.x F.c d rfl hl (by rw [F.n]; exact hi) hl' kk
theorem yy_astoreN (F : yy_A l z b rm cc nL own ret hh Post) {i : Nat} (d : decode cc pc = .ok ((.astore i), 2)) (hn : pc + 2 = n) (hi : i < nL) (hl' : (i, Value.null) :: lv.filter (fun q => !(q.1 == i) && !(q.1 + 1 == i && q.2.category == 2)) = lv') (kk : yy_Y b H locs k n lv' (st)) : yy_Y b H locs k pc lv (.null :: st) := by
  subst hn
  intro ls hl
  exact lv_astoreN F.x F.c d hl (by rw [F.n]; exact hi) hl' kk
theorem yy_iinc (F : yy_A l z b rm cc nL own ret hh Post) {i : Nat} {a : Int} {x v : Int32} (d : decode cc pc = .ok ((.iinc i a), 3)) (hn : pc + 3 = n) (j : Nat) (hj : lv[j]? = some (i, Value.int x)) (hv : x + Int32.ofInt a = v) (hi : i < nL) (hl' : (i, Value.int v) :: lv.filter (fun q => !(q.1 == i) && !(q.1 + 1 == i && q.2.category == 2)) = lv') (kk : yy_Y b H locs k n lv' (st)) : yy_Y b H locs k pc lv (st) := by
  subst hn
  intro ls hl
  exact lv_iinc F.x F.c d hl hj hv (by rw [F.n]; exact hi) hl' kk
theorem yy_iadd (F : yy_A l z b rm cc nL own ret hh Post) {x y : Int32} (d : decode cc pc = .ok ((.iadd), 1)) (hn : pc + 1 = n) (kk : yy_Y b H locs k n lv (.int (x + y) :: st)) : yy_Y b H locs k pc lv (.int y :: .int x :: st) := by
  subst hn
  intro ls hl
  exact lv_iadd F.x F.c d (kk ls hl)
theorem yy_isub (F : yy_A l z b rm cc nL own ret hh Post) {x y : Int32} (d : decode cc pc = .ok ((.isub), 1)) (hn : pc + 1 = n) (kk : yy_Y b H locs k n lv (.int (x - y) :: st)) : yy_Y b H locs k pc lv (.int y :: .int x :: st) := by
  subst hn
  intro ls hl
  exact lv_isub F.x F.c d (kk ls hl)
theorem yy_imul (F : yy_A l z b rm cc nL own ret hh Post) {x y : Int32} (d : decode cc pc = .ok ((.imul), 1)) (hn : pc + 1 = n) (kk : yy_Y b H locs k n lv (.int (x * y) :: st)) : yy_Y b H locs k pc lv (.int y :: .int x :: st) := by
  subst hn
  intro ls hl
  exact lv_imul F.x F.c d (kk ls hl)
theorem yy_iand (F : yy_A l z b rm cc nL own ret hh Post) {x y : Int32} (d : decode cc pc = .ok ((.iand), 1)) (hn : pc + 1 = n) (kk : yy_Y b H locs k n lv (.int (x &&& y) :: st)) : yy_Y b H locs k pc lv (.int y :: .int x :: st) := by
  subst hn
  intro ls hl
  exact lv_iand F.x F.c d (kk ls hl)
theorem yy_ior (F : yy_A l z b rm cc nL own ret hh Post) {x y : Int32} (d : decode cc pc = .ok ((.ior), 1)) (hn : pc + 1 = n) (kk : yy_Y b H locs k n lv (.int (x ||| y) :: st)) : yy_Y b H locs k pc lv (.int y :: .int x :: st) := by
  subst hn
  intro ls hl
  exact lv_ior F.x F.c d (kk ls hl)
theorem yy_ixor (F : yy_A l z b rm cc nL own ret hh Post) {x y : Int32} (d : decode cc pc = .ok ((.ixor), 1)) (hn : pc + 1 = n) (kk : yy_Y b H locs k n lv (.int (x ^^^ y) :: st)) : yy_Y b H locs k pc lv (.int y :: .int x :: st) := by
  subst hn
  intro ls hl
  exact lv_ixor F.x F.c d (kk ls hl)
theorem yy_idiv (F : yy_A l z b rm cc nL own ret hh Post) {x y : Int32} (d : decode cc pc = .ok ((.idiv), 1)) (hn : pc + 1 = n) (h0 : ¬ y = 0) (kk : yy_Y b H locs k n lv (.int (x / y) :: st)) : yy_Y b H locs k pc lv (.int y :: .int x :: st) := by
  subst hn
  intro ls hl
  exact lv_idiv F.x F.c d h0 (kk ls hl)
theorem yy_irem (F : yy_A l z b rm cc nL own ret hh Post) {x y : Int32} (d : decode cc pc = .ok ((.irem), 1)) (hn : pc + 1 = n) (h0 : ¬ y = 0) (kk : yy_Y b H locs k n lv (.int (x - x / y * y) :: st)) : yy_Y b H locs k pc lv (.int y :: .int x :: st) := by
  subst hn
  intro ls hl
  exact lv_irem F.x F.c d h0 (kk ls hl)
theorem yy_iushr (F : yy_A l z b rm cc nL own ret hh Post) {x y v : Int32} (d : decode cc pc = .ok ((.iushr), 1)) (hn : pc + 1 = n) (hv : (x.toUInt32 >>> (y.toUInt32 &&& Int32.toUInt32 31)).toInt32 = v) (kk : yy_Y b H locs k n lv (.int v :: st)) : yy_Y b H locs k pc lv (.int y :: .int x :: st) := by
  subst hn
  intro ls hl
  exact lv_iushr F.x F.c d hv (kk ls hl)
theorem yy_ineg (F : yy_A l z b rm cc nL own ret hh Post) {x : Int32} (d : decode cc pc = .ok ((.ineg), 1)) (hn : pc + 1 = n) (kk : yy_Y b H locs k n lv (.int (-x) :: st)) : yy_Y b H locs k pc lv (.int x :: st) := by
  subst hn
  intro ls hl
  exact lv_ineg F.x F.c d (kk ls hl)
theorem yy_i2l (F : yy_A l z b rm cc nL own ret hh Post) {x : Int32} {v : Int64} (d : decode cc pc = .ok ((.i2l), 1)) (hn : pc + 1 = n) (hv : x.toInt64 = v) (kk : yy_Y b H locs k n lv (.long v :: st)) : yy_Y b H locs k pc lv (.int x :: st) := by
  subst hn
  intro ls hl
  exact lv_i2l F.x F.c d hv (kk ls hl)
theorem yy_lcmp (F : yy_A l z b rm cc nL own ret hh Post) {x y : Int64} (d : decode cc pc = .ok ((.lcmp), 1)) (hn : pc + 1 = n) (kk : yy_Y b H locs k n lv (.int (lg_cmp x y) :: st)) : yy_Y b H locs k pc lv (.long y :: .long x :: st) := by
  subst hn
  intro ls hl
  exact W.lcmp F.x F.c d (kk ls hl)
theorem yy_dup (F : yy_A l z b rm cc nL own ret hh Post) {u : Value} (d : decode cc pc = .ok ((.dup), 1)) (hn : pc + 1 = n) (h1 : u.category = 1) (kk : yy_Y b H locs k n lv (u :: u :: st)) : yy_Y b H locs k pc lv (u :: st) := by
  subst hn
  intro ls hl
  exact lv_dup F.x F.c d h1 (kk ls hl)
theorem yy_pop (F : yy_A l z b rm cc nL own ret hh Post) {u : Value} (d : decode cc pc = .ok ((.pop), 1)) (hn : pc + 1 = n) (h1 : u.category = 1) (kk : yy_Y b H locs k n lv (st)) : yy_Y b H locs k pc lv (u :: st) := by
  subst hn
  intro ls hl
  exact lv_pop F.x F.c d h1 (kk ls hl)
theorem yy_dup_x1 (F : yy_A l z b rm cc nL own ret hh Post) {u w : Value} (d : decode cc pc = .ok ((.dup_x1), 1)) (hn : pc + 1 = n) (h1 : u.category = 1) (h2 : w.category = 1) (kk : yy_Y b H locs k n lv (u :: w :: u :: st)) : yy_Y b H locs k pc lv (u :: w :: st) := by
  subst hn
  intro ls hl
  exact lv_dup_x1 F.x F.c d h1 h2 (kk ls hl)
theorem yy_dup_x2 (F : yy_A l z b rm cc nL own ret hh Post) {u w y : Value} (d : decode cc pc = .ok ((.dup_x2), 1)) (hn : pc + 1 = n) (h1 : u.category = 1) (h2 : w.category = 1) (h3 : y.category = 1) (kk : yy_Y b H locs k n lv (u :: w :: y :: u :: st)) : yy_Y b H locs k pc lv (u :: w :: y :: st) := by
  subst hn
  intro ls hl
  exact lv_dup_x2 F.x F.c d h1 h2 h3 (kk ls hl)
theorem yy_dup2 (F : yy_A l z b rm cc nL own ret hh Post) {u w : Value} (d : decode cc pc = .ok ((.dup2), 1)) (hn : pc + 1 = n) (h1 : u.category = 1) (h2 : w.category = 1) (kk : yy_Y b H locs k n lv (u :: w :: u :: w :: st)) : yy_Y b H locs k pc lv (u :: w :: st) := by
  subst hn
  intro ls hl
  exact lv_dup2_11 F.x F.c d h1 h2 (kk ls hl)
theorem yy_if_eq (F : yy_A l z b rm cc nL own ret hh Post) {x : Int32} {off : Int} {tgt : Nat} (d : decode cc pc = .ok (.ifCond .eq off, 3)) (hn : pc + 3 = n) (ht : (pc : Int) + off = (tgt : Int)) (kt : x = 0 → yy_Y b H locs k tgt lv st) (kf : ¬ (x = 0) → yy_Y b H locs k n lv st) : yy_Y b H locs k pc lv (.int x :: st) := by
  subst hn
  intro ls hl
  exact lv_if_eq F.x F.c d ht (fun h => kt h ls hl) (fun h => kf h ls hl)
theorem yy_if_eq_t (F : yy_A l z b rm cc nL own ret hh Post) {x : Int32} {off : Int} {tgt : Nat} (d : decode cc pc = .ok (.ifCond .eq off, 3)) (ht : (pc : Int) + off = (tgt : Int)) (h : x = 0) (kt : yy_Y b H locs k tgt lv st) : yy_Y b H locs k pc lv (.int x :: st) := yy_if_eq F d rfl ht (fun _ => kt) (fun q => absurd h q)
theorem yy_if_eq_f (F : yy_A l z b rm cc nL own ret hh Post) {x : Int32} {off : Int} {tgt : Nat} (d : decode cc pc = .ok (.ifCond .eq off, 3)) (hn : pc + 3 = n) (ht : (pc : Int) + off = (tgt : Int)) (h : ¬ (x = 0)) (kf : yy_Y b H locs k n lv st) : yy_Y b H locs k pc lv (.int x :: st) := yy_if_eq F d hn ht (fun q => absurd q h) (fun _ => kf)
theorem yy_ic_eq (F : yy_A l z b rm cc nL own ret hh Post) {x y : Int32} {off : Int} {tgt : Nat} (d : decode cc pc = .ok (.if_icmp .eq off, 3)) (hn : pc + 3 = n) (ht : (pc : Int) + off = (tgt : Int)) (kt : x = y → yy_Y b H locs k tgt lv st) (kf : ¬ (x = y) → yy_Y b H locs k n lv st) : yy_Y b H locs k pc lv (.int y :: .int x :: st) := by
  subst hn
  intro ls hl
  exact lv_icmp_eq F.x F.c d ht (fun h => kt h ls hl) (fun h => kf h ls hl)
theorem yy_ic_eq_t (F : yy_A l z b rm cc nL own ret hh Post) {x y : Int32} {off : Int} {tgt : Nat} (d : decode cc pc = .ok (.if_icmp .eq off, 3)) (ht : (pc : Int) + off = (tgt : Int)) (h : x = y) (kt : yy_Y b H locs k tgt lv st) : yy_Y b H locs k pc lv (.int y :: .int x :: st) := yy_ic_eq F d rfl ht (fun _ => kt) (fun q => absurd h q)
theorem yy_ic_eq_f (F : yy_A l z b rm cc nL own ret hh Post) {x y : Int32} {off : Int} {tgt : Nat} (d : decode cc pc = .ok (.if_icmp .eq off, 3)) (hn : pc + 3 = n) (ht : (pc : Int) + off = (tgt : Int)) (h : ¬ (x = y)) (kf : yy_Y b H locs k n lv st) : yy_Y b H locs k pc lv (.int y :: .int x :: st) := yy_ic_eq F d hn ht (fun q => absurd q h) (fun _ => kf)
theorem yy_if_ne (F : yy_A l z b rm cc nL own ret hh Post) {x : Int32} {off : Int} {tgt : Nat} (d : decode cc pc = .ok (.ifCond .ne off, 3)) (hn : pc + 3 = n) (ht : (pc : Int) + off = (tgt : Int)) (kt : ¬ x = 0 → yy_Y b H locs k tgt lv st) (kf : x = 0 → yy_Y b H locs k n lv st) : yy_Y b H locs k pc lv (.int x :: st) := by
  subst hn
  intro ls hl
  exact lv_if_ne F.x F.c d ht (fun h => kt h ls hl) (fun h => kf h ls hl)
theorem yy_if_ne_t (F : yy_A l z b rm cc nL own ret hh Post) {x : Int32} {off : Int} {tgt : Nat} (d : decode cc pc = .ok (.ifCond .ne off, 3)) (ht : (pc : Int) + off = (tgt : Int)) (h : ¬ x = 0) (kt : yy_Y b H locs k tgt lv st) : yy_Y b H locs k pc lv (.int x :: st) := yy_if_ne F d rfl ht (fun _ => kt) (fun q => absurd q h)
theorem yy_if_ne_f (F : yy_A l z b rm cc nL own ret hh Post) {x : Int32} {off : Int} {tgt : Nat} (d : decode cc pc = .ok (.ifCond .ne off, 3)) (hn : pc + 3 = n) (ht : (pc : Int) + off = (tgt : Int)) (h : x = 0) (kf : yy_Y b H locs k n lv st) : yy_Y b H locs k pc lv (.int x :: st) := yy_if_ne F d hn ht (fun q => absurd h q) (fun _ => kf)
theorem yy_ic_ne (F : yy_A l z b rm cc nL own ret hh Post) {x y : Int32} {off : Int} {tgt : Nat} (d : decode cc pc = .ok (.if_icmp .ne off, 3)) (hn : pc + 3 = n) (ht : (pc : Int) + off = (tgt : Int)) (kt : ¬ x = y → yy_Y b H locs k tgt lv st) (kf : x = y → yy_Y b H locs k n lv st) : yy_Y b H locs k pc lv (.int y :: .int x :: st) := by
  subst hn
  intro ls hl
  exact lv_icmp_ne F.x F.c d ht (fun h => kt h ls hl) (fun h => kf h ls hl)
theorem yy_ic_ne_t (F : yy_A l z b rm cc nL own ret hh Post) {x y : Int32} {off : Int} {tgt : Nat} (d : decode cc pc = .ok (.if_icmp .ne off, 3)) (ht : (pc : Int) + off = (tgt : Int)) (h : ¬ x = y) (kt : yy_Y b H locs k tgt lv st) : yy_Y b H locs k pc lv (.int y :: .int x :: st) := yy_ic_ne F d rfl ht (fun _ => kt) (fun q => absurd q h)
theorem yy_ic_ne_f (F : yy_A l z b rm cc nL own ret hh Post) {x y : Int32} {off : Int} {tgt : Nat} (d : decode cc pc = .ok (.if_icmp .ne off, 3)) (hn : pc + 3 = n) (ht : (pc : Int) + off = (tgt : Int)) (h : x = y) (kf : yy_Y b H locs k n lv st) : yy_Y b H locs k pc lv (.int y :: .int x :: st) := yy_ic_ne F d hn ht (fun q => absurd h q) (fun _ => kf)
theorem yy_if_lt (F : yy_A l z b rm cc nL own ret hh Post) {x : Int32} {off : Int} {tgt : Nat} (d : decode cc pc = .ok (.ifCond .lt off, 3)) (hn : pc + 3 = n) (ht : (pc : Int) + off = (tgt : Int)) (kt : x < 0 → yy_Y b H locs k tgt lv st) (kf : ¬ (x < 0) → yy_Y b H locs k n lv st) : yy_Y b H locs k pc lv (.int x :: st) := by
  subst hn
  intro ls hl
  exact lv_if_lt F.x F.c d ht (fun h => kt h ls hl) (fun h => kf h ls hl)
theorem yy_if_lt_t (F : yy_A l z b rm cc nL own ret hh Post) {x : Int32} {off : Int} {tgt : Nat} (d : decode cc pc = .ok (.ifCond .lt off, 3)) (ht : (pc : Int) + off = (tgt : Int)) (h : x < 0) (kt : yy_Y b H locs k tgt lv st) : yy_Y b H locs k pc lv (.int x :: st) := yy_if_lt F d rfl ht (fun _ => kt) (fun q => absurd h q)
theorem yy_if_lt_f (F : yy_A l z b rm cc nL own ret hh Post) {x : Int32} {off : Int} {tgt : Nat} (d : decode cc pc = .ok (.ifCond .lt off, 3)) (hn : pc + 3 = n) (ht : (pc : Int) + off = (tgt : Int)) (h : ¬ (x < 0)) (kf : yy_Y b H locs k n lv st) : yy_Y b H locs k pc lv (.int x :: st) := yy_if_lt F d hn ht (fun q => absurd q h) (fun _ => kf)
theorem yy_ic_lt (F : yy_A l z b rm cc nL own ret hh Post) {x y : Int32} {off : Int} {tgt : Nat} (d : decode cc pc = .ok (.if_icmp .lt off, 3)) (hn : pc + 3 = n) (ht : (pc : Int) + off = (tgt : Int)) (kt : x < y → yy_Y b H locs k tgt lv st) (kf : ¬ (x < y) → yy_Y b H locs k n lv st) : yy_Y b H locs k pc lv (.int y :: .int x :: st) := by
  subst hn
  intro ls hl
  exact lv_icmp_lt F.x F.c d ht (fun h => kt h ls hl) (fun h => kf h ls hl)
theorem yy_ic_lt_t (F : yy_A l z b rm cc nL own ret hh Post) {x y : Int32} {off : Int} {tgt : Nat} (d : decode cc pc = .ok (.if_icmp .lt off, 3)) (ht : (pc : Int) + off = (tgt : Int)) (h : x < y) (kt : yy_Y b H locs k tgt lv st) : yy_Y b H locs k pc lv (.int y :: .int x :: st) := yy_ic_lt F d rfl ht (fun _ => kt) (fun q => absurd h q)
theorem yy_ic_lt_f (F : yy_A l z b rm cc nL own ret hh Post) {x y : Int32} {off : Int} {tgt : Nat} (d : decode cc pc = .ok (.if_icmp .lt off, 3)) (hn : pc + 3 = n) (ht : (pc : Int) + off = (tgt : Int)) (h : ¬ (x < y)) (kf : yy_Y b H locs k n lv st) : yy_Y b H locs k pc lv (.int y :: .int x :: st) := yy_ic_lt F d hn ht (fun q => absurd q h) (fun _ => kf)
theorem yy_if_ge (F : yy_A l z b rm cc nL own ret hh Post) {x : Int32} {off : Int} {tgt : Nat} (d : decode cc pc = .ok (.ifCond .ge off, 3)) (hn : pc + 3 = n) (ht : (pc : Int) + off = (tgt : Int)) (kt : 0 ≤ x → yy_Y b H locs k tgt lv st) (kf : ¬ (0 ≤ x) → yy_Y b H locs k n lv st) : yy_Y b H locs k pc lv (.int x :: st) := by
  subst hn
  intro ls hl
  exact lv_if_ge F.x F.c d ht (fun h => kt h ls hl) (fun h => kf h ls hl)
theorem yy_if_ge_t (F : yy_A l z b rm cc nL own ret hh Post) {x : Int32} {off : Int} {tgt : Nat} (d : decode cc pc = .ok (.ifCond .ge off, 3)) (ht : (pc : Int) + off = (tgt : Int)) (h : 0 ≤ x) (kt : yy_Y b H locs k tgt lv st) : yy_Y b H locs k pc lv (.int x :: st) := yy_if_ge F d rfl ht (fun _ => kt) (fun q => absurd h q)
theorem yy_if_ge_f (F : yy_A l z b rm cc nL own ret hh Post) {x : Int32} {off : Int} {tgt : Nat} (d : decode cc pc = .ok (.ifCond .ge off, 3)) (hn : pc + 3 = n) (ht : (pc : Int) + off = (tgt : Int)) (h : ¬ (0 ≤ x)) (kf : yy_Y b H locs k n lv st) : yy_Y b H locs k pc lv (.int x :: st) := yy_if_ge F d hn ht (fun q => absurd q h) (fun _ => kf)
theorem yy_ic_ge (F : yy_A l z b rm cc nL own ret hh Post) {x y : Int32} {off : Int} {tgt : Nat} (d : decode cc pc = .ok (.if_icmp .ge off, 3)) (hn : pc + 3 = n) (ht : (pc : Int) + off = (tgt : Int)) (kt : y ≤ x → yy_Y b H locs k tgt lv st) (kf : ¬ (y ≤ x) → yy_Y b H locs k n lv st) : yy_Y b H locs k pc lv (.int y :: .int x :: st) := by
  subst hn
  intro ls hl
  exact lv_icmp_ge F.x F.c d ht (fun h => kt h ls hl) (fun h => kf h ls hl)
theorem yy_ic_ge_t (F : yy_A l z b rm cc nL own ret hh Post) {x y : Int32} {off : Int} {tgt : Nat} (d : decode cc pc = .ok (.if_icmp .ge off, 3)) (ht : (pc : Int) + off = (tgt : Int)) (h : y ≤ x) (kt : yy_Y b H locs k tgt lv st) : yy_Y b H locs k pc lv (.int y :: .int x :: st) := yy_ic_ge F d rfl ht (fun _ => kt) (fun q => absurd h q)
theorem yy_ic_ge_f (F : yy_A l z b rm cc nL own ret hh Post) {x y : Int32} {off : Int} {tgt : Nat} (d : decode cc pc = .ok (.if_icmp .ge off, 3)) (hn : pc + 3 = n) (ht : (pc : Int) + off = (tgt : Int)) (h : ¬ (y ≤ x)) (kf : yy_Y b H locs k n lv st) : yy_Y b H locs k pc lv (.int y :: .int x :: st) := yy_ic_ge F d hn ht (fun q => absurd q h) (fun _ => kf)
theorem yy_if_gt (F : yy_A l z b rm cc nL own ret hh Post) {x : Int32} {off : Int} {tgt : Nat} (d : decode cc pc = .ok (.ifCond .gt off, 3)) (hn : pc + 3 = n) (ht : (pc : Int) + off = (tgt : Int)) (kt : 0 < x → yy_Y b H locs k tgt lv st) (kf : ¬ (0 < x) → yy_Y b H locs k n lv st) : yy_Y b H locs k pc lv (.int x :: st) := by
  subst hn
  intro ls hl
  exact lv_if_gt F.x F.c d ht (fun h => kt h ls hl) (fun h => kf h ls hl)
theorem yy_if_gt_t (F : yy_A l z b rm cc nL own ret hh Post) {x : Int32} {off : Int} {tgt : Nat} (d : decode cc pc = .ok (.ifCond .gt off, 3)) (ht : (pc : Int) + off = (tgt : Int)) (h : 0 < x) (kt : yy_Y b H locs k tgt lv st) : yy_Y b H locs k pc lv (.int x :: st) := yy_if_gt F d rfl ht (fun _ => kt) (fun q => absurd h q)
theorem yy_if_gt_f (F : yy_A l z b rm cc nL own ret hh Post) {x : Int32} {off : Int} {tgt : Nat} (d : decode cc pc = .ok (.ifCond .gt off, 3)) (hn : pc + 3 = n) (ht : (pc : Int) + off = (tgt : Int)) (h : ¬ (0 < x)) (kf : yy_Y b H locs k n lv st) : yy_Y b H locs k pc lv (.int x :: st) := yy_if_gt F d hn ht (fun q => absurd q h) (fun _ => kf)
theorem yy_ic_gt (F : yy_A l z b rm cc nL own ret hh Post) {x y : Int32} {off : Int} {tgt : Nat} (d : decode cc pc = .ok (.if_icmp .gt off, 3)) (hn : pc + 3 = n) (ht : (pc : Int) + off = (tgt : Int)) (kt : y < x → yy_Y b H locs k tgt lv st) (kf : ¬ (y < x) → yy_Y b H locs k n lv st) : yy_Y b H locs k pc lv (.int y :: .int x :: st) := by
  subst hn
  intro ls hl
  exact lv_icmp_gt F.x F.c d ht (fun h => kt h ls hl) (fun h => kf h ls hl)
theorem yy_ic_gt_t (F : yy_A l z b rm cc nL own ret hh Post) {x y : Int32} {off : Int} {tgt : Nat} (d : decode cc pc = .ok (.if_icmp .gt off, 3)) (ht : (pc : Int) + off = (tgt : Int)) (h : y < x) (kt : yy_Y b H locs k tgt lv st) : yy_Y b H locs k pc lv (.int y :: .int x :: st) := yy_ic_gt F d rfl ht (fun _ => kt) (fun q => absurd h q)
theorem yy_ic_gt_f (F : yy_A l z b rm cc nL own ret hh Post) {x y : Int32} {off : Int} {tgt : Nat} (d : decode cc pc = .ok (.if_icmp .gt off, 3)) (hn : pc + 3 = n) (ht : (pc : Int) + off = (tgt : Int)) (h : ¬ (y < x)) (kf : yy_Y b H locs k n lv st) : yy_Y b H locs k pc lv (.int y :: .int x :: st) := yy_ic_gt F d hn ht (fun q => absurd q h) (fun _ => kf)
theorem yy_if_le (F : yy_A l z b rm cc nL own ret hh Post) {x : Int32} {off : Int} {tgt : Nat} (d : decode cc pc = .ok (.ifCond .le off, 3)) (hn : pc + 3 = n) (ht : (pc : Int) + off = (tgt : Int)) (kt : x ≤ 0 → yy_Y b H locs k tgt lv st) (kf : ¬ (x ≤ 0) → yy_Y b H locs k n lv st) : yy_Y b H locs k pc lv (.int x :: st) := by
  subst hn
  intro ls hl
  exact lv_if_le F.x F.c d ht (fun h => kt h ls hl) (fun h => kf h ls hl)
theorem yy_if_le_t (F : yy_A l z b rm cc nL own ret hh Post) {x : Int32} {off : Int} {tgt : Nat} (d : decode cc pc = .ok (.ifCond .le off, 3)) (ht : (pc : Int) + off = (tgt : Int)) (h : x ≤ 0) (kt : yy_Y b H locs k tgt lv st) : yy_Y b H locs k pc lv (.int x :: st) := yy_if_le F d rfl ht (fun _ => kt) (fun q => absurd h q)
theorem yy_if_le_f (F : yy_A l z b rm cc nL own ret hh Post) {x : Int32} {off : Int} {tgt : Nat} (d : decode cc pc = .ok (.ifCond .le off, 3)) (hn : pc + 3 = n) (ht : (pc : Int) + off = (tgt : Int)) (h : ¬ (x ≤ 0)) (kf : yy_Y b H locs k n lv st) : yy_Y b H locs k pc lv (.int x :: st) := yy_if_le F d hn ht (fun q => absurd q h) (fun _ => kf)
theorem yy_ic_le (F : yy_A l z b rm cc nL own ret hh Post) {x y : Int32} {off : Int} {tgt : Nat} (d : decode cc pc = .ok (.if_icmp .le off, 3)) (hn : pc + 3 = n) (ht : (pc : Int) + off = (tgt : Int)) (kt : x ≤ y → yy_Y b H locs k tgt lv st) (kf : ¬ (x ≤ y) → yy_Y b H locs k n lv st) : yy_Y b H locs k pc lv (.int y :: .int x :: st) := by
  subst hn
  intro ls hl
  exact lv_icmp_le F.x F.c d ht (fun h => kt h ls hl) (fun h => kf h ls hl)
theorem yy_ic_le_t (F : yy_A l z b rm cc nL own ret hh Post) {x y : Int32} {off : Int} {tgt : Nat} (d : decode cc pc = .ok (.if_icmp .le off, 3)) (ht : (pc : Int) + off = (tgt : Int)) (h : x ≤ y) (kt : yy_Y b H locs k tgt lv st) : yy_Y b H locs k pc lv (.int y :: .int x :: st) := yy_ic_le F d rfl ht (fun _ => kt) (fun q => absurd h q)
theorem yy_ic_le_f (F : yy_A l z b rm cc nL own ret hh Post) {x y : Int32} {off : Int} {tgt : Nat} (d : decode cc pc = .ok (.if_icmp .le off, 3)) (hn : pc + 3 = n) (ht : (pc : Int) + off = (tgt : Int)) (h : ¬ (x ≤ y)) (kf : yy_Y b H locs k n lv st) : yy_Y b H locs k pc lv (.int y :: .int x :: st) := yy_ic_le F d hn ht (fun q => absurd q h) (fun _ => kf)
theorem yy_goto (F : yy_A l z b rm cc nL own ret hh Post) {off : Int} {tgt : Nat} (d : decode cc pc = .ok (.goto off, 3)) (ht : (pc : Int) + off = (tgt : Int)) (kk : yy_Y b H locs k tgt lv st) : yy_Y b H locs k pc lv st := by
  intro ls hl
  exact lv_goto F.x F.c d ht (kk ls hl)
theorem yy_ifnonnull_t (F : yy_A l z b rm cc nL own ret hh Post) {x : Nat} {off : Int} {tgt : Nat} (d : decode cc pc = .ok (.ifnonnull off, 3)) (ht : (pc : Int) + off = (tgt : Int)) (kk : yy_Y b H locs k tgt lv st) : yy_Y b H locs k pc lv (.ref x :: st) := by
  intro ls hl
  exact lv_ifnonnull F.x F.c d ht (kk ls hl)
theorem yy_ifnull_f (F : yy_A l z b rm cc nL own ret hh Post) {x : Nat} {off : Int} (d : decode cc pc = .ok (.ifnull off, 3)) (hn : pc + 3 = n) (kk : yy_Y b H locs k n lv st) : yy_Y b H locs k pc lv (.ref x :: st) := by
  subst hn
  intro ls hl
  exact lv_ifnull F.x F.c d (kk ls hl)
theorem yy_ifnull_t (F : yy_A l z b rm cc nL own ret hh Post) {off : Int} {tgt : Nat} (d : decode cc pc = .ok (.ifnull off, 3)) (ht : (pc : Int) + off = (tgt : Int)) (kk : yy_Y b H locs k tgt lv st) : yy_Y b H locs k pc lv (.null :: st) := by
  intro ls hl
  exact lv_ifnullN F.x F.c d ht (kk ls hl)
theorem yy_ifnonnull_f (F : yy_A l z b rm cc nL own ret hh Post) {off : Int} (d : decode cc pc = .ok (.ifnonnull off, 3)) (hn : pc + 3 = n) (kk : yy_Y b H locs k n lv st) : yy_Y b H locs k pc lv (.null :: st) := by
  subst hn
  intro ls hl
  exact lv_ifnonnullN F.x F.c d (kk ls hl)
theorem yy_topi {x : Int32} (kk : ∀ y : Int32, y = x → yy_Y b H locs k pc lv (.int y :: st)) : yy_Y b H locs k pc lv (.int x :: st) := kk x rfl
theorem yy_widen {k' : Nat × Nat} (h1 : k.1 ≤ k'.1) (h2 : k.2 ≤ k'.2) (kk : yy_Y b H locs k' pc lv st) : yy_Y b H locs k pc lv st := fun ls hl => W.widen h1 h2 (kk ls hl)
theorem yy_sub (js : List Nat) (hl' : lv_pick lv js = lv') (kk : yy_Y b H locs k pc lv' st) : yy_Y b H locs k pc lv st := fun ls hl => kk ls (lv_sub hl js hl')
end YRa
end YR
