/-! PART lrow: rows for the law's body: its script, its switch, its helpers; what stands at the loop -/
section Lrow
variable {l : Launch} {z : State} {b : yy_T} {rm : Room} {cc : ByteArray} {nL : Nat} {own : String} {ret : Option FieldType} {hh : List (Nat × Nat × Nat × Nat)} {Post : yy_R → Heap → Prop}
variable {H : Heap} {locs : List Loc} {k : Nat × Nat} {pc n : Nat} {lv lv' : List (Nat × Value)} {st rest : List Value}
variable {Ts : List Cond} {a0 : Array Value} {sc L : Nat} {xs : Nat → Int32} {i x : Int32}
theorem yy_sld (F : yy_A l z b rm cc nL own ret hh Post) (hX : va_X sc L xs z z.heap) (hsc : sc < z.heap.size) (hS : yy_S z H locs) (hi : vp_in i L) (d : decode cc pc = .ok (.iaload, 1)) (hn : pc + 1 = n) (kk : yy_Y b H locs k n lv (.int (xs i.toNatClampNeg) :: st)) : yy_Y b H locs k pc lv (.int i :: .ref sc :: st) := by
  subst hn
  intro ls hl
  exact va_sld F.x F.c (hX.moved F.N.1.alike) hsc (A := fun q => z.heap.size ≤ q) (by omega) ⟨hS.1, fun q h _ => hS.2.1 q h, hS.2.2⟩ hi d (kk ls hl)
theorem yy_slen (F : yy_A l z b rm cc nL own ret hh Post) (hX : va_X sc L xs z z.heap) (hsc : sc < z.heap.size) (hS : yy_S z H locs) (d : decode cc pc = .ok (.arraylength, 1)) (hn : pc + 1 = n) (kk : yy_Y b H locs k n lv (.int (Int32.ofNat L) :: st)) : yy_Y b H locs k pc lv (.ref sc :: st) := by
  subst hn
  intro ls hl
  exact va_slen F.x F.c (hX.moved F.N.1.alike) hsc (A := fun q => z.heap.size ≤ q) (by omega) ⟨hS.1, fun q h _ => hS.2.1 q h, hS.2.2⟩ d (kk ls hl)
theorem yy_tabO (F : yy_A l z b rm cc nL own ret hh Post) {dflt lo hi : Int} {offs : Array Int} {len tgt : Nat} (d : decode cc pc = .ok (.tableswitch dflt lo hi offs, len)) (h : x.toInt < lo ∨ hi < x.toInt) (ht : (pc : Int) + dflt = (tgt : Int)) (kk : yy_Y b H locs k tgt lv st) : yy_Y b H locs k pc lv (.int x :: st) := by
  intro ls hl
  exact lv_tableOut F.x F.c d h ht (kk ls hl)
theorem yy_tabI (F : yy_A l z b rm cc nL own ret hh Post) {dflt lo hi off : Int} {offs : Array Int} {len tgt : Nat} (d : decode cc pc = .ok (.tableswitch dflt lo hi offs, len)) (h1 : ¬ x.toInt < lo) (h2 : ¬ hi < x.toInt) (ho : offs[(x.toInt - lo).toNat]? = some off) (ht : (pc : Int) + off = (tgt : Int)) (kk : yy_Y b H locs k tgt lv st) : yy_Y b H locs k pc lv (.int x :: st) := by
  intro ls hl
  exact lv_tableIn F.x F.c d h1 h2 ho ht (kk ls hl)
variable {y : MethodName} {av : List Value} {idx nA maxL : Nat} {bytes : ByteArray} {retY : Option FieldType} {hy9 : List (Nat × Nat × Nat × Nat)}
theorem yy_Bw (F : yy_A l z b rm cc nL own ret hh Post) (hC : ∀ w ∈ Ts, w.before a0 z = true) (hc : Cond.codeWith y bytes maxL retY hy9 ∈ Ts) (hi : Cond.initialized y.cls ∈ Ts) : yy_B (yy_s b) y (.codeWith y bytes maxL retY hy9) maxL :=
  yy_B.codeW (a := a0) (F.N.w hC hc rfl) (F.N.w hC hi rfl) rfl
theorem yy_invSW (F : yy_A l z b rm cc nL own ret hh Post) (hC : ∀ w ∈ Ts, w.before a0 z = true) (hl : Cond.methodLink own idx y ∈ Ts) (hs : Cond.static y ∈ Ts) (hi : Cond.initialized y.cls ∈ Ts) (hc : Cond.codeWith y bytes maxL retY hy9 ∈ Ts)
    (hy : y.cls ≠ "java/lang/invoke/MethodHandle" ∧ y.cls ≠ "java/lang/invoke/VarHandle" ∧ (parseMethodDescriptor y.desc).map (fun d => d.parameters.length) = some nA) (hn : av.length = nA) (d : decode cc pc = .ok (.invokestatic idx, 3)) :
    yy_PB b H locs k y av pc (av.reverse ++ rest) rest := by
  intro ls
  have hcode : (Cond.codeWith y bytes maxL retY hy9).before (yy_a b) (yy_s b) = true := F.N.w hC hc rfl
  obtain ⟨m9, methM, cM, hn9, h1, -, -, -, -, -, -, h9⟩ := Cond.codeWith_spec hcode
  refine yy_PS F.x F.ow (F.N.w hC hl rfl) (F.N.w hC hs rfl) (F.N.w hC hi rfl) (fun mk hnm => ?_) ⟨_, hn9⟩ ⟨hy.1, hy.2.1⟩ hy.2.2 hn rfl (by rw [F.c]; exact d)
  cases hnm.symm.trans hn9
  exact ⟨methM, h1, h9⟩
end Lrow
/-- what stands at the law's loop: the kit, the reference, the row for answers -/
def l_in (D : va_G) (ca : kca) (z : State) (K a n ou : Nat) (A : kA) (σ : ks) (t : Nat) (s : ms) (cd : Int32) (g : Nat → Int64) (H : Heap) : Prop := iv t σ ∧ ck_at D ca z A σ H ∧ mr s σ ∧ mo_at D ca z a n cd s H ∧ lo_at D ca ou g H ∧ a_k A = K ∧ (a_ow A a = 0 ∧ (∀ j, j < 15 → a_ow A (n + j) = 0) ∧ a_ow A ou = 0) ∧ z.heap.size ≤ ou ∧ ou ≠ a ∧ (ou < n ∨ n + 15 ≤ ou)
theorem mo_at.only {D : va_G} {ca : kca} {z : State} {a n : Nat} {cd : Int32} {s : ms} {H H1 : Heap} (P : mo_at D ca z a n cd s H) (h0 : H1[a]? = H[a]?) (h : ∀ j, j < 15 → H1[n + j]? = H[n + j]?) : mo_at D ca z a n cd s H1 := ⟨P.1, va_at.kept P.o h0, fun j hj => va_at.kept (P.r hj) (h j hj)⟩
/-- behind the helper's call: the kit has changed, the reference stands -/
theorem l_mid {D : va_G} {ca : kca} {z : State} {K a n ou : Nat} {A A' : kA} {σ σ' : ks} {t : Nat} {s : ms} {cd : Int32} {g g' : Nat → Int64} {H H1 : Heap} (Z : l_in D ca z K a n ou A σ t s cd g H) (P : ck_at D ca z A' σ' H1) (hx : kA_ext H.size A A') (O : lo_at D ca ou g' H1) (hs : H.size ≤ H1.size) (hf : ∀ q : Nat, q < H.size → a_ow A q = 0 → q ≠ ou → H1[q]? = H[q]?) : mo_at D ca z a n cd s H1 ∧ a_k A' = K ∧ (a_ow A' a = 0 ∧ (∀ j, j < 15 → a_ow A' (n + j) = 0) ∧ a_ow A' ou = 0) := by
  obtain ⟨z1, z2, z3, z4, z5, z6, ⟨z7, z8, z9⟩, z10, z11, z12⟩ := Z
  have la : a < H.size := va_at.lt z4.o
  have ln : ∀ j, j < 15 → n + j < H.size := fun j hj => va_at.lt (z4.r hj)
  refine ⟨z4.only (hf a la z7 (fun e => z11 e.symm)) (fun j hj => hf (n + j) (ln j hj) (z8 j hj) (by omega)), by rw [hx.1]; exact z6, by rw [hx.2 a la]; exact z7, fun j hj => by rw [hx.2 _ (ln j hj)]; exact z8 j hj, by rw [hx.2 ou (va_at.lt z5)]; exact z9⟩
/-- behind the reference's call -/
theorem l_fin {D : va_G} {ca : kca} {z : State} {K a n ou : Nat} {A : kA} {σ : ks} {t : Nat} {s s1 : ms} {cd cd1 : Int32} {g : Nat → Int64} {H H1 : Heap} (I : iv t σ) (P : ck_at D ca z A σ H) (R : mr s1 σ) (M0 : mo_at D ca z a n cd s H) (M : mo_at D ca z a n cd1 s1 H1) (O : lo_at D ca ou g H) (hK : a_k A = K) (ho : a_ow A a = 0 ∧ (∀ j, j < 15 → a_ow A (n + j) = 0) ∧ a_ow A ou = 0) (hz : z.heap.size ≤ ou ∧ ou ≠ a ∧ (ou < n ∨ n + 15 ≤ ou)) (hk : kpm a n H H1) : l_in D ca z K a n ou A σ t s1 cd1 g H1 := by
  refine ⟨I, P.only (fun q hq => hk.2 q (fun e => hq (by rw [e]; exact ho.1)) ?_) (Nat.le_of_eq hk.1.symm), R, M, va_at.kept O (hk.2 ou hz.2.1 hz.2.2), hK, ho, hz.1, hz.2.1, hz.2.2⟩
  by_cases h1 : q < n
  · exact Or.inl h1
  · refine Or.inr (Nat.le_of_not_lt (fun h2 => hq ?_))
    have := ho.2.1 (q - n) (by omega)
    rw [show n + (q - n) = q by omega] at this
    exact this
theorem lg_cmp0 (x : Int64) : lg_cmp x x = 0 := by
  unfold lg_cmp
  simp
theorem nI_xld {f : Nat → Int32} {j L : Nat} (h : j < L) (hL : L ≤ 2048) : f (nI j).toNatClampNeg = f j := by rw [nI_clamp (by omega)]
