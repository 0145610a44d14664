/-! PART rowsC: fields and receivers of a container whose class is known by its kind alone -/
section CR
variable {l : Launch} {z : State} {b : yy_T} {rm : Room} {cc : ByteArray} {nL : Nat} {own : String} {ret : Option FieldType} {hh : List (Nat × Nat × Nat × Nat)} {Post : yy_R → Heap → Prop}
variable {H : Heap} {locs : List Loc} {k : Nat × Nat} {pc n : Nat} {lv lv' : List (Nat × Value)} {st : List Value}
variable {a0 : Array Value} {D : va_G} {ca : kca} {A : kA} {σ : ks} {c idx : Nat}
theorem ck_at.c6 (P : ck_at D ca z A σ H) (hc : c < k_m σ) (hk : k_kd σ c = 6) : va_at D kcl (a_ad A c, .inr (2, [.int 6, .ref (a_sa A (k_bs σ c)), va_rf (k_ab A σ c), .int (nI (k_fs σ c)), .int (nI (k_ln σ c)), .int (nI (k_se σ c))])) H := by
  have h := P.c hc
  unfold co_at k_ci k_fl at h
  rw [if_pos hk, if_pos hk] at h
  exact h
theorem ck_at.c7 (P : ck_at D ca z A σ H) (hc : c < k_m σ) (hk : k_kd σ c = 7) : va_at D kcl (a_ad A c, .inr (3, [.int 7, .ref (a_sa A (k_bs σ c)), .int (k_lo σ c), .int (k_hi σ c)])) H := by
  have h := P.c hc
  unfold co_at k_ci k_fl at h
  have h6 : ¬ k_kd σ c = 6 := fun q => absurd (q.symm.trans hk) (by decide)
  rw [if_neg h6, if_neg h6, if_pos hk, if_pos hk] at h
  exact h
theorem ck_at.c0 (P : ck_at D ca z A σ H) (hc : c < k_m σ) (h6 : ¬ k_kd σ c = 6) (h7 : ¬ k_kd σ c = 7) : va_at D kcl (a_ad A c, .inr (1, [.int (k_kd σ c), .ref (a_sa A (k_bs σ c))])) H := by
  have h := P.c hc
  unfold co_at k_ci k_fl at h
  rw [if_neg h6, if_neg h6, if_neg h7, if_neg h7] at h
  exact h
theorem cr_kind (F : yy_A l z b rm cc nL own ret hh Post) (X : kcx l z a0 D ca) (G1 : yy_G lw_tbl kcl own idx 1 0) (G2 : yy_G lw_tbl kcl own idx 2 0) (G3 : yy_G lw_tbl kcl own idx 3 0) (P : ck_at D ca z A σ H) (hc : c < k_m σ) (d : decode cc pc = .ok (.getfield idx, 3)) (hn : pc + 3 = n) (kk : yy_Y b H locs k n lv (.int (k_kd σ c) :: st)) : yy_Y b H locs k pc lv (.ref (a_ad A c) :: st) := by
  by_cases h6 : k_kd σ c = 6
  · exact yy_get F X.1 X.2.1 G2 (P.c6 hc h6) rfl d hn (by rw [h6] at kk; exact kk)
  · by_cases h7 : k_kd σ c = 7
    · exact yy_get F X.1 X.2.1 G3 (P.c7 hc h7) rfl d hn (by rw [h7] at kk; exact kk)
    · exact yy_get F X.1 X.2.1 G1 (P.c0 hc h6 h7) rfl d hn kk
theorem cr_store (F : yy_A l z b rm cc nL own ret hh Post) (X : kcx l z a0 D ca) (G1 : yy_G lw_tbl kcl own idx 1 1) (G2 : yy_G lw_tbl kcl own idx 2 1) (G3 : yy_G lw_tbl kcl own idx 3 1) (P : ck_at D ca z A σ H) (hc : c < k_m σ) (d : decode cc pc = .ok (.getfield idx, 3)) (hn : pc + 3 = n) (kk : yy_Y b H locs k n lv (.ref (a_sa A (k_bs σ c)) :: st)) : yy_Y b H locs k pc lv (.ref (a_ad A c) :: st) := by
  by_cases h6 : k_kd σ c = 6
  · exact yy_get F X.1 X.2.1 G2 (P.c6 hc h6) rfl d hn kk
  · by_cases h7 : k_kd σ c = 7
    · exact yy_get F X.1 X.2.1 G3 (P.c7 hc h7) rfl d hn kk
    · exact yy_get F X.1 X.2.1 G1 (P.c0 hc h6 h7) rfl d hn kk
/-- a container's class, by its kind -/
def k_cls (σ : ks) (c : Nat) : String := if k_kd σ c = 6 then R_P else if k_kd σ c = 7 then R_R else R_G
theorem ck_at.recv {s : State} (P : ck_at D ca z A σ H) (hc : c < k_m σ) (X : kcx l z a0 D ca) (hN : yy_N z s) : ∃ cell : Cell, H[a_ad A c]? = some cell ∧ cell.vm.isStatics = false ∧ s.vm.findClass (k_cls σ c) = some cell.cls := by
  unfold k_cls
  by_cases h6 : k_kd σ c = 6
  · rw [if_pos h6]
    exact yy_recv hN X.2.1 (ci := 2) rfl (P.c6 hc h6)
  · by_cases h7 : k_kd σ c = 7
    · rw [if_neg h6, if_pos h7]
      exact yy_recv hN X.2.1 (ci := 3) rfl (P.c7 hc h7)
    · rw [if_neg h6, if_neg h7]
      exact yy_recv hN X.2.1 (ci := 1) rfl (P.c0 hc h6 h7)
theorem k_sel {x y : MethodName} (h1 : Cond.selects R_G x y ∈ lw_tbl) (h2 : Cond.selects R_P x y ∈ lw_tbl) (h3 : Cond.selects R_R x y ∈ lw_tbl) (σ : ks) (c : Nat) : Cond.selects (k_cls σ c) x y ∈ lw_tbl := by
  unfold k_cls
  split
  · exact h2
  · split
    · exact h3
    · exact h1
theorem k_cls6 (h : k_kd σ c = 6) : k_cls σ c = R_P := if_pos h
theorem k_cls7 (h : k_kd σ c = 7) : k_cls σ c = R_R := by
  unfold k_cls
  rw [if_neg (fun q => absurd (q.symm.trans h) (by decide)), if_pos h]
theorem k_cls0 (h6 : ¬ k_kd σ c = 6) (h7 : ¬ k_kd σ c = 7) : k_cls σ c = R_G := by
  unfold k_cls
  rw [if_neg h6, if_neg h7]
/-- a call of a container's method that is overridden nowhere, or by this class -/
theorem yy_invC {x y : MethodName} {nA : Nat} {av : List Value} {rest : List Value} (F : yy_A l z b rm cc nL own ret hh Post) (X : kcx l z a0 D ca) (P : ck_at D ca z A σ H) (hc : c < k_m σ) (hl : Cond.methodLink own idx x ∈ lw_tbl) (hsm : Cond.sameMethod x.cls x.cls x.name x.desc ∈ lw_tbl) (hd0 : ∀ s : State, yy_N z s → va_Decl s x) (hse : Cond.selects (k_cls σ c) x y ∈ lw_tbl) (hin : Cond.instanceMethod y ∈ lw_tbl)
    (hy : x.cls ≠ "java/lang/invoke/MethodHandle" ∧ x.cls ≠ "java/lang/invoke/VarHandle" ∧ (parseMethodDescriptor x.desc).map (fun d => d.parameters.length) = some nA) (hn : av.length = nA) (d : decode cc pc = .ok (.invokevirtual idx, 3)) :
    yy_PB b H locs k y (.ref (a_ad A c) :: av) pc (av.reverse ++ .ref (a_ad A c) :: rest) rest :=
  yy_invU F X.1 hl hsm (hd0 _ F.N) hse hin hy (P.recv hc X F.N) hn d
/-- a method that is declared with code -/
theorem k_dec {x : MethodName} {bytes : ByteArray} {maxL : Nat} {retY : Option FieldType} (X : kcx l z a0 D ca) (hi : Cond.instanceMethod x ∈ lw_tbl) (hc : Cond.code x bytes maxL retY ∈ lw_tbl) : ∀ s : State, yy_N z s → va_Decl s x := fun s hN => va_Decl.of (args := a0) (hN.w X.1 hi rfl) (hN.w X.1 hc rfl)
theorem k_deca {x : MethodName} (X : kcx l z a0 D ca) (hd : Cond.declares x ∈ lw_tbl) : ∀ s : State, yy_N z s → va_Decl s x := fun s hN => hN.decl X.1 hd
end CR
