/-! PART spec: what each call answers, and what state it leaves: a name of what is thrown, or none; a value; the state -/
abbrev e_io : String := "java/lang/IndexOutOfBoundsException"
abbrev e_uo : String := "java/lang/UnsupportedOperationException"
abbrev e_ia : String := "java/lang/IllegalArgumentException"
abbrev e_is : String := "java/lang/IllegalStateException"
abbrev e_ns : String := "java/util/NoSuchElementException"
abbrev e_rt : String := "java/lang/RuntimeException"
abbrev kr : Type := Option String × Int32 × ks
abbrev cN (x : Int32) : Nat := x.toNatClampNeg
def kbind (o : Option String) (σ : ks) (r : kr) : kr := match o with | some E => (some E, 0, σ) | none => r
def kdem (b : Bool) (E : String) (σ : ks) (r : kr) : kr := if b = true then r else (some E, 0, σ)
def k_ism (kd : Int32) : Bool := k_ish kd || k_iss kd
def ch_con (σ : ks) (x : Int32) : Option String := if ym_inb x (k_m σ) = true then none else some e_io
def ch_map (σ : ks) (x : Int32) : Option String := if ym_inb x (k_m σ) = true then (if k_ism (k_kd σ (cN x)) = true then none else some e_uo) else some e_io
def ch_fl (σ : ks) (x : Int32) : Option String := if ym_inb x (k_m σ) = true then (if k_isl (k_kd σ (cN x)) = true then (if k_stale σ (cN x) = true then some e_rt else none) else some e_uo) else some e_io
def k_isf (kd : Int32) : Bool := k_isl kd || decide (kd = 5)
def ch_flh (σ : ks) (x : Int32) : Option String := if ym_inb x (k_m σ) = true then (if k_isf (k_kd σ (cN x)) = true then (if k_stale σ (cN x) = true then some e_rt else none) else some e_uo) else some e_io
def ch_wk (σ : ks) (x : Int32) : Option String := if ym_inb x 4 = true then (if (k_W σ (cN x)).1 = none then some e_io else none) else some e_io
def k_ov (σ : ks) (i : Nat) : Nat := match (k_W σ i).1 with | none => 0 | some c => c
theorem inb_cN {x : Int32} {n : Nat} (hn : n < 2 ^ 31) (h : ym_inb x n = true) : cN x < n ∧ x = nI (cN x) := by
  have h1 : ym_in x n := by
    apply Classical.byContradiction
    intro q
    rw [ym_inb_f q] at h
    cases h
  obtain ⟨j, hj, rfl⟩ := h1.nat hn
  rw [show cN (nI j) = j from nI_clamp (by omega)]
  exact ⟨hj, rfl⟩
theorem inb_no {x : Int32} {n : Nat} (h : ¬ ym_inb x n = true) : ¬ ym_in x n := fun q => h (ym_inb_t q)
theorem ch_con_none {σ : ks} {x : Int32} (hm : k_m σ ≤ 10) (h : ch_con σ x = none) : cN x < k_m σ ∧ x = nI (cN x) := by
  unfold ch_con at h
  split at h
  · exact inb_cN (by omega) (by assumption)
  · cases h
theorem ch_con_some {σ : ks} {x : Int32} {E : String} (h : ch_con σ x = some E) : ¬ ym_in x (k_m σ) ∧ E = e_io := by
  unfold ch_con at h
  split at h
  · cases h
  · cases h
    exact ⟨inb_no (by assumption), rfl⟩
theorem ch_map_none {σ : ks} {x : Int32} (hm : k_m σ ≤ 10) (h : ch_map σ x = none) : cN x < k_m σ ∧ x = nI (cN x) ∧ k_ism (k_kd σ (cN x)) = true := by
  unfold ch_map at h
  split at h
  · have h9 := inb_cN (n := k_m σ) (by omega) (by assumption)
    split at h
    · exact ⟨h9.1, h9.2, by assumption⟩
    · cases h
  · cases h
theorem ch_map_some {σ : ks} {x : Int32} {E : String} (hm : k_m σ ≤ 10) (h : ch_map σ x = some E) : ¬ ym_in x (k_m σ) ∧ E = e_io ∨ (cN x < k_m σ ∧ x = nI (cN x)) ∧ k_ism (k_kd σ (cN x)) = false ∧ E = e_uo := by
  unfold ch_map at h
  split at h
  · have h9 := inb_cN (n := k_m σ) (by omega) (by assumption)
    split at h
    · cases h
    · cases h
      exact Or.inr ⟨h9, Bool.eq_false_iff.mpr (by assumption), rfl⟩
  · cases h
    exact Or.inl ⟨inb_no (by assumption), rfl⟩
theorem ch_fl_none {σ : ks} {x : Int32} (hm : k_m σ ≤ 10) (h : ch_fl σ x = none) : cN x < k_m σ ∧ x = nI (cN x) ∧ k_isl (k_kd σ (cN x)) = true ∧ k_stale σ (cN x) = false := by
  unfold ch_fl at h
  split at h
  · have h9 := inb_cN (n := k_m σ) (by omega) (by assumption)
    split at h
    · split at h
      · cases h
      · exact ⟨h9.1, h9.2, by assumption, Bool.eq_false_iff.mpr (by assumption)⟩
    · cases h
  · cases h
theorem ch_fl_some {σ : ks} {x : Int32} {E : String} (hm : k_m σ ≤ 10) (h : ch_fl σ x = some E) : ¬ ym_in x (k_m σ) ∧ E = e_io ∨ (cN x < k_m σ ∧ x = nI (cN x)) ∧ (k_isl (k_kd σ (cN x)) = false ∧ E = e_uo ∨ k_isl (k_kd σ (cN x)) = true ∧ k_stale σ (cN x) = true ∧ E = e_rt) := by
  unfold ch_fl at h
  split at h
  · have h9 := inb_cN (n := k_m σ) (by omega) (by assumption)
    split at h
    · split at h
      · cases h
        exact Or.inr ⟨h9, Or.inr ⟨by assumption, by assumption, rfl⟩⟩
      · cases h
    · cases h
      exact Or.inr ⟨h9, Or.inl ⟨Bool.eq_false_iff.mpr (by assumption), rfl⟩⟩
  · cases h
    exact Or.inl ⟨inb_no (by assumption), rfl⟩
theorem ch_flh_none {σ : ks} {x : Int32} (hm : k_m σ ≤ 10) (h : ch_flh σ x = none) : cN x < k_m σ ∧ x = nI (cN x) ∧ k_isf (k_kd σ (cN x)) = true ∧ k_stale σ (cN x) = false := by
  unfold ch_flh at h
  split at h
  · have h9 := inb_cN (n := k_m σ) (by omega) (by assumption)
    split at h
    · split at h
      · cases h
      · exact ⟨h9.1, h9.2, by assumption, Bool.eq_false_iff.mpr (by assumption)⟩
    · cases h
  · cases h
theorem ch_flh_some {σ : ks} {x : Int32} {E : String} (hm : k_m σ ≤ 10) (h : ch_flh σ x = some E) : ¬ ym_in x (k_m σ) ∧ E = e_io ∨ (cN x < k_m σ ∧ x = nI (cN x)) ∧ (k_isf (k_kd σ (cN x)) = false ∧ E = e_uo ∨ k_isf (k_kd σ (cN x)) = true ∧ k_stale σ (cN x) = true ∧ E = e_rt) := by
  unfold ch_flh at h
  split at h
  · have h9 := inb_cN (n := k_m σ) (by omega) (by assumption)
    split at h
    · split at h
      · cases h
        exact Or.inr ⟨h9, Or.inr ⟨by assumption, by assumption, rfl⟩⟩
      · cases h
    · cases h
      exact Or.inr ⟨h9, Or.inl ⟨Bool.eq_false_iff.mpr (by assumption), rfl⟩⟩
  · cases h
    exact Or.inl ⟨inb_no (by assumption), rfl⟩
theorem ch_wk_none {t : Nat} {σ : ks} {x : Int32} (I : iv t σ) (h : ch_wk σ x = none) : cN x < 4 ∧ x = nI (cN x) ∧ (k_W σ (cN x)).1 = some (k_ov σ (cN x)) ∧ k_ov σ (cN x) < k_m σ := by
  unfold ch_wk at h
  split at h
  · have h9 := inb_cN (n := 4) (by omega) (by assumption)
    split at h
    · cases h
    · rename_i h8
      unfold k_ov
      cases hw : (k_W σ (cN x)).1 with
      | none => exact absurd hw h8
      | some c => exact ⟨h9.1, h9.2, rfl, ((I.2.2.2.2 _ h9.1).2 c hw).1⟩
  · cases h
theorem ch_wk_some {σ : ks} {x : Int32} {E : String} (h : ch_wk σ x = some E) : (¬ ym_in x 4 ∨ (cN x < 4 ∧ x = nI (cN x)) ∧ (k_W σ (cN x)).1 = none) ∧ E = e_io := by
  unfold ch_wk at h
  split at h
  · have h9 := inb_cN (n := 4) (by omega) (by assumption)
    split at h
    · cases h
      exact ⟨Or.inr ⟨h9, by assumption⟩, rfl⟩
    · cases h
  · cases h
    exact ⟨Or.inl (inb_no (by assumption)), rfl⟩
/-- the kit stands where it stood; what was nobody's is still nobody's -/
def kA_ext (n : Nat) (A A' : kA) : Prop := a_k A' = a_k A ∧ ∀ q, q < n → a_ow A' q = a_ow A q
theorem kA_ext.rf {n : Nat} {A : kA} : kA_ext n A A := ⟨rfl, fun _ _ => rfl⟩
/-- a call's end: as the spec says -/
def kqp (D : va_G) (ca : kca) (z : State) (A : kA) (V : Int32 → Option Value) (r : kr) : yy_R → Heap → Heap → Prop := fun o H H1 => o = (match r.1 with | some E => .inr E | none => .inl (V r.2.1)) ∧ (∃ A' : kA, ck_at D ca z A' r.2.2 H1 ∧ kA_ext H.size A A') ∧ kpA A H H1
def kqi (D : va_G) (ca : kca) (z : State) (A : kA) (r : kr) : yy_R → Heap → Heap → Prop := kqp D ca z A (fun v => some (.int v)) r
def kqv (D : va_G) (ca : kca) (z : State) (A : kA) (r : kr) : yy_R → Heap → Heap → Prop := kqp D ca z A (fun _ => none) r
section Kq
variable {D : va_G} {ca : kca} {z : State} {A : kA} {σ σ' : ks} {V : Int32 → Option Value} {r : kr} {H H1 : Heap} {v : Int32}
theorem kq_ok (hr : r = (none, v, σ')) (P : ck_at D ca z A σ' H1) (k : kpA A H H1) : kqp D ca z A V r (.inl (V v)) H H1 := by
  subst hr
  exact ⟨rfl, ⟨A, P, kA_ext.rf⟩, k⟩
theorem kq_i (hr : r = (none, v, σ')) (P : ck_at D ca z A σ' H1) (k : kpA A H H1) : kqi D ca z A r (.inl (some (.int v))) H H1 := kq_ok (V := fun v => some (.int v)) hr P k
theorem kq_v (hr : r = (none, v, σ')) (P : ck_at D ca z A σ' H1) (k : kpA A H H1) : kqv D ca z A r (.inl none) H H1 := kq_ok (V := fun _ => none) hr P k
theorem kq_no {E : String} (hr : r = (some E, 0, σ)) (P : ck_at D ca z A σ H) (hx : yy_ext H H1) : kqp D ca z A V r (.inr E) H H1 := by
  subst hr
  exact ⟨rfl, ⟨A, P.ext hx, kA_ext.rf⟩, kpA.ext hx⟩
end Kq
