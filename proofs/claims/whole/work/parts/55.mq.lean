/-! PART mq: how a call of the reference ends -/
def mq_ (D : va_G) (ca : kca) (z : State) (a n : Nat) (l : List String) (r : kr) (H H1 : Heap) : Prop := (∃ s1 : ms, mr s1 r.2.2 ∧ mo_at D ca z a n (c_of l r.1) s1 H1) ∧ kpm a n H H1
def mqi (D : va_G) (ca : kca) (z : State) (a n : Nat) (l : List String) (r : kr) : yy_R → Heap → Heap → Prop := yy_pi (fun v H H1 => mq_ D ca z a n l r H H1 ∧ (r.1 = none → v = r.2.1))
def mqv (D : va_G) (ca : kca) (z : State) (a n : Nat) (l : List String) (r : kr) : yy_R → Heap → Heap → Prop := yy_pv (fun H H1 => mq_ D ca z a n l r H H1)
section Mq
variable {D : va_G} {ca : kca} {z : State} {a n : Nat} {l : List String} {r : kr} {H H1 : Heap} {o : Option String} {v x cd : Int32} {σ : ks} {s : ms}
theorem mq_i (hr : r = (o, v, σ)) (R : mr s σ) (P : mo_at D ca z a n cd s H1) (k : kpm a n H H1) (hcd : c_of l o = cd) (hv : o = none → x = v) : mqi D ca z a n l r (.inl (some (.int x))) H H1 := by
  subst hr
  subst hcd
  exact ⟨x, rfl, ⟨⟨s, R, P⟩, k⟩, hv⟩
theorem mq_v (hr : r = (o, v, σ)) (R : mr s σ) (P : mo_at D ca z a n cd s H1) (k : kpm a n H H1) (hcd : c_of l o = cd) : mqv D ca z a n l r (.inl none) H H1 := by
  subst hr
  subst hcd
  exact ⟨rfl, ⟨s, R, P⟩, k⟩
end Mq
theorem m_cl_0 {σ : ks} {x e : Int32} (h : ch_fl σ x = none) : m_cl σ x e = 0 := by
  unfold m_cl
  rw [h]
theorem m_cl_E {σ : ks} {x e : Int32} {E : String} {l : List String} (hm : k_m σ ≤ 10) (h : ch_fl σ x = some E) (h1 : c_of l (some e_io) = 1) (h2 : c_of l (some e_uo) = 2) (h3 : c_of l (some e_rt) = e) : m_cl σ x e = c_of l (some E) := by
  unfold m_cl
  rw [h]
  rcases ch_fl_some hm h with ⟨-, rfl⟩ | ⟨-, ⟨-, rfl⟩ | ⟨-, -, rfl⟩⟩
  · exact h1.symm
  · exact h2.symm
  · exact h3.symm
theorem m_pos {E : String} {l : List String} (h : E ∈ l) (hl : l.length < 100) : ¬ c_of l (some E) ≤ 0 ∧ ¬ c_of l (some E) = 0 := by
  have key : ∀ l : List String, E ∈ l → ∃ k : Nat, 1 ≤ k ∧ k ≤ l.length ∧ c_of l (some E) = nI k := by
    intro l
    induction l with
    | nil => intro h; cases h
    | cons E' l ih =>
      intro h
      unfold c_of
      by_cases e : E = E'
      · rw [if_pos e]
        exact ⟨1, Nat.le_refl _, by simp, rfl⟩
      · rw [if_neg e]
        rcases List.mem_cons.mp h with h | h
        · exact absurd h e
        · obtain ⟨k, k1, k2, k3⟩ := ih h
          refine ⟨k + 1, by omega, by simp; omega, ?_⟩
          rw [k3, Int32.add_comm]
          exact nI_1 k
  obtain ⟨k, k1, k2, k3⟩ := key l h
  rw [k3]
  exact ⟨nI_ge (a := 0) (by omega) (by omega), nI_ne0 (by omega) (by omega)⟩
theorem ch_fl_in {σ : ks} {x : Int32} {E : String} (hm : k_m σ ≤ 10) (h : ch_fl σ x = some E) : E = e_io ∨ E = e_uo ∨ E = e_rt := by
  rcases ch_fl_some hm h with ⟨-, rfl⟩ | ⟨-, ⟨-, rfl⟩ | ⟨-, -, rfl⟩⟩
  · exact Or.inl rfl
  · exact Or.inr (Or.inl rfl)
  · exact Or.inr (Or.inr rfl)
theorem ch_map_in {σ : ks} {x : Int32} {E : String} (hm : k_m σ ≤ 10) (h : ch_map σ x = some E) : E = e_io ∨ E = e_uo := by
  rcases ch_map_some hm h with ⟨-, rfl⟩ | ⟨-, -, rfl⟩
  · exact Or.inl rfl
  · exact Or.inr rfl
/-- xor under a mask: the same bucket -/
theorem bk_same (u v m : Int32) : (u ^^^ v) &&& m = 0 ↔ u &&& m = v &&& m := by
  rw [← Int32.toBitVec_inj, ← Int32.toBitVec_inj, Int32.toBitVec_and, Int32.toBitVec_xor, Int32.toBitVec_and, Int32.toBitVec_and]
  constructor
  · intro h
    ext i hi
    have h9 := congrArg (fun q : BitVec 32 => q.getLsbD i) h
    simp at h9
    simp
    cases h1 : u.toBitVec[i] <;> cases h2 : v.toBitVec[i] <;> cases h3 : m.toBitVec[i] <;> simp_all
  · intro h
    ext i hi
    have h9 := congrArg (fun q : BitVec 32 => q.getLsbD i) h
    simp at h9
    simp
    cases h1 : u.toBitVec[i] <;> cases h2 : v.toBitVec[i] <;> cases h3 : m.toBitVec[i] <;> simp_all
/-- near: the last place below, the first place above -/
theorem so_bel_iff {f : Nat → Int32} {n i : Nat} {x e : Int32} (hs : so_t f n) (hi : i < n) : i < ym_cnt (ym_bel f x e) n ↔ ym_bel f x e i = true := ym_cnt_lt (so_bel hs x e) i hi
theorem m_fit_bel {k key how : Int32} (h : how = 0 ∨ how = 1) : m_fit k key how = ym_bel (fun _ => k) key (k_wk how) 0 := by
  rcases h with h | h
  · subst h
    simp [m_fit, ym_bel, k_wk]
  · subst h
    simp only [m_fit, ym_bel, k_wk]
    rw [Bool.eq_iff_iff]
    simp only [Bool.or_eq_true, Bool.and_eq_true, decide_eq_true_eq]
    simp [Int32.le_iff_toInt_le, Int32.lt_iff_toInt_lt, ← Int32.toInt_inj]
    omega
theorem m_fit_nbel {k key how : Int32} (h : how = 2 ∨ how = 3) : m_fit k key how = !ym_bel (fun _ => k) key (k_wk how) 0 := by
  rcases h with h | h
  · subst h
    simp [m_fit, ym_bel, k_wk]
    rw [Bool.eq_iff_iff]
    simp [Int32.not_lt]
  · subst h
    simp only [m_fit, ym_bel, k_wk]
    rw [Bool.eq_iff_iff]
    simp [Int32.le_iff_toInt_le, Int32.lt_iff_toInt_lt, ← Int32.toInt_inj]
    omega
