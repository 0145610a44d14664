/-! PART m6: for the reference's near, same, insert, put -/
def m_nf (how : Int32) (B p : Nat) : Int32 := if how < 2 then nI (min p B) - 1 else if B < p then nI B else -1
theorem btw3 {x : Int32} (h : k_btw x 3 = true) : (x < 2 ∧ (x = 0 ∨ x = 1)) ∨ (¬ x < 2 ∧ (x = 2 ∨ x = 3)) := by
  simp only [k_btw, Bool.and_eq_true, Bool.not_eq_true', decide_eq_false_iff_not] at h
  obtain ⟨j, hj, e⟩ := le_cN (n := 3) (p := x) (by decide) h.1 h.2 |> fun q => (⟨cN x, q.1, q.2⟩ : ∃ j : Nat, j ≤ 3 ∧ x = nI j)
  subst e
  match j, hj with
  | 0, _ => exact Or.inl ⟨by decide, Or.inl rfl⟩
  | 1, _ => exact Or.inl ⟨by decide, Or.inr rfl⟩
  | 2, _ => exact Or.inr ⟨by decide, Or.inl rfl⟩
  | 3, _ => exact Or.inr ⟨by decide, Or.inr rfl⟩
theorem m_nf_0 (how : Int32) (B : Nat) : m_nf how B 0 = -1 := by
  unfold m_nf
  split
  · rw [Nat.zero_min]
    rfl
  · rw [if_neg (by omega)]
theorem m_nf_y {how : Int32} {B p : Nat} (hp : p < 2 ^ 31) (hB : B < 2 ^ 31) (hf : if how < 2 then p < B else B ≤ p) (h : m_nf how B p = -1 ∨ how < 2) : m_nf how B (p + 1) = nI p := by
  unfold m_nf at h ⊢
  by_cases h2 : how < 2
  · rw [if_pos h2] at hf ⊢
    rw [Nat.min_eq_left (by omega), nI_pred]
  · rw [if_neg h2] at hf h ⊢
    have h3 := h.resolve_right h2
    rw [if_pos (by omega)]
    by_cases h4 : B < p
    · rw [if_pos h4] at h3
      exact absurd h3 (by
        intro q
        have := congrArg Int32.toInt q
        rw [nI_toInt hB] at this
        exact absurd this (by simp))
    · rw [show B = p by omega]
theorem m_nf_k {how : Int32} {B p : Nat} (hf : ¬ (if how < 2 then p < B else B ≤ p)) : m_nf how B (p + 1) = m_nf how B p := by
  unfold m_nf
  by_cases h2 : how < 2
  · rw [if_pos h2] at hf
    rw [if_pos h2, if_pos h2, Nat.min_eq_right (by omega), Nat.min_eq_right (by omega)]
  · rw [if_neg h2] at hf
    rw [if_neg h2, if_neg h2, if_neg (by omega), if_neg (by omega)]
theorem m_nf_o {how : Int32} {B p : Nat} (h2 : ¬ how < 2) (h : ¬ m_nf how B p = -1) : m_nf how B (p + 1) = m_nf how B p := by
  unfold m_nf at h ⊢
  rw [if_neg h2] at h ⊢
  by_cases h4 : B < p
  · rw [if_neg h2, if_pos h4, if_pos (by omega)]
  · rw [if_neg h4] at h
    exact absurd rfl h
section Near
variable {t : Nat} {σ : ks} {c : Nat} {key how : Int32}
def k_nb (σ : ks) (c : Nat) (key how : Int32) : Nat := min (ym_cnt (ym_bel (s_nu (k_B σ c)) key (k_wk how)) (s_ct (k_B σ c)) - k_start σ c) (k_size σ c)
theorem near_fit (I : iv t σ) (hc : c < k_m σ) (hk : k_iss (k_kd σ c) = true) (hh : k_btw how 3 = true) {p : Nat} (hp : p < k_size σ c) : m_fit (s_nu (k_B σ c) (k_start σ c + p)) key how = true ↔ (if how < 2 then p < k_nb σ c key how else k_nb σ c key how ≤ p) := by
  have hs := (I.s hc).2.2.2.2.2.2 (Or.inl (k_sbq I hc hk))
  have h6 : ¬ k_kd σ c = 6 := fun q => by rw [q] at hk; exact absurd hk (by decide)
  have hend := I.end hc (k_fr_0 h6)
  have hb := so_bel_iff (x := key) (e := k_wk how) hs (show k_start σ c + p < s_ct (k_B σ c) by omega)
  have hnb : k_start σ c + p < ym_cnt (ym_bel (s_nu (k_B σ c)) key (k_wk how)) (s_ct (k_B σ c)) ↔ p < k_nb σ c key how := by
    unfold k_nb
    omega
  rw [hnb] at hb
  rcases btw3 hh with ⟨h2, h01⟩ | ⟨h2, h23⟩
  · rw [m_fit_bel h01, if_pos h2]
    exact hb.symm
  · rw [m_fit_nbel h23, if_neg h2]
    have hb2 : ym_bel (fun _ => s_nu (k_B σ c) (k_start σ c + p)) key (k_wk how) 0 = true ↔ p < k_nb σ c key how := hb.symm
    rw [Bool.not_eq_true', ← Bool.not_eq_true, hb2]
    omega
theorem near_end (hh : k_btw how 3 = true) (h24 : k_size σ c ≤ 24) : (m_nf how (k_nb σ c key how) (k_size σ c) = -1 ∧ ym_inb (k_nr σ c key how) (k_size σ c) = false) ∨ ∃ p, p < k_size σ c ∧ m_nf how (k_nb σ c key how) (k_size σ c) = nI p ∧ k_nr σ c key how = nI p := by
  have hle : k_nb σ c key how ≤ k_size σ c := Nat.min_le_right _ _
  have h1 : 1 < how ↔ ¬ how < 2 := by
    rw [Int32.lt_iff_toInt_lt, Int32.lt_iff_toInt_lt, show (1 : Int32).toInt = 1 from rfl, show (2 : Int32).toInt = 2 from rfl]
    omega
  by_cases h2 : how < 2
  · have e1 : k_nr σ c key how = nI (k_nb σ c key how) - 1 := if_neg (fun q => h1.mp q h2)
    have e2 : m_nf how (k_nb σ c key how) (k_size σ c) = nI (k_nb σ c key how) - 1 := by
      unfold m_nf
      rw [if_pos h2, Nat.min_eq_right hle]
    rw [e1, e2]
    cases hB : k_nb σ c key how with
    | zero => exact Or.inl ⟨rfl, by simp [ym_inb]; intro h; exact absurd h (by decide)⟩
    | succ q =>
      rw [nI_pred]
      exact Or.inr ⟨q, by omega, rfl, rfl⟩
  · have e1 : k_nr σ c key how = nI (k_nb σ c key how) := if_pos (h1.mpr h2)
    have e2 : m_nf how (k_nb σ c key how) (k_size σ c) = if k_nb σ c key how < k_size σ c then nI (k_nb σ c key how) else -1 := by
      unfold m_nf
      rw [if_neg h2]
    rw [e1, e2]
    by_cases hB : k_nb σ c key how < k_size σ c
    · rw [if_pos hB]
      exact Or.inr ⟨_, hB, rfl, rfl⟩
    · rw [if_neg hB]
      refine Or.inl ⟨rfl, ym_inb_f (fun q => ?_)⟩
      obtain ⟨j, hj, e⟩ := q.nat (by omega)
      have e9 := congrArg Int32.toInt e
      rw [nI_toInt (by omega), nI_toInt (by omega)] at e9
      omega
end Near
def ym_all (P : Nat → Bool) : Nat → Bool
  | 0 => true
  | n + 1 => ym_all P n && P n
theorem ym_all_iff {P : Nat → Bool} : ∀ {n : Nat}, ym_all P n = true ↔ ∀ i, i < n → P i = true
  | 0 => ⟨fun _ i hi => absurd hi (Nat.not_lt_zero i), fun _ => rfl⟩
  | n + 1 => by
    show (ym_all P n && P n) = true ↔ _
    rw [Bool.and_eq_true, ym_all_iff (n := n)]
    constructor
    · intro h i hi
      by_cases e : i = n
      · rw [e]; exact h.2
      · exact h.1 i (by omega)
    · intro h
      exact ⟨fun i hi => h i (by omega), h n (by omega)⟩
theorem ym_all_dec {P : Nat → Bool} {n : Nat} {Q : Nat → Prop} [d : Decidable (∀ i, i < n → Q i)] (h : ∀ i, P i = true ↔ Q i) : ym_all P n = decide (∀ i, i < n → Q i) := by
  rw [Bool.eq_iff_iff, ym_all_iff, decide_eq_true_iff]
  exact ⟨fun q i hi => (h i).mp (q i hi), fun q i hi => (h i).mpr (q i hi)⟩
theorem flh_5 {σ : ks} {x : Int32} (hin : ym_inb x (k_m σ) = true) (h5 : k_kd σ (cN x) = 5) : ch_flh σ x = none := by
  unfold ch_flh
  rw [if_pos hin, if_pos (by rw [h5]; rfl), if_neg]
  rw [k_st0 (fun q => absurd (h5.symm.trans q) (by decide))]
  decide
theorem flh_n {σ : ks} {x : Int32} (h : ym_inb x (k_m σ) = true → ¬ k_kd σ (cN x) = 5) : ch_flh σ x = ch_fl σ x := by
  unfold ch_flh ch_fl
  by_cases hin : ym_inb x (k_m σ) = true
  · have e : k_isf (k_kd σ (cN x)) = k_isl (k_kd σ (cN x)) := by simp [k_isf, h hin]
    rw [e]
  · rw [if_neg hin, if_neg hin]
def ch_mk (σ : ks) (x key : Int32) : Option String := match ch_map σ x with | some E => some E | none => ch_key σ (cN x) key
theorem ch_mk_in {σ : ks} {x key : Int32} {E : String} (h : ch_mk σ x key = some E) : E ∈ [e_io, e_uo, e_ia, e_is] := by
  unfold ch_mk at h
  cases hm : ch_map σ x with
  | some E' =>
    rw [hm] at h
    cases h
    exact ex_map (by decide) (by decide) _ hm
  | none =>
    rw [hm] at h
    exact ex_key (by decide) (by decide) _ h
theorem ch_mk_no {σ : ks} {x key : Int32} (h : ch_mk σ x key = none) : ch_map σ x = none ∧ ch_key σ (cN x) key = none := by
  unfold ch_mk at h
  cases hm : ch_map σ x with
  | some E' => rw [hm] at h; cases h
  | none => rw [hm] at h; exact ⟨rfl, h⟩
theorem ch_mk_b {σ : ks} {x key : Int32} {E : String} {r : kr} (h : ch_mk σ x key = some E) : kbind (ch_map σ x) σ (kbind (ch_key σ (cN x) key) σ r) = (some E, 0, σ) := by
  unfold ch_mk at h
  cases hm : ch_map σ x with
  | some E' => rw [hm] at h; cases h; rfl
  | none =>
    rw [hm] at h
    show kbind (ch_key σ (cN x) key) σ r = _
    rw [show ch_key σ (cN x) key = some E from h]
    rfl
