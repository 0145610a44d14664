/-! PART pure2: taking out, bringing in, sorting; counts over a row -/
theorem ym_cnt_ext {p p' : Nat → Bool} : ∀ {n : Nat}, (∀ i, i < n → p i = p' i) → ym_cnt p n = ym_cnt p' n
  | 0, _ => rfl
  | n + 1, h => by
    unfold ym_cnt
    rw [ym_cnt_ext (n := n) (fun i hi => h i (by omega)), h n (by omega)]
/-- of a row where all that is so stands first -/
theorem ym_cnt_lt {p : Nat → Bool} : ∀ {n : Nat}, (∀ i j, i ≤ j → j < n → p j = true → p i = true) → ∀ i, i < n → (i < ym_cnt p n ↔ p i = true)
  | 0, _, i, hi => by omega
  | n + 1, h, i, hi => by
    have ih := ym_cnt_lt (p := p) (n := n) (fun i j a b => h i j a (by omega))
    have hle := ym_cnt_le p n
    unfold ym_cnt
    by_cases hp : p n = true
    · have hall : ym_cnt p n = n := by
        apply Nat.le_antisymm hle
        cases n with
        | zero => exact Nat.zero_le _
        | succ m =>
          have h1 := (ih m (by omega)).mpr (h m (m + 1) (by omega) (by omega) hp)
          omega
      rw [hall, if_pos hp]
      exact ⟨fun _ => h i n (by omega) (by omega) hp, fun _ => hi⟩
    · rw [if_neg hp]
      by_cases hn : i = n
      · subst hn
        exact ⟨fun q => by omega, fun q => absurd q hp⟩
      · exact ih i (by omega)
theorem so_bel {f : Nat → Int32} {n : Nat} (hs : so_t f n) (x e : Int32) : ∀ i j, i ≤ j → j < n → ym_bel f x e j = true → ym_bel f x e i = true := by
  intro i j hij hj h
  have h1 := hs i j hij hj
  unfold ym_bel at h ⊢
  simp only [Bool.or_eq_true, Bool.and_eq_true, decide_eq_true_eq] at h ⊢
  rw [Int32.le_iff_toInt_le] at h1
  simp only [Int32.lt_iff_toInt_lt, ← Int32.toInt_inj] at h ⊢
  rcases h with h | ⟨h2, h3⟩
  · exact Or.inl (by omega)
  · by_cases h9 : (f i).toInt = x.toInt
    · exact Or.inr ⟨h2, h9⟩
    · exact Or.inl (by omega)
theorem so_lt {f : Nat → Int32} {n i : Nat} {x : Int32} (hs : so_t f n) (hi : i < n) : i < ym_cnt (ym_bel f x 0) n ↔ f i < x := by
  rw [ym_cnt_lt (so_bel hs x 0) i hi]
  simp [ym_bel]
theorem so_le {f : Nat → Int32} {n i : Nat} {x : Int32} (hs : so_t f n) (hi : i < n) : i < ym_cnt (ym_bel f x 1) n ↔ f i ≤ x := by
  rw [ym_cnt_lt (so_bel hs x 1) i hi]
  simp only [ym_bel, Bool.or_eq_true, Bool.and_eq_true, decide_eq_true_eq, Int32.lt_iff_toInt_lt, ← Int32.toInt_inj, Int32.le_iff_toInt_le]
  constructor
  · rintro (h | ⟨-, h⟩) <;> omega
  · intro h
    by_cases h9 : (f i).toInt = x.toInt
    · exact Or.inr ⟨by decide, h9⟩
    · exact Or.inl (by omega)
/-- counting behind a taking out -/
theorem cnt_sh (P : Int32 → Bool) (f : Nat → Int32) (q m : Nat) (hq : q ≤ m) : ym_cnt (fun i => P (ym_sh f q m i)) m + (if P (f q) then 1 else 0) = ym_cnt (fun i => P (f i)) (m + 1) := by
  have h1 : ∀ k, k ≤ q → ym_cnt (fun i => P (ym_sh f q m i)) k = ym_cnt (fun i => P (f i)) k := fun k hk => ym_cnt_ext (fun i hi => by
    show P (ym_sh f q m i) = _
    unfold ym_sh
    rw [if_neg (by omega)])
  have h2 : ∀ d, q + d ≤ m → ym_cnt (fun i => P (ym_sh f q m i)) (q + d) + (if P (f q) then 1 else 0) = ym_cnt (fun i => P (f i)) (q + d + 1) := by
    intro d
    induction d with
    | zero =>
      intro _
      show ym_cnt (fun i => P (ym_sh f q m i)) q + _ = ym_cnt (fun i => P (f i)) q + (if P (f q) then 1 else 0)
      rw [h1 q (Nat.le_refl _)]
    | succ d ih =>
      intro hd
      have ih9 := ih (by omega)
      show ym_cnt (fun i => P (ym_sh f q m i)) (q + d) + (if P (ym_sh f q m (q + d)) then 1 else 0) + _ = ym_cnt (fun i => P (f i)) (q + d + 1) + (if P (f (q + d + 1)) then 1 else 0)
      have e : ym_sh f q m (q + d) = f (q + d + 1) := by
        unfold ym_sh
        rw [if_pos (by omega)]
      rw [e]
      omega
  have h3 := h2 (m - q) (by omega)
  rw [show q + (m - q) = m by omega] at h3
  exact h3
theorem cnt_bel (f : Nat → Int32) (x e : Int32) {q n : Nat} (hq : q < n) : ym_cnt (ym_bel (ym_sh f q (n - 1)) x e) (n - 1) + (if ym_bel f x e q = true then 1 else 0) = ym_cnt (ym_bel f x e) n := by
  obtain ⟨m, rfl⟩ : ∃ m, n = m + 1 := ⟨n - 1, by omega⟩
  exact cnt_sh (fun v => decide (v < x) || (decide (¬ e = 0) && decide (v = x))) f q m (by omega)
theorem so_sh {f : Nat → Int32} {n q : Nat} (hs : so_t f n) : so_t (ym_sh f q (n - 1)) (n - 1) := by
  intro i j hij hj
  unfold ym_sh
  by_cases h1 : q ≤ i ∧ i < n - 1
  · rw [if_pos h1, if_pos (by omega)]
    exact hs _ _ (by omega) (by omega)
  · rw [if_neg h1]
    by_cases h2 : q ≤ j ∧ j < n - 1
    · rw [if_pos h2]
      exact hs _ _ (by omega) (by omega)
    · rw [if_neg h2]
      exact hs _ _ hij (by omega)
theorem so_up {f : Nat → Int32} {n q : Nat} {x : Int32} (hs : so_t f n) (hq : q ≤ n) (h1 : ∀ i, i < q → f i ≤ x) (h2 : ∀ i, q ≤ i → i < n → x ≤ f i) : so_t (upd (ym_up f q n) q x) (n + 1) := by
  intro i j hij hj
  unfold upd ym_up
  by_cases hi : i = q
  · subst hi
    rw [if_pos rfl]
    by_cases hj1 : j = i
    · rw [if_pos hj1]
      exact Int32.le_refl _
    · rw [if_neg hj1]
      rw [if_pos (by omega)]
      exact h2 _ (by omega) (by omega)
  · rw [if_neg hi]
    by_cases hj1 : j = q
    · rw [if_pos hj1, if_neg (by omega)]
      exact h1 i (by omega)
    · rw [if_neg hj1]
      by_cases hi2 : q < i ∧ i ≤ n
      · rw [if_pos hi2, if_pos (by omega)]
        exact hs _ _ (by omega) (by omega)
      · rw [if_neg hi2]
        by_cases hj2 : q < j ∧ j ≤ n
        · rw [if_pos hj2]
          exact hs _ _ (by omega) (by omega)
        · rw [if_neg hj2]
          exact hs _ _ hij (by omega)
section Pu2
variable {t : Nat} {σ : ks} {c q : Nat}
theorem iv.take (I : iv t σ) (ht : t + 1 ≤ 100000) (hc : c < k_m σ) (hf : k_fr σ c) (hq : q < s_ct (k_B σ c)) (h1 : k_kd σ c = 6 → 1 ≤ k_ln σ c) : iv (t + 1) (k_take σ c q) ∧ k_fr (k_take σ c q) c := by
  obtain ⟨s1, s2, s3, s4, s5, s6, s7⟩ := I.s hc
  refine I.thru hc hf ht (Nat.le_succ _) ⟨?_, ?_, s3, fun h => ?_, fun h => ?_, fun h => ?_, fun h => so_sh (s7 h)⟩ (Nat.lt_succ_self _) (fun a b h => by omega) (fun y hy => ?_)
  · show s_ct (k_B σ c) - 1 ≤ 24
    omega
  · show s_ch (k_B σ c) + 1 ≤ t + 1
    omega
  · have := s4 h
    show s_ct (k_B σ c) - 1 ≤ s_ro (k_B σ c)
    omega
  · have := s5 h
    show s_ct (k_B σ c) - 1 ≤ 24
    omega
  · have := s6 h
    show s_ct (k_B σ c) - 1 ≤ 24
    omega
  · obtain ⟨y1, y2, y3, y4, y5⟩ := I.on hc hf hy
    have h6 := hy.1
    have := h1 h6
    have he := (((I.cc y1).2.2.2.2.2 y2).2.2.2.2.2 (y4 y2)).1
    have e9 : k_B σ y = k_B σ c := by unfold k_B; rw [y3]
    rw [e9] at he
    show k_fs σ y + (k_ln σ y - 1) ≤ s_ct (k_B σ c) - 1
    omega
theorem iv.bring {x : Int32} (I : iv t σ) (ht : t + 1 ≤ 100000) (hc : c < k_m σ) (hf : k_fr σ c) (hq : q ≤ s_ct (k_B σ c)) (h24 : s_ct (k_B σ c) < 24) (hkd : ¬ k_kd σ (k_bs σ c) = 2 ∧ ¬ k_kd σ (k_bs σ c) = 3) (hso : k_kd σ (k_bs σ c) = 4 ∨ k_kd σ (k_bs σ c) = 5 → so_t (upd (ym_up (s_nu (k_B σ c)) q (s_ct (k_B σ c))) q x) (s_ct (k_B σ c) + 1)) : iv (t + 1) (k_bring σ c q x) ∧ k_fr (k_bring σ c q x) c := by
  obtain ⟨s1, s2, s3, s4, s5, s6, s7⟩ := I.s hc
  refine I.thru hc hf ht (Nat.le_succ _) ⟨?_, ?_, ?_, fun h => ?_, fun h => ?_, fun h => absurd h hkd.2, hso⟩ (Nat.lt_succ_self _) (fun a b h => by omega) (fun y hy => ?_)
  · show s_ct (k_B σ c) + 1 ≤ 24
    omega
  · show s_ch (k_B σ c) + 1 ≤ t + 1
    omega
  · show 4 ≤ n_row _ _ _ ∧ n_row _ _ _ ≤ 64
    unfold n_row
    split <;> omega
  · have := s4 h
    show s_ct (k_B σ c) + 1 ≤ n_row _ _ _
    unfold n_row
    split
    · omega
    · rename_i h9
      have : ¬ s_ro (k_B σ c) ≤ s_ct (k_B σ c) := fun h8 => h9 ⟨h, h8⟩
      omega
  · rcases h with h | h
    · exact absurd h hkd.1
    · exact absurd h hkd.2
  · obtain ⟨y1, y2, y3, y4, y5⟩ := I.on hc hf hy
    have he := (((I.cc y1).2.2.2.2.2 y2).2.2.2.2.2 (y4 y2)).1
    have e9 : k_B σ y = k_B σ c := by unfold k_B; rw [y3]
    rw [e9] at he
    show k_fs σ y + (k_ln σ y + 1) ≤ s_ct (k_B σ c) + 1
    omega
theorem iv.arr {how : Int32} (I : iv t σ) (ht : t + 1 ≤ 100000) (hc : c < k_m σ) (hf : k_fr σ c) (hkd : ¬ k_kd σ (k_bs σ c) = 4 ∧ ¬ k_kd σ (k_bs σ c) = 5) : iv (t + 1) (k_arr σ c how) ∧ k_fr (k_arr σ c how) c := by
  obtain ⟨s1, s2, s3, s4, s5, s6, s7⟩ := I.s hc
  refine I.thru hc hf ht (Nat.le_succ _) ⟨s1, ?_, s3, s4, s5, s6, fun h => ?_⟩ (Nat.lt_succ_self _) (fun a b h => h) (fun y hy => ?_)
  · show s_ch (k_B σ c) + 1 ≤ t + 1
    omega
  · rcases h with h | h
    · exact absurd h hkd.1
    · exact absurd h hkd.2
  · obtain ⟨y1, y2, y3, y4, y5⟩ := I.on hc hf hy
    have he := (((I.cc y1).2.2.2.2.2 y2).2.2.2.2.2 (y4 y2)).1
    have e9 : k_B σ y = k_B σ c := by unfold k_B; rw [y3]
    rw [e9] at he
    exact he
/-- a taking out within the container: it starts where it did, and has one less -/
theorem iv.take_sz (I : iv t σ) (hc : c < k_m σ) (hf : k_fr σ c) {j : Nat} (hj : j < k_size σ c) : k_start (k_take σ c (k_start σ c + j)) c = k_start σ c ∧ k_size (k_take σ c (k_start σ c + j)) c = k_size σ c - 1 := by
  have hk := k_thru_k I hc (S_take (k_B σ c) (k_start σ c + j)) (fun m => m - 1) c
  have hB := k_thru_B I hc (S_take (k_B σ c) (k_start σ c + j)) (fun m => m - 1) c
  rw [if_pos rfl] at hB
  have hend := I.end hc hf
  unfold k_take
  by_cases h6 : k_kd σ c = 6
  · have h6' : k_kd (k_thru σ c (S_take (k_B σ c) (k_start σ c + j)) (fun m => m - 1)) c = 6 := by rw [hk.1]; exact h6
    rw [k_start6 h6', k_size6 h6', hk.2.2.2.1, (k_thru_ln I hc _ _ ⟨h6, Or.inl rfl⟩).1, k_start6 h6, k_size6 h6]
    exact ⟨rfl, rfl⟩
  · by_cases h7 : k_kd σ c = 7
    · have h7' : k_kd (k_thru σ c (S_take (k_B σ c) (k_start σ c + j)) (fun m => m - 1)) c = 7 := by rw [hk.1]; exact h7
      rw [k_start7 h7', k_size7 h7', hB, hk.2.2.2.2.1, hk.2.2.2.2.2]
      have hs := (I.s hc).2.2.2.2.2.2 (Or.inl ((I.cc hc).2.2.2.2.1 h7))
      have hj2 : k_start σ c + j < s_ct (k_B σ c) := by omega
      have a1 := cnt_bel (s_nu (k_B σ c)) (k_lo σ c) 0 hj2
      have a2 := cnt_bel (s_nu (k_B σ c)) (k_hi σ c) 1 hj2
      have b1 : ¬ ym_bel (s_nu (k_B σ c)) (k_lo σ c) 0 (k_start σ c + j) = true := fun q => by
        have := (ym_cnt_lt (so_bel hs (k_lo σ c) 0) _ hj2).mpr q
        rw [← k_start7 h7] at this
        omega
      have hsz := k_size7 h7
      rw [← k_start7 h7] at hsz
      have b2 : ym_bel (s_nu (k_B σ c)) (k_hi σ c) 1 (k_start σ c + j) = true := (ym_cnt_lt (so_bel hs (k_hi σ c) 1) _ hj2).mp (by omega)
      rw [if_neg b1] at a1
      rw [if_pos b2] at a2
      have c1 : ym_cnt (ym_bel (s_nu (S_take (k_B σ c) (k_start σ c + j))) (k_lo σ c) 0) (s_ct (S_take (k_B σ c) (k_start σ c + j))) = k_start σ c := by
        rw [← k_start7 h7] at a1
        exact a1
      have c2 : ym_cnt (ym_bel (s_nu (S_take (k_B σ c) (k_start σ c + j))) (k_hi σ c) 1) (s_ct (S_take (k_B σ c) (k_start σ c + j))) + 1 = ym_cnt (ym_bel (s_nu (k_B σ c)) (k_hi σ c) 1) (s_ct (k_B σ c)) := a2
      rw [c1]
      exact ⟨rfl, by omega⟩
    · have h6' : ¬ k_kd (k_thru σ c (S_take (k_B σ c) (k_start σ c + j)) (fun m => m - 1)) c = 6 := by rw [hk.1]; exact h6
      have h7' : ¬ k_kd (k_thru σ c (S_take (k_B σ c) (k_start σ c + j)) (fun m => m - 1)) c = 7 := by rw [hk.1]; exact h7
      rw [k_start0 h6' h7', k_size0 h6' h7', hB, k_start0 h6 h7, k_size0 h6 h7]
      exact ⟨rfl, rfl⟩
end Pu2
