/-! PART inv: what holds of every state that a run reaches -/
def so_t (f : Nat → Int32) (n : Nat) : Prop := ∀ i j : Nat, i ≤ j → j < n → f i ≤ f j
def k_fr (σ : ks) (c : Nat) : Prop := k_kd σ c = 6 → k_se σ c = s_ch (k_B σ c)
def k_start (σ : ks) (c : Nat) : Nat := if k_kd σ c = 6 then k_fs σ c else if k_kd σ c = 7 then ym_cnt (ym_bel (s_nu (k_B σ c)) (k_lo σ c) 0) (s_ct (k_B σ c)) else 0
def k_size (σ : ks) (c : Nat) : Nat := if k_kd σ c = 6 then k_ln σ c else if k_kd σ c = 7 then ym_cnt (ym_bel (s_nu (k_B σ c)) (k_hi σ c) 1) (s_ct (k_B σ c)) - ym_cnt (ym_bel (s_nu (k_B σ c)) (k_lo σ c) 0) (s_ct (k_B σ c)) else s_ct (k_B σ c)
def k_stale (σ : ks) (c : Nat) : Bool := decide (k_kd σ c = 6) && decide (¬ k_se σ c = s_ch (k_B σ c))
def k_cov (σ : ks) (c : Nat) (key : Int32) : Bool := !decide (k_kd σ c = 7) || (decide (k_lo σ c ≤ key) && decide (key ≤ k_hi σ c))
def k_isl (kd : Int32) : Bool := decide (kd = 0) || decide (kd = 1) || decide (kd = 6)
def k_ish (kd : Int32) : Bool := decide (kd = 2) || decide (kd = 3)
def k_iss (kd : Int32) : Bool := decide (kd = 4) || decide (kd = 7)
def iv_c (σ : ks) (c : Nat) : Prop := (k_kd σ c = 0 ∨ k_kd σ c = 1 ∨ k_kd σ c = 2 ∨ k_kd σ c = 3 ∨ k_kd σ c = 4 ∨ k_kd σ c = 5 ∨ k_kd σ c = 6 ∨ k_kd σ c = 7) ∧
  (k_bs σ c < k_m σ ∧ k_bs σ (k_bs σ c) = k_bs σ c) ∧ (¬ k_kd σ (k_bs σ c) = 6 ∧ ¬ k_kd σ (k_bs σ c) = 7) ∧ (¬ k_kd σ c = 6 → ¬ k_kd σ c = 7 → k_bs σ c = c) ∧ (k_kd σ c = 7 → k_kd σ (k_bs σ c) = 4) ∧
  (k_kd σ c = 6 → (k_kd σ (k_bs σ c) = 0 ∨ k_kd σ (k_bs σ c) = 1) ∧ k_of σ c < c ∧ k_bs σ (k_of σ c) = k_bs σ c ∧ (k_kd σ (k_of σ c) = 0 ∨ k_kd σ (k_of σ c) = 1 ∨ k_kd σ (k_of σ c) = 6) ∧ k_se σ c ≤ s_ch (k_B σ c) ∧
    (k_se σ c = s_ch (k_B σ c) → k_fs σ c + k_ln σ c ≤ s_ct (k_B σ c) ∧ (k_kd σ (k_of σ c) = 6 → k_se σ (k_of σ c) = s_ch (k_B σ c) ∧ k_ln σ c ≤ k_ln σ (k_of σ c))))
def iv_s (t : Nat) (kd : Int32) (s : kS) : Prop := s_ct s ≤ 24 ∧ s_ch s ≤ t ∧ (4 ≤ s_ro s ∧ s_ro s ≤ 64) ∧ (kd = 0 → s_ct s ≤ s_ro s) ∧ (kd = 2 ∨ kd = 3 → s_ct s ≤ 24) ∧ (kd = 3 → s_ct s ≤ 24) ∧ (kd = 4 ∨ kd = 5 → so_t (s_nu s) (s_ct s))
def iv_w (σ : ks) (i c : Nat) : Prop := c < k_m σ ∧ ¬ k_kd σ c = 5 ∧ (k_W σ i).2.2.2 ≤ s_ch (k_B σ c) ∧ (k_fr σ c → (k_W σ i).2.2.2 = s_ch (k_B σ c) → (k_W σ i).2.1 ≤ k_size σ c ∧ ((k_W σ i).2.2.1 = -1 ∨ ∃ j : Nat, j < k_size σ c ∧ (k_W σ i).2.2.1 = nI j))
def iv (t : Nat) (σ : ks) : Prop := k_m σ ≤ 10 ∧ t ≤ 100000 ∧ (∀ c, c < k_m σ → iv_c σ c) ∧ (∀ b, b < k_m σ → k_bs σ b = b → iv_s t (k_kd σ b) (k_S σ b)) ∧ ∀ i, i < 4 → (k_W σ i).2.1 ≤ 24 ∧ ∀ c, (k_W σ i).1 = some c → iv_w σ i c
section Iv
variable {t : Nat} {σ : ks} {c : Nat}
theorem iv.m10 (I : iv t σ) : k_m σ ≤ 10 := I.1
theorem iv.cc (I : iv t σ) (hc : c < k_m σ) : iv_c σ c := I.2.2.1 c hc
theorem iv.bs (I : iv t σ) (hc : c < k_m σ) : k_bs σ c < k_m σ := (I.cc hc).2.1.1
theorem iv.bb (I : iv t σ) (hc : c < k_m σ) : k_bs σ (k_bs σ c) = k_bs σ c := (I.cc hc).2.1.2
theorem iv.s (I : iv t σ) (hc : c < k_m σ) : iv_s t (k_kd σ (k_bs σ c)) (k_B σ c) := I.2.2.2.1 _ (I.bs hc) (I.bb hc)
theorem iv.ct (I : iv t σ) (hc : c < k_m σ) : s_ct (k_B σ c) ≤ 24 := (I.s hc).1
theorem iv.ch (I : iv t σ) (hc : c < k_m σ) : s_ch (k_B σ c) ≤ 100000 := Nat.le_trans (I.s hc).2.1 I.2.1
theorem iv.se (I : iv t σ) (hc : c < k_m σ) (h6 : k_kd σ c = 6) : k_se σ c ≤ s_ch (k_B σ c) := ((I.cc hc).2.2.2.2.2 h6).2.2.2.2.1
theorem iv.b0 (I : iv t σ) (hc : c < k_m σ) (h6 : ¬ k_kd σ c = 6) (h7 : ¬ k_kd σ c = 7) : k_bs σ c = c := (I.cc hc).2.2.2.1 h6 h7
theorem k_start6 (h : k_kd σ c = 6) : k_start σ c = k_fs σ c := if_pos h
theorem k_start7 (h : k_kd σ c = 7) : k_start σ c = ym_cnt (ym_bel (s_nu (k_B σ c)) (k_lo σ c) 0) (s_ct (k_B σ c)) := by
  unfold k_start
  rw [if_neg (fun q => absurd (q.symm.trans h) (by decide)), if_pos h]
theorem k_start0 (h6 : ¬ k_kd σ c = 6) (h7 : ¬ k_kd σ c = 7) : k_start σ c = 0 := by
  unfold k_start
  rw [if_neg h6, if_neg h7]
theorem k_size6 (h : k_kd σ c = 6) : k_size σ c = k_ln σ c := if_pos h
theorem k_size7 (h : k_kd σ c = 7) : k_size σ c = ym_cnt (ym_bel (s_nu (k_B σ c)) (k_hi σ c) 1) (s_ct (k_B σ c)) - ym_cnt (ym_bel (s_nu (k_B σ c)) (k_lo σ c) 0) (s_ct (k_B σ c)) := by
  unfold k_size
  rw [if_neg (fun q => absurd (q.symm.trans h) (by decide)), if_pos h]
theorem k_size0 (h6 : ¬ k_kd σ c = 6) (h7 : ¬ k_kd σ c = 7) : k_size σ c = s_ct (k_B σ c) := by
  unfold k_size
  rw [if_neg h6, if_neg h7]
theorem k_cov0 {key : Int32} (h7 : ¬ k_kd σ c = 7) : k_cov σ c key = true := by simp [k_cov, h7]
theorem k_st0 (h6 : ¬ k_kd σ c = 6) : k_stale σ c = false := by simp [k_stale, h6]
/-- where a container lies in its store, if it is not stale -/
theorem iv.end (I : iv t σ) (hc : c < k_m σ) (hf : k_fr σ c) : k_start σ c + k_size σ c ≤ s_ct (k_B σ c) := by
  by_cases h6 : k_kd σ c = 6
  · rw [k_start6 h6, k_size6 h6]
    exact (((I.cc hc).2.2.2.2.2 h6).2.2.2.2.2 (hf h6)).1
  · by_cases h7 : k_kd σ c = 7
    · rw [k_start7 h7, k_size7 h7]
      have h1 := ym_cnt_le (ym_bel (s_nu (k_B σ c)) (k_hi σ c) 1) (s_ct (k_B σ c))
      have h2 := ym_cnt_le (ym_bel (s_nu (k_B σ c)) (k_lo σ c) 0) (s_ct (k_B σ c))
      omega
    · rw [k_start0 h6 h7, k_size0 h6 h7]
      omega
theorem k_fr_of (h : k_stale σ c = false) : k_fr σ c := fun h6 => by
  simp [k_stale, h6] at h
  exact h
theorem k_fr_0 (h6 : ¬ k_kd σ c = 6) : k_fr σ c := fun h => absurd h h6
end Iv
theorem ym_mx0 {a b : Nat} (ha : a ≤ 24) (hb : b ≤ 24) : ym_mx 0 (nI a - nI b) = nI (a - b) := by
  unfold ym_mx
  by_cases h : b ≤ a
  · rw [pk_sub h]
    by_cases h2 : a - b = 0
    · rw [h2]
      decide
    · rw [if_pos (show (0 : Int32) < nI (a - b) from nI_lt (show 0 < a - b by omega) (by omega))]
  · rw [show a - b = 0 by omega]
    have e : (nI a - nI b).toInt = (a : Int) - b := by
      rw [Int32.toInt_sub, nI_toInt (by omega), nI_toInt (by omega)]
      apply Int.bmod_eq_of_le <;> omega
    rw [if_neg (by rw [Int32.lt_iff_toInt_lt, e]; simp; omega)]
    rfl
