/-! PART put: a store's putKey and noteUse, said of its own as a whole; an iterator that is not lost -/
theorem le_cN {p : Int32} {n : Nat} (hn : n < 2 ^ 31) (h0 : ¬ p < 0) (h1 : ¬ nI n < p) : cN p ≤ n ∧ p = nI (cN p) := by
  obtain ⟨j, hj, rfl⟩ := nI_of h0
  rw [show cN (nI j) = j from nI_clamp hj]
  exact ⟨Nat.le_of_not_lt (fun q => h1 (nI_lt q hj)), rfl⟩
theorem k_lost_no {σ : ks} {i c : Nat} (h : k_lost σ i c = false) : k_stale σ c = false ∧ (k_W σ i).2.2.2 = s_ch (k_B σ c) := by
  unfold k_lost at h
  rw [Bool.or_eq_false_iff] at h
  exact ⟨h.1, by simpa using h.2⟩
theorem iv.walk {t : Nat} {σ : ks} {i c : Nat} (I : iv t σ) (hi : i < 4) (hov : (k_W σ i).1 = some c) (h : k_lost σ i c = false) : (k_W σ i).2.1 ≤ k_size σ c ∧ (¬ (k_W σ i).2.2.1 = -1 → k_la σ i < k_size σ c ∧ (k_W σ i).2.2.1 = nI (k_la σ i)) := by
  obtain ⟨h1, h2⟩ := k_lost_no h
  obtain ⟨a1, a2, a3, a4⟩ := (I.2.2.2.2 i hi).2 c hov
  obtain ⟨b1, b2⟩ := a4 (k_fr_of h1) h2
  refine ⟨b1, fun hn => ?_⟩
  rcases b2 with b2 | ⟨j, hj, e⟩
  · exact absurd b2 hn
  · have h24 := I.ct a1
    have hend := I.end a1 (k_fr_of h1)
    unfold k_la
    rw [e, show cN (nI j) = j from nI_clamp (by omega)]
    exact ⟨hj, rfl⟩
theorem f_pos_find {f : Nat → Int32} {key : Int32} {n : Nat} {o : Option Nat} (h : f_pos f key n 0 = o) : ym_find f key n = o_n o := by
  rw [← h]
  exact ym_fi_pos _ _ _ _
section Put
variable {l : Launch} {z : State} {a0 : Array Value} {D : va_G} {ca : kca} {a na va : Nat} {kd key v : Int32} {s : kS} {j : Nat}
abbrev sk_p (D : va_G) (ca : kca) (a na va : Nat) (kd : Int32) (s : kS) (H : Heap) : Prop := st_at D ca H a na va kd (nI (s_ro s)) (nI (s_ch s)) (s_ct s) (s_nu s) (s_vl s)
theorem k_putNew (X : kcx l z a0 D ca) (hro : s_ro s ≤ 64) (ok : st_ok z a na va) (hf : f_pos (s_nu s) key (s_ct s) 0 = none) (hkz : ¬ kd = 0) (h24 : s_ct s < 24) : yy_M l z y_S_putKey (.code y_S_putKey b_S_putKey 4 none) ({ frames := 3, cells := 0, slots := 0, locals := 66 }) [.ref a, .int key, .int v] (sk_p D ca a na va kd s) (yy_pv (fun H H1 => sk_p D ca a na va kd (S_key kd s key v) H1 ∧ kp [a, na, va] H H1)) := by
  have hf9 : ym_find (s_nu s) key (s_ct s) = -1 := f_pos_find hf
  by_cases h7 : kd = 3 ∧ 7 ≤ s_ct s + 1
  · have h := c_S_putKey_newt (v := v) (rm := nI (s_ro s)) (ch := nI (s_ch s)) (vf := s_vl s) X (by omega) ok hf9 hkz h24 h7.1 h7.2
    rw [n_bkt_eq hro (by omega), nI_1, nI_1] at h
    unfold S_key
    rw [if_pos h7]
    exact h
  · have h := c_S_putKey_new (v := v) (rm := nI (s_ro s)) (ch := nI (s_ch s)) (vf := s_vl s) X (by omega) ok hf9 hkz h24 (fun q => Nat.lt_of_not_le (fun q2 => h7 ⟨q, q2⟩))
    rw [n_bkt_eq hro (by omega), nI_1] at h
    unfold S_key
    rw [if_neg h7]
    exact h
theorem k_putOld (X : kcx l z a0 D ca) (ok : st_ok z a na va) (hf : f_pos (s_nu s) key (s_ct s) 0 = some j) (h24 : s_ct s ≤ 24) : yy_M l z y_S_putKey (.code y_S_putKey b_S_putKey 4 none) ({ frames := 3, cells := 0, slots := 0, locals := 66 }) [.ref a, .int key, .int v] (sk_p D ca a na va kd s) (yy_pv (fun H H1 => sk_p D ca a na va kd (S_use kd (S_vl s j v) j key) H1 ∧ kp [a, na, va] H H1)) := by
  have hf9 : ym_find (s_nu s) key (s_ct s) = nI j := f_pos_find hf
  have hj := (f_pos_some hf).2.1
  unfold S_use
  by_cases h7 : kd = 3 ∧ j + 1 < s_ct (S_vl s j v)
  · have h := c_S_putKey_mv (v := v) (rm := nI (s_ro s)) (ch := nI (s_ch s)) (vf := s_vl s) X h24 ok h7.1 hf9 h7.2
    rw [nI_1] at h
    rw [if_pos h7]
    exact h
  · have h := c_S_putKey_old (v := v) (rm := nI (s_ro s)) (ch := nI (s_ch s)) (vf := s_vl s) X h24 ok hf9 (by omega) (fun q => by
      have : ¬ j + 1 < s_ct s := fun q2 => h7 ⟨q, q2⟩
      omega)
    rw [if_neg h7]
    exact h
theorem k_use (X : kcx l z a0 D ca) (ok : st_ok z a na va) (hf : f_pos (s_nu s) key (s_ct s) 0 = some j) (h24 : s_ct s ≤ 24) : yy_M l z y_S_noteUse (.code y_S_noteUse b_S_noteUse 4 none) ({ frames := 1, cells := 0, slots := 0, locals := 22 }) [.ref a, .int key] (sk_p D ca a na va kd s) (yy_pv (fun H H1 => sk_p D ca a na va kd (S_use kd s j key) H1 ∧ kp [a, na, va] H H1)) := by
  have hf9 : ym_find (s_nu s) key (s_ct s) = nI j := f_pos_find hf
  have hj := (f_pos_some hf).2.1
  unfold S_use
  by_cases h7 : kd = 3 ∧ j + 1 < s_ct s
  · have h := c_S_noteUse (rm := nI (s_ro s)) (ch := nI (s_ch s)) (vf := s_vl s) X h24 ok h7.1 hf9 h7.2
    rw [nI_1] at h
    rw [if_pos h7]
    exact h
  · have h := c_S_noteUse_no (kd := kd) (rm := nI (s_ro s)) (ch := nI (s_ch s)) (vf := s_vl s) (nf := s_nu s) (key := key) X h24 ok (fun q => Or.inr (by
      have : ¬ j + 1 < s_ct s := fun q2 => h7 ⟨q, q2⟩
      rw [hf9, show s_ct s = j + 1 by omega, nI_pred]))
    rw [if_neg h7]
    exact h
end Put
theorem k_at_pos {σ : ks} {c : Nat} {key : Int32} {o : Option Nat} (h : k_at σ c key = o) (hc : k_cov σ c key = true) : f_pos (s_nu (k_B σ c)) key (s_ct (k_B σ c)) 0 = o := by
  unfold k_at at h
  rw [if_pos hc] at h
  exact h
theorem ch_key_none {σ : ks} {c : Nat} {key : Int32} (h : ch_key σ c key = none) : k_cov σ c key = true ∧ (k_at σ c key = none → s_ct (k_B σ c) < 24) := by
  unfold ch_key at h
  split at h
  · rename_i hc
    refine ⟨hc, fun q => ?_⟩
    rw [q] at h
    apply Nat.lt_of_not_le
    intro q9
    have h9 : (if 24 ≤ s_ct (k_B σ c) then some e_is else none) = (none : Option String) := h
    rw [if_pos q9] at h9
    cases h9
  · cases h
/-- a map's base is no list -/
theorem iv.mapb {t : Nat} {σ : ks} {c : Nat} (I : iv t σ) (hc : c < k_m σ) (h : k_ism (k_kd σ c) = true) : k_kb σ c = 2 ∨ k_kb σ c = 3 ∨ k_kb σ c = 4 := by
  obtain ⟨i1, -, -, i4, i5, -⟩ := I.cc hc
  by_cases h7 : k_kd σ c = 7
  · exact Or.inr (Or.inr (i5 h7))
  · have h6 := k_ism6 h
    rw [k_kb, i4 h6 h7]
    rcases i1 with q | q | q | q | q | q | q | q
    · rw [q] at h; exact absurd h (by decide)
    · rw [q] at h; exact absurd h (by decide)
    · exact Or.inl q
    · exact Or.inr (Or.inl q)
    · exact Or.inr (Or.inr q)
    · rw [q] at h; exact absurd h (by decide)
    · exact absurd q h6
    · exact absurd q h7
theorem iv.setW {t : Nat} {σ : ks} {i : Nat} {w : kW} (I : iv t σ) (hp : w.2.1 ≤ 24) (hw : ∀ c, w.1 = some c → c < k_m σ ∧ ¬ k_kd σ c = 5 ∧ w.2.2.2 ≤ s_ch (k_B σ c) ∧ (k_fr σ c → w.2.2.2 = s_ch (k_B σ c) → w.2.1 ≤ k_size σ c ∧ (w.2.2.1 = -1 ∨ ∃ j : Nat, j < k_size σ c ∧ w.2.2.1 = nI j))) : iv t (k_setW σ i w) := by
  obtain ⟨i1, i2, i3, i4, i5⟩ := I
  refine ⟨i1, i2, i3, i4, fun j hj => ?_⟩
  by_cases e : j = i
  · subst e
    rw [k_setW_s]
    refine ⟨hp, fun c hc => ?_⟩
    unfold iv_w
    rw [k_setW_s]
    exact hw c hc
  · have e9 : k_W (k_setW σ i w) j = k_W σ j := up1_o _ _ e
    obtain ⟨a1, a2⟩ := i5 j hj
    rw [e9]
    refine ⟨a1, fun c hc => ?_⟩
    have h9 := a2 c hc
    unfold iv_w at h9 ⊢
    rw [e9]
    exact h9
/-- an iterator that goes over a place -/
theorem iv.goOver {t : Nat} {σ : ks} {i c : Nat} {e : Int32} (I : iv t σ) (hi : i < 4) (hov : (k_W σ i).1 = some c) (hs : k_lost σ i c = false) {p : Int32} (hp : cN p < k_size σ c) (hp2 : p = nI (cN p)) : iv t (k_setW σ i ((k_W σ i).1, if e = 0 then cN p else cN p + 1, p, (k_W σ i).2.2.2)) := by
  obtain ⟨h1, h2⟩ := k_lost_no hs
  obtain ⟨a1, a2, a3, a4⟩ := (I.2.2.2.2 i hi).2 c hov
  have h24 := I.ct a1
  have hend := I.end a1 (k_fr_of h1)
  have hle : (if e = 0 then cN p else cN p + 1) ≤ k_size σ c := by split <;> omega
  refine I.setW (Nat.le_trans hle (by omega)) (fun c9 hc9 => ?_)
  have : c9 = c := Option.some.inj (hc9.symm.trans hov)
  subst this
  exact ⟨a1, a2, a3, fun _ _ => ⟨hle, Or.inr ⟨cN p, hp, hp2⟩⟩⟩
