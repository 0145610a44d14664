/-! PART mrel: the reference's writes, and the state -/
def wf (σ : ks) : Prop := k_m σ ≤ 10 ∧ (∀ c, c < k_m σ → k_bs σ c < k_m σ ∧ k_bs σ (k_bs σ c) = k_bs σ c) ∧ ∀ x, x < k_m σ → k_kd σ x = 6 → k_of σ x < x
theorem iv.wf {t : Nat} {σ : ks} (I : iv t σ) : wf σ := ⟨I.m10, fun _ hc => ⟨I.bs hc, I.bb hc⟩, I.hw⟩
def S_ch (q : kS) : kS := (s_ct q, s_ch q + 1, s_ro q, s_nu q, s_vl q)
section Mrel
variable {t : Nat} {σ : ks} {s s' : ms} {b c x : Nat} {q : kS}
/-- the rows of stores have changed at one base alone -/
def m_only (s s' : ms) (b : Nat) : Prop := s'.1 = s.1 ∧ (∀ j, j < 3 ∨ 8 ≤ j → s'.2 j = s.2 j) ∧ (∀ j i, i ≠ b → (j = 5 ∨ j = 6 ∨ j = 7) → s'.2 j i = s.2 j i) ∧ ∀ j i, (i < 24 * b ∨ 24 * b + 24 ≤ i) → (j = 3 ∨ j = 4) → s'.2 j i = s.2 j i
theorem mr.setS (R : mr s σ) (hbm : b < k_m σ) (ho : m_only s s' b) (hq : mr_s s' (k_kd σ b) b q) : mr s' (k_setS σ b q) := by
  obtain ⟨r1, r2, r3, r4, r5⟩ := R
  obtain ⟨o1, o2, o3, o4⟩ := ho
  have hbm9 : b < σ.1 := hbm
  refine ⟨by rw [o1]; exact r1, fun c hc => ?_, fun b' hb e => ?_, fun i hi => ?_, fun i hi1 hi2 => ?_⟩
  · have h := r2 c hc
    unfold mr_c at h ⊢
    rw [o2 0 (by omega), o2 1 (by omega), o2 2 (by omega), o2 8 (by omega), o2 9 (by omega), o2 10 (by omega)]
    exact h
  · by_cases eb : b' = b
    · subst eb
      show mr_s s' (k_kd σ b') b' (up1 σ.2.2.1 b' q b')
      rw [up1_s]
      exact hq
    · have h := r3 b' hb e
      show mr_s s' (k_kd σ b') b' (up1 σ.2.2.1 b q b')
      rw [up1_o _ _ eb]
      unfold mr_s at h ⊢
      have hout : ∀ p, p < 24 → 24 * b' + p < 24 * b ∨ 24 * b + 24 ≤ 24 * b' + p := fun p hp => by omega
      rw [o3 5 b' eb (by omega), o3 6 b' eb (by omega), o3 7 b' eb (by omega)]
      refine ⟨h.1, fun h5 p hp => by rw [o4 3 _ (hout p hp) (by omega)]; exact h.2.1 h5 p hp, fun h5 => ?_, fun h5 p hp => by rw [o4 4 _ (hout p hp) (by omega)]; exact h.2.2.2 h5 p hp⟩
      have h9 := h.2.2.1 h5
      have hb24 : s_ct (σ.2.2.1 b') ≤ 24 := h9.1
      refine ⟨h9.1, fun v => ?_⟩
      rw [← h9.2 v]
      refine ym_cnt_ext (fun i hi => ?_)
      show decide (s'.2 3 (24 * b' + i) = v) = _
      rw [o4 3 _ (hout i (by omega)) (by omega)]
  · have h := r4 i hi
    show mr_w s' i (k_W σ i)
    unfold mr_w at h ⊢
    rw [o2 11 (by omega), o2 12 (by omega), o2 13 (by omega), o2 14 (by omega)]
    exact h
  · have hi9 : 24 * σ.1 ≤ i := hi1
    rw [o4 3 i (by omega) (by omega), o4 4 i (by omega) (by omega)]
    exact r5 i hi1 hi2
theorem mr.setL (R : mr s σ) (hx : x < k_m σ) (h6 : k_kd σ x = 6) (m h : Nat) : mr (m_set (m_set s 10 x (nI h)) 9 x (nI m)) (k_setL σ x m h) := by
  obtain ⟨r1, r2, r3, r4, r5⟩ := R
  have hk := k_setL_kd σ x m h
  refine ⟨r1, fun c hc => ?_, fun b' hb e => ?_, fun i hi => r4 i hi, r5⟩
  · have h9 := r2 c hc
    by_cases e : c = x
    · subst e
      unfold mr_c at h9 ⊢
      rw [(hk c).1, (hk c).2.1, (hk c).2.2.1, (hk c).2.2.2.1, (k_setL_ln σ c m h).1, (k_setL_ln σ c m h).2, (hk c).2.2.2.2.1, (hk c).2.2.2.2.2]
      refine ⟨h9.1, h9.2.1, fun h8 => ⟨(h9.2.2.1 h8).1, (h9.2.2.1 h8).2.1, ?_, ?_⟩, fun h7 => absurd (h6.symm.trans h7) (by decide)⟩
      · show upd _ c (nI m) c = nI m
        unfold upd
        rw [if_pos rfl]
      · show upd _ c (nI h) c = nI h
        unfold upd
        rw [if_pos rfl]
    · have hC : (k_setL σ x m h).2.1 c = σ.2.1 c := k_setL_o σ m h e
      have e9 : (m_set (m_set s 10 x (nI h)) 9 x (nI m)).2 9 c = s.2 9 c := by
        show upd (s.2 9) x (nI m) c = _
        unfold upd
        rw [if_neg e]
      have e10 : (m_set (m_set s 10 x (nI h)) 9 x (nI m)).2 10 c = s.2 10 c := by
        show upd (s.2 10) x (nI h) c = _
        unfold upd
        rw [if_neg e]
      unfold mr_c k_kd k_bs k_of k_fs k_ln k_se k_lo k_hi at h9 ⊢
      rw [hC, e9, e10]
      exact h9
  · have e9 : k_bs σ b' = b' := by rw [← (hk b').2.1]; exact e
    rw [(hk b').1]
    exact r3 b' hb e9
theorem mr.setW {i : Nat} {w : kW} (R : mr s σ) (h1 : s'.1 = s.1) (h2 : ∀ j, j < 11 → s'.2 j = s.2 j) (h3 : ∀ j i', i' ≠ i → s'.2 j i' = s.2 j i') (hw : mr_w s' i w) : mr s' (k_setW σ i w) := by
  obtain ⟨r1, r2, r3, r4, r5⟩ := R
  refine ⟨by rw [h1]; exact r1, fun c hc => ?_, fun b' hb e => ?_, fun i' hi => ?_, fun i' hi1 hi2 => by rw [h2 3 (by omega), h2 4 (by omega)]; exact r5 i' hi1 hi2⟩
  · have h := r2 c hc
    unfold mr_c at h ⊢
    rw [h2 0 (by omega), h2 1 (by omega), h2 2 (by omega), h2 8 (by omega), h2 9 (by omega), h2 10 (by omega)]
    exact h
  · have h := r3 b' hb e
    show mr_s s' (k_kd σ b') b' (k_S σ b')
    unfold mr_s at h ⊢
    rw [h2 3 (by omega), h2 4 (by omega), h2 5 (by omega), h2 6 (by omega), h2 7 (by omega)]
    exact h
  · by_cases e : i' = i
    · subst e
      show mr_w s' i' (up1 σ.2.2.2 i' w i')
      rw [up1_s]
      exact hw
    · have h := r4 i' hi
      show mr_w s' i' (up1 σ.2.2.2 i w i')
      rw [up1_o _ _ e]
      unfold mr_w at h ⊢
      rw [h3 11 i' e, h3 12 i' e, h3 13 i' e, h3 14 i' e]
      exact h
/-- one more change -/
theorem mr.chg (R : mr s σ) (hb : b < k_m σ) (hbb : k_bs σ b = b) : mr (m_set s 6 b (nI (s_ch (k_S σ b) + 1))) (k_setS σ b (S_ch (k_S σ b))) := by
  have h := R.2.2.1 b hb hbb
  refine R.setS hb ⟨rfl, fun j hj => ?_, fun j i hi hj => ?_, fun j i hi hj => ?_⟩ ⟨⟨h.1.1, ?_, h.1.2.2⟩, h.2.1, h.2.2.1, h.2.2.2⟩
  · exact up1_o _ _ (by omega)
  · show up1 s.2 6 (upd (s.2 6) b _) j i = _
    unfold up1
    split
    · rename_i e
      subst e
      unfold upd
      rw [if_neg hi]
    · rfl
  · show up1 s.2 6 (upd (s.2 6) b _) j i = _
    rw [up1_o _ _ (by omega)]
  · show upd (s.2 6) b _ b = _
    unfold upd
    rw [if_pos rfl]
    rfl
theorem k_thru_m (σ : ks) (c : Nat) (q : kS) (g : Nat → Nat) : k_fo g (s_ch (k_B (k_setS σ (k_bs σ c) q) c) + 1) (c + 1) c (k_setS (k_setS σ (k_bs σ c) q) (k_bs σ c) (S_ch (k_B (k_setS σ (k_bs σ c) q) c))) = k_thru σ c (S_ch q) g := by
  have e1 : k_B (k_setS σ (k_bs σ c) q) c = q := up1_s _ _ _
  have e2 : k_B (k_setS σ (k_bs σ c) (S_ch q)) c = S_ch q := up1_s _ _ _
  unfold k_thru
  rw [e1, e2]
  unfold k_setS
  dsimp only
  rw [up1_up1]
  rfl
theorem k_thru_ss (σ : ks) (c : Nat) (q q2 : kS) (g : Nat → Nat) : k_thru (k_setS σ (k_bs σ c) q) c q2 g = k_thru σ c q2 g := by
  unfold k_thru
  show k_fo g (s_ch (k_B (k_setS (k_setS σ (k_bs σ c) q) (k_bs σ c) q2) c)) (c + 1) c (k_setS (k_setS σ (k_bs σ c) q) (k_bs σ c) q2) = _
  rw [show k_setS (k_setS σ (k_bs σ c) q) (k_bs σ c) q2 = k_setS σ (k_bs σ c) q2 by unfold k_setS; dsimp only; rw [up1_up1]]
theorem k_thru_0 {σ : ks} {c : Nat} (h6 : ¬ k_kd σ c = 6) (q : kS) (g : Nat → Nat) : k_thru σ c q g = k_setS σ (k_bs σ c) q := if_neg h6
theorem k_setS2 (σ : ks) (b : Nat) (q q2 : kS) : k_setS (k_setS σ b q) b q2 = k_setS σ b q2 := by
  unfold k_setS
  dsimp only
  rw [up1_up1]
theorem k_setS_s (σ : ks) (b : Nat) (q : kS) : k_S (k_setS σ b q) b = q := up1_s _ _ _
/-- shifts of the long row, seen from one base -/
theorem up_in (f : Nat → Int32) (b j n p : Nat) : ym_up f (24 * b + j) (24 * b + n) (24 * b + p) = ym_up (fun p => f (24 * b + p)) j n p := by
  unfold ym_up
  by_cases h : j < p ∧ p ≤ n
  · rw [if_pos h, if_pos (by omega), show 24 * b + p - 1 = 24 * b + (p - 1) by omega]
  · rw [if_neg h, if_neg (by omega)]
theorem up_out (f : Nat → Int32) {b j n i : Nat} (hn : n < 24) (h : i < 24 * b ∨ 24 * b + 24 ≤ i) : ym_up f (24 * b + j) (24 * b + n) i = f i := by
  unfold ym_up
  rw [if_neg (by omega)]
theorem sh_in (f : Nat → Int32) (b j n p : Nat) : ym_sh f (24 * b + j) (24 * b + n) (24 * b + p) = ym_sh (fun p => f (24 * b + p)) j n p := by
  unfold ym_sh
  by_cases h : j ≤ p ∧ p < n
  · rw [if_pos h, if_pos (by omega), show 24 * b + p + 1 = 24 * b + (p + 1) by omega]
  · rw [if_neg h, if_neg (by omega)]
theorem sh_out (f : Nat → Int32) {b j n i : Nat} (hn : n ≤ 24) (h : i < 24 * b ∨ 24 * b + 24 ≤ i) : ym_sh f (24 * b + j) (24 * b + n) i = f i := by
  unfold ym_sh
  rw [if_neg (by omega)]
theorem upd_in (f : Nat → Int32) (b j p : Nat) (x : Int32) : upd f (24 * b + j) x (24 * b + p) = upd (fun p => f (24 * b + p)) j x p := by
  unfold upd
  by_cases h : p = j
  · rw [if_pos h, if_pos (by omega)]
  · rw [if_neg h, if_neg (by omega)]
theorem upd_out (f : Nat → Int32) {b j i : Nat} {x : Int32} (hn : j < 24) (h : i < 24 * b ∨ 24 * b + 24 ≤ i) : upd f (24 * b + j) x i = f i := by
  unfold upd
  rw [if_neg (by omega)]
theorem upd_o (f : Nat → Int32) {i q : Nat} (x : Int32) (h : q ≠ i) : upd f i x q = f q := by
  unfold upd
  rw [if_neg h]
theorem upd_s (f : Nat → Int32) (i : Nat) (x : Int32) : upd f i x i = x := by
  unfold upd
  rw [if_pos rfl]
end Mrel
