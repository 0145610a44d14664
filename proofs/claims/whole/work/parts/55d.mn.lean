/-! PART mn: the reference's writes, one by one -/
section Mn
variable {t : Nat} {σ σ' : ks} {s s' : ms} {b c q : Nat} {kd v x : Int32}
theorem m_set_o (s : ms) {j j' i : Nat} (v : Int32) (h : j' ≠ j) : (m_set s j i v).2 j' = s.2 j' := up1_o _ _ h
theorem m_set_s (s : ms) (j i : Nat) (v : Int32) : (m_set s j i v).2 j i = v := by
  show up1 s.2 j (upd (s.2 j) i v) j i = v
  rw [up1_s, upd_s]
theorem m_set_i (s : ms) (j : Nat) {i i' : Nat} (v : Int32) (h : i' ≠ i) : (m_set s j i v).2 j i' = s.2 j i' := by
  show up1 s.2 j (upd (s.2 j) i v) j i' = _
  rw [up1_s, upd_o _ _ h]
theorem m_set_r (s : ms) (j i : Nat) (v : Int32) : (m_set s j i v).2 j = upd (s.2 j) i v := up1_s _ _ _
/-- away from the place, whatever the row -/
theorem m_set_x (s : ms) (j : Nat) {j' i i' : Nat} (v : Int32) (h : i' ≠ i) : (m_set s j i v).2 j' i' = s.2 j' i' := by
  by_cases e : j' = j
  · subst e
    exact m_set_i s j' v h
  · rw [m_set_o s v e]
theorem m_set_id (s : ms) (j i : Nat) : m_set s j i (s.2 j i) = s := by
  unfold m_set
  rw [show upd (s.2 j) i (s.2 j i) = s.2 j by
    funext p
    unfold upd
    split
    · rename_i h
      rw [h]
    · rfl, up1_id]
theorem mr.grow (R : mr s σ) (h1 : k_m σ' = k_m σ + 1) (h2 : ∀ c, c < k_m σ → k_C σ' c = k_C σ c) (h3 : ∀ c, c < k_m σ → k_S σ' c = k_S σ c) (h4 : σ'.2.2.2 = σ.2.2.2)
    (g1 : s'.1 = k_m σ + 1) (g2 : ∀ j, j = 3 ∨ j = 4 ∨ 11 ≤ j → s'.2 j = s.2 j) (g3 : ∀ j i, i ≠ k_m σ → s'.2 j i = s.2 j i) (g4 : mr_c s' σ' (k_m σ)) (g5 : k_bs σ' (k_m σ) = k_m σ → mr_s s' (k_kd σ' (k_m σ)) (k_m σ) (k_S σ' (k_m σ))) : mr s' σ' := by
  obtain ⟨r1, r2, r3, r4, r5⟩ := R
  have hC : ∀ c, c < k_m σ → σ'.2.1 c = σ.2.1 c := h2
  refine ⟨by rw [g1, h1], fun c hc => ?_, fun c hc e => ?_, fun i hi => ?_, fun i hi1 hi2 => ?_⟩
  · by_cases e : c = k_m σ
    · rw [e]; exact g4
    · have hc9 : c < k_m σ := by omega
      have h := r2 c hc9
      unfold mr_c k_kd k_bs k_of k_fs k_ln k_se k_lo k_hi at h ⊢
      rw [hC c hc9, g3 0 c e, g3 1 c e, g3 2 c e, g3 8 c e, g3 9 c e, g3 10 c e]
      exact h
  · by_cases e9 : c = k_m σ
    · subst e9; exact g5 e
    · have hc9 : c < k_m σ := by omega
      have hkd : k_kd σ' c = k_kd σ c := by unfold k_kd; rw [hC c hc9]
      have hbs : k_bs σ' c = k_bs σ c := by unfold k_bs; rw [hC c hc9]
      have h := r3 c hc9 (by rw [← hbs]; exact e)
      rw [hkd, h3 c hc9]
      unfold mr_s at h ⊢
      rw [g3 5 c e9, g3 6 c e9, g3 7 c e9, g2 3 (by omega), g2 4 (by omega)]
      exact h
  · have h := r4 i hi
    rw [show k_W σ' i = k_W σ i from congrFun h4 i]
    unfold mr_w at h ⊢
    rw [g2 11 (by omega), g2 12 (by omega), g2 13 (by omega), g2 14 (by omega)]
    exact h
  · rw [g2 3 (by omega), g2 4 (by omega)]
    exact r5 i (by omega) hi2
theorem mr.newB (R : mr s σ) (hm : k_m σ < 10) (n6 : ¬ kd = 6) (n7 : ¬ kd = 7) (g1 : s'.1 = k_m σ + 1) (g2 : ∀ j, j = 3 ∨ j = 4 ∨ 11 ≤ j → s'.2 j = s.2 j) (g3 : ∀ j i, i ≠ k_m σ → s'.2 j i = s.2 j i)
    (e0 : s'.2 0 (k_m σ) = kd) (e2 : s'.2 2 (k_m σ) = nI (k_m σ)) (e5 : s'.2 5 (k_m σ) = 0) (e6 : s'.2 6 (k_m σ) = 0) (e7 : s'.2 7 (k_m σ) = 4) : mr s' (k_newB σ kd) := by
  have eC : (k_newB σ kd).2.1 (k_m σ) = (kd, k_m σ, 0, 0, 0, 0, 0, 0) := up1_s _ _ _
  have eS : k_S (k_newB σ kd) (k_m σ) = (0, 0, 4, (fun _ => 0), (fun _ => 0)) := up1_s _ _ _
  have ekd : k_kd (k_newB σ kd) (k_m σ) = kd := by unfold k_kd; rw [eC]
  have ebs : k_bs (k_newB σ kd) (k_m σ) = k_m σ := by unfold k_bs; rw [eC]
  have hz := R.2.2.2.2
  refine R.grow rfl (fun c h => up1_o _ _ (by omega)) (fun c h => up1_o _ _ (by omega)) rfl g1 g2 g3 ?_ (fun _ => ?_)
  · unfold mr_c
    rw [ekd, ebs]
    exact ⟨e0, e2, fun h => absurd h n6, fun h => absurd h n7⟩
  · rw [eS]
    refine ⟨⟨e5, e6, e7⟩, fun _ p hp => ?_, fun _ => ⟨Nat.zero_le _, fun x => rfl⟩, fun _ p hp => ?_⟩
    · rw [g2 3 (by omega)]
      exact (hz _ (by omega) (by omega)).1
    · rw [g2 4 (by omega)]
      exact (hz _ (by omega) (by omega)).2
theorem mr.newV {y : kC} (R : mr s σ) (hy : y.2.1 < k_m σ) (g1 : s'.1 = k_m σ + 1) (g2 : ∀ j, j = 3 ∨ j = 4 ∨ 11 ≤ j → s'.2 j = s.2 j) (g3 : ∀ j i, i ≠ k_m σ → s'.2 j i = s.2 j i)
    (e0 : s'.2 0 (k_m σ) = y.1) (e2 : s'.2 2 (k_m σ) = nI y.2.1) (e6 : y.1 = 6 → s'.2 1 (k_m σ) = nI y.2.2.1 ∧ s'.2 8 (k_m σ) = nI y.2.2.2.1 ∧ s'.2 9 (k_m σ) = nI y.2.2.2.2.1 ∧ s'.2 10 (k_m σ) = nI y.2.2.2.2.2.1) (e7 : y.1 = 7 → s'.2 8 (k_m σ) = y.2.2.2.2.2.2.1 ∧ s'.2 9 (k_m σ) = y.2.2.2.2.2.2.2) : mr s' (k_newV σ y) := by
  have eC : (k_newV σ y).2.1 (k_m σ) = y := up1_s _ _ _
  refine R.grow rfl (fun c h => up1_o _ _ (by omega)) (fun c h => rfl) rfl g1 g2 g3 ?_ (fun h => ?_)
  · unfold mr_c k_kd k_bs k_of k_fs k_ln k_se k_lo k_hi
    rw [eC]
    exact ⟨e0, e2, e6, e7⟩
  · unfold k_bs at h
    rw [eC] at h
    omega
/-- one number of a base that is no heap -/
theorem mr.nu1 (R : mr s σ) (hb : b < k_m σ) (hbb : k_bs σ b = b) (h5 : ¬ k_kd σ b = 5) (hq : q < 24) : mr (m_set s 3 (24 * b + q) v) (k_setS σ b (S_nu (k_S σ b) q v)) := by
  have h := R.2.2.1 b hb hbb
  refine R.setS hb ⟨rfl, fun j hj => m_set_o _ _ (by omega), fun j i hi hj => by rw [m_set_o _ _ (by omega)], fun j i hi hj => m_set_x _ _ _ (by omega)⟩ ⟨h.1, fun _ p hp => ?_, fun h9 => absurd h9 h5, h.2.2.2⟩
  rw [m_set_r, upd_in]
  show upd (fun p => s.2 3 (24 * b + p)) q v p = upd (s_nu (k_S σ b)) q v p
  unfold upd
  split
  · rfl
  · exact h.2.1 h5 p hp
theorem mr.vl1 (R : mr s σ) (hb : b < k_m σ) (hbb : k_bs σ b = b) (hq : q < 24) : mr (m_set s 4 (24 * b + q) v) (k_setS σ b (S_vl (k_S σ b) q v)) := by
  have h := R.2.2.1 b hb hbb
  refine R.setS hb ⟨rfl, fun j hj => m_set_o _ _ (by omega), fun j i hi hj => by rw [m_set_o _ _ (by omega)], fun j i hi hj => m_set_x _ _ _ (by omega)⟩ ⟨h.1, h.2.1, h.2.2.1, fun h9 p hp => ?_⟩
  rw [m_set_r, upd_in]
  show upd (fun p => s.2 4 (24 * b + p)) q v p = upd (s_vl (k_S σ b)) q v p
  unfold upd
  split
  · rfl
  · exact h.2.2.2 h9 p hp
theorem k_setS_id (σ : ks) (b : Nat) : k_setS σ b (k_S σ b) = σ := by
  unfold k_setS
  rw [up1_id]
/-- a value of a base that has none -/
theorem mr.vl0 (R : mr s σ) (hb : b < k_m σ) (hbb : k_bs σ b = b) (hk : ¬ (k_kd σ b = 2 ∨ k_kd σ b = 3 ∨ k_kd σ b = 4)) (hq : q < 24) : mr (m_set s 4 (24 * b + q) v) σ := by
  have h := R.2.2.1 b hb hbb
  have h9 : mr (m_set s 4 (24 * b + q) v) (k_setS σ b (k_S σ b)) := R.setS hb ⟨rfl, fun j hj => m_set_o _ _ (by omega), fun j i hi hj => by rw [m_set_o _ _ (by omega)], fun j i hi hj => m_set_x _ _ _ (by omega)⟩ ⟨h.1, h.2.1, h.2.2.1, fun h9 => absurd h9 hk⟩
  rw [k_setS_id] at h9
  exact h9
def S_ro (q : kS) (r : Nat) : kS := (s_ct q, s_ch q, r, s_nu q, s_vl q)
theorem mr.ro1 {r : Nat} (R : mr s σ) (hb : b < k_m σ) (hbb : k_bs σ b = b) : mr (m_set s 7 b (nI r)) (k_setS σ b (S_ro (k_S σ b) r)) := by
  have h := R.2.2.1 b hb hbb
  refine R.setS hb ⟨rfl, fun j hj => m_set_o _ _ (by omega), fun j i hi hj => m_set_x _ _ _ hi, fun j i hi hj => by rw [m_set_o _ _ (by omega)]⟩ ⟨⟨h.1.1, h.1.2.1, m_set_s _ _ _ _⟩, h.2.1, h.2.2.1, h.2.2.2⟩
theorem iv.ro1 {r : Nat} (I : iv t σ) (hb : b < k_m σ) (hbb : k_bs σ b = b) (h1 : s_ro (k_S σ b) ≤ r) (h2 : r ≤ 64) : iv t (k_setS σ b (S_ro (k_S σ b) r)) := by
  obtain ⟨s1, s2, s3, s4, s5, s6, s7⟩ := I.2.2.2.1 b hb hbb
  refine I.setS ⟨s1, s2, ⟨?_, h2⟩, fun h => ?_, s5, s6, s7⟩ rfl rfl (fun _ => rfl)
  · show 4 ≤ r
    omega
  · have := s4 h
    show s_ct (k_S σ b) ≤ r
    omega
/-- a row with one number more, wherever it came in -/
theorem cnt_ins (P : Int32 → Bool) (f : Nat → Int32) {k n : Nat} (h : k ≤ n) (x : Int32) : ym_cnt (fun i => P (upd (ym_up f k n) k x i)) (n + 1) = ym_cnt (fun i => P (f i)) n + (if P x = true then 1 else 0) := by
  have h9 := cnt_sh P (upd (ym_up f k n) k x) k n h
  rw [upd_s] at h9
  rw [← h9]
  congr 1
  refine ym_cnt_ext (fun i hi => ?_)
  show P (ym_sh (upd (ym_up f k n) k x) k n i) = _
  unfold ym_sh
  by_cases e : k ≤ i ∧ i < n
  · rw [if_pos e, upd_o _ _ (by omega)]
    unfold ym_up
    rw [if_pos (by omega)]
    rfl
  · rw [if_neg e, upd_o _ _ (by omega)]
    unfold ym_up
    rw [if_neg (by omega)]
theorem hp_ins {f g : Nat → Int32} {n k k' : Nat} (h : hp f g n) (hk : k ≤ n) (hk' : k' ≤ n) (x : Int32) : hp (upd (ym_up f k n) k x) (upd (ym_up g k' n) k' x) (n + 1) := fun y => by
  rw [cnt_ins (fun i => decide (i = y)) f hk x, cnt_ins (fun i => decide (i = y)) g hk' x, h y]
theorem hp_rem {f g : Nat → Int32} {n k k' : Nat} (h : hp f g n) (hk : k < n) (hk' : k' < n) (e : f k = g k') : hp (ym_sh f k (n - 1)) (ym_sh g k' (n - 1)) (n - 1) := fun y => by
  have h1 := cnt_sh (fun i => decide (i = y)) f k (n - 1) (by omega)
  have h2 := cnt_sh (fun i => decide (i = y)) g k' (n - 1) (by omega)
  rw [show n - 1 + 1 = n by omega] at h1 h2
  have h3 := h y
  rw [e] at h1
  omega
theorem cnt_pos {P : Nat → Bool} : ∀ {n : Nat}, 0 < ym_cnt P n ↔ ∃ i, i < n ∧ P i = true
  | 0 => ⟨fun h => absurd h (Nat.not_lt_zero _), fun ⟨i, h, _⟩ => absurd h (Nat.not_lt_zero _)⟩
  | n + 1 => by
    have ih := cnt_pos (P := P) (n := n)
    show 0 < ym_cnt P n + (if P n = true then 1 else 0) ↔ _
    constructor
    · intro h
      by_cases e : P n = true
      · exact ⟨n, Nat.lt_succ_self _, e⟩
      · rw [if_neg e] at h
        obtain ⟨i, h1, h2⟩ := ih.mp h
        exact ⟨i, Nat.lt_succ_of_lt h1, h2⟩
    · intro ⟨i, h1, h2⟩
      by_cases e : i = n
      · subst e
        rw [if_pos h2]
        omega
      · have := ih.mpr ⟨i, by omega, h2⟩
        omega
theorem hp_mem {f g : Nat → Int32} {n i : Nat} (h : hp f g n) (hi : i < n) : ∃ j, j < n ∧ g j = f i := by
  have h1 : 0 < ym_cnt (fun k => decide (g k = f i)) n := by
    rw [← h (f i)]
    exact cnt_pos.mpr ⟨i, hi, by simp⟩
  obtain ⟨j, hj, e⟩ := cnt_pos.mp h1
  exact ⟨j, hj, by simpa using e⟩
theorem hp_sym {f g : Nat → Int32} {n : Nat} (h : hp f g n) : hp g f n := fun x => (h x).symm
theorem hp_min {f g : Nat → Int32} {n k : Nat} (h : hp f g n) (hs : so_t g n) (hk : k < n) (hm : ∀ i, i < n → f k ≤ f i) : f k = g 0 := by
  obtain ⟨i, hi, e1⟩ := hp_mem (hp_sym h) (show 0 < n by omega)
  obtain ⟨j, hj, e2⟩ := hp_mem h hk
  have a1 := hm i hi
  have a2 := hs 0 j (Nat.zero_le _) hj
  rw [e1] at a1
  rw [e2] at a2
  exact Int32.le_antisymm a1 a2
/-- a row that is sorted as part of a longer one -/
theorem i1_in (x : Int32) (how : Int32) (b f0 : Nat) : ∀ (i : Nat) (g : Nat → Int32), f0 ≤ i → (∀ p, ym_i1 x (24 * b + f0) how (24 * b + i) g (24 * b + p) = ym_i1 x f0 how i (fun p => g (24 * b + p)) p) ∧ ∀ q, (q < 24 * b + f0 ∨ 24 * b + i < q) → ym_i1 x (24 * b + f0) how (24 * b + i) g q = g q
  | 0, g, h => by
    have e0 : ym_i1 x (24 * b + f0) how (24 * b + 0) g = upd g (24 * b + 0) x := by
      cases b with
      | zero => rfl
      | succ b =>
        rw [show 24 * (b + 1) + 0 = (24 * b + 23) + 1 by omega]
        show (if _ then _ else _) = _
        rw [if_neg (by omega)]
    rw [e0]
    exact ⟨fun p => upd_in g b 0 p x, fun q hq => upd_o _ _ (by omega)⟩
  | i + 1, g, h => by
    by_cases hc : f0 ≤ i ∧ ym_cb x (g (24 * b + i)) how = true
    · have e1 : ym_i1 x (24 * b + f0) how (24 * b + (i + 1)) g = ym_i1 x (24 * b + f0) how (24 * b + i) (upd g (24 * b + (i + 1)) (g (24 * b + i))) := by
        show (if _ then _ else _) = _
        rw [if_pos ⟨Nat.add_le_add_left hc.1 _, hc.2⟩]
        rfl
      have e2 : ym_i1 x f0 how (i + 1) (fun p => g (24 * b + p)) = ym_i1 x f0 how i (upd (fun p => g (24 * b + p)) (i + 1) (g (24 * b + i))) := by
        show (if _ then _ else _) = _
        rw [if_pos hc]
      obtain ⟨a1, a2⟩ := i1_in x how b f0 i (upd g (24 * b + (i + 1)) (g (24 * b + i))) hc.1
      rw [e1, e2]
      refine ⟨fun p => ?_, fun q hq => ?_⟩
      · rw [a1 p, show (fun p => upd g (24 * b + (i + 1)) (g (24 * b + i)) (24 * b + p)) = upd (fun p => g (24 * b + p)) (i + 1) (g (24 * b + i)) from funext fun p => upd_in g b (i + 1) p _]
      · rw [a2 q (by omega), upd_o _ _ (by omega)]
    · have e1 : ym_i1 x (24 * b + f0) how (24 * b + (i + 1)) g = upd g (24 * b + (i + 1)) x := by
        show (if _ then _ else _) = _
        rw [if_neg (fun q => hc ⟨Nat.le_of_add_le_add_left q.1, q.2⟩)]
        rfl
      have e2 : ym_i1 x f0 how (i + 1) (fun p => g (24 * b + p)) = upd (fun p => g (24 * b + p)) (i + 1) x := by
        show (if _ then _ else _) = _
        rw [if_neg hc]
      rw [e1, e2]
      exact ⟨fun p => upd_in g b (i + 1) p x, fun q hq => upd_o _ _ (by omega)⟩
theorem so_in (how : Int32) (b f0 : Nat) : ∀ (d i : Nat) (g : Nat → Int32), f0 ≤ i → (∀ p, ym_so (24 * b + f0) how d (24 * b + i) g (24 * b + p) = ym_so f0 how d i (fun p => g (24 * b + p)) p) ∧ ∀ q, (q < 24 * b + f0 ∨ 24 * b + (i + d) ≤ q) → ym_so (24 * b + f0) how d (24 * b + i) g q = g q
  | 0, i, g, h => ⟨fun p => rfl, fun q hq => rfl⟩
  | d + 1, i, g, h => by
    obtain ⟨a1, a2⟩ := i1_in (g (24 * b + i)) how b f0 i g h
    obtain ⟨b1, b2⟩ := so_in how b f0 d (i + 1) (ym_i1 (g (24 * b + i)) (24 * b + f0) how (24 * b + i) g) (by omega)
    refine ⟨fun p => ?_, fun q hq => ?_⟩
    · show ym_so (24 * b + f0) how d (24 * b + (i + 1)) (ym_i1 (g (24 * b + i)) (24 * b + f0) how (24 * b + i) g) (24 * b + p) = ym_so f0 how d (i + 1) (ym_i1 (g (24 * b + i)) f0 how i (fun p => g (24 * b + p))) p
      rw [b1 p, show (fun p => ym_i1 (g (24 * b + i)) (24 * b + f0) how (24 * b + i) g (24 * b + p)) = ym_i1 (g (24 * b + i)) f0 how i (fun p => g (24 * b + p)) from funext a1]
    · show ym_so (24 * b + f0) how d (24 * b + (i + 1)) (ym_i1 (g (24 * b + i)) (24 * b + f0) how (24 * b + i) g) q = g q
      rw [b2 q (by omega), a2 q (by omega)]
theorem i1_cg {x how : Int32} {f0 N : Nat} : ∀ (i : Nat) {g g' : Nat → Int32}, (∀ p, p < N → g p = g' p) → i < N → ∀ p, p < N → ym_i1 x f0 how i g p = ym_i1 x f0 how i g' p
  | 0, g, g', h, hi, p, hp => by
    show upd g 0 x p = upd g' 0 x p
    unfold upd
    split
    · rfl
    · exact h p hp
  | i + 1, g, g', h, hi, p, hp => by
    have e1 : ym_i1 x f0 how (i + 1) g = if f0 ≤ i ∧ ym_cb x (g i) how = true then ym_i1 x f0 how i (upd g (i + 1) (g i)) else upd g (i + 1) x := rfl
    have e2 : ym_i1 x f0 how (i + 1) g' = if f0 ≤ i ∧ ym_cb x (g' i) how = true then ym_i1 x f0 how i (upd g' (i + 1) (g' i)) else upd g' (i + 1) x := rfl
    rw [e1, e2, h i (by omega)]
    have hu : ∀ y p, p < N → upd g (i + 1) y p = upd g' (i + 1) y p := fun y p hp => by
      unfold upd
      split
      · rfl
      · exact h p hp
    split
    · exact i1_cg i (hu _) (by omega) p hp
    · exact hu x p hp
theorem so_cg {how : Int32} {f0 N : Nat} : ∀ (d i : Nat) {g g' : Nat → Int32}, (∀ p, p < N → g p = g' p) → (d = 0 ∨ i + d ≤ N) → ∀ p, p < N → ym_so f0 how d i g p = ym_so f0 how d i g' p
  | 0, i, g, g', h, hi, p, hp => h p hp
  | d + 1, i, g, g', h, hi, p, hp => by
    show ym_so f0 how d (i + 1) (ym_i1 (g i) f0 how i g) p = ym_so f0 how d (i + 1) (ym_i1 (g' i) f0 how i g') p
    rw [h i (by omega)]
    exact so_cg d (i + 1) (i1_cg i h (by omega)) (by omega) p hp
theorem up_cg {f g : Nat → Int32} {j n : Nat} {x : Int32} (h : ∀ p, p < 24 → f p = g p) : ∀ p, p < 24 → upd (ym_up f j n) j x p = upd (ym_up g j n) j x p := fun p hp => by
  unfold upd ym_up
  split
  · rfl
  · split
    · exact h _ (by omega)
    · exact h p hp
theorem sh_cg {f g : Nat → Int32} {j n : Nat} (hn : n < 24) (h : ∀ p, p < 24 → f p = g p) : ∀ p, p < 24 → ym_sh f j n p = ym_sh g j n p := fun p hp => by
  unfold ym_sh
  split
  · exact h _ (by omega)
  · exact h p hp
theorem k_B_set (σ : ks) (c : Nat) (q : kS) : k_B (k_setS σ (k_bs σ c) q) c = q := up1_s _ _ _
theorem k_start_set {σ : ks} {c : Nat} {q : kS} (h1 : s_ct q = s_ct (k_B σ c)) (h2 : s_nu q = s_nu (k_B σ c)) : k_start (k_setS σ (k_bs σ c) q) c = k_start σ c := by
  unfold k_start
  rw [k_B_set, h1, h2]
  rfl
theorem k_size_set {σ : ks} {c : Nat} {q : kS} (h1 : s_ct q = s_ct (k_B σ c)) (h2 : s_nu q = s_nu (k_B σ c)) : k_size (k_setS σ (k_bs σ c) q) c = k_size σ c := by
  unfold k_size
  rw [k_B_set, h1, h2]
  rfl
theorem mr_0 {s : ms} (h1 : s.1 = 0) (h2 : ∀ i, i < 4 → s.2 11 i = -1) (h3 : ∀ i, s.2 3 i = 0 ∧ s.2 4 i = 0) : mr s ks0 := ⟨h1, fun c hc => absurd hc (Nat.not_lt_zero c), fun c hc => absurd hc (Nat.not_lt_zero c), fun i hi => h2 i hi, fun i _ _ => h3 i⟩
/-- what making one more container writes -/
def m_made (s s1 : ms) (m : Nat) (k w b : Int32) : Prop := s1.1 = m + 1 ∧ (∀ j, j = 3 ∨ j = 4 ∨ 8 ≤ j → s1.2 j = s.2 j) ∧ (∀ j i, i ≠ m → s1.2 j i = s.2 j i) ∧ s1.2 0 m = k ∧ s1.2 1 m = w ∧ s1.2 2 m = b ∧ s1.2 5 m = 0 ∧ s1.2 6 m = 0 ∧ s1.2 7 m = 4
theorem m_made.B {s1 : ms} {w : Int32} (M : m_made s s1 (k_m σ) kd w (nI (k_m σ))) (R : mr s σ) (hm : k_m σ < 10) (n6 : ¬ kd = 6) (n7 : ¬ kd = 7) : mr s1 (k_newB σ kd) := by
  obtain ⟨a1, a2, a3, a4, a5, a6, a7, a8, a9⟩ := M
  exact R.newB hm n6 n7 a1 (fun j hj => a2 j (by omega)) a3 a4 a6 a7 a8 a9
/-- a store that a map has, with one key more, room not yet changed -/
def S_add (kd : Int32) (s : kS) (key v : Int32) : kS := (s_ct s + 1, s_ch s + 1, s_ro s, ym_ad (s_nu s) (ym_pl kd (s_nu s) key (s_ct s)) (s_ct s) key, ym_ad (s_vl s) (ym_pl kd (s_nu s) key (s_ct s)) (s_ct s) v)
theorem S_add_new {kd : Int32} {s : kS} {key v : Int32} : S_ro (S_add kd s key v) (n_bkt kd (s_ro s) (s_ct s + 1)) = S_new kd s key v := rfl
theorem iv_s.add {t : Nat} {kd : Int32} {s : kS} {key v : Int32} (h : iv_s t kd s) (hk : kd = 2 ∨ kd = 3 ∨ kd = 4) (h24 : s_ct s < 24) : iv_s (t + 1) kd (S_add kd s key v) := by
  obtain ⟨s1, s2, s3, s4, s5, s6, s7⟩ := h
  have hn0 : ¬ kd = 0 := fun q => by rw [q] at hk; exact absurd hk (by decide)
  have hn5 : ¬ kd = 5 := fun q => by rw [q] at hk; exact absurd hk (by decide)
  refine ⟨h24, Nat.succ_le_succ s2, s3, fun q => absurd q hn0, fun _ => h24, fun _ => h24, fun q => ?_⟩
  have hs := s7 q
  have e : ym_pl kd (s_nu s) key (s_ct s) = ym_cnt (ym_bel (s_nu s) key 0) (s_ct s) := if_pos (q.resolve_right hn5)
  show so_t (ym_ad (s_nu s) (ym_pl kd (s_nu s) key (s_ct s)) (s_ct s) key) (s_ct s + 1)
  rw [e]
  refine so_up hs (ym_cnt_le _ _) (fun i hi => ?_) (fun i hi hi2 => ?_)
  · have := ym_cnt_le (ym_bel (s_nu s) key 0) (s_ct s)
    exact Int32.le_of_lt ((so_lt hs (by omega)).mp hi)
  · have := mt (so_lt (x := key) hs hi2).mpr (by omega)
    exact Int32.not_lt.mp this
end Mn
