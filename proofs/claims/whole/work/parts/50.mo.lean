/-! PART mo: the reference's picture: how many, fifteen rows; and what it has to do with the state -/
abbrev ms : Type := Nat × (Nat → Nat → Int32)
def m_len (j : Nat) : Nat := if j = 3 ∨ j = 4 then 240 else if 11 ≤ j then 4 else 10
def m_set (s : ms) (j i : Nat) (v : Int32) : ms := (s.1, up1 s.2 j (upd (s.2 j) i v))
abbrev m_fl (n : Nat) (cd : Int32) (s : ms) : List Value := [.int cd, .int (nI s.1), .ref (n + 0), .ref (n + 1), .ref (n + 2), .ref (n + 3), .ref (n + 4), .ref (n + 5), .ref (n + 6), .ref (n + 7), .ref (n + 8), .ref (n + 9), .ref (n + 10), .ref (n + 11), .ref (n + 12), .ref (n + 13), .ref (n + 14)]
def mo_at (D : va_G) (ca : kca) (z : State) (a n : Nat) (cd : Int32) (s : ms) (H : Heap) : Prop := (z.heap.size ≤ a ∧ a < n) ∧ va_at D kcl (a, .inr (6, m_fl n cd s)) H ∧ ∀ j, j < 15 → va_at D kcl (n + j, .inl (ca.1, m_len j, .inl (s.2 j))) H
/-- only the reference's cells have changed -/
def kpm (a n : Nat) (H H1 : Heap) : Prop := H1.size = H.size ∧ ∀ q : Nat, q ≠ a → (q < n ∨ n + 15 ≤ q) → H1[q]? = H[q]?
theorem kpm.rf {a n : Nat} {H : Heap} : kpm a n H H := ⟨rfl, fun _ _ _ => rfl⟩
theorem kpm.tr {a n : Nat} {H H1 H2 : Heap} (h : kpm a n H H1) (h2 : kpm a n H1 H2) : kpm a n H H2 := ⟨h2.1.trans h.1, fun q h1 h3 => (h2.2 q h1 h3).trans (h.2 q h1 h3)⟩
section Mo
variable {l : Launch} {z : State} {b : yy_T} {rm : Room} {cc : ByteArray} {nL : Nat} {own : String} {ret : Option FieldType} {hh : List (Nat × Nat × Nat × Nat)} {Post : yy_R → Heap → Prop}
variable {H : Heap} {locs : List Loc} {k : Nat × Nat} {pc n' : Nat} {lv lv' : List (Nat × Value)} {st : List Value}
variable {a0 : Array Value} {D : va_G} {ca : kca} {a n idx i : Nat} {cd v : Int32} {s : ms}
theorem mo_at.o (P : mo_at D ca z a n cd s H) : va_at D kcl (a, .inr (6, m_fl n cd s)) H := P.2.1
theorem mo_at.r (P : mo_at D ca z a n cd s H) {j : Nat} (hj : j < 15) : va_at D kcl (n + j, .inl (ca.1, m_len j, .inl (s.2 j))) H := P.2.2 j hj
theorem mo_at.za (P : mo_at D ca z a n cd s H) : z.heap.size ≤ a := P.1.1
theorem mo_at.zn (P : mo_at D ca z a n cd s H) (j : Nat) : z.heap.size ≤ n + j := by have := P.1.1; have := P.1.2; omega
theorem m_len_lt (j : Nat) : m_len j < 2 ^ 31 := by
  unfold m_len
  split
  · decide
  · split <;> decide
theorem ma_ld (F : yy_A l z b rm cc nL own ret hh Post) (X : kcx l z a0 D ca) (P : mo_at D ca z a n cd s H) {j : Nat} (hj : j < 15) (hi : i < m_len j) (d : decode cc pc = .ok (.iaload, 1)) (hn : pc + 1 = n') (kk : yy_Y b H locs k n' lv (.int (s.2 j i) :: st)) : yy_Y b H locs k pc lv (.int (nI i) :: .ref (n + j) :: st) := by
  have hl := m_len_lt j
  refine yy_iald F X.2.1 0 rfl (P.r hj) (vp_in_nI hi hl) d hn ?_
  rw [nI_clamp (by omega)]
  exact kk
theorem ma_st (F : yy_A l z b rm cc nL own ret hh Post) (X : kcx l z a0 D ca) (P : mo_at D ca z a n cd s H) (hS : yy_S z H locs) {j : Nat} (hj : j < 15) (hi : i < m_len j) (d : decode cc pc = .ok (.iastore, 1)) (hn : pc + 1 = n')
    (kk : ∀ (H1 : Heap) (locs1 : List Loc), mo_at D ca z a n cd (m_set s j i v) H1 → kpm a n H H1 → yy_S z H1 locs1 → yy_Y b H1 locs1 k n' lv st) : yy_Y b H locs k pc lv (.int v :: .int (nI i) :: .ref (n + j) :: st) := by
  have hl := m_len_lt j
  refine yy_iast F X.2.1 0 rfl hS (P.zn j) (P.r hj) (vp_in_nI hi hl) d hn (fun H1 locs1 O e2 e3 hS1 => ?_)
  rw [nI_clamp (by omega)] at O
  have h1 := P.1.2
  refine kk H1 locs1 ⟨P.1, va_at.kept P.o (e3 _ (by show a ≠ n + j; omega)), fun q hq => ?_⟩ ⟨e2, fun q hq h9 => e3 q (by omega)⟩ hS1
  by_cases e : q = j
  · subst e
    show va_at D kcl (n + q, .inl (ca.1, m_len q, .inl (up1 s.2 q (upd (s.2 q) i v) q))) H1
    rw [up1_s]
    exact O
  · show va_at D kcl (n + q, .inl (ca.1, m_len q, .inl (up1 s.2 j (upd (s.2 j) i v) q))) H1
    rw [up1_o _ _ e]
    exact va_at.kept (P.r hq) (e3 _ (by show n + q ≠ n + j; omega))
theorem ma_code (F : yy_A l z b rm cc nL own ret hh Post) (X : kcx l z a0 D ca) (G : yy_G lw_tbl kcl own idx 6 0) (P : mo_at D ca z a n cd s H) (hS : yy_S z H locs) (d : decode cc pc = .ok (.putfield idx, 3)) (hn : pc + 3 = n')
    (kk : ∀ (H1 : Heap) (locs1 : List Loc), mo_at D ca z a n v s H1 → kpm a n H H1 → yy_S z H1 locs1 → yy_Y b H1 locs1 k n' lv st) : yy_Y b H locs k pc lv (.int v :: .ref a :: st) := by
  have h1 := P.1.2
  refine yy_put F X.1 X.2.1 G gt_M (fun C T N h => by cases h; rfl) hS P.za P.o rfl rfl (Nat.le_of_ble_eq_true rfl) d hn (fun H1 locs1 O e2 e3 hS1 => ?_)
  exact kk H1 locs1 ⟨P.1, O, fun q hq => va_at.kept (P.r hq) (e3 _ (by show n + q ≠ a; omega))⟩ ⟨e2, fun q hq h9 => e3 q hq⟩ hS1
theorem ma_many (F : yy_A l z b rm cc nL own ret hh Post) (X : kcx l z a0 D ca) (G : yy_G lw_tbl kcl own idx 6 1) (P : mo_at D ca z a n cd s H) (hS : yy_S z H locs) (d : decode cc pc = .ok (.putfield idx, 3)) (hn : pc + 3 = n')
    (kk : ∀ (H1 : Heap) (locs1 : List Loc), mo_at D ca z a n cd (i, s.2) H1 → kpm a n H H1 → yy_S z H1 locs1 → yy_Y b H1 locs1 k n' lv st) : yy_Y b H locs k pc lv (.int (nI i) :: .ref a :: st) := by
  have h1 := P.1.2
  refine yy_put F X.1 X.2.1 G gt_M (fun C T N h => by cases h; rfl) hS P.za P.o rfl rfl (Nat.le_of_ble_eq_true rfl) d hn (fun H1 locs1 O e2 e3 hS1 => ?_)
  exact kk H1 locs1 ⟨P.1, O, fun q hq => va_at.kept (P.r hq) (e3 _ (by show n + q ≠ a; omega))⟩ ⟨e2, fun q hq h9 => e3 q hq⟩ hS1
end Mo
/-- the same numbers, in whatever order -/
def hp (f g : Nat → Int32) (n : Nat) : Prop := ∀ x : Int32, ym_cnt (fun i => decide (f i = x)) n = ym_cnt (fun i => decide (g i = x)) n
def mr_c (s : ms) (σ : ks) (c : Nat) : Prop := s.2 0 c = k_kd σ c ∧ s.2 2 c = nI (k_bs σ c) ∧ (k_kd σ c = 6 → s.2 1 c = nI (k_of σ c) ∧ s.2 8 c = nI (k_fs σ c) ∧ s.2 9 c = nI (k_ln σ c) ∧ s.2 10 c = nI (k_se σ c)) ∧ (k_kd σ c = 7 → s.2 8 c = k_lo σ c ∧ s.2 9 c = k_hi σ c)
def mr_s (s : ms) (kd : Int32) (b : Nat) (q : kS) : Prop := (s.2 5 b = nI (s_ct q) ∧ s.2 6 b = nI (s_ch q) ∧ s.2 7 b = nI (s_ro q)) ∧ (¬ kd = 5 → ∀ p, p < 24 → s.2 3 (24 * b + p) = s_nu q p) ∧ (kd = 5 → s_ct q ≤ 24 ∧ hp (fun p => s.2 3 (24 * b + p)) (s_nu q) (s_ct q)) ∧ (kd = 2 ∨ kd = 3 ∨ kd = 4 → ∀ p, p < 24 → s.2 4 (24 * b + p) = s_vl q p)
def mr_w (s : ms) (i : Nat) (w : kW) : Prop := match w.1 with | none => s.2 11 i = -1 | some c => s.2 11 i = nI c ∧ s.2 12 i = nI w.2.1 ∧ s.2 13 i = w.2.2.1 ∧ s.2 14 i = nI w.2.2.2
/-- what no base has used is 0 -/
def mz (s : ms) (m : Nat) : Prop := ∀ i, 24 * m ≤ i → i < 240 → s.2 3 i = 0 ∧ s.2 4 i = 0
def mr (s : ms) (σ : ks) : Prop := s.1 = k_m σ ∧ (∀ c, c < k_m σ → mr_c s σ c) ∧ (∀ b, b < k_m σ → k_bs σ b = b → mr_s s (k_kd σ b) b (k_S σ b)) ∧ (∀ i, i < 4 → mr_w s i (k_W σ i)) ∧ mz s (k_m σ)
section Mr
variable {t : Nat} {σ : ks} {s : ms} {c : Nat}
theorem mr.kd (R : mr s σ) (hc : c < k_m σ) : s.2 0 c = k_kd σ c := (R.2.1 c hc).1
theorem mr.bs (R : mr s σ) (hc : c < k_m σ) : s.2 2 c = nI (k_bs σ c) := (R.2.1 c hc).2.1
theorem mr.of (R : mr s σ) (hc : c < k_m σ) (h6 : k_kd σ c = 6) : s.2 1 c = nI (k_of σ c) := ((R.2.1 c hc).2.2.1 h6).1
theorem mr.fs (R : mr s σ) (hc : c < k_m σ) (h6 : k_kd σ c = 6) : s.2 8 c = nI (k_fs σ c) := ((R.2.1 c hc).2.2.1 h6).2.1
theorem mr.ln (R : mr s σ) (hc : c < k_m σ) (h6 : k_kd σ c = 6) : s.2 9 c = nI (k_ln σ c) := ((R.2.1 c hc).2.2.1 h6).2.2.1
theorem mr.se (R : mr s σ) (hc : c < k_m σ) (h6 : k_kd σ c = 6) : s.2 10 c = nI (k_se σ c) := ((R.2.1 c hc).2.2.1 h6).2.2.2
theorem mr.lo (R : mr s σ) (hc : c < k_m σ) (h7 : k_kd σ c = 7) : s.2 8 c = k_lo σ c := ((R.2.1 c hc).2.2.2 h7).1
theorem mr.hi (R : mr s σ) (hc : c < k_m σ) (h7 : k_kd σ c = 7) : s.2 9 c = k_hi σ c := ((R.2.1 c hc).2.2.2 h7).2
theorem mr.ss (R : mr s σ) (I : iv t σ) (hc : c < k_m σ) : mr_s s (k_kb σ c) (k_bs σ c) (k_B σ c) := R.2.2.1 _ (I.bs hc) (I.bb hc)
theorem mr.ct (R : mr s σ) (I : iv t σ) (hc : c < k_m σ) : s.2 5 (k_bs σ c) = nI (s_ct (k_B σ c)) := (R.ss I hc).1.1
theorem mr.ch (R : mr s σ) (I : iv t σ) (hc : c < k_m σ) : s.2 6 (k_bs σ c) = nI (s_ch (k_B σ c)) := (R.ss I hc).1.2.1
theorem mr.ro (R : mr s σ) (I : iv t σ) (hc : c < k_m σ) : s.2 7 (k_bs σ c) = nI (s_ro (k_B σ c)) := (R.ss I hc).1.2.2
theorem mr.nu (R : mr s σ) (I : iv t σ) (hc : c < k_m σ) (h5 : ¬ k_kb σ c = 5) {p : Nat} (hp : p < 24) : s.2 3 (24 * k_bs σ c + p) = s_nu (k_B σ c) p := (R.ss I hc).2.1 h5 p hp
theorem mr.vl (R : mr s σ) (I : iv t σ) (hc : c < k_m σ) (h : k_kb σ c = 2 ∨ k_kb σ c = 3 ∨ k_kb σ c = 4) {p : Nat} (hp : p < 24) : s.2 4 (24 * k_bs σ c + p) = s_vl (k_B σ c) p := (R.ss I hc).2.2.2 h p hp
theorem mr.w0 {i : Nat} (R : mr s σ) (hi : i < 4) (h : (k_W σ i).1 = none) : s.2 11 i = -1 := by
  have h9 := R.2.2.2.1 i hi
  unfold mr_w at h9
  rw [h] at h9
  exact h9
theorem mr.w1 {i : Nat} (R : mr s σ) (hi : i < 4) (h : (k_W σ i).1 = some c) : s.2 11 i = nI c ∧ s.2 12 i = nI (k_W σ i).2.1 ∧ s.2 13 i = (k_W σ i).2.2.1 ∧ s.2 14 i = nI (k_W σ i).2.2.2 := by
  have h9 := R.2.2.2.1 i hi
  unfold mr_w at h9
  rw [h] at h9
  exact h9
end Mr
