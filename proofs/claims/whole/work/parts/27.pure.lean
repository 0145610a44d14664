/-! PART pure: a change through a container, and what holds behind it -/
/-- the container's base becomes s; the parts from c upwards follow -/
def k_thru (σ : ks) (c : Nat) (s : kS) (g : Nat → Nat) : ks := k_fo g (s_ch (k_B (k_setS σ (k_bs σ c) s) c)) (c + 1) c (k_setS σ (k_bs σ c) s)
def k_bring (σ : ks) (c q : Nat) (x : Int32) : ks := k_thru σ c (S_bring (k_kd σ (k_bs σ c)) (k_B σ c) q x 0) (fun m => m + 1)
def k_take (σ : ks) (c q : Nat) : ks := k_thru σ c (S_take (k_B σ c) q) (fun m => m - 1)
def k_arr (σ : ks) (c : Nat) (how : Int32) : ks := k_thru σ c (S_so (k_B σ c) (k_start σ c) (k_start σ c + k_size σ c) how) (fun m => m)
/-- y is met on the way from x upwards -/
def on_ch (σ : ks) : Nat → Nat → Nat → Prop
  | 0, _, _ => False
  | n + 1, x, y => k_kd σ x = 6 ∧ (y = x ∨ on_ch σ n (k_of σ x) y)
theorem on_ch_congr {σ σ' : ks} (h : ∀ y, k_kd σ' y = k_kd σ y ∧ k_of σ' y = k_of σ y) : ∀ n x y : Nat, on_ch σ' n x y ↔ on_ch σ n x y
  | 0, _, _ => Iff.rfl
  | n + 1, x, y => by
    unfold on_ch
    rw [(h x).1, (h x).2, on_ch_congr h n (k_of σ x) y]
theorem on_ch_le {σ : ks} {m : Nat} (hw : ∀ x, x < m → k_kd σ x = 6 → k_of σ x < x) : ∀ {n x y : Nat}, x < m → on_ch σ n x y → y ≤ x
  | 0, _, _, _, h => h.elim
  | n + 1, x, y, hx, h => by
    rcases h with ⟨h6, h | h⟩
    · omega
    · have h1 := hw x hx h6
      have h2 := on_ch_le hw (by omega) h
      omega
theorem on_ch_up {σ : ks} {m : Nat} (hw : ∀ x, x < m → k_kd σ x = 6 → k_of σ x < x) : ∀ {n x y : Nat}, x < m → x < n → on_ch σ n x y → k_kd σ (k_of σ y) = 6 → on_ch σ n x (k_of σ y)
  | 0, _, _, _, _, h, _ => h.elim
  | n + 1, x, y, hx, hn, h, h6 => by
    rcases h with ⟨h6x, h | h⟩
    · subst h
      have h1 := hw y hx h6x
      refine ⟨h6x, Or.inr ?_⟩
      cases n with
      | zero => omega
      | succ n => exact ⟨h6, Or.inl rfl⟩
    · have h1 := hw x hx h6x
      exact ⟨h6x, Or.inr (on_ch_up hw (by omega) (by omega) h h6)⟩
/-- what following changes -/
theorem k_fo_C {m : Nat} (g : Nat → Nat) (h : Nat) : ∀ (n x : Nat) (σ : ks), (∀ x, x < m → k_kd σ x = 6 → k_of σ x < x) → x < m → (k_fo g h n x σ).1 = σ.1 ∧ (k_fo g h n x σ).2.2 = σ.2.2 ∧ ∀ y, (on_ch σ n x y → k_C (k_fo g h n x σ) y = (k_kd σ y, k_bs σ y, k_of σ y, k_fs σ y, g (k_ln σ y), h, k_lo σ y, k_hi σ y)) ∧ (¬ on_ch σ n x y → k_C (k_fo g h n x σ) y = k_C σ y)
  | 0, x, σ, _, _ => ⟨rfl, rfl, fun y => ⟨fun h => h.elim, fun _ => rfl⟩⟩
  | n + 1, x, σ, hw, hx => by
    by_cases h6 : k_kd σ x = 6
    · have e : k_fo g h (n + 1) x σ = k_fo g h n (k_of σ x) (k_setL σ x (g (k_ln σ x)) h) := if_pos h6
      have hk := k_setL_kd σ x (g (k_ln σ x)) h
      have hox := hw x hx h6
      obtain ⟨i1, i2, i3⟩ := k_fo_C (m := m) g h n (k_of σ x) (k_setL σ x (g (k_ln σ x)) h) (fun y hy hy6 => by rw [(hk y).2.2.1]; exact hw y hy (by rw [← (hk y).1]; exact hy6)) (by omega)
      rw [e]
      refine ⟨i1, i2, fun y => ?_⟩
      have hcg := on_ch_congr (σ := σ) (σ' := k_setL σ x (g (k_ln σ x)) h) (fun y => ⟨(hk y).1, (hk y).2.2.1⟩) n (k_of σ x) y
      by_cases hy : y = x
      · subst hy
        have hno : ¬ on_ch σ n (k_of σ y) y := fun q => by have := on_ch_le hw (by omega) q; omega
        refine ⟨fun _ => ?_, fun q => absurd ⟨h6, Or.inl rfl⟩ q⟩
        rw [(i3 y).2 (mt hcg.mp hno)]
        unfold k_setL k_setC k_C
        dsimp only
        rw [up1_s]
      · have hC := k_setL_o σ (g (k_ln σ x)) h hy
        refine ⟨fun q => ?_, fun q => ?_⟩
        · rcases q with ⟨-, q | q⟩
          · exact absurd q hy
          · rw [(i3 y).1 (hcg.mpr q)]
            have hC9 : (k_setL σ x (g (k_ln σ x)) h).2.1 y = σ.2.1 y := hC
            unfold k_kd k_bs k_of k_fs k_ln k_lo k_hi
            rw [hC9]
        · rw [(i3 y).2 (fun q9 => q ⟨h6, Or.inr (hcg.mp q9)⟩)]
          exact hC
    · have e : k_fo g h (n + 1) x σ = σ := if_neg h6
      rw [e]
      exact ⟨rfl, rfl, fun y => ⟨fun q => absurd q.1 h6, fun _ => rfl⟩⟩
section Thru
variable {t : Nat} {σ : ks} {c : Nat}
theorem iv.hw (I : iv t σ) : ∀ x, x < k_m σ → k_kd σ x = 6 → k_of σ x < x := fun x hx h6 => ((I.cc hx).2.2.2.2.2 h6).2.1
/-- the parts on the way are not stale, and lie in each other -/
theorem iv.on (I : iv t σ) : ∀ {n x y : Nat}, x < k_m σ → k_fr σ x → on_ch σ n x y → y < k_m σ ∧ k_kd σ y = 6 ∧ k_bs σ y = k_bs σ x ∧ k_fr σ y ∧ k_ln σ x ≤ k_ln σ y
  | 0, _, _, _, _, h => h.elim
  | n + 1, x, y, hx, hf, h => by
    rcases h with ⟨h6, h | h⟩
    · subst h
      exact ⟨hx, h6, rfl, hf, Nat.le_refl _⟩
    · have hox := I.hw x hx h6
      obtain ⟨-, -, hb, -, -, h9⟩ := (I.cc hx).2.2.2.2.2 h6
      have h8 := (h9 (hf h6)).2
      have h6o : k_kd σ (k_of σ x) = 6 := by
        cases n with
        | zero => exact h.elim
        | succ n => exact h.1
      have hfo : k_fr σ (k_of σ x) := fun _ => by
        rw [(h8 h6o).1]
        unfold k_B
        rw [hb]
      obtain ⟨i1, i2, i3, i4, i5⟩ := I.on (by omega) hfo h
      exact ⟨i1, i2, by rw [i3, hb], i4, Nat.le_trans (h8 h6o).2 i5⟩
theorem iv.chn (I : iv t σ) : ∀ (n x : Nat), x < k_m σ → k_fr σ x → (k_kd σ x = 6 → 1 ≤ k_ln σ x) → k_chn σ (fun m => m - 1) (-1) n x
  | 0, _, _, _, _ => trivial
  | n + 1, x, hx, hf, h1 => fun h6 => by
    have hox := I.hw x hx h6
    obtain ⟨-, -, hb, -, -, h9⟩ := (I.cc hx).2.2.2.2.2 h6
    have h8 := (h9 (hf h6)).2
    have h2 := h1 h6
    refine ⟨?_, I.chn n _ (by omega) (fun h6o => ?_) (fun h6o => Nat.le_trans h2 (h8 h6o).2)⟩
    · obtain ⟨m, hm⟩ : ∃ m, k_ln σ x = m + 1 := ⟨k_ln σ x - 1, by omega⟩
      rw [hm]
      exact pk_m1 m
    · rw [(h8 h6o).1]
      unfold k_B
      rw [hb]
theorem k_chn_S (σ : ks) (b : Nat) (s : kS) (g : Nat → Nat) (more : Int32) : ∀ n x : Nat, k_chn (k_setS σ b s) g more n x ↔ k_chn σ g more n x
  | 0, _ => Iff.rfl
  | n + 1, x => by
    unfold k_chn
    rw [k_chn_S σ b s g more n]
    exact Iff.rfl
/-- all that a change through a container keeps -/
theorem k_thru_C (I : iv t σ) (hc : c < k_m σ) (s : kS) (g : Nat → Nat) : (k_thru σ c s g).1 = σ.1 ∧ (k_thru σ c s g).2.2.1 = up1 σ.2.2.1 (k_bs σ c) s ∧ (k_thru σ c s g).2.2.2 = σ.2.2.2 ∧ ∀ y, (on_ch σ (c + 1) c y → k_C (k_thru σ c s g) y = (k_kd σ y, k_bs σ y, k_of σ y, k_fs σ y, g (k_ln σ y), s_ch s, k_lo σ y, k_hi σ y)) ∧ (¬ on_ch σ (c + 1) c y → k_C (k_thru σ c s g) y = k_C σ y) := by
  have hB : k_B (k_setS σ (k_bs σ c) s) c = s := up1_s _ _ _
  unfold k_thru
  rw [hB]
  obtain ⟨i1, i2, i3⟩ := k_fo_C (m := k_m σ) g (s_ch s) (c + 1) c (k_setS σ (k_bs σ c) s) I.hw hc
  refine ⟨i1, by rw [i2]; rfl, by rw [i2]; rfl, fun y => ?_⟩
  have hcg := on_ch_congr (σ := σ) (σ' := k_setS σ (k_bs σ c) s) (fun y => ⟨rfl, rfl⟩) (c + 1) c y
  exact ⟨fun q => (i3 y).1 (hcg.mpr q), fun q => (i3 y).2 (mt hcg.mp q)⟩
theorem k_thru_k (I : iv t σ) (hc : c < k_m σ) (s : kS) (g : Nat → Nat) (y : Nat) : k_kd (k_thru σ c s g) y = k_kd σ y ∧ k_bs (k_thru σ c s g) y = k_bs σ y ∧ k_of (k_thru σ c s g) y = k_of σ y ∧ k_fs (k_thru σ c s g) y = k_fs σ y ∧ k_lo (k_thru σ c s g) y = k_lo σ y ∧ k_hi (k_thru σ c s g) y = k_hi σ y := by
  have h := (k_thru_C I hc s g).2.2.2 y
  unfold k_kd k_bs k_of k_fs k_lo k_hi
  by_cases q : on_ch σ (c + 1) c y
  · have e : (k_thru σ c s g).2.1 y = _ := h.1 q
    rw [e]
    exact ⟨rfl, rfl, rfl, rfl, rfl, rfl⟩
  · have e : (k_thru σ c s g).2.1 y = _ := h.2 q
    rw [e]
    exact ⟨rfl, rfl, rfl, rfl, rfl, rfl⟩
theorem k_thru_S (I : iv t σ) (hc : c < k_m σ) (s : kS) (g : Nat → Nat) (y : Nat) : k_S (k_thru σ c s g) y = up1 σ.2.2.1 (k_bs σ c) s y := by
  unfold k_S
  rw [(k_thru_C I hc s g).2.1]
theorem k_thru_B (I : iv t σ) (hc : c < k_m σ) (s : kS) (g : Nat → Nat) (y : Nat) : k_B (k_thru σ c s g) y = if k_bs σ y = k_bs σ c then s else k_B σ y := by
  unfold k_B
  rw [(k_thru_k I hc s g y).2.1, (k_thru_C I hc s g).2.1]
  unfold up1
  rfl
theorem k_thru_ln (I : iv t σ) (hc : c < k_m σ) (s : kS) (g : Nat → Nat) {y : Nat} (q : on_ch σ (c + 1) c y) : k_ln (k_thru σ c s g) y = g (k_ln σ y) ∧ k_se (k_thru σ c s g) y = s_ch s := by
  have e : (k_thru σ c s g).2.1 y = _ := ((k_thru_C I hc s g).2.2.2 y).1 q
  unfold k_ln k_se
  rw [e]
  exact ⟨rfl, rfl⟩
theorem k_thru_no (I : iv t σ) (hc : c < k_m σ) (s : kS) (g : Nat → Nat) {y : Nat} (q : ¬ on_ch σ (c + 1) c y) : k_ln (k_thru σ c s g) y = k_ln σ y ∧ k_se (k_thru σ c s g) y = k_se σ y := by
  have e : (k_thru σ c s g).2.1 y = _ := ((k_thru_C I hc s g).2.2.2 y).2 q
  unfold k_ln k_se
  rw [e]
  exact ⟨rfl, rfl⟩
theorem k_size_congr {σ' : ks} (h : k_kd σ' c = k_kd σ c ∧ k_ln σ' c = k_ln σ c ∧ k_B σ' c = k_B σ c ∧ k_lo σ' c = k_lo σ c ∧ k_hi σ' c = k_hi σ c) : k_size σ' c = k_size σ c := by
  unfold k_size
  rw [h.1, h.2.1, h.2.2.1, h.2.2.2.1, h.2.2.2.2]
theorem iv.thru {t' : Nat} (I : iv t σ) (hc : c < k_m σ) (hf : k_fr σ c) {s : kS} {g : Nat → Nat} (ht : t' ≤ 100000) (htt : t ≤ t') (hs : iv_s t' (k_kd σ (k_bs σ c)) s) (hch : s_ch (k_B σ c) < s_ch s) (hg : ∀ a b : Nat, a ≤ b → g a ≤ g b) (hgc : ∀ y, on_ch σ (c + 1) c y → k_fs σ y + g (k_ln σ y) ≤ s_ct s) : iv t' (k_thru σ c s g) ∧ k_fr (k_thru σ c s g) c := by
  obtain ⟨j1, j2, j3, j4⟩ := k_thru_C I hc s g
  have hk := k_thru_k I hc s g
  have hB := k_thru_B I hc s g
  have hbs : ∀ y, y < k_m σ → on_ch σ (c + 1) c y → k_bs σ y = k_bs σ c := fun y hy q => (I.on hc hf q).2.2.1
  have hm : k_m (k_thru σ c s g) = k_m σ := j1
  refine ⟨⟨by rw [hm]; exact I.1, ht, fun y hy => ?_, fun b hb e => ?_, fun i hi => ?_⟩, fun h6 => ?_⟩
  · rw [hm] at hy
    obtain ⟨i1, i2, i3, i4, i5, i6⟩ := I.cc hy
    unfold iv_c
    rw [(hk y).1, (hk y).2.1, (hk y).2.2.1, (hk y).2.2.2.1, (hk (k_bs σ y)).1, (hk (k_bs σ y)).2.1, (hk (k_of σ y)).1, (hk (k_of σ y)).2.1, hm, hB y]
    refine ⟨i1, i2, i3, i4, i5, fun h6 => ?_⟩
    obtain ⟨l1, l2, l3, l4, l5, l6⟩ := i6 h6
    refine ⟨l1, l2, l3, l4, ?_⟩
    by_cases q : on_ch σ (c + 1) c y
    · rw [(k_thru_ln I hc s g q).1, (k_thru_ln I hc s g q).2, if_pos (hbs y hy q)]
      refine ⟨Nat.le_refl _, fun _ => ⟨hgc y q, fun h6o => ?_⟩⟩
      have qo := on_ch_up I.hw hc (Nat.lt_succ_self _) q h6o
      rw [(k_thru_ln I hc s g qo).1, (k_thru_ln I hc s g qo).2]
      have hfy := (I.on hc hf q).2.2.2.1
      exact ⟨rfl, hg _ _ ((l6 (hfy h6)).2 h6o).2⟩
    · rw [(k_thru_no I hc s g q).1, (k_thru_no I hc s g q).2]
      by_cases hb : k_bs σ y = k_bs σ c
      · rw [if_pos hb]
        have l5' : k_se σ y ≤ s_ch (k_B σ c) := by
          have : k_B σ y = k_B σ c := by unfold k_B; rw [hb]
          rw [← this]; exact l5
        exact ⟨by omega, fun q9 => by omega⟩
      · rw [if_neg hb]
        refine ⟨l5, fun q9 => ⟨(l6 q9).1, fun h6o => ?_⟩⟩
        have qo : ¬ on_ch σ (c + 1) c (k_of σ y) := fun qo => hb (by rw [← l3]; exact hbs _ (by omega) qo)
        rw [(k_thru_no I hc s g qo).1, (k_thru_no I hc s g qo).2]
        exact (l6 q9).2 h6o
  · rw [hm] at hb
    rw [(hk b).1, k_thru_S I hc s g b]
    rw [(hk b).2.1] at e
    by_cases hbb : b = k_bs σ c
    · rw [hbb, up1_s]
      exact hs
    · rw [up1_o _ _ hbb]
      obtain ⟨h1, h2, h3⟩ := I.2.2.2.1 b hb e
      exact ⟨h1, Nat.le_trans h2 htt, h3⟩
  · have hWi : k_W (k_thru σ c s g) i = k_W σ i := by unfold k_W; rw [j3]
    rw [hWi]
    obtain ⟨w1, w2⟩ := I.2.2.2.2 i hi
    refine ⟨w1, fun o ho => ?_⟩
    obtain ⟨v1, v2, v3, v4⟩ := w2 o ho
    unfold iv_w
    rw [hWi, hm, (hk o).1, hB o]
    by_cases hb : k_bs σ o = k_bs σ c
    · rw [if_pos hb]
      have e9 : k_B σ o = k_B σ c := by unfold k_B; rw [hb]
      rw [e9] at v3
      exact ⟨v1, v2, by omega, fun _ q => by omega⟩
    · rw [if_neg hb]
      have qo : ¬ on_ch σ (c + 1) c o := fun qo => hb (hbs _ v1 qo)
      have hsz : k_size (k_thru σ c s g) o = k_size σ o := k_size_congr ⟨(hk o).1, (k_thru_no I hc s g qo).1, by rw [hB o, if_neg hb], (hk o).2.2.2.2.1, (hk o).2.2.2.2.2⟩
      have hfr : k_fr (k_thru σ c s g) o → k_fr σ o := fun q h6 => by
        have := q (by rw [(hk o).1]; exact h6)
        rw [(k_thru_no I hc s g qo).2, hB o, if_neg hb] at this
        exact this
      refine ⟨v1, v2, v3, fun q1 q2 => ?_⟩
      rw [hsz]
      exact v4 (hfr q1) q2
  · rw [(hk c).1] at h6
    have qc : on_ch σ (c + 1) c c := ⟨h6, Or.inl rfl⟩
    rw [(k_thru_ln I hc s g qc).2, hB c, if_pos rfl]
end Thru
