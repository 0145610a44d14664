/-! PART pic: the state that the class and the reference both picture -/
/-- a function, changed at one place -/
def up1 {α : Type} (f : Nat → α) (i : Nat) (x : α) : Nat → α := fun q => if q = i then x else f q
theorem up1_s {α : Type} (f : Nat → α) (i : Nat) (x : α) : up1 f i x i = x := if_pos rfl
theorem up1_o {α : Type} (f : Nat → α) {i q : Nat} (x : α) (h : q ≠ i) : up1 f i x q = f q := if_neg h
theorem up1_up1 {α : Type} (f : Nat → α) (i : Nat) (x y : α) : up1 (up1 f i x) i y = up1 f i y := by
  funext q
  unfold up1
  split <;> rfl
theorem up1_id {α : Type} (f : Nat → α) (i : Nat) : up1 f i (f i) = f := by
  funext q
  unfold up1
  split
  · rename_i h
    rw [h]
  · rfl
/-- a base's own: count, changes, room, numbers, values -/
abbrev kS : Type := Nat × Nat × Nat × (Nat → Int32) × (Nat → Int32)
/-- a container's own: kind, base, what it is a part of, start, count, seen changes, low, high -/
abbrev kC : Type := Int32 × Nat × Nat × Nat × Nat × Nat × Int32 × Int32
/-- an iterator's own: over, place, latest, known changes -/
abbrev kW : Type := Option Nat × Nat × Int32 × Nat
abbrev ks : Type := Nat × (Nat → kC) × (Nat → kS) × (Nat → kW)
abbrev k_m (σ : ks) : Nat := σ.1
abbrev k_C (σ : ks) (c : Nat) : kC := σ.2.1 c
abbrev k_S (σ : ks) (b : Nat) : kS := σ.2.2.1 b
abbrev k_W (σ : ks) (i : Nat) : kW := σ.2.2.2 i
abbrev s_ct (s : kS) : Nat := s.1
abbrev s_ch (s : kS) : Nat := s.2.1
abbrev s_ro (s : kS) : Nat := s.2.2.1
abbrev s_nu (s : kS) : Nat → Int32 := s.2.2.2.1
abbrev s_vl (s : kS) : Nat → Int32 := s.2.2.2.2
abbrev k_kd (σ : ks) (c : Nat) : Int32 := (σ.2.1 c).1
abbrev k_bs (σ : ks) (c : Nat) : Nat := (σ.2.1 c).2.1
abbrev k_of (σ : ks) (c : Nat) : Nat := (σ.2.1 c).2.2.1
abbrev k_fs (σ : ks) (c : Nat) : Nat := (σ.2.1 c).2.2.2.1
abbrev k_ln (σ : ks) (c : Nat) : Nat := (σ.2.1 c).2.2.2.2.1
abbrev k_se (σ : ks) (c : Nat) : Nat := (σ.2.1 c).2.2.2.2.2.1
abbrev k_lo (σ : ks) (c : Nat) : Int32 := (σ.2.1 c).2.2.2.2.2.2.1
abbrev k_hi (σ : ks) (c : Nat) : Int32 := (σ.2.1 c).2.2.2.2.2.2.2
/-- the base's own, of a container -/
abbrev k_B (σ : ks) (c : Nat) : kS := σ.2.2.1 (k_bs σ c)
def k_setC (σ : ks) (c : Nat) (x : kC) : ks := (σ.1, up1 σ.2.1 c x, σ.2.2.1, σ.2.2.2)
def k_setS (σ : ks) (b : Nat) (x : kS) : ks := (σ.1, σ.2.1, up1 σ.2.2.1 b x, σ.2.2.2)
def k_setW (σ : ks) (i : Nat) (x : kW) : ks := (σ.1, σ.2.1, σ.2.2.1, up1 σ.2.2.2 i x)
/-- addresses: the kit, its two rows, containers, stores and their two rows, iterators; whose an address is -/
abbrev kA : Type := Nat × Nat × Nat × (Nat → Nat) × (Nat → Nat) × (Nat → Nat) × (Nat → Nat) × (Nat → Nat) × (Nat → Nat)
abbrev a_k (A : kA) : Nat := A.1
abbrev a_ka (A : kA) : Nat := A.2.1
abbrev a_wa (A : kA) : Nat := A.2.2.1
abbrev a_ad (A : kA) : Nat → Nat := A.2.2.2.1
abbrev a_sa (A : kA) : Nat → Nat := A.2.2.2.2.1
abbrev a_na (A : kA) : Nat → Nat := A.2.2.2.2.2.1
abbrev a_va (A : kA) : Nat → Nat := A.2.2.2.2.2.2.1
abbrev a_wd (A : kA) : Nat → Nat := A.2.2.2.2.2.2.2.1
abbrev a_ow (A : kA) : Nat → Nat := A.2.2.2.2.2.2.2.2
/-- whose the addresses are -/
def ka_ok (z : State) (n : Nat) (A : kA) (σ : ks) : Prop := a_ow A (a_k A) = 1 ∧ a_ow A (a_ka A) = 2 ∧ a_ow A (a_wa A) = 3 ∧ (∀ i, i < 4 → a_ow A (a_wd A i) = 4 + i) ∧ (∀ c, c < k_m σ → a_ow A (a_ad A c) = 10 + c) ∧
  (∀ b, b < k_m σ → k_bs σ b = b → a_ow A (a_sa A b) = 20 + b ∧ a_ow A (a_na A b) = 30 + b ∧ a_ow A (a_va A b) = 40 + b) ∧ (∀ q, a_ow A q ≠ 0 → z.heap.size ≤ q ∧ q < n) ∧ k_m σ ≤ 10 ∧ ∀ c, c < k_m σ → k_bs σ c < k_m σ ∧ k_bs σ (k_bs σ c) = k_bs σ c
/-- a container's fields -/
def k_ab (A : kA) (σ : ks) (c : Nat) : Option Nat := if k_kd σ (k_of σ c) = 6 then some (a_ad A (k_of σ c)) else none
def k_ci (σ : ks) (c : Nat) : Nat := if k_kd σ c = 6 then 2 else if k_kd σ c = 7 then 3 else 1
def k_fl (A : kA) (σ : ks) (c : Nat) : List Value := if k_kd σ c = 6 then [.int 6, .ref (a_sa A (k_bs σ c)), va_rf (k_ab A σ c), .int (nI (k_fs σ c)), .int (nI (k_ln σ c)), .int (nI (k_se σ c))]
  else if k_kd σ c = 7 then [.int 7, .ref (a_sa A (k_bs σ c)), .int (k_lo σ c), .int (k_hi σ c)] else [.int (k_kd σ c), .ref (a_sa A (k_bs σ c))]
def co_at (D : va_G) (H : Heap) (A : kA) (σ : ks) (c : Nat) : Prop := va_at D kcl (a_ad A c, .inr (k_ci σ c, k_fl A σ c)) H
def wk_at (D : va_G) (H : Heap) (A : kA) (σ : ks) (i : Nat) : Prop := va_at D kcl (a_wd A i, .inr (4, [va_rf ((k_W σ i).1.map (a_ad A)), .int (nI (k_W σ i).2.1), .int (k_W σ i).2.2.1, .int (nI (k_W σ i).2.2.2)])) H
def sk_at (D : va_G) (ca : kca) (H : Heap) (A : kA) (kd : Int32) (b : Nat) (s : kS) : Prop := st_at D ca H (a_sa A b) (a_na A b) (a_va A b) kd (nI (s_ro s)) (nI (s_ch s)) (s_ct s) (s_nu s) (s_vl s)
def k_row (A : kA) (σ : ks) : Nat → Option Nat := fun c => if c < k_m σ then some (a_ad A c) else none
def ck_at (D : va_G) (ca : kca) (z : State) (A : kA) (σ : ks) (H : Heap) : Prop := ka_ok z H.size A σ ∧
  va_at D kcl (a_k A, .inr (5, [.ref (a_ka A), .ref (a_wa A), .int (nI (k_m σ))])) H ∧ va_at D kcl (a_ka A, .inl (ca.2.1, 10, .inr (.inr (.inr (.inr (k_row A σ)))))) H ∧ va_at D kcl (a_wa A, .inl (ca.2.2.1, 4, .inr (.inr (.inr (.inr (fun i => if i < 4 then some (a_wd A i) else none)))))) H ∧
  (∀ i, i < 4 → wk_at D H A σ i) ∧ (∀ c, c < k_m σ → co_at D H A σ c) ∧ ∀ b, b < k_m σ → k_bs σ b = b → sk_at D ca H A (k_kd σ b) b (k_S σ b)
section Pic
variable {D : va_G} {ca : kca} {z : State} {A : kA} {σ : ks} {H : Heap}
theorem ka_ok.zz {n q : Nat} (h : ka_ok z n A σ) (hq : a_ow A q ≠ 0) : z.heap.size ≤ q := (h.2.2.2.2.2.2.1 q hq).1
theorem ka_ok.m10 {n : Nat} (h : ka_ok z n A σ) : k_m σ ≤ 10 := h.2.2.2.2.2.2.2.1
theorem ka_ok.ad {n : Nat} (h : ka_ok z n A σ) {c : Nat} (hc : c < k_m σ) : a_ow A (a_ad A c) = 10 + c := h.2.2.2.2.1 c hc
theorem ka_ok.wd {n : Nat} (h : ka_ok z n A σ) {i : Nat} (hc : i < 4) : a_ow A (a_wd A i) = 4 + i := h.2.2.2.1 i hc
theorem ka_ok.st {n : Nat} (h : ka_ok z n A σ) {b : Nat} (hc : b < k_m σ) (hb : k_bs σ b = b) : a_ow A (a_sa A b) = 20 + b ∧ a_ow A (a_na A b) = 30 + b ∧ a_ow A (a_va A b) = 40 + b := h.2.2.2.2.2.1 b hc hb
theorem ka_ok.bs {n : Nat} (h : ka_ok z n A σ) {c : Nat} (hc : c < k_m σ) : k_bs σ c < k_m σ ∧ k_bs σ (k_bs σ c) = k_bs σ c := h.2.2.2.2.2.2.2.2 c hc
theorem ka_ok.zst {n : Nat} (h : ka_ok z n A σ) {b : Nat} (hc : b < k_m σ) (hb : k_bs σ b = b) : st_ok z (a_sa A b) (a_na A b) (a_va A b) := by
  obtain ⟨e1, e2, e3⟩ := h.st hc hb
  have hm := h.m10
  refine ⟨⟨h.zz (by omega), h.zz (by omega), h.zz (by omega)⟩, fun q => ?_, fun q => ?_, fun q => ?_⟩
  · rw [q] at e2; omega
  · rw [q] at e3; omega
  · rw [q] at e3; omega
theorem ck_at.ok (P : ck_at D ca z A σ H) : ka_ok z H.size A σ := P.1
theorem ck_at.k (P : ck_at D ca z A σ H) : va_at D kcl (a_k A, .inr (5, [.ref (a_ka A), .ref (a_wa A), .int (nI (k_m σ))])) H := P.2.1
theorem ck_at.ka (P : ck_at D ca z A σ H) : va_at D kcl (a_ka A, .inl (ca.2.1, 10, .inr (.inr (.inr (.inr (k_row A σ)))))) H := P.2.2.1
theorem ck_at.wa (P : ck_at D ca z A σ H) : va_at D kcl (a_wa A, .inl (ca.2.2.1, 4, .inr (.inr (.inr (.inr (fun i => if i < 4 then some (a_wd A i) else none)))))) H := P.2.2.2.1
theorem ck_at.w (P : ck_at D ca z A σ H) {i : Nat} (h : i < 4) : wk_at D H A σ i := P.2.2.2.2.1 i h
theorem ck_at.c (P : ck_at D ca z A σ H) {c : Nat} (h : c < k_m σ) : co_at D H A σ c := P.2.2.2.2.2.1 c h
theorem ck_at.s (P : ck_at D ca z A σ H) {b : Nat} (h : b < k_m σ) (hb : k_bs σ b = b) : sk_at D ca H A (k_kd σ b) b (k_S σ b) := P.2.2.2.2.2.2 b h hb
/-- of a container: its base's store -/
theorem ck_at.sc (P : ck_at D ca z A σ H) {c : Nat} (h : c < k_m σ) : sk_at D ca H A (k_kd σ (k_bs σ c)) (k_bs σ c) (k_B σ c) := P.s (P.ok.bs h).1 (P.ok.bs h).2
theorem ck_at.sok (P : ck_at D ca z A σ H) {c : Nat} (h : c < k_m σ) : st_ok z (a_sa A (k_bs σ c)) (a_na A (k_bs σ c)) (a_va A (k_bs σ c)) := P.ok.zst (P.ok.bs h).1 (P.ok.bs h).2
/-- the cells that are the kit's alone have changed -/
def kpA (A : kA) (H H1 : Heap) : Prop := H.size ≤ H1.size ∧ ∀ q : Nat, q < H.size → a_ow A q = 0 → H1[q]? = H[q]?
theorem kpA.rf : kpA A H H := ⟨Nat.le_refl _, fun _ _ _ => rfl⟩
theorem kpA.tr {H1 H2 : Heap} (h : kpA A H H1) (h2 : kpA A H1 H2) : kpA A H H2 := ⟨Nat.le_trans h.1 h2.1, fun q hq h0 => (h2.2 q (Nat.lt_of_lt_of_le hq h.1) h0).trans (h.2 q hq h0)⟩
theorem kpA.ext {H1 : Heap} (h : yy_ext H H1) : kpA A H H1 := ⟨h.1, fun q hq _ => h.2 q hq⟩
theorem kpA.of {L : List Nat} {H1 : Heap} (h : kp L H H1) (hL : ∀ q ∈ L, a_ow A q ≠ 0) : kpA A H H1 := ⟨Nat.le_of_eq h.1.symm, fun q _ h0 => h.2 q (fun h9 => hL q h9 h0)⟩
/-- a picture on a heap that has grown alone -/
theorem ck_at.ext {H1 : Heap} (P : ck_at D ca z A σ H) (h : yy_ext H H1) : ck_at D ca z A σ H1 := by
  obtain ⟨⟨p1, p2, p3, p4, p5, p6, p7, p8⟩, a1, a2, a3, a4, a5, a6⟩ := P
  exact ⟨⟨p1, p2, p3, p4, p5, p6, fun q hq => ⟨(p7 q hq).1, Nat.lt_of_lt_of_le (p7 q hq).2 h.1⟩, p8⟩, h.at a1, h.at a2, h.at a3, fun i hi => h.at (a4 i hi), fun c hc => h.at (a5 c hc), fun b hb e => ⟨h.at (a6 b hb e).1, h.at (a6 b hb e).2.1, h.at (a6 b hb e).2.2⟩⟩
/-- a store's cells have changed -/
theorem ck_at.putS {H1 : Heap} (P : ck_at D ca z A σ H) {b : Nat} (hb : b < k_m σ) (hbb : k_bs σ b = b) {s : kS} (Q : sk_at D ca H1 A (k_kd σ b) b s) (hk : kp [a_sa A b, a_na A b, a_va A b] H H1) : ck_at D ca z A (k_setS σ b s) H1 ∧ kpA A H H1 := by
  obtain ⟨e1, e2, e3⟩ := P.ok.st hb hbb
  have hm := P.ok.m10
  have hkA : kpA A H H1 := kpA.of hk (fun q hq => by
    simp only [List.mem_cons, List.not_mem_nil, or_false] at hq
    rcases hq with rfl | rfl | rfl <;> omega)
  have no : ∀ q, (a_ow A q < 20 ∨ a_ow A q % 10 ≠ b) → q ∉ [a_sa A b, a_na A b, a_va A b] := fun q hq h => by
    simp only [List.mem_cons, List.not_mem_nil, or_false] at h
    rcases h with rfl | rfl | rfl <;> omega
  obtain ⟨p, a1, a2, a3, a4, a5, a6⟩ := P
  have p' := p
  obtain ⟨p1, p2, p3, p4, p5, p6, p7, p8⟩ := p'
  refine ⟨⟨?_, hk.at (no _ (by left; show a_ow A (a_k A) < 20; omega)) a1, hk.at (no _ (by left; show a_ow A (a_ka A) < 20; omega)) a2, hk.at (no _ (by left; show a_ow A (a_wa A) < 20; omega)) a3, fun i hi => hk.at (no _ (by left; show a_ow A (a_wd A i) < 20; rw [p4 i hi]; omega)) (a4 i hi), fun c hc => hk.at (no _ (by left; show a_ow A (a_ad A c) < 20; rw [p5 c hc]; have : c < k_m σ := hc; omega)) (a5 c hc), fun b' hb' e' => ?_⟩, hkA⟩
  · exact ⟨p1, p2, p3, p4, p5, p6, fun q hq => ⟨(p7 q hq).1, by rw [hk.1]; exact (p7 q hq).2⟩, p8⟩
  · by_cases h : b' = b
    · subst h
      show sk_at D ca H1 A (k_kd σ b') b' (up1 σ.2.2.1 b' s b')
      rw [up1_s]
      exact Q
    · show sk_at D ca H1 A (k_kd σ b') b' (up1 σ.2.2.1 b s b')
      rw [up1_o _ _ h]
      have hb9 : b' < k_m σ := hb'
      have hbm : b < k_m σ := hb
      obtain ⟨f1, f2, f3⟩ := p.st hb9 e'
      obtain ⟨o1, o2, o3⟩ := a6 b' hb9 e'
      exact ⟨hk.at (no _ (by right; show a_ow A (a_sa A b') % 10 ≠ b; omega)) o1, hk.at (no _ (by right; show a_ow A (a_na A b') % 10 ≠ b; omega)) o2, hk.at (no _ (by right; show a_ow A (a_va A b') % 10 ≠ b; omega)) o3⟩
end Pic
