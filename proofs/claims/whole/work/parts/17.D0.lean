/-! PART D0: the words of a throw, at every later state -/
theorem yy_lstat {z s : State} {a0 args : Array Value} (hN : yy_N z s) {C n d : String} (h : (Cond.laysStatic C n d).before a0 z = true) : (Cond.laysStatic C n d).before args s = true := by
  have h9 : (Cond.laysStatic C n d).holds a0 (z.setVm s.vm) none (z.setVm s.vm) [] = true := by
    have e := Cond.value_setVm (args := a0) (o := none) hN.1.alike (Cond.laysStatic C n d) [] rfl
    simp only [Cond.holds]
    rw [e]
    exact h
  obtain ⟨c, k, i, f, a, cell, h1, h2, h3, h4, h5, h6, h7, h8, h9⟩ := Cond.laysStatic_spec h9
  have h5' : z.heap[a]? = some cell := h5
  show (Cond.laysStatic C n d).holds args s none s [] = true
  exact Cond.laysStatic_of h1 h2 h3 h4 ((hN.2.2 a (Array.getElem?_eq_some_iff.mp h5').1).trans h5') h6 h7 h8 h9
theorem yy_face {z s : State} {a0 args : Array Value} (hN : yy_N z s) {w : Cond} (hw : w.faceAtom = true) (ho : w.onTables = true) (h : w.before a0 z = true) : w.before args s = true :=
  va_tabs (u := z.setVm s.vm) ho rfl (Cond.faceAtom_setVm (args := a0) hN.1.alike w hw h)
theorem yy_sref {z s : State} {a0 args : Array Value} (hN : yy_N z s) {C n d : String} (hl : (Cond.laysStatic C n d).before a0 z = true) (hi : (Cond.initialized C).before a0 z = true) (h : (Cond.isRef (.static C n d)).before a0 z = true) : (Cond.isRef (.static C n d)).before args s = true := by
  have h1 : va_Zq C n d (fun q => z.heap.size ≤ q) z z.heap := va_Zqof hl hi h (fun a ha => Nat.not_le.mpr ha)
  have h2 : va_Zq C n d (fun q => z.heap.size ≤ q) s s.heap := va_Zq.moved hN.1.alike (va_Zq.kept h1 (fun a ha _ => hN.2.2 a ha))
  have go : ∀ v : Value, v.isRef = true → va_Z C n d v (fun q => z.heap.size ≤ q) s s.heap → (Cond.isRef (.static C n d)).before args s = true := by
    intro v hv hz
    obtain ⟨cf, kf, fi, f, a, cell, g1, g2, g3, g4, g5, g6, g7, -⟩ := hz
    have he : (Term.static C n d).eval args s none [] s = some v := by
      simp [Term.eval, State.fieldNamed?, g1, g2, g4, g5, g6, g7]
    simp only [Cond.before, Cond.holds, Cond.value, he]
    cases v <;> simp_all [Value.isRef]
  rcases h2 with h3 | ⟨t, h3⟩
  · exact go _ rfl h3
  · exact go _ rfl h3
/-- a word that stays true -/
def yy_okw (w : Cond) : Bool := goodWord w || (w.faceAtom && w.onTables) || decide (w = .isRef (.static Bundle.tN "UNASSIGNED_STACK" Bundle.steD)) || decide (w = .isRef (.static Bundle.tN "SUPPRESSED_SENTINEL" Bundle.listD)) || decide (w = .laysStatic Bundle.tN "UNASSIGNED_STACK" Bundle.steD) || decide (w = .laysStatic Bundle.tN "SUPPRESSED_SENTINEL" Bundle.listD)
theorem yy_hat {l : Launch} {z s : State} {a0 args : Array Value} {D : va_G} {ca : kca} (X : kcx l z a0 D ca) (hN : yy_N z s) {L : List Cond} (h : ∀ w ∈ L, yy_okw w = true ∧ (w ∈ lw_tbl ∨ w = .isRef (.static Bundle.tN "UNASSIGNED_STACK" Bundle.steD) ∨ w = .isRef (.static Bundle.tN "SUPPRESSED_SENTINEL" Bundle.listD))) : ∀ w ∈ L, w.before args s = true := by
  intro w hw
  have hf := flat_of_before _ X.2.2.1
  have r1 : (Cond.isRef (.static Bundle.tN "UNASSIGNED_STACK" Bundle.steD)).before a0 z = true := hf _ (by decide +kernel)
  have r2 : (Cond.isRef (.static Bundle.tN "SUPPRESSED_SENTINEL" Bundle.listD)).before a0 z = true := hf _ (by decide +kernel)
  have l1 : (Cond.laysStatic Bundle.tN "UNASSIGNED_STACK" Bundle.steD).before a0 z = true := X.1 _ (by decide +kernel)
  have l2 : (Cond.laysStatic Bundle.tN "SUPPRESSED_SENTINEL" Bundle.listD).before a0 z = true := X.1 _ (by decide +kernel)
  have i1 : (Cond.initialized Bundle.tN).before a0 z = true := X.1 _ (by decide +kernel)
  obtain ⟨h1, h2⟩ := h w hw
  have hz : w.before a0 z = true := by
    rcases h2 with h2 | h2 | h2
    · exact X.1 w h2
    · rw [h2]; exact r1
    · rw [h2]; exact r2
  simp only [yy_okw, Bool.or_eq_true, Bool.and_eq_true, decide_eq_true_eq] at h1
  rcases h1 with ((((h1 | h1) | h1) | h1) | h1) | h1
  · exact word_at hN.1 (good_of_word h1) hz
  · exact yy_face hN h1.1 h1.2 hz
  · rw [h1]; exact yy_sref hN l1 i1 r1
  · rw [h1]; exact yy_sref hN l2 i1 r2
  · rw [h1]; exact yy_lstat hN l1
  · rw [h1]; exact yy_lstat hN l2
