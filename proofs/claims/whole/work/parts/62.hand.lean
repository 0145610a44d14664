/-! PART hand: handlers; how a call of the law's own helper ends -/
section Hand
variable {l : Launch} {z : State} {b : yy_T} {rm : Room} {cc : ByteArray} {nL : Nat} {own : String} {ret : Option FieldType} {hh : List (Nat × Nat × Nat × Nat)} {Post : yy_R → Heap → Prop}
variable {H : Heap} {locs : List Loc} {k : Nat × Nat} {pc n : Nat} {lv lv' : List (Nat × Value)} {st : List Value}
variable {Ts : List Cond} {a0 : Array Value}
/-- what is thrown is caught behind rows that it passes -/
theorem yy_catch (F : yy_A l z b rm cc nL own ret hh Post) (hC : ∀ w ∈ Ts, w.before a0 z = true) {E nm : String} {q : Addr} {ce : Cell} (hce : H[q]? = some ce) (hv : ce.vm = .none) (hcl : (yy_s b).vm.findClass E = some ce.cls) {pre rest : List (Nat × Nat × Nat × Nat)} {fr to hp ct : Nat} (hs : hh = pre ++ (fr, to, hp, ct) :: rest)
    (hpass : ∀ y ∈ pre, y.2.2.2 ≠ 0 ∧ ∃ n9, Cond.classLink own y.2.2.2 n9 ∈ Ts ∧ va_Nc E n9 z) (hcov : fr ≤ pc ∧ pc < to) (h0 : ct ≠ 0) (h1 : Cond.classLink own ct nm ∈ Ts) (h2 : Cond.castable E nm ∈ Ts) (kk : yy_Y b H locs k hp lv [.ref q]) : yy_V b H locs k pc lv st q := by
  intro ls hl T hT X
  obtain ⟨c3, cT, hc3, hcT, hasg⟩ := Cond.castable_spec (yy_N.cast (args := yy_a b) hC F.N h2)
  cases hcl.symm.trans hc3
  obtain ⟨hend, hk0⟩ := X.catches_of_link F.ow (x := ⟨fr, to, hp, ct⟩) h0 (F.N.w hC h1 rfl) hcT hasg
  have hpl : (yy_e b).platform.magicAccessors = ({} : Platform).magicAccessors := by rw [X.admits.platform]
  refine Exists.elim (X.thenCaughtThrough q (g := F0 (yy_m b) pc ls st) rfl (Steps.refl _) (by rw [hT]; exact hce) (by rw [hv]; rfl) hk0 (tableOf pre) ⟨fr, to, hp, ct⟩ (tableOf rest) (by rw [F.tb, hs]; simp [tableOf]) (fun y hy => ?_) (by simp [covers, F0]; exact hcov) hend) (fun vm' h9 => ?_)
  · obtain ⟨y0, hy0, rfl⟩ := List.mem_map.mp hy
    obtain ⟨g0, n9, g1, g2⟩ := hpass y0 hy0
    obtain ⟨c', hc', hcl'⟩ := Cond.classLink_spec F.ow (F.N.w (args := yy_a b) hC g1 rfl) (yy_e b).platform hpl
    obtain ⟨c8, t8, e1, e2, e3⟩ := g2.moved F.N.1.alike
    cases hcl.symm.trans e1
    cases hc'.symm.trans e2
    exact Or.inr ⟨g0, c', hcl', e3⟩
  · obtain ⟨t, s1, q1⟩ := kk ls hl (T.setVm vm') hT h9.1
    exact ⟨t, h9.2.trans s1, q1⟩
end Hand
abbrev lo_at (D : va_G) (ca : kca) (ou : Nat) (g : Nat → Int64) (H : Heap) : Prop := va_at D kcl (ou, .inl (ca.2.2.2, 1, .inr (.inl g))) H
/-- how a helper of the law ends: a number for what was thrown, the answer in the row -/
def l_p (D : va_G) (ca : kca) (z : State) (A : kA) (ou : Nat) (l : List String) (φ : Int32 → Int64 → Prop) (r : kr) : yy_R → Heap → Heap → Prop := yy_pi (fun v H H1 => v = c_of l r.1 ∧ (∃ A' : kA, ck_at D ca z A' r.2.2 H1 ∧ kA_ext H.size A A') ∧ (∃ g : Nat → Int64, lo_at D ca ou g H1 ∧ (r.1 = none → φ r.2.1 (g 0))) ∧ H.size ≤ H1.size ∧ ∀ q : Nat, q < H.size → a_ow A q = 0 → q ≠ ou → H1[q]? = H[q]?)
/-- a picture on a heap where only what is nobody's has changed -/
theorem ck_at.only {D : va_G} {ca : kca} {z : State} {A : kA} {σ : ks} {H H1 : Heap} (P : ck_at D ca z A σ H) (h : ∀ q : Nat, a_ow A q ≠ 0 → H1[q]? = H[q]?) (hs : H.size ≤ H1.size) : ck_at D ca z A σ H1 := by
  obtain ⟨p, a1, a2, a3, a4, a5, a6⟩ := P
  have p' := p
  obtain ⟨p1, p2, p3, p4, p5, p6, p7, p8⟩ := p'
  refine ⟨⟨p1, p2, p3, p4, p5, p6, fun q hq => ⟨(p7 q hq).1, Nat.lt_of_lt_of_le (p7 q hq).2 hs⟩, p8⟩, va_at.kept a1 (h _ (by show a_ow A (a_k A) ≠ 0; omega)), va_at.kept a2 (h _ (by show a_ow A (a_ka A) ≠ 0; omega)), va_at.kept a3 (h _ (by show a_ow A (a_wa A) ≠ 0; omega)), fun i hi => va_at.kept (a4 i hi) (h _ (by show a_ow A (a_wd A i) ≠ 0; rw [p4 i hi]; omega)), fun c hc => va_at.kept (a5 c hc) (h _ (by show a_ow A (a_ad A c) ≠ 0; rw [p5 c hc]; omega)), fun b hb e => ?_⟩
  obtain ⟨f1, f2, f3⟩ := p6 b hb e
  obtain ⟨o1, o2, o3⟩ := a6 b hb e
  exact ⟨va_at.kept o1 (h _ (by show a_ow A (a_sa A b) ≠ 0; omega)), va_at.kept o2 (h _ (by show a_ow A (a_na A b) ≠ 0; omega)), va_at.kept o3 (h _ (by show a_ow A (a_va A b) ≠ 0; omega))⟩
theorem l_end {D : va_G} {ca : kca} {z : State} {A A' : kA} {ou : Nat} {l : List String} {φ : Int32 → Int64 → Prop} {r : kr} {H H1 H2 : Heap} {g : Nat → Int64} {v : Int32} (hv : v = c_of l r.1) (P : ck_at D ca z A' r.2.2 H1) (hx : kA_ext H.size A A') (hk : kpA A H H1) (ho : a_ow A ou = 0) (hoH : ou < H.size) (O : lo_at D ca ou g H2) (hg : r.1 = none → φ r.2.1 (g 0)) (e2 : H2.size = H1.size) (e3 : ∀ q : Nat, q ≠ ou → H2[q]? = H1[q]?) : l_p D ca z A ou l φ r (.inl (some (.int v))) H H2 := by
  refine ⟨v, rfl, hv, ⟨A', P.only (fun q hq => e3 q (fun e => hq (by rw [e, hx.2 ou hoH]; exact ho))) (Nat.le_of_eq e2.symm), hx⟩, ⟨g, O, hg⟩, by rw [e2]; exact hk.1, fun q h1 h2 h3 => (e3 q h3).trans (hk.2 q h1 h2)⟩
