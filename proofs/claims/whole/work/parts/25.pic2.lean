/-! PART pic2: changes of a store and of the parts above -/
/-- a store behind a taking out, a bringing in -/
def S_take (s : kS) (q : Nat) : kS := (s_ct s - 1, s_ch s + 1, s_ro s, ym_sh (s_nu s) q (s_ct s - 1), ym_sh (s_vl s) q (s_ct s - 1))
def n_row (kd : Int32) (r n : Nat) : Nat := if kd = 0 ∧ r ≤ n then r + r / 2 else r
def S_bring (kd : Int32) (s : kS) (q : Nat) (x v : Int32) : kS := (s_ct s + 1, s_ch s + 1, n_row kd (s_ro s) (s_ct s), upd (ym_up (s_nu s) q (s_ct s)) q x, upd (ym_up (s_vl s) q (s_ct s)) q v)
def S_nu (s : kS) (q : Nat) (x : Int32) : kS := (s_ct s, s_ch s, s_ro s, upd (s_nu s) q x, s_vl s)
def S_vl (s : kS) (q : Nat) (x : Int32) : kS := (s_ct s, s_ch s, s_ro s, s_nu s, upd (s_vl s) q x)
def S_so (s : kS) (f0 t0 : Nat) (how : Int32) : kS := (s_ct s, s_ch s + 1, s_ro s, ym_so f0 how (t0 - (f0 + 1)) (f0 + 1) (s_nu s), s_vl s)
theorem nI_half {r : Nat} (h : r < 1000) : nI r / 2 = nI (r / 2) := by
  apply Int32.toInt_inj.mp
  rw [Int32.toInt_div_of_ne_right _ _ (by decide), nI_toInt (by omega), nI_toInt (by omega)]
  rfl
theorem n_row_eq {kd : Int32} {r n : Nat} (hr : r ≤ 64) (hn : n ≤ 24) : ym_row kd (nI r) n = nI (n_row kd r n) := by
  unfold ym_row n_row
  by_cases h : kd = 0 ∧ r ≤ n
  · rw [if_pos h, if_pos ⟨h.1, fun q => by have := (nI_ltI (by omega) (by omega)).mp q; omega⟩, nI_half (by omega), nI_add]
  · rw [if_neg h, if_neg (fun q => h ⟨q.1, by have := mt (nI_ltI (show n < 2 ^ 31 by omega) (show r < 2 ^ 31 by omega)).mpr q.2; omega⟩)]
section Pic2
variable {D : va_G} {ca : kca} {z : State} {A : kA} {σ : ks} {H H1 : Heap} {kd : Int32} {s : kS} {x : Nat}
/-- a part's count and seen changes -/
def k_setL (σ : ks) (x m h : Nat) : ks := k_setC σ x (k_kd σ x, k_bs σ x, k_of σ x, k_fs σ x, m, h, k_lo σ x, k_hi σ x)
theorem k_setL_kd (σ : ks) (x m h y : Nat) : k_kd (k_setL σ x m h) y = k_kd σ y ∧ k_bs (k_setL σ x m h) y = k_bs σ y ∧ k_of (k_setL σ x m h) y = k_of σ y ∧ k_fs (k_setL σ x m h) y = k_fs σ y ∧ k_lo (k_setL σ x m h) y = k_lo σ y ∧ k_hi (k_setL σ x m h) y = k_hi σ y := by
  unfold k_setL k_setC k_kd k_bs k_of k_fs k_lo k_hi
  by_cases e : y = x
  · subst e
    dsimp only
    rw [up1_s]
    exact ⟨rfl, rfl, rfl, rfl, rfl, rfl⟩
  · dsimp only
    rw [up1_o _ _ e]
    exact ⟨rfl, rfl, rfl, rfl, rfl, rfl⟩
theorem k_setL_ln (σ : ks) (x m h : Nat) : k_ln (k_setL σ x m h) x = m ∧ k_se (k_setL σ x m h) x = h := by
  unfold k_setL k_setC k_ln k_se
  dsimp only
  rw [up1_s]
  exact ⟨rfl, rfl⟩
theorem k_setL_o (σ : ks) {x y : Nat} (m h : Nat) (e : y ≠ x) : k_C (k_setL σ x m h) y = k_C σ y := by
  unfold k_setL k_setC k_C
  dsimp only
  rw [up1_o _ _ e]
theorem k_setL2 (σ : ks) (x m h m' h' : Nat) : k_setL (k_setL σ x m h) x m' h' = k_setL σ x m' h' := by
  have hk := k_setL_kd σ x m h x
  unfold k_setL at hk ⊢
  rw [hk.1, hk.2.1, hk.2.2.1, hk.2.2.2.1, hk.2.2.2.2.1, hk.2.2.2.2.2]
  unfold k_setC
  dsimp only
  rw [up1_up1]
/-- each count from x upwards can be changed so -/
def k_chn (σ : ks) (g : Nat → Nat) (more : Int32) : Nat → Nat → Prop
  | 0, _ => True
  | n + 1, x => k_kd σ x = 6 → nI (k_ln σ x) + more = nI (g (k_ln σ x)) ∧ k_chn σ g more n (k_of σ x)
theorem k_chn_all {σ : ks} {g : Nat → Nat} {more : Int32} (h : ∀ m : Nat, nI m + more = nI (g m)) : ∀ n x : Nat, k_chn σ g more n x
  | 0, _ => trivial
  | n + 1, x => fun _ => ⟨h _, k_chn_all h n _⟩
/-- a picture's words that kinds and bases alone decide -/
theorem ka_ok.to {σ' : ks} {n n' : Nat} (h : ka_ok z n A σ) (hm : k_m σ' = k_m σ) (hb : ∀ y, k_bs σ' y = k_bs σ y) (hn : n ≤ n') : ka_ok z n' A σ' := by
  obtain ⟨p1, p2, p3, p4, p5, p6, p7, p8, p9⟩ := h
  refine ⟨p1, p2, p3, p4, fun c hc => p5 c (by omega), fun b hb1 hb2 => p6 b (by omega) (by rw [← hb b]; exact hb2), fun q hq => ⟨(p7 q hq).1, Nat.lt_of_lt_of_le (p7 q hq).2 hn⟩, by omega, fun c hc => ?_⟩
  rw [hb c, hb (k_bs σ c), hm]
  exact p9 c (by omega)
theorem ck_at.putL (P : ck_at D ca z A σ H) (hx : x < k_m σ) (h6 : k_kd σ x = 6) {m h : Nat} (O : va_at D kcl (a_ad A x, .inr (2, [.int 6, .ref (a_sa A (k_bs σ x)), va_rf (k_ab A σ x), .int (nI (k_fs σ x)), .int (nI m), .int (nI h)])) H1) (e2 : H1.size = H.size) (e3 : ∀ q : Nat, q ≠ a_ad A x → H1[q]? = H[q]?) : ck_at D ca z A (k_setL σ x m h) H1 ∧ kpA A H H1 := by
  have hox := P.ok.ad hx
  have hm := P.ok.m10
  obtain ⟨p, a1, a2, a3, a4, a5, a6⟩ := P
  have no : ∀ q, a_ow A q ≠ 10 + x → q ≠ a_ad A x := fun q hq h => hq (by rw [h]; exact hox)
  have hk := k_setL_kd σ x m h
  refine ⟨⟨p.to rfl (fun y => (hk y).2.1) (Nat.le_of_eq e2.symm), a1.kept (e3 _ (no _ (by rw [p.1]; omega))), a2.kept (e3 _ (no _ (by rw [p.2.1]; omega))), a3.kept (e3 _ (no _ (by rw [p.2.2.1]; omega))), fun i hi => va_at.kept (a4 i hi) (e3 _ (no _ (by rw [p.wd hi]; omega))), fun c hc => ?_, fun b hb e => ?_⟩, ⟨Nat.le_of_eq e2.symm, fun q _ h0 => e3 q (no q (by omega))⟩⟩
  · have hab : k_ab A (k_setL σ x m h) c = k_ab A σ c := by
      unfold k_ab
      rw [(hk c).2.2.1, (hk (k_of σ c)).1]
    by_cases e : c = x
    · subst e
      unfold co_at k_ci k_fl
      rw [(hk c).1, if_pos h6, if_pos h6, hab, (hk c).2.1, (hk c).2.2.2.1, (k_setL_ln σ c m h).1, (k_setL_ln σ c m h).2]
      exact O
    · have h9 := a5 c hc
      have hC : k_C (k_setL σ x m h) c = k_C σ c := k_setL_o σ m h e
      have hcm : c < k_m σ := hc
      have h8 : co_at D H A (k_setL σ x m h) c := by
        unfold co_at k_ci k_fl k_kd k_bs k_fs k_ln k_se k_lo k_hi
        rw [hab]
        rw [show (k_setL σ x m h).2.1 c = σ.2.1 c from hC]
        exact h9
      exact va_at.kept h8 (e3 _ (no _ (by show a_ow A (a_ad A c) ≠ _; rw [p.ad hcm]; omega)))
  · have hb9 : b < k_m σ := hb
    have e9 : k_bs σ b = b := by rw [← (hk b).2.1]; exact e
    obtain ⟨f1, f2, f3⟩ := p.st hb9 e9
    obtain ⟨o1, o2, o3⟩ := a6 b hb9 e9
    rw [(hk b).1]
    exact ⟨va_at.kept o1 (e3 _ (no _ (by show a_ow A (a_sa A b) ≠ _; omega))), va_at.kept o2 (e3 _ (no _ (by show a_ow A (a_na A b) ≠ _; omega))), va_at.kept o3 (e3 _ (no _ (by show a_ow A (a_va A b) ≠ _; omega)))⟩
/-- the parts from x upwards count otherwise, and have seen h changes -/
def k_fo (g : Nat → Nat) (h : Nat) : Nat → Nat → ks → ks
  | 0, _, σ => σ
  | n + 1, x, σ => if k_kd σ x = 6 then k_fo g h n (k_of σ x) (k_setL σ x (g (k_ln σ x)) h) else σ
end Pic2
section Cr2
variable {l : Launch} {z : State} {b : yy_T} {rm : Room} {cc : ByteArray} {nL : Nat} {own : String} {ret : Option FieldType} {hh : List (Nat × Nat × Nat × Nat)} {Post : yy_R → Heap → Prop}
variable {H : Heap} {locs : List Loc} {k : Nat × Nat} {pc n : Nat} {lv lv' : List (Nat × Value)} {st : List Value}
variable {a0 : Array Value} {D : va_G} {ca : kca} {A : kA} {σ : ks} {x idx : Nat} {v : Int32}
theorem cr_ln (F : yy_A l z b rm cc nL own ret hh Post) (X : kcx l z a0 D ca) (G : yy_G lw_tbl kcl own idx 2 4) (P : ck_at D ca z A σ H) (hx : x < k_m σ) (h6 : k_kd σ x = 6) (hS : yy_S z H locs) {m : Nat} (hv : v = nI m) (d : decode cc pc = .ok (.putfield idx, 3)) (hn : pc + 3 = n)
    (kk : ∀ (H1 : Heap) (locs1 : List Loc), ck_at D ca z A (k_setL σ x m (k_se σ x)) H1 → kpA A H H1 → yy_S z H1 locs1 → yy_Y b H1 locs1 k n lv st) : yy_Y b H locs k pc lv (.int v :: .ref (a_ad A x) :: st) := by
  subst hv
  refine yy_put F X.1 X.2.1 G gt_P (fun C T N h => by cases h; rfl) hS (P.ok.zz (by rw [P.ok.ad hx]; omega)) (P.c6 hx h6) rfl rfl (Nat.le_of_ble_eq_true rfl) d hn (fun H1 locs1 O e2 e3 hS1 => ?_)
  have h9 := P.putL hx h6 O e2 e3
  exact kk H1 locs1 h9.1 h9.2 hS1
theorem cr_se (F : yy_A l z b rm cc nL own ret hh Post) (X : kcx l z a0 D ca) (G : yy_G lw_tbl kcl own idx 2 5) (P : ck_at D ca z A σ H) (hx : x < k_m σ) (h6 : k_kd σ x = 6) (hS : yy_S z H locs) {m : Nat} (hv : v = nI m) (d : decode cc pc = .ok (.putfield idx, 3)) (hn : pc + 3 = n)
    (kk : ∀ (H1 : Heap) (locs1 : List Loc), ck_at D ca z A (k_setL σ x (k_ln σ x) m) H1 → kpA A H H1 → yy_S z H1 locs1 → yy_Y b H1 locs1 k n lv st) : yy_Y b H locs k pc lv (.int v :: .ref (a_ad A x) :: st) := by
  subst hv
  refine yy_put F X.1 X.2.1 G gt_P (fun C T N h => by cases h; rfl) hS (P.ok.zz (by rw [P.ok.ad hx]; omega)) (P.c6 hx h6) rfl rfl (Nat.le_of_ble_eq_true rfl) d hn (fun H1 locs1 O e2 e3 hS1 => ?_)
  have h9 := P.putL hx h6 O e2 e3
  exact kk H1 locs1 h9.1 h9.2 hS1
end Cr2
/-- the second number on the stack, under another name -/
theorem yy_sec {b : yy_T} {H : Heap} {locs : List Loc} {k : Nat × Nat} {pc : Nat} {lv : List (Nat × Value)} {st : List Value} {w : Value} {x y : Int32} (h : x = y) (kk : yy_Y b H locs k pc lv (w :: .int y :: st)) : yy_Y b H locs k pc lv (w :: .int x :: st) := by
  rw [h]
  exact kk
theorem yy_thi {b : yy_T} {H : Heap} {locs : List Loc} {k : Nat × Nat} {pc : Nat} {lv : List (Nat × Value)} {st : List Value} {w w2 : Value} {x y : Int32} (h : x = y) (kk : yy_Y b H locs k pc lv (w :: w2 :: .int y :: st)) : yy_Y b H locs k pc lv (w :: w2 :: .int x :: st) := by
  rw [h]
  exact kk
