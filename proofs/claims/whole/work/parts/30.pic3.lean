/-! PART pic3: changes of an iterator -/
section Pic3
variable {D : va_G} {ca : kca} {z : State} {A : kA} {σ : ks} {H H1 : Heap} {i c : Nat}
theorem ck_at.wo (P : ck_at D ca z A σ H) (hi : i < 4) (hov : (k_W σ i).1 = some c) : va_at D kcl (a_wd A i, .inr (4, [.ref (a_ad A c), .int (nI (k_W σ i).2.1), .int (k_W σ i).2.2.1, .int (nI (k_W σ i).2.2.2)])) H := by
  have h := P.w hi
  unfold wk_at at h
  rw [hov] at h
  exact h
theorem ck_at.putW (P : ck_at D ca z A σ H) (hi : i < 4) {w : kW} (O : va_at D kcl (a_wd A i, .inr (4, [va_rf (w.1.map (a_ad A)), .int (nI w.2.1), .int w.2.2.1, .int (nI w.2.2.2)])) H1) (e2 : H1.size = H.size) (e3 : ∀ q : Nat, q ≠ a_wd A i → H1[q]? = H[q]?) : ck_at D ca z A (k_setW σ i w) H1 ∧ kpA A H H1 := by
  have hox := P.ok.wd hi
  have hm := P.ok.m10
  obtain ⟨p, a1, a2, a3, a4, a5, a6⟩ := P
  have no : ∀ q, a_ow A q ≠ 4 + i → q ≠ a_wd A i := fun q hq h => hq (by rw [h]; exact hox)
  refine ⟨⟨p.to rfl (fun y => rfl) (Nat.le_of_eq e2.symm), a1.kept (e3 _ (no _ (by rw [p.1]; omega))), a2.kept (e3 _ (no _ (by rw [p.2.1]; omega))), a3.kept (e3 _ (no _ (by rw [p.2.2.1]; omega))), fun j hj => ?_, fun c hc => va_at.kept (a5 c hc) (e3 _ (no _ (by show a_ow A (a_ad A c) ≠ _; rw [p.ad hc]; omega))), fun b hb e => ?_⟩, ⟨Nat.le_of_eq e2.symm, fun q _ h0 => e3 q (no q (by omega))⟩⟩
  · by_cases e : j = i
    · subst e
      unfold wk_at k_W k_setW
      dsimp only
      rw [up1_s]
      exact O
    · have h9 := a4 j hj
      unfold wk_at k_W k_setW at *
      dsimp only
      rw [up1_o _ _ e]
      exact va_at.kept h9 (e3 _ (no _ (by show a_ow A (a_wd A j) ≠ _; rw [p.wd hj]; omega)))
  · have hb9 : b < k_m σ := hb
    have e9 : k_bs σ b = b := e
    obtain ⟨f1, f2, f3⟩ := p.st hb9 e9
    obtain ⟨o1, o2, o3⟩ := a6 b hb9 e9
    exact ⟨va_at.kept o1 (e3 _ (no _ (by show a_ow A (a_sa A b) ≠ _; omega))), va_at.kept o2 (e3 _ (no _ (by show a_ow A (a_na A b) ≠ _; omega))), va_at.kept o3 (e3 _ (no _ (by show a_ow A (a_va A b) ≠ _; omega)))⟩
theorem k_setW2 (σ : ks) (i : Nat) (w w' : kW) : k_setW (k_setW σ i w) i w' = k_setW σ i w' := by
  unfold k_setW
  dsimp only
  rw [up1_up1]
theorem k_setW_s (σ : ks) (i : Nat) (w : kW) : k_W (k_setW σ i w) i = w := up1_s _ _ _
/-- an iterator's state is stale -/
def k_lost (σ : ks) (i c : Nat) : Bool := k_stale σ c || decide (¬ (k_W σ i).2.2.2 = s_ch (k_B σ c))
end Pic3
section Cr3
variable {l : Launch} {z : State} {b : yy_T} {rm : Room} {cc : ByteArray} {nL : Nat} {own : String} {ret : Option FieldType} {hh : List (Nat × Nat × Nat × Nat)} {Post : yy_R → Heap → Prop}
variable {H : Heap} {locs : List Loc} {k : Nat × Nat} {pc n : Nat} {lv lv' : List (Nat × Value)} {st : List Value}
variable {a0 : Array Value} {D : va_G} {ca : kca} {A : kA} {σ : ks} {i c idx : Nat} {v : Int32}
theorem cr_wo (F : yy_A l z b rm cc nL own ret hh Post) (X : kcx l z a0 D ca) (G : yy_G lw_tbl kcl own idx 4 0) (P : ck_at D ca z A σ H) (hi : i < 4) (hS : yy_S z H locs) (d : decode cc pc = .ok (.putfield idx, 3)) (hn : pc + 3 = n)
    (kk : ∀ (H1 : Heap) (locs1 : List Loc), ck_at D ca z A (k_setW σ i (some c, (k_W σ i).2)) H1 → kpA A H H1 → yy_S z H1 locs1 → yy_Y b H1 locs1 k n lv st) : yy_Y b H locs k pc lv (.ref (a_ad A c) :: .ref (a_wd A i) :: st) := by
  refine yy_put F X.1 X.2.1 G gt_W (fun C T N h => by cases h; rfl) hS (P.ok.zz (by rw [P.ok.wd hi]; omega)) (P.w hi) rfl rfl (Nat.le_of_ble_eq_true rfl) d hn (fun H1 locs1 O e2 e3 hS1 => ?_)
  have h9 := P.putW (w := (some c, (k_W σ i).2)) hi O e2 e3
  exact kk H1 locs1 h9.1 h9.2 hS1
theorem cr_wp (F : yy_A l z b rm cc nL own ret hh Post) (X : kcx l z a0 D ca) (G : yy_G lw_tbl kcl own idx 4 1) (P : ck_at D ca z A σ H) (hi : i < 4) (hS : yy_S z H locs) {m : Nat} (hv : v = nI m) (d : decode cc pc = .ok (.putfield idx, 3)) (hn : pc + 3 = n)
    (kk : ∀ (H1 : Heap) (locs1 : List Loc), ck_at D ca z A (k_setW σ i ((k_W σ i).1, m, (k_W σ i).2.2)) H1 → kpA A H H1 → yy_S z H1 locs1 → yy_Y b H1 locs1 k n lv st) : yy_Y b H locs k pc lv (.int v :: .ref (a_wd A i) :: st) := by
  subst hv
  refine yy_put F X.1 X.2.1 G gt_W (fun C T N h => by cases h; rfl) hS (P.ok.zz (by rw [P.ok.wd hi]; omega)) (P.w hi) rfl rfl (Nat.le_of_ble_eq_true rfl) d hn (fun H1 locs1 O e2 e3 hS1 => ?_)
  have h9 := P.putW (w := ((k_W σ i).1, m, (k_W σ i).2.2)) hi O e2 e3
  exact kk H1 locs1 h9.1 h9.2 hS1
theorem cr_wl (F : yy_A l z b rm cc nL own ret hh Post) (X : kcx l z a0 D ca) (G : yy_G lw_tbl kcl own idx 4 2) (P : ck_at D ca z A σ H) (hi : i < 4) (hS : yy_S z H locs) (d : decode cc pc = .ok (.putfield idx, 3)) (hn : pc + 3 = n)
    (kk : ∀ (H1 : Heap) (locs1 : List Loc), ck_at D ca z A (k_setW σ i ((k_W σ i).1, (k_W σ i).2.1, v, (k_W σ i).2.2.2)) H1 → kpA A H H1 → yy_S z H1 locs1 → yy_Y b H1 locs1 k n lv st) : yy_Y b H locs k pc lv (.int v :: .ref (a_wd A i) :: st) := by
  refine yy_put F X.1 X.2.1 G gt_W (fun C T N h => by cases h; rfl) hS (P.ok.zz (by rw [P.ok.wd hi]; omega)) (P.w hi) rfl rfl (Nat.le_of_ble_eq_true rfl) d hn (fun H1 locs1 O e2 e3 hS1 => ?_)
  have h9 := P.putW (w := ((k_W σ i).1, (k_W σ i).2.1, v, (k_W σ i).2.2.2)) hi O e2 e3
  exact kk H1 locs1 h9.1 h9.2 hS1
theorem cr_ws (F : yy_A l z b rm cc nL own ret hh Post) (X : kcx l z a0 D ca) (G : yy_G lw_tbl kcl own idx 4 3) (P : ck_at D ca z A σ H) (hi : i < 4) (hS : yy_S z H locs) {m : Nat} (hv : v = nI m) (d : decode cc pc = .ok (.putfield idx, 3)) (hn : pc + 3 = n)
    (kk : ∀ (H1 : Heap) (locs1 : List Loc), ck_at D ca z A (k_setW σ i ((k_W σ i).1, (k_W σ i).2.1, (k_W σ i).2.2.1, m)) H1 → kpA A H H1 → yy_S z H1 locs1 → yy_Y b H1 locs1 k n lv st) : yy_Y b H locs k pc lv (.int v :: .ref (a_wd A i) :: st) := by
  subst hv
  refine yy_put F X.1 X.2.1 G gt_W (fun C T N h => by cases h; rfl) hS (P.ok.zz (by rw [P.ok.wd hi]; omega)) (P.w hi) rfl rfl (Nat.le_of_ble_eq_true rfl) d hn (fun H1 locs1 O e2 e3 hS1 => ?_)
  have h9 := P.putW (w := ((k_W σ i).1, (k_W σ i).2.1, (k_W σ i).2.2.1, m)) hi O e2 e3
  exact kk H1 locs1 h9.1 h9.2 hS1
end Cr3
