/-! PART SR: writes to a store's cells; pure words for what its loops do -/
/-- only these cells have changed -/
def kp (L : List Nat) (H H1 : Heap) : Prop := H1.size = H.size ∧ ∀ q : Nat, q ∉ L → H1[q]? = H[q]?
theorem kp.rf {L : List Nat} {H : Heap} : kp L H H := ⟨rfl, fun _ _ => rfl⟩
theorem kp.tr {L : List Nat} {H H1 H2 : Heap} (h : kp L H H1) (h2 : kp L H1 H2) : kp L H H2 := ⟨h2.1.trans h.1, fun q hq => (h2.2 q hq).trans (h.2 q hq)⟩
theorem kp.mono {L L' : List Nat} {H H1 : Heap} (h : kp L H H1) (hL : ∀ q ∈ L, q ∈ L') : kp L' H H1 := ⟨h.1, fun q hq => h.2 q (fun h9 => hq (hL q h9))⟩
theorem kp.put {L : List Nat} {H0 H H1 : Heap} {a : Nat} (h : kp L H0 H) (ha : a ∈ L) (e2 : H1.size = H.size) (e3 : ∀ q : Nat, q ≠ a → H1[q]? = H[q]?) : kp L H0 H1 := ⟨e2.trans h.1, fun q hq => (e3 q (fun h9 => hq (h9 ▸ ha))).trans (h.2 q hq)⟩
theorem kp.at {L : List Nat} {H H1 : Heap} {D : va_G} {cl : List vw_C} {q : Nat × va_E} (h : kp L H H1) (hq : q.1 ∉ L) (O : va_at D cl q H) : va_at D cl q H1 := O.kept (h.2 q.1 hq)
/-- a store's three cells are apart, and behind the start -/
def st_ok (z : State) (a na va : Nat) : Prop := (z.heap.size ≤ a ∧ z.heap.size ≤ na ∧ z.heap.size ≤ va) ∧ na ≠ a ∧ va ≠ a ∧ va ≠ na
section SR
variable {l : Launch} {z : State} {b : yy_T} {rmM : Room} {cc : ByteArray} {nL : Nat} {own : String} {ret : Option FieldType} {hh : List (Nat × Nat × Nat × Nat)} {Post : yy_R → Heap → Prop}
variable {H H0 : Heap} {locs : List Loc} {k : Nat × Nat} {pc n' : Nat} {lv lv' : List (Nat × Value)} {st : List Value}
variable {a0 : Array Value} {D : va_G} {ca : kca} {a na va n idx : Nat} {kd rm ch x : Int32} {nf vf : Nat → Int32}
theorem sr_cnt (F : yy_A l z b rmM cc nL own ret hh Post) (X : kcx l z a0 D ca) (G : yy_G lw_tbl kcl own idx 0 3) (hS : yy_S z H locs) (ok : st_ok z a na va) (P : st_at D ca H a na va kd rm ch n nf vf) (hk : kp [a, na, va] H0 H) (m : Nat) (hm : x = nI m) (d : decode cc pc = .ok (.putfield idx, 3)) (hn : pc + 3 = n')
    (kk : ∀ (H1 : Heap) (locs1 : List Loc), st_at D ca H1 a na va kd rm ch m nf vf → kp [a, na, va] H0 H1 → yy_S z H1 locs1 → yy_Y b H1 locs1 k n' lv st) : yy_Y b H locs k pc lv (.int x :: .ref a :: st) := by
  subst hm
  refine yy_put F X.1 X.2.1 G gt_S (fun C T N h => by cases h; rfl) hS ok.1.1 P.1 rfl rfl (Nat.le_of_ble_eq_true rfl) d hn (fun H1 locs1 O e2 e3 hS1 => ?_)
  exact kk H1 locs1 ⟨O, P.2.1.kept (e3 na ok.2.1), P.2.2.kept (e3 va ok.2.2.1)⟩ (hk.put (by simp) e2 e3) hS1
theorem sr_room (F : yy_A l z b rmM cc nL own ret hh Post) (X : kcx l z a0 D ca) (G : yy_G lw_tbl kcl own idx 0 4) (hS : yy_S z H locs) (ok : st_ok z a na va) (P : st_at D ca H a na va kd rm ch n nf vf) (hk : kp [a, na, va] H0 H) (d : decode cc pc = .ok (.putfield idx, 3)) (hn : pc + 3 = n')
    (kk : ∀ (H1 : Heap) (locs1 : List Loc), st_at D ca H1 a na va kd x ch n nf vf → kp [a, na, va] H0 H1 → yy_S z H1 locs1 → yy_Y b H1 locs1 k n' lv st) : yy_Y b H locs k pc lv (.int x :: .ref a :: st) := by
  refine yy_put F X.1 X.2.1 G gt_S (fun C T N h => by cases h; rfl) hS ok.1.1 P.1 rfl rfl (Nat.le_of_ble_eq_true rfl) d hn (fun H1 locs1 O e2 e3 hS1 => ?_)
  exact kk H1 locs1 ⟨O, P.2.1.kept (e3 na ok.2.1), P.2.2.kept (e3 va ok.2.2.1)⟩ (hk.put (by simp) e2 e3) hS1
theorem sr_chg (F : yy_A l z b rmM cc nL own ret hh Post) (X : kcx l z a0 D ca) (G : yy_G lw_tbl kcl own idx 0 5) (hS : yy_S z H locs) (ok : st_ok z a na va) (P : st_at D ca H a na va kd rm ch n nf vf) (hk : kp [a, na, va] H0 H) (d : decode cc pc = .ok (.putfield idx, 3)) (hn : pc + 3 = n')
    (kk : ∀ (H1 : Heap) (locs1 : List Loc), st_at D ca H1 a na va kd rm x n nf vf → kp [a, na, va] H0 H1 → yy_S z H1 locs1 → yy_Y b H1 locs1 k n' lv st) : yy_Y b H locs k pc lv (.int x :: .ref a :: st) := by
  refine yy_put F X.1 X.2.1 G gt_S (fun C T N h => by cases h; rfl) hS ok.1.1 P.1 rfl rfl (Nat.le_of_ble_eq_true rfl) d hn (fun H1 locs1 O e2 e3 hS1 => ?_)
  exact kk H1 locs1 ⟨O, P.2.1.kept (e3 na ok.2.1), P.2.2.kept (e3 va ok.2.2.1)⟩ (hk.put (by simp) e2 e3) hS1
theorem sr_num (F : yy_A l z b rmM cc nL own ret hh Post) (X : kcx l z a0 D ca) (hS : yy_S z H locs) (ok : st_ok z a na va) (P : st_at D ca H a na va kd rm ch n nf vf) (hk : kp [a, na, va] H0 H) {i : Nat} (hi : i < 24) (d : decode cc pc = .ok (.iastore, 1)) (hn : pc + 1 = n')
    (kk : ∀ (H1 : Heap) (locs1 : List Loc), st_at D ca H1 a na va kd rm ch n (upd nf i x) vf → kp [a, na, va] H0 H1 → yy_S z H1 locs1 → yy_Y b H1 locs1 k n' lv st) : yy_Y b H locs k pc lv (.int x :: .int (nI i) :: .ref na :: st) := by
  refine yy_iast F X.2.1 0 rfl hS ok.1.2.1 P.2.1 (vp_in_nI hi (by decide)) d hn (fun H1 locs1 O e2 e3 hS1 => ?_)
  rw [nI_clamp (by omega)] at O
  exact kk H1 locs1 ⟨P.1.kept (e3 a (Ne.symm ok.2.1)), O, P.2.2.kept (e3 va ok.2.2.2)⟩ (hk.put (by simp) e2 e3) hS1
theorem sr_val (F : yy_A l z b rmM cc nL own ret hh Post) (X : kcx l z a0 D ca) (hS : yy_S z H locs) (ok : st_ok z a na va) (P : st_at D ca H a na va kd rm ch n nf vf) (hk : kp [a, na, va] H0 H) {i : Nat} (hi : i < 24) (d : decode cc pc = .ok (.iastore, 1)) (hn : pc + 1 = n')
    (kk : ∀ (H1 : Heap) (locs1 : List Loc), st_at D ca H1 a na va kd rm ch n nf (upd vf i x) → kp [a, na, va] H0 H1 → yy_S z H1 locs1 → yy_Y b H1 locs1 k n' lv st) : yy_Y b H locs k pc lv (.int x :: .int (nI i) :: .ref va :: st) := by
  refine yy_iast F X.2.1 0 rfl hS ok.1.2.2 P.2.2 (vp_in_nI hi (by decide)) d hn (fun H1 locs1 O e2 e3 hS1 => ?_)
  rw [nI_clamp (by omega)] at O
  exact kk H1 locs1 ⟨P.1.kept (e3 a (Ne.symm ok.2.2.1)), P.2.1.kept (e3 na (Ne.symm ok.2.2.2)), O⟩ (hk.put (by simp) e2 e3) hS1
/-- reads of a row at a small place -/
theorem sr_ald {aa i N : Nat} {f : Nat → Int32} (F : yy_A l z b rmM cc nL own ret hh Post) (X : kcx l z a0 D ca) (O : va_at D kcl (aa, .inl (ca.1, N, .inl f)) H) (hN : N < 2 ^ 31) (hi : i < N) (d : decode cc pc = .ok (.iaload, 1)) (hn : pc + 1 = n') (kk : yy_Y b H locs k n' lv (.int (f i) :: st)) : yy_Y b H locs k pc lv (.int (nI i) :: .ref aa :: st) := by
  refine yy_iald F X.2.1 0 rfl O (vp_in_nI hi hN) d hn ?_
  rw [nI_clamp (by omega)]
  exact kk
end SR
/-- the first place of a key from i on, within d steps -/
def ym_fi (f : Nat → Int32) (key : Int32) : Nat → Nat → Int32
  | 0, _ => -1
  | d + 1, i => if f i = key then nI i else ym_fi f key d (i + 1)
def ym_find (f : Nat → Int32) (key : Int32) (n : Nat) : Int32 := ym_fi f key n 0
/-- how many of the first n are so -/
def ym_cnt (p : Nat → Bool) : Nat → Nat
  | 0 => 0
  | n + 1 => ym_cnt p n + (if p n then 1 else 0)
/-- below a number, or not above it -/
def ym_bel (f : Nat → Int32) (x e : Int32) : Nat → Bool := fun i => decide (f i < x) || (decide (¬ e = 0) && decide (f i = x))
/-- j .. i - 1 hold what was one farther -/
def ym_sh (f : Nat → Int32) (j i : Nat) : Nat → Int32 := fun q => if j ≤ q ∧ q < i then f (q + 1) else f q
theorem ym_sh_0 (f : Nat → Int32) (j : Nat) : ym_sh f j j = f := by
  funext q
  unfold ym_sh
  rw [if_neg (by omega)]
theorem ym_sh_s (f : Nat → Int32) {j i : Nat} (h : j ≤ i) : upd (ym_sh f j i) i (ym_sh f j i (i + 1)) = ym_sh f j (i + 1) := by
  funext q
  unfold ym_sh upd
  by_cases hq : q = i
  · subst hq
    rw [if_pos rfl, if_neg (by omega), if_pos (by omega)]
  · rw [if_neg hq]
    dsimp only
    by_cases h1 : j ≤ q ∧ q < i
    · rw [if_pos h1, if_pos (by omega)]
    · rw [if_neg h1, if_neg (by omega)]
/-- i + 1 .. n hold what was one nearer -/
def ym_up (f : Nat → Int32) (i n : Nat) : Nat → Int32 := fun q => if i < q ∧ q ≤ n then f (q - 1) else f q
theorem ym_up_0 (f : Nat → Int32) (n : Nat) : ym_up f n n = f := by
  funext q
  unfold ym_up
  rw [if_neg (by omega)]
theorem ym_up_s (f : Nat → Int32) {i n : Nat} (h : i + 1 ≤ n) : upd (ym_up f (i + 1) n) (i + 1) (ym_up f (i + 1) n i) = ym_up f i n := by
  funext q
  unfold ym_up upd
  by_cases hq : q = i + 1
  · subst hq
    rw [if_pos rfl, if_neg (by omega), if_pos (by omega)]
    rfl
  · rw [if_neg hq]
    dsimp only
    by_cases h1 : i + 1 < q ∧ q ≤ n
    · rw [if_pos h1, if_pos (by omega)]
    · rw [if_neg h1, if_neg (by omega)]
