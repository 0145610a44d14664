/-! PART S2: what a store finds and counts; what it sets, closes, takes out -/
set_option maxRecDepth 100000 in
set_option maxHeartbeats 4000000 in
/-- the first place of a key, or -1 -/
theorem c_S_placeOf {l : Launch} {z : State} {a0 : Array Value} {D : va_G} {ca : kca} (X : kcx l z a0 D ca) {a na va n : Nat} {kd rm ch : Int32} {nf vf : Nat → Int32} (hn : n ≤ 24) {key : Int32} : yy_M l z y_S_placeOf (.code y_S_placeOf b_S_placeOf 3 (some .int)) ({ frames := 0, cells := 0, slots := 0, locals := 0 }) [.ref a, .int key] (fun H => st_at D ca H a na va kd rm ch n nf vf) (yy_ri (ym_find nf key n)) := by
  refine yy_body (plainFor_of_name (by decide)) (Nat.le_of_ble_eq_true rfl) (fun b H F hS hP hH hnm => ?_)
  obtain ⟨hO, hN, hV⟩ := id hP
  have loop : ∀ (d i : Nat), i + d = n → ym_fi nf key d i = ym_find nf key n → yy_Y b H [] (0, 0) 2 [(2, .int (nI i)), (0, .ref a), (1, .int key)] [] := by
    intro d
    induction d with
    | zero =>
      intro i hi he
      refine yy_iload_n F d_S_placeOf_2 (n := 3) rfl 0 rfl ?_
      refine yy_aload_n F d_S_placeOf_3 (n := 4) rfl 1 rfl ?_
      refine yy_get F X.1 X.2.1 g_S_18_S hO rfl d_S_placeOf_4 (n := 7) rfl ?_
      refine yy_ic_ge_t (tgt := 28) F d_S_placeOf_7 (by decide) (nI_le (by omega) (by omega)) ?_
      refine yy_iconst (v := (-1)) F d_S_placeOf_28 (n := 29) rfl rfl ?_
      exact yy_iret F hS ⟨Nat.zero_le _, Nat.zero_le _⟩ rfl d_S_placeOf_29 (⟨_, rfl, he, rfl⟩)
    | succ d ih =>
      intro i hi he
      refine yy_iload_n F d_S_placeOf_2 (n := 3) rfl 0 rfl ?_
      refine yy_aload_n F d_S_placeOf_3 (n := 4) rfl 1 rfl ?_
      refine yy_get F X.1 X.2.1 g_S_18_S hO rfl d_S_placeOf_4 (n := 7) rfl ?_
      refine yy_ic_ge_f (tgt := 28) F d_S_placeOf_7 (n := 10) rfl (by decide) (nI_ge (by omega) (by omega)) ?_
      refine yy_aload_n F d_S_placeOf_10 (n := 11) rfl 1 rfl ?_
      refine yy_get F X.1 X.2.1 g_S_9_S hO rfl d_S_placeOf_11 (n := 14) rfl ?_
      refine yy_iload_n F d_S_placeOf_14 (n := 15) rfl 0 rfl ?_
      refine sr_ald (i := i) F X hN (by decide) (by omega) d_S_placeOf_15 (n' := 16) rfl ?_
      refine yy_iload_n F d_S_placeOf_16 (n := 17) rfl 2 rfl ?_
      refine yy_ic_ne (tgt := 22) F d_S_placeOf_17 (n := 20) rfl (by decide) (fun h => ?_) (fun h => ?_)
      · refine yy_iinc (v := nI (i + 1)) (lv' := [(2, .int (nI (i + 1))), (0, .ref a), (1, .int key)]) F d_S_placeOf_22 (n := 25) rfl 0 rfl (nI_1 _) (by decide) rfl ?_
        refine yy_goto (tgt := 2) F d_S_placeOf_25 (by decide) ?_
        exact ih (i + 1) (by omega) (by rw [← he]; show _ = if nf i = key then nI i else ym_fi nf key d (i + 1); rw [if_neg h])
      · refine yy_iload_n F d_S_placeOf_20 (n := 21) rfl 0 rfl ?_
        exact yy_iret F hS ⟨Nat.zero_le _, Nat.zero_le _⟩ rfl d_S_placeOf_21 (⟨_, rfl, by rw [← he]; show _ = if nf i = key then nI i else ym_fi nf key d (i + 1); rw [if_pos h], rfl⟩)
  refine yy_iconst (v := 0) F d_S_placeOf_0 (n := 1) rfl rfl ?_
  refine yy_istore_n (lv' := [(2, .int 0), (0, .ref a), (1, .int key)]) F d_S_placeOf_1 (n := 2) rfl (by decide) rfl ?_
  exact loop n 0 (by omega) rfl
set_option maxRecDepth 100000 in
set_option maxHeartbeats 4000000 in
/-- how many numbers are below one, or not above it -/
theorem c_S_placesBefore {l : Launch} {z : State} {a0 : Array Value} {D : va_G} {ca : kca} (X : kcx l z a0 D ca) {a na va n : Nat} {kd rm ch : Int32} {nf vf : Nat → Int32} (hn : n ≤ 24) {x e : Int32} : yy_M l z y_S_placesBefore (.code y_S_placesBefore b_S_placesBefore 5 (some .int)) ({ frames := 0, cells := 0, slots := 0, locals := 0 }) [.ref a, .int x, .int e] (fun H => st_at D ca H a na va kd rm ch n nf vf) (yy_ri (nI (ym_cnt (ym_bel nf x e) n))) := by
  refine yy_body (plainFor_of_name (by decide)) (Nat.le_of_ble_eq_true rfl) (fun b H F hS hP hH hnm => ?_)
  obtain ⟨hO, hN, hV⟩ := id hP
  have loop : ∀ (d i : Nat), i + d = n → yy_Y b H [] (0, 0) 5 [(4, .int (nI i)), (3, .int (nI (ym_cnt (ym_bel nf x e) i))), (0, .ref a), (1, .int x), (2, .int e)] [] := by
    intro d
    induction d with
    | zero =>
      intro i hi
      refine yy_iload F d_S_placesBefore_5 (n := 7) rfl 0 rfl ?_
      refine yy_aload_n F d_S_placesBefore_7 (n := 8) rfl 2 rfl ?_
      refine yy_get F X.1 X.2.1 g_S_18_S hO rfl d_S_placesBefore_8 (n := 11) rfl ?_
      refine yy_ic_ge_t (tgt := 49) F d_S_placesBefore_11 (by decide) (nI_le (by omega) (by omega)) ?_
      refine yy_iload_n F d_S_placesBefore_49 (n := 50) rfl 1 rfl ?_
      exact yy_iret F hS ⟨Nat.zero_le _, Nat.zero_le _⟩ rfl d_S_placesBefore_50 (⟨_, rfl, by rw [show i = n by omega], rfl⟩)
    | succ d ih =>
      intro i hi
      refine yy_iload F d_S_placesBefore_5 (n := 7) rfl 0 rfl ?_
      refine yy_aload_n F d_S_placesBefore_7 (n := 8) rfl 2 rfl ?_
      refine yy_get F X.1 X.2.1 g_S_18_S hO rfl d_S_placesBefore_8 (n := 11) rfl ?_
      refine yy_ic_ge_f (tgt := 49) F d_S_placesBefore_11 (n := 14) rfl (by decide) (nI_ge (by omega) (by omega)) ?_
      have hs : ∀ c : Bool, ym_bel nf x e i = c → ym_cnt (ym_bel nf x e) (i + 1) = ym_cnt (ym_bel nf x e) i + (if c then 1 else 0) := fun c h => by rw [← h]; rfl
      have yes : ym_bel nf x e i = true → yy_Y b H [] (0, 0) 40 [(4, .int (nI i)), (3, .int (nI (ym_cnt (ym_bel nf x e) i))), (0, .ref a), (1, .int x), (2, .int e)] [] := by
        intro hb
        refine yy_iinc (v := nI ((ym_cnt (ym_bel nf x e) i) + 1)) (lv' := [(3, .int (nI ((ym_cnt (ym_bel nf x e) i) + 1))), (4, .int (nI i)), (0, .ref a), (1, .int x), (2, .int e)]) F d_S_placesBefore_40 (n := 43) rfl 1 rfl (nI_1 _) (by decide) rfl ?_
        refine yy_iinc (v := nI (i + 1)) (lv' := [(4, .int (nI (i + 1))), (3, .int (nI ((ym_cnt (ym_bel nf x e) i) + 1))), (0, .ref a), (1, .int x), (2, .int e)]) F d_S_placesBefore_43 (n := 46) rfl 1 rfl (nI_1 _) (by decide) rfl ?_
        refine yy_goto (tgt := 5) F d_S_placesBefore_46 (by decide) ?_
        have h9 := ih (i + 1) (by omega)
        rw [hs true hb] at h9
        exact yy_sub [0, 1, 2, 3, 4] rfl h9
      have no : ym_bel nf x e i = false → yy_Y b H [] (0, 0) 43 [(4, .int (nI i)), (3, .int (nI (ym_cnt (ym_bel nf x e) i))), (0, .ref a), (1, .int x), (2, .int e)] [] := by
        intro hb
        refine yy_iinc (v := nI (i + 1)) (lv' := [(4, .int (nI (i + 1))), (3, .int (nI (ym_cnt (ym_bel nf x e) i))), (0, .ref a), (1, .int x), (2, .int e)]) F d_S_placesBefore_43 (n := 46) rfl 0 rfl (nI_1 _) (by decide) rfl ?_
        refine yy_goto (tgt := 5) F d_S_placesBefore_46 (by decide) ?_
        have h9 := ih (i + 1) (by omega)
        rw [hs false hb] at h9
        exact yy_sub [0, 1, 2, 3, 4] rfl h9
      refine yy_aload_n F d_S_placesBefore_14 (n := 15) rfl 2 rfl ?_
      refine yy_get F X.1 X.2.1 g_S_9_S hO rfl d_S_placesBefore_15 (n := 18) rfl ?_
      refine yy_iload F d_S_placesBefore_18 (n := 20) rfl 0 rfl ?_
      refine sr_ald (i := i) F X hN (by decide) (by omega) d_S_placesBefore_20 (n' := 21) rfl ?_
      refine yy_iload_n F d_S_placesBefore_21 (n := 22) rfl 3 rfl ?_
      refine yy_ic_lt (tgt := 40) F d_S_placesBefore_22 (n := 25) rfl (by decide) (fun h1 => ?_) (fun h1 => ?_)
      · exact yes (by simp [ym_bel, h1])
      · refine yy_iload_n F d_S_placesBefore_25 (n := 26) rfl 4 rfl ?_
        refine yy_if_eq (tgt := 43) F d_S_placesBefore_26 (n := 29) rfl (by decide) (fun h2 => ?_) (fun h2 => ?_)
        · exact no (by simp [ym_bel, h1, h2])
        · refine yy_aload_n F d_S_placesBefore_29 (n := 30) rfl 2 rfl ?_
          refine yy_get F X.1 X.2.1 g_S_9_S hO rfl d_S_placesBefore_30 (n := 33) rfl ?_
          refine yy_iload F d_S_placesBefore_33 (n := 35) rfl 0 rfl ?_
          refine sr_ald (i := i) F X hN (by decide) (by omega) d_S_placesBefore_35 (n' := 36) rfl ?_
          refine yy_iload_n F d_S_placesBefore_36 (n := 37) rfl 3 rfl ?_
          refine yy_ic_ne (tgt := 43) F d_S_placesBefore_37 (n := 40) rfl (by decide) (fun h3 => ?_) (fun h3 => ?_)
          · exact no (by simp [ym_bel, h1, h3])
          · exact yes (by simp [ym_bel, h2, h3])
  refine yy_iconst (v := 0) F d_S_placesBefore_0 (n := 1) rfl rfl ?_
  refine yy_istore_n (lv' := [(3, .int 0), (0, .ref a), (1, .int x), (2, .int e)]) F d_S_placesBefore_1 (n := 2) rfl (by decide) rfl ?_
  refine yy_iconst (v := 0) F d_S_placesBefore_2 (n := 3) rfl rfl ?_
  refine yy_istore (lv' := [(4, .int 0), (3, .int 0), (0, .ref a), (1, .int x), (2, .int e)]) F d_S_placesBefore_3 (n := 5) rfl (by decide) rfl ?_
  exact loop n 0 (by omega)
