/-! PART S3: what a store sets, closes, takes out, brings in -/
set_option maxRecDepth 100000 in
set_option maxHeartbeats 4000000 in
/-- sets at a held place -/
theorem c_S_setNumber {l : Launch} {z : State} {a0 : Array Value} {D : va_G} {ca : kca} (X : kcx l z a0 D ca) {a na va n : Nat} {kd rm ch : Int32} {nf vf : Nat → Int32} (hn : n ≤ 24) (ok : st_ok z a na va) {j : Nat} {x : Int32} (hj : j < n) : yy_M l z y_S_setNumber (.code y_S_setNumber b_S_setNumber 3 none) ({ frames := 1, cells := 0, slots := 0, locals := 21 }) [.ref a, .int (nI j), .int x] (fun H => st_at D ca H a na va kd rm ch n nf vf) (yy_pv (fun H H1 => st_at D ca H1 a na va kd rm ch n (upd nf j x) vf ∧ kp [a, na, va] H H1)) := by
  refine yy_body (plainFor_of_name (by decide)) (Nat.le_of_ble_eq_true rfl) (fun b H F hS hP hH hnm => ?_)
  have hk0 : kp [a, na, va] H H := kp.rf
  refine yy_aload_n F d_S_setNumber_0 (n := 1) rfl 0 rfl ?_
  refine yy_iload_n F d_S_setNumber_1 (n := 2) rfl 1 rfl ?_
  refine yy_cri (w := 1) F hS (c_S_isHeld (p := nI j) X hn) (yy_Bc F X.1 q_461 q_11) (yy_invV (nA := 1) (C := R_S) (bytes := b_S_isHeld) (maxL := 2) (retY := (some .boolean)) F X.1 q_458 q_459 q_460 q_461 ⟨by decide, by decide, by decide +kernel⟩ (yy_recv F.N X.2.1 (ci := 0) rfl hP.1) rfl d_S_setNumber_2) d_S_setNumber_2 (n := 5) rfl (by simp [Value.category]) ⟨by decide, by decide⟩ ⟨Nat.le_refl _, Nat.le_refl _⟩ ⟨rfl, rfl⟩ hP (ym_nt (ym_inb_t (ym_in.of hj (by omega)))) (fun _ hS_1 => ?_)
  refine yy_if_eq_f (tgt := 15) F d_S_setNumber_5 (n := 8) rfl (by decide) (by decide) ?_
  refine yy_aload_n F d_S_setNumber_8 (n := 9) rfl 0 rfl ?_
  refine yy_get F X.1 X.2.1 g_S_9_S hP.1 rfl d_S_setNumber_9 (n := 12) rfl ?_
  refine yy_iload_n F d_S_setNumber_12 (n := 13) rfl 1 rfl ?_
  refine yy_iload_n F d_S_setNumber_13 (n := 14) rfl 2 rfl ?_
  refine sr_num F X  hS_1 ok hP hk0 (i := j) (by omega) d_S_setNumber_14 (n' := 15) rfl (fun Hw_2 locs_w_2 Pw_2 kw_2 Sw_2 => ?_)
  exact yy_vret F Sw_2 ⟨Nat.zero_le _, Nat.zero_le _⟩ rfl d_S_setNumber_15 (⟨rfl, Pw_2, kw_2⟩)
set_option maxRecDepth 100000 in
set_option maxHeartbeats 4000000 in
/-- sets at a held place -/
theorem c_S_setValue {l : Launch} {z : State} {a0 : Array Value} {D : va_G} {ca : kca} (X : kcx l z a0 D ca) {a na va n : Nat} {kd rm ch : Int32} {nf vf : Nat → Int32} (hn : n ≤ 24) (ok : st_ok z a na va) {j : Nat} {x : Int32} (hj : j < n) : yy_M l z y_S_setValue (.code y_S_setValue b_S_setValue 3 none) ({ frames := 1, cells := 0, slots := 0, locals := 21 }) [.ref a, .int (nI j), .int x] (fun H => st_at D ca H a na va kd rm ch n nf vf) (yy_pv (fun H H1 => st_at D ca H1 a na va kd rm ch n nf (upd vf j x) ∧ kp [a, na, va] H H1)) := by
  refine yy_body (plainFor_of_name (by decide)) (Nat.le_of_ble_eq_true rfl) (fun b H F hS hP hH hnm => ?_)
  have hk0 : kp [a, na, va] H H := kp.rf
  refine yy_aload_n F d_S_setValue_0 (n := 1) rfl 0 rfl ?_
  refine yy_iload_n F d_S_setValue_1 (n := 2) rfl 1 rfl ?_
  refine yy_cri (w := 1) F hS (c_S_isHeld (p := nI j) X hn) (yy_Bc F X.1 q_461 q_11) (yy_invV (nA := 1) (C := R_S) (bytes := b_S_isHeld) (maxL := 2) (retY := (some .boolean)) F X.1 q_458 q_459 q_460 q_461 ⟨by decide, by decide, by decide +kernel⟩ (yy_recv F.N X.2.1 (ci := 0) rfl hP.1) rfl d_S_setValue_2) d_S_setValue_2 (n := 5) rfl (by simp [Value.category]) ⟨by decide, by decide⟩ ⟨Nat.le_refl _, Nat.le_refl _⟩ ⟨rfl, rfl⟩ hP (ym_nt (ym_inb_t (ym_in.of hj (by omega)))) (fun _ hS_1 => ?_)
  refine yy_if_eq_f (tgt := 15) F d_S_setValue_5 (n := 8) rfl (by decide) (by decide) ?_
  refine yy_aload_n F d_S_setValue_8 (n := 9) rfl 0 rfl ?_
  refine yy_get F X.1 X.2.1 g_S_15_S hP.1 rfl d_S_setValue_9 (n := 12) rfl ?_
  refine yy_iload_n F d_S_setValue_12 (n := 13) rfl 1 rfl ?_
  refine yy_iload_n F d_S_setValue_13 (n := 14) rfl 2 rfl ?_
  refine sr_val F X  hS_1 ok hP hk0 (i := j) (by omega) d_S_setValue_14 (n' := 15) rfl (fun Hw_2 locs_w_2 Pw_2 kw_2 Sw_2 => ?_)
  exact yy_vret F Sw_2 ⟨Nat.zero_le _, Nat.zero_le _⟩ rfl d_S_setValue_15 (⟨rfl, Pw_2, kw_2⟩)
set_option maxRecDepth 100000 in
set_option maxHeartbeats 4000000 in
/-- what is behind a place comes one nearer -/
theorem c_S_closeGap {l : Launch} {z : State} {a0 : Array Value} {D : va_G} {ca : kca} (X : kcx l z a0 D ca) {a na va n : Nat} {kd rm ch : Int32} {nf vf : Nat → Int32} (hn : n ≤ 24) (ok : st_ok z a na va) {j : Nat} (hj : j < n) : yy_M l z y_S_closeGap (.code y_S_closeGap b_S_closeGap 3 none) ({ frames := 0, cells := 0, slots := 0, locals := 0 }) [.ref a, .int (nI j)] (fun H => st_at D ca H a na va kd rm ch n nf vf) (yy_pv (fun H H1 => st_at D ca H1 a na va kd rm ch n (ym_sh nf j (n - 1)) (ym_sh vf j (n - 1)) ∧ kp [a, na, va] H H1)) := by
  refine yy_body (plainFor_of_name (by decide)) (Nat.le_of_ble_eq_true rfl) (fun b H F hS hP hH hnm => ?_)
  have hk0 : kp [a, na, va] H H := kp.rf
  have loop : ∀ (d i : Nat) (H1 : Heap) (locs : List Loc), i + d = n - 1 → j ≤ i → st_at D ca H1 a na va kd rm ch n (ym_sh nf j i) (ym_sh vf j i) → kp [a, na, va] H H1 → yy_S z H1 locs → yy_Y b H1 locs (0, 0) 2 [(2, .int (nI i)), (0, .ref a), (1, .int (nI j))] [] := by
    intro d
    induction d with
    | zero =>
      intro i H1 locs hi hji P1 k1 S1
      refine yy_iload_n F d_S_closeGap_2 (n := 3) rfl 0 rfl ?_
      refine yy_aload_n F d_S_closeGap_3 (n := 4) rfl 1 rfl ?_
      refine yy_get F X.1 X.2.1 g_S_18_S P1.1 rfl d_S_closeGap_4 (n := 7) rfl ?_
      refine yy_iconst (v := 1) F d_S_closeGap_7 (n := 8) rfl rfl ?_
      refine yy_isub F d_S_closeGap_8 (n := 9) rfl ?_
      refine yy_tope (y := (nI (n - 1))) (ym_sub1 (by omega)) ?_
      refine yy_ic_ge_t (tgt := 46) F d_S_closeGap_9 (by decide) (nI_le (by omega) (by omega)) ?_
      have e : i = n - 1 := by omega
      subst e
      exact yy_vret F S1 ⟨Nat.zero_le _, Nat.zero_le _⟩ rfl d_S_closeGap_46 (⟨rfl, P1, k1⟩)
    | succ d ih =>
      intro i H1 locs hi hji P1 k1 S1
      refine yy_iload_n F d_S_closeGap_2 (n := 3) rfl 0 rfl ?_
      refine yy_aload_n F d_S_closeGap_3 (n := 4) rfl 1 rfl ?_
      refine yy_get F X.1 X.2.1 g_S_18_S P1.1 rfl d_S_closeGap_4 (n := 7) rfl ?_
      refine yy_iconst (v := 1) F d_S_closeGap_7 (n := 8) rfl rfl ?_
      refine yy_isub F d_S_closeGap_8 (n := 9) rfl ?_
      refine yy_tope (y := (nI (n - 1))) (ym_sub1 (by omega)) ?_
      refine yy_ic_ge_f (tgt := 46) F d_S_closeGap_9 (n := 12) rfl (by decide) (nI_ge (by omega) (by omega)) ?_
      refine yy_aload_n F d_S_closeGap_12 (n := 13) rfl 1 rfl ?_
      refine yy_get F X.1 X.2.1 g_S_9_S P1.1 rfl d_S_closeGap_13 (n := 16) rfl ?_
      refine yy_iload_n F d_S_closeGap_16 (n := 17) rfl 0 rfl ?_
      refine yy_aload_n F d_S_closeGap_17 (n := 18) rfl 1 rfl ?_
      refine yy_get F X.1 X.2.1 g_S_9_S P1.1 rfl d_S_closeGap_18 (n := 21) rfl ?_
      refine yy_iload_n F d_S_closeGap_21 (n := 22) rfl 0 rfl ?_
      refine yy_iconst (v := 1) F d_S_closeGap_22 (n := 23) rfl rfl ?_
      refine yy_iadd F d_S_closeGap_23 (n := 24) rfl ?_
      refine yy_tope (y := (nI (i + 1))) (nI_1 _) ?_
      refine sr_ald (i := (i + 1)) F X P1.2.1 (by decide) (by omega) d_S_closeGap_24 (n' := 25) rfl ?_
      refine sr_num F X  S1 ok P1 k1 (i := i) (by omega) d_S_closeGap_25 (n' := 26) rfl (fun Hw_1 locs_w_1 Pw_1 kw_1 Sw_1 => ?_)
      refine yy_aload_n F d_S_closeGap_26 (n := 27) rfl 1 rfl ?_
      refine yy_get F X.1 X.2.1 g_S_15_S Pw_1.1 rfl d_S_closeGap_27 (n := 30) rfl ?_
      refine yy_iload_n F d_S_closeGap_30 (n := 31) rfl 0 rfl ?_
      refine yy_aload_n F d_S_closeGap_31 (n := 32) rfl 1 rfl ?_
      refine yy_get F X.1 X.2.1 g_S_15_S Pw_1.1 rfl d_S_closeGap_32 (n := 35) rfl ?_
      refine yy_iload_n F d_S_closeGap_35 (n := 36) rfl 0 rfl ?_
      refine yy_iconst (v := 1) F d_S_closeGap_36 (n := 37) rfl rfl ?_
      refine yy_iadd F d_S_closeGap_37 (n := 38) rfl ?_
      refine yy_tope (y := (nI (i + 1))) (nI_1 _) ?_
      refine sr_ald (i := (i + 1)) F X Pw_1.2.2 (by decide) (by omega) d_S_closeGap_38 (n' := 39) rfl ?_
      refine sr_val F X  Sw_1 ok Pw_1 kw_1 (i := i) (by omega) d_S_closeGap_39 (n' := 40) rfl (fun Hw_2 locs_w_2 Pw_2 kw_2 Sw_2 => ?_)
      refine yy_iinc (v := nI (i + 1)) (lv' := [(2, .int (nI (i + 1))), (0, .ref a), (1, .int (nI j))]) F d_S_closeGap_40 (n := 43) rfl 0 rfl (nI_1 _) (by decide) rfl ?_
      refine yy_goto (tgt := 2) F d_S_closeGap_43 (by decide) ?_
      exact yy_sub [0, 1, 2] rfl (ih (i + 1) _ _ (by omega) (by omega) (by rw [← ym_sh_s nf hji, ← ym_sh_s vf hji]; exact Pw_2) kw_2 Sw_2)
  refine yy_iload_n F d_S_closeGap_0 (n := 1) rfl 1 rfl ?_
  refine yy_istore_n (lv' := [(2, .int (nI j)), (0, .ref a), (1, .int (nI j))]) F d_S_closeGap_1 (n := 2) rfl (by decide) rfl ?_
  exact loop (n - 1 - j) j H [] (by omega) (Nat.le_refl _) (by rw [ym_sh_0, ym_sh_0]; exact hP) hk0 hS
set_option maxRecDepth 100000 in
set_option maxHeartbeats 4000000 in
/-- the one at a held place goes -/
theorem c_S_takeOut {l : Launch} {z : State} {a0 : Array Value} {D : va_G} {ca : kca} (X : kcx l z a0 D ca) {a na va n : Nat} {kd rm ch : Int32} {nf vf : Nat → Int32} (hn : n ≤ 24) (ok : st_ok z a na va) {j : Nat} (hj : j < n) : yy_M l z y_S_takeOut (.code y_S_takeOut b_S_takeOut 2 none) ({ frames := 1, cells := 0, slots := 0, locals := 22 }) [.ref a, .int (nI j)] (fun H => st_at D ca H a na va kd rm ch n nf vf) (yy_pv (fun H H1 => st_at D ca H1 a na va kd rm (ch + 1) (n - 1) (ym_sh nf j (n - 1)) (ym_sh vf j (n - 1)) ∧ kp [a, na, va] H H1)) := by
  refine yy_body (plainFor_of_name (by decide)) (Nat.le_of_ble_eq_true rfl) (fun b H F hS hP hH hnm => ?_)
  have hk0 : kp [a, na, va] H H := kp.rf
  refine yy_aload_n F d_S_takeOut_0 (n := 1) rfl 0 rfl ?_
  refine yy_iload_n F d_S_takeOut_1 (n := 2) rfl 1 rfl ?_
  refine yy_cri (w := 1) F hS (c_S_isHeld (p := nI j) X hn) (yy_Bc F X.1 q_461 q_11) (yy_invV (nA := 1) (C := R_S) (bytes := b_S_isHeld) (maxL := 2) (retY := (some .boolean)) F X.1 q_458 q_459 q_460 q_461 ⟨by decide, by decide, by decide +kernel⟩ (yy_recv F.N X.2.1 (ci := 0) rfl hP.1) rfl d_S_takeOut_2) d_S_takeOut_2 (n := 5) rfl (by simp [Value.category]) ⟨by decide, by decide⟩ ⟨Nat.le_refl _, Nat.le_refl _⟩ ⟨rfl, rfl⟩ hP (ym_nt (ym_inb_t (ym_in.of hj (by omega)))) (fun _ hS_1 => ?_)
  refine yy_if_eq_f (tgt := 33) F d_S_takeOut_5 (n := 8) rfl (by decide) (by decide) ?_
  refine yy_aload_n F d_S_takeOut_8 (n := 9) rfl 0 rfl ?_
  refine yy_iload_n F d_S_takeOut_9 (n := 10) rfl 1 rfl ?_
  refine yy_cv F hS_1 (c_S_closeGap X hn ok hj) (yy_Bc F X.1 q_543 q_11) (yy_invV (nA := 1) (C := R_S) (bytes := b_S_closeGap) (maxL := 3) (retY := none) F X.1 q_540 q_542 qs_S_closeGap q_543 ⟨by decide, by decide, by decide +kernel⟩ (yy_recv F.N X.2.1 (ci := 0) rfl hP.1) rfl d_S_takeOut_10) d_S_takeOut_10 (n := 13) rfl (by simp [Value.category]) ⟨by decide, by decide⟩ ⟨Nat.le_refl _, Nat.le_refl _⟩ ⟨rfl, rfl⟩ hP (fun Hw_2 locs_w_2 qw_2 Sw_2 => ?_)
  obtain ⟨Pw_2, kw_2⟩ := qw_2
  have kw_2 := hk0.tr kw_2
  refine yy_aload_n F d_S_takeOut_13 (n := 14) rfl 0 rfl ?_
  refine yy_dup F d_S_takeOut_14 (n := 15) rfl rfl ?_
  refine yy_get F X.1 X.2.1 g_S_18_S Pw_2.1 rfl d_S_takeOut_15 (n := 18) rfl ?_
  refine yy_iconst (v := 1) F d_S_takeOut_18 (n := 19) rfl rfl ?_
  refine yy_isub F d_S_takeOut_19 (n := 20) rfl ?_
  refine sr_cnt F X g_S_18_S Sw_2 ok Pw_2 kw_2 (n - 1) (ym_sub1 (by omega)) d_S_takeOut_20 (n' := 23) rfl (fun Hw_3 locs_w_3 Pw_3 kw_3 Sw_3 => ?_)
  refine yy_aload_n F d_S_takeOut_23 (n := 24) rfl 0 rfl ?_
  refine yy_dup F d_S_takeOut_24 (n := 25) rfl rfl ?_
  refine yy_get F X.1 X.2.1 g_S_25_S Pw_3.1 rfl d_S_takeOut_25 (n := 28) rfl ?_
  refine yy_iconst (v := 1) F d_S_takeOut_28 (n := 29) rfl rfl ?_
  refine yy_iadd F d_S_takeOut_29 (n := 30) rfl ?_
  refine sr_chg F X g_S_25_S Sw_3 ok Pw_3 kw_3 d_S_takeOut_30 (n' := 33) rfl (fun Hw_4 locs_w_4 Pw_4 kw_4 Sw_4 => ?_)
  exact yy_vret F Sw_4 ⟨Nat.zero_le _, Nat.zero_le _⟩ rfl d_S_takeOut_33 (⟨rfl, Pw_4, kw_4⟩)
