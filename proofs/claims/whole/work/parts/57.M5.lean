/-! PART M5: the reference's helpers that change -/
set_option maxRecDepth 100000 in
set_option maxHeartbeats 4000000 in
theorem c_M_fail {l : Launch} {z : State} {a0 : Array Value} {D : va_G} {ca : kca} (X : kcx l z a0 D ca) {a n : Nat} {cd : Int32} {s : ms} {e : Int32} : yy_M l z y_M_fail (.code y_M_fail b_M_fail 2 (some .int)) ({ frames := 0, cells := 0, slots := 0, locals := 0 }) [.ref a, .int e] (mo_at D ca z a n cd s) (yy_pi (fun r H H1 => r = 0 ∧ mo_at D ca z a n e s H1 ∧ kpm a n H H1)) := by
  refine yy_body (plainFor_of_name (by decide)) (Nat.le_of_ble_eq_true rfl) (fun b H F hS hP hH hnm => ?_)
  refine yy_aload_n F d_M_fail_0 (n := 1) rfl 0 rfl ?_
  refine yy_iload_n F d_M_fail_1 (n := 2) rfl 1 rfl ?_
  refine ma_code F X g_M_55_M hP hS d_M_fail_2 (n' := 5) rfl (fun Hw_1 locs_w_1 Pw_1 kw_1 Sw_1 => ?_)
  have kw_1 := kpm.rf.tr kw_1
  refine yy_iconst (v := 0) F d_M_fail_5 (n := 6) rfl rfl ?_
  exact yy_iret F Sw_1 ⟨Nat.zero_le _, Nat.zero_le _⟩ rfl d_M_fail_6 (⟨0, rfl, rfl, Pw_1, kw_1⟩)
set_option maxRecDepth 100000 in
set_option maxHeartbeats 4000000 in
theorem c_M_make {l : Launch} {z : State} {a0 : Array Value} {D : va_G} {ca : kca} (X : kcx l z a0 D ca) {a n : Nat} {cd : Int32} {s : ms} {σ : ks} {t : Nat} (I : iv t σ) (R : mr s σ) (hm : k_m σ < 10) {k w bb : Int32} (hw : (w = -1 ∧ bb = nI (k_m σ)) ∨ ∃ c, c < k_m σ ∧ w = nI c ∧ bb = nI (k_bs σ c)) : yy_M l z y_M_make (.code y_M_make b_M_make 4 (some .int)) ({ frames := 0, cells := 0, slots := 0, locals := 0 }) [.ref a, .int k, .int w] (mo_at D ca z a n cd s) (yy_pi (fun r H H1 => r = nI (k_m σ) ∧ ∃ s1 : ms, m_made s s1 (k_m σ) k w bb ∧ mo_at D ca z a n cd s1 H1 ∧ kpm a n H H1)) := by
  refine yy_body (plainFor_of_name (by decide)) (Nat.le_of_ble_eq_true rfl) (fun b H F hS hP hH hnm => ?_)
  have h10 := I.m10
  rcases hw with ⟨rfl, rfl⟩ | ⟨c, hc, rfl, rfl⟩
  · refine yy_aload_n F d_M_make_0 (n := 1) rfl 0 rfl ?_
    refine yy_get F X.1 X.2.1 g_M_59_M hP.o rfl d_M_make_1 (n := 4) rfl ?_
    refine yy_tope (y := (nI (k_m σ))) (by rw [R.1]) ?_
    refine yy_istore_n (lv' := [(3, .int (nI (k_m σ))), (0, .ref a), (1, .int k), (2, .int (-1))]) F d_M_make_4 (n := 5) rfl (by decide) rfl ?_
    refine yy_aload_n F d_M_make_5 (n := 6) rfl 1 rfl ?_
    refine yy_get F X.1 X.2.1 g_M_7_M hP.o rfl d_M_make_6 (n := 9) rfl ?_
    refine yy_iload_n F d_M_make_9 (n := 10) rfl 0 rfl ?_
    refine yy_iload_n F d_M_make_10 (n := 11) rfl 2 rfl ?_
    refine ma_st (j := 0) (i := (k_m σ)) F X hP hS (by decide) (show k_m σ < 10 by omega) d_M_make_11 (n' := 12) rfl (fun Hw_1 locs_w_1 Pw_1 kw_1 Sw_1 => ?_)
    have kw_1 := kpm.rf.tr kw_1
    refine yy_aload_n F d_M_make_12 (n := 13) rfl 1 rfl ?_
    refine yy_get F X.1 X.2.1 g_M_13_M Pw_1.o rfl d_M_make_13 (n := 16) rfl ?_
    refine yy_iload_n F d_M_make_16 (n := 17) rfl 0 rfl ?_
    refine yy_iload_n F d_M_make_17 (n := 18) rfl 3 rfl ?_
    refine ma_st (j := 1) (i := (k_m σ)) F X Pw_1 Sw_1 (by decide) (show k_m σ < 10 by omega) d_M_make_18 (n' := 19) rfl (fun Hw_2 locs_w_2 Pw_2 kw_2 Sw_2 => ?_)
    have kw_2 := kw_1.tr kw_2
    refine yy_aload_n F d_M_make_19 (n := 20) rfl 1 rfl ?_
    refine yy_get F X.1 X.2.1 g_M_16_M Pw_2.o rfl d_M_make_20 (n := 23) rfl ?_
    refine yy_iload_n F d_M_make_23 (n := 24) rfl 0 rfl ?_
    refine yy_iload_n F d_M_make_24 (n := 25) rfl 3 rfl ?_
    refine yy_iconst (v := (-1)) F d_M_make_25 (n := 26) rfl rfl ?_
    refine yy_ic_ne_f (tgt := 33) F d_M_make_26 (n := 29) rfl (by decide) rfl ?_
    refine yy_iload_n F d_M_make_29 (n := 30) rfl 0 rfl ?_
    refine yy_goto (tgt := 39) F d_M_make_30 (by decide) ?_
    refine ma_st (j := 2) (i := (k_m σ)) F X Pw_2 Sw_2 (by decide) (show k_m σ < 10 by omega) d_M_make_39 (n' := 40) rfl (fun Hw_3 locs_w_3 Pw_3 kw_3 Sw_3 => ?_)
    have kw_3 := kw_2.tr kw_3
    refine yy_aload_n F d_M_make_40 (n := 41) rfl 1 rfl ?_
    refine yy_get F X.1 X.2.1 g_M_25_M Pw_3.o rfl d_M_make_41 (n := 44) rfl ?_
    refine yy_iload_n F d_M_make_44 (n := 45) rfl 0 rfl ?_
    refine yy_iconst (v := 0) F d_M_make_45 (n := 46) rfl rfl ?_
    refine ma_st (j := 5) (i := (k_m σ)) F X Pw_3 Sw_3 (by decide) (show k_m σ < 10 by omega) d_M_make_46 (n' := 47) rfl (fun Hw_4 locs_w_4 Pw_4 kw_4 Sw_4 => ?_)
    have kw_4 := kw_3.tr kw_4
    refine yy_aload_n F d_M_make_47 (n := 48) rfl 1 rfl ?_
    refine yy_get F X.1 X.2.1 g_M_28_M Pw_4.o rfl d_M_make_48 (n := 51) rfl ?_
    refine yy_iload_n F d_M_make_51 (n := 52) rfl 0 rfl ?_
    refine yy_iconst (v := 0) F d_M_make_52 (n := 53) rfl rfl ?_
    refine ma_st (j := 6) (i := (k_m σ)) F X Pw_4 Sw_4 (by decide) (show k_m σ < 10 by omega) d_M_make_53 (n' := 54) rfl (fun Hw_5 locs_w_5 Pw_5 kw_5 Sw_5 => ?_)
    have kw_5 := kw_4.tr kw_5
    refine yy_aload_n F d_M_make_54 (n := 55) rfl 1 rfl ?_
    refine yy_get F X.1 X.2.1 g_M_31_M Pw_5.o rfl d_M_make_55 (n := 58) rfl ?_
    refine yy_iload_n F d_M_make_58 (n := 59) rfl 0 rfl ?_
    refine yy_iconst (v := 4) F d_M_make_59 (n := 60) rfl rfl ?_
    refine ma_st (j := 7) (i := (k_m σ)) F X Pw_5 Sw_5 (by decide) (show k_m σ < 10 by omega) d_M_make_60 (n' := 61) rfl (fun Hw_6 locs_w_6 Pw_6 kw_6 Sw_6 => ?_)
    have kw_6 := kw_5.tr kw_6
    refine yy_aload_n F d_M_make_61 (n := 62) rfl 1 rfl ?_
    refine yy_dup F d_M_make_62 (n := 63) rfl rfl ?_
    refine yy_get F X.1 X.2.1 g_M_59_M Pw_6.o rfl d_M_make_63 (n := 66) rfl ?_
    refine yy_tope (y := (nI (k_m σ))) (by show nI s.1 = _; rw [R.1]) ?_
    refine yy_iconst (v := 1) F d_M_make_66 (n := 67) rfl rfl ?_
    refine yy_iadd F d_M_make_67 (n := 68) rfl ?_
    refine yy_tope (y := (nI (k_m σ + 1))) (nI_1 _) ?_
    refine ma_many (i := (k_m σ + 1)) F X g_M_59_M Pw_6 Sw_6 d_M_make_68 (n' := 71) rfl (fun Hw_7 locs_w_7 Pw_7 kw_7 Sw_7 => ?_)
    have kw_7 := kw_6.tr kw_7
    refine yy_iload_n F d_M_make_71 (n := 72) rfl 0 rfl ?_
    exact yy_iret F Sw_7 ⟨Nat.zero_le _, Nat.zero_le _⟩ rfl d_M_make_72 (⟨_, rfl, rfl, (k_m σ + 1, (m_set (m_set (m_set (m_set (m_set (m_set s 0 (k_m σ) k) 1 (k_m σ) (-1)) 2 (k_m σ) (nI (k_m σ))) 5 (k_m σ) 0) 6 (k_m σ) 0) 7 (k_m σ) 4).2), ⟨rfl, fun j hj => (m_set_o _ _ (by omega)).trans ((m_set_o _ _ (by omega)).trans ((m_set_o _ _ (by omega)).trans ((m_set_o _ _ (by omega)).trans ((m_set_o _ _ (by omega)).trans ((m_set_o _ _ (by omega)).trans rfl))))), fun j i hi => (m_set_x _ _ _ hi).trans ((m_set_x _ _ _ hi).trans ((m_set_x _ _ _ hi).trans ((m_set_x _ _ _ hi).trans ((m_set_x _ _ _ hi).trans ((m_set_x _ _ _ hi).trans rfl))))), by show upd _ (k_m σ) _ (k_m σ) = _; exact upd_s _ _ _, by show upd _ (k_m σ) _ (k_m σ) = _; exact upd_s _ _ _, by show upd _ (k_m σ) _ (k_m σ) = _; exact upd_s _ _ _, by show upd _ (k_m σ) _ (k_m σ) = _; exact upd_s _ _ _, by show upd _ (k_m σ) _ (k_m σ) = _; exact upd_s _ _ _, by show upd _ (k_m σ) _ (k_m σ) = _; exact upd_s _ _ _⟩, Pw_7, kw_7⟩)
  · refine yy_aload_n F d_M_make_0 (n := 1) rfl 0 rfl ?_
    refine yy_get F X.1 X.2.1 g_M_59_M hP.o rfl d_M_make_1 (n := 4) rfl ?_
    refine yy_tope (y := (nI (k_m σ))) (by rw [R.1]) ?_
    refine yy_istore_n (lv' := [(3, .int (nI (k_m σ))), (0, .ref a), (1, .int k), (2, .int (nI c))]) F d_M_make_4 (n := 5) rfl (by decide) rfl ?_
    refine yy_aload_n F d_M_make_5 (n := 6) rfl 1 rfl ?_
    refine yy_get F X.1 X.2.1 g_M_7_M hP.o rfl d_M_make_6 (n := 9) rfl ?_
    refine yy_iload_n F d_M_make_9 (n := 10) rfl 0 rfl ?_
    refine yy_iload_n F d_M_make_10 (n := 11) rfl 2 rfl ?_
    refine ma_st (j := 0) (i := (k_m σ)) F X hP hS (by decide) (show k_m σ < 10 by omega) d_M_make_11 (n' := 12) rfl (fun Hw_8 locs_w_8 Pw_8 kw_8 Sw_8 => ?_)
    have kw_8 := kpm.rf.tr kw_8
    refine yy_aload_n F d_M_make_12 (n := 13) rfl 1 rfl ?_
    refine yy_get F X.1 X.2.1 g_M_13_M Pw_8.o rfl d_M_make_13 (n := 16) rfl ?_
    refine yy_iload_n F d_M_make_16 (n := 17) rfl 0 rfl ?_
    refine yy_iload_n F d_M_make_17 (n := 18) rfl 3 rfl ?_
    refine ma_st (j := 1) (i := (k_m σ)) F X Pw_8 Sw_8 (by decide) (show k_m σ < 10 by omega) d_M_make_18 (n' := 19) rfl (fun Hw_9 locs_w_9 Pw_9 kw_9 Sw_9 => ?_)
    have kw_9 := kw_8.tr kw_9
    refine yy_aload_n F d_M_make_19 (n := 20) rfl 1 rfl ?_
    refine yy_get F X.1 X.2.1 g_M_16_M Pw_9.o rfl d_M_make_20 (n := 23) rfl ?_
    refine yy_iload_n F d_M_make_23 (n := 24) rfl 0 rfl ?_
    refine yy_iload_n F d_M_make_24 (n := 25) rfl 3 rfl ?_
    refine yy_iconst (v := (-1)) F d_M_make_25 (n := 26) rfl rfl ?_
    refine yy_ic_ne_t (tgt := 33) F d_M_make_26 (by decide) (ym_nm1 (by omega)) ?_
    refine yy_aload_n F d_M_make_33 (n := 34) rfl 1 rfl ?_
    refine yy_get F X.1 X.2.1 g_M_16_M Pw_9.o rfl d_M_make_34 (n := 37) rfl ?_
    refine yy_iload_n F d_M_make_37 (n := 38) rfl 3 rfl ?_
    refine ma_ld (j := 2) (i := c) F X Pw_9 (by decide) (show c < 10 by omega) d_M_make_38 (n' := 39) rfl ?_
    refine yy_tope (y := (nI (k_bs σ c))) (R.bs hc) ?_
    refine ma_st (j := 2) (i := (k_m σ)) F X Pw_9 Sw_9 (by decide) (show k_m σ < 10 by omega) d_M_make_39 (n' := 40) rfl (fun Hw_10 locs_w_10 Pw_10 kw_10 Sw_10 => ?_)
    have kw_10 := kw_9.tr kw_10
    refine yy_aload_n F d_M_make_40 (n := 41) rfl 1 rfl ?_
    refine yy_get F X.1 X.2.1 g_M_25_M Pw_10.o rfl d_M_make_41 (n := 44) rfl ?_
    refine yy_iload_n F d_M_make_44 (n := 45) rfl 0 rfl ?_
    refine yy_iconst (v := 0) F d_M_make_45 (n := 46) rfl rfl ?_
    refine ma_st (j := 5) (i := (k_m σ)) F X Pw_10 Sw_10 (by decide) (show k_m σ < 10 by omega) d_M_make_46 (n' := 47) rfl (fun Hw_11 locs_w_11 Pw_11 kw_11 Sw_11 => ?_)
    have kw_11 := kw_10.tr kw_11
    refine yy_aload_n F d_M_make_47 (n := 48) rfl 1 rfl ?_
    refine yy_get F X.1 X.2.1 g_M_28_M Pw_11.o rfl d_M_make_48 (n := 51) rfl ?_
    refine yy_iload_n F d_M_make_51 (n := 52) rfl 0 rfl ?_
    refine yy_iconst (v := 0) F d_M_make_52 (n := 53) rfl rfl ?_
    refine ma_st (j := 6) (i := (k_m σ)) F X Pw_11 Sw_11 (by decide) (show k_m σ < 10 by omega) d_M_make_53 (n' := 54) rfl (fun Hw_12 locs_w_12 Pw_12 kw_12 Sw_12 => ?_)
    have kw_12 := kw_11.tr kw_12
    refine yy_aload_n F d_M_make_54 (n := 55) rfl 1 rfl ?_
    refine yy_get F X.1 X.2.1 g_M_31_M Pw_12.o rfl d_M_make_55 (n := 58) rfl ?_
    refine yy_iload_n F d_M_make_58 (n := 59) rfl 0 rfl ?_
    refine yy_iconst (v := 4) F d_M_make_59 (n := 60) rfl rfl ?_
    refine ma_st (j := 7) (i := (k_m σ)) F X Pw_12 Sw_12 (by decide) (show k_m σ < 10 by omega) d_M_make_60 (n' := 61) rfl (fun Hw_13 locs_w_13 Pw_13 kw_13 Sw_13 => ?_)
    have kw_13 := kw_12.tr kw_13
    refine yy_aload_n F d_M_make_61 (n := 62) rfl 1 rfl ?_
    refine yy_dup F d_M_make_62 (n := 63) rfl rfl ?_
    refine yy_get F X.1 X.2.1 g_M_59_M Pw_13.o rfl d_M_make_63 (n := 66) rfl ?_
    refine yy_tope (y := (nI (k_m σ))) (by show nI s.1 = _; rw [R.1]) ?_
    refine yy_iconst (v := 1) F d_M_make_66 (n := 67) rfl rfl ?_
    refine yy_iadd F d_M_make_67 (n := 68) rfl ?_
    refine yy_tope (y := (nI (k_m σ + 1))) (nI_1 _) ?_
    refine ma_many (i := (k_m σ + 1)) F X g_M_59_M Pw_13 Sw_13 d_M_make_68 (n' := 71) rfl (fun Hw_14 locs_w_14 Pw_14 kw_14 Sw_14 => ?_)
    have kw_14 := kw_13.tr kw_14
    refine yy_iload_n F d_M_make_71 (n := 72) rfl 0 rfl ?_
    exact yy_iret F Sw_14 ⟨Nat.zero_le _, Nat.zero_le _⟩ rfl d_M_make_72 (⟨_, rfl, rfl, (k_m σ + 1, (m_set (m_set (m_set (m_set (m_set (m_set s 0 (k_m σ) k) 1 (k_m σ) (nI c)) 2 (k_m σ) (nI (k_bs σ c))) 5 (k_m σ) 0) 6 (k_m σ) 0) 7 (k_m σ) 4).2), ⟨rfl, fun j hj => (m_set_o _ _ (by omega)).trans ((m_set_o _ _ (by omega)).trans ((m_set_o _ _ (by omega)).trans ((m_set_o _ _ (by omega)).trans ((m_set_o _ _ (by omega)).trans ((m_set_o _ _ (by omega)).trans rfl))))), fun j i hi => (m_set_x _ _ _ hi).trans ((m_set_x _ _ _ hi).trans ((m_set_x _ _ _ hi).trans ((m_set_x _ _ _ hi).trans ((m_set_x _ _ _ hi).trans ((m_set_x _ _ _ hi).trans rfl))))), by show upd _ (k_m σ) _ (k_m σ) = _; exact upd_s _ _ _, by show upd _ (k_m σ) _ (k_m σ) = _; exact upd_s _ _ _, by show upd _ (k_m σ) _ (k_m σ) = _; exact upd_s _ _ _, by show upd _ (k_m σ) _ (k_m σ) = _; exact upd_s _ _ _, by show upd _ (k_m σ) _ (k_m σ) = _; exact upd_s _ _ _, by show upd _ (k_m σ) _ (k_m σ) = _; exact upd_s _ _ _⟩, Pw_14, kw_14⟩)
theorem mr.nu24 {t : Nat} {σ : ks} {s : ms} {c : Nat} (R : mr s σ) (I : iv t σ) (hc : c < k_m σ) (h5 : ¬ k_kb σ c = 5) : ∀ p, p < 24 → (fun p => s.2 3 (24 * k_bs σ c + p)) p = s_nu (k_B σ c) p := fun _ h => R.nu I hc h5 h
theorem mr.vl24 {t : Nat} {σ : ks} {s : ms} {c : Nat} (R : mr s σ) (I : iv t σ) (hc : c < k_m σ) (h : k_kb σ c = 2 ∨ k_kb σ c = 3 ∨ k_kb σ c = 4) : ∀ p, p < 24 → (fun p => s.2 4 (24 * k_bs σ c + p)) p = s_vl (k_B σ c) p := fun _ hp => R.vl I hc h hp
theorem k_l234 {kd : Int32} (h : kd = 0 ∨ kd = 1) : ¬ (kd = 2 ∨ kd = 3 ∨ kd = 4) := by
  rcases h with rfl | rfl <;> decide
set_option maxRecDepth 100000 in
set_option maxHeartbeats 4000000 in
theorem c_M_insertAt {l : Launch} {z : State} {a0 : Array Value} {D : va_G} {ca : kca} (X : kcx l z a0 D ca) {a n : Nat} {cd : Int32} {s : ms} {σ : ks} {t : Nat} (I : iv t σ) (R : mr s σ) {c : Nat} (hc : c < k_m σ) (hl : k_isl (k_kd σ c) = true) {p : Nat} {y : Int32} (hp : k_start σ c + p ≤ s_ct (k_B σ c)) (h24 : s_ct (k_B σ c) < 24) : yy_M l z y_M_insertAt (.code y_M_insertAt b_M_insertAt 5 none) ({ frames := 2, cells := 0, slots := 0, locals := 50 }) [.ref a, .int (nI c), .int (nI p), .int y] (mo_at D ca z a n cd s) (yy_pv (fun H H1 => ∃ s1 : ms, mr s1 (k_bring σ c (k_start σ c + p) y) ∧ mo_at D ca z a n cd s1 H1 ∧ kpm a n H H1)) := by
  refine yy_body (plainFor_of_name (by decide)) (Nat.le_of_ble_eq_true rfl) (fun b H F hS hP hH hnm => ?_)
  have h10 := I.m10
  have hb := I.bs hc
  have hkb := k_lb I hc hl
  have h5 := k_lb5 I hc hl
  have hn := k_l234 hkb
  have hro := (I.s hc).2.2.1
  have hro0 := (I.s hc).2.2.2.1
  have fin : ∀ (r : Nat) (σ1 : ks) (s1 : ms) (H1 : Heap) (locs : List Loc), σ1 = k_setS σ (k_bs σ c) (S_ro (k_B σ c) r) → r = n_row (k_kb σ c) (s_ro (k_B σ c)) (s_ct (k_B σ c)) → iv t σ1 → mr s1 σ1 → mo_at D ca z a n cd s1 H1 → kpm a n H H1 → yy_S z H1 locs → yy_Y b H1 locs (0, 0) 54 [(4, .int (nI (k_bs σ c))), (0, .ref a), (1, .int (nI c)), (2, .int (nI p)), (3, .int y)] [] := by
    intro r σ1 s1 H1 locs hσ hr I1 R1 P1 k1 S1
    have hc1 : c < k_m σ1 := by rw [hσ]; exact hc
    have eB : k_B σ1 c = S_ro (k_B σ c) r := by rw [hσ]; exact k_B_set _ _ _
    have ebs : k_bs σ1 c = k_bs σ c := by rw [hσ]; rfl
    have ekb : k_kb σ1 c = k_kb σ c := by rw [hσ]; rfl
    have est : k_start σ1 c = k_start σ c := by rw [hσ]; exact k_start_set rfl rfl
    have h51 : ¬ k_kb σ1 c = 5 := by rw [ekb]; exact h5
    refine yy_aload_n F d_M_insertAt_54 (n := 55) rfl 1 rfl ?_
    refine yy_iload_n F d_M_insertAt_55 (n := 56) rfl 2 rfl ?_
    refine yy_aload_n F d_M_insertAt_56 (n := 57) rfl 1 rfl ?_
    refine yy_iload_n F d_M_insertAt_57 (n := 58) rfl 2 rfl ?_
    refine yy_cri (w := (nI (k_start σ1 c))) F S1 (c_M_placeIn X I1 R1 hc1) (yy_Bc F X.1 q_942 q_3) (yy_invV (nA := 1) (C := R_M) (bytes := b_M_placeIn) (maxL := 3) (retY := (some .int)) F X.1 q_939 q_941 qs_M_placeIn q_942 ⟨by decide, by decide, by decide +kernel⟩ (yy_recv F.N X.2.1 (ci := 6) rfl P1.o) rfl d_M_insertAt_58) d_M_insertAt_58 (n := 61) rfl (by simp [Value.category]) ⟨by decide, by decide⟩ ⟨Nat.zero_le _, Nat.zero_le _⟩ ⟨rfl, rfl⟩ P1 rfl (fun _ hSw_1 => ?_)
    refine yy_iload_n F d_M_insertAt_61 (n := 62) rfl 3 rfl ?_
    refine yy_iadd F d_M_insertAt_62 (n := 63) rfl ?_
    refine yy_tope (y := (nI (k_start σ1 c + p))) (nI_add _ _) ?_
    refine yy_iload_n F d_M_insertAt_63 (n := 64) rfl 4 rfl ?_
    refine yy_iconst (v := 0) F d_M_insertAt_64 (n := 65) rfl rfl ?_
    have hnu := R1.nu24 I1 hc1 h51
    refine yy_cv F hSw_1 (c_M_putIn (j := k_start σ1 c + p) (x := y) (v := 0) (nu := upd (ym_up (s_nu (k_B σ1 c)) (k_start σ1 c + p) (s_ct (k_B σ1 c))) (k_start σ1 c + p) y) (vl := upd (ym_up (s_vl (k_B σ c)) (k_start σ c + p) (s_ct (k_B σ c))) (k_start σ c + p) 0) X I1 R1 hc1 (by rw [est, eB]; exact hp) (by rw [eB]; exact h24) (fun _ => up_cg hnu) (fun q => absurd q h51) (fun q => absurd q (by rw [ekb]; exact hn))) (yy_Bc F X.1 q_975 q_3) (yy_invV (nA := 4) (C := R_M) (bytes := b_M_putIn) (maxL := 7) (retY := none) F X.1 q_972 q_974 qs_M_putIn q_975 ⟨by decide, by decide, by decide +kernel⟩ (yy_recv F.N X.2.1 (ci := 6) rfl P1.o) rfl d_M_insertAt_65) d_M_insertAt_65 (n := 68) rfl (by simp [Value.category]) ⟨by decide, by decide⟩ ⟨Nat.zero_le _, Nat.zero_le _⟩ ⟨rfl, rfl⟩ P1 (fun Hw_2 locs_w_2 qw_2 Sw_2 => ?_)
    obtain ⟨s3, Q3, P3, k3⟩ := qw_2
    rw [est, eB, hσ, k_thru_ss, hr] at Q3
    exact yy_vret F Sw_2 ⟨Nat.zero_le _, Nat.zero_le _⟩ rfl d_M_insertAt_68 (⟨rfl, s3, Q3, P3, k1.tr k3⟩)
  refine yy_aload_n F d_M_insertAt_0 (n := 1) rfl 0 rfl ?_
  refine yy_get F X.1 X.2.1 g_M_16_M hP.o rfl d_M_insertAt_1 (n := 4) rfl ?_
  refine yy_iload_n F d_M_insertAt_4 (n := 5) rfl 1 rfl ?_
  refine ma_ld (j := 2) (i := c) F X hP (by decide) (show c < 10 by omega) d_M_insertAt_5 (n' := 6) rfl ?_
  refine yy_tope (y := (nI (k_bs σ c))) (R.bs hc) ?_
  refine yy_istore (lv' := [(4, .int (nI (k_bs σ c))), (0, .ref a), (1, .int (nI c)), (2, .int (nI p)), (3, .int y)]) F d_M_insertAt_6 (n := 8) rfl (by decide) rfl ?_
  refine yy_aload_n F d_M_insertAt_8 (n := 9) rfl 1 rfl ?_
  refine yy_get F X.1 X.2.1 g_M_7_M hP.o rfl d_M_insertAt_9 (n := 12) rfl ?_
  refine yy_iload F d_M_insertAt_12 (n := 14) rfl 0 rfl ?_
  refine ma_ld (j := 0) (i := (k_bs σ c)) F X hP (by decide) (show k_bs σ c < 10 by omega) d_M_insertAt_14 (n' := 15) rfl ?_
  refine yy_tope (y := (k_kb σ c)) (R.kd (I.bs hc)) ?_
  refine yy_if_ne (tgt := 54) F d_M_insertAt_15 (n := 18) rfl (by decide) (fun h0 => ?_) (fun h0 => ?_)
  · have hnr : n_row (k_kb σ c) (s_ro (k_B σ c)) (s_ct (k_B σ c)) = s_ro (k_B σ c) := if_neg (by intro q; exact h0 q.1)
    exact yy_sub [0, 1, 2, 3, 4] rfl (fin (s_ro (k_B σ c)) σ s _ _ (k_setS_id σ (k_bs σ c)).symm hnr.symm I R hP kpm.rf hS)
  · refine yy_aload_n F d_M_insertAt_18 (n := 19) rfl 1 rfl ?_
    refine yy_get F X.1 X.2.1 g_M_25_M hP.o rfl d_M_insertAt_19 (n := 22) rfl ?_
    refine yy_iload F d_M_insertAt_22 (n := 24) rfl 0 rfl ?_
    refine ma_ld (j := 5) (i := (k_bs σ c)) F X hP (by decide) (show k_bs σ c < 10 by omega) d_M_insertAt_24 (n' := 25) rfl ?_
    refine yy_tope (y := (nI (s_ct (k_B σ c)))) (R.ct I hc) ?_
    refine yy_aload_n F d_M_insertAt_25 (n := 26) rfl 1 rfl ?_
    refine yy_get F X.1 X.2.1 g_M_31_M hP.o rfl d_M_insertAt_26 (n := 29) rfl ?_
    refine yy_iload F d_M_insertAt_29 (n := 31) rfl 0 rfl ?_
    refine ma_ld (j := 7) (i := (k_bs σ c)) F X hP (by decide) (show k_bs σ c < 10 by omega) d_M_insertAt_31 (n' := 32) rfl ?_
    refine yy_tope (y := (nI (s_ro (k_B σ c)))) (R.ro I hc) ?_
    refine yy_ic_ne (tgt := 54) F d_M_insertAt_32 (n := 35) rfl (by decide) (fun h1 => ?_) (fun h1 => ?_)
    · have hnr : n_row (k_kb σ c) (s_ro (k_B σ c)) (s_ct (k_B σ c)) = s_ro (k_B σ c) := if_neg (by intro q; exact h1 (by rw [show s_ct (k_B σ c) = s_ro (k_B σ c) by have := hro0 h0; have := q.2; omega]))
      exact yy_sub [0, 1, 2, 3, 4] rfl (fin (s_ro (k_B σ c)) σ s _ _ (k_setS_id σ (k_bs σ c)).symm hnr.symm I R hP kpm.rf hS)
    · have e1 : s_ct (k_B σ c) = s_ro (k_B σ c) := (nI_eq (by omega) (by omega)).mp h1
      have hnr : n_row (k_kb σ c) (s_ro (k_B σ c)) (s_ct (k_B σ c)) = s_ro (k_B σ c) + s_ro (k_B σ c) / 2 := if_pos ⟨h0, by omega⟩
      refine yy_aload_n F d_M_insertAt_35 (n := 36) rfl 1 rfl ?_
      refine yy_get F X.1 X.2.1 g_M_31_M hP.o rfl d_M_insertAt_36 (n := 39) rfl ?_
      refine yy_iload F d_M_insertAt_39 (n := 41) rfl 0 rfl ?_
      refine yy_dup2 F d_M_insertAt_41 (n := 42) rfl rfl rfl ?_
      refine ma_ld (j := 7) (i := (k_bs σ c)) F X hP (by decide) (show k_bs σ c < 10 by omega) d_M_insertAt_42 (n' := 43) rfl ?_
      refine yy_tope (y := (nI (s_ro (k_B σ c)))) (R.ro I hc) ?_
      refine yy_aload_n F d_M_insertAt_43 (n := 44) rfl 1 rfl ?_
      refine yy_get F X.1 X.2.1 g_M_31_M hP.o rfl d_M_insertAt_44 (n := 47) rfl ?_
      refine yy_iload F d_M_insertAt_47 (n := 49) rfl 0 rfl ?_
      refine ma_ld (j := 7) (i := (k_bs σ c)) F X hP (by decide) (show k_bs σ c < 10 by omega) d_M_insertAt_49 (n' := 50) rfl ?_
      refine yy_tope (y := (nI (s_ro (k_B σ c)))) (R.ro I hc) ?_
      refine yy_iconst (v := 2) F d_M_insertAt_50 (n := 51) rfl rfl ?_
      refine yy_idiv F d_M_insertAt_51 (n := 52) rfl (by decide) ?_
      refine yy_tope (y := (nI (s_ro (k_B σ c) / 2))) (nI_half (by omega)) ?_
      refine yy_iadd F d_M_insertAt_52 (n := 53) rfl ?_
      refine yy_tope (y := (nI (s_ro (k_B σ c) + s_ro (k_B σ c) / 2))) (nI_add _ _) ?_
      refine ma_st (j := 7) (i := (k_bs σ c)) F X hP hS (by decide) (show k_bs σ c < 10 by omega) d_M_insertAt_53 (n' := 54) rfl (fun Hw_3 locs_w_3 Pw_3 kw_3 Sw_3 => ?_)
      have kw_3 := kpm.rf.tr kw_3
      have R1 : mr (m_set s 7 (k_bs σ c) (nI (s_ro (k_B σ c) + s_ro (k_B σ c) / 2))) (k_setS σ (k_bs σ c) (S_ro (k_B σ c) (s_ro (k_B σ c) + s_ro (k_B σ c) / 2))) := R.ro1 hb (I.bb hc)
      have I1 := I.ro1 (r := s_ro (k_B σ c) + s_ro (k_B σ c) / 2) hb (I.bb hc) (by show s_ro (k_B σ c) ≤ _; omega) (by omega)
      exact yy_sub [0, 1, 2, 3, 4] rfl (fin _ _ (m_set s 7 (k_bs σ c) (nI (s_ro (k_B σ c) + s_ro (k_B σ c) / 2))) _ _ rfl hnr.symm I1 R1 Pw_3 kw_3 Sw_3)
set_option maxRecDepth 100000 in
set_option maxHeartbeats 4000000 in
theorem c_M_freshen {l : Launch} {z : State} {a0 : Array Value} {D : va_G} {ca : kca} (X : kcx l z a0 D ca) {a n : Nat} {cd : Int32} {s : ms} {σ : ks} {t : Nat} (I : iv t σ) (R : mr s σ) {c : Nat} (hc : c < k_m σ) (hk : k_ism (k_kd σ c) = true) {p : Nat} (hp : p < s_ct (k_B σ c)) : yy_M l z y_M_freshen (.code y_M_freshen b_M_freshen 6 none) ({ frames := 0, cells := 0, slots := 0, locals := 0 }) [.ref a, .int (nI c), .int (nI p)] (mo_at D ca z a n cd s) (yy_pv (fun H H1 => ∃ s1 : ms, mr s1 (k_setS σ (k_bs σ c) (S_use (k_kb σ c) (k_B σ c) p (s_nu (k_B σ c) p))) ∧ mo_at D ca z a n cd s1 H1 ∧ kpm a n H H1)) := by
  refine yy_body (plainFor_of_name (by decide)) (Nat.le_of_ble_eq_true rfl) (fun b H F hS hP hH hnm => ?_)
  have h10 := I.m10
  have hb := I.bs hc
  have h24 := I.ct hc
  refine yy_aload_n F d_M_freshen_0 (n := 1) rfl 0 rfl ?_
  refine yy_get F X.1 X.2.1 g_M_7_M hP.o rfl d_M_freshen_1 (n := 4) rfl ?_
  refine yy_iload_n F d_M_freshen_4 (n := 5) rfl 1 rfl ?_
  refine ma_ld (j := 0) (i := c) F X hP (by decide) (show c < 10 by omega) d_M_freshen_5 (n' := 6) rfl ?_
  refine yy_tope (y := (k_kd σ c)) (R.kd hc) ?_
  refine yy_iconst (v := 3) F d_M_freshen_6 (n := 7) rfl rfl ?_
  refine yy_ic_ne (tgt := 22) F d_M_freshen_7 (n := 10) rfl (by decide) (fun h3 => ?_) (fun h3 => ?_)
  · have h6 := k_ism6 hk
    have h33 : ¬ k_kb σ c = 3 := fun q => by
      by_cases h7 : k_kd σ c = 7
      · exact absurd (((I.cc hc).2.2.2.2.1 h7).symm.trans q) (by decide)
      · have e9 := I.b0 hc h6 h7
        rw [k_kb, e9] at q
        exact h3 q
    have hid : S_use (k_kb σ c) (k_B σ c) p (s_nu (k_B σ c) p) = k_B σ c := if_neg (by intro q; exact h33 q.1)
    exact yy_vret F hS ⟨Nat.zero_le _, Nat.zero_le _⟩ rfl d_M_freshen_22 (⟨rfl, s, by rw [hid, k_setS_id]; exact R, hP, kpm.rf⟩)
  · have h6 : ¬ k_kd σ c = 6 := fun q => absurd (h3.symm.trans q) (by decide)
    have h7 : ¬ k_kd σ c = 7 := fun q => absurd (h3.symm.trans q) (by decide)
    have ebc := I.b0 hc h6 h7
    have hk3 : k_kb σ c = 3 := by rw [k_kb, ebc]; exact h3
    have h5 : ¬ k_kb σ c = 5 := fun q => absurd (hk3.symm.trans q) (by decide)
    have hv : k_kb σ c = 2 ∨ k_kb σ c = 3 ∨ k_kb σ c = 4 := Or.inr (Or.inl hk3)
    have hct : s.2 5 c = nI (s_ct (k_B σ c)) := by have h9 := R.ct I hc; rw [ebc] at h9; exact h9
    have hcg : s.2 6 c = nI (s_ch (k_B σ c)) := by have h9 := R.ch I hc; rw [ebc] at h9; exact h9
    have hnu : ∀ i, i < 24 → s.2 3 (24 * c + i) = s_nu (k_B σ c) i := fun i hi => by have h9 := R.nu I hc h5 hi; rw [ebc] at h9; exact h9
    have hvl : ∀ i, i < 24 → s.2 4 (24 * c + i) = s_vl (k_B σ c) i := fun i hi => by have h9 := R.vl I hc hv hi; rw [ebc] at h9; exact h9
    refine yy_iload_n F d_M_freshen_10 (n := 11) rfl 2 rfl ?_
    refine yy_aload_n F d_M_freshen_11 (n := 12) rfl 0 rfl ?_
    refine yy_get F X.1 X.2.1 g_M_25_M hP.o rfl d_M_freshen_12 (n := 15) rfl ?_
    refine yy_iload_n F d_M_freshen_15 (n := 16) rfl 1 rfl ?_
    refine ma_ld (j := 5) (i := c) F X hP (by decide) (show c < 10 by omega) d_M_freshen_16 (n' := 17) rfl ?_
    refine yy_tope (y := (nI (s_ct (k_B σ c)))) (by have h9 := R.ct I hc; rw [I.b0 hc h6 h7] at h9; exact h9) ?_
    refine yy_iconst (v := 1) F d_M_freshen_17 (n := 18) rfl rfl ?_
    refine yy_isub F d_M_freshen_18 (n := 19) rfl ?_
    refine yy_tope (y := (nI (s_ct (k_B σ c) - 1))) (ym_sub1 (by omega)) ?_
    refine yy_ic_ne (tgt := 23) F d_M_freshen_19 (n := 22) rfl (by decide) (fun h4 => ?_) (fun h4 => ?_)
    · have hne : ¬ p = s_ct (k_B σ c) - 1 := fun q => h4 (by rw [q])
      have hpl : p + 1 < s_ct (k_B σ c) := by omega
      refine yy_aload_n F d_M_freshen_23 (n := 24) rfl 0 rfl ?_
      refine yy_get F X.1 X.2.1 g_M_19_M hP.o rfl d_M_freshen_24 (n := 27) rfl ?_
      refine yy_bipush (v := 24) F d_M_freshen_27 (n := 29) rfl rfl ?_
      refine yy_iload_n F d_M_freshen_29 (n := 30) rfl 1 rfl ?_
      refine yy_imul F d_M_freshen_30 (n := 31) rfl ?_
      refine yy_tope (y := (nI (24 * c))) (pk_mul 24 _) ?_
      refine yy_iload_n F d_M_freshen_31 (n := 32) rfl 2 rfl ?_
      refine yy_iadd F d_M_freshen_32 (n := 33) rfl ?_
      refine yy_tope (y := (nI (24 * c + p))) (nI_add _ _) ?_
      refine ma_ld (j := 3) (i := (24 * c + p)) F X hP (by decide) (show 24 * c + p < 240 by omega) d_M_freshen_33 (n' := 34) rfl ?_
      refine yy_tope (y := (s_nu (k_B σ c) p)) (hnu p (by omega)) ?_
      refine yy_istore_n (lv' := [(3, .int (s_nu (k_B σ c) p)), (0, .ref a), (1, .int (nI c)), (2, .int (nI p))]) F d_M_freshen_34 (n := 35) rfl (by decide) rfl ?_
      refine yy_aload_n F d_M_freshen_35 (n := 36) rfl 1 rfl ?_
      refine yy_get F X.1 X.2.1 g_M_22_M hP.o rfl d_M_freshen_36 (n := 39) rfl ?_
      refine yy_bipush (v := 24) F d_M_freshen_39 (n := 41) rfl rfl ?_
      refine yy_iload_n F d_M_freshen_41 (n := 42) rfl 2 rfl ?_
      refine yy_imul F d_M_freshen_42 (n := 43) rfl ?_
      refine yy_tope (y := (nI (24 * c))) (pk_mul 24 _) ?_
      refine yy_iload_n F d_M_freshen_43 (n := 44) rfl 3 rfl ?_
      refine yy_iadd F d_M_freshen_44 (n := 45) rfl ?_
      refine yy_tope (y := (nI (24 * c + p))) (nI_add _ _) ?_
      refine ma_ld (j := 4) (i := (24 * c + p)) F X hP (by decide) (show 24 * c + p < 240 by omega) d_M_freshen_45 (n' := 46) rfl ?_
      refine yy_tope (y := (s_vl (k_B σ c) p)) (hvl p (by omega)) ?_
      refine yy_istore (lv' := [(4, .int (s_vl (k_B σ c) p)), (3, .int (s_nu (k_B σ c) p)), (0, .ref a), (1, .int (nI c)), (2, .int (nI p))]) F d_M_freshen_46 (n := 48) rfl (by decide) rfl ?_
      refine yy_bipush (v := 24) F d_M_freshen_48 (n := 50) rfl rfl ?_
      refine yy_iload_n F d_M_freshen_50 (n := 51) rfl 3 rfl ?_
      refine yy_imul F d_M_freshen_51 (n := 52) rfl ?_
      refine yy_tope (y := (nI (24 * c))) (pk_mul 24 _) ?_
      refine yy_iload_n F d_M_freshen_52 (n := 53) rfl 4 rfl ?_
      refine yy_iadd F d_M_freshen_53 (n := 54) rfl ?_
      refine yy_tope (y := (nI (24 * c + p))) (nI_add _ _) ?_
      refine yy_istore (lv' := [(5, .int (nI (24 * c + p))), (4, .int (s_vl (k_B σ c) p)), (3, .int (s_nu (k_B σ c) p)), (0, .ref a), (1, .int (nI c)), (2, .int (nI p))]) F d_M_freshen_54 (n := 56) rfl (by decide) rfl ?_
      have loop : ∀ (d i : Nat) (s1 : ms) (H1 : Heap) (locs : List Loc), i + d = s_ct (k_B σ c) - 1 → p ≤ i → s1.1 = s.1 ∧ (∀ q, q ≠ 3 → q ≠ 4 → s1.2 q = s.2 q) ∧ s1.2 3 = ym_sh (s.2 3) (24 * c + p) (24 * c + i) ∧ s1.2 4 = ym_sh (s.2 4) (24 * c + p) (24 * c + i) → mo_at D ca z a n cd s1 H1 → kpm a n H H1 → yy_S z H1 locs → yy_Y b H1 locs (0, 0) 56 [(5, .int (nI (24 * c + i))), (4, .int (s_vl (k_B σ c) p)), (3, .int (s_nu (k_B σ c) p)), (0, .ref a), (1, .int (nI c)), (2, .int (nI p))] [] := by
        intro d
        induction d with
        | zero =>
          intro i s1 H1 locs hd hji A1 P1 k1 S1
          have d5 : s1.2 5 c = nI (s_ct (k_B σ c)) := by rw [A1.2.1 5 (by decide) (by decide)]; exact hct
          have d6 : s1.2 6 c = nI (s_ch (k_B σ c)) := by rw [A1.2.1 6 (by decide) (by decide)]; exact hcg
          have hsb : nI (24 * c + s_ct (k_B σ c)) - 1 = nI (24 * c + (s_ct (k_B σ c) - 1)) := by rw [ym_sub1 (by omega), show 24 * c + s_ct (k_B σ c) - 1 = 24 * c + (s_ct (k_B σ c) - 1) by omega]
          refine yy_iload F d_M_freshen_56 (n := 58) rfl 0 rfl ?_
          refine yy_bipush (v := 24) F d_M_freshen_58 (n := 60) rfl rfl ?_
          refine yy_iload_n F d_M_freshen_60 (n := 61) rfl 4 rfl ?_
          refine yy_imul F d_M_freshen_61 (n := 62) rfl ?_
          refine yy_tope (y := (nI (24 * c))) (pk_mul 24 _) ?_
          refine yy_aload_n F d_M_freshen_62 (n := 63) rfl 3 rfl ?_
          refine yy_get F X.1 X.2.1 g_M_25_M P1.o rfl d_M_freshen_63 (n := 66) rfl ?_
          refine yy_iload_n F d_M_freshen_66 (n := 67) rfl 4 rfl ?_
          refine ma_ld (j := 5) (i := c) F X P1 (by decide) (show c < 10 by omega) d_M_freshen_67 (n' := 68) rfl ?_
          refine yy_tope (y := (nI (s_ct (k_B σ c)))) d5 ?_
          refine yy_iadd F d_M_freshen_68 (n := 69) rfl ?_
          refine yy_tope (y := (nI (24 * c + s_ct (k_B σ c)))) (nI_add _ _) ?_
          refine yy_iconst (v := 1) F d_M_freshen_69 (n := 70) rfl rfl ?_
          refine yy_isub F d_M_freshen_70 (n := 71) rfl ?_
          refine yy_tope (y := (nI (24 * c + (s_ct (k_B σ c) - 1)))) hsb ?_
          refine yy_ic_ge_t (tgt := 112) F d_M_freshen_71 (by decide) (nI_le (by omega) (by omega)) ?_
          refine yy_aload_n F d_M_freshen_112 (n := 113) rfl 3 rfl ?_
          refine yy_get F X.1 X.2.1 g_M_19_M P1.o rfl d_M_freshen_113 (n := 116) rfl ?_
          refine yy_bipush (v := 24) F d_M_freshen_116 (n := 118) rfl rfl ?_
          refine yy_iload_n F d_M_freshen_118 (n := 119) rfl 4 rfl ?_
          refine yy_imul F d_M_freshen_119 (n := 120) rfl ?_
          refine yy_tope (y := (nI (24 * c))) (pk_mul 24 _) ?_
          refine yy_aload_n F d_M_freshen_120 (n := 121) rfl 3 rfl ?_
          refine yy_get F X.1 X.2.1 g_M_25_M P1.o rfl d_M_freshen_121 (n := 124) rfl ?_
          refine yy_iload_n F d_M_freshen_124 (n := 125) rfl 4 rfl ?_
          refine ma_ld (j := 5) (i := c) F X P1 (by decide) (show c < 10 by omega) d_M_freshen_125 (n' := 126) rfl ?_
          refine yy_tope (y := (nI (s_ct (k_B σ c)))) d5 ?_
          refine yy_iadd F d_M_freshen_126 (n := 127) rfl ?_
          refine yy_tope (y := (nI (24 * c + s_ct (k_B σ c)))) (nI_add _ _) ?_
          refine yy_iconst (v := 1) F d_M_freshen_127 (n := 128) rfl rfl ?_
          refine yy_isub F d_M_freshen_128 (n := 129) rfl ?_
          refine yy_tope (y := (nI (24 * c + (s_ct (k_B σ c) - 1)))) hsb ?_
          refine yy_iload_n F d_M_freshen_129 (n := 130) rfl 2 rfl ?_
          refine ma_st (j := 3) (i := (24 * c + (s_ct (k_B σ c) - 1))) F X P1 S1 (by decide) (show 24 * c + (s_ct (k_B σ c) - 1) < 240 by omega) d_M_freshen_130 (n' := 131) rfl (fun Hw_1 locs_w_1 Pw_1 kw_1 Sw_1 => ?_)
          have kw_1 := k1.tr kw_1
          refine yy_aload_n F d_M_freshen_131 (n := 132) rfl 3 rfl ?_
          refine yy_get F X.1 X.2.1 g_M_22_M Pw_1.o rfl d_M_freshen_132 (n := 135) rfl ?_
          refine yy_bipush (v := 24) F d_M_freshen_135 (n := 137) rfl rfl ?_
          refine yy_iload_n F d_M_freshen_137 (n := 138) rfl 4 rfl ?_
          refine yy_imul F d_M_freshen_138 (n := 139) rfl ?_
          refine yy_tope (y := (nI (24 * c))) (pk_mul 24 _) ?_
          refine yy_aload_n F d_M_freshen_139 (n := 140) rfl 3 rfl ?_
          refine yy_get F X.1 X.2.1 g_M_25_M Pw_1.o rfl d_M_freshen_140 (n := 143) rfl ?_
          refine yy_iload_n F d_M_freshen_143 (n := 144) rfl 4 rfl ?_
          refine ma_ld (j := 5) (i := c) F X Pw_1 (by decide) (show c < 10 by omega) d_M_freshen_144 (n' := 145) rfl ?_
          refine yy_tope (y := (nI (s_ct (k_B σ c)))) d5 ?_
          refine yy_iadd F d_M_freshen_145 (n := 146) rfl ?_
          refine yy_tope (y := (nI (24 * c + s_ct (k_B σ c)))) (nI_add _ _) ?_
          refine yy_iconst (v := 1) F d_M_freshen_146 (n := 147) rfl rfl ?_
          refine yy_isub F d_M_freshen_147 (n := 148) rfl ?_
          refine yy_tope (y := (nI (24 * c + (s_ct (k_B σ c) - 1)))) hsb ?_
          refine yy_iload F d_M_freshen_148 (n := 150) rfl 1 rfl ?_
          refine ma_st (j := 4) (i := (24 * c + (s_ct (k_B σ c) - 1))) F X Pw_1 Sw_1 (by decide) (show 24 * c + (s_ct (k_B σ c) - 1) < 240 by omega) d_M_freshen_150 (n' := 151) rfl (fun Hw_2 locs_w_2 Pw_2 kw_2 Sw_2 => ?_)
          have kw_2 := kw_1.tr kw_2
          refine yy_aload_n F d_M_freshen_151 (n := 152) rfl 3 rfl ?_
          refine yy_get F X.1 X.2.1 g_M_28_M Pw_2.o rfl d_M_freshen_152 (n := 155) rfl ?_
          refine yy_iload_n F d_M_freshen_155 (n := 156) rfl 4 rfl ?_
          refine yy_dup2 F d_M_freshen_156 (n := 157) rfl rfl rfl ?_
          refine ma_ld (j := 6) (i := c) F X Pw_2 (by decide) (show c < 10 by omega) d_M_freshen_157 (n' := 158) rfl ?_
          refine yy_tope (y := (nI (s_ch (k_B σ c)))) d6 ?_
          refine yy_iconst (v := 1) F d_M_freshen_158 (n := 159) rfl rfl ?_
          refine yy_iadd F d_M_freshen_159 (n := 160) rfl ?_
          refine yy_tope (y := (nI (s_ch (k_B σ c) + 1))) (nI_1 _) ?_
          refine ma_st (j := 6) (i := c) F X Pw_2 Sw_2 (by decide) (show c < 10 by omega) d_M_freshen_160 (n' := 161) rfl (fun Hw_3 locs_w_3 Pw_3 kw_3 Sw_3 => ?_)
          have kw_3 := kw_2.tr kw_3
          rw [show i = s_ct (k_B σ c) - 1 by omega] at A1
          have f3 : (m_set (m_set (m_set s1 3 (24 * c + (s_ct (k_B σ c) - 1)) (s_nu (k_B σ c) p)) 4 (24 * c + (s_ct (k_B σ c) - 1)) (s_vl (k_B σ c) p)) 6 c (nI (s_ch (k_B σ c) + 1))).2 3 = upd (ym_sh (s.2 3) (24 * c + p) (24 * c + (s_ct (k_B σ c) - 1))) (24 * c + (s_ct (k_B σ c) - 1)) (s_nu (k_B σ c) p) := by
            show upd (s1.2 3) _ _ = _
            rw [A1.2.2.1]
          have f4 : (m_set (m_set (m_set s1 3 (24 * c + (s_ct (k_B σ c) - 1)) (s_nu (k_B σ c) p)) 4 (24 * c + (s_ct (k_B σ c) - 1)) (s_vl (k_B σ c) p)) 6 c (nI (s_ch (k_B σ c) + 1))).2 4 = upd (ym_sh (s.2 4) (24 * c + p) (24 * c + (s_ct (k_B σ c) - 1))) (24 * c + (s_ct (k_B σ c) - 1)) (s_vl (k_B σ c) p) := by
            show upd (s1.2 4) _ _ = _
            rw [A1.2.2.2]
          have g3 : ∀ q, q < 24 → (m_set (m_set (m_set s1 3 (24 * c + (s_ct (k_B σ c) - 1)) (s_nu (k_B σ c) p)) 4 (24 * c + (s_ct (k_B σ c) - 1)) (s_vl (k_B σ c) p)) 6 c (nI (s_ch (k_B σ c) + 1))).2 3 (24 * c + q) = upd (ym_sh (s_nu (k_B σ c)) p (s_ct (k_B σ c) - 1)) (s_ct (k_B σ c) - 1) (s_nu (k_B σ c) p) q := fun q hq => by
            rw [f3, upd_in]
            unfold upd
            split
            · rfl
            · exact (sh_in _ _ _ _ q).trans (sh_cg (by omega) hnu q hq)
          have g4 : ∀ q, q < 24 → (m_set (m_set (m_set s1 3 (24 * c + (s_ct (k_B σ c) - 1)) (s_nu (k_B σ c) p)) 4 (24 * c + (s_ct (k_B σ c) - 1)) (s_vl (k_B σ c) p)) 6 c (nI (s_ch (k_B σ c) + 1))).2 4 (24 * c + q) = upd (ym_sh (s_vl (k_B σ c)) p (s_ct (k_B σ c) - 1)) (s_ct (k_B σ c) - 1) (s_vl (k_B σ c) p) q := fun q hq => by
            rw [f4, upd_in]
            unfold upd
            split
            · rfl
            · exact (sh_in _ _ _ _ q).trans (sh_cg (by omega) hvl q hq)
          have hU : S_use (k_kb σ c) (k_B σ c) p (s_nu (k_B σ c) p) = (s_ct (k_B σ c), s_ch (k_B σ c) + 1, s_ro (k_B σ c), upd (ym_sh (s_nu (k_B σ c)) p (s_ct (k_B σ c) - 1)) (s_ct (k_B σ c) - 1) (s_nu (k_B σ c) p), upd (ym_sh (s_vl (k_B σ c)) p (s_ct (k_B σ c) - 1)) (s_ct (k_B σ c) - 1) (s_vl (k_B σ c) p)) := if_pos ⟨hk3, hpl⟩
          have hR := R.ss I hc
          have R2 : mr (m_set (m_set (m_set s1 3 (24 * c + (s_ct (k_B σ c) - 1)) (s_nu (k_B σ c) p)) 4 (24 * c + (s_ct (k_B σ c) - 1)) (s_vl (k_B σ c) p)) 6 c (nI (s_ch (k_B σ c) + 1))) (k_setS σ (k_bs σ c) (S_use (k_kb σ c) (k_B σ c) p (s_nu (k_B σ c) p))) := by
            rw [hU]
            rw [ebc] at hR ⊢
            refine R.setS (b := c) hc ⟨A1.1, fun q9 hq9 => ?_, fun q9 i hi hq9 => ?_, fun q9 i hi hq9 => ?_⟩ ⟨⟨?_, ?_, ?_⟩, fun h q hq9 => ?_, fun h => ?_, fun h q hq9 => ?_⟩
            · show up1 (up1 (up1 s1.2 3 _) 4 _) 6 _ q9 = _
              rw [up1_o _ _ (by omega), up1_o _ _ (by omega), up1_o _ _ (by omega)]
              exact A1.2.1 q9 (by omega) (by omega)
            · rcases hq9 with rfl | rfl | rfl
              · show s1.2 5 i = _
                rw [A1.2.1 5 (by decide) (by decide)]
              · show upd (s1.2 6) c _ i = _
                rw [upd_o _ _ hi, A1.2.1 6 (by decide) (by decide)]
              · show s1.2 7 i = _
                rw [A1.2.1 7 (by decide) (by decide)]
            · rcases hq9 with rfl | rfl
              · rw [f3, upd_out _ (by omega) hi, sh_out _ (by omega) hi]
              · rw [f4, upd_out _ (by omega) hi, sh_out _ (by omega) hi]
            · show s1.2 5 c = _
              exact d5
            · show upd (s1.2 6) c _ c = _
              rw [upd_s]
            · show s1.2 7 c = _
              rw [A1.2.1 7 (by decide) (by decide)]
              exact hR.1.2.2
            · exact g3 q hq9
            · exact absurd (h3.symm.trans h) (by decide)
            · exact g4 q hq9
          exact yy_vret F Sw_3 ⟨Nat.zero_le _, Nat.zero_le _⟩ rfl d_M_freshen_161 (⟨rfl, _, R2, Pw_3, kw_3⟩)
        | succ d ih =>
          intro i s1 H1 locs hd hji A1 P1 k1 S1
          have d5 : s1.2 5 c = nI (s_ct (k_B σ c)) := by rw [A1.2.1 5 (by decide) (by decide)]; exact hct
          have d6 : s1.2 6 c = nI (s_ch (k_B σ c)) := by rw [A1.2.1 6 (by decide) (by decide)]; exact hcg
          have hsb : nI (24 * c + s_ct (k_B σ c)) - 1 = nI (24 * c + (s_ct (k_B σ c) - 1)) := by rw [ym_sub1 (by omega), show 24 * c + s_ct (k_B σ c) - 1 = 24 * c + (s_ct (k_B σ c) - 1) by omega]
          refine yy_iload F d_M_freshen_56 (n := 58) rfl 0 rfl ?_
          refine yy_bipush (v := 24) F d_M_freshen_58 (n := 60) rfl rfl ?_
          refine yy_iload_n F d_M_freshen_60 (n := 61) rfl 4 rfl ?_
          refine yy_imul F d_M_freshen_61 (n := 62) rfl ?_
          refine yy_tope (y := (nI (24 * c))) (pk_mul 24 _) ?_
          refine yy_aload_n F d_M_freshen_62 (n := 63) rfl 3 rfl ?_
          refine yy_get F X.1 X.2.1 g_M_25_M P1.o rfl d_M_freshen_63 (n := 66) rfl ?_
          refine yy_iload_n F d_M_freshen_66 (n := 67) rfl 4 rfl ?_
          refine ma_ld (j := 5) (i := c) F X P1 (by decide) (show c < 10 by omega) d_M_freshen_67 (n' := 68) rfl ?_
          refine yy_tope (y := (nI (s_ct (k_B σ c)))) d5 ?_
          refine yy_iadd F d_M_freshen_68 (n := 69) rfl ?_
          refine yy_tope (y := (nI (24 * c + s_ct (k_B σ c)))) (nI_add _ _) ?_
          refine yy_iconst (v := 1) F d_M_freshen_69 (n := 70) rfl rfl ?_
          refine yy_isub F d_M_freshen_70 (n := 71) rfl ?_
          refine yy_tope (y := (nI (24 * c + (s_ct (k_B σ c) - 1)))) hsb ?_
          refine yy_ic_ge_f (tgt := 112) F d_M_freshen_71 (n := 74) rfl (by decide) (nI_ge (by omega) (by omega)) ?_
          refine yy_aload_n F d_M_freshen_74 (n := 75) rfl 3 rfl ?_
          refine yy_get F X.1 X.2.1 g_M_19_M P1.o rfl d_M_freshen_75 (n := 78) rfl ?_
          refine yy_iload F d_M_freshen_78 (n := 80) rfl 0 rfl ?_
          refine yy_aload_n F d_M_freshen_80 (n := 81) rfl 3 rfl ?_
          refine yy_get F X.1 X.2.1 g_M_19_M P1.o rfl d_M_freshen_81 (n := 84) rfl ?_
          refine yy_iload F d_M_freshen_84 (n := 86) rfl 0 rfl ?_
          refine yy_iconst (v := 1) F d_M_freshen_86 (n := 87) rfl rfl ?_
          refine yy_iadd F d_M_freshen_87 (n := 88) rfl ?_
          refine yy_tope (y := (nI (24 * c + i + 1))) (nI_1 _) ?_
          refine ma_ld (j := 3) (i := (24 * c + i + 1)) F X P1 (by decide) (show 24 * c + i + 1 < 240 by omega) d_M_freshen_88 (n' := 89) rfl ?_
          refine ma_st (j := 3) (i := (24 * c + i)) F X P1 S1 (by decide) (show 24 * c + i < 240 by omega) d_M_freshen_89 (n' := 90) rfl (fun Hw_4 locs_w_4 Pw_4 kw_4 Sw_4 => ?_)
          have kw_4 := k1.tr kw_4
          refine yy_aload_n F d_M_freshen_90 (n := 91) rfl 3 rfl ?_
          refine yy_get F X.1 X.2.1 g_M_22_M Pw_4.o rfl d_M_freshen_91 (n := 94) rfl ?_
          refine yy_iload F d_M_freshen_94 (n := 96) rfl 0 rfl ?_
          refine yy_aload_n F d_M_freshen_96 (n := 97) rfl 3 rfl ?_
          refine yy_get F X.1 X.2.1 g_M_22_M Pw_4.o rfl d_M_freshen_97 (n := 100) rfl ?_
          refine yy_iload F d_M_freshen_100 (n := 102) rfl 0 rfl ?_
          refine yy_iconst (v := 1) F d_M_freshen_102 (n := 103) rfl rfl ?_
          refine yy_iadd F d_M_freshen_103 (n := 104) rfl ?_
          refine yy_tope (y := (nI (24 * c + i + 1))) (nI_1 _) ?_
          refine ma_ld (j := 4) (i := (24 * c + i + 1)) F X Pw_4 (by decide) (show 24 * c + i + 1 < 240 by omega) d_M_freshen_104 (n' := 105) rfl ?_
          refine ma_st (j := 4) (i := (24 * c + i)) F X Pw_4 Sw_4 (by decide) (show 24 * c + i < 240 by omega) d_M_freshen_105 (n' := 106) rfl (fun Hw_5 locs_w_5 Pw_5 kw_5 Sw_5 => ?_)
          have kw_5 := kw_4.tr kw_5
          refine yy_iinc (v := nI ((24 * c + i) + 1)) (lv' := [(5, .int (nI ((24 * c + i) + 1))), (4, .int (s_vl (k_B σ c) p)), (3, .int (s_nu (k_B σ c) p)), (0, .ref a), (1, .int (nI c)), (2, .int (nI p))]) F d_M_freshen_106 (n := 109) rfl 0 rfl (nI_1 _) (by decide) rfl ?_
          refine yy_goto (tgt := 56) F d_M_freshen_109 (by decide) ?_
          refine yy_sub [0, 1, 2, 3, 4, 5] rfl (ih (i + 1) (m_set (m_set s1 3 (24 * c + i) (s1.2 3 (24 * c + i + 1))) 4 (24 * c + i) ((m_set s1 3 (24 * c + i) (s1.2 3 (24 * c + i + 1))).2 4 (24 * c + i + 1))) _ _ (by omega) (by omega) ⟨A1.1, fun q h3 h4 => ?_, ?_, ?_⟩ Pw_5 kw_5 Sw_5)
          · show up1 (up1 s1.2 3 _) 4 _ q = _
            rw [up1_o _ _ h4, up1_o _ _ h3]
            exact A1.2.1 q h3 h4
          · show upd (s1.2 3) _ (s1.2 3 _) = _
            rw [A1.2.2.1]
            exact ym_sh_s _ (by omega)
          · show upd (s1.2 4) _ (s1.2 4 _) = _
            rw [A1.2.2.2]
            exact ym_sh_s _ (by omega)
      exact yy_sub [0, 1, 2, 3, 4, 5] rfl (loop (s_ct (k_B σ c) - 1 - p) p s _ _ (by omega) (Nat.le_refl _) ⟨rfl, fun _ _ _ => rfl, by rw [ym_sh_0], by rw [ym_sh_0]⟩ hP kpm.rf hS)
    · have hpe : p = s_ct (k_B σ c) - 1 := (nI_eq (by omega) (by omega)).mp h4
      have hid : S_use (k_kb σ c) (k_B σ c) p (s_nu (k_B σ c) p) = k_B σ c := if_neg (by intro q; have := q.2; omega)
      exact yy_vret F hS ⟨Nat.zero_le _, Nat.zero_le _⟩ rfl d_M_freshen_22 (⟨rfl, s, by rw [hid, k_setS_id]; exact R, hP, kpm.rf⟩)
set_option maxRecDepth 100000 in
set_option maxHeartbeats 4000000 in
theorem c_M_add {l : Launch} {z : State} {a0 : Array Value} {D : va_G} {ca : kca} (X : kcx l z a0 D ca) {a n : Nat} {cd : Int32} {s : ms} {σ : ks} {t : Nat} (I : iv t σ) (R : mr s σ) {c : Nat} (hc : c < k_m σ) (ht : t + 1 ≤ 100000) (hk : k_ism (k_kd σ c) = true) {key v : Int32} (h24 : s_ct (k_B σ c) < 24) : yy_M l z y_M_add (.code y_M_add b_M_add 6 none) ({ frames := 2, cells := 0, slots := 0, locals := 50 }) [.ref a, .int (nI c), .int key, .int v] (mo_at D ca z a n cd s) (yy_pv (fun H H1 => ∃ s1 : ms, mr s1 (k_setS σ (k_bs σ c) (S_key (k_kb σ c) (k_B σ c) key v)) ∧ mo_at D ca z a n cd s1 H1 ∧ kpm a n H H1)) := by
  refine yy_body (plainFor_of_name (by decide)) (Nat.le_of_ble_eq_true rfl) (fun b H F hS hP hH hnm => ?_)
  have h10 := I.m10
  have h6 := k_ism6 hk
  have hv := I.mapb hc hk
  have h5 : ¬ k_kb σ c = 5 := fun q => by rw [q] at hv; exact absurd hv (by decide)
  have hb := I.bs hc
  have hbb := I.bb hc
  have hro := (I.s hc).2.2.1
  have fin : ∀ (locs : List Loc), yy_S z H locs → yy_Y b H locs (0, 0) 66 [(5, .int (nI (ym_pl (k_kb σ c) (s_nu (k_B σ c)) key (s_ct (k_B σ c))))), (4, .int (nI (k_bs σ c))), (0, .ref a), (1, .int (nI c)), (2, .int key), (3, .int v)] [] := by
    intro locs S1
    have hpl := ym_pl_le (k_kb σ c) (s_nu (k_B σ c)) key (s_ct (k_B σ c))
    refine yy_aload_n F d_M_add_66 (n := 67) rfl 2 rfl ?_
    refine yy_iload_n F d_M_add_67 (n := 68) rfl 3 rfl ?_
    refine yy_iload F d_M_add_68 (n := 70) rfl 0 rfl ?_
    refine yy_iload_n F d_M_add_70 (n := 71) rfl 4 rfl ?_
    refine yy_iload_n F d_M_add_71 (n := 72) rfl 5 rfl ?_
    refine yy_cv F S1 (c_M_putIn (j := ym_pl (k_kb σ c) (s_nu (k_B σ c)) key (s_ct (k_B σ c))) (x := key) (v := v) (nu := ym_ad (s_nu (k_B σ c)) (ym_pl (k_kb σ c) (s_nu (k_B σ c)) key (s_ct (k_B σ c))) (s_ct (k_B σ c)) key) (vl := ym_ad (s_vl (k_B σ c)) (ym_pl (k_kb σ c) (s_nu (k_B σ c)) key (s_ct (k_B σ c))) (s_ct (k_B σ c)) v) X I R hc hpl h24 (fun _ => up_cg (R.nu24 I hc h5)) (fun q => absurd q h5) (fun q => up_cg (R.vl24 I hc hv))) (yy_Bc F X.1 q_975 q_3) (yy_invV (nA := 4) (C := R_M) (bytes := b_M_putIn) (maxL := 7) (retY := none) F X.1 q_972 q_974 qs_M_putIn q_975 ⟨by decide, by decide, by decide +kernel⟩ (yy_recv F.N X.2.1 (ci := 6) rfl hP.o) rfl d_M_add_72) d_M_add_72 (n := 75) rfl (by simp [Value.category]) ⟨by decide, by decide⟩ ⟨Nat.zero_le _, Nat.zero_le _⟩ ⟨rfl, rfl⟩ hP (fun Hw_1 locs_w_1 qw_1 Sw_1 => ?_)
    obtain ⟨s1, Q1, P1, k1⟩ := qw_1
    have k1 := kpm.rf.tr k1
    rw [k_thru_0 h6] at Q1
    obtain ⟨σ1, hσ⟩ : ∃ σ1 : ks, σ1 = k_setS σ (k_bs σ c) (S_add (k_kb σ c) (k_B σ c) key v) := ⟨_, rfl⟩
    have R1 : mr s1 σ1 := by rw [hσ]; exact Q1
    have I1 : iv (t + 1) σ1 := by rw [hσ]; exact I.setM hc h6 ht (Nat.le_succ _) ((I.s hc).add hv h24) (Nat.lt_succ_self _)
    have hb1 : k_bs σ c < k_m σ1 := by rw [hσ]; exact hb
    have ebb : k_bs σ1 (k_bs σ c) = k_bs σ c := by rw [hσ]; exact hbb
    have eB : k_B σ1 (k_bs σ c) = S_add (k_kb σ c) (k_B σ c) key v := by
      show σ1.2.2.1 (k_bs σ1 (k_bs σ c)) = _
      rw [ebb, hσ]
      exact up1_s _ _ _
    have ekd : k_kd σ1 (k_bs σ c) = k_kb σ c := by rw [hσ]; rfl
    have hct1 : s1.2 5 (k_bs σ c) = nI (s_ct (k_B σ c) + 1) := by
      have h9 := R1.ct I1 hb1
      rw [ebb, eB] at h9
      exact h9
    have hro1 : s1.2 7 (k_bs σ c) = nI (s_ro (k_B σ c)) := by
      have h9 := R1.ro I1 hb1
      rw [ebb, eB] at h9
      exact h9
    refine yy_aload_n F d_M_add_75 (n := 76) rfl 2 rfl ?_
    refine yy_iload F d_M_add_76 (n := 78) rfl 1 rfl ?_
    refine yy_cri (w := (ym_n (k_ish (k_kb σ c)))) F Sw_1 (c_M_hashes (c := k_bs σ c) X I1 R1 hb1) (yy_Bc F X.1 q_1029 q_3) (yy_invV (nA := 1) (C := R_M) (bytes := b_M_hashes) (maxL := 2) (retY := (some .boolean)) F X.1 q_1026 q_1028 qs_M_hashes q_1029 ⟨by decide, by decide, by decide +kernel⟩ (yy_recv F.N X.2.1 (ci := 6) rfl P1.o) rfl d_M_add_78) d_M_add_78 (n := 81) rfl (by simp [Value.category]) ⟨by decide, by decide⟩ ⟨Nat.zero_le _, Nat.zero_le _⟩ ⟨rfl, rfl⟩ P1 (by rw [ekd]) (fun _ hSw_2 => ?_)
    cases hh : k_ish (k_kb σ c)
    · refine yy_if_ne_f (tgt := 85) F d_M_add_81 (n := 84) rfl (by decide) rfl ?_
      have hS : S_key (k_kb σ c) (k_B σ c) key v = S_add (k_kb σ c) (k_B σ c) key v := by
        have a1 : ¬ (k_kb σ c = 3 ∧ 7 ≤ s_ct (k_B σ c) + 1) := fun q => by rw [q.1] at hh; exact absurd hh (by decide)
        have a2 : ¬ ((k_kb σ c = 2 ∨ k_kb σ c = 3) ∧ 3 * s_ro (k_B σ c) < 4 * (s_ct (k_B σ c) + 1)) := fun q => by rcases q.1 with q | q <;> (rw [q] at hh; exact absurd hh (by decide))
        unfold S_key S_new n_bkt
        rw [if_neg a1, if_neg a2]
        rfl
      exact yy_vret F hSw_2 ⟨Nat.zero_le _, Nat.zero_le _⟩ rfl d_M_add_84 (⟨rfl, s1, by rw [hS, ← hσ]; exact R1, P1, k1⟩)
    · refine yy_if_ne_t (tgt := 85) F d_M_add_81 (by decide) (by decide) ?_
      have hk23 : k_kb σ c = 2 ∨ k_kb σ c = 3 := by simpa [k_ish] using hh
      have rest : ∀ (r : Nat) (s2 : ms) (H2 : Heap) (locs : List Loc), r = n_bkt (k_kb σ c) (s_ro (k_B σ c)) (s_ct (k_B σ c) + 1) → mr s2 (k_setS σ (k_bs σ c) (S_ro (S_add (k_kb σ c) (k_B σ c) key v) r)) → mo_at D ca z a n cd s2 H2 → kpm a n H H2 → yy_S z H2 locs → yy_Y b H2 locs (0, 0) 117 [(5, .int (nI (ym_pl (k_kb σ c) (s_nu (k_B σ c)) key (s_ct (k_B σ c))))), (4, .int (nI (k_bs σ c))), (0, .ref a), (1, .int (nI c)), (2, .int key), (3, .int v)] [] := by
        intro r s2 H2 locs hr R2 P2 k2 S2
        rw [hr, S_add_new] at R2
        obtain ⟨σ2, hσ2⟩ : ∃ σ2 : ks, σ2 = k_setS σ (k_bs σ c) (S_new (k_kb σ c) (k_B σ c) key v) := ⟨_, rfl⟩
        rw [← hσ2] at R2
        have hb2 : k_bs σ c < k_m σ2 := by rw [hσ2]; exact hb
        have ebb2 : k_bs σ2 (k_bs σ c) = k_bs σ c := by rw [hσ2]; exact hbb
        have eB2 : k_B σ2 (k_bs σ c) = S_new (k_kb σ c) (k_B σ c) key v := by
          show σ2.2.2.1 (k_bs σ2 (k_bs σ c)) = _
          rw [ebb2, hσ2]
          exact up1_s _ _ _
        have ekd2 : k_kd σ2 (k_bs σ c) = k_kb σ c := by rw [hσ2]; rfl
        have hkd2 : s2.2 0 (k_bs σ c) = k_kb σ c := by rw [R2.kd hb2, ekd2]
        have I2 : iv (t + 1) σ2 := by
          have h9 := I1.ro1 (r := n_bkt (k_kb σ c) (s_ro (k_B σ c)) (s_ct (k_B σ c) + 1)) hb1 ebb (by
            have e9 : k_S σ1 (k_bs σ c) = S_add (k_kb σ c) (k_B σ c) key v := by rw [hσ]; exact up1_s _ _ _
            rw [e9]
            show s_ro (k_B σ c) ≤ _
            unfold n_bkt
            split <;> omega) (by unfold n_bkt; split <;> omega)
          have e9 : k_S σ1 (k_bs σ c) = S_add (k_kb σ c) (k_B σ c) key v := by rw [hσ]; exact up1_s _ _ _
          rw [e9, S_add_new, hσ, k_setS2, ← hσ2] at h9
          exact h9
        have hct2 : s2.2 5 (k_bs σ c) = nI (s_ct (k_B σ c) + 1) := by
          have h9 := R2.ct I2 hb2
          rw [ebb2, eB2] at h9
          exact h9
        refine yy_aload_n F d_M_add_117 (n := 118) rfl 2 rfl ?_
        refine yy_get F X.1 X.2.1 g_M_7_M P2.o rfl d_M_add_118 (n := 121) rfl ?_
        refine yy_iload F d_M_add_121 (n := 123) rfl 1 rfl ?_
        refine ma_ld (j := 0) (i := (k_bs σ c)) F X P2 (by decide) (show k_bs σ c < 10 by omega) d_M_add_123 (n' := 124) rfl ?_
        refine yy_tope (y := (k_kb σ c)) hkd2 ?_
        refine yy_iconst (v := 3) F d_M_add_124 (n := 125) rfl rfl ?_
        refine yy_ic_ne (tgt := 147) F d_M_add_125 (n := 128) rfl (by decide) (fun h3 => ?_) (fun h3 => ?_)
        · have hS : S_key (k_kb σ c) (k_B σ c) key v = S_new (k_kb σ c) (k_B σ c) key v := if_neg (fun q => h3 q.1)
          exact yy_vret F S2 ⟨Nat.zero_le _, Nat.zero_le _⟩ rfl d_M_add_147 (⟨rfl, s2, by rw [hS, ← hσ2]; exact R2, P2, k2⟩)
        · refine yy_aload_n F d_M_add_128 (n := 129) rfl 2 rfl ?_
          refine yy_get F X.1 X.2.1 g_M_25_M P2.o rfl d_M_add_129 (n := 132) rfl ?_
          refine yy_iload F d_M_add_132 (n := 134) rfl 1 rfl ?_
          refine ma_ld (j := 5) (i := (k_bs σ c)) F X P2 (by decide) (show k_bs σ c < 10 by omega) d_M_add_134 (n' := 135) rfl ?_
          refine yy_tope (y := (nI (s_ct (k_B σ c) + 1))) hct2 ?_
          refine yy_bipush (v := 6) F d_M_add_135 (n := 137) rfl rfl ?_
          refine yy_ic_le (tgt := 147) F d_M_add_137 (n := 140) rfl (by decide) (fun h7 => ?_) (fun h7 => ?_)
          · have h79 : s_ct (k_B σ c) + 1 ≤ 6 := (nI_leI (by omega) (by omega)).mp (show nI (s_ct (k_B σ c) + 1) ≤ nI 6 from h7)
            have hS : S_key (k_kb σ c) (k_B σ c) key v = S_new (k_kb σ c) (k_B σ c) key v := if_neg (fun q => by have := q.2; omega)
            exact yy_vret F S2 ⟨Nat.zero_le _, Nat.zero_le _⟩ rfl d_M_add_147 (⟨rfl, s2, by rw [hS, ← hσ2]; exact R2, P2, k2⟩)
          · have h79 : 7 ≤ s_ct (k_B σ c) + 1 := by
              have h9 := mt (nI_leI (a := s_ct (k_B σ c) + 1) (b := 6) (by omega) (by omega)).mpr h7
              omega
            have hS : S_key (k_kb σ c) (k_B σ c) key v = S_take (S_new (k_kb σ c) (k_B σ c) key v) 0 := if_pos ⟨h3, h79⟩
            have h62 : ¬ k_kd σ2 (k_bs σ c) = 6 := by rw [ekd2]; exact fun q => absurd (h3.symm.trans q) (by decide)
            have ekb2 : k_kb σ2 (k_bs σ c) = k_kb σ c := by show k_kd σ2 (k_bs σ2 (k_bs σ c)) = _; rw [ebb2, ekd2]
            have h52 : ¬ k_kb σ2 (k_bs σ c) = 5 := by rw [ekb2]; exact h5
            have hv2 : k_kb σ2 (k_bs σ c) = 2 ∨ k_kb σ2 (k_bs σ c) = 3 ∨ k_kb σ2 (k_bs σ c) = 4 := by rw [ekb2]; exact hv
            have hc2 : s_ct (k_B σ2 (k_bs σ c)) = s_ct (k_B σ c) + 1 := by rw [eB2]; rfl
            refine yy_aload_n F d_M_add_140 (n := 141) rfl 2 rfl ?_
            refine yy_iload F d_M_add_141 (n := 143) rfl 1 rfl ?_
            refine yy_iconst (v := 0) F d_M_add_143 (n := 144) rfl rfl ?_
            refine yy_tope (y := nI 0) rfl ?_
            refine yy_cv F S2 (c_M_takeOut (c := k_bs σ c) (j := 0) (nu := ym_sh (s_nu (k_B σ2 (k_bs σ c))) 0 (s_ct (k_B σ2 (k_bs σ c)) - 1)) (vl := ym_sh (s_vl (k_B σ2 (k_bs σ c))) 0 (s_ct (k_B σ2 (k_bs σ c)) - 1)) X I2 R2 hb2 (by omega) (k_fr_0 h62) (fun q => absurd q h62) (fun _ => sh_cg (by omega) (R2.nu24 I2 hb2 h52)) (fun q => absurd q h52) (fun q => sh_cg (by omega) (R2.vl24 I2 hb2 hv2))) (yy_Bc F X.1 q_991 q_3) (yy_invV (nA := 2) (C := R_M) (bytes := b_M_takeOut) (maxL := 5) (retY := none) F X.1 q_988 q_990 qs_M_takeOut q_991 ⟨by decide, by decide, by decide +kernel⟩ (yy_recv F.N X.2.1 (ci := 6) rfl P2.o) rfl d_M_add_144) d_M_add_144 (n := 147) rfl (by simp [Value.category]) ⟨by decide, by decide⟩ ⟨Nat.zero_le _, Nat.zero_le _⟩ ⟨rfl, rfl⟩ P2 (fun Hw_3 locs_w_3 qw_3 Sw_3 => ?_)
            obtain ⟨s3, Q3, P3, k3⟩ := qw_3
            rw [k_thru_0 h62, ebb2, eB2, hσ2, k_setS2] at Q3
            exact yy_vret F Sw_3 ⟨Nat.zero_le _, Nat.zero_le _⟩ rfl d_M_add_147 (⟨rfl, s3, by rw [hS]; exact Q3, P3, k2.tr k3⟩)
      refine yy_iconst (v := 4) F d_M_add_85 (n := 86) rfl rfl ?_
      refine yy_aload_n F d_M_add_86 (n := 87) rfl 2 rfl ?_
      refine yy_get F X.1 X.2.1 g_M_25_M P1.o rfl d_M_add_87 (n := 90) rfl ?_
      refine yy_iload F d_M_add_90 (n := 92) rfl 1 rfl ?_
      refine ma_ld (j := 5) (i := (k_bs σ c)) F X P1 (by decide) (show k_bs σ c < 10 by omega) d_M_add_92 (n' := 93) rfl ?_
      refine yy_tope (y := (nI (s_ct (k_B σ c) + 1))) hct1 ?_
      refine yy_imul F d_M_add_93 (n := 94) rfl ?_
      refine yy_tope (y := nI (4 * (s_ct (k_B σ c) + 1))) (pk_mul 4 _) ?_
      refine yy_iconst (v := 3) F d_M_add_94 (n := 95) rfl rfl ?_
      refine yy_aload_n F d_M_add_95 (n := 96) rfl 2 rfl ?_
      refine yy_get F X.1 X.2.1 g_M_31_M P1.o rfl d_M_add_96 (n := 99) rfl ?_
      refine yy_iload F d_M_add_99 (n := 101) rfl 1 rfl ?_
      refine ma_ld (j := 7) (i := (k_bs σ c)) F X P1 (by decide) (show k_bs σ c < 10 by omega) d_M_add_101 (n' := 102) rfl ?_
      refine yy_tope (y := (nI (s_ro (k_B σ c)))) hro1 ?_
      refine yy_imul F d_M_add_102 (n := 103) rfl ?_
      refine yy_tope (y := nI (3 * s_ro (k_B σ c))) (pk_mul 3 _) ?_
      refine yy_ic_le (tgt := 117) F d_M_add_103 (n := 106) rfl (by decide) (fun h8 => ?_) (fun h8 => ?_)
      · have h89 : 4 * (s_ct (k_B σ c) + 1) ≤ 3 * s_ro (k_B σ c) := (nI_leI (by omega) (by omega)).mp h8
        have hnb : n_bkt (k_kb σ c) (s_ro (k_B σ c)) (s_ct (k_B σ c) + 1) = s_ro (k_B σ c) := if_neg (fun q => by have := q.2; omega)
        exact yy_sub [0, 1, 2, 3, 4, 5] rfl (rest (s_ro (k_B σ c)) s1 _ _ hnb.symm (by show mr s1 (k_setS σ (k_bs σ c) (S_add (k_kb σ c) (k_B σ c) key v)); rw [← hσ]; exact R1) P1 k1 hSw_2)
      · have h89 : 3 * s_ro (k_B σ c) < 4 * (s_ct (k_B σ c) + 1) := by
          have h9 := mt (nI_leI (a := 4 * (s_ct (k_B σ c) + 1)) (b := 3 * s_ro (k_B σ c)) (by omega) (by omega)).mpr h8
          omega
        have hnb : n_bkt (k_kb σ c) (s_ro (k_B σ c)) (s_ct (k_B σ c) + 1) = 2 * s_ro (k_B σ c) := if_pos ⟨hk23, h89⟩
        refine yy_aload_n F d_M_add_106 (n := 107) rfl 2 rfl ?_
        refine yy_get F X.1 X.2.1 g_M_31_M P1.o rfl d_M_add_107 (n := 110) rfl ?_
        refine yy_iload F d_M_add_110 (n := 112) rfl 1 rfl ?_
        refine yy_dup2 F d_M_add_112 (n := 113) rfl rfl rfl ?_
        refine ma_ld (j := 7) (i := (k_bs σ c)) F X P1 (by decide) (show k_bs σ c < 10 by omega) d_M_add_113 (n' := 114) rfl ?_
        refine yy_tope (y := (nI (s_ro (k_B σ c)))) hro1 ?_
        refine yy_iconst (v := 2) F d_M_add_114 (n := 115) rfl rfl ?_
        refine yy_imul F d_M_add_115 (n := 116) rfl ?_
        refine yy_tope (y := nI (2 * s_ro (k_B σ c))) (by rw [show (2 : Int32) = nI 2 from rfl, pk_mul, Nat.mul_comm]) ?_
        refine ma_st (j := 7) (i := (k_bs σ c)) F X P1 hSw_2 (by decide) (show k_bs σ c < 10 by omega) d_M_add_116 (n' := 117) rfl (fun Hw_4 locs_w_4 Pw_4 kw_4 Sw_4 => ?_)
        have kw_4 := k1.tr kw_4
        have R2 := R1.ro1 (r := 2 * s_ro (k_B σ c)) hb1 ebb
        have e9 : k_S σ1 (k_bs σ c) = S_add (k_kb σ c) (k_B σ c) key v := by rw [hσ]; exact up1_s _ _ _
        rw [e9, hσ, k_setS2] at R2
        exact yy_sub [0, 1, 2, 3, 4, 5] rfl (rest (2 * s_ro (k_B σ c)) (m_set s1 7 (k_bs σ c) (nI (2 * s_ro (k_B σ c)))) _ _ hnb.symm R2 Pw_4 kw_4 Sw_4)
  refine yy_aload_n F d_M_add_0 (n := 1) rfl 0 rfl ?_
  refine yy_get F X.1 X.2.1 g_M_16_M hP.o rfl d_M_add_1 (n := 4) rfl ?_
  refine yy_iload_n F d_M_add_4 (n := 5) rfl 1 rfl ?_
  refine ma_ld (j := 2) (i := c) F X hP (by decide) (show c < 10 by omega) d_M_add_5 (n' := 6) rfl ?_
  refine yy_tope (y := (nI (k_bs σ c))) (R.bs hc) ?_
  refine yy_istore (lv' := [(4, .int (nI (k_bs σ c))), (0, .ref a), (1, .int (nI c)), (2, .int key), (3, .int v)]) F d_M_add_6 (n := 8) rfl (by decide) rfl ?_
  refine yy_aload_n F d_M_add_8 (n := 9) rfl 1 rfl ?_
  refine yy_get F X.1 X.2.1 g_M_25_M hP.o rfl d_M_add_9 (n := 12) rfl ?_
  refine yy_iload F d_M_add_12 (n := 14) rfl 0 rfl ?_
  refine ma_ld (j := 5) (i := (k_bs σ c)) F X hP (by decide) (show k_bs σ c < 10 by omega) d_M_add_14 (n' := 15) rfl ?_
  refine yy_tope (y := (nI (s_ct (k_B σ c)))) (R.ct I hc) ?_
  refine yy_istore (lv' := [(5, .int (nI (s_ct (k_B σ c)))), (4, .int (nI (k_bs σ c))), (0, .ref a), (1, .int (nI c)), (2, .int key), (3, .int v)]) F d_M_add_15 (n := 17) rfl (by decide) rfl ?_
  refine yy_aload_n F d_M_add_17 (n := 18) rfl 2 rfl ?_
  refine yy_get F X.1 X.2.1 g_M_7_M hP.o rfl d_M_add_18 (n := 21) rfl ?_
  refine yy_iload F d_M_add_21 (n := 23) rfl 1 rfl ?_
  refine ma_ld (j := 0) (i := (k_bs σ c)) F X hP (by decide) (show k_bs σ c < 10 by omega) d_M_add_23 (n' := 24) rfl ?_
  refine yy_tope (y := (k_kb σ c)) (R.kd (I.bs hc)) ?_
  refine yy_iconst (v := 4) F d_M_add_24 (n := 25) rfl rfl ?_
  refine yy_ic_ne (tgt := 66) F d_M_add_25 (n := 28) rfl (by decide) (fun h4 => ?_) (fun h4 => ?_)
  · have hq : ym_pl (k_kb σ c) (s_nu (k_B σ c)) key (s_ct (k_B σ c)) = s_ct (k_B σ c) := if_neg h4
    have h9 := fin _ hS
    rw [hq] at h9
    exact yy_sub [0, 1, 2, 3, 4, 5] rfl h9
  · have hq : ym_pl (k_kb σ c) (s_nu (k_B σ c)) key (s_ct (k_B σ c)) = ym_cnt (ym_bel (s_nu (k_B σ c)) key 0) (s_ct (k_B σ c)) := if_pos h4
    have hs := (I.s hc).2.2.2.2.2.2 (Or.inl h4)
    have loop : ∀ (d p : Nat) (locs : List Loc), p + d = s_ct (k_B σ c) → (∀ i, i < p → s_nu (k_B σ c) i < key) → yy_S z H locs → yy_Y b H locs (0, 0) 31 [(5, .int (nI p)), (4, .int (nI (k_bs σ c))), (0, .ref a), (1, .int (nI c)), (2, .int key), (3, .int v)] [] := by
      intro d
      induction d with
      | zero =>
        intro p locs hd ha S1
        refine yy_iload F d_M_add_31 (n := 33) rfl 0 rfl ?_
        refine yy_aload_n F d_M_add_33 (n := 34) rfl 2 rfl ?_
        refine yy_get F X.1 X.2.1 g_M_25_M hP.o rfl d_M_add_34 (n := 37) rfl ?_
        refine yy_iload F d_M_add_37 (n := 39) rfl 1 rfl ?_
        refine ma_ld (j := 5) (i := (k_bs σ c)) F X hP (by decide) (show k_bs σ c < 10 by omega) d_M_add_39 (n' := 40) rfl ?_
        refine yy_tope (y := (nI (s_ct (k_B σ c)))) (R.ct I hc) ?_
        refine yy_ic_ge_t (tgt := 66) F d_M_add_40 (by decide) (nI_le (by omega) (by omega)) ?_
        have h9 := fin _ S1
        rw [hq, ← so_cnt hs (by omega) ha (fun q => by omega)] at h9
        exact yy_sub [0, 1, 2, 3, 4, 5] rfl h9
      | succ d ih =>
        intro p locs hd ha S1
        refine yy_iload F d_M_add_31 (n := 33) rfl 0 rfl ?_
        refine yy_aload_n F d_M_add_33 (n := 34) rfl 2 rfl ?_
        refine yy_get F X.1 X.2.1 g_M_25_M hP.o rfl d_M_add_34 (n := 37) rfl ?_
        refine yy_iload F d_M_add_37 (n := 39) rfl 1 rfl ?_
        refine ma_ld (j := 5) (i := (k_bs σ c)) F X hP (by decide) (show k_bs σ c < 10 by omega) d_M_add_39 (n' := 40) rfl ?_
        refine yy_tope (y := (nI (s_ct (k_B σ c)))) (R.ct I hc) ?_
        refine yy_ic_ge_f (tgt := 66) F d_M_add_40 (n := 43) rfl (by decide) (nI_ge (by omega) (by omega)) ?_
        refine yy_aload_n F d_M_add_43 (n := 44) rfl 2 rfl ?_
        refine yy_get F X.1 X.2.1 g_M_19_M hP.o rfl d_M_add_44 (n := 47) rfl ?_
        refine yy_bipush (v := 24) F d_M_add_47 (n := 49) rfl rfl ?_
        refine yy_iload F d_M_add_49 (n := 51) rfl 1 rfl ?_
        refine yy_imul F d_M_add_51 (n := 52) rfl ?_
        refine yy_tope (y := (nI (24 * (k_bs σ c)))) (pk_mul 24 _) ?_
        refine yy_iload F d_M_add_52 (n := 54) rfl 0 rfl ?_
        refine yy_iadd F d_M_add_54 (n := 55) rfl ?_
        refine yy_tope (y := (nI (24 * (k_bs σ c) + p))) (nI_add _ _) ?_
        refine ma_ld (j := 3) (i := (24 * (k_bs σ c) + p)) F X hP (by decide) (show 24 * (k_bs σ c) + p < 240 by omega) d_M_add_55 (n' := 56) rfl ?_
        refine yy_tope (y := (s_nu (k_B σ c) p)) (R.nu I hc h5 (by omega)) ?_
        refine yy_iload_n F d_M_add_56 (n := 57) rfl 4 rfl ?_
        refine yy_ic_ge (tgt := 66) F d_M_add_57 (n := 60) rfl (by decide) (fun h8 => ?_) (fun h8 => ?_)
        · have h9 := fin _ S1
          rw [hq, ← so_cnt hs (by omega) ha (fun _ => Int32.not_lt.mpr h8)] at h9
          exact yy_sub [0, 1, 2, 3, 4, 5] rfl h9
        · refine yy_iinc (v := nI (p + 1)) (lv' := [(5, .int (nI (p + 1))), (4, .int (nI (k_bs σ c))), (0, .ref a), (1, .int (nI c)), (2, .int key), (3, .int v)]) F d_M_add_60 (n := 63) rfl 0 rfl (nI_1 _) (by decide) rfl ?_
          refine yy_goto (tgt := 31) F d_M_add_63 (by decide) ?_
          exact yy_sub [0, 1, 2, 3, 4, 5] rfl (ih (p + 1) _ (by omega) (fun i hi => by
            by_cases hip : i = p
            · subst hip
              exact Int32.not_le.mp h8
            · exact ha i (by omega)) S1)
    refine yy_iconst (v := 0) F d_M_add_28 (n := 29) rfl rfl ?_
    refine yy_tope (y := (nI 0)) rfl ?_
    refine yy_istore (lv' := [(5, .int (nI 0)), (4, .int (nI (k_bs σ c))), (0, .ref a), (1, .int (nI c)), (2, .int key), (3, .int v)]) F d_M_add_29 (n := 31) rfl (by decide) rfl ?_
    exact yy_sub [0, 1, 2, 3, 4, 5] rfl (loop _ 0 _ (Nat.zero_add _) (fun i hi => by omega) hS)
set_option maxRecDepth 100000 in
set_option maxHeartbeats 4000000 in
theorem c_M_lookUp {l : Launch} {z : State} {a0 : Array Value} {D : va_G} {ca : kca} (X : kcx l z a0 D ca) {a n : Nat} {cd : Int32} {s : ms} {σ : ks} {t : Nat} (I : iv t σ) (R : mr s σ) {x key : Int32} : yy_M l z y_M_lookUp (.code y_M_lookUp b_M_lookUp 4 (some .int)) ({ frames := 3, cells := 0, slots := 0, locals := 63 }) [.ref a, .int x, .int key] (mo_at D ca z a n cd s) (yy_pi (fun r H H1 => mo_at D ca z a n (c_of [e_io, e_uo, e_ia, e_is] (ch_mk σ x key)) s H1 ∧ kpm a n H H1 ∧ (ch_mk σ x key = none → r = o_n (k_at σ (cN x) key)))) := by
  refine yy_body (plainFor_of_name (by decide)) (Nat.le_of_ble_eq_true rfl) (fun b H F hS hP hH hnm => ?_)
  have h10 := I.m10
  cases hE : ch_map σ x with
  | some E =>
    have hin9 : E ∈ ([e_io, e_uo, e_ia, e_is] : List String) := by rcases ch_map_in I.m10 hE with rfl | rfl <;> decide
    obtain ⟨hc1, hc2⟩ := m_pos hin9 (by decide)
    refine yy_aload_n F d_M_lookUp_0 (n := 1) rfl 0 rfl ?_
    refine yy_aload_n F d_M_lookUp_1 (n := 2) rfl 0 rfl ?_
    refine yy_iload_n F d_M_lookUp_2 (n := 3) rfl 1 rfl ?_
    refine yy_cri (w := (c_of [e_io, e_uo, e_ia, e_is] (some E))) F hS (c_M_checkMap (x := x) X I R) (yy_Bc F X.1 q_1013 q_3) (yy_invV (nA := 1) (C := R_M) (bytes := b_M_checkMap) (maxL := 2) (retY := (some .int)) F X.1 q_1010 q_1012 qs_M_checkMap q_1013 ⟨by decide, by decide, by decide +kernel⟩ (yy_recv F.N X.2.1 (ci := 6) rfl hP.o) rfl d_M_lookUp_3) d_M_lookUp_3 (n := 6) rfl (by simp [Value.category]) ⟨by decide, by decide⟩ ⟨Nat.zero_le _, Nat.zero_le _⟩ ⟨rfl, rfl⟩ hP ((congrArg (c_of _) hE).trans (by rcases ch_map_in I.m10 hE with rfl | rfl <;> decide)) (fun _ hSw_1 => ?_)
    refine ma_code F X g_M_55_M hP hSw_1 d_M_lookUp_6 (n' := 9) rfl (fun Hw_2 locs_w_2 Pw_2 kw_2 Sw_2 => ?_)
    have kw_2 := kpm.rf.tr kw_2
    refine yy_aload_n F d_M_lookUp_9 (n := 10) rfl 0 rfl ?_
    refine yy_get F X.1 X.2.1 g_M_55_M Pw_2.o rfl d_M_lookUp_10 (n := 13) rfl ?_
    refine yy_if_le_f (tgt := 18) F d_M_lookUp_13 (n := 16) rfl (by decide) hc1 ?_
    refine yy_iconst (v := (-1)) F d_M_lookUp_16 (n := 17) rfl rfl ?_
    have hm9 : ch_mk σ x key = some E := by unfold ch_mk; rw [hE]
    exact yy_iret F Sw_2 ⟨Nat.zero_le _, Nat.zero_le _⟩ rfl d_M_lookUp_17 (⟨_, rfl, by rw [hm9]; exact Pw_2, kw_2, fun h => by rw [hm9] at h; cases h⟩)
  | none =>
    obtain ⟨hc, ex, hk⟩ := ch_map_none I.m10 hE
    have h6 := k_ism6 hk
    have hv := I.mapb hc hk
    have h5 : ¬ k_kb σ (cN x) = 5 := fun q => by rw [q] at hv; exact absurd hv (by decide)
    have hb := I.bs hc
    have h24 := I.ct hc
    refine yy_aload_n F d_M_lookUp_0 (n := 1) rfl 0 rfl ?_
    refine yy_aload_n F d_M_lookUp_1 (n := 2) rfl 0 rfl ?_
    refine yy_iload_n F d_M_lookUp_2 (n := 3) rfl 1 rfl ?_
    refine yy_cri (w := 0) F hS (c_M_checkMap (x := x) X I R) (yy_Bc F X.1 q_1013 q_3) (yy_invV (nA := 1) (C := R_M) (bytes := b_M_checkMap) (maxL := 2) (retY := (some .int)) F X.1 q_1010 q_1012 qs_M_checkMap q_1013 ⟨by decide, by decide, by decide +kernel⟩ (yy_recv F.N X.2.1 (ci := 6) rfl hP.o) rfl d_M_lookUp_3) d_M_lookUp_3 (n := 6) rfl (by simp [Value.category]) ⟨by decide, by decide⟩ ⟨Nat.zero_le _, Nat.zero_le _⟩ ⟨rfl, rfl⟩ hP (by rw [hE]; rfl) (fun _ hSw_3 => ?_)
    rw [show (Value.int x) = Value.int (nI (cN x)) from congrArg Value.int ex]
    refine ma_code F X g_M_55_M hP hSw_3 d_M_lookUp_6 (n' := 9) rfl (fun Hw_4 locs_w_4 Pw_4 kw_4 Sw_4 => ?_)
    have kw_4 := kpm.rf.tr kw_4
    refine yy_aload_n F d_M_lookUp_9 (n := 10) rfl 0 rfl ?_
    refine yy_get F X.1 X.2.1 g_M_55_M Pw_4.o rfl d_M_lookUp_10 (n := 13) rfl ?_
    refine yy_if_le_t (tgt := 18) F d_M_lookUp_13 (by decide) (by decide) ?_
    refine yy_aload_n F d_M_lookUp_18 (n := 19) rfl 0 rfl ?_
    refine yy_aload_n F d_M_lookUp_19 (n := 20) rfl 0 rfl ?_
    refine yy_iload_n F d_M_lookUp_20 (n := 21) rfl 1 rfl ?_
    refine yy_iload_n F d_M_lookUp_21 (n := 22) rfl 2 rfl ?_
    refine yy_cri (w := (ym_n (k_cov σ (cN x) key))) F Sw_4 (c_M_isIn (key := key) X I R hc) (yy_Bc F X.1 q_938 q_3) (yy_invV (nA := 2) (C := R_M) (bytes := b_M_isIn) (maxL := 3) (retY := (some .boolean)) F X.1 q_935 q_937 qs_M_isIn q_938 ⟨by decide, by decide, by decide +kernel⟩ (yy_recv F.N X.2.1 (ci := 6) rfl Pw_4.o) rfl d_M_lookUp_22) d_M_lookUp_22 (n := 25) rfl (by simp [Value.category]) ⟨by decide, by decide⟩ ⟨Nat.zero_le _, Nat.zero_le _⟩ ⟨rfl, rfl⟩ Pw_4 rfl (fun _ hSw_5 => ?_)
    cases hcv : k_cov σ (cN x) key
    · refine yy_if_eq_t (tgt := 32) F d_M_lookUp_25 (by decide) rfl ?_
      refine yy_iconst (v := 3) F d_M_lookUp_32 (n := 33) rfl rfl ?_
      refine ma_code F X g_M_55_M Pw_4 hSw_5 d_M_lookUp_33 (n' := 36) rfl (fun Hw_6 locs_w_6 Pw_6 kw_6 Sw_6 => ?_)
      have kw_6 := kw_4.tr kw_6
      refine yy_aload_n F d_M_lookUp_36 (n := 37) rfl 0 rfl ?_
      refine yy_get F X.1 X.2.1 g_M_55_M Pw_6.o rfl d_M_lookUp_37 (n := 40) rfl ?_
      refine yy_if_le_f (tgt := 45) F d_M_lookUp_40 (n := 43) rfl (by decide) (by decide) ?_
      refine yy_iconst (v := (-1)) F d_M_lookUp_43 (n := 44) rfl rfl ?_
      have hm9 : ch_mk σ x key = some e_ia := by unfold ch_mk; rw [hE]; show ch_key σ (cN x) key = _; unfold ch_key; rw [if_neg (by rw [hcv]; decide)]
      exact yy_iret F Sw_6 ⟨Nat.zero_le _, Nat.zero_le _⟩ rfl d_M_lookUp_44 (⟨_, rfl, by rw [hm9]; exact Pw_6, kw_6, fun h => by rw [hm9] at h; cases h⟩)
    · refine yy_if_eq_f (tgt := 32) F d_M_lookUp_25 (n := 28) rfl (by decide) (by decide) ?_
      refine yy_iconst (v := 0) F d_M_lookUp_28 (n := 29) rfl rfl ?_
      refine yy_goto (tgt := 33) F d_M_lookUp_29 (by decide) ?_
      refine ma_code F X g_M_55_M Pw_4 hSw_5 d_M_lookUp_33 (n' := 36) rfl (fun Hw_7 locs_w_7 Pw_7 kw_7 Sw_7 => ?_)
      have kw_7 := kw_4.tr kw_7
      refine yy_aload_n F d_M_lookUp_36 (n := 37) rfl 0 rfl ?_
      refine yy_get F X.1 X.2.1 g_M_55_M Pw_7.o rfl d_M_lookUp_37 (n := 40) rfl ?_
      refine yy_if_le_t (tgt := 45) F d_M_lookUp_40 (by decide) (by decide) ?_
      refine yy_aload_n F d_M_lookUp_45 (n := 46) rfl 0 rfl ?_
      refine yy_iload_n F d_M_lookUp_46 (n := 47) rfl 1 rfl ?_
      refine yy_iload_n F d_M_lookUp_47 (n := 48) rfl 2 rfl ?_
      refine yy_cri (w := (o_n (k_at σ (cN x) key))) F Sw_7 (c_M_find (key := key) X I R hc h5) (yy_Bc F X.1 q_1021 q_3) (yy_invV (nA := 2) (C := R_M) (bytes := b_M_find) (maxL := 5) (retY := (some .int)) F X.1 q_1018 q_1020 qs_M_find q_1021 ⟨by decide, by decide, by decide +kernel⟩ (yy_recv F.N X.2.1 (ci := 6) rfl Pw_7.o) rfl d_M_lookUp_48) d_M_lookUp_48 (n := 51) rfl (by simp [Value.category]) ⟨by decide, by decide⟩ ⟨Nat.zero_le _, Nat.zero_le _⟩ ⟨rfl, rfl⟩ Pw_7 rfl (fun _ hSw_8 => ?_)
      refine yy_istore_n (lv' := [(3, .int (o_n (k_at σ (cN x) key))), (0, .ref a), (1, .int (nI (cN x))), (2, .int key)]) F d_M_lookUp_51 (n := 52) rfl (by decide) rfl ?_
      refine yy_iload_n F d_M_lookUp_52 (n := 53) rfl 0 rfl ?_
      refine yy_iconst (v := (-1)) F d_M_lookUp_53 (n := 54) rfl rfl ?_
      cases hat : k_at σ (cN x) key with
      | none =>
        refine yy_ic_ne_f (tgt := 78) F d_M_lookUp_54 (n := 57) rfl (by decide) rfl ?_
        refine yy_aload_n F d_M_lookUp_57 (n := 58) rfl 1 rfl ?_
        refine yy_get F X.1 X.2.1 g_M_25_M Pw_7.o rfl d_M_lookUp_58 (n := 61) rfl ?_
        refine yy_aload_n F d_M_lookUp_61 (n := 62) rfl 1 rfl ?_
        refine yy_get F X.1 X.2.1 g_M_16_M Pw_7.o rfl d_M_lookUp_62 (n := 65) rfl ?_
        refine yy_iload_n F d_M_lookUp_65 (n := 66) rfl 2 rfl ?_
        refine ma_ld (j := 2) (i := (cN x)) F X Pw_7 (by decide) (show cN x < 10 by omega) d_M_lookUp_66 (n' := 67) rfl ?_
        refine yy_tope (y := (nI (k_bs σ (cN x)))) (R.bs hc) ?_
        refine ma_ld (j := 5) (i := (k_bs σ (cN x))) F X Pw_7 (by decide) (show k_bs σ (cN x) < 10 by omega) d_M_lookUp_67 (n' := 68) rfl ?_
        refine yy_tope (y := (nI (s_ct (k_B σ (cN x))))) (R.ct I hc) ?_
        refine yy_bipush (v := 24) F d_M_lookUp_68 (n := 70) rfl rfl ?_
        refine yy_ic_ne (tgt := 78) F d_M_lookUp_70 (n := 73) rfl (by decide) (fun h24 => ?_) (fun h24 => ?_)
        · have h24b : ¬ 24 ≤ s_ct (k_B σ (cN x)) := fun q => h24 (by rw [show s_ct (k_B σ (cN x)) = 24 by omega]; rfl)
          have hm9 : ch_mk σ x key = none := by unfold ch_mk; rw [hE]; show ch_key σ (cN x) key = _; unfold ch_key; rw [if_pos hcv, hat]; exact if_neg h24b
          refine yy_iload_n F d_M_lookUp_78 (n := 79) rfl 0 rfl ?_
          exact yy_iret F hSw_8 ⟨Nat.zero_le _, Nat.zero_le _⟩ rfl d_M_lookUp_79 (⟨_, rfl, by rw [hm9]; exact Pw_7, kw_7, fun _ => by rw [hat]⟩)
        · have h24b : s_ct (k_B σ (cN x)) = 24 := (nI_eq (by omega) (by omega)).mp (show nI (s_ct (k_B σ (cN x))) = nI 24 from h24)
          refine yy_aload_n F d_M_lookUp_73 (n := 74) rfl 1 rfl ?_
          refine yy_iconst (v := 4) F d_M_lookUp_74 (n := 75) rfl rfl ?_
          refine ma_code F X g_M_55_M Pw_7 hSw_8 d_M_lookUp_75 (n' := 78) rfl (fun Hw_9 locs_w_9 Pw_9 kw_9 Sw_9 => ?_)
          have kw_9 := kw_7.tr kw_9
          have hm9 : ch_mk σ x key = some e_is := by unfold ch_mk; rw [hE]; show ch_key σ (cN x) key = _; unfold ch_key; rw [if_pos hcv, hat]; exact if_pos (by omega)
          refine yy_iload_n F d_M_lookUp_78 (n := 79) rfl 0 rfl ?_
          exact yy_iret F Sw_9 ⟨Nat.zero_le _, Nat.zero_le _⟩ rfl d_M_lookUp_79 (⟨_, rfl, by rw [hm9]; exact Pw_9, kw_9, fun h => by rw [hm9] at h; cases h⟩)
      | some q =>
        have hq := (I.at hc h6 hat).1
        refine yy_ic_ne_t (tgt := 78) F d_M_lookUp_54 (by decide) (ym_nm1 (by omega)) ?_
        have hm9 : ch_mk σ x key = none := by unfold ch_mk; rw [hE]; show ch_key σ (cN x) key = _; unfold ch_key; rw [if_pos hcv, hat]
        refine yy_iload_n F d_M_lookUp_78 (n := 79) rfl 0 rfl ?_
        exact yy_iret F hSw_8 ⟨Nat.zero_le _, Nat.zero_le _⟩ rfl d_M_lookUp_79 (⟨_, rfl, by rw [hm9]; exact Pw_7, kw_7, fun _ => by rw [hat]⟩)
set_option maxRecDepth 100000 in
set_option maxHeartbeats 4000000 in
theorem c_M_settle {l : Launch} {z : State} {a0 : Array Value} {D : va_G} {ca : kca} (X : kcx l z a0 D ca) {a n : Nat} {cd : Int32} {s : ms} {σ : ks} {t : Nat} (I : iv t σ) (R : mr s σ) {i c p : Nat} (hi : i < 4) (hov : (k_W σ i).1 = some c) : yy_M l z y_M_settle (.code y_M_settle b_M_settle 3 none) ({ frames := 0, cells := 0, slots := 0, locals := 0 }) [.ref a, .int (nI i), .int (nI p)] (mo_at D ca z a n cd s) (yy_pv (fun H H1 => ∃ s1 : ms, mr s1 (k_setW σ i (some c, p, -1, s_ch (k_B σ c))) ∧ mo_at D ca z a n cd s1 H1 ∧ kpm a n H H1)) := by
  refine yy_body (plainFor_of_name (by decide)) (Nat.le_of_ble_eq_true rfl) (fun b H F hS hP hH hnm => ?_)
  have h10 := I.m10
  have hc := ((I.2.2.2.2 i hi).2 c hov).1
  have hb := I.bs hc
  refine yy_aload_n F d_M_settle_0 (n := 1) rfl 0 rfl ?_
  refine yy_get F X.1 X.2.1 g_M_46_M hP.o rfl d_M_settle_1 (n := 4) rfl ?_
  refine yy_iload_n F d_M_settle_4 (n := 5) rfl 1 rfl ?_
  refine yy_iload_n F d_M_settle_5 (n := 6) rfl 2 rfl ?_
  refine ma_st (j := 12) (i := i) F X hP hS (by decide) (show i < 4 by omega) d_M_settle_6 (n' := 7) rfl (fun Hw_1 locs_w_1 Pw_1 kw_1 Sw_1 => ?_)
  have kw_1 := kpm.rf.tr kw_1
  refine yy_aload_n F d_M_settle_7 (n := 8) rfl 0 rfl ?_
  refine yy_get F X.1 X.2.1 g_M_49_M Pw_1.o rfl d_M_settle_8 (n := 11) rfl ?_
  refine yy_iload_n F d_M_settle_11 (n := 12) rfl 1 rfl ?_
  refine yy_iconst (v := (-1)) F d_M_settle_12 (n := 13) rfl rfl ?_
  refine ma_st (j := 13) (i := i) F X Pw_1 Sw_1 (by decide) (show i < 4 by omega) d_M_settle_13 (n' := 14) rfl (fun Hw_2 locs_w_2 Pw_2 kw_2 Sw_2 => ?_)
  have kw_2 := kw_1.tr kw_2
  refine yy_aload_n F d_M_settle_14 (n := 15) rfl 0 rfl ?_
  refine yy_get F X.1 X.2.1 g_M_52_M Pw_2.o rfl d_M_settle_15 (n := 18) rfl ?_
  refine yy_iload_n F d_M_settle_18 (n := 19) rfl 1 rfl ?_
  refine yy_aload_n F d_M_settle_19 (n := 20) rfl 0 rfl ?_
  refine yy_get F X.1 X.2.1 g_M_28_M Pw_2.o rfl d_M_settle_20 (n := 23) rfl ?_
  refine yy_aload_n F d_M_settle_23 (n := 24) rfl 0 rfl ?_
  refine yy_get F X.1 X.2.1 g_M_16_M Pw_2.o rfl d_M_settle_24 (n := 27) rfl ?_
  refine yy_aload_n F d_M_settle_27 (n := 28) rfl 0 rfl ?_
  refine yy_get F X.1 X.2.1 g_M_43_M Pw_2.o rfl d_M_settle_28 (n := 31) rfl ?_
  refine yy_iload_n F d_M_settle_31 (n := 32) rfl 1 rfl ?_
  refine ma_ld (j := 11) (i := i) F X Pw_2 (by decide) (show i < 4 by omega) d_M_settle_32 (n' := 33) rfl ?_
  refine yy_tope (y := (nI c)) ((R.w1 hi hov).1) ?_
  refine ma_ld (j := 2) (i := c) F X Pw_2 (by decide) (show c < 10 by omega) d_M_settle_33 (n' := 34) rfl ?_
  refine yy_tope (y := (nI (k_bs σ c))) (R.bs hc) ?_
  refine ma_ld (j := 6) (i := (k_bs σ c)) F X Pw_2 (by decide) (show k_bs σ c < 10 by omega) d_M_settle_34 (n' := 35) rfl ?_
  refine yy_tope (y := (nI (s_ch (k_B σ c)))) (R.ch I hc) ?_
  refine ma_st (j := 14) (i := i) F X Pw_2 Sw_2 (by decide) (show i < 4 by omega) d_M_settle_35 (n' := 36) rfl (fun Hw_3 locs_w_3 Pw_3 kw_3 Sw_3 => ?_)
  have kw_3 := kw_2.tr kw_3
  have R2 : mr (m_set (m_set (m_set s 12 i (nI p)) 13 i (-1)) 14 i (nI (s_ch (k_B σ c)))) (k_setW σ i (some c, p, -1, s_ch (k_B σ c))) := by
    refine R.setW rfl (fun j hj => ?_) (fun j i' h => (m_set_x _ _ _ h).trans ((m_set_x _ _ _ h).trans (m_set_x _ _ _ h))) ⟨?_, ?_, ?_, ?_⟩
    · rw [m_set_o _ _ (by omega), m_set_o _ _ (by omega), m_set_o _ _ (by omega)]
    · exact (R.w1 hi hov).1
    · show upd _ i _ i = _
      exact upd_s _ _ _
    · show upd _ i _ i = _
      exact upd_s _ _ _
    · show upd _ i _ i = _
      exact upd_s _ _ _
  exact yy_vret F Sw_3 ⟨Nat.zero_le _, Nat.zero_le _⟩ rfl d_M_settle_36 (⟨rfl, _, R2, Pw_3, kw_3⟩)
