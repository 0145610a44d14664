/-! PART K5: new containers -/
set_option maxRecDepth 100000 in
theorem nc_GP {l : Launch} {z : State} {a0 : Array Value} {D : va_G} {ca : kca} (X : kcx l z a0 D ca) : va_Nc R_G "ContainerKit$Part" z := va_Nc.of (args := a0) (flat_of_before _ X.2.2.1 _ (by decide +kernel))
set_option maxRecDepth 100000 in
theorem nc_GR {l : Launch} {z : State} {a0 : Array Value} {D : va_G} {ca : kca} (X : kcx l z a0 D ca) : va_Nc R_G "ContainerKit$Range" z := va_Nc.of (args := a0) (flat_of_before _ X.2.2.1 _ (by decide +kernel))
set_option maxRecDepth 100000 in
set_option maxHeartbeats 4000000 in
theorem c_K_keepContainer {l : Launch} {z : State} {a0 : Array Value} {D : va_G} {ca : kca} (X : kcx l z a0 D ca) {A : kA} {σ : ks} {t : Nat} (I : iv t σ) {v ci : Nat} {fs : List Value} {r : vw_C} (hm : k_m σ < 10) (hci : kcl[ci]? = some r) (hca : Cond.castable r.1 "ContainerKit$Container" ∈ lw_tbl) : yy_M l z y_K_keepContainer (.code y_K_keepContainer b_K_keepContainer 3 (some .int)) ({ frames := 0, cells := 0, slots := 0, locals := 0 }) [.ref (a_k A), .ref v] (fun H => ck_at D ca z A σ H ∧ va_at D kcl (v, .inr (ci, fs)) H) (yy_pi (fun x H H1 => x = nI (k_m σ) ∧ va_at D kcl (a_k A, .inr (5, [.ref (a_ka A), .ref (a_wa A), .int (nI (k_m σ + 1))])) H1 ∧ va_at D kcl (a_ka A, .inl (ca.2.1, 10, .inr (.inr (.inr (.inr (va_up (k_row A σ) (k_m σ) (some v))))))) H1 ∧ kp [a_k A, a_ka A] H H1)) := by
  refine yy_body (plainFor_of_name (by decide)) (Nat.le_of_ble_eq_true rfl) (fun b H F hS hP hH hnm => ?_)
  obtain ⟨hP, hV⟩ := hP
  have o1 := hP.ok.1
  have o2 := hP.ok.2.1
  have ne1 : a_k A ≠ a_ka A := fun q => by rw [q] at o1; omega
  refine yy_aload_n F d_K_keepContainer_0 (n := 1) rfl 0 rfl ?_
  refine yy_get F X.1 X.2.1 g_K_21_K hP.k rfl d_K_keepContainer_1 (n := 4) rfl ?_
  refine yy_istore_n (lv' := [(2, .int (nI (k_m σ))), (0, .ref (a_k A)), (1, .ref v)]) F d_K_keepContainer_4 (n := 5) rfl (by decide) rfl ?_
  refine yy_iload_n F d_K_keepContainer_5 (n := 6) rfl 0 rfl ?_
  refine yy_if_lt_f (tgt := 32) F d_K_keepContainer_6 (n := 9) rfl (by decide) (nI_pos (by omega)) ?_
  refine yy_iload_n F d_K_keepContainer_9 (n := 10) rfl 0 rfl ?_
  refine yy_aload_n F d_K_keepContainer_10 (n := 11) rfl 1 rfl ?_
  refine yy_get F X.1 X.2.1 g_K_11_K hP.k rfl d_K_keepContainer_11 (n := 14) rfl ?_
  refine yy_alen F X.2.1 1 rfl hP.ka (x := 10) rfl d_K_keepContainer_14 (n := 15) rfl ?_
  refine yy_ic_ge_f (tgt := 32) F d_K_keepContainer_15 (n := 18) rfl (by decide) (nI_ge (b := 10) (by omega) (by omega)) ?_
  refine yy_aload_n F d_K_keepContainer_18 (n := 19) rfl 1 rfl ?_
  refine yy_get F X.1 X.2.1 g_K_11_K hP.k rfl d_K_keepContainer_19 (n := 22) rfl ?_
  refine yy_iload_n F d_K_keepContainer_22 (n := 23) rfl 0 rfl ?_
  refine yy_aload_n F d_K_keepContainer_23 (n := 24) rfl 2 rfl ?_
  refine yy_aast F X.2.1 1 rfl hS (hP.ok.zz (by rw [o2]; decide)) hP.ka hci (Or.inr (X.1 _ hca)) hV (vp_in_nI (by omega) (by decide)) d_K_keepContainer_24 (n := 25) rfl (fun H1 locs1 O1 e1 f1 S1 => ?_)
  rw [nI_clamp (by omega)] at O1
  have K1 : va_at D kcl (a_k A, .inr (5, [.ref (a_ka A), .ref (a_wa A), .int (nI (k_m σ))])) H1 := va_at.kept hP.k (f1 _ ne1)
  refine yy_aload_n F d_K_keepContainer_25 (n := 26) rfl 1 rfl ?_
  refine yy_iload_n F d_K_keepContainer_26 (n := 27) rfl 0 rfl ?_
  refine yy_iconst (v := 1) F d_K_keepContainer_27 (n := 28) rfl rfl ?_
  refine yy_iadd F d_K_keepContainer_28 (n := 29) rfl ?_
  refine yy_tope (y := (nI (k_m σ + 1))) (nI_1 _) ?_
  refine yy_put F X.1 X.2.1 g_K_21_K gt_K (fun C T N h => by cases h; rfl) S1 (hP.ok.zz (by rw [o1]; decide)) K1 rfl rfl (Nat.le_of_ble_eq_true rfl) d_K_keepContainer_29 (n := 32) rfl (fun H2 locs2 K2 e2 f2 S2 => ?_)
  refine yy_iload_n F d_K_keepContainer_32 (n := 33) rfl 0 rfl ?_
  exact yy_iret F S2 ⟨Nat.zero_le _, Nat.zero_le _⟩ rfl d_K_keepContainer_33 (⟨_, rfl, rfl, K2, va_at.kept O1 (f2 _ (Ne.symm ne1)), by omega, fun q hq => by
      simp only [List.mem_cons, List.not_mem_nil, or_false, not_or] at hq
      exact (f2 q hq.1).trans (f1 q hq.2)⟩)
set_option maxRecDepth 100000 in
set_option maxHeartbeats 4000000 in
theorem c_K_partOf6 {l : Launch} {z : State} {a0 : Array Value} {D : va_G} {ca : kca} (X : kcx l z a0 D ca) {A : kA} {σ : ks} {t : Nat} (I : iv t σ) {c : Nat} (hc : c < k_m σ) {x y : Int32} (h6 : k_kd σ c = 6) : yy_M l z y_K_partOf (.code y_K_partOf b_K_partOf 4 (some (.object "ContainerKit$Container"))) ({ frames := 3, cells := 1, slots := 6, locals := 60 }) [.ref (a_ad A c), .int x, .int y] (ck_at D ca z A σ) (yy_pr (fun r H H1 => r = some H.size ∧ va_at D kcl (H.size, .inr (2, [.int 6, .ref (a_sa A (k_bs σ c)), va_rf (some (a_ad A c)), .int (nI (k_start σ c) + x), .int (y - x), .int (nI (s_ch (k_B σ c)))])) H1 ∧ yy_ext H H1 ∧ H1.size = H.size + 1)) := by
  refine yy_body (plainFor_of_name (by decide)) (Nat.le_of_ble_eq_true rfl) (fun b H F hS hP hH hnm => ?_)
  have hzs : z.heap.size ≤ H.size := hS.1
  refine yy_aload_n F d_K_partOf_0 (n := 1) rfl 0 rfl ?_
  refine yy_instS (q := (R_P, T_P, 6)) F X.1 X.2.1 (ci := 2) q_362 rfl (hP.c6 hc h6) d_K_partOf_1 (n := 4) rfl ?_
  refine yy_if_eq_f (tgt := 14) F d_K_partOf_4 (n := 7) rfl (by decide) (by decide) ?_
  refine yy_aload_n F d_K_partOf_7 (n := 8) rfl 0 rfl ?_
  refine yy_castS (q := (R_P, T_P, 6)) F X.1 X.2.1 (ci := 2) q_362 rfl (hP.c6 hc h6) d_K_partOf_8 (n := 11) rfl ?_
  refine yy_goto (tgt := 15) F d_K_partOf_11 (by decide) ?_
  refine yy_astore_n (lv' := [(3, .ref (a_ad A c)), (0, .ref (a_ad A c)), (1, .int x), (2, .int y)]) F d_K_partOf_15 (n := 16) rfl (by decide) rfl ?_
  refine yy_new F X.1 X.2.1 (ci := 2) (ty := ty_P) (fs := [.int 0, .null, .null, .int 0, .int 0, .int 0]) rfl us_P tk_P q_362 q_363 q_16 hS (by decide) ⟨by decide, by decide⟩ d_K_partOf_16 (n := 19) rfl (fun Hn_1 On_1 zn_1 on_1 Sn_1 => ?_)
  have P1 : ck_at D ca z A σ Hn_1 := hP.ext ⟨by omega, on_1⟩
  refine yy_dup F d_K_partOf_19 (n := 20) rfl rfl ?_
  refine yy_aload_n F d_K_partOf_20 (n := 21) rfl 1 rfl ?_
  refine cr_store F X g_K_95_G g_K_95_P g_K_95_R P1 hc d_K_partOf_21 (n := 24) rfl ?_
  refine yy_aload_n F d_K_partOf_24 (n := 25) rfl 0 rfl ?_
  refine yy_aload_n F d_K_partOf_25 (n := 26) rfl 1 rfl ?_
  refine vd_start F X I hc P1 Sn_1 q_364 ⟨by decide, by decide⟩ (by simp [Value.category]) d_K_partOf_26 (n := 29) rfl ⟨by decide, by decide⟩ (fun _ hS_2 => ?_)
  refine yy_iload_n F d_K_partOf_29 (n := 30) rfl 2 rfl ?_
  refine yy_iadd F d_K_partOf_30 (n := 31) rfl ?_
  refine yy_iload_n F d_K_partOf_31 (n := 32) rfl 3 rfl ?_
  refine yy_iload_n F d_K_partOf_32 (n := 33) rfl 2 rfl ?_
  refine yy_isub F d_K_partOf_33 (n := 34) rfl ?_
  have hne : a_sa A (k_bs σ c) ≠ H.size := fun q => by
    have h9 := va_at.lt (hP.sc hc).1
    have h8 : a_sa A (k_bs σ c) < H.size := h9
    omega
  refine yy_callv F hS_2 (c_P_init1 (a := H.size) (p := a_ad A c) (st := nI (k_start σ c) + x) (cn := y - x) X hzs) (yy_Bc F X.1 q_376 q_16) (yy_invI (nA := 4) F X.1 rfl (Or.inl q_374) q_375 q_376 ⟨by decide, by decide, by decide +kernel⟩ rfl d_K_partOf_34) d_K_partOf_34 (n := 37) rfl (by simp [Value.category]) ⟨by decide, by decide⟩ ⟨by decide, by decide⟩ (⟨On_1, P1.sc hc, hne⟩) (fun Hc_3 locs_c_3 qc_3 Sc_3 => ?_)
  obtain ⟨A2, k2⟩ := qc_3
  exact yy_aret F Sc_3 ⟨by decide, by decide⟩ rfl (Or.inr ⟨_, rfl⟩) d_K_partOf_37 ⟨some _, rfl, rfl, A2, ⟨by have := k2.1; omega, fun q hq => (k2.2 q (by simp; omega)).trans (on_1 q hq)⟩, by have := k2.1; omega⟩
set_option maxRecDepth 100000 in
set_option maxHeartbeats 4000000 in
theorem c_K_partOf0 {l : Launch} {z : State} {a0 : Array Value} {D : va_G} {ca : kca} (X : kcx l z a0 D ca) {A : kA} {σ : ks} {t : Nat} (I : iv t σ) {c : Nat} (hc : c < k_m σ) {x y : Int32} (h6 : ¬ k_kd σ c = 6) (h7 : ¬ k_kd σ c = 7) : yy_M l z y_K_partOf (.code y_K_partOf b_K_partOf 4 (some (.object "ContainerKit$Container"))) ({ frames := 3, cells := 1, slots := 6, locals := 60 }) [.ref (a_ad A c), .int x, .int y] (ck_at D ca z A σ) (yy_pr (fun r H H1 => r = some H.size ∧ va_at D kcl (H.size, .inr (2, [.int 6, .ref (a_sa A (k_bs σ c)), va_rf none, .int (nI (k_start σ c) + x), .int (y - x), .int (nI (s_ch (k_B σ c)))])) H1 ∧ yy_ext H H1 ∧ H1.size = H.size + 1)) := by
  refine yy_body (plainFor_of_name (by decide)) (Nat.le_of_ble_eq_true rfl) (fun b H F hS hP hH hnm => ?_)
  have hzs : z.heap.size ≤ H.size := hS.1
  refine yy_aload_n F d_K_partOf_0 (n := 1) rfl 0 rfl ?_
  refine yy_instNo F X.1 X.2.1 (ci := 1) q_362 (nc_GP X) rfl (hP.c0 hc h6 h7) d_K_partOf_1 (n := 4) rfl ?_
  refine yy_if_eq_t (tgt := 14) F d_K_partOf_4 (by decide) rfl ?_
  refine yy_null F d_K_partOf_14 (n := 15) rfl ?_
  refine yy_astore_nN (lv' := [(3, .null), (0, .ref (a_ad A c)), (1, .int x), (2, .int y)]) F d_K_partOf_15 (n := 16) rfl (by decide) rfl ?_
  refine yy_new F X.1 X.2.1 (ci := 2) (ty := ty_P) (fs := [.int 0, .null, .null, .int 0, .int 0, .int 0]) rfl us_P tk_P q_362 q_363 q_16 hS (by decide) ⟨by decide, by decide⟩ d_K_partOf_16 (n := 19) rfl (fun Hn_1 On_1 zn_1 on_1 Sn_1 => ?_)
  have P1 : ck_at D ca z A σ Hn_1 := hP.ext ⟨by omega, on_1⟩
  refine yy_dup F d_K_partOf_19 (n := 20) rfl rfl ?_
  refine yy_aload_n F d_K_partOf_20 (n := 21) rfl 1 rfl ?_
  refine cr_store F X g_K_95_G g_K_95_P g_K_95_R P1 hc d_K_partOf_21 (n := 24) rfl ?_
  refine yy_aload_nN F d_K_partOf_24 (n := 25) rfl 0 rfl ?_
  refine yy_aload_n F d_K_partOf_25 (n := 26) rfl 1 rfl ?_
  refine vd_start F X I hc P1 Sn_1 q_364 ⟨by decide, by decide⟩ (by simp [Value.category]) d_K_partOf_26 (n := 29) rfl ⟨by decide, by decide⟩ (fun _ hS_2 => ?_)
  refine yy_iload_n F d_K_partOf_29 (n := 30) rfl 2 rfl ?_
  refine yy_iadd F d_K_partOf_30 (n := 31) rfl ?_
  refine yy_iload_n F d_K_partOf_31 (n := 32) rfl 3 rfl ?_
  refine yy_iload_n F d_K_partOf_32 (n := 33) rfl 2 rfl ?_
  refine yy_isub F d_K_partOf_33 (n := 34) rfl ?_
  have hne : a_sa A (k_bs σ c) ≠ H.size := fun q => by
    have h9 := va_at.lt (hP.sc hc).1
    have h8 : a_sa A (k_bs σ c) < H.size := h9
    omega
  refine yy_callv F hS_2 (c_P_init0 (a := H.size) (st := nI (k_start σ c) + x) (cn := y - x) X hzs) (yy_Bc F X.1 q_376 q_16) (yy_invI (nA := 4) F X.1 rfl (Or.inl q_374) q_375 q_376 ⟨by decide, by decide, by decide +kernel⟩ rfl d_K_partOf_34) d_K_partOf_34 (n := 37) rfl (by simp [Value.category]) ⟨by decide, by decide⟩ ⟨by decide, by decide⟩ (⟨On_1, P1.sc hc, hne⟩) (fun Hc_3 locs_c_3 qc_3 Sc_3 => ?_)
  obtain ⟨A2, k2⟩ := qc_3
  exact yy_aret F Sc_3 ⟨by decide, by decide⟩ rfl (Or.inr ⟨_, rfl⟩) d_K_partOf_37 ⟨some _, rfl, rfl, A2, ⟨by have := k2.1; omega, fun q hq => (k2.2 q (by simp; omega)).trans (on_1 q hq)⟩, by have := k2.1; omega⟩
set_option maxRecDepth 100000 in
set_option maxHeartbeats 4000000 in
theorem c_K_rangeOf7 {l : Launch} {z : State} {a0 : Array Value} {D : va_G} {ca : kca} (X : kcx l z a0 D ca) {A : kA} {σ : ks} {t : Nat} (I : iv t σ) {c : Nat} (hc : c < k_m σ) {x y : Int32} (h7 : k_kd σ c = 7) : yy_M l z y_K_rangeOf (.code y_K_rangeOf b_K_rangeOf 4 (some (.object "ContainerKit$Container"))) ({ frames := 3, cells := 1, slots := 4, locals := 59 }) [.ref (a_ad A c), .int x, .int y] (ck_at D ca z A σ) (yy_pr (fun r H H1 => r = some H.size ∧ va_at D kcl (H.size, .inr (3, [.int 7, .ref (a_sa A (k_bs σ c)), .int (ym_mx x (k_lo σ c)), .int (ym_mn y (k_hi σ c))])) H1 ∧ yy_ext H H1 ∧ H1.size = H.size + 1)) := by
  refine yy_body (plainFor_of_name (by decide)) (Nat.le_of_ble_eq_true rfl) (fun b H F hS hP hH hnm => ?_)
  have hzs : z.heap.size ≤ H.size := hS.1
  refine yy_aload_n F d_K_rangeOf_0 (n := 1) rfl 0 rfl ?_
  refine yy_instS (q := (R_R, T_R, 4)) F X.1 X.2.1 (ci := 3) q_338 rfl (hP.c7 hc h7) d_K_rangeOf_1 (n := 4) rfl ?_
  refine yy_if_eq_f (tgt := 40) F d_K_rangeOf_4 (n := 7) rfl (by decide) (by decide) ?_
  refine yy_aload_n F d_K_rangeOf_7 (n := 8) rfl 0 rfl ?_
  refine yy_castS (q := (R_R, T_R, 4)) F X.1 X.2.1 (ci := 3) q_338 rfl (hP.c7 hc h7) d_K_rangeOf_8 (n := 11) rfl ?_
  refine yy_astore_n (lv' := [(3, .ref (a_ad A c)), (0, .ref (a_ad A c)), (1, .int x), (2, .int y)]) F d_K_rangeOf_11 (n := 12) rfl (by decide) rfl ?_
  refine yy_new F X.1 X.2.1 (ci := 3) (ty := ty_R) (fs := [.int 0, .null, .int 0, .int 0]) rfl us_R tk_R q_338 q_339 q_15 hS (by decide) ⟨by decide, by decide⟩ d_K_rangeOf_12 (n := 15) rfl (fun Hn_1 On_1 zn_1 on_1 Sn_1 => ?_)
  have P1 : ck_at D ca z A σ Hn_1 := hP.ext ⟨by omega, on_1⟩
  refine yy_dup F d_K_rangeOf_15 (n := 16) rfl rfl ?_
  refine yy_aload_n F d_K_rangeOf_16 (n := 17) rfl 0 rfl ?_
  refine yy_get F X.1 X.2.1 g_K_216_R (P1.c7 hc h7) rfl d_K_rangeOf_17 (n := 20) rfl ?_
  refine yy_iload_n F d_K_rangeOf_20 (n := 21) rfl 2 rfl ?_
  refine yy_aload_n F d_K_rangeOf_21 (n := 22) rfl 0 rfl ?_
  refine yy_get F X.1 X.2.1 g_K_217_R (P1.c7 hc h7) rfl d_K_rangeOf_22 (n := 25) rfl ?_
  refine yy_cri (w := (ym_mx x (k_lo σ c))) F Sn_1 (c_X_max (x := x) (y := k_lo σ c) X) (yy_Bc F X.1 q_331 q_14) (yy_invS (nA := 2) (bytes := b_X_max) (maxL := 2) (retY := (some .int)) F X.1 q_340 q_330 q_14 q_331 ⟨by decide, by decide, by decide +kernel⟩ rfl d_K_rangeOf_25) d_K_rangeOf_25 (n := 28) rfl (by simp [Value.category]) ⟨by decide, by decide⟩ ⟨by decide, by decide⟩ ⟨rfl, rfl⟩ trivial rfl (fun _ hSw_2 => ?_)
  refine yy_iload_n F d_K_rangeOf_28 (n := 29) rfl 3 rfl ?_
  refine yy_aload_n F d_K_rangeOf_29 (n := 30) rfl 0 rfl ?_
  refine yy_get F X.1 X.2.1 g_K_225_R (P1.c7 hc h7) rfl d_K_rangeOf_30 (n := 33) rfl ?_
  refine yy_cri (w := (ym_mn y (k_hi σ c))) F hSw_2 (c_X_min (x := y) (y := k_hi σ c) X) (yy_Bc F X.1 q_343 q_14) (yy_invS (nA := 2) (bytes := b_X_min) (maxL := 2) (retY := (some .int)) F X.1 q_341 q_342 q_14 q_343 ⟨by decide, by decide, by decide +kernel⟩ rfl d_K_rangeOf_33) d_K_rangeOf_33 (n := 36) rfl (by simp [Value.category]) ⟨by decide, by decide⟩ ⟨by decide, by decide⟩ ⟨rfl, rfl⟩ trivial rfl (fun _ hSw_3 => ?_)
  refine yy_callv F hSw_3 (c_R_init (a := H.size) (lo := ym_mx x (k_lo σ c)) (hi := ym_mn y (k_hi σ c)) (sa := a_sa A (k_bs σ c)) X hzs) (yy_Bc F X.1 q_346 q_15) (yy_invI (nA := 3) F X.1 rfl (Or.inl q_344) q_345 q_346 ⟨by decide, by decide, by decide +kernel⟩ rfl d_K_rangeOf_36) d_K_rangeOf_36 (n := 39) rfl (by simp [Value.category]) ⟨by decide, by decide⟩ ⟨by decide, by decide⟩ On_1 (fun Hc_4 locs_c_4 qc_4 Sc_4 => ?_)
  obtain ⟨A2, k2⟩ := qc_4
  exact yy_aret F Sc_4 ⟨by decide, by decide⟩ rfl (Or.inr ⟨_, rfl⟩) d_K_rangeOf_39 ⟨some _, rfl, rfl, A2, ⟨by have := k2.1; omega, fun q hq => (k2.2 q (by simp; omega)).trans (on_1 q hq)⟩, by have := k2.1; omega⟩
set_option maxRecDepth 100000 in
set_option maxHeartbeats 4000000 in
theorem c_K_rangeOf0 {l : Launch} {z : State} {a0 : Array Value} {D : va_G} {ca : kca} (X : kcx l z a0 D ca) {A : kA} {σ : ks} {t : Nat} (I : iv t σ) {c : Nat} (hc : c < k_m σ) {x y : Int32} (h6 : ¬ k_kd σ c = 6) (h7 : ¬ k_kd σ c = 7) : yy_M l z y_K_rangeOf (.code y_K_rangeOf b_K_rangeOf 4 (some (.object "ContainerKit$Container"))) ({ frames := 3, cells := 1, slots := 4, locals := 59 }) [.ref (a_ad A c), .int x, .int y] (ck_at D ca z A σ) (yy_pr (fun r H H1 => r = some H.size ∧ va_at D kcl (H.size, .inr (3, [.int 7, .ref (a_sa A (k_bs σ c)), .int (x), .int (y)])) H1 ∧ yy_ext H H1 ∧ H1.size = H.size + 1)) := by
  refine yy_body (plainFor_of_name (by decide)) (Nat.le_of_ble_eq_true rfl) (fun b H F hS hP hH hnm => ?_)
  have hzs : z.heap.size ≤ H.size := hS.1
  refine yy_aload_n F d_K_rangeOf_0 (n := 1) rfl 0 rfl ?_
  refine yy_instNo F X.1 X.2.1 (ci := 1) q_338 (nc_GR X) rfl (hP.c0 hc h6 h7) d_K_rangeOf_1 (n := 4) rfl ?_
  refine yy_if_eq_t (tgt := 40) F d_K_rangeOf_4 (by decide) rfl ?_
  refine yy_new F X.1 X.2.1 (ci := 3) (ty := ty_R) (fs := [.int 0, .null, .int 0, .int 0]) rfl us_R tk_R q_338 q_339 q_15 hS (by decide) ⟨by decide, by decide⟩ d_K_rangeOf_40 (n := 43) rfl (fun Hn_1 On_1 zn_1 on_1 Sn_1 => ?_)
  have P1 : ck_at D ca z A σ Hn_1 := hP.ext ⟨by omega, on_1⟩
  refine yy_dup F d_K_rangeOf_43 (n := 44) rfl rfl ?_
  refine yy_aload_n F d_K_rangeOf_44 (n := 45) rfl 0 rfl ?_
  refine cr_store F X g_K_95_G g_K_95_P g_K_95_R P1 hc d_K_rangeOf_45 (n := 48) rfl ?_
  refine yy_iload_n F d_K_rangeOf_48 (n := 49) rfl 1 rfl ?_
  refine yy_iload_n F d_K_rangeOf_49 (n := 50) rfl 2 rfl ?_
  refine yy_callv F Sn_1 (c_R_init (a := H.size) (lo := x) (hi := y) (sa := a_sa A (k_bs σ c)) X hzs) (yy_Bc F X.1 q_346 q_15) (yy_invI (nA := 3) F X.1 rfl (Or.inl q_344) q_345 q_346 ⟨by decide, by decide, by decide +kernel⟩ rfl d_K_rangeOf_50) d_K_rangeOf_50 (n := 53) rfl (by simp [Value.category]) ⟨by decide, by decide⟩ ⟨by decide, by decide⟩ On_1 (fun Hc_2 locs_c_2 qc_2 Sc_2 => ?_)
  obtain ⟨A2, k2⟩ := qc_2
  exact yy_aret F Sc_2 ⟨by decide, by decide⟩ rfl (Or.inr ⟨_, rfl⟩) d_K_rangeOf_53 ⟨some _, rfl, rfl, A2, ⟨by have := k2.1; omega, fun q hq => (k2.2 q (by simp; omega)).trans (on_1 q hq)⟩, by have := k2.1; omega⟩
def sp_create (σ : ks) (x : Int32) : kr := kdem (k_btw x 5) e_ia σ (kdem (!decide (k_m σ = 10)) e_is σ (none, nI (k_m σ), k_newB σ x))
set_option maxRecDepth 100000 in
set_option maxHeartbeats 4000000 in
theorem c_K_create {l : Launch} {z : State} {a0 : Array Value} {D : va_G} {ca : kca} (X : kcx l z a0 D ca) {A : kA} {σ : ks} {t : Nat} (I : iv t σ) {x : Int32} : yy_M l z y_K_create (.code y_K_create b_K_create 2 (some .int)) ({ frames := 7, cells := 4, slots := 56, locals := 102 }) [.ref (a_k A), .int x] (ck_at D ca z A σ) (kqi D ca z A (sp_create σ x)) := by
  refine yy_body (plainFor_of_name (by decide)) (Nat.le_of_ble_eq_true rfl) (fun b H F hS hP hH hnm => ?_)
  refine yy_iload_n F d_K_create_0 (n := 1) rfl 1 rfl ?_
  refine yy_if_lt (tgt := 13) F d_K_create_1 (n := 4) rfl (by decide) (fun h0 => ?_) (fun h0 => ?_)
  · refine yy_iconst (v := 0) F d_K_create_13 (n := 14) rfl rfl ?_
    exact yy_ctp F hS (c_K_demandArgument_no X) (yy_Bc F X.1 q_72 q_1) (yy_invS (nA := 1) (bytes := b_K_demandArgument) (maxL := 1) (retY := none) F X.1 q_70 q_71 q_1 q_72 ⟨by decide, by decide, by decide +kernel⟩ rfl d_K_create_14) d_K_create_14 (by simp [Value.category]) ⟨by decide, by decide⟩ ⟨by decide, by decide⟩ trivial (fun H1 hx => kq_no (by unfold sp_create; rw [show k_btw x 5 = false by simp [k_btw, h0]]; rfl) hP hx)
  · refine yy_iload_n F d_K_create_4 (n := 5) rfl 1 rfl ?_
    refine yy_iconst (v := 5) F d_K_create_5 (n := 6) rfl rfl ?_
    refine yy_ic_gt (tgt := 13) F d_K_create_6 (n := 9) rfl (by decide) (fun h1 => ?_) (fun h1 => ?_)
    · refine yy_iconst (v := 0) F d_K_create_13 (n := 14) rfl rfl ?_
      exact yy_ctp F hS (c_K_demandArgument_no X) (yy_Bc F X.1 q_72 q_1) (yy_invS (nA := 1) (bytes := b_K_demandArgument) (maxL := 1) (retY := none) F X.1 q_70 q_71 q_1 q_72 ⟨by decide, by decide, by decide +kernel⟩ rfl d_K_create_14) d_K_create_14 (by simp [Value.category]) ⟨by decide, by decide⟩ ⟨by decide, by decide⟩ trivial (fun H1 hx => kq_no (by unfold sp_create; rw [show k_btw x 5 = false by simp [k_btw, h1]]; rfl) hP hx)
    · have hb : k_btw x 5 = true := by simp [k_btw, h0, h1]
      have h10 := I.m10
      refine yy_iconst (v := 1) F d_K_create_9 (n := 10) rfl rfl ?_
      refine yy_goto (tgt := 14) F d_K_create_10 (by decide) ?_
      refine yy_crv F hS (c_K_demandArgument X) (yy_Bc F X.1 q_72 q_1) (yy_invS (nA := 1) (bytes := b_K_demandArgument) (maxL := 1) (retY := none) F X.1 q_70 q_71 q_1 q_72 ⟨by decide, by decide, by decide +kernel⟩ rfl d_K_create_14) d_K_create_14 (n := 17) rfl (by simp [Value.category]) ⟨by decide, by decide⟩ ⟨Nat.zero_le _, Nat.zero_le _⟩ ⟨rfl, rfl⟩ trivial (fun _ hSw_3 => ?_)
      refine yy_aload_n F d_K_create_17 (n := 18) rfl 0 rfl ?_
      by_cases hm : k_m σ = 10
      · have hmd := decide_eq_true hm
        exact yy_ctp F hSw_3 (c_K_demandOneMoreContainer_no X I hm) (yy_Bc F X.1 q_147 q_1) (yy_invV (nA := 0) (C := R_K) (bytes := b_K_demandOneMoreContainer) (maxL := 1) (retY := none) F X.1 q_144 q_146 qs_K_demandOneMoreContainer q_147 ⟨by decide, by decide, by decide +kernel⟩ (yy_recv F.N X.2.1 (ci := 5) rfl hP.k) rfl d_K_create_18) d_K_create_18 (by simp [Value.category]) ⟨by decide, by decide⟩ ⟨by decide, by decide⟩ hP (fun H1 hx => kq_no (by unfold sp_create; rw [hb, hmd]; rfl) hP hx)
      · have hmd := decide_eq_false hm
        have h10 := I.m10
        have hm9 : k_m σ < 10 := by omega
        have hzs : z.heap.size ≤ H.size := hS.1
        refine yy_crv F hSw_3 (c_K_demandOneMoreContainer X I hm9) (yy_Bc F X.1 q_147 q_1) (yy_invV (nA := 0) (C := R_K) (bytes := b_K_demandOneMoreContainer) (maxL := 1) (retY := none) F X.1 q_144 q_146 qs_K_demandOneMoreContainer q_147 ⟨by decide, by decide, by decide +kernel⟩ (yy_recv F.N X.2.1 (ci := 5) rfl hP.k) rfl d_K_create_18) d_K_create_18 (n := 21) rfl (by simp [Value.category]) ⟨by decide, by decide⟩ ⟨Nat.zero_le _, Nat.zero_le _⟩ ⟨rfl, rfl⟩ hP (fun _ hSw_5 => ?_)
        refine yy_aload_n F d_K_create_21 (n := 22) rfl 0 rfl ?_
        refine yy_new F X.1 X.2.1 (ci := 1) (ty := ty_G) (fs := [.int 0, .null]) rfl us_G tk_G q_164 q_165 q_10 hSw_5 (by decide) ⟨by decide, by decide⟩ d_K_create_22 (n := 25) rfl (fun Hn_6 On_6 zn_6 on_6 Sn_6 => ?_)
        refine yy_dup F d_K_create_25 (n := 26) rfl rfl ?_
        refine yy_iload_n F d_K_create_26 (n := 27) rfl 1 rfl ?_
        refine yy_callv F Sn_6 (c_G_init (a := H.size) (kd := x) X hzs) (yy_Bc F X.1 q_168 q_10) (yy_invI (nA := 1) F X.1 rfl (Or.inl q_166) q_167 q_168 ⟨by decide, by decide, by decide +kernel⟩ rfl d_K_create_27) d_K_create_27 (n := 30) rfl (by simp [Value.category]) ⟨by decide, by decide⟩ ⟨by decide, by decide⟩ On_6 (fun Hc_7 locs_c_7 qc_7 Sc_7 => ?_)
        obtain ⟨A2, T2, y2, x2⟩ := qc_7
        have zz1 : Hn_6.size = H.size + 1 := zn_6
        rw [zz1] at A2 T2 y2 x2
        have xo : yy_ext H Hc_7 := ⟨by omega, fun q hq => (x2 q (by omega) (by omega)).trans (on_6 q hq)⟩
        have P2 := hP.ext xo
        refine yy_calli F Sc_7 (c_K_keepContainer (A := A) (σ := σ) (ci := 1) X I hm9 rfl q_1131) (yy_Bc F X.1 q_223 q_1) (yy_invV (nA := 1) (C := R_K) (bytes := b_K_keepContainer) (maxL := 3) (retY := (some .int)) F X.1 q_220 q_222 qs_K_keepContainer q_223 ⟨by decide, by decide, by decide +kernel⟩ (yy_recv F.N X.2.1 (ci := 5) rfl P2.k) rfl d_K_create_30) d_K_create_30 (n := 33) rfl (by simp [Value.category]) ⟨by decide, by decide⟩ ⟨by decide, by decide⟩ ⟨P2, A2⟩ (fun rw_8 Hw_8 locs_w_8 qw_8 Sw_8 => ?_)
        obtain ⟨erw_8, K9, R9, k9⟩ := qw_8
        rw [erw_8]
        have n0 : ∀ q : Nat, q ≠ a_k A → q ≠ a_ka A → q ∉ [a_k A, a_ka A] := fun q h h2 => by simp; exact ⟨h, h2⟩
        have lk : a_k A < H.size := va_at.lt hP.k
        have lka : a_ka A < H.size := va_at.lt hP.ka
        have hkd : ¬ x = 6 ∧ ¬ x = 7 := ⟨fun q => h1 (by rw [q]; decide), fun q => h1 (by rw [q]; decide)⟩
        have Pn := hP.growB (H1 := Hw_8) (kd := x) I hm9 hzs (by rw [k9.1]; omega) hkd K9 R9 (fun q hq q1 q2 => (k9.2 q (n0 q q1 q2)).trans (xo.2 q hq)) (va_at.kept A2 (k9.2 _ (n0 _ (by show H.size ≠ a_k A; omega) (by show H.size ≠ a_ka A; omega)))) ⟨va_at.kept T2.1 (k9.2 _ (n0 _ (by show H.size + 1 ≠ a_k A; omega) (by show H.size + 1 ≠ a_ka A; omega))), va_at.kept T2.2.1 (k9.2 _ (n0 _ (by show H.size + 1 + 1 ≠ a_k A; omega) (by show H.size + 1 + 1 ≠ a_ka A; omega))), va_at.kept T2.2.2 (k9.2 _ (n0 _ (by show H.size + 1 + 2 ≠ a_k A; omega) (by show H.size + 1 + 2 ≠ a_ka A; omega)))⟩
        have kk9 : kpA A H Hw_8 := ⟨by rw [k9.1]; omega, fun q hq h0 => (k9.2 q (n0 q (fun e => by rw [e, hP.ok.1] at h0; cases h0) (fun e => by rw [e, hP.ok.2.1] at h0; cases h0))).trans (xo.2 q hq)⟩
        exact yy_iret F Sw_8 ⟨by decide, by decide⟩ rfl d_K_create_33 (by rw [show sp_create σ x = (none, nI (k_m σ), k_newB σ x) by unfold sp_create; rw [hb, hmd]; rfl]; exact ⟨rfl, ⟨_, Pn, kA_ext.B⟩, kk9⟩)
theorem k_isl_s {kd : Int32} (h : k_isl kd = true) : k_iss kd = false := by
  unfold k_isl at h
  simp only [Bool.or_eq_true, decide_eq_true_eq] at h
  rcases h with (h | h) | h <;> (rw [h]; rfl)
def k_vok (σ : ks) (c : Nat) (x y : Int32) : Bool := !decide (y < x) && (k_iss (k_kd σ c) || (!decide (x < 0) && !decide (nI (k_size σ c) < y)))
def k_vw (σ : ks) (c : Nat) (x y : Int32) : kC := if k_iss (k_kd σ c) = true then (7, k_bs σ c, c, 0, 0, 0, if k_kd σ c = 7 then ym_mx x (k_lo σ c) else x, if k_kd σ c = 7 then ym_mn y (k_hi σ c) else y) else (6, k_bs σ c, c, k_start σ c + cN x, cN y - cN x, s_ch (k_B σ c), 0, 0)
def sp_view (σ : ks) (o x y : Int32) : kr := kbind (ch_con σ o) σ (kdem (k_isl (k_kd σ (cN o)) || k_iss (k_kd σ (cN o))) e_uo σ (kdem (!k_stale σ (cN o)) e_rt σ (kdem (k_vok σ (cN o) x y) e_ia σ (kdem (!decide (k_m σ = 10)) e_is σ (none, nI (k_m σ), k_newV σ (k_vw σ (cN o) x y))))))
set_option maxRecDepth 100000 in
set_option maxHeartbeats 4000000 in
theorem c_K_view {l : Launch} {z : State} {a0 : Array Value} {D : va_G} {ca : kca} (X : kcx l z a0 D ca) {A : kA} {σ : ks} {t : Nat} (I : iv t σ) {o x y : Int32} : yy_M l z y_K_view (.code y_K_view b_K_view 5 (some .int)) ({ frames := 7, cells := 1, slots := 6, locals := 103 }) [.ref (a_k A), .int o, .int x, .int y] (ck_at D ca z A σ) (kqi D ca z A (sp_view σ o x y)) := by
  refine yy_body (plainFor_of_name (by decide)) (Nat.le_of_ble_eq_true rfl) (fun b H F hS hP hH hnm => ?_)
  cases hE : ch_con σ o with
  | some E =>
    obtain ⟨hin, rfl⟩ := ch_con_some hE
    refine yy_aload_n F d_K_view_0 (n := 1) rfl 0 rfl ?_
    refine yy_iload_n F d_K_view_1 (n := 2) rfl 1 rfl ?_
    exact yy_ctp F hS (c_K_containerAt_no X I hin) (yy_Bc F X.1 q_237 q_1) (yy_invV (nA := 1) (C := R_K) (bytes := b_K_containerAt) (maxL := 2) (retY := (some (.object "ContainerKit$Container"))) F X.1 q_234 q_236 qs_K_containerAt q_237 ⟨by decide, by decide, by decide +kernel⟩ (yy_recv F.N X.2.1 (ci := 5) rfl hP.k) rfl d_K_view_2) d_K_view_2 (by simp [Value.category]) ⟨by decide, by decide⟩ ⟨by decide, by decide⟩ hP (fun H1 hx => kq_no (by unfold sp_view; rw [hE]; rfl) hP hx)
  | none =>
    obtain ⟨hc, ex⟩ := ch_con_none I.m10 hE
    refine yy_aload_n F d_K_view_0 (n := 1) rfl 0 rfl ?_
    refine yy_iload_n F d_K_view_1 (n := 2) rfl 1 rfl ?_
    refine yy_crr (w := (some (a_ad A (cN o)))) F hS (k_cat X I hc ex) (yy_Bc F X.1 q_237 q_1) (yy_invV (nA := 1) (C := R_K) (bytes := b_K_containerAt) (maxL := 2) (retY := (some (.object "ContainerKit$Container"))) F X.1 q_234 q_236 qs_K_containerAt q_237 ⟨by decide, by decide, by decide +kernel⟩ (yy_recv F.N X.2.1 (ci := 5) rfl hP.k) rfl d_K_view_2) d_K_view_2 (n := 5) rfl (by simp [Value.category]) ⟨by decide, by decide⟩ ⟨Nat.zero_le _, Nat.zero_le _⟩ ⟨rfl, rfl⟩ hP rfl (fun _ hSw_2 => ?_)
    refine yy_astore (lv' := [(4, .ref (a_ad A (cN o))), (0, .ref (a_k A)), (1, .int o), (2, .int x), (3, .int y)]) F d_K_view_5 (n := 7) rfl (by decide) rfl ?_
    refine yy_aload F d_K_view_7 (n := 9) rfl 0 rfl ?_
    refine yy_cri (w := (ym_n (k_isl (k_kd σ (cN o))))) F hSw_2 (c_C_isList (A := A) (σ := σ) (c := cN o) X I hc) (yy_Bc F X.1 q_260 q_9) (yy_invC (nA := 0) (x := y_C_isList) F X hP hc q_254 q_256 (k_dec X q_255 q_260) (k_sel q_259 q_257 q_258 σ (cN o)) q_255 ⟨by decide, by decide, by decide +kernel⟩ rfl d_K_view_9) d_K_view_9 (n := 12) rfl (by simp [Value.category]) ⟨by decide, by decide⟩ ⟨Nat.zero_le _, Nat.zero_le _⟩ ⟨rfl, rfl⟩ hP rfl (fun _ hSw_3 => ?_)
    cases hl : k_isl (k_kd σ (cN o))
    · refine yy_if_ne_f (tgt := 23) F d_K_view_12 (n := 15) rfl (by decide) rfl ?_
      refine yy_aload F d_K_view_15 (n := 17) rfl 0 rfl ?_
      refine yy_cri (w := (ym_n (k_iss (k_kd σ (cN o))))) F hSw_3 (c_C_isSorted (A := A) (σ := σ) (c := cN o) X I hc) (yy_Bc F X.1 q_267 q_9) (yy_invC (nA := 0) (x := y_C_isSorted) F X hP hc q_261 q_263 (k_dec X q_262 q_267) (k_sel q_266 q_264 q_265 σ (cN o)) q_262 ⟨by decide, by decide, by decide +kernel⟩ rfl d_K_view_17) d_K_view_17 (n := 20) rfl (by simp [Value.category]) ⟨by decide, by decide⟩ ⟨Nat.zero_le _, Nat.zero_le _⟩ ⟨rfl, rfl⟩ hP rfl (fun _ hSw_4 => ?_)
      cases hso : k_iss (k_kd σ (cN o))
      · refine yy_if_eq_t (tgt := 27) F d_K_view_20 (by decide) rfl ?_
        refine yy_iconst (v := 0) F d_K_view_27 (n := 28) rfl rfl ?_
        exact yy_ctp F hSw_4 (c_K_demandKind_no X) (yy_Bc F X.1 q_270 q_1) (yy_invS (nA := 1) (bytes := b_K_demandKind) (maxL := 1) (retY := none) F X.1 q_268 q_269 q_1 q_270 ⟨by decide, by decide, by decide +kernel⟩ rfl d_K_view_28) d_K_view_28 (by simp [Value.category]) ⟨by decide, by decide⟩ ⟨by decide, by decide⟩ trivial (fun H1 hx => kq_no (by unfold sp_view; rw [hE, hl, hso]; rfl) hP hx)
      · refine yy_if_eq_f (tgt := 27) F d_K_view_20 (n := 23) rfl (by decide) (by decide) ?_
        have hkk : (k_isl (k_kd σ (cN o)) || k_iss (k_kd σ (cN o))) = true := by rw [hso]; exact Bool.or_true _
        refine yy_iconst (v := 1) F d_K_view_23 (n := 24) rfl rfl ?_
        refine yy_goto (tgt := 28) F d_K_view_24 (by decide) ?_
        refine yy_crv F hSw_4 (c_K_demandKind X) (yy_Bc F X.1 q_270 q_1) (yy_invS (nA := 1) (bytes := b_K_demandKind) (maxL := 1) (retY := none) F X.1 q_268 q_269 q_1 q_270 ⟨by decide, by decide, by decide +kernel⟩ rfl d_K_view_28) d_K_view_28 (n := 31) rfl (by simp [Value.category]) ⟨by decide, by decide⟩ ⟨Nat.zero_le _, Nat.zero_le _⟩ ⟨rfl, rfl⟩ trivial (fun _ hSw_6 => ?_)
        refine yy_aload F d_K_view_31 (n := 33) rfl 0 rfl ?_
        cases hs : k_stale σ (cN o)
        · refine yy_crv F hSw_6 (c_K_demandFresh X I hc hs) (yy_Bc F X.1 q_289 q_1) (yy_invS (nA := 1) (bytes := b_K_demandFresh) (maxL := 1) (retY := none) F X.1 q_287 q_288 q_1 q_289 ⟨by decide, by decide, by decide +kernel⟩ rfl d_K_view_33) d_K_view_33 (n := 36) rfl (by simp [Value.category]) ⟨by decide, by decide⟩ ⟨Nat.zero_le _, Nat.zero_le _⟩ ⟨rfl, rfl⟩ hP (fun _ hSw_7 => ?_)
          refine yy_iload_n F d_K_view_36 (n := 37) rfl 3 rfl ?_
          refine yy_iload_n F d_K_view_37 (n := 38) rfl 4 rfl ?_
          refine yy_ic_gt (tgt := 66) F d_K_view_38 (n := 41) rfl (by decide) (fun hgt => ?_) (fun hgt => ?_)
          · refine yy_iconst (v := 0) F d_K_view_66 (n := 67) rfl rfl ?_
            exact yy_ctp F hSw_7 (c_K_demandArgument_no X) (yy_Bc F X.1 q_72 q_1) (yy_invS (nA := 1) (bytes := b_K_demandArgument) (maxL := 1) (retY := none) F X.1 q_70 q_71 q_1 q_72 ⟨by decide, by decide, by decide +kernel⟩ rfl d_K_view_67) d_K_view_67 (by simp [Value.category]) ⟨by decide, by decide⟩ ⟨by decide, by decide⟩ trivial (fun H1 hx => kq_no (by unfold sp_view; rw [hE, hkk, hs, show k_vok σ (cN o) x y = false by simp [k_vok, hgt]]; rfl) hP hx)
          · refine yy_aload F d_K_view_41 (n := 43) rfl 0 rfl ?_
            refine yy_cri (w := (ym_n true)) F hSw_7 (c_C_isSorted (A := A) (σ := σ) (c := cN o) X I hc) (yy_Bc F X.1 q_267 q_9) (yy_invC (nA := 0) (x := y_C_isSorted) F X hP hc q_261 q_263 (k_dec X q_262 q_267) (k_sel q_266 q_264 q_265 σ (cN o)) q_262 ⟨by decide, by decide, by decide +kernel⟩ rfl d_K_view_43) d_K_view_43 (n := 46) rfl (by simp [Value.category]) ⟨by decide, by decide⟩ ⟨Nat.zero_le _, Nat.zero_le _⟩ ⟨rfl, rfl⟩ hP (by rw [hso]) (fun _ hSw_9 => ?_)
            refine yy_if_ne_t (tgt := 62) F d_K_view_46 (by decide) (by decide) ?_
            have hvo : k_vok σ (cN o) x y = true := by simp [k_vok, hgt, hso]
            refine yy_iconst (v := 1) F d_K_view_62 (n := 63) rfl rfl ?_
            refine yy_goto (tgt := 67) F d_K_view_63 (by decide) ?_
            refine yy_crv F hSw_9 (c_K_demandArgument X) (yy_Bc F X.1 q_72 q_1) (yy_invS (nA := 1) (bytes := b_K_demandArgument) (maxL := 1) (retY := none) F X.1 q_70 q_71 q_1 q_72 ⟨by decide, by decide, by decide +kernel⟩ rfl d_K_view_67) d_K_view_67 (n := 70) rfl (by simp [Value.category]) ⟨by decide, by decide⟩ ⟨Nat.zero_le _, Nat.zero_le _⟩ ⟨rfl, rfl⟩ trivial (fun _ hSw_10 => ?_)
            refine yy_aload_n F d_K_view_70 (n := 71) rfl 1 rfl ?_
            by_cases hm : k_m σ = 10
            · have hmd := decide_eq_true hm
              exact yy_ctp F hSw_10 (c_K_demandOneMoreContainer_no X I hm) (yy_Bc F X.1 q_147 q_1) (yy_invV (nA := 0) (C := R_K) (bytes := b_K_demandOneMoreContainer) (maxL := 1) (retY := none) F X.1 q_144 q_146 qs_K_demandOneMoreContainer q_147 ⟨by decide, by decide, by decide +kernel⟩ (yy_recv F.N X.2.1 (ci := 5) rfl hP.k) rfl d_K_view_71) d_K_view_71 (by simp [Value.category]) ⟨by decide, by decide⟩ ⟨by decide, by decide⟩ hP (fun H1 hx => kq_no (by unfold sp_view; rw [hE, hkk, hs, hvo, hmd]; rfl) hP hx)
            · have hmd := decide_eq_false hm
              have h10 := I.m10
              have hm9 : k_m σ < 10 := by omega
              have hzs : z.heap.size ≤ H.size := hS.1
              refine yy_crv F hSw_10 (c_K_demandOneMoreContainer X I hm9) (yy_Bc F X.1 q_147 q_1) (yy_invV (nA := 0) (C := R_K) (bytes := b_K_demandOneMoreContainer) (maxL := 1) (retY := none) F X.1 q_144 q_146 qs_K_demandOneMoreContainer q_147 ⟨by decide, by decide, by decide +kernel⟩ (yy_recv F.N X.2.1 (ci := 5) rfl hP.k) rfl d_K_view_71) d_K_view_71 (n := 74) rfl (by simp [Value.category]) ⟨by decide, by decide⟩ ⟨Nat.zero_le _, Nat.zero_le _⟩ ⟨rfl, rfl⟩ hP (fun _ hSw_12 => ?_)
              refine yy_aload_n F d_K_view_74 (n := 75) rfl 1 rfl ?_
              refine yy_aload F d_K_view_75 (n := 77) rfl 0 rfl ?_
              refine yy_cri (w := (ym_n true)) F hSw_12 (c_C_isSorted (A := A) (σ := σ) (c := cN o) X I hc) (yy_Bc F X.1 q_267 q_9) (yy_invC (nA := 0) (x := y_C_isSorted) F X hP hc q_261 q_263 (k_dec X q_262 q_267) (k_sel q_266 q_264 q_265 σ (cN o)) q_262 ⟨by decide, by decide, by decide +kernel⟩ rfl d_K_view_77) d_K_view_77 (n := 80) rfl (by simp [Value.category]) ⟨by decide, by decide⟩ ⟨Nat.zero_le _, Nat.zero_le _⟩ ⟨rfl, rfl⟩ hP (by rw [hso]) (fun _ hSw_13 => ?_)
              refine yy_if_eq_f (tgt := 93) F d_K_view_80 (n := 83) rfl (by decide) (by decide) ?_
              refine yy_aload F d_K_view_83 (n := 85) rfl 0 rfl ?_
              refine yy_iload_n F d_K_view_85 (n := 86) rfl 3 rfl ?_
              refine yy_iload_n F d_K_view_86 (n := 87) rfl 4 rfl ?_
              by_cases h7 : k_kd σ (cN o) = 7
              · have hvw : k_vw σ (cN o) x y = (7, k_bs σ (cN o), cN o, 0, 0, 0, ym_mx x (k_lo σ (cN o)), ym_mn y (k_hi σ (cN o))) := by unfold k_vw; rw [if_pos hso, if_pos h7, if_pos h7]
                refine yy_callr F hSw_13 (c_K_rangeOf7 (A := A) (σ := σ) (c := cN o) (x := x) (y := y) X I hc h7) (yy_Bc F X.1 q_337 q_1) (yy_invS (nA := 3) (bytes := b_K_rangeOf) (maxL := 4) (retY := (some (.object "ContainerKit$Container"))) F X.1 q_335 q_336 q_1 q_337 ⟨by decide, by decide, by decide +kernel⟩ rfl d_K_view_87) d_K_view_87 (n := 90) rfl (by simp [Value.category]) ⟨by decide, by decide⟩ ⟨by decide, by decide⟩ hP (fun rw_14 Hw_14 locs_w_14 qw_14 Sw_14 => ?_)
                obtain ⟨erw_14, A2, xo, y2⟩ := qw_14
                rw [erw_14]
                have P2 := hP.ext xo
                refine yy_goto (tgt := 100) F d_K_view_90 (by decide) ?_
                refine yy_calli F Sw_14 (c_K_keepContainer (A := A) (σ := σ) (ci := 3) X I hm9 rfl q_1130) (yy_Bc F X.1 q_223 q_1) (yy_invV (nA := 1) (C := R_K) (bytes := b_K_keepContainer) (maxL := 3) (retY := (some .int)) F X.1 q_220 q_222 qs_K_keepContainer q_223 ⟨by decide, by decide, by decide +kernel⟩ (yy_recv F.N X.2.1 (ci := 5) rfl P2.k) rfl d_K_view_100) d_K_view_100 (n := 103) rfl (by simp [Value.category]) ⟨by decide, by decide⟩ ⟨by decide, by decide⟩ ⟨P2, A2⟩ (fun rw_15 Hw_15 locs_w_15 qw_15 Sw_15 => ?_)
                obtain ⟨erw_15, K9, R9, k9⟩ := qw_15
                rw [erw_15]
                have n0 : ∀ q : Nat, q ≠ a_k A → q ≠ a_ka A → q ∉ [a_k A, a_ka A] := fun q h h2 => by simp; exact ⟨h, h2⟩
                have lk : a_k A < H.size := va_at.lt hP.k
                have lka : a_ka A < H.size := va_at.lt hP.ka
                have kk9 : kpA A H Hw_15 := ⟨by rw [k9.1]; omega, fun q hq h0 => (k9.2 q (n0 q (fun e => by rw [e, hP.ok.1] at h0; cases h0) (fun e => by rw [e, hP.ok.2.1] at h0; cases h0))).trans (xo.2 q hq)⟩
                have A3 := va_at.kept A2 (k9.2 _ (n0 _ (by show H.size ≠ a_k A; omega) (by show H.size ≠ a_ka A; omega)))
                have Pn := hP.growV (H1 := Hw_15) (x := k_vw σ (cN o) x y) I hm9 hzs (by rw [k9.1]; omega) (by rw [hvw]; exact ⟨I.bs hc, I.bb hc⟩) (fun _ => by rw [hvw]; exact hc) K9 R9 (fun q hq q1 q2 => (k9.2 q (n0 q q1 q2)).trans (xo.2 q hq)) A3 (by rw [hvw]; rfl) (by rw [hvw]; rfl)
                exact yy_iret F Sw_15 ⟨by decide, by decide⟩ rfl d_K_view_103 (by rw [show sp_view σ o x y = (none, nI (k_m σ), k_newV σ (k_vw σ (cN o) x y)) by unfold sp_view; rw [hE, hkk, hs, hvo, hmd]; rfl]; exact ⟨rfl, ⟨_, Pn, kA_ext.V⟩, kk9⟩)
              · have h6 : ¬ k_kd σ (cN o) = 6 := fun q => absurd hso (by rw [q]; decide)
                have hvw : k_vw σ (cN o) x y = (7, k_bs σ (cN o), cN o, 0, 0, 0, x, y) := by unfold k_vw; rw [if_pos hso, if_neg h7, if_neg h7]
                refine yy_callr F hSw_13 (c_K_rangeOf0 (A := A) (σ := σ) (c := cN o) (x := x) (y := y) X I hc h6 h7) (yy_Bc F X.1 q_337 q_1) (yy_invS (nA := 3) (bytes := b_K_rangeOf) (maxL := 4) (retY := (some (.object "ContainerKit$Container"))) F X.1 q_335 q_336 q_1 q_337 ⟨by decide, by decide, by decide +kernel⟩ rfl d_K_view_87) d_K_view_87 (n := 90) rfl (by simp [Value.category]) ⟨by decide, by decide⟩ ⟨by decide, by decide⟩ hP (fun rw_16 Hw_16 locs_w_16 qw_16 Sw_16 => ?_)
                obtain ⟨erw_16, A2, xo, y2⟩ := qw_16
                rw [erw_16]
                have P2 := hP.ext xo
                refine yy_goto (tgt := 100) F d_K_view_90 (by decide) ?_
                refine yy_calli F Sw_16 (c_K_keepContainer (A := A) (σ := σ) (ci := 3) X I hm9 rfl q_1130) (yy_Bc F X.1 q_223 q_1) (yy_invV (nA := 1) (C := R_K) (bytes := b_K_keepContainer) (maxL := 3) (retY := (some .int)) F X.1 q_220 q_222 qs_K_keepContainer q_223 ⟨by decide, by decide, by decide +kernel⟩ (yy_recv F.N X.2.1 (ci := 5) rfl P2.k) rfl d_K_view_100) d_K_view_100 (n := 103) rfl (by simp [Value.category]) ⟨by decide, by decide⟩ ⟨by decide, by decide⟩ ⟨P2, A2⟩ (fun rw_17 Hw_17 locs_w_17 qw_17 Sw_17 => ?_)
                obtain ⟨erw_17, K9, R9, k9⟩ := qw_17
                rw [erw_17]
                have n0 : ∀ q : Nat, q ≠ a_k A → q ≠ a_ka A → q ∉ [a_k A, a_ka A] := fun q h h2 => by simp; exact ⟨h, h2⟩
                have lk : a_k A < H.size := va_at.lt hP.k
                have lka : a_ka A < H.size := va_at.lt hP.ka
                have kk9 : kpA A H Hw_17 := ⟨by rw [k9.1]; omega, fun q hq h0 => (k9.2 q (n0 q (fun e => by rw [e, hP.ok.1] at h0; cases h0) (fun e => by rw [e, hP.ok.2.1] at h0; cases h0))).trans (xo.2 q hq)⟩
                have A3 := va_at.kept A2 (k9.2 _ (n0 _ (by show H.size ≠ a_k A; omega) (by show H.size ≠ a_ka A; omega)))
                have Pn := hP.growV (H1 := Hw_17) (x := k_vw σ (cN o) x y) I hm9 hzs (by rw [k9.1]; omega) (by rw [hvw]; exact ⟨I.bs hc, I.bb hc⟩) (fun _ => by rw [hvw]; exact hc) K9 R9 (fun q hq q1 q2 => (k9.2 q (n0 q q1 q2)).trans (xo.2 q hq)) A3 (by rw [hvw]; rfl) (by rw [hvw]; rfl)
                exact yy_iret F Sw_17 ⟨by decide, by decide⟩ rfl d_K_view_103 (by rw [show sp_view σ o x y = (none, nI (k_m σ), k_newV σ (k_vw σ (cN o) x y)) by unfold sp_view; rw [hE, hkk, hs, hvo, hmd]; rfl]; exact ⟨rfl, ⟨_, Pn, kA_ext.V⟩, kk9⟩)
        · exact yy_ctp F hSw_6 (c_K_demandFresh_no X I hc hs) (yy_Bc F X.1 q_289 q_1) (yy_invS (nA := 1) (bytes := b_K_demandFresh) (maxL := 1) (retY := none) F X.1 q_287 q_288 q_1 q_289 ⟨by decide, by decide, by decide +kernel⟩ rfl d_K_view_33) d_K_view_33 (by simp [Value.category]) ⟨by decide, by decide⟩ ⟨by decide, by decide⟩ hP (fun H1 hx => kq_no (by unfold sp_view; rw [hE, hkk, hs]; rfl) hP hx)
    · refine yy_if_ne_t (tgt := 23) F d_K_view_12 (by decide) (by decide) ?_
      have hkk : (k_isl (k_kd σ (cN o)) || k_iss (k_kd σ (cN o))) = true := by rw [hl]; rfl
      have hso : k_iss (k_kd σ (cN o)) = false := k_isl_s hl
      refine yy_iconst (v := 1) F d_K_view_23 (n := 24) rfl rfl ?_
      refine yy_goto (tgt := 28) F d_K_view_24 (by decide) ?_
      refine yy_crv F hSw_3 (c_K_demandKind X) (yy_Bc F X.1 q_270 q_1) (yy_invS (nA := 1) (bytes := b_K_demandKind) (maxL := 1) (retY := none) F X.1 q_268 q_269 q_1 q_270 ⟨by decide, by decide, by decide +kernel⟩ rfl d_K_view_28) d_K_view_28 (n := 31) rfl (by simp [Value.category]) ⟨by decide, by decide⟩ ⟨Nat.zero_le _, Nat.zero_le _⟩ ⟨rfl, rfl⟩ trivial (fun _ hSw_19 => ?_)
      refine yy_aload F d_K_view_31 (n := 33) rfl 0 rfl ?_
      cases hs : k_stale σ (cN o)
      · refine yy_crv F hSw_19 (c_K_demandFresh X I hc hs) (yy_Bc F X.1 q_289 q_1) (yy_invS (nA := 1) (bytes := b_K_demandFresh) (maxL := 1) (retY := none) F X.1 q_287 q_288 q_1 q_289 ⟨by decide, by decide, by decide +kernel⟩ rfl d_K_view_33) d_K_view_33 (n := 36) rfl (by simp [Value.category]) ⟨by decide, by decide⟩ ⟨Nat.zero_le _, Nat.zero_le _⟩ ⟨rfl, rfl⟩ hP (fun _ hSw_20 => ?_)
        refine yy_iload_n F d_K_view_36 (n := 37) rfl 3 rfl ?_
        refine yy_iload_n F d_K_view_37 (n := 38) rfl 4 rfl ?_
        refine yy_ic_gt (tgt := 66) F d_K_view_38 (n := 41) rfl (by decide) (fun hgt => ?_) (fun hgt => ?_)
        · refine yy_iconst (v := 0) F d_K_view_66 (n := 67) rfl rfl ?_
          exact yy_ctp F hSw_20 (c_K_demandArgument_no X) (yy_Bc F X.1 q_72 q_1) (yy_invS (nA := 1) (bytes := b_K_demandArgument) (maxL := 1) (retY := none) F X.1 q_70 q_71 q_1 q_72 ⟨by decide, by decide, by decide +kernel⟩ rfl d_K_view_67) d_K_view_67 (by simp [Value.category]) ⟨by decide, by decide⟩ ⟨by decide, by decide⟩ trivial (fun H1 hx => kq_no (by unfold sp_view; rw [hE, hkk, hs, show k_vok σ (cN o) x y = false by simp [k_vok, hgt]]; rfl) hP hx)
        · refine yy_aload F d_K_view_41 (n := 43) rfl 0 rfl ?_
          refine yy_cri (w := (ym_n false)) F hSw_20 (c_C_isSorted (A := A) (σ := σ) (c := cN o) X I hc) (yy_Bc F X.1 q_267 q_9) (yy_invC (nA := 0) (x := y_C_isSorted) F X hP hc q_261 q_263 (k_dec X q_262 q_267) (k_sel q_266 q_264 q_265 σ (cN o)) q_262 ⟨by decide, by decide, by decide +kernel⟩ rfl d_K_view_43) d_K_view_43 (n := 46) rfl (by simp [Value.category]) ⟨by decide, by decide⟩ ⟨Nat.zero_le _, Nat.zero_le _⟩ ⟨rfl, rfl⟩ hP (by rw [hso]) (fun _ hSw_22 => ?_)
          refine yy_if_ne_f (tgt := 62) F d_K_view_46 (n := 49) rfl (by decide) rfl ?_
          refine yy_iload_n F d_K_view_49 (n := 50) rfl 3 rfl ?_
          refine yy_if_lt (tgt := 66) F d_K_view_50 (n := 53) rfl (by decide) (fun h0 => ?_) (fun h0 => ?_)
          · refine yy_iconst (v := 0) F d_K_view_66 (n := 67) rfl rfl ?_
            exact yy_ctp F hSw_22 (c_K_demandArgument_no X) (yy_Bc F X.1 q_72 q_1) (yy_invS (nA := 1) (bytes := b_K_demandArgument) (maxL := 1) (retY := none) F X.1 q_70 q_71 q_1 q_72 ⟨by decide, by decide, by decide +kernel⟩ rfl d_K_view_67) d_K_view_67 (by simp [Value.category]) ⟨by decide, by decide⟩ ⟨by decide, by decide⟩ trivial (fun H1 hx => kq_no (by unfold sp_view; rw [hE, hkk, hs, show k_vok σ (cN o) x y = false by simp [k_vok, h0, hso]]; rfl) hP hx)
          · refine yy_iload_n F d_K_view_53 (n := 54) rfl 4 rfl ?_
            refine yy_aload F d_K_view_54 (n := 56) rfl 0 rfl ?_
            refine vd_count F X I hc hP hSw_22 q_312 ⟨by decide, by decide⟩ (by simp [Value.category]) d_K_view_56 (n := 59) rfl ⟨Nat.zero_le _, Nat.zero_le _⟩ (fun _ hS_24 => ?_)
            refine yy_ic_gt (tgt := 66) F d_K_view_59 (n := 62) rfl (by decide) (fun h1 => ?_) (fun h1 => ?_)
            · refine yy_iconst (v := 0) F d_K_view_66 (n := 67) rfl rfl ?_
              exact yy_ctp F hS_24 (c_K_demandArgument_no X) (yy_Bc F X.1 q_72 q_1) (yy_invS (nA := 1) (bytes := b_K_demandArgument) (maxL := 1) (retY := none) F X.1 q_70 q_71 q_1 q_72 ⟨by decide, by decide, by decide +kernel⟩ rfl d_K_view_67) d_K_view_67 (by simp [Value.category]) ⟨by decide, by decide⟩ ⟨by decide, by decide⟩ trivial (fun H1 hx => kq_no (by unfold sp_view; rw [hE, hkk, hs, show k_vok σ (cN o) x y = false by simp [k_vok, h1, hso]]; rfl) hP hx)
            · have hvo : k_vok σ (cN o) x y = true := by simp [k_vok, hgt, h0, h1]
              have h24 := I.ct hc
              have hend := I.end hc (k_fr_of hs)
              have hy0 : ¬ y < 0 := fun q => hgt (Int32.lt_of_lt_of_le q (Int32.not_lt.mp h0))
              obtain ⟨hy1, hy2⟩ := le_cN (by omega) hy0 h1
              have hxy9 : ¬ nI (cN y) < x := by rw [← hy2]; exact hgt
              obtain ⟨hxy, hx2⟩ := le_cN (by omega) h0 hxy9
              refine yy_iconst (v := 1) F d_K_view_62 (n := 63) rfl rfl ?_
              refine yy_goto (tgt := 67) F d_K_view_63 (by decide) ?_
              refine yy_crv F hS_24 (c_K_demandArgument X) (yy_Bc F X.1 q_72 q_1) (yy_invS (nA := 1) (bytes := b_K_demandArgument) (maxL := 1) (retY := none) F X.1 q_70 q_71 q_1 q_72 ⟨by decide, by decide, by decide +kernel⟩ rfl d_K_view_67) d_K_view_67 (n := 70) rfl (by simp [Value.category]) ⟨by decide, by decide⟩ ⟨Nat.zero_le _, Nat.zero_le _⟩ ⟨rfl, rfl⟩ trivial (fun _ hSw_26 => ?_)
              refine yy_aload_n F d_K_view_70 (n := 71) rfl 1 rfl ?_
              by_cases hm : k_m σ = 10
              · have hmd := decide_eq_true hm
                exact yy_ctp F hSw_26 (c_K_demandOneMoreContainer_no X I hm) (yy_Bc F X.1 q_147 q_1) (yy_invV (nA := 0) (C := R_K) (bytes := b_K_demandOneMoreContainer) (maxL := 1) (retY := none) F X.1 q_144 q_146 qs_K_demandOneMoreContainer q_147 ⟨by decide, by decide, by decide +kernel⟩ (yy_recv F.N X.2.1 (ci := 5) rfl hP.k) rfl d_K_view_71) d_K_view_71 (by simp [Value.category]) ⟨by decide, by decide⟩ ⟨by decide, by decide⟩ hP (fun H1 hx => kq_no (by unfold sp_view; rw [hE, hkk, hs, hvo, hmd]; rfl) hP hx)
              · have hmd := decide_eq_false hm
                have h10 := I.m10
                have hm9 : k_m σ < 10 := by omega
                have hzs : z.heap.size ≤ H.size := hS.1
                refine yy_crv F hSw_26 (c_K_demandOneMoreContainer X I hm9) (yy_Bc F X.1 q_147 q_1) (yy_invV (nA := 0) (C := R_K) (bytes := b_K_demandOneMoreContainer) (maxL := 1) (retY := none) F X.1 q_144 q_146 qs_K_demandOneMoreContainer q_147 ⟨by decide, by decide, by decide +kernel⟩ (yy_recv F.N X.2.1 (ci := 5) rfl hP.k) rfl d_K_view_71) d_K_view_71 (n := 74) rfl (by simp [Value.category]) ⟨by decide, by decide⟩ ⟨Nat.zero_le _, Nat.zero_le _⟩ ⟨rfl, rfl⟩ hP (fun _ hSw_28 => ?_)
                refine yy_aload_n F d_K_view_74 (n := 75) rfl 1 rfl ?_
                refine yy_aload F d_K_view_75 (n := 77) rfl 0 rfl ?_
                refine yy_cri (w := (ym_n false)) F hSw_28 (c_C_isSorted (A := A) (σ := σ) (c := cN o) X I hc) (yy_Bc F X.1 q_267 q_9) (yy_invC (nA := 0) (x := y_C_isSorted) F X hP hc q_261 q_263 (k_dec X q_262 q_267) (k_sel q_266 q_264 q_265 σ (cN o)) q_262 ⟨by decide, by decide, by decide +kernel⟩ rfl d_K_view_77) d_K_view_77 (n := 80) rfl (by simp [Value.category]) ⟨by decide, by decide⟩ ⟨Nat.zero_le _, Nat.zero_le _⟩ ⟨rfl, rfl⟩ hP (by rw [hso]) (fun _ hSw_29 => ?_)
                refine yy_if_eq_t (tgt := 93) F d_K_view_80 (by decide) rfl ?_
                refine yy_aload F d_K_view_93 (n := 95) rfl 0 rfl ?_
                refine yy_iload_n F d_K_view_95 (n := 96) rfl 3 rfl ?_
                refine yy_iload_n F d_K_view_96 (n := 97) rfl 4 rfl ?_
                have hvw : k_vw σ (cN o) x y = (6, k_bs σ (cN o), cN o, k_start σ (cN o) + cN x, cN y - cN x, s_ch (k_B σ (cN o)), 0, 0) := by unfold k_vw; rw [if_neg (by rw [hso]; decide)]
                have hst : nI (k_start σ (cN o)) + x = nI (k_start σ (cN o) + cN x) := by rw [← nI_add, ← hx2]
                have hln : y - x = nI (cN y - cN x) := (congr (congrArg HSub.hSub hy2) hx2).trans (pk_sub hxy)
                by_cases h6 : k_kd σ (cN o) = 6
                · refine yy_callr F hSw_29 (c_K_partOf6 (A := A) (σ := σ) (c := cN o) (x := x) (y := y) X I hc h6) (yy_Bc F X.1 q_361 q_1) (yy_invS (nA := 3) (bytes := b_K_partOf) (maxL := 4) (retY := (some (.object "ContainerKit$Container"))) F X.1 q_359 q_360 q_1 q_361 ⟨by decide, by decide, by decide +kernel⟩ rfl d_K_view_97) d_K_view_97 (n := 100) rfl (by simp [Value.category]) ⟨by decide, by decide⟩ ⟨by decide, by decide⟩ hP (fun rw_30 Hw_30 locs_w_30 qw_30 Sw_30 => ?_)
                  obtain ⟨erw_30, A2, xo, y2⟩ := qw_30
                  rw [erw_30]
                  have P2 := hP.ext xo
                  refine yy_calli F Sw_30 (c_K_keepContainer (A := A) (σ := σ) (ci := 2) X I hm9 rfl q_1129) (yy_Bc F X.1 q_223 q_1) (yy_invV (nA := 1) (C := R_K) (bytes := b_K_keepContainer) (maxL := 3) (retY := (some .int)) F X.1 q_220 q_222 qs_K_keepContainer q_223 ⟨by decide, by decide, by decide +kernel⟩ (yy_recv F.N X.2.1 (ci := 5) rfl P2.k) rfl d_K_view_100) d_K_view_100 (n := 103) rfl (by simp [Value.category]) ⟨by decide, by decide⟩ ⟨by decide, by decide⟩ ⟨P2, A2⟩ (fun rw_31 Hw_31 locs_w_31 qw_31 Sw_31 => ?_)
                  obtain ⟨erw_31, K9, R9, k9⟩ := qw_31
                  rw [erw_31]
                  have n0 : ∀ q : Nat, q ≠ a_k A → q ≠ a_ka A → q ∉ [a_k A, a_ka A] := fun q h h2 => by simp; exact ⟨h, h2⟩
                  have lk : a_k A < H.size := va_at.lt hP.k
                  have lka : a_ka A < H.size := va_at.lt hP.ka
                  have kk9 : kpA A H Hw_31 := ⟨by rw [k9.1]; omega, fun q hq h0 => (k9.2 q (n0 q (fun e => by rw [e, hP.ok.1] at h0; cases h0) (fun e => by rw [e, hP.ok.2.1] at h0; cases h0))).trans (xo.2 q hq)⟩
                  have A3 := va_at.kept A2 (k9.2 _ (n0 _ (by show H.size ≠ a_k A; omega) (by show H.size ≠ a_ka A; omega)))
                  have Pn := hP.growV (H1 := Hw_31) (x := k_vw σ (cN o) x y) I hm9 hzs (by rw [k9.1]; omega) (by rw [hvw]; exact ⟨I.bs hc, I.bb hc⟩) (fun _ => by rw [hvw]; exact hc) K9 R9 (fun q hq q1 q2 => (k9.2 q (n0 q q1 q2)).trans (xo.2 q hq)) A3 (by rw [hvw]; rfl) (by rw [hvw]; rw [hst, hln]; show _ = [_, _, va_rf (if k_kd σ (cN o) = 6 then _ else _), _, _, _]; rw [if_pos h6])
                  exact yy_iret F Sw_31 ⟨by decide, by decide⟩ rfl d_K_view_103 (by rw [show sp_view σ o x y = (none, nI (k_m σ), k_newV σ (k_vw σ (cN o) x y)) by unfold sp_view; rw [hE, hkk, hs, hvo, hmd]; rfl]; exact ⟨rfl, ⟨_, Pn, kA_ext.V⟩, kk9⟩)
                · have h7 : ¬ k_kd σ (cN o) = 7 := fun q => absurd hso (by rw [q]; decide)
                  refine yy_callr F hSw_29 (c_K_partOf0 (A := A) (σ := σ) (c := cN o) (x := x) (y := y) X I hc h6 h7) (yy_Bc F X.1 q_361 q_1) (yy_invS (nA := 3) (bytes := b_K_partOf) (maxL := 4) (retY := (some (.object "ContainerKit$Container"))) F X.1 q_359 q_360 q_1 q_361 ⟨by decide, by decide, by decide +kernel⟩ rfl d_K_view_97) d_K_view_97 (n := 100) rfl (by simp [Value.category]) ⟨by decide, by decide⟩ ⟨by decide, by decide⟩ hP (fun rw_32 Hw_32 locs_w_32 qw_32 Sw_32 => ?_)
                  obtain ⟨erw_32, A2, xo, y2⟩ := qw_32
                  rw [erw_32]
                  have P2 := hP.ext xo
                  refine yy_calli F Sw_32 (c_K_keepContainer (A := A) (σ := σ) (ci := 2) X I hm9 rfl q_1129) (yy_Bc F X.1 q_223 q_1) (yy_invV (nA := 1) (C := R_K) (bytes := b_K_keepContainer) (maxL := 3) (retY := (some .int)) F X.1 q_220 q_222 qs_K_keepContainer q_223 ⟨by decide, by decide, by decide +kernel⟩ (yy_recv F.N X.2.1 (ci := 5) rfl P2.k) rfl d_K_view_100) d_K_view_100 (n := 103) rfl (by simp [Value.category]) ⟨by decide, by decide⟩ ⟨by decide, by decide⟩ ⟨P2, A2⟩ (fun rw_33 Hw_33 locs_w_33 qw_33 Sw_33 => ?_)
                  obtain ⟨erw_33, K9, R9, k9⟩ := qw_33
                  rw [erw_33]
                  have n0 : ∀ q : Nat, q ≠ a_k A → q ≠ a_ka A → q ∉ [a_k A, a_ka A] := fun q h h2 => by simp; exact ⟨h, h2⟩
                  have lk : a_k A < H.size := va_at.lt hP.k
                  have lka : a_ka A < H.size := va_at.lt hP.ka
                  have kk9 : kpA A H Hw_33 := ⟨by rw [k9.1]; omega, fun q hq h0 => (k9.2 q (n0 q (fun e => by rw [e, hP.ok.1] at h0; cases h0) (fun e => by rw [e, hP.ok.2.1] at h0; cases h0))).trans (xo.2 q hq)⟩
                  have A3 := va_at.kept A2 (k9.2 _ (n0 _ (by show H.size ≠ a_k A; omega) (by show H.size ≠ a_ka A; omega)))
                  have Pn := hP.growV (H1 := Hw_33) (x := k_vw σ (cN o) x y) I hm9 hzs (by rw [k9.1]; omega) (by rw [hvw]; exact ⟨I.bs hc, I.bb hc⟩) (fun _ => by rw [hvw]; exact hc) K9 R9 (fun q hq q1 q2 => (k9.2 q (n0 q q1 q2)).trans (xo.2 q hq)) A3 (by rw [hvw]; rfl) (by rw [hvw]; rw [hst, hln]; show _ = [_, _, va_rf (if k_kd σ (cN o) = 6 then _ else _), _, _, _]; rw [if_neg h6])
                  exact yy_iret F Sw_33 ⟨by decide, by decide⟩ rfl d_K_view_103 (by rw [show sp_view σ o x y = (none, nI (k_m σ), k_newV σ (k_vw σ (cN o) x y)) by unfold sp_view; rw [hE, hkk, hs, hvo, hmd]; rfl]; exact ⟨rfl, ⟨_, Pn, kA_ext.V⟩, kk9⟩)
      · exact yy_ctp F hSw_19 (c_K_demandFresh_no X I hc hs) (yy_Bc F X.1 q_289 q_1) (yy_invS (nA := 1) (bytes := b_K_demandFresh) (maxL := 1) (retY := none) F X.1 q_287 q_288 q_1 q_289 ⟨by decide, by decide, by decide +kernel⟩ rfl d_K_view_33) d_K_view_33 (by simp [Value.category]) ⟨by decide, by decide⟩ ⟨by decide, by decide⟩ hP (fun H1 hx => kq_no (by unfold sp_view; rw [hE, hkk, hs]; rfl) hP hx)
