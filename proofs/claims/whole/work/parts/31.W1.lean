/-! PART W1: iterators -/
set_option maxRecDepth 100000 in
set_option maxHeartbeats 4000000 in
theorem c_W_isStale {l : Launch} {z : State} {a0 : Array Value} {D : va_G} {ca : kca} (X : kcx l z a0 D ca) {A : kA} {σ : ks} {t c i : Nat} (I : iv t σ) (hc : c < k_m σ) (hi : i < 4) (hov : (k_W σ i).1 = some c) : yy_M l z y_W_isStale (.code y_W_isStale b_W_isStale 1 (some .boolean)) ({ frames := 1, cells := 0, slots := 0, locals := 20 }) [.ref (a_wd A i)] (ck_at D ca z A σ) (yy_ri (ym_n (k_lost σ i c))) := by
  refine yy_body (plainFor_of_name (by decide)) (Nat.le_of_ble_eq_true rfl) (fun b H F hS hP hH hnm => ?_)
  have hkn := ((I.2.2.2.2 i hi).2 c hov).2.2.1
  have hch := I.ch hc
  have hq : nI (k_W σ i).2.2.2 = nI (s_ch (k_B σ c)) ↔ (k_W σ i).2.2.2 = s_ch (k_B σ c) := nI_eq (by omega) (by omega)
  refine yy_aload_n F d_W_isStale_0 (n := 1) rfl 0 rfl ?_
  refine yy_get F X.1 X.2.1 g_W_9_W (hP.wo hi hov) rfl d_W_isStale_1 (n := 4) rfl ?_
  refine yy_ifnull_f F d_W_isStale_4 (n := 7) rfl ?_
  refine yy_aload_n F d_W_isStale_7 (n := 8) rfl 0 rfl ?_
  refine yy_get F X.1 X.2.1 g_W_9_W (hP.wo hi hov) rfl d_W_isStale_8 (n := 11) rfl ?_
  refine vd_isStale F X I hc hP hS q_798 ⟨by decide, by decide⟩ (by simp [Value.category]) d_W_isStale_11 (n := 14) rfl ⟨Nat.le_refl _, Nat.le_refl _⟩ (fun _ hS_1 => ?_)
  cases hb1 : k_stale σ c
  · refine yy_if_ne_f (tgt := 34) F d_W_isStale_14 (n := 17) rfl (by decide) rfl ?_
    refine yy_aload_n F d_W_isStale_17 (n := 18) rfl 0 rfl ?_
    refine yy_get F X.1 X.2.1 g_W_22_W (hP.wo hi hov) rfl d_W_isStale_18 (n := 21) rfl ?_
    refine yy_aload_n F d_W_isStale_21 (n := 22) rfl 0 rfl ?_
    refine yy_get F X.1 X.2.1 g_W_9_W (hP.wo hi hov) rfl d_W_isStale_22 (n := 25) rfl ?_
    refine cr_store F X g_W_29_G g_W_29_P g_W_29_R hP hc d_W_isStale_25 (n := 28) rfl ?_
    refine yy_get F X.1 X.2.1 g_W_35_S (hP.sc hc).1 rfl d_W_isStale_28 (n := 31) rfl ?_
    refine yy_ic_eq (tgt := 38) F d_W_isStale_31 (n := 34) rfl (by decide) (fun h1 => ?_) (fun h1 => ?_)
    · refine yy_iconst (v := 0) F d_W_isStale_38 (n := 39) rfl rfl ?_
      exact yy_zret F hS_1 ⟨Nat.zero_le _, Nat.zero_le _⟩ rfl rfl d_W_isStale_39 (⟨_, rfl, by simp [k_lost, hb1, ym_n, hq.mp h1], rfl⟩)
    · refine yy_iconst (v := 1) F d_W_isStale_34 (n := 35) rfl rfl ?_
      refine yy_goto (tgt := 39) F d_W_isStale_35 (by decide) ?_
      exact yy_zret F hS_1 ⟨Nat.zero_le _, Nat.zero_le _⟩ rfl rfl d_W_isStale_39 (⟨_, rfl, by simp [k_lost, hb1, ym_n, mt hq.mpr h1], rfl⟩)
  · refine yy_if_ne_t (tgt := 34) F d_W_isStale_14 (by decide) (by decide) ?_
    refine yy_iconst (v := 1) F d_W_isStale_34 (n := 35) rfl rfl ?_
    refine yy_goto (tgt := 39) F d_W_isStale_35 (by decide) ?_
    exact yy_zret F hS_1 ⟨Nat.zero_le _, Nat.zero_le _⟩ rfl rfl d_W_isStale_39 (⟨_, rfl, by simp [k_lost, hb1, ym_n], rfl⟩)
set_option maxRecDepth 100000 in
set_option maxHeartbeats 4000000 in
theorem c_W_standAt {l : Launch} {z : State} {a0 : Array Value} {D : va_G} {ca : kca} (X : kcx l z a0 D ca) {A : kA} {σ : ks} {c i : Nat} (hc : c < k_m σ) (hi : i < 4) {m : Nat} (hov : (k_W σ i).1 = some c) : yy_M l z y_W_standAt (.code y_W_standAt b_W_standAt 2 none) ({ frames := 0, cells := 0, slots := 0, locals := 0 }) [.ref (a_wd A i), .int (nI m)] (ck_at D ca z A σ) (yy_pv (fun H H1 => ck_at D ca z A (k_setW σ i (some c, m, -1, s_ch (k_B σ c))) H1 ∧ kpA A H H1)) := by
  refine yy_body (plainFor_of_name (by decide)) (Nat.le_of_ble_eq_true rfl) (fun b H F hS hP hH hnm => ?_)
  refine yy_aload_n F d_W_standAt_0 (n := 1) rfl 0 rfl ?_
  refine yy_get F X.1 X.2.1 g_W_9_W (hP.wo hi hov) rfl d_W_standAt_1 (n := 4) rfl ?_
  refine yy_ifnull_f F d_W_standAt_4 (n := 7) rfl ?_
  refine yy_aload_n F d_W_standAt_7 (n := 8) rfl 0 rfl ?_
  refine yy_iload_n F d_W_standAt_8 (n := 9) rfl 1 rfl ?_
  refine cr_wp F X g_W_15_W hP hi hS rfl d_W_standAt_9 (n := 12) rfl (fun Hw_1 locs_w_1 Pw_1 kw_1 Sw_1 => ?_)
  have kw_1 := kpA.rf.tr kw_1
  have Pw_1 : ck_at D ca z A (k_setW σ i ((k_W σ i).1, m, (k_W σ i).2.2)) Hw_1 := Pw_1
  refine yy_aload_n F d_W_standAt_12 (n := 13) rfl 0 rfl ?_
  refine yy_iconst (v := (-1)) F d_W_standAt_13 (n := 14) rfl rfl ?_
  refine cr_wl F X g_W_19_W Pw_1 hi Sw_1 d_W_standAt_14 (n := 17) rfl (fun Hw_2 locs_w_2 Pw_2 kw_2 Sw_2 => ?_)
  have kw_2 := kw_1.tr kw_2
  rw [k_setW2, k_setW_s] at Pw_2
  have Pw_2 : ck_at D ca z A (k_setW σ i ((k_W σ i).1, m, -1, (k_W σ i).2.2.2)) Hw_2 := Pw_2
  refine yy_aload_n F d_W_standAt_17 (n := 18) rfl 0 rfl ?_
  refine yy_aload_n F d_W_standAt_18 (n := 19) rfl 0 rfl ?_
  refine yy_get F X.1 X.2.1 g_W_9_W (Pw_2.wo hi (by rw [k_setW_s]; exact hov)) rfl d_W_standAt_19 (n := 22) rfl ?_
  refine cr_store F X g_W_29_G g_W_29_P g_W_29_R Pw_2 (show c < k_m (k_setW σ i ((k_W σ i).1, m, -1, (k_W σ i).2.2.2)) from hc) d_W_standAt_22 (n := 25) rfl ?_
  refine yy_get F X.1 X.2.1 g_W_35_S (Pw_2.sc (show c < k_m (k_setW σ i ((k_W σ i).1, m, -1, (k_W σ i).2.2.2)) from hc)).1 rfl d_W_standAt_25 (n := 28) rfl ?_
  refine cr_ws F X g_W_22_W Pw_2 hi Sw_2 rfl d_W_standAt_28 (n := 31) rfl (fun Hw_3 locs_w_3 Pw_3 kw_3 Sw_3 => ?_)
  have kw_3 := kw_2.tr kw_3
  rw [k_setW2, k_setW_s] at Pw_3
  have Pw_3 : ck_at D ca z A (k_setW σ i ((k_W σ i).1, m, -1, s_ch (k_B σ c))) Hw_3 := Pw_3
  exact yy_vret F Sw_3 ⟨Nat.zero_le _, Nat.zero_le _⟩ rfl d_W_standAt_31 (⟨rfl, by rw [hov] at Pw_3; exact Pw_3, kw_3⟩)
set_option maxRecDepth 100000 in
set_option maxHeartbeats 4000000 in
theorem c_W_begin {l : Launch} {z : State} {a0 : Array Value} {D : va_G} {ca : kca} (X : kcx l z a0 D ca) {A : kA} {σ : ks} {c i : Nat} (hc : c < k_m σ) (hi : i < 4)  : yy_M l z y_W_begin (.code y_W_begin b_W_begin 2 none) ({ frames := 1, cells := 0, slots := 0, locals := 21 }) [.ref (a_wd A i), .ref (a_ad A c)] (ck_at D ca z A σ) (yy_pv (fun H H1 => ck_at D ca z A (k_setW σ i (some c, 0, -1, s_ch (k_B σ c))) H1 ∧ kpA A H H1)) := by
  refine yy_body (plainFor_of_name (by decide)) (Nat.le_of_ble_eq_true rfl) (fun b H F hS hP hH hnm => ?_)
  refine yy_aload_n F d_W_begin_0 (n := 1) rfl 0 rfl ?_
  refine yy_aload_n F d_W_begin_1 (n := 2) rfl 1 rfl ?_
  refine cr_wo F X g_W_9_W hP hi hS d_W_begin_2 (n := 5) rfl (fun Hw_1 locs_w_1 Pw_1 kw_1 Sw_1 => ?_)
  have kw_1 := kpA.rf.tr kw_1
  have Pw_1 : ck_at D ca z A (k_setW σ i (some c, (k_W σ i).2)) Hw_1 := Pw_1
  refine yy_aload_n F d_W_begin_5 (n := 6) rfl 0 rfl ?_
  refine yy_iconst (v := 0) F d_W_begin_6 (n := 7) rfl rfl ?_
  refine yy_cv F Sw_1 (c_W_standAt (A := A) (σ := k_setW σ i (some c, (k_W σ i).2)) (c := c) (i := i) (m := 0) X hc hi (by rw [k_setW_s])) (yy_Bc F X.1 q_778 q_2) (yy_invV (nA := 1) (C := R_W) (bytes := b_W_standAt) (maxL := 2) (retY := none) F X.1 q_775 q_776 q_777 q_778 ⟨by decide, by decide, by decide +kernel⟩ (yy_recv F.N X.2.1 (ci := 4) rfl (Pw_1.w hi)) rfl d_W_begin_7) d_W_begin_7 (n := 10) rfl (by simp [Value.category]) ⟨by decide, by decide⟩ ⟨Nat.zero_le _, Nat.zero_le _⟩ ⟨rfl, rfl⟩ Pw_1 (fun Hw_2 locs_w_2 qw_2 Sw_2 => ?_)
  obtain ⟨Pw_2, kw_2⟩ := qw_2
  have kw_2 := kw_1.tr kw_2
  rw [k_setW2] at Pw_2
  exact yy_vret F Sw_2 ⟨Nat.zero_le _, Nat.zero_le _⟩ rfl d_W_begin_10 (⟨rfl, Pw_2, kw_2⟩)
set_option maxRecDepth 100000 in
set_option maxHeartbeats 4000000 in
theorem c_W_goOver {l : Launch} {z : State} {a0 : Array Value} {D : va_G} {ca : kca} (X : kcx l z a0 D ca) {A : kA} {σ : ks} {i : Nat} (hi : i < 4) {j : Nat} {e : Int32} : yy_M l z y_W_goOver (.code y_W_goOver b_W_goOver 3 none) ({ frames := 0, cells := 0, slots := 0, locals := 0 }) [.ref (a_wd A i), .int (nI j), .int e] (ck_at D ca z A σ) (yy_pv (fun H H1 => ck_at D ca z A (k_setW σ i ((k_W σ i).1, if e = 0 then j else j + 1, nI j, (k_W σ i).2.2.2)) H1 ∧ kpA A H H1)) := by
  refine yy_body (plainFor_of_name (by decide)) (Nat.le_of_ble_eq_true rfl) (fun b H F hS hP hH hnm => ?_)
  refine yy_aload_n F d_W_goOver_0 (n := 1) rfl 0 rfl ?_
  refine yy_iload_n F d_W_goOver_1 (n := 2) rfl 2 rfl ?_
  refine yy_if_eq (tgt := 11) F d_W_goOver_2 (n := 5) rfl (by decide) (fun h1 => ?_) (fun h1 => ?_)
  · refine yy_iload_n F d_W_goOver_11 (n := 12) rfl 1 rfl ?_
    refine cr_wp F X g_W_15_W hP hi hS (m := j) (rfl) d_W_goOver_12 (n := 15) rfl (fun Hw_1 locs_w_1 Pw_1 kw_1 Sw_1 => ?_)
    have kw_1 := kpA.rf.tr kw_1
    have Pw_1 : ck_at D ca z A (k_setW σ i ((k_W σ i).1, j, (k_W σ i).2.2)) Hw_1 := Pw_1
    refine yy_aload_n F d_W_goOver_15 (n := 16) rfl 0 rfl ?_
    refine yy_iload_n F d_W_goOver_16 (n := 17) rfl 1 rfl ?_
    refine cr_wl F X g_W_19_W Pw_1 hi Sw_1 d_W_goOver_17 (n := 20) rfl (fun Hw_2 locs_w_2 Pw_2 kw_2 Sw_2 => ?_)
    have kw_2 := kw_1.tr kw_2
    rw [k_setW2, k_setW_s] at Pw_2
    have Pw_2 : ck_at D ca z A (k_setW σ i ((k_W σ i).1, j, nI j, (k_W σ i).2.2.2)) Hw_2 := Pw_2
    exact yy_vret F Sw_2 ⟨Nat.zero_le _, Nat.zero_le _⟩ rfl d_W_goOver_20 (⟨rfl, by rw [if_pos h1]; exact Pw_2, kw_2⟩)
  · refine yy_iload_n F d_W_goOver_5 (n := 6) rfl 1 rfl ?_
    refine yy_iconst (v := 1) F d_W_goOver_6 (n := 7) rfl rfl ?_
    refine yy_iadd F d_W_goOver_7 (n := 8) rfl ?_
    refine yy_goto (tgt := 12) F d_W_goOver_8 (by decide) ?_
    refine cr_wp F X g_W_15_W hP hi hS (m := j + 1) (nI_1 _) d_W_goOver_12 (n := 15) rfl (fun Hw_3 locs_w_3 Pw_3 kw_3 Sw_3 => ?_)
    have kw_3 := kpA.rf.tr kw_3
    have Pw_3 : ck_at D ca z A (k_setW σ i ((k_W σ i).1, j + 1, (k_W σ i).2.2)) Hw_3 := Pw_3
    refine yy_aload_n F d_W_goOver_15 (n := 16) rfl 0 rfl ?_
    refine yy_iload_n F d_W_goOver_16 (n := 17) rfl 1 rfl ?_
    refine cr_wl F X g_W_19_W Pw_3 hi Sw_3 d_W_goOver_17 (n := 20) rfl (fun Hw_4 locs_w_4 Pw_4 kw_4 Sw_4 => ?_)
    have kw_4 := kw_3.tr kw_4
    rw [k_setW2, k_setW_s] at Pw_4
    have Pw_4 : ck_at D ca z A (k_setW σ i ((k_W σ i).1, j + 1, nI j, (k_W σ i).2.2.2)) Hw_4 := Pw_4
    exact yy_vret F Sw_4 ⟨Nat.zero_le _, Nat.zero_le _⟩ rfl d_W_goOver_20 (⟨rfl, by rw [if_neg h1]; exact Pw_4, kw_4⟩)
