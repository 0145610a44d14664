/-! PART K1: the kit's demands and lookups -/
theorem ym_in_or {x : Int32} {n : Nat} (hn : n ≤ 10) (h : ¬ ym_in x n) : x < 0 ∨ ¬ x < 0 ∧ ¬ x < 10 ∨ ∃ j : Nat, x = nI j ∧ n ≤ j ∧ j < 10 := by
  by_cases h0 : x < 0
  · exact Or.inl h0
  · by_cases h1 : x < 10
    · obtain ⟨j, hj, rfl⟩ := ym_held (n := 10) (by decide) h0 h1
      exact Or.inr (Or.inr ⟨j, rfl, by apply Nat.le_of_not_lt; intro q; exact h (ym_in.of q (by omega)), hj⟩)
    · exact Or.inr (Or.inl ⟨h0, h1⟩)
set_option maxRecDepth 100000 in
set_option maxHeartbeats 4000000 in
theorem c_K_containerAt {l : Launch} {z : State} {a0 : Array Value} {D : va_G} {ca : kca} (X : kcx l z a0 D ca) {A : kA} {σ : ks} {t : Nat} (I : iv t σ) {c : Nat} (hc : c < k_m σ) : yy_M l z y_K_containerAt (.code y_K_containerAt b_K_containerAt 2 (some (.object "ContainerKit$Container"))) ({ frames := 0, cells := 0, slots := 0, locals := 0 }) [.ref (a_k A), .int (nI c)] (ck_at D ca z A σ) (yy_rr (some (a_ad A c))) := by
  refine yy_body (plainFor_of_name (by decide)) (Nat.le_of_ble_eq_true rfl) (fun b H F hS hP hH hnm => ?_)
  have h10 := I.m10
  have hrow : k_row A σ (nI c).toNatClampNeg = some (a_ad A c) := by rw [nI_clamp (by omega)]; exact if_pos hc
  refine yy_iload_n F d_K_containerAt_0 (n := 1) rfl 1 rfl ?_
  refine yy_if_lt_f (tgt := 22) F d_K_containerAt_1 (n := 4) rfl (by decide) (nI_pos (by omega)) ?_
  refine yy_iload_n F d_K_containerAt_4 (n := 5) rfl 1 rfl ?_
  refine yy_aload_n F d_K_containerAt_5 (n := 6) rfl 0 rfl ?_
  refine yy_get F X.1 X.2.1 g_K_11_K hP.k rfl d_K_containerAt_6 (n := 9) rfl ?_
  refine yy_alen F X.2.1 1 rfl hP.ka (x := 10) rfl d_K_containerAt_9 (n := 10) rfl ?_
  refine yy_ic_ge_f (tgt := 22) F d_K_containerAt_10 (n := 13) rfl (by decide) (nI_ge (b := 10) (by omega) (by omega)) ?_
  refine yy_aload_n F d_K_containerAt_13 (n := 14) rfl 0 rfl ?_
  refine yy_get F X.1 X.2.1 g_K_11_K hP.k rfl d_K_containerAt_14 (n := 17) rfl ?_
  refine yy_iload_n F d_K_containerAt_17 (n := 18) rfl 1 rfl ?_
  refine yy_aald F X.2.1 1 rfl hP.ka (vp_in_nI (by omega) (by decide)) d_K_containerAt_18 (n := 19) rfl ?_
  rw [show k_row A σ (nI c).toNatClampNeg = some (a_ad A c) from hrow]
  refine yy_ifnonnull_t (tgt := 32) F d_K_containerAt_19 (by decide) ?_
  refine yy_aload_n F d_K_containerAt_32 (n := 33) rfl 0 rfl ?_
  refine yy_get F X.1 X.2.1 g_K_11_K hP.k rfl d_K_containerAt_33 (n := 36) rfl ?_
  refine yy_iload_n F d_K_containerAt_36 (n := 37) rfl 1 rfl ?_
  refine yy_aald F X.2.1 1 rfl hP.ka (vp_in_nI (by omega) (by decide)) d_K_containerAt_37 (n := 38) rfl ?_
  rw [show k_row A σ (nI c).toNatClampNeg = some (a_ad A c) from hrow]
  exact yy_aret F hS ⟨Nat.zero_le _, Nat.zero_le _⟩ rfl (Or.inr ⟨_, rfl⟩) d_K_containerAt_38 (⟨some _, rfl, rfl, rfl⟩)
set_option maxRecDepth 100000 in
set_option maxHeartbeats 4000000 in
theorem c_K_containerAt_no {l : Launch} {z : State} {a0 : Array Value} {D : va_G} {ca : kca} (X : kcx l z a0 D ca) {A : kA} {σ : ks} {t : Nat} (I : iv t σ) {x : Int32} (hx : ¬ ym_in x (k_m σ)) : yy_M l z y_K_containerAt (.code y_K_containerAt b_K_containerAt 2 (some (.object "ContainerKit$Container"))) ({ frames := 6, cells := 1, slots := 6, locals := 82 }) [.ref (a_k A), .int x] (ck_at D ca z A σ) (yy_tx "java/lang/IndexOutOfBoundsException") := by
  refine yy_body (plainFor_of_name (by decide)) (Nat.le_of_ble_eq_true rfl) (fun b H F hS hP hH hnm => ?_)
  have h10 := I.m10
  rcases ym_in_or h10 hx with h | ⟨h0, h1⟩ | ⟨j, rfl, hj, hj2⟩
  · refine yy_iload_n F d_K_containerAt_0 (n := 1) rfl 1 rfl ?_
    refine yy_if_lt_t (tgt := 22) F d_K_containerAt_1 (by decide) h ?_
    refine yy_clean hH ?_
    obtain ⟨sa, hsa⟩ := str_197 X
    exact yy_throwS F X.1 X.2.2.2 (cls := "java/lang/IndexOutOfBoundsException") (names := ["java/lang/RuntimeException", "java/lang/Exception"]) (by decide +kernel) (by decide +kernel) q_238 q_12 hsa (yy_hat X F.N oa_199) hH ⟨by decide, by decide⟩ ⟨by decide, by decide⟩ d_K_containerAt_22 d_K_containerAt_25 d_K_containerAt_26 d_K_containerAt_28 d_K_containerAt_31 (fun H1 hx => ⟨rfl, hx⟩)
  · refine yy_iload_n F d_K_containerAt_0 (n := 1) rfl 1 rfl ?_
    refine yy_if_lt_f (tgt := 22) F d_K_containerAt_1 (n := 4) rfl (by decide) h0 ?_
    refine yy_iload_n F d_K_containerAt_4 (n := 5) rfl 1 rfl ?_
    refine yy_aload_n F d_K_containerAt_5 (n := 6) rfl 0 rfl ?_
    refine yy_get F X.1 X.2.1 g_K_11_K hP.k rfl d_K_containerAt_6 (n := 9) rfl ?_
    refine yy_alen F X.2.1 1 rfl hP.ka (x := 10) rfl d_K_containerAt_9 (n := 10) rfl ?_
    refine yy_ic_ge_t (tgt := 22) F d_K_containerAt_10 (by decide) (Int32.not_lt.mp h1) ?_
    refine yy_clean hH ?_
    obtain ⟨sa, hsa⟩ := str_197 X
    exact yy_throwS F X.1 X.2.2.2 (cls := "java/lang/IndexOutOfBoundsException") (names := ["java/lang/RuntimeException", "java/lang/Exception"]) (by decide +kernel) (by decide +kernel) q_238 q_12 hsa (yy_hat X F.N oa_199) hH ⟨by decide, by decide⟩ ⟨by decide, by decide⟩ d_K_containerAt_22 d_K_containerAt_25 d_K_containerAt_26 d_K_containerAt_28 d_K_containerAt_31 (fun H1 hx => ⟨rfl, hx⟩)
  · refine yy_iload_n F d_K_containerAt_0 (n := 1) rfl 1 rfl ?_
    refine yy_if_lt_f (tgt := 22) F d_K_containerAt_1 (n := 4) rfl (by decide) (nI_pos (by omega)) ?_
    refine yy_iload_n F d_K_containerAt_4 (n := 5) rfl 1 rfl ?_
    refine yy_aload_n F d_K_containerAt_5 (n := 6) rfl 0 rfl ?_
    refine yy_get F X.1 X.2.1 g_K_11_K hP.k rfl d_K_containerAt_6 (n := 9) rfl ?_
    refine yy_alen F X.2.1 1 rfl hP.ka (x := 10) rfl d_K_containerAt_9 (n := 10) rfl ?_
    refine yy_ic_ge_f (tgt := 22) F d_K_containerAt_10 (n := 13) rfl (by decide) (nI_ge (b := 10) (by omega) (by omega)) ?_
    refine yy_aload_n F d_K_containerAt_13 (n := 14) rfl 0 rfl ?_
    refine yy_get F X.1 X.2.1 g_K_11_K hP.k rfl d_K_containerAt_14 (n := 17) rfl ?_
    refine yy_iload_n F d_K_containerAt_17 (n := 18) rfl 1 rfl ?_
    refine yy_aald F X.2.1 1 rfl hP.ka (vp_in_nI (by omega) (by decide)) d_K_containerAt_18 (n := 19) rfl ?_
    rw [show k_row A σ (nI j).toNatClampNeg = none from by rw [nI_clamp (by omega)]; exact if_neg (by omega)]
    refine yy_ifnonnull_f F d_K_containerAt_19 (n := 22) rfl ?_
    refine yy_clean hH ?_
    obtain ⟨sa, hsa⟩ := str_197 X
    exact yy_throwS F X.1 X.2.2.2 (cls := "java/lang/IndexOutOfBoundsException") (names := ["java/lang/RuntimeException", "java/lang/Exception"]) (by decide +kernel) (by decide +kernel) q_238 q_12 hsa (yy_hat X F.N oa_199) hH ⟨by decide, by decide⟩ ⟨by decide, by decide⟩ d_K_containerAt_22 d_K_containerAt_25 d_K_containerAt_26 d_K_containerAt_28 d_K_containerAt_31 (fun H1 hx => ⟨rfl, hx⟩)
set_option maxRecDepth 100000 in
set_option maxHeartbeats 4000000 in
theorem c_K_walkAt {l : Launch} {z : State} {a0 : Array Value} {D : va_G} {ca : kca} (X : kcx l z a0 D ca) {A : kA} {σ : ks} {t : Nat} (I : iv t σ) {i : Nat} (hi : i < 4) : yy_M l z y_K_walkAt (.code y_K_walkAt b_K_walkAt 2 (some (.object "ContainerKit$Walk"))) ({ frames := 0, cells := 0, slots := 0, locals := 0 }) [.ref (a_k A), .int (nI i)] (ck_at D ca z A σ) (yy_rr (some (a_wd A i))) := by
  refine yy_body (plainFor_of_name (by decide)) (Nat.le_of_ble_eq_true rfl) (fun b H F hS hP hH hnm => ?_)
  have hrow : (if (nI i).toNatClampNeg < 4 then some (a_wd A (nI i).toNatClampNeg) else none) = some (a_wd A i) := by rw [nI_clamp (by omega)]; exact if_pos hi
  refine yy_iload_n F d_K_walkAt_0 (n := 1) rfl 1 rfl ?_
  refine yy_if_lt_f (tgt := 22) F d_K_walkAt_1 (n := 4) rfl (by decide) (nI_pos (by omega)) ?_
  refine yy_iload_n F d_K_walkAt_4 (n := 5) rfl 1 rfl ?_
  refine yy_aload_n F d_K_walkAt_5 (n := 6) rfl 0 rfl ?_
  refine yy_get F X.1 X.2.1 g_K_17_K hP.k rfl d_K_walkAt_6 (n := 9) rfl ?_
  refine yy_alen F X.2.1 2 rfl hP.wa (x := 4) rfl d_K_walkAt_9 (n := 10) rfl ?_
  refine yy_ic_ge_f (tgt := 22) F d_K_walkAt_10 (n := 13) rfl (by decide) (nI_ge (b := 4) (by omega) (by omega)) ?_
  refine yy_aload_n F d_K_walkAt_13 (n := 14) rfl 0 rfl ?_
  refine yy_get F X.1 X.2.1 g_K_17_K hP.k rfl d_K_walkAt_14 (n := 17) rfl ?_
  refine yy_iload_n F d_K_walkAt_17 (n := 18) rfl 1 rfl ?_
  refine yy_aald F X.2.1 2 rfl hP.wa (vp_in_nI (by omega) (by decide)) d_K_walkAt_18 (n := 19) rfl ?_
  rw [show (if (nI i).toNatClampNeg < 4 then some (a_wd A (nI i).toNatClampNeg) else none) = some (a_wd A i) from hrow]
  refine yy_ifnonnull_t (tgt := 32) F d_K_walkAt_19 (by decide) ?_
  refine yy_aload_n F d_K_walkAt_32 (n := 33) rfl 0 rfl ?_
  refine yy_get F X.1 X.2.1 g_K_17_K hP.k rfl d_K_walkAt_33 (n := 36) rfl ?_
  refine yy_iload_n F d_K_walkAt_36 (n := 37) rfl 1 rfl ?_
  refine yy_aald F X.2.1 2 rfl hP.wa (vp_in_nI (by omega) (by decide)) d_K_walkAt_37 (n := 38) rfl ?_
  rw [show (if (nI i).toNatClampNeg < 4 then some (a_wd A (nI i).toNatClampNeg) else none) = some (a_wd A i) from hrow]
  exact yy_aret F hS ⟨Nat.zero_le _, Nat.zero_le _⟩ rfl (Or.inr ⟨_, rfl⟩) d_K_walkAt_38 (⟨some _, rfl, rfl, rfl⟩)
set_option maxRecDepth 100000 in
set_option maxHeartbeats 4000000 in
theorem c_K_walkAt_no {l : Launch} {z : State} {a0 : Array Value} {D : va_G} {ca : kca} (X : kcx l z a0 D ca) {A : kA} {σ : ks} {t : Nat} (I : iv t σ) {x : Int32} (hx : ¬ ym_in x 4) : yy_M l z y_K_walkAt (.code y_K_walkAt b_K_walkAt 2 (some (.object "ContainerKit$Walk"))) ({ frames := 6, cells := 1, slots := 6, locals := 82 }) [.ref (a_k A), .int x] (ck_at D ca z A σ) (yy_tx "java/lang/IndexOutOfBoundsException") := by
  refine yy_body (plainFor_of_name (by decide)) (Nat.le_of_ble_eq_true rfl) (fun b H F hS hP hH hnm => ?_)
  by_cases h : x < 0
  · refine yy_iload_n F d_K_walkAt_0 (n := 1) rfl 1 rfl ?_
    refine yy_if_lt_t (tgt := 22) F d_K_walkAt_1 (by decide) h ?_
    refine yy_clean hH ?_
    obtain ⟨sa, hsa⟩ := str_202 X
    exact yy_throwS F X.1 X.2.2.2 (cls := "java/lang/IndexOutOfBoundsException") (names := ["java/lang/RuntimeException", "java/lang/Exception"]) (by decide +kernel) (by decide +kernel) q_238 q_12 hsa (yy_hat X F.N oa_199) hH ⟨by decide, by decide⟩ ⟨by decide, by decide⟩ d_K_walkAt_22 d_K_walkAt_25 d_K_walkAt_26 d_K_walkAt_28 d_K_walkAt_31 (fun H1 hx => ⟨rfl, hx⟩)
  · refine yy_iload_n F d_K_walkAt_0 (n := 1) rfl 1 rfl ?_
    refine yy_if_lt_f (tgt := 22) F d_K_walkAt_1 (n := 4) rfl (by decide) h ?_
    refine yy_iload_n F d_K_walkAt_4 (n := 5) rfl 1 rfl ?_
    refine yy_aload_n F d_K_walkAt_5 (n := 6) rfl 0 rfl ?_
    refine yy_get F X.1 X.2.1 g_K_17_K hP.k rfl d_K_walkAt_6 (n := 9) rfl ?_
    refine yy_alen F X.2.1 2 rfl hP.wa (x := 4) rfl d_K_walkAt_9 (n := 10) rfl ?_
    refine yy_ic_ge_t (tgt := 22) F d_K_walkAt_10 (by decide) (Int32.not_lt.mp (fun q => hx ⟨h, q⟩)) ?_
    refine yy_clean hH ?_
    obtain ⟨sa, hsa⟩ := str_202 X
    exact yy_throwS F X.1 X.2.2.2 (cls := "java/lang/IndexOutOfBoundsException") (names := ["java/lang/RuntimeException", "java/lang/Exception"]) (by decide +kernel) (by decide +kernel) q_238 q_12 hsa (yy_hat X F.N oa_199) hH ⟨by decide, by decide⟩ ⟨by decide, by decide⟩ d_K_walkAt_22 d_K_walkAt_25 d_K_walkAt_26 d_K_walkAt_28 d_K_walkAt_31 (fun H1 hx => ⟨rfl, hx⟩)
set_option maxRecDepth 100000 in
set_option maxHeartbeats 4000000 in
theorem c_K_openedWalkAt {l : Launch} {z : State} {a0 : Array Value} {D : va_G} {ca : kca} (X : kcx l z a0 D ca) {A : kA} {σ : ks} {t : Nat} (I : iv t σ) {i : Nat} (hi : i < 4) {c : Nat} (hov : (k_W σ i).1 = some c) : yy_M l z y_K_openedWalkAt (.code y_K_openedWalkAt b_K_openedWalkAt 3 (some (.object "ContainerKit$Walk"))) ({ frames := 1, cells := 0, slots := 0, locals := 21 }) [.ref (a_k A), .int (nI i)] (ck_at D ca z A σ) (yy_rr (some (a_wd A i))) := by
  refine yy_body (plainFor_of_name (by decide)) (Nat.le_of_ble_eq_true rfl) (fun b H F hS hP hH hnm => ?_)
  refine yy_aload_n F d_K_openedWalkAt_0 (n := 1) rfl 0 rfl ?_
  refine yy_iload_n F d_K_openedWalkAt_1 (n := 2) rfl 1 rfl ?_
  refine yy_crr (w := (some (a_wd A i))) F hS (c_K_walkAt X I hi) (yy_Bc F X.1 q_769 q_1) (yy_invV (nA := 1) (C := R_K) (bytes := b_K_walkAt) (maxL := 2) (retY := (some (.object "ContainerKit$Walk"))) F X.1 q_766 q_768 qs_K_walkAt q_769 ⟨by decide, by decide, by decide +kernel⟩ (yy_recv F.N X.2.1 (ci := 5) rfl hP.k) rfl d_K_openedWalkAt_2) d_K_openedWalkAt_2 (n := 5) rfl (by simp [Value.category]) ⟨by decide, by decide⟩ ⟨Nat.zero_le _, Nat.zero_le _⟩ ⟨rfl, rfl⟩ hP rfl (fun _ hSw_1 => ?_)
  refine yy_astore_n (lv' := [(2, .ref (a_wd A i)), (0, .ref (a_k A)), (1, .int (nI i))]) F d_K_openedWalkAt_5 (n := 6) rfl (by decide) rfl ?_
  refine yy_aload_n F d_K_openedWalkAt_6 (n := 7) rfl 0 rfl ?_
  refine yy_get F X.1 X.2.1 g_K_171_W (hP.wo hi hov) rfl d_K_openedWalkAt_7 (n := 10) rfl ?_
  refine yy_ifnonnull_t (tgt := 23) F d_K_openedWalkAt_10 (by decide) ?_
  refine yy_aload_n F d_K_openedWalkAt_23 (n := 24) rfl 0 rfl ?_
  exact yy_aret F hSw_1 ⟨Nat.zero_le _, Nat.zero_le _⟩ rfl (Or.inr ⟨_, rfl⟩) d_K_openedWalkAt_24 (⟨some _, rfl, rfl, rfl⟩)
set_option maxRecDepth 100000 in
set_option maxHeartbeats 4000000 in
theorem c_K_openedWalkAt_no1 {l : Launch} {z : State} {a0 : Array Value} {D : va_G} {ca : kca} (X : kcx l z a0 D ca) {A : kA} {σ : ks} {t : Nat} (I : iv t σ) {x : Int32} (hx : ¬ ym_in x 4) : yy_M l z y_K_openedWalkAt (.code y_K_openedWalkAt b_K_openedWalkAt 3 (some (.object "ContainerKit$Walk"))) ({ frames := 7, cells := 1, slots := 6, locals := 103 }) [.ref (a_k A), .int x] (ck_at D ca z A σ) (yy_tx "java/lang/IndexOutOfBoundsException") := by
  refine yy_body (plainFor_of_name (by decide)) (Nat.le_of_ble_eq_true rfl) (fun b H F hS hP hH hnm => ?_)
  refine yy_aload_n F d_K_openedWalkAt_0 (n := 1) rfl 0 rfl ?_
  refine yy_iload_n F d_K_openedWalkAt_1 (n := 2) rfl 1 rfl ?_
  exact yy_ctp F hS (c_K_walkAt_no X I hx) (yy_Bc F X.1 q_769 q_1) (yy_invV (nA := 1) (C := R_K) (bytes := b_K_walkAt) (maxL := 2) (retY := (some (.object "ContainerKit$Walk"))) F X.1 q_766 q_768 qs_K_walkAt q_769 ⟨by decide, by decide, by decide +kernel⟩ (yy_recv F.N X.2.1 (ci := 5) rfl hP.k) rfl d_K_openedWalkAt_2) d_K_openedWalkAt_2 (by simp [Value.category]) ⟨by decide, by decide⟩ ⟨by decide, by decide⟩ hP (fun H1 hx => ⟨rfl, hx⟩)
set_option maxRecDepth 100000 in
set_option maxHeartbeats 4000000 in
theorem c_K_openedWalkAt_no2 {l : Launch} {z : State} {a0 : Array Value} {D : va_G} {ca : kca} (X : kcx l z a0 D ca) {A : kA} {σ : ks} {t : Nat} (I : iv t σ) {i : Nat} (hi : i < 4) (hov : (k_W σ i).1 = none) : yy_M l z y_K_openedWalkAt (.code y_K_openedWalkAt b_K_openedWalkAt 3 (some (.object "ContainerKit$Walk"))) ({ frames := 6, cells := 1, slots := 6, locals := 82 }) [.ref (a_k A), .int (nI i)] (ck_at D ca z A σ) (yy_tx "java/lang/IndexOutOfBoundsException") := by
  refine yy_body (plainFor_of_name (by decide)) (Nat.le_of_ble_eq_true rfl) (fun b H F hS hP hH hnm => ?_)
  have hw9 : va_at D kcl (a_wd A i, .inr (4, [.null, .int (nI (k_W σ i).2.1), .int (k_W σ i).2.2.1, .int (nI (k_W σ i).2.2.2)])) H := by
    have h := hP.w hi
    unfold wk_at at h
    rw [hov] at h
    exact h
  refine yy_aload_n F d_K_openedWalkAt_0 (n := 1) rfl 0 rfl ?_
  refine yy_iload_n F d_K_openedWalkAt_1 (n := 2) rfl 1 rfl ?_
  refine yy_crr (w := (some (a_wd A i))) F hS (c_K_walkAt X I hi) (yy_Bc F X.1 q_769 q_1) (yy_invV (nA := 1) (C := R_K) (bytes := b_K_walkAt) (maxL := 2) (retY := (some (.object "ContainerKit$Walk"))) F X.1 q_766 q_768 qs_K_walkAt q_769 ⟨by decide, by decide, by decide +kernel⟩ (yy_recv F.N X.2.1 (ci := 5) rfl hP.k) rfl d_K_openedWalkAt_2) d_K_openedWalkAt_2 (n := 5) rfl (by simp [Value.category]) ⟨by decide, by decide⟩ ⟨Nat.zero_le _, Nat.zero_le _⟩ ⟨rfl, rfl⟩ hP rfl (fun _ hSw_1 => ?_)
  refine yy_astore_n (lv' := [(2, .ref (a_wd A i)), (0, .ref (a_k A)), (1, .int (nI i))]) F d_K_openedWalkAt_5 (n := 6) rfl (by decide) rfl ?_
  refine yy_aload_n F d_K_openedWalkAt_6 (n := 7) rfl 0 rfl ?_
  refine yy_get F X.1 X.2.1 g_K_171_W hw9 rfl d_K_openedWalkAt_7 (n := 10) rfl ?_
  refine yy_ifnonnull_f F d_K_openedWalkAt_10 (n := 13) rfl ?_
  refine yy_clean hH ?_
  obtain ⟨sa, hsa⟩ := str_204 X
  exact yy_throwS F X.1 X.2.2.2 (cls := "java/lang/IndexOutOfBoundsException") (names := ["java/lang/RuntimeException", "java/lang/Exception"]) (by decide +kernel) (by decide +kernel) q_238 q_12 hsa (yy_hat X F.N oa_199) hH ⟨by decide, by decide⟩ ⟨by decide, by decide⟩ d_K_openedWalkAt_13 d_K_openedWalkAt_16 d_K_openedWalkAt_17 d_K_openedWalkAt_19 d_K_openedWalkAt_22 (fun H1 hx => ⟨rfl, hx⟩)
set_option maxRecDepth 100000 in
set_option maxHeartbeats 4000000 in
theorem c_K_demandOneMoreContainer {l : Launch} {z : State} {a0 : Array Value} {D : va_G} {ca : kca} (X : kcx l z a0 D ca) {A : kA} {σ : ks} {t : Nat} (I : iv t σ) (h : k_m σ < 10) : yy_M l z y_K_demandOneMoreContainer (.code y_K_demandOneMoreContainer b_K_demandOneMoreContainer 1 none) ({ frames := 0, cells := 0, slots := 0, locals := 0 }) [.ref (a_k A)] (ck_at D ca z A σ) (yy_rv) := by
  refine yy_body (plainFor_of_name (by decide)) (Nat.le_of_ble_eq_true rfl) (fun b H F hS hP hH hnm => ?_)
  refine yy_aload_n F d_K_demandOneMoreContainer_0 (n := 1) rfl 0 rfl ?_
  refine yy_get F X.1 X.2.1 g_K_21_K hP.k rfl d_K_demandOneMoreContainer_1 (n := 4) rfl ?_
  refine yy_aload_n F d_K_demandOneMoreContainer_4 (n := 5) rfl 0 rfl ?_
  refine yy_get F X.1 X.2.1 g_K_11_K hP.k rfl d_K_demandOneMoreContainer_5 (n := 8) rfl ?_
  refine yy_alen F X.2.1 1 rfl hP.ka (x := 10) rfl d_K_demandOneMoreContainer_8 (n := 9) rfl ?_
  refine yy_ic_lt_t (tgt := 22) F d_K_demandOneMoreContainer_9 (by decide) (nI_lt (b := 10) h (by decide)) ?_
  exact yy_vret F hS ⟨Nat.zero_le _, Nat.zero_le _⟩ rfl d_K_demandOneMoreContainer_22 (⟨rfl, rfl⟩)
set_option maxRecDepth 100000 in
set_option maxHeartbeats 4000000 in
theorem c_K_demandOneMoreContainer_no {l : Launch} {z : State} {a0 : Array Value} {D : va_G} {ca : kca} (X : kcx l z a0 D ca) {A : kA} {σ : ks} {t : Nat} (I : iv t σ) (h : k_m σ = 10) : yy_M l z y_K_demandOneMoreContainer (.code y_K_demandOneMoreContainer b_K_demandOneMoreContainer 1 none) ({ frames := 6, cells := 1, slots := 6, locals := 82 }) [.ref (a_k A)] (ck_at D ca z A σ) (yy_tx "java/lang/IllegalStateException") := by
  refine yy_body (plainFor_of_name (by decide)) (Nat.le_of_ble_eq_true rfl) (fun b H F hS hP hH hnm => ?_)
  refine yy_aload_n F d_K_demandOneMoreContainer_0 (n := 1) rfl 0 rfl ?_
  refine yy_get F X.1 X.2.1 g_K_21_K hP.k rfl d_K_demandOneMoreContainer_1 (n := 4) rfl ?_
  refine yy_aload_n F d_K_demandOneMoreContainer_4 (n := 5) rfl 0 rfl ?_
  refine yy_get F X.1 X.2.1 g_K_11_K hP.k rfl d_K_demandOneMoreContainer_5 (n := 8) rfl ?_
  refine yy_alen F X.2.1 1 rfl hP.ka (x := 10) rfl d_K_demandOneMoreContainer_8 (n := 9) rfl ?_
  refine yy_ic_lt_f (tgt := 22) F d_K_demandOneMoreContainer_9 (n := 12) rfl (by decide) (by rw [h]; decide) ?_
  refine yy_clean hH ?_
  obtain ⟨sa, hsa⟩ := str_236 X
  exact yy_throwS F X.1 X.2.2.2 (cls := "java/lang/IllegalStateException") (names := ["java/lang/RuntimeException", "java/lang/Exception"]) (by decide +kernel) (by decide +kernel) q_148 q_8 hsa (yy_hat X F.N oa_238) hH ⟨by decide, by decide⟩ ⟨by decide, by decide⟩ d_K_demandOneMoreContainer_12 d_K_demandOneMoreContainer_15 d_K_demandOneMoreContainer_16 d_K_demandOneMoreContainer_18 d_K_demandOneMoreContainer_21 (fun H1 hx => ⟨rfl, hx⟩)
set_option maxRecDepth 100000 in
set_option maxHeartbeats 4000000 in
theorem c_K_demandFresh {l : Launch} {z : State} {a0 : Array Value} {D : va_G} {ca : kca} (X : kcx l z a0 D ca) {A : kA} {σ : ks} {t : Nat} (I : iv t σ) {c : Nat} (hc : c < k_m σ) (h : k_stale σ c = false) : yy_M l z y_K_demandFresh (.code y_K_demandFresh b_K_demandFresh 1 none) ({ frames := 1, cells := 0, slots := 0, locals := 20 }) [.ref (a_ad A c)] (ck_at D ca z A σ) (yy_rv) := by
  refine yy_body (plainFor_of_name (by decide)) (Nat.le_of_ble_eq_true rfl) (fun b H F hS hP hH hnm => ?_)
  refine yy_aload_n F d_K_demandFresh_0 (n := 1) rfl 0 rfl ?_
  refine vd_isStale F X I hc hP hS q_290 ⟨by decide, by decide⟩ (by simp [Value.category]) d_K_demandFresh_1 (n := 4) rfl ⟨Nat.zero_le _, Nat.zero_le _⟩ (fun _ hS_1 => ?_)
  rw [h]
  refine yy_if_eq_t (tgt := 18) F d_K_demandFresh_4 (by decide) rfl ?_
  exact yy_vret F hS_1 ⟨Nat.zero_le _, Nat.zero_le _⟩ rfl d_K_demandFresh_18 (⟨rfl, rfl⟩)
set_option maxRecDepth 100000 in
set_option maxHeartbeats 4000000 in
theorem c_K_demandFresh_no {l : Launch} {z : State} {a0 : Array Value} {D : va_G} {ca : kca} (X : kcx l z a0 D ca) {A : kA} {σ : ks} {t : Nat} (I : iv t σ) {c : Nat} (hc : c < k_m σ) (h : k_stale σ c = true) : yy_M l z y_K_demandFresh (.code y_K_demandFresh b_K_demandFresh 1 none) ({ frames := 6, cells := 1, slots := 6, locals := 82 }) [.ref (a_ad A c)] (ck_at D ca z A σ) (yy_tx "java/lang/RuntimeException") := by
  refine yy_body (plainFor_of_name (by decide)) (Nat.le_of_ble_eq_true rfl) (fun b H F hS hP hH hnm => ?_)
  refine yy_aload_n F d_K_demandFresh_0 (n := 1) rfl 0 rfl ?_
  refine vd_isStale F X I hc hP hS q_290 ⟨by decide, by decide⟩ (by simp [Value.category]) d_K_demandFresh_1 (n := 4) rfl ⟨Nat.zero_le _, Nat.zero_le _⟩ (fun _ hS_1 => ?_)
  rw [h]
  refine yy_if_eq_f (tgt := 18) F d_K_demandFresh_4 (n := 7) rfl (by decide) (by decide) ?_
  refine yy_clean hH ?_
  obtain ⟨sa, hsa⟩ := str_259 X
  exact yy_throwSW F X.1 X.2.2.2 (cls := "java/lang/RuntimeException") (names := ["java/lang/Exception"]) (by decide +kernel) (by decide +kernel) q_299 q_6 hsa (yy_hat X F.N oa_261) hH ⟨by decide, by decide⟩ ⟨by decide, by decide⟩ d_K_demandFresh_7 d_K_demandFresh_10 d_K_demandFresh_11 d_K_demandFresh_14 d_K_demandFresh_17 (fun H1 hx => ⟨rfl, hx⟩)
set_option maxRecDepth 100000 in
set_option maxHeartbeats 4000000 in
theorem c_K_demandFreshWalk {l : Launch} {z : State} {a0 : Array Value} {D : va_G} {ca : kca} (X : kcx l z a0 D ca) {A : kA} {σ : ks} {t : Nat} (I : iv t σ) {i : Nat} (hi : i < 4) {c : Nat} (hc : c < k_m σ) (hov : (k_W σ i).1 = some c) (h : k_lost σ i c = false) : yy_M l z y_K_demandFreshWalk (.code y_K_demandFreshWalk b_K_demandFreshWalk 1 none) ({ frames := 2, cells := 0, slots := 0, locals := 40 }) [.ref (a_wd A i)] (ck_at D ca z A σ) (yy_rv) := by
  refine yy_body (plainFor_of_name (by decide)) (Nat.le_of_ble_eq_true rfl) (fun b H F hS hP hH hnm => ?_)
  refine yy_aload_n F d_K_demandFreshWalk_0 (n := 1) rfl 0 rfl ?_
  refine yy_cri (w := (ym_n (k_lost σ i c))) F hS (c_W_isStale X I hc hi hov) (yy_Bc F X.1 q_797 q_2) (yy_invV (nA := 0) (C := R_W) (bytes := b_W_isStale) (maxL := 1) (retY := (some .boolean)) F X.1 q_794 q_795 q_796 q_797 ⟨by decide, by decide, by decide +kernel⟩ (yy_recv F.N X.2.1 (ci := 4) rfl (hP.w hi)) rfl d_K_demandFreshWalk_1) d_K_demandFreshWalk_1 (n := 4) rfl (by simp [Value.category]) ⟨by decide, by decide⟩ ⟨Nat.zero_le _, Nat.zero_le _⟩ ⟨rfl, rfl⟩ hP rfl (fun _ hSw_1 => ?_)
  rw [h]
  refine yy_if_eq_t (tgt := 18) F d_K_demandFreshWalk_4 (by decide) rfl ?_
  exact yy_vret F hSw_1 ⟨Nat.zero_le _, Nat.zero_le _⟩ rfl d_K_demandFreshWalk_18 (⟨rfl, rfl⟩)
set_option maxRecDepth 100000 in
set_option maxHeartbeats 4000000 in
theorem c_K_demandFreshWalk_no {l : Launch} {z : State} {a0 : Array Value} {D : va_G} {ca : kca} (X : kcx l z a0 D ca) {A : kA} {σ : ks} {t : Nat} (I : iv t σ) {i : Nat} (hi : i < 4) {c : Nat} (hc : c < k_m σ) (hov : (k_W σ i).1 = some c) (h : k_lost σ i c = true) : yy_M l z y_K_demandFreshWalk (.code y_K_demandFreshWalk b_K_demandFreshWalk 1 none) ({ frames := 6, cells := 1, slots := 6, locals := 82 }) [.ref (a_wd A i)] (ck_at D ca z A σ) (yy_tx "java/lang/RuntimeException") := by
  refine yy_body (plainFor_of_name (by decide)) (Nat.le_of_ble_eq_true rfl) (fun b H F hS hP hH hnm => ?_)
  refine yy_aload_n F d_K_demandFreshWalk_0 (n := 1) rfl 0 rfl ?_
  refine yy_cri (w := (ym_n (k_lost σ i c))) F hS (c_W_isStale X I hc hi hov) (yy_Bc F X.1 q_797 q_2) (yy_invV (nA := 0) (C := R_W) (bytes := b_W_isStale) (maxL := 1) (retY := (some .boolean)) F X.1 q_794 q_795 q_796 q_797 ⟨by decide, by decide, by decide +kernel⟩ (yy_recv F.N X.2.1 (ci := 4) rfl (hP.w hi)) rfl d_K_demandFreshWalk_1) d_K_demandFreshWalk_1 (n := 4) rfl (by simp [Value.category]) ⟨by decide, by decide⟩ ⟨Nat.zero_le _, Nat.zero_le _⟩ ⟨rfl, rfl⟩ hP rfl (fun _ hSw_1 => ?_)
  rw [h]
  refine yy_if_eq_f (tgt := 18) F d_K_demandFreshWalk_4 (n := 7) rfl (by decide) (by decide) ?_
  refine yy_clean hH ?_
  obtain ⟨sa, hsa⟩ := str_263 X
  exact yy_throwSW F X.1 X.2.2.2 (cls := "java/lang/RuntimeException") (names := ["java/lang/Exception"]) (by decide +kernel) (by decide +kernel) q_299 q_6 hsa (yy_hat X F.N oa_261) hH ⟨by decide, by decide⟩ ⟨by decide, by decide⟩ d_K_demandFreshWalk_7 d_K_demandFreshWalk_10 d_K_demandFreshWalk_11 d_K_demandFreshWalk_14 d_K_demandFreshWalk_17 (fun H1 hx => ⟨rfl, hx⟩)
set_option maxRecDepth 100000 in
set_option maxHeartbeats 4000000 in
theorem c_K_demandSpace {l : Launch} {z : State} {a0 : Array Value} {D : va_G} {ca : kca} (X : kcx l z a0 D ca) {A : kA} {σ : ks} {t : Nat} (I : iv t σ) {c : Nat} (hc : c < k_m σ) (h : ¬ 24 ≤ s_ct (k_B σ c)) : yy_M l z y_K_demandSpace (.code y_K_demandSpace b_K_demandSpace 1 none) ({ frames := 1, cells := 0, slots := 0, locals := 20 }) [.ref (a_sa A (k_bs σ c))] (ck_at D ca z A σ) (yy_rv) := by
  refine yy_body (plainFor_of_name (by decide)) (Nat.le_of_ble_eq_true rfl) (fun b H F hS hP hH hnm => ?_)
  refine yy_aload_n F d_K_demandSpace_0 (n := 1) rfl 0 rfl ?_
  refine yy_cri (w := (ym_n false)) F hS (c_S_isFull X (I.ct hc)) (yy_Bc F X.1 q_498 q_11) (yy_invV (nA := 0) (C := R_S) (bytes := b_S_isFull) (maxL := 1) (retY := (some .boolean)) F X.1 q_495 q_496 q_497 q_498 ⟨by decide, by decide, by decide +kernel⟩ (yy_recv F.N X.2.1 (ci := 0) rfl (hP.sc hc).1) rfl d_K_demandSpace_1) d_K_demandSpace_1 (n := 4) rfl (by simp [Value.category]) ⟨by decide, by decide⟩ ⟨Nat.zero_le _, Nat.zero_le _⟩ ⟨rfl, rfl⟩ (hP.sc hc) (by rw [decide_eq_false h]) (fun _ hSw_1 => ?_)
  refine yy_if_eq_t (tgt := 18) F d_K_demandSpace_4 (by decide) rfl ?_
  exact yy_vret F hSw_1 ⟨Nat.zero_le _, Nat.zero_le _⟩ rfl d_K_demandSpace_18 (⟨rfl, rfl⟩)
set_option maxRecDepth 100000 in
set_option maxHeartbeats 4000000 in
theorem c_K_demandSpace_no {l : Launch} {z : State} {a0 : Array Value} {D : va_G} {ca : kca} (X : kcx l z a0 D ca) {A : kA} {σ : ks} {t : Nat} (I : iv t σ) {c : Nat} (hc : c < k_m σ) (h : 24 ≤ s_ct (k_B σ c)) : yy_M l z y_K_demandSpace (.code y_K_demandSpace b_K_demandSpace 1 none) ({ frames := 6, cells := 1, slots := 6, locals := 82 }) [.ref (a_sa A (k_bs σ c))] (ck_at D ca z A σ) (yy_tx "java/lang/IllegalStateException") := by
  refine yy_body (plainFor_of_name (by decide)) (Nat.le_of_ble_eq_true rfl) (fun b H F hS hP hH hnm => ?_)
  refine yy_aload_n F d_K_demandSpace_0 (n := 1) rfl 0 rfl ?_
  refine yy_cri (w := (ym_n true)) F hS (c_S_isFull X (I.ct hc)) (yy_Bc F X.1 q_498 q_11) (yy_invV (nA := 0) (C := R_S) (bytes := b_S_isFull) (maxL := 1) (retY := (some .boolean)) F X.1 q_495 q_496 q_497 q_498 ⟨by decide, by decide, by decide +kernel⟩ (yy_recv F.N X.2.1 (ci := 0) rfl (hP.sc hc).1) rfl d_K_demandSpace_1) d_K_demandSpace_1 (n := 4) rfl (by simp [Value.category]) ⟨by decide, by decide⟩ ⟨Nat.zero_le _, Nat.zero_le _⟩ ⟨rfl, rfl⟩ (hP.sc hc) (by rw [decide_eq_true h]) (fun _ hSw_1 => ?_)
  refine yy_if_eq_f (tgt := 18) F d_K_demandSpace_4 (n := 7) rfl (by decide) (by decide) ?_
  refine yy_clean hH ?_
  obtain ⟨sa, hsa⟩ := str_268 X
  exact yy_throwSW F X.1 X.2.2.2 (cls := "java/lang/IllegalStateException") (names := ["java/lang/RuntimeException", "java/lang/Exception"]) (by decide +kernel) (by decide +kernel) q_148 q_8 hsa (yy_hat X F.N oa_238) hH ⟨by decide, by decide⟩ ⟨by decide, by decide⟩ d_K_demandSpace_7 d_K_demandSpace_10 d_K_demandSpace_11 d_K_demandSpace_14 d_K_demandSpace_17 (fun H1 hx => ⟨rfl, hx⟩)
