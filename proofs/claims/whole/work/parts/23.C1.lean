/-! PART C1: what a container is and where it lies -/
def y_C_start : MethodName := ⟨R_C, "start", "()I"⟩
def y_C_count : MethodName := ⟨R_C, "count", "()I"⟩
set_option maxRecDepth 100000 in
set_option maxHeartbeats 4000000 in
theorem c_P_start {l : Launch} {z : State} {a0 : Array Value} {D : va_G} {ca : kca} (X : kcx l z a0 D ca) {A : kA} {σ : ks} {t c : Nat} (I : iv t σ) (hc : c < k_m σ) (h6 : k_kd σ c = 6) : yy_M l z y_P_start (.code y_P_start b_P_start 1 (some .int)) ({ frames := 0, cells := 0, slots := 0, locals := 0 }) [.ref (a_ad A c)] (ck_at D ca z A σ) (yy_ri (nI (k_fs σ c))) := by
  refine yy_body (plainFor_of_name (by decide)) (Nat.le_of_ble_eq_true rfl) (fun b H F hS hP hH hnm => ?_)
  refine yy_aload_n F d_P_start_0 (n := 1) rfl 0 rfl ?_
  refine yy_get F X.1 X.2.1 g_P_15_P (hP.c6 hc h6) rfl d_P_start_1 (n := 4) rfl ?_
  exact yy_iret F hS ⟨Nat.zero_le _, Nat.zero_le _⟩ rfl d_P_start_4 (⟨_, rfl, rfl, rfl⟩)
set_option maxRecDepth 100000 in
set_option maxHeartbeats 4000000 in
theorem c_P_count {l : Launch} {z : State} {a0 : Array Value} {D : va_G} {ca : kca} (X : kcx l z a0 D ca) {A : kA} {σ : ks} {t c : Nat} (I : iv t σ) (hc : c < k_m σ) (h6 : k_kd σ c = 6) : yy_M l z y_P_count (.code y_P_count b_P_count 1 (some .int)) ({ frames := 0, cells := 0, slots := 0, locals := 0 }) [.ref (a_ad A c)] (ck_at D ca z A σ) (yy_ri (nI (k_ln σ c))) := by
  refine yy_body (plainFor_of_name (by decide)) (Nat.le_of_ble_eq_true rfl) (fun b H F hS hP hH hnm => ?_)
  refine yy_aload_n F d_P_count_0 (n := 1) rfl 0 rfl ?_
  refine yy_get F X.1 X.2.1 g_P_19_P (hP.c6 hc h6) rfl d_P_count_1 (n := 4) rfl ?_
  exact yy_iret F hS ⟨Nat.zero_le _, Nat.zero_le _⟩ rfl d_P_count_4 (⟨_, rfl, rfl, rfl⟩)
set_option maxRecDepth 100000 in
set_option maxHeartbeats 4000000 in
theorem c_G_count {l : Launch} {z : State} {a0 : Array Value} {D : va_G} {ca : kca} (X : kcx l z a0 D ca) {A : kA} {σ : ks} {t c : Nat} (I : iv t σ) (hc : c < k_m σ) (h6 : ¬ k_kd σ c = 6) (h7 : ¬ k_kd σ c = 7) : yy_M l z y_G_count (.code y_G_count b_G_count 1 (some .int)) ({ frames := 0, cells := 0, slots := 0, locals := 0 }) [.ref (a_ad A c)] (ck_at D ca z A σ) (yy_ri (nI (s_ct (k_B σ c)))) := by
  refine yy_body (plainFor_of_name (by decide)) (Nat.le_of_ble_eq_true rfl) (fun b H F hS hP hH hnm => ?_)
  refine yy_aload_n F d_G_count_0 (n := 1) rfl 0 rfl ?_
  refine yy_get F X.1 X.2.1 g_G_12_G (hP.c0 hc h6 h7) rfl d_G_count_1 (n := 4) rfl ?_
  refine yy_get F X.1 X.2.1 g_G_18_S (hP.sc hc).1 rfl d_G_count_4 (n := 7) rfl ?_
  exact yy_iret F hS ⟨Nat.zero_le _, Nat.zero_le _⟩ rfl d_G_count_7 (⟨_, rfl, rfl, rfl⟩)
set_option maxRecDepth 100000 in
set_option maxHeartbeats 4000000 in
theorem c_G_start {l : Launch} {z : State} {a0 : Array Value} {D : va_G} {ca : kca} (X : kcx l z a0 D ca) {A : kA} {σ : ks} {t c : Nat} (I : iv t σ) (hc : c < k_m σ) (h6 : ¬ k_kd σ c = 6) (h7 : ¬ k_kd σ c = 7) : yy_M l z y_G_start (.code y_G_start b_G_start 1 (some .int)) ({ frames := 0, cells := 0, slots := 0, locals := 0 }) [.ref (a_ad A c)] (ck_at D ca z A σ) (yy_ri 0) := by
  refine yy_body (plainFor_of_name (by decide)) (Nat.le_of_ble_eq_true rfl) (fun b H F hS hP hH hnm => ?_)
  refine yy_iconst (v := 0) F d_G_start_0 (n := 1) rfl rfl ?_
  exact yy_iret F hS ⟨Nat.zero_le _, Nat.zero_le _⟩ rfl d_G_start_1 (⟨_, rfl, rfl, rfl⟩)
set_option maxRecDepth 100000 in
set_option maxHeartbeats 4000000 in
theorem c_C_isStale {l : Launch} {z : State} {a0 : Array Value} {D : va_G} {ca : kca} (X : kcx l z a0 D ca) {A : kA} {σ : ks} {t c : Nat} (I : iv t σ) (hc : c < k_m σ) (h6 : ¬ k_kd σ c = 6) : yy_M l z y_C_isStale (.code y_C_isStale b_C_isStale 1 (some .boolean)) ({ frames := 0, cells := 0, slots := 0, locals := 0 }) [.ref (a_ad A c)] (ck_at D ca z A σ) (yy_ri (ym_n (k_stale σ c))) := by
  refine yy_body (plainFor_of_name (by decide)) (Nat.le_of_ble_eq_true rfl) (fun b H F hS hP hH hnm => ?_)
  refine yy_iconst (v := 0) F d_C_isStale_0 (n := 1) rfl rfl ?_
  exact yy_zret F hS ⟨Nat.zero_le _, Nat.zero_le _⟩ rfl rfl d_C_isStale_1 (⟨_, rfl, by rw [k_st0 h6]; rfl, rfl⟩)
set_option maxRecDepth 100000 in
set_option maxHeartbeats 4000000 in
theorem c_P_isStale {l : Launch} {z : State} {a0 : Array Value} {D : va_G} {ca : kca} (X : kcx l z a0 D ca) {A : kA} {σ : ks} {t c : Nat} (I : iv t σ) (hc : c < k_m σ) (h6 : k_kd σ c = 6) : yy_M l z y_P_isStale (.code y_P_isStale b_P_isStale 1 (some .boolean)) ({ frames := 0, cells := 0, slots := 0, locals := 0 }) [.ref (a_ad A c)] (ck_at D ca z A σ) (yy_ri (ym_n (k_stale σ c))) := by
  refine yy_body (plainFor_of_name (by decide)) (Nat.le_of_ble_eq_true rfl) (fun b H F hS hP hH hnm => ?_)
  have hse := I.se hc h6
  have hch := I.ch hc
  have hq : nI (k_se σ c) = nI (s_ch (k_B σ c)) ↔ k_se σ c = s_ch (k_B σ c) := nI_eq (by omega) (by omega)
  refine yy_aload_n F d_P_isStale_0 (n := 1) rfl 0 rfl ?_
  refine yy_get F X.1 X.2.1 g_P_27_P (hP.c6 hc h6) rfl d_P_isStale_1 (n := 4) rfl ?_
  refine yy_aload_n F d_P_isStale_4 (n := 5) rfl 0 rfl ?_
  refine yy_get F X.1 X.2.1 g_P_30_P (hP.c6 hc h6) rfl d_P_isStale_5 (n := 8) rfl ?_
  refine yy_get F X.1 X.2.1 g_P_22_S (hP.sc hc).1 rfl d_P_isStale_8 (n := 11) rfl ?_
  refine yy_ic_eq (tgt := 18) F d_P_isStale_11 (n := 14) rfl (by decide) (fun h1 => ?_) (fun h1 => ?_)
  · refine yy_iconst (v := 0) F d_P_isStale_18 (n := 19) rfl rfl ?_
    exact yy_zret F hS ⟨Nat.zero_le _, Nat.zero_le _⟩ rfl rfl d_P_isStale_19 (⟨_, rfl, by simp [k_stale, ym_n, hq.mp h1], rfl⟩)
  · refine yy_iconst (v := 1) F d_P_isStale_14 (n := 15) rfl rfl ?_
    refine yy_goto (tgt := 19) F d_P_isStale_15 (by decide) ?_
    exact yy_zret F hS ⟨Nat.zero_le _, Nat.zero_le _⟩ rfl rfl d_P_isStale_19 (⟨_, rfl, by simp [k_stale, ym_n, h6, mt hq.mpr h1], rfl⟩)
set_option maxRecDepth 100000 in
set_option maxHeartbeats 4000000 in
theorem c_C_covers {l : Launch} {z : State} {a0 : Array Value} {D : va_G} {ca : kca} (X : kcx l z a0 D ca) {A : kA} {σ : ks} {t c : Nat} (I : iv t σ) (hc : c < k_m σ) {key : Int32} (h7 : ¬ k_kd σ c = 7) : yy_M l z y_C_covers (.code y_C_covers b_C_covers 2 (some .boolean)) ({ frames := 0, cells := 0, slots := 0, locals := 0 }) [.ref (a_ad A c), .int key] (ck_at D ca z A σ) (yy_ri (ym_n (k_cov σ c key))) := by
  refine yy_body (plainFor_of_name (by decide)) (Nat.le_of_ble_eq_true rfl) (fun b H F hS hP hH hnm => ?_)
  refine yy_iconst (v := 1) F d_C_covers_0 (n := 1) rfl rfl ?_
  exact yy_zret F hS ⟨Nat.zero_le _, Nat.zero_le _⟩ rfl rfl d_C_covers_1 (⟨_, rfl, by rw [k_cov0 h7]; rfl, rfl⟩)
set_option maxRecDepth 100000 in
set_option maxHeartbeats 4000000 in
theorem c_R_covers {l : Launch} {z : State} {a0 : Array Value} {D : va_G} {ca : kca} (X : kcx l z a0 D ca) {A : kA} {σ : ks} {t c : Nat} (I : iv t σ) (hc : c < k_m σ) {key : Int32} (h7 : k_kd σ c = 7) : yy_M l z y_R_covers (.code y_R_covers b_R_covers 2 (some .boolean)) ({ frames := 0, cells := 0, slots := 0, locals := 0 }) [.ref (a_ad A c), .int key] (ck_at D ca z A σ) (yy_ri (ym_n (k_cov σ c key))) := by
  refine yy_body (plainFor_of_name (by decide)) (Nat.le_of_ble_eq_true rfl) (fun b H F hS hP hH hnm => ?_)
  refine yy_iload_n F d_R_covers_0 (n := 1) rfl 1 rfl ?_
  refine yy_aload_n F d_R_covers_1 (n := 2) rfl 0 rfl ?_
  refine yy_get F X.1 X.2.1 g_R_9_R (hP.c7 hc h7) rfl d_R_covers_2 (n := 5) rfl ?_
  refine yy_ic_lt (tgt := 20) F d_R_covers_5 (n := 8) rfl (by decide) (fun h1 => ?_) (fun h1 => ?_)
  · refine yy_iconst (v := 0) F d_R_covers_20 (n := 21) rfl rfl ?_
    exact yy_zret F hS ⟨Nat.zero_le _, Nat.zero_le _⟩ rfl rfl d_R_covers_21 (⟨_, rfl, by simp [k_cov, ym_n, h7, Int32.not_le.mpr h1], rfl⟩)
  · refine yy_iload_n F d_R_covers_8 (n := 9) rfl 1 rfl ?_
    refine yy_aload_n F d_R_covers_9 (n := 10) rfl 0 rfl ?_
    refine yy_get F X.1 X.2.1 g_R_15_R (hP.c7 hc h7) rfl d_R_covers_10 (n := 13) rfl ?_
    refine yy_ic_gt (tgt := 20) F d_R_covers_13 (n := 16) rfl (by decide) (fun h2 => ?_) (fun h2 => ?_)
    · refine yy_iconst (v := 0) F d_R_covers_20 (n := 21) rfl rfl ?_
      exact yy_zret F hS ⟨Nat.zero_le _, Nat.zero_le _⟩ rfl rfl d_R_covers_21 (⟨_, rfl, by simp [k_cov, ym_n, h7, Int32.not_le.mpr h2], rfl⟩)
    · refine yy_iconst (v := 1) F d_R_covers_16 (n := 17) rfl rfl ?_
      refine yy_goto (tgt := 21) F d_R_covers_17 (by decide) ?_
      exact yy_zret F hS ⟨Nat.zero_le _, Nat.zero_le _⟩ rfl rfl d_R_covers_21 (⟨_, rfl, by simp [k_cov, ym_n, h7, Int32.not_lt.mp h1, Int32.not_lt.mp h2], rfl⟩)
set_option maxRecDepth 100000 in
set_option maxHeartbeats 4000000 in
theorem c_C_isList {l : Launch} {z : State} {a0 : Array Value} {D : va_G} {ca : kca} (X : kcx l z a0 D ca) {A : kA} {σ : ks} {t c : Nat} (I : iv t σ) (hc : c < k_m σ)  : yy_M l z y_C_isList (.code y_C_isList b_C_isList 1 (some .boolean)) ({ frames := 0, cells := 0, slots := 0, locals := 0 }) [.ref (a_ad A c)] (ck_at D ca z A σ) (yy_ri (ym_n (k_isl (k_kd σ c)))) := by
  refine yy_body (plainFor_of_name (by decide)) (Nat.le_of_ble_eq_true rfl) (fun b H F hS hP hH hnm => ?_)
  refine yy_aload_n F d_C_isList_0 (n := 1) rfl 0 rfl ?_
  refine cr_kind F X g_C_9_G g_C_9_P g_C_9_R hP hc d_C_isList_1 (n := 4) rfl ?_
  refine yy_if_eq (tgt := 24) F d_C_isList_4 (n := 7) rfl (by decide) (fun hb_1 => ?_) (fun hb_1 => ?_)
  · refine yy_iconst (v := 1) F d_C_isList_24 (n := 25) rfl rfl ?_
    refine yy_goto (tgt := 29) F d_C_isList_25 (by decide) ?_
    exact yy_zret F hS ⟨Nat.zero_le _, Nat.zero_le _⟩ rfl rfl d_C_isList_29 (⟨_, rfl, by simp [k_isl, ym_n, hb_1], rfl⟩)
  · refine yy_aload_n F d_C_isList_7 (n := 8) rfl 0 rfl ?_
    refine cr_kind F X g_C_9_G g_C_9_P g_C_9_R hP hc d_C_isList_8 (n := 11) rfl ?_
    refine yy_iconst (v := 1) F d_C_isList_11 (n := 12) rfl rfl ?_
    refine yy_ic_eq (tgt := 24) F d_C_isList_12 (n := 15) rfl (by decide) (fun hb_2 => ?_) (fun hb_2 => ?_)
    · refine yy_iconst (v := 1) F d_C_isList_24 (n := 25) rfl rfl ?_
      refine yy_goto (tgt := 29) F d_C_isList_25 (by decide) ?_
      exact yy_zret F hS ⟨Nat.zero_le _, Nat.zero_le _⟩ rfl rfl d_C_isList_29 (⟨_, rfl, by simp [k_isl, ym_n, hb_1, hb_2], rfl⟩)
    · refine yy_aload_n F d_C_isList_15 (n := 16) rfl 0 rfl ?_
      refine cr_kind F X g_C_9_G g_C_9_P g_C_9_R hP hc d_C_isList_16 (n := 19) rfl ?_
      refine yy_bipush (v := 6) F d_C_isList_19 (n := 21) rfl rfl ?_
      refine yy_ic_ne (tgt := 28) F d_C_isList_21 (n := 24) rfl (by decide) (fun hb_3 => ?_) (fun hb_3 => ?_)
      · refine yy_iconst (v := 0) F d_C_isList_28 (n := 29) rfl rfl ?_
        exact yy_zret F hS ⟨Nat.zero_le _, Nat.zero_le _⟩ rfl rfl d_C_isList_29 (⟨_, rfl, by simp [k_isl, ym_n, hb_1, hb_2, hb_3], rfl⟩)
      · refine yy_iconst (v := 1) F d_C_isList_24 (n := 25) rfl rfl ?_
        refine yy_goto (tgt := 29) F d_C_isList_25 (by decide) ?_
        exact yy_zret F hS ⟨Nat.zero_le _, Nat.zero_le _⟩ rfl rfl d_C_isList_29 (⟨_, rfl, by simp [k_isl, ym_n, hb_1, hb_2, hb_3], rfl⟩)
set_option maxRecDepth 100000 in
set_option maxHeartbeats 4000000 in
theorem c_C_isHashed {l : Launch} {z : State} {a0 : Array Value} {D : va_G} {ca : kca} (X : kcx l z a0 D ca) {A : kA} {σ : ks} {t c : Nat} (I : iv t σ) (hc : c < k_m σ)  : yy_M l z y_C_isHashed (.code y_C_isHashed b_C_isHashed 1 (some .boolean)) ({ frames := 0, cells := 0, slots := 0, locals := 0 }) [.ref (a_ad A c)] (ck_at D ca z A σ) (yy_ri (ym_n (k_ish (k_kd σ c)))) := by
  refine yy_body (plainFor_of_name (by decide)) (Nat.le_of_ble_eq_true rfl) (fun b H F hS hP hH hnm => ?_)
  refine yy_aload_n F d_C_isHashed_0 (n := 1) rfl 0 rfl ?_
  refine cr_kind F X g_C_9_G g_C_9_P g_C_9_R hP hc d_C_isHashed_1 (n := 4) rfl ?_
  refine yy_iconst (v := 2) F d_C_isHashed_4 (n := 5) rfl rfl ?_
  refine yy_ic_eq (tgt := 16) F d_C_isHashed_5 (n := 8) rfl (by decide) (fun hb_1 => ?_) (fun hb_1 => ?_)
  · refine yy_iconst (v := 1) F d_C_isHashed_16 (n := 17) rfl rfl ?_
    refine yy_goto (tgt := 21) F d_C_isHashed_17 (by decide) ?_
    exact yy_zret F hS ⟨Nat.zero_le _, Nat.zero_le _⟩ rfl rfl d_C_isHashed_21 (⟨_, rfl, by simp [k_ish, ym_n, hb_1], rfl⟩)
  · refine yy_aload_n F d_C_isHashed_8 (n := 9) rfl 0 rfl ?_
    refine cr_kind F X g_C_9_G g_C_9_P g_C_9_R hP hc d_C_isHashed_9 (n := 12) rfl ?_
    refine yy_iconst (v := 3) F d_C_isHashed_12 (n := 13) rfl rfl ?_
    refine yy_ic_ne (tgt := 20) F d_C_isHashed_13 (n := 16) rfl (by decide) (fun hb_2 => ?_) (fun hb_2 => ?_)
    · refine yy_iconst (v := 0) F d_C_isHashed_20 (n := 21) rfl rfl ?_
      exact yy_zret F hS ⟨Nat.zero_le _, Nat.zero_le _⟩ rfl rfl d_C_isHashed_21 (⟨_, rfl, by simp [k_ish, ym_n, hb_1, hb_2], rfl⟩)
    · refine yy_iconst (v := 1) F d_C_isHashed_16 (n := 17) rfl rfl ?_
      refine yy_goto (tgt := 21) F d_C_isHashed_17 (by decide) ?_
      exact yy_zret F hS ⟨Nat.zero_le _, Nat.zero_le _⟩ rfl rfl d_C_isHashed_21 (⟨_, rfl, by simp [k_ish, ym_n, hb_1, hb_2], rfl⟩)
set_option maxRecDepth 100000 in
set_option maxHeartbeats 4000000 in
theorem c_C_isSorted {l : Launch} {z : State} {a0 : Array Value} {D : va_G} {ca : kca} (X : kcx l z a0 D ca) {A : kA} {σ : ks} {t c : Nat} (I : iv t σ) (hc : c < k_m σ)  : yy_M l z y_C_isSorted (.code y_C_isSorted b_C_isSorted 1 (some .boolean)) ({ frames := 0, cells := 0, slots := 0, locals := 0 }) [.ref (a_ad A c)] (ck_at D ca z A σ) (yy_ri (ym_n (k_iss (k_kd σ c)))) := by
  refine yy_body (plainFor_of_name (by decide)) (Nat.le_of_ble_eq_true rfl) (fun b H F hS hP hH hnm => ?_)
  refine yy_aload_n F d_C_isSorted_0 (n := 1) rfl 0 rfl ?_
  refine cr_kind F X g_C_9_G g_C_9_P g_C_9_R hP hc d_C_isSorted_1 (n := 4) rfl ?_
  refine yy_iconst (v := 4) F d_C_isSorted_4 (n := 5) rfl rfl ?_
  refine yy_ic_eq (tgt := 17) F d_C_isSorted_5 (n := 8) rfl (by decide) (fun hb_1 => ?_) (fun hb_1 => ?_)
  · refine yy_iconst (v := 1) F d_C_isSorted_17 (n := 18) rfl rfl ?_
    refine yy_goto (tgt := 22) F d_C_isSorted_18 (by decide) ?_
    exact yy_zret F hS ⟨Nat.zero_le _, Nat.zero_le _⟩ rfl rfl d_C_isSorted_22 (⟨_, rfl, by simp [k_iss, ym_n, hb_1], rfl⟩)
  · refine yy_aload_n F d_C_isSorted_8 (n := 9) rfl 0 rfl ?_
    refine cr_kind F X g_C_9_G g_C_9_P g_C_9_R hP hc d_C_isSorted_9 (n := 12) rfl ?_
    refine yy_bipush (v := 7) F d_C_isSorted_12 (n := 14) rfl rfl ?_
    refine yy_ic_ne (tgt := 21) F d_C_isSorted_14 (n := 17) rfl (by decide) (fun hb_2 => ?_) (fun hb_2 => ?_)
    · refine yy_iconst (v := 0) F d_C_isSorted_21 (n := 22) rfl rfl ?_
      exact yy_zret F hS ⟨Nat.zero_le _, Nat.zero_le _⟩ rfl rfl d_C_isSorted_22 (⟨_, rfl, by simp [k_iss, ym_n, hb_1, hb_2], rfl⟩)
    · refine yy_iconst (v := 1) F d_C_isSorted_17 (n := 18) rfl rfl ?_
      refine yy_goto (tgt := 22) F d_C_isSorted_18 (by decide) ?_
      exact yy_zret F hS ⟨Nat.zero_le _, Nat.zero_le _⟩ rfl rfl d_C_isSorted_22 (⟨_, rfl, by simp [k_iss, ym_n, hb_1, hb_2], rfl⟩)
set_option maxRecDepth 100000 in
set_option maxHeartbeats 4000000 in
theorem c_C_isMap {l : Launch} {z : State} {a0 : Array Value} {D : va_G} {ca : kca} (X : kcx l z a0 D ca) {A : kA} {σ : ks} {t c : Nat} (I : iv t σ) (hc : c < k_m σ)  : yy_M l z y_C_isMap (.code y_C_isMap b_C_isMap 1 (some .boolean)) ({ frames := 1, cells := 0, slots := 0, locals := 20 }) [.ref (a_ad A c)] (ck_at D ca z A σ) (yy_ri (ym_n (k_ish (k_kd σ c) || k_iss (k_kd σ c)))) := by
  refine yy_body (plainFor_of_name (by decide)) (Nat.le_of_ble_eq_true rfl) (fun b H F hS hP hH hnm => ?_)
  refine yy_aload_n F d_C_isMap_0 (n := 1) rfl 0 rfl ?_
  refine yy_cri (w := (ym_n (k_ish (k_kd σ c)))) F hS (c_C_isHashed (A := A) (σ := σ) (c := c) X I hc) (yy_Bc F X.1 q_594 q_9) (yy_invC (nA := 0) (x := y_C_isHashed) F X hP hc q_588 q_590 (k_dec X q_589 q_594) (k_sel q_593 q_591 q_592 σ c) q_589 ⟨by decide, by decide, by decide +kernel⟩ rfl d_C_isMap_1) d_C_isMap_1 (n := 4) rfl (by simp [Value.category]) ⟨by decide, by decide⟩ ⟨Nat.zero_le _, Nat.zero_le _⟩ ⟨rfl, rfl⟩ hP rfl (fun _ hS_1 => ?_)
  cases hb1 : k_ish (k_kd σ c)
  · refine yy_if_ne_f (tgt := 14) F d_C_isMap_4 (n := 7) rfl (by decide) rfl ?_
    refine yy_aload_n F d_C_isMap_7 (n := 8) rfl 0 rfl ?_
    refine yy_cri (w := (ym_n (k_iss (k_kd σ c)))) F hS_1 (c_C_isSorted (A := A) (σ := σ) (c := c) X I hc) (yy_Bc F X.1 q_267 q_9) (yy_invC (nA := 0) (x := y_C_isSorted) F X hP hc q_595 q_263 (k_dec X q_262 q_267) (k_sel q_266 q_264 q_265 σ c) q_262 ⟨by decide, by decide, by decide +kernel⟩ rfl d_C_isMap_8) d_C_isMap_8 (n := 11) rfl (by simp [Value.category]) ⟨by decide, by decide⟩ ⟨Nat.zero_le _, Nat.zero_le _⟩ ⟨rfl, rfl⟩ hP rfl (fun _ hS_2 => ?_)
    cases hb2 : k_iss (k_kd σ c)
    · refine yy_if_eq_t (tgt := 18) F d_C_isMap_11 (by decide) rfl ?_
      refine yy_iconst (v := 0) F d_C_isMap_18 (n := 19) rfl rfl ?_
      exact yy_zret F hS_2 ⟨Nat.zero_le _, Nat.zero_le _⟩ rfl rfl d_C_isMap_19 (⟨_, rfl, by rw [hb1, hb2]; rfl, rfl⟩)
    · refine yy_if_eq_f (tgt := 18) F d_C_isMap_11 (n := 14) rfl (by decide) (by decide) ?_
      refine yy_iconst (v := 1) F d_C_isMap_14 (n := 15) rfl rfl ?_
      refine yy_goto (tgt := 19) F d_C_isMap_15 (by decide) ?_
      exact yy_zret F hS_2 ⟨Nat.zero_le _, Nat.zero_le _⟩ rfl rfl d_C_isMap_19 (⟨_, rfl, by rw [hb1, hb2]; rfl, rfl⟩)
  · refine yy_if_ne_t (tgt := 14) F d_C_isMap_4 (by decide) (by decide) ?_
    refine yy_iconst (v := 1) F d_C_isMap_14 (n := 15) rfl rfl ?_
    refine yy_goto (tgt := 19) F d_C_isMap_15 (by decide) ?_
    exact yy_zret F hS_1 ⟨Nat.zero_le _, Nat.zero_le _⟩ rfl rfl d_C_isMap_19 (⟨_, rfl, by rw [hb1]; rfl, rfl⟩)
set_option maxRecDepth 100000 in
set_option maxHeartbeats 4000000 in
theorem c_R_start {l : Launch} {z : State} {a0 : Array Value} {D : va_G} {ca : kca} (X : kcx l z a0 D ca) {A : kA} {σ : ks} {t c : Nat} (I : iv t σ) (hc : c < k_m σ) (h7 : k_kd σ c = 7) : yy_M l z y_R_start (.code y_R_start b_R_start 1 (some .int)) ({ frames := 1, cells := 0, slots := 0, locals := 24 }) [.ref (a_ad A c)] (ck_at D ca z A σ) (yy_ri (nI (k_start σ c))) := by
  refine yy_body (plainFor_of_name (by decide)) (Nat.le_of_ble_eq_true rfl) (fun b H F hS hP hH hnm => ?_)
  refine yy_aload_n F d_R_start_0 (n := 1) rfl 0 rfl ?_
  refine yy_get F X.1 X.2.1 g_R_18_R (hP.c7 hc h7) rfl d_R_start_1 (n := 4) rfl ?_
  refine yy_aload_n F d_R_start_4 (n := 5) rfl 0 rfl ?_
  refine yy_get F X.1 X.2.1 g_R_9_R (hP.c7 hc h7) rfl d_R_start_5 (n := 8) rfl ?_
  refine yy_iconst (v := 0) F d_R_start_8 (n := 9) rfl rfl ?_
  refine yy_cri (w := (nI (k_start σ c))) F hS (c_S_placesBefore (x := k_lo σ c) (e := 0) X (I.ct hc)) (yy_Bc F X.1 q_324 q_11) (yy_invV (nA := 2) (C := R_S) (bytes := b_S_placesBefore) (maxL := 5) (retY := (some .int)) F X.1 q_321 q_322 q_323 q_324 ⟨by decide, by decide, by decide +kernel⟩ (yy_recv F.N X.2.1 (ci := 0) rfl (hP.sc hc).1) rfl d_R_start_9) d_R_start_9 (n := 12) rfl (by simp [Value.category]) ⟨by decide, by decide⟩ ⟨Nat.le_refl _, Nat.le_refl _⟩ ⟨rfl, rfl⟩ (hP.sc hc) (by rw [k_start7 h7]) (fun _ hS_1 => ?_)
  exact yy_iret F hS_1 ⟨Nat.zero_le _, Nat.zero_le _⟩ rfl d_R_start_12 (⟨_, rfl, rfl, rfl⟩)
set_option maxRecDepth 100000 in
set_option maxHeartbeats 4000000 in
theorem c_R_count {l : Launch} {z : State} {a0 : Array Value} {D : va_G} {ca : kca} (X : kcx l z a0 D ca) {A : kA} {σ : ks} {t c : Nat} (I : iv t σ) (hc : c < k_m σ) (h7 : k_kd σ c = 7) : yy_M l z y_R_count (.code y_R_count b_R_count 1 (some .int)) ({ frames := 2, cells := 0, slots := 0, locals := 44 }) [.ref (a_ad A c)] (ck_at D ca z A σ) (yy_ri (nI (k_size σ c))) := by
  refine yy_body (plainFor_of_name (by decide)) (Nat.le_of_ble_eq_true rfl) (fun b H F hS hP hH hnm => ?_)
  refine yy_iconst (v := 0) F d_R_count_0 (n := 1) rfl rfl ?_
  refine yy_aload_n F d_R_count_1 (n := 2) rfl 0 rfl ?_
  refine yy_get F X.1 X.2.1 g_R_18_R (hP.c7 hc h7) rfl d_R_count_2 (n := 5) rfl ?_
  refine yy_aload_n F d_R_count_5 (n := 6) rfl 0 rfl ?_
  refine yy_get F X.1 X.2.1 g_R_15_R (hP.c7 hc h7) rfl d_R_count_6 (n := 9) rfl ?_
  refine yy_iconst (v := 1) F d_R_count_9 (n := 10) rfl rfl ?_
  refine yy_cri (w := (nI (ym_cnt (ym_bel (s_nu (k_B σ c)) (k_hi σ c) 1) (s_ct (k_B σ c))))) F hS (c_S_placesBefore (x := k_hi σ c) (e := 1) X (I.ct hc)) (yy_Bc F X.1 q_324 q_11) (yy_invV (nA := 2) (C := R_S) (bytes := b_S_placesBefore) (maxL := 5) (retY := (some .int)) F X.1 q_321 q_322 q_323 q_324 ⟨by decide, by decide, by decide +kernel⟩ (yy_recv F.N X.2.1 (ci := 0) rfl (hP.sc hc).1) rfl d_R_count_10) d_R_count_10 (n := 13) rfl (by simp [Value.category]) ⟨by decide, by decide⟩ ⟨Nat.le_refl _, Nat.le_refl _⟩ ⟨rfl, rfl⟩ (hP.sc hc) rfl (fun _ hS_1 => ?_)
  refine yy_aload_n F d_R_count_13 (n := 14) rfl 0 rfl ?_
  refine yy_cri (w := (nI (ym_cnt (ym_bel (s_nu (k_B σ c)) (k_lo σ c) 0) (s_ct (k_B σ c))))) F hS_1 (c_R_start (A := A) (σ := σ) (c := c) X I hc h7) (yy_Bc F X.1 q_328 q_15) (yy_invV (nA := 0) (C := R_R) (bytes := b_R_start) (maxL := 1) (retY := (some .int)) F X.1 q_325 q_326 q_327 q_328 ⟨by decide, by decide, by decide +kernel⟩ (yy_recv F.N X.2.1 (ci := 3) rfl (hP.c7 hc h7)) rfl d_R_count_14) d_R_count_14 (n := 17) rfl (by simp [Value.category]) ⟨by decide, by decide⟩ ⟨Nat.le_refl _, Nat.le_refl _⟩ ⟨rfl, rfl⟩ hP (by rw [k_start7 h7]) (fun _ hS_2 => ?_)
  refine yy_isub F d_R_count_17 (n := 18) rfl ?_
  refine yy_cri (w := (nI (k_size σ c))) F hS_2 (c_X_max X) (yy_Bc F X.1 q_331 q_14) (yy_invS (nA := 2) (bytes := b_X_max) (maxL := 2) (retY := (some .int)) F X.1 q_329 q_330 q_14 q_331 ⟨by decide, by decide, by decide +kernel⟩ rfl d_R_count_18) d_R_count_18 (n := 21) rfl (by simp [Value.category]) ⟨by decide, by decide⟩ ⟨Nat.le_refl _, Nat.le_refl _⟩ ⟨rfl, rfl⟩ trivial (by rw [k_size7 h7]; exact ym_mx0 (Nat.le_trans (ym_cnt_le _ _) (I.ct hc)) (Nat.le_trans (ym_cnt_le _ _) (I.ct hc))) (fun _ hS_3 => ?_)
  exact yy_iret F hS_3 ⟨Nat.zero_le _, Nat.zero_le _⟩ rfl d_R_count_21 (⟨_, rfl, rfl, rfl⟩)
theorem vd_start {l : Launch} {z : State} {a0 : Array Value} {D : va_G} {ca : kca} {rm : Room} {cc : ByteArray} {nL : Nat} {own : String} {ret : Option FieldType} {hh : List (Nat × Nat × Nat × Nat)} {Post : yy_R → Heap → Prop} {b : yy_T} {H : Heap} {locs : List Loc} {k : Nat × Nat} {pc n idx : Nat} {lv : List (Nat × Value)} {rest : List Value} {A : kA} {σ : ks} {t c : Nat} (F : yy_A l z b rm cc nL own ret hh Post) (X : kcx l z a0 D ca) (I : iv t σ) (hc : c < k_m σ) (P : ck_at D ca z A σ H) (hS : yy_S z H locs) (hl : Cond.methodLink own idx y_C_start ∈ lw_tbl) (hR : 2 ≤ rm.frames ∧ 44 ≤ rm.locals) (hW8 : (rest.map fun v => v.category).sum ≤ 8) (d : decode cc pc = .ok (.invokevirtual idx, 3)) (hn : pc + 3 = n) (hf : k.1 ≤ rm.cells ∧ k.2 ≤ rm.slots)
    (kk : ∀ locs1 : List Loc, yy_S z H locs1 → yy_Y b H locs1 k n lv (.int (nI (k_start σ c)) :: rest)) : yy_Y b H locs k pc lv (.ref (a_ad A c) :: rest) := by
  by_cases h6 : k_kd σ c = 6
  · exact yy_cri (w := nI (k_start σ c)) F hS (c_P_start (A := A) (σ := σ) (c := c) X I hc h6) (yy_Bc F X.1 q_369 q_16) (yy_invC (nA := 0) (x := y_C_start) F X P hc hl q_366 (k_deca X q_365) (by rw [k_cls6 h6]; exact q_367) q_368 ⟨by decide, by decide, by decide +kernel⟩ rfl d) d hn hW8 (by constructor <;> simp <;> omega) hf ⟨rfl, rfl⟩ P (by rw [k_start6 h6]) kk
  · by_cases h7 : k_kd σ c = 7
    · exact yy_cri (w := nI (k_start σ c)) F hS (c_R_start (A := A) (σ := σ) (c := c) X I hc h7) (yy_Bc F X.1 q_328 q_15) (yy_invC (nA := 0) (x := y_C_start) F X P hc hl q_366 (k_deca X q_365) (by rw [k_cls7 h7]; exact q_370) q_326 ⟨by decide, by decide, by decide +kernel⟩ rfl d) d hn hW8 (by constructor <;> simp <;> omega) hf ⟨rfl, rfl⟩ P (rfl) kk
    · exact yy_cri (w := nI (k_start σ c)) F hS (c_G_start (A := A) (σ := σ) (c := c) X I hc h6 h7) (yy_Bc F X.1 q_373 q_10) (yy_invC (nA := 0) (x := y_C_start) F X P hc hl q_366 (k_deca X q_365) (by rw [k_cls0 h6 h7]; exact q_371) q_372 ⟨by decide, by decide, by decide +kernel⟩ rfl d) d hn hW8 (by constructor <;> simp <;> omega) hf ⟨rfl, rfl⟩ P (by rw [k_start0 h6 h7]; rfl) kk
theorem vd_count {l : Launch} {z : State} {a0 : Array Value} {D : va_G} {ca : kca} {rm : Room} {cc : ByteArray} {nL : Nat} {own : String} {ret : Option FieldType} {hh : List (Nat × Nat × Nat × Nat)} {Post : yy_R → Heap → Prop} {b : yy_T} {H : Heap} {locs : List Loc} {k : Nat × Nat} {pc n idx : Nat} {lv : List (Nat × Value)} {rest : List Value} {A : kA} {σ : ks} {t c : Nat} (F : yy_A l z b rm cc nL own ret hh Post) (X : kcx l z a0 D ca) (I : iv t σ) (hc : c < k_m σ) (P : ck_at D ca z A σ H) (hS : yy_S z H locs) (hl : Cond.methodLink own idx y_C_count ∈ lw_tbl) (hR : 3 ≤ rm.frames ∧ 64 ≤ rm.locals) (hW8 : (rest.map fun v => v.category).sum ≤ 8) (d : decode cc pc = .ok (.invokevirtual idx, 3)) (hn : pc + 3 = n) (hf : k.1 ≤ rm.cells ∧ k.2 ≤ rm.slots)
    (kk : ∀ locs1 : List Loc, yy_S z H locs1 → yy_Y b H locs1 k n lv (.int (nI (k_size σ c)) :: rest)) : yy_Y b H locs k pc lv (.ref (a_ad A c) :: rest) := by
  by_cases h6 : k_kd σ c = 6
  · exact yy_cri (w := nI (k_size σ c)) F hS (c_P_count (A := A) (σ := σ) (c := c) X I hc h6) (yy_Bc F X.1 q_317 q_16) (yy_invC (nA := 0) (x := y_C_count) F X P hc hl q_314 (k_deca X q_313) (by rw [k_cls6 h6]; exact q_315) q_316 ⟨by decide, by decide, by decide +kernel⟩ rfl d) d hn hW8 (by constructor <;> simp <;> omega) hf ⟨rfl, rfl⟩ P (by rw [k_size6 h6]) kk
  · by_cases h7 : k_kd σ c = 7
    · exact yy_cri (w := nI (k_size σ c)) F hS (c_R_count (A := A) (σ := σ) (c := c) X I hc h7) (yy_Bc F X.1 q_320 q_15) (yy_invC (nA := 0) (x := y_C_count) F X P hc hl q_314 (k_deca X q_313) (by rw [k_cls7 h7]; exact q_318) q_319 ⟨by decide, by decide, by decide +kernel⟩ rfl d) d hn hW8 (by constructor <;> simp <;> omega) hf ⟨rfl, rfl⟩ P (rfl) kk
    · exact yy_cri (w := nI (k_size σ c)) F hS (c_G_count (A := A) (σ := σ) (c := c) X I hc h6 h7) (yy_Bc F X.1 q_334 q_10) (yy_invC (nA := 0) (x := y_C_count) F X P hc hl q_314 (k_deca X q_313) (by rw [k_cls0 h6 h7]; exact q_332) q_333 ⟨by decide, by decide, by decide +kernel⟩ rfl d) d hn hW8 (by constructor <;> simp <;> omega) hf ⟨rfl, rfl⟩ P (by rw [k_size0 h6 h7]) kk
theorem vd_isStale {l : Launch} {z : State} {a0 : Array Value} {D : va_G} {ca : kca} {rm : Room} {cc : ByteArray} {nL : Nat} {own : String} {ret : Option FieldType} {hh : List (Nat × Nat × Nat × Nat)} {Post : yy_R → Heap → Prop} {b : yy_T} {H : Heap} {locs : List Loc} {k : Nat × Nat} {pc n idx : Nat} {lv : List (Nat × Value)} {rest : List Value} {A : kA} {σ : ks} {t c : Nat} (F : yy_A l z b rm cc nL own ret hh Post) (X : kcx l z a0 D ca) (I : iv t σ) (hc : c < k_m σ) (P : ck_at D ca z A σ H) (hS : yy_S z H locs) (hl : Cond.methodLink own idx y_C_isStale ∈ lw_tbl) (hR : 1 ≤ rm.frames ∧ 20 ≤ rm.locals) (hW8 : (rest.map fun v => v.category).sum ≤ 8) (d : decode cc pc = .ok (.invokevirtual idx, 3)) (hn : pc + 3 = n) (hf : k.1 ≤ rm.cells ∧ k.2 ≤ rm.slots)
    (kk : ∀ locs1 : List Loc, yy_S z H locs1 → yy_Y b H locs1 k n lv (.int (ym_n (k_stale σ c)) :: rest)) : yy_Y b H locs k pc lv (.ref (a_ad A c) :: rest) := by
  by_cases h6 : k_kd σ c = 6
  · exact yy_cri (w := ym_n (k_stale σ c)) F hS (c_P_isStale (A := A) (σ := σ) (c := c) X I hc h6) (yy_Bc F X.1 q_295 q_16) (yy_invC (nA := 0) (x := y_C_isStale) F X P hc hl q_292 (k_dec X q_291 q_298) (by rw [k_cls6 h6]; exact q_293) q_294 ⟨by decide, by decide, by decide +kernel⟩ rfl d) d hn hW8 (by constructor <;> simp <;> omega) hf ⟨rfl, rfl⟩ P (rfl) kk
  · by_cases h7 : k_kd σ c = 7
    · exact yy_cri (w := ym_n (k_stale σ c)) F hS (c_C_isStale (A := A) (σ := σ) (c := c) X I hc h6) (yy_Bc F X.1 q_298 q_9) (yy_invC (nA := 0) (x := y_C_isStale) F X P hc hl q_292 (k_dec X q_291 q_298) (by rw [k_cls7 h7]; exact q_296) q_291 ⟨by decide, by decide, by decide +kernel⟩ rfl d) d hn hW8 (by constructor <;> simp <;> omega) hf ⟨rfl, rfl⟩ P (rfl) kk
    · exact yy_cri (w := ym_n (k_stale σ c)) F hS (c_C_isStale (A := A) (σ := σ) (c := c) X I hc h6) (yy_Bc F X.1 q_298 q_9) (yy_invC (nA := 0) (x := y_C_isStale) F X P hc hl q_292 (k_dec X q_291 q_298) (by rw [k_cls0 h6 h7]; exact q_297) q_291 ⟨by decide, by decide, by decide +kernel⟩ rfl d) d hn hW8 (by constructor <;> simp <;> omega) hf ⟨rfl, rfl⟩ P (rfl) kk
theorem vd_covers {l : Launch} {z : State} {a0 : Array Value} {D : va_G} {ca : kca} {rm : Room} {cc : ByteArray} {nL : Nat} {own : String} {ret : Option FieldType} {hh : List (Nat × Nat × Nat × Nat)} {Post : yy_R → Heap → Prop} {b : yy_T} {H : Heap} {locs : List Loc} {k : Nat × Nat} {pc n idx : Nat} {lv : List (Nat × Value)} {rest : List Value} {A : kA} {σ : ks} {t c : Nat} {key : Int32} (F : yy_A l z b rm cc nL own ret hh Post) (X : kcx l z a0 D ca) (I : iv t σ) (hc : c < k_m σ) (P : ck_at D ca z A σ H) (hS : yy_S z H locs) (hl : Cond.methodLink own idx y_C_covers ∈ lw_tbl) (hR : 1 ≤ rm.frames ∧ 21 ≤ rm.locals) (hW8 : (rest.map fun v => v.category).sum ≤ 8) (d : decode cc pc = .ok (.invokevirtual idx, 3)) (hn : pc + 3 = n) (hf : k.1 ≤ rm.cells ∧ k.2 ≤ rm.slots)
    (kk : ∀ locs1 : List Loc, yy_S z H locs1 → yy_Y b H locs1 k n lv (.int (ym_n (k_cov σ c key)) :: rest)) : yy_Y b H locs k pc lv (.int key :: .ref (a_ad A c) :: rest) := by
  by_cases h6 : k_kd σ c = 6
  · exact yy_cri (w := ym_n (k_cov σ c key)) F hS (c_C_covers (A := A) (σ := σ) (c := c) (key := key) X I hc (fun h => absurd (h6.symm.trans h) (by decide))) (yy_Bc F X.1 q_607 q_9) (yy_invC (nA := 1) (x := y_C_covers) F X P hc hl q_601 (k_dec X q_600 q_607) (by rw [k_cls6 h6]; exact q_602) q_600 ⟨by decide, by decide, by decide +kernel⟩ rfl d) d hn hW8 (by constructor <;> simp <;> omega) hf ⟨rfl, rfl⟩ P (rfl) kk
  · by_cases h7 : k_kd σ c = 7
    · exact yy_cri (w := ym_n (k_cov σ c key)) F hS (c_R_covers (A := A) (σ := σ) (c := c) (key := key) X I hc h7) (yy_Bc F X.1 q_605 q_15) (yy_invC (nA := 1) (x := y_C_covers) F X P hc hl q_601 (k_dec X q_600 q_607) (by rw [k_cls7 h7]; exact q_603) q_604 ⟨by decide, by decide, by decide +kernel⟩ rfl d) d hn hW8 (by constructor <;> simp <;> omega) hf ⟨rfl, rfl⟩ P (rfl) kk
    · exact yy_cri (w := ym_n (k_cov σ c key)) F hS (c_C_covers (A := A) (σ := σ) (c := c) (key := key) X I hc h7) (yy_Bc F X.1 q_607 q_9) (yy_invC (nA := 1) (x := y_C_covers) F X P hc hl q_601 (k_dec X q_600 q_607) (by rw [k_cls0 h6 h7]; exact q_606) q_600 ⟨by decide, by decide, by decide +kernel⟩ rfl d) d hn hW8 (by constructor <;> simp <;> omega) hf ⟨rfl, rfl⟩ P (rfl) kk
