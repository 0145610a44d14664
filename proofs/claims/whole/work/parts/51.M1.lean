/-! PART M1: the reference's readers -/
theorem k_isl_le {t : Nat} {σ : ks} {c : Nat} (I : iv t σ) (hc : c < k_m σ) : k_isl (k_kd σ c) = (decide (k_kd σ c ≤ 1) || decide (k_kd σ c = 6)) := by
  rcases (I.cc hc).1 with h | h | h | h | h | h | h | h <;> (rw [h]; decide)
theorem k_ism_not {t : Nat} {σ : ks} {c : Nat} (I : iv t σ) (hc : c < k_m σ) : k_ism (k_kd σ c) = (!k_isl (k_kd σ c) && !decide (k_kd σ c = 5)) := by
  rcases (I.cc hc).1 with h | h | h | h | h | h | h | h <;> (rw [h]; decide)
set_option maxRecDepth 100000 in
set_option maxHeartbeats 4000000 in
theorem c_M_thrown {l : Launch} {z : State} {a0 : Array Value} {D : va_G} {ca : kca} (X : kcx l z a0 D ca) {a n : Nat} {cd : Int32} {s : ms} {σ : ks} {t : Nat} (I : iv t σ) (R : mr s σ)  : yy_M l z y_M_thrown (.code y_M_thrown b_M_thrown 1 (some .int)) ({ frames := 0, cells := 0, slots := 0, locals := 0 }) [.ref a] (mo_at D ca z a n cd s) (yy_ri cd) := by
  refine yy_body (plainFor_of_name (by decide)) (Nat.le_of_ble_eq_true rfl) (fun b H F hS hP hH hnm => ?_)
  have h10 := I.m10
  refine yy_aload_n F d_M_thrown_0 (n := 1) rfl 0 rfl ?_
  refine yy_get F X.1 X.2.1 g_M_55_M hP.o rfl d_M_thrown_1 (n := 4) rfl ?_
  exact yy_iret F hS ⟨Nat.zero_le _, Nat.zero_le _⟩ rfl d_M_thrown_4 (⟨_, rfl, rfl, rfl⟩)
set_option maxRecDepth 100000 in
set_option maxHeartbeats 4000000 in
theorem c_M_isThere {l : Launch} {z : State} {a0 : Array Value} {D : va_G} {ca : kca} (X : kcx l z a0 D ca) {a n : Nat} {cd : Int32} {s : ms} {σ : ks} {t : Nat} (I : iv t σ) (R : mr s σ) {x : Int32} : yy_M l z y_M_isThere (.code y_M_isThere b_M_isThere 2 (some .boolean)) ({ frames := 0, cells := 0, slots := 0, locals := 0 }) [.ref a, .int x] (mo_at D ca z a n cd s) (yy_ri (ym_n (ym_inb x (k_m σ)))) := by
  refine yy_body (plainFor_of_name (by decide)) (Nat.le_of_ble_eq_true rfl) (fun b H F hS hP hH hnm => ?_)
  have h10 := I.m10
  refine yy_iload_n F d_M_isThere_0 (n := 1) rfl 1 rfl ?_
  refine yy_if_lt (tgt := 16) F d_M_isThere_1 (n := 4) rfl (by decide) (fun h1 => ?_) (fun h1 => ?_)
  · refine yy_iconst (v := 0) F d_M_isThere_16 (n := 17) rfl rfl ?_
    exact yy_zret F hS ⟨Nat.zero_le _, Nat.zero_le _⟩ rfl rfl d_M_isThere_17 (⟨_, rfl, by simp [ym_inb, ym_n, h1], rfl⟩)
  · refine yy_iload_n F d_M_isThere_4 (n := 5) rfl 1 rfl ?_
    refine yy_aload_n F d_M_isThere_5 (n := 6) rfl 0 rfl ?_
    refine yy_get F X.1 X.2.1 g_M_59_M hP.o rfl d_M_isThere_6 (n := 9) rfl ?_
    refine yy_tope (y := (nI (k_m σ))) (by rw [R.1]) ?_
    refine yy_ic_ge (tgt := 16) F d_M_isThere_9 (n := 12) rfl (by decide) (fun h2 => ?_) (fun h2 => ?_)
    · refine yy_iconst (v := 0) F d_M_isThere_16 (n := 17) rfl rfl ?_
      exact yy_zret F hS ⟨Nat.zero_le _, Nat.zero_le _⟩ rfl rfl d_M_isThere_17 (⟨_, rfl, by simp [ym_inb, ym_n, h1, Int32.not_lt.mpr h2], rfl⟩)
    · refine yy_iconst (v := 1) F d_M_isThere_12 (n := 13) rfl rfl ?_
      refine yy_goto (tgt := 17) F d_M_isThere_13 (by decide) ?_
      exact yy_zret F hS ⟨Nat.zero_le _, Nat.zero_le _⟩ rfl rfl d_M_isThere_17 (⟨_, rfl, by simp [ym_inb, ym_n, h1, Int32.not_le.mp h2], rfl⟩)
set_option maxRecDepth 100000 in
set_option maxHeartbeats 4000000 in
theorem c_M_isList {l : Launch} {z : State} {a0 : Array Value} {D : va_G} {ca : kca} (X : kcx l z a0 D ca) {a n : Nat} {cd : Int32} {s : ms} {σ : ks} {t : Nat} (I : iv t σ) (R : mr s σ) {c : Nat} (hc : c < k_m σ) : yy_M l z y_M_isList (.code y_M_isList b_M_isList 2 (some .boolean)) ({ frames := 0, cells := 0, slots := 0, locals := 0 }) [.ref a, .int (nI c)] (mo_at D ca z a n cd s) (yy_ri (ym_n (k_isl (k_kd σ c)))) := by
  refine yy_body (plainFor_of_name (by decide)) (Nat.le_of_ble_eq_true rfl) (fun b H F hS hP hH hnm => ?_)
  have h10 := I.m10
  refine yy_aload_n F d_M_isList_0 (n := 1) rfl 0 rfl ?_
  refine yy_get F X.1 X.2.1 g_M_7_M hP.o rfl d_M_isList_1 (n := 4) rfl ?_
  refine yy_iload_n F d_M_isList_4 (n := 5) rfl 1 rfl ?_
  refine ma_ld (j := 0) (i := c) F X hP (by decide) (show c < 10 by omega) d_M_isList_5 (n' := 6) rfl ?_
  refine yy_tope (y := (k_kd σ c)) (R.kd hc) ?_
  refine yy_iconst (v := 1) F d_M_isList_6 (n := 7) rfl rfl ?_
  refine yy_ic_le (tgt := 21) F d_M_isList_7 (n := 10) rfl (by decide) (fun hb_1 => ?_) (fun hb_1 => ?_)
  · refine yy_iconst (v := 1) F d_M_isList_21 (n := 22) rfl rfl ?_
    refine yy_goto (tgt := 26) F d_M_isList_22 (by decide) ?_
    exact yy_zret F hS ⟨Nat.zero_le _, Nat.zero_le _⟩ rfl rfl d_M_isList_26 (⟨_, rfl, by rw [k_isl_le I hc]; simp [ym_n, hb_1], rfl⟩)
  · refine yy_aload_n F d_M_isList_10 (n := 11) rfl 0 rfl ?_
    refine yy_get F X.1 X.2.1 g_M_7_M hP.o rfl d_M_isList_11 (n := 14) rfl ?_
    refine yy_iload_n F d_M_isList_14 (n := 15) rfl 1 rfl ?_
    refine ma_ld (j := 0) (i := c) F X hP (by decide) (show c < 10 by omega) d_M_isList_15 (n' := 16) rfl ?_
    refine yy_tope (y := (k_kd σ c)) (R.kd hc) ?_
    refine yy_bipush (v := 6) F d_M_isList_16 (n := 18) rfl rfl ?_
    refine yy_ic_ne (tgt := 25) F d_M_isList_18 (n := 21) rfl (by decide) (fun hb_2 => ?_) (fun hb_2 => ?_)
    · refine yy_iconst (v := 0) F d_M_isList_25 (n := 26) rfl rfl ?_
      exact yy_zret F hS ⟨Nat.zero_le _, Nat.zero_le _⟩ rfl rfl d_M_isList_26 (⟨_, rfl, by rw [k_isl_le I hc]; simp [ym_n, hb_1, hb_2], rfl⟩)
    · refine yy_iconst (v := 1) F d_M_isList_21 (n := 22) rfl rfl ?_
      refine yy_goto (tgt := 26) F d_M_isList_22 (by decide) ?_
      exact yy_zret F hS ⟨Nat.zero_le _, Nat.zero_le _⟩ rfl rfl d_M_isList_26 (⟨_, rfl, by rw [k_isl_le I hc]; simp [ym_n, hb_1, hb_2], rfl⟩)
set_option maxRecDepth 100000 in
set_option maxHeartbeats 4000000 in
theorem c_M_isTree {l : Launch} {z : State} {a0 : Array Value} {D : va_G} {ca : kca} (X : kcx l z a0 D ca) {a n : Nat} {cd : Int32} {s : ms} {σ : ks} {t : Nat} (I : iv t σ) (R : mr s σ) {c : Nat} (hc : c < k_m σ) : yy_M l z y_M_isTree (.code y_M_isTree b_M_isTree 2 (some .boolean)) ({ frames := 0, cells := 0, slots := 0, locals := 0 }) [.ref a, .int (nI c)] (mo_at D ca z a n cd s) (yy_ri (ym_n (k_iss (k_kd σ c)))) := by
  refine yy_body (plainFor_of_name (by decide)) (Nat.le_of_ble_eq_true rfl) (fun b H F hS hP hH hnm => ?_)
  have h10 := I.m10
  refine yy_aload_n F d_M_isTree_0 (n := 1) rfl 0 rfl ?_
  refine yy_get F X.1 X.2.1 g_M_7_M hP.o rfl d_M_isTree_1 (n := 4) rfl ?_
  refine yy_iload_n F d_M_isTree_4 (n := 5) rfl 1 rfl ?_
  refine ma_ld (j := 0) (i := c) F X hP (by decide) (show c < 10 by omega) d_M_isTree_5 (n' := 6) rfl ?_
  refine yy_tope (y := (k_kd σ c)) (R.kd hc) ?_
  refine yy_iconst (v := 4) F d_M_isTree_6 (n := 7) rfl rfl ?_
  refine yy_ic_eq (tgt := 21) F d_M_isTree_7 (n := 10) rfl (by decide) (fun hb_1 => ?_) (fun hb_1 => ?_)
  · refine yy_iconst (v := 1) F d_M_isTree_21 (n := 22) rfl rfl ?_
    refine yy_goto (tgt := 26) F d_M_isTree_22 (by decide) ?_
    exact yy_zret F hS ⟨Nat.zero_le _, Nat.zero_le _⟩ rfl rfl d_M_isTree_26 (⟨_, rfl, by simp [ym_n, k_iss, hb_1], rfl⟩)
  · refine yy_aload_n F d_M_isTree_10 (n := 11) rfl 0 rfl ?_
    refine yy_get F X.1 X.2.1 g_M_7_M hP.o rfl d_M_isTree_11 (n := 14) rfl ?_
    refine yy_iload_n F d_M_isTree_14 (n := 15) rfl 1 rfl ?_
    refine ma_ld (j := 0) (i := c) F X hP (by decide) (show c < 10 by omega) d_M_isTree_15 (n' := 16) rfl ?_
    refine yy_tope (y := (k_kd σ c)) (R.kd hc) ?_
    refine yy_bipush (v := 7) F d_M_isTree_16 (n := 18) rfl rfl ?_
    refine yy_ic_ne (tgt := 25) F d_M_isTree_18 (n := 21) rfl (by decide) (fun hb_2 => ?_) (fun hb_2 => ?_)
    · refine yy_iconst (v := 0) F d_M_isTree_25 (n := 26) rfl rfl ?_
      exact yy_zret F hS ⟨Nat.zero_le _, Nat.zero_le _⟩ rfl rfl d_M_isTree_26 (⟨_, rfl, by simp [ym_n, k_iss, hb_1, hb_2], rfl⟩)
    · refine yy_iconst (v := 1) F d_M_isTree_21 (n := 22) rfl rfl ?_
      refine yy_goto (tgt := 26) F d_M_isTree_22 (by decide) ?_
      exact yy_zret F hS ⟨Nat.zero_le _, Nat.zero_le _⟩ rfl rfl d_M_isTree_26 (⟨_, rfl, by simp [ym_n, k_iss, hb_1, hb_2], rfl⟩)
set_option maxRecDepth 100000 in
set_option maxHeartbeats 4000000 in
theorem c_M_hashes {l : Launch} {z : State} {a0 : Array Value} {D : va_G} {ca : kca} (X : kcx l z a0 D ca) {a n : Nat} {cd : Int32} {s : ms} {σ : ks} {t : Nat} (I : iv t σ) (R : mr s σ) {c : Nat} (hc : c < k_m σ) : yy_M l z y_M_hashes (.code y_M_hashes b_M_hashes 2 (some .boolean)) ({ frames := 0, cells := 0, slots := 0, locals := 0 }) [.ref a, .int (nI c)] (mo_at D ca z a n cd s) (yy_ri (ym_n (k_ish (k_kd σ c)))) := by
  refine yy_body (plainFor_of_name (by decide)) (Nat.le_of_ble_eq_true rfl) (fun b H F hS hP hH hnm => ?_)
  have h10 := I.m10
  refine yy_aload_n F d_M_hashes_0 (n := 1) rfl 0 rfl ?_
  refine yy_get F X.1 X.2.1 g_M_7_M hP.o rfl d_M_hashes_1 (n := 4) rfl ?_
  refine yy_iload_n F d_M_hashes_4 (n := 5) rfl 1 rfl ?_
  refine ma_ld (j := 0) (i := c) F X hP (by decide) (show c < 10 by omega) d_M_hashes_5 (n' := 6) rfl ?_
  refine yy_tope (y := (k_kd σ c)) (R.kd hc) ?_
  refine yy_iconst (v := 2) F d_M_hashes_6 (n := 7) rfl rfl ?_
  refine yy_ic_eq (tgt := 20) F d_M_hashes_7 (n := 10) rfl (by decide) (fun hb_1 => ?_) (fun hb_1 => ?_)
  · refine yy_iconst (v := 1) F d_M_hashes_20 (n := 21) rfl rfl ?_
    refine yy_goto (tgt := 25) F d_M_hashes_21 (by decide) ?_
    exact yy_zret F hS ⟨Nat.zero_le _, Nat.zero_le _⟩ rfl rfl d_M_hashes_25 (⟨_, rfl, by simp [ym_n, k_ish, hb_1], rfl⟩)
  · refine yy_aload_n F d_M_hashes_10 (n := 11) rfl 0 rfl ?_
    refine yy_get F X.1 X.2.1 g_M_7_M hP.o rfl d_M_hashes_11 (n := 14) rfl ?_
    refine yy_iload_n F d_M_hashes_14 (n := 15) rfl 1 rfl ?_
    refine ma_ld (j := 0) (i := c) F X hP (by decide) (show c < 10 by omega) d_M_hashes_15 (n' := 16) rfl ?_
    refine yy_tope (y := (k_kd σ c)) (R.kd hc) ?_
    refine yy_iconst (v := 3) F d_M_hashes_16 (n := 17) rfl rfl ?_
    refine yy_ic_ne (tgt := 24) F d_M_hashes_17 (n := 20) rfl (by decide) (fun hb_2 => ?_) (fun hb_2 => ?_)
    · refine yy_iconst (v := 0) F d_M_hashes_24 (n := 25) rfl rfl ?_
      exact yy_zret F hS ⟨Nat.zero_le _, Nat.zero_le _⟩ rfl rfl d_M_hashes_25 (⟨_, rfl, by simp [ym_n, k_ish, hb_1, hb_2], rfl⟩)
    · refine yy_iconst (v := 1) F d_M_hashes_20 (n := 21) rfl rfl ?_
      refine yy_goto (tgt := 25) F d_M_hashes_21 (by decide) ?_
      exact yy_zret F hS ⟨Nat.zero_le _, Nat.zero_le _⟩ rfl rfl d_M_hashes_25 (⟨_, rfl, by simp [ym_n, k_ish, hb_1, hb_2], rfl⟩)
set_option maxRecDepth 100000 in
set_option maxHeartbeats 4000000 in
theorem c_M_isMap {l : Launch} {z : State} {a0 : Array Value} {D : va_G} {ca : kca} (X : kcx l z a0 D ca) {a n : Nat} {cd : Int32} {s : ms} {σ : ks} {t : Nat} (I : iv t σ) (R : mr s σ) {c : Nat} (hc : c < k_m σ) : yy_M l z y_M_isMap (.code y_M_isMap b_M_isMap 2 (some .boolean)) ({ frames := 1, cells := 0, slots := 0, locals := 21 }) [.ref a, .int (nI c)] (mo_at D ca z a n cd s) (yy_ri (ym_n (k_ism (k_kd σ c)))) := by
  refine yy_body (plainFor_of_name (by decide)) (Nat.le_of_ble_eq_true rfl) (fun b H F hS hP hH hnm => ?_)
  have h10 := I.m10
  refine yy_aload_n F d_M_isMap_0 (n := 1) rfl 0 rfl ?_
  refine yy_iload_n F d_M_isMap_1 (n := 2) rfl 1 rfl ?_
  refine yy_cri (w := (ym_n (k_isl (k_kd σ c)))) F hS (c_M_isList X I R hc) (yy_Bc F X.1 q_922 q_3) (yy_invV (nA := 1) (C := R_M) (bytes := b_M_isList) (maxL := 2) (retY := (some .boolean)) F X.1 q_919 q_921 qs_M_isList q_922 ⟨by decide, by decide, by decide +kernel⟩ (yy_recv F.N X.2.1 (ci := 6) rfl hP.o) rfl d_M_isMap_2) d_M_isMap_2 (n := 5) rfl (by simp [Value.category]) ⟨by decide, by decide⟩ ⟨Nat.zero_le _, Nat.zero_le _⟩ ⟨rfl, rfl⟩ hP rfl (fun _ hSw_1 => ?_)
  cases hl : k_isl (k_kd σ c)
  · refine yy_if_ne_f (tgt := 22) F d_M_isMap_5 (n := 8) rfl (by decide) rfl ?_
    refine yy_aload_n F d_M_isMap_8 (n := 9) rfl 0 rfl ?_
    refine yy_get F X.1 X.2.1 g_M_7_M hP.o rfl d_M_isMap_9 (n := 12) rfl ?_
    refine yy_iload_n F d_M_isMap_12 (n := 13) rfl 1 rfl ?_
    refine ma_ld (j := 0) (i := c) F X hP (by decide) (show c < 10 by omega) d_M_isMap_13 (n' := 14) rfl ?_
    refine yy_tope (y := (k_kd σ c)) (R.kd hc) ?_
    refine yy_iconst (v := 5) F d_M_isMap_14 (n := 15) rfl rfl ?_
    refine yy_ic_eq (tgt := 22) F d_M_isMap_15 (n := 18) rfl (by decide) (fun hb_2 => ?_) (fun hb_2 => ?_)
    · refine yy_iconst (v := 0) F d_M_isMap_22 (n := 23) rfl rfl ?_
      exact yy_zret F hSw_1 ⟨Nat.zero_le _, Nat.zero_le _⟩ rfl rfl d_M_isMap_23 (⟨_, rfl, by rw [k_ism_not I hc]; simp [ym_n, hl, hb_2], rfl⟩)
    · refine yy_iconst (v := 1) F d_M_isMap_18 (n := 19) rfl rfl ?_
      refine yy_goto (tgt := 23) F d_M_isMap_19 (by decide) ?_
      exact yy_zret F hSw_1 ⟨Nat.zero_le _, Nat.zero_le _⟩ rfl rfl d_M_isMap_23 (⟨_, rfl, by rw [k_ism_not I hc]; simp [ym_n, hl, hb_2], rfl⟩)
  · refine yy_if_ne_t (tgt := 22) F d_M_isMap_5 (by decide) (by decide) ?_
    refine yy_iconst (v := 0) F d_M_isMap_22 (n := 23) rfl rfl ?_
    exact yy_zret F hSw_1 ⟨Nat.zero_le _, Nat.zero_le _⟩ rfl rfl d_M_isMap_23 (⟨_, rfl, by rw [k_ism_not I hc]; simp [ym_n, hl], rfl⟩)
set_option maxRecDepth 100000 in
set_option maxHeartbeats 4000000 in
theorem c_M_isIn {l : Launch} {z : State} {a0 : Array Value} {D : va_G} {ca : kca} (X : kcx l z a0 D ca) {a n : Nat} {cd : Int32} {s : ms} {σ : ks} {t : Nat} (I : iv t σ) (R : mr s σ) {c : Nat} (hc : c < k_m σ) {key : Int32} : yy_M l z y_M_isIn (.code y_M_isIn b_M_isIn 3 (some .boolean)) ({ frames := 0, cells := 0, slots := 0, locals := 0 }) [.ref a, .int (nI c), .int key] (mo_at D ca z a n cd s) (yy_ri (ym_n (k_cov σ c key))) := by
  refine yy_body (plainFor_of_name (by decide)) (Nat.le_of_ble_eq_true rfl) (fun b H F hS hP hH hnm => ?_)
  have h10 := I.m10
  refine yy_aload_n F d_M_isIn_0 (n := 1) rfl 0 rfl ?_
  refine yy_get F X.1 X.2.1 g_M_7_M hP.o rfl d_M_isIn_1 (n := 4) rfl ?_
  refine yy_iload_n F d_M_isIn_4 (n := 5) rfl 1 rfl ?_
  refine ma_ld (j := 0) (i := c) F X hP (by decide) (show c < 10 by omega) d_M_isIn_5 (n' := 6) rfl ?_
  refine yy_tope (y := (k_kd σ c)) (R.kd hc) ?_
  refine yy_bipush (v := 7) F d_M_isIn_6 (n := 8) rfl rfl ?_
  refine yy_ic_ne (tgt := 31) F d_M_isIn_8 (n := 11) rfl (by decide) (fun h7 => ?_) (fun h7 => ?_)
  · refine yy_iconst (v := 1) F d_M_isIn_31 (n := 32) rfl rfl ?_
    refine yy_goto (tgt := 36) F d_M_isIn_32 (by decide) ?_
    exact yy_zret F hS ⟨Nat.zero_le _, Nat.zero_le _⟩ rfl rfl d_M_isIn_36 (⟨_, rfl, by rw [k_cov0 h7]; rfl, rfl⟩)
  · refine yy_iload_n F d_M_isIn_11 (n := 12) rfl 2 rfl ?_
    refine yy_aload_n F d_M_isIn_12 (n := 13) rfl 0 rfl ?_
    refine yy_get F X.1 X.2.1 g_M_34_M hP.o rfl d_M_isIn_13 (n := 16) rfl ?_
    refine yy_iload_n F d_M_isIn_16 (n := 17) rfl 1 rfl ?_
    refine ma_ld (j := 8) (i := c) F X hP (by decide) (show c < 10 by omega) d_M_isIn_17 (n' := 18) rfl ?_
    refine yy_tope (y := (k_lo σ c)) (R.lo hc h7) ?_
    refine yy_ic_lt (tgt := 35) F d_M_isIn_18 (n := 21) rfl (by decide) (fun h1 => ?_) (fun h1 => ?_)
    · refine yy_iconst (v := 0) F d_M_isIn_35 (n := 36) rfl rfl ?_
      exact yy_zret F hS ⟨Nat.zero_le _, Nat.zero_le _⟩ rfl rfl d_M_isIn_36 (⟨_, rfl, by simp [k_cov, ym_n, h7, Int32.not_le.mpr h1], rfl⟩)
    · refine yy_iload_n F d_M_isIn_21 (n := 22) rfl 2 rfl ?_
      refine yy_aload_n F d_M_isIn_22 (n := 23) rfl 0 rfl ?_
      refine yy_get F X.1 X.2.1 g_M_37_M hP.o rfl d_M_isIn_23 (n := 26) rfl ?_
      refine yy_iload_n F d_M_isIn_26 (n := 27) rfl 1 rfl ?_
      refine ma_ld (j := 9) (i := c) F X hP (by decide) (show c < 10 by omega) d_M_isIn_27 (n' := 28) rfl ?_
      refine yy_tope (y := (k_hi σ c)) (R.hi hc h7) ?_
      refine yy_ic_gt (tgt := 35) F d_M_isIn_28 (n := 31) rfl (by decide) (fun h2 => ?_) (fun h2 => ?_)
      · refine yy_iconst (v := 0) F d_M_isIn_35 (n := 36) rfl rfl ?_
        exact yy_zret F hS ⟨Nat.zero_le _, Nat.zero_le _⟩ rfl rfl d_M_isIn_36 (⟨_, rfl, by simp [k_cov, ym_n, h7, Int32.not_le.mpr h2], rfl⟩)
      · refine yy_iconst (v := 1) F d_M_isIn_31 (n := 32) rfl rfl ?_
        refine yy_goto (tgt := 36) F d_M_isIn_32 (by decide) ?_
        exact yy_zret F hS ⟨Nat.zero_le _, Nat.zero_le _⟩ rfl rfl d_M_isIn_36 (⟨_, rfl, by simp [k_cov, ym_n, h7, Int32.not_lt.mp h1, Int32.not_lt.mp h2], rfl⟩)
def k_any (σ : ks) : Nat → Nat → Bool
  | 0, _ => false
  | n + 1, x => decide (k_kd σ x = 6) && (decide (¬ k_se σ x = s_ch (k_B σ x)) || k_any σ n (k_of σ x))
theorem k_any_eq {t : Nat} {σ : ks} (I : iv t σ) : ∀ {n x : Nat}, x < n → x < k_m σ → k_any σ n x = k_stale σ x
  | 0, _, h, _ => by omega
  | n + 1, x, hn, hx => by
    unfold k_any k_stale
    by_cases h6 : k_kd σ x = 6
    · obtain ⟨-, h1, h2, h3, h4, h5⟩ := (I.cc hx).2.2.2.2.2 h6
      by_cases hs : k_se σ x = s_ch (k_B σ x)
      · have hno : k_any σ n (k_of σ x) = false := by
          by_cases ho : k_kd σ (k_of σ x) = 6
          · rw [k_any_eq I (by omega) (by omega)]
            have h9 := ((h5 hs).2 ho).1
            have e9 : k_B σ (k_of σ x) = k_B σ x := by unfold k_B; rw [h2]
            simp [k_stale, ho, h9, e9]
          · cases n with
            | zero => rfl
            | succ n => simp [k_any, ho]
        simp [h6, hs, hno]
      · simp [h6, hs]
    · simp [h6]
set_option maxRecDepth 100000 in
set_option maxHeartbeats 4000000 in
theorem c_M_isStale {l : Launch} {z : State} {a0 : Array Value} {D : va_G} {ca : kca} (X : kcx l z a0 D ca) {a n : Nat} {cd : Int32} {s : ms} {σ : ks} {t : Nat} (I : iv t σ) (R : mr s σ) {c : Nat} (hc : c < k_m σ) : yy_M l z y_M_isStale (.code y_M_isStale b_M_isStale 4 (some .boolean)) ({ frames := 0, cells := 0, slots := 0, locals := 0 }) [.ref a, .int (nI c)] (mo_at D ca z a n cd s) (yy_ri (ym_n (k_stale σ c))) := by
  refine yy_body (plainFor_of_name (by decide)) (Nat.le_of_ble_eq_true rfl) (fun b H F hS hP hH hnm => ?_)
  have h10 := I.m10
  have loop : ∀ (n0 x : Nat) (q : Bool) (locs : List Loc), x < n0 → x < k_m σ → (q || k_any σ n0 x) = k_stale σ c → yy_S z H locs → yy_Y b H locs (0, 0) 4 [(3, .int (nI x)), (2, .int (ym_n q)), (0, .ref a), (1, .int (nI c))] [] := by
    intro n0
    induction n0 with
    | zero =>
      intro x q locs h
      omega
    | succ n0 ih =>
      intro x q locs hxn hx hq S1
      have hbx := I.bs hx
      refine yy_aload_n F d_M_isStale_4 (n := 5) rfl 2 rfl ?_
      refine yy_get F X.1 X.2.1 g_M_7_M hP.o rfl d_M_isStale_5 (n := 8) rfl ?_
      refine yy_iload_n F d_M_isStale_8 (n := 9) rfl 0 rfl ?_
      refine ma_ld (j := 0) (i := x) F X hP (by decide) (show x < 10 by omega) d_M_isStale_9 (n' := 10) rfl ?_
      refine yy_tope (y := (k_kd σ x)) (R.kd hx) ?_
      refine yy_bipush (v := 6) F d_M_isStale_10 (n := 12) rfl rfl ?_
      refine yy_ic_ne (tgt := 55) F d_M_isStale_12 (n := 15) rfl (by decide) (fun h6 => ?_) (fun h6 => ?_)
      · have hk9 : k_any σ (n0 + 1) x = false := by simp [k_any, h6]
        rw [hk9, Bool.or_false] at hq
        refine yy_iload_n F d_M_isStale_55 (n := 56) rfl 1 rfl ?_
        cases q
        · exact yy_zret F S1 ⟨Nat.zero_le _, Nat.zero_le _⟩ rfl rfl d_M_isStale_56 (⟨_, rfl, by rw [← hq], rfl⟩)
        · exact yy_zret F S1 ⟨Nat.zero_le _, Nat.zero_le _⟩ rfl rfl d_M_isStale_56 (⟨_, rfl, by rw [← hq], rfl⟩)
      · have hse := I.se hx h6
        have hch := I.ch hx
        have hox := I.hw x hx h6
        have hqe : nI (k_se σ x) = nI (s_ch (k_B σ x)) ↔ k_se σ x = s_ch (k_B σ x) := nI_eq (by omega) (by omega)
        have hk9 : k_any σ (n0 + 1) x = (decide (¬ k_se σ x = s_ch (k_B σ x)) || k_any σ n0 (k_of σ x)) := by simp [k_any, h6]
        rw [hk9] at hq
        refine yy_iload_n F d_M_isStale_15 (n := 16) rfl 1 rfl ?_
        cases q
        · refine yy_if_ne_f (tgt := 39) F d_M_isStale_16 (n := 19) rfl (by decide) rfl ?_
          refine yy_aload_n F d_M_isStale_19 (n := 20) rfl 2 rfl ?_
          refine yy_get F X.1 X.2.1 g_M_40_M hP.o rfl d_M_isStale_20 (n := 23) rfl ?_
          refine yy_iload_n F d_M_isStale_23 (n := 24) rfl 0 rfl ?_
          refine ma_ld (j := 10) (i := x) F X hP (by decide) (show x < 10 by omega) d_M_isStale_24 (n' := 25) rfl ?_
          refine yy_tope (y := (nI (k_se σ x))) (R.se hx h6) ?_
          refine yy_aload_n F d_M_isStale_25 (n := 26) rfl 2 rfl ?_
          refine yy_get F X.1 X.2.1 g_M_28_M hP.o rfl d_M_isStale_26 (n := 29) rfl ?_
          refine yy_aload_n F d_M_isStale_29 (n := 30) rfl 2 rfl ?_
          refine yy_get F X.1 X.2.1 g_M_16_M hP.o rfl d_M_isStale_30 (n := 33) rfl ?_
          refine yy_iload_n F d_M_isStale_33 (n := 34) rfl 0 rfl ?_
          refine ma_ld (j := 2) (i := x) F X hP (by decide) (show x < 10 by omega) d_M_isStale_34 (n' := 35) rfl ?_
          refine yy_tope (y := (nI (k_bs σ x))) (R.bs hx) ?_
          refine ma_ld (j := 6) (i := (k_bs σ x)) F X hP (by decide) (show k_bs σ x < 10 by omega) d_M_isStale_35 (n' := 36) rfl ?_
          refine yy_tope (y := (nI (s_ch (k_B σ x)))) (R.ch I hx) ?_
          refine yy_ic_eq (tgt := 43) F d_M_isStale_36 (n := 39) rfl (by decide) (fun h8 => ?_) (fun h8 => ?_)
          · refine yy_iconst (v := 0) F d_M_isStale_43 (n := 44) rfl rfl ?_
            refine yy_istore_n (lv' := [(2, .int 0), (3, .int (nI x)), (0, .ref a), (1, .int (nI c))]) F d_M_isStale_44 (n := 45) rfl (by decide) rfl ?_
            refine yy_aload_n F d_M_isStale_45 (n := 46) rfl 2 rfl ?_
            refine yy_get F X.1 X.2.1 g_M_13_M hP.o rfl d_M_isStale_46 (n := 49) rfl ?_
            refine yy_iload_n F d_M_isStale_49 (n := 50) rfl 1 rfl ?_
            refine ma_ld (j := 1) (i := x) F X hP (by decide) (show x < 10 by omega) d_M_isStale_50 (n' := 51) rfl ?_
            refine yy_tope (y := (nI (k_of σ x))) (R.of hx h6) ?_
            refine yy_istore_n (lv' := [(3, .int (nI (k_of σ x))), (2, .int 0), (0, .ref a), (1, .int (nI c))]) F d_M_isStale_51 (n := 52) rfl (by decide) rfl ?_
            refine yy_goto (tgt := 4) F d_M_isStale_52 (by decide) ?_
            exact yy_sub [0, 1, 2, 3] rfl (ih (k_of σ x) false _ (by omega) (by omega) (by rw [← hq]; simp [hqe.mp h8]) S1)
          · refine yy_iconst (v := 1) F d_M_isStale_39 (n := 40) rfl rfl ?_
            refine yy_goto (tgt := 44) F d_M_isStale_40 (by decide) ?_
            refine yy_istore_n (lv' := [(2, .int 1), (3, .int (nI x)), (0, .ref a), (1, .int (nI c))]) F d_M_isStale_44 (n := 45) rfl (by decide) rfl ?_
            refine yy_aload_n F d_M_isStale_45 (n := 46) rfl 2 rfl ?_
            refine yy_get F X.1 X.2.1 g_M_13_M hP.o rfl d_M_isStale_46 (n := 49) rfl ?_
            refine yy_iload_n F d_M_isStale_49 (n := 50) rfl 1 rfl ?_
            refine ma_ld (j := 1) (i := x) F X hP (by decide) (show x < 10 by omega) d_M_isStale_50 (n' := 51) rfl ?_
            refine yy_tope (y := (nI (k_of σ x))) (R.of hx h6) ?_
            refine yy_istore_n (lv' := [(3, .int (nI (k_of σ x))), (2, .int 1), (0, .ref a), (1, .int (nI c))]) F d_M_isStale_51 (n := 52) rfl (by decide) rfl ?_
            refine yy_goto (tgt := 4) F d_M_isStale_52 (by decide) ?_
            exact yy_sub [0, 1, 2, 3] rfl (ih (k_of σ x) true _ (by omega) (by omega) (by rw [← hq]; simp [mt hqe.mpr h8]) S1)
        · refine yy_if_ne_t (tgt := 39) F d_M_isStale_16 (by decide) (by decide) ?_
          refine yy_iconst (v := 1) F d_M_isStale_39 (n := 40) rfl rfl ?_
          refine yy_goto (tgt := 44) F d_M_isStale_40 (by decide) ?_
          refine yy_istore_n (lv' := [(2, .int 1), (3, .int (nI x)), (0, .ref a), (1, .int (nI c))]) F d_M_isStale_44 (n := 45) rfl (by decide) rfl ?_
          refine yy_aload_n F d_M_isStale_45 (n := 46) rfl 2 rfl ?_
          refine yy_get F X.1 X.2.1 g_M_13_M hP.o rfl d_M_isStale_46 (n := 49) rfl ?_
          refine yy_iload_n F d_M_isStale_49 (n := 50) rfl 1 rfl ?_
          refine ma_ld (j := 1) (i := x) F X hP (by decide) (show x < 10 by omega) d_M_isStale_50 (n' := 51) rfl ?_
          refine yy_tope (y := (nI (k_of σ x))) (R.of hx h6) ?_
          refine yy_istore_n (lv' := [(3, .int (nI (k_of σ x))), (2, .int 1), (0, .ref a), (1, .int (nI c))]) F d_M_isStale_51 (n := 52) rfl (by decide) rfl ?_
          refine yy_goto (tgt := 4) F d_M_isStale_52 (by decide) ?_
          exact yy_sub [0, 1, 2, 3] rfl (ih (k_of σ x) true _ (by omega) (by omega) (by rw [← hq]; simp) S1)
  refine yy_iconst (v := 0) F d_M_isStale_0 (n := 1) rfl rfl ?_
  refine yy_istore_n (lv' := [(2, .int 0), (0, .ref a), (1, .int (nI c))]) F d_M_isStale_1 (n := 2) rfl (by decide) rfl ?_
  refine yy_iload_n F d_M_isStale_2 (n := 3) rfl 2 rfl ?_
  refine yy_istore_n (lv' := [(3, .int (nI c)), (2, .int 0), (0, .ref a), (1, .int (nI c))]) F d_M_isStale_3 (n := 4) rfl (by decide) rfl ?_
  exact yy_sub [0, 1, 2, 3] rfl (loop (c + 1) c false _ (by omega) hc (by rw [Bool.false_or]; exact k_any_eq I (by omega) hc) hS)
/-- of a rising row: those below a number stand first -/
theorem so_cnt {f : Nat → Int32} {n p : Nat} {x : Int32} (hs : so_t f n) (hp : p ≤ n) (h1 : ∀ i, i < p → f i < x) (h2 : p < n → ¬ f p < x) : p = ym_cnt (ym_bel f x 0) n := by
  have hle := ym_cnt_le (ym_bel f x 0) n
  apply Nat.le_antisymm
  · apply Nat.le_of_not_lt
    intro q
    have h3 := h1 (ym_cnt (ym_bel f x 0) n) q
    have h4 := (so_lt hs (by omega)).mpr h3
    omega
  · apply Nat.le_of_not_lt
    intro q
    have h3 := (so_lt hs (by omega)).mp q
    exact h2 (by omega) h3
theorem mr_eta {s : ms} {σ : ks} (R : mr s σ) : mr (k_m σ, s.2) σ := by
  obtain ⟨m, f⟩ := s
  have h : m = k_m σ := R.1
  subst h
  exact R
set_option maxRecDepth 100000 in
set_option maxHeartbeats 4000000 in
theorem c_M_placeIn0 {l : Launch} {z : State} {a0 : Array Value} {D : va_G} {ca : kca} (X : kcx l z a0 D ca) {a n : Nat} {cd : Int32} {s : ms} {σ : ks} {t : Nat} (I : iv t σ) (R : mr (k_m σ, s.2) σ) {c : Nat} (hc : c < k_m σ) : yy_M l z y_M_placeIn (.code y_M_placeIn b_M_placeIn 3 (some .int)) ({ frames := 0, cells := 0, slots := 0, locals := 0 }) [.ref a, .int (nI c)] (mo_at D ca z a n cd s) (yy_ri (nI (k_start σ c))) := by
  refine yy_body (plainFor_of_name (by decide)) (Nat.le_of_ble_eq_true rfl) (fun b H F hS hP hH hnm => ?_)
  have h10 := I.m10
  have hb := I.bs hc
  have h24 := I.ct hc
  refine yy_aload_n F d_M_placeIn_0 (n := 1) rfl 0 rfl ?_
  refine yy_get F X.1 X.2.1 g_M_7_M hP.o rfl d_M_placeIn_1 (n := 4) rfl ?_
  refine yy_iload_n F d_M_placeIn_4 (n := 5) rfl 1 rfl ?_
  refine ma_ld (j := 0) (i := c) F X hP (by decide) (show c < 10 by omega) d_M_placeIn_5 (n' := 6) rfl ?_
  refine yy_tope (y := (k_kd σ c)) (R.kd hc) ?_
  refine yy_bipush (v := 6) F d_M_placeIn_6 (n := 8) rfl rfl ?_
  refine yy_ic_ne (tgt := 18) F d_M_placeIn_8 (n := 11) rfl (by decide) (fun h6 => ?_) (fun h6 => ?_)
  · refine yy_aload_n F d_M_placeIn_18 (n := 19) rfl 0 rfl ?_
    refine yy_get F X.1 X.2.1 g_M_7_M hP.o rfl d_M_placeIn_19 (n := 22) rfl ?_
    refine yy_iload_n F d_M_placeIn_22 (n := 23) rfl 1 rfl ?_
    refine ma_ld (j := 0) (i := c) F X hP (by decide) (show c < 10 by omega) d_M_placeIn_23 (n' := 24) rfl ?_
    refine yy_tope (y := (k_kd σ c)) (R.kd hc) ?_
    refine yy_bipush (v := 7) F d_M_placeIn_24 (n := 26) rfl rfl ?_
    refine yy_ic_eq (tgt := 31) F d_M_placeIn_26 (n := 29) rfl (by decide) (fun h7 => ?_) (fun h7 => ?_)
    · have hk4 := (I.cc hc).2.2.2.2.1 h7
      have h5 : ¬ k_kb σ c = 5 := fun q => absurd (hk4.symm.trans q) (by decide)
      have hs := (I.s hc).2.2.2.2.2.2 (Or.inl hk4)
      have loop : ∀ (d p : Nat) (locs : List Loc), p + d = s_ct (k_B σ c) → (∀ i, i < p → s_nu (k_B σ c) i < k_lo σ c) → yy_S z H locs → yy_Y b H locs (0, 0) 33 [(2, .int (nI p)), (0, .ref a), (1, .int (nI c))] [] := by
        intro d
        induction d with
        | zero =>
          intro p locs hd ha S1
          refine yy_iload_n F d_M_placeIn_33 (n := 34) rfl 0 rfl ?_
          refine yy_aload_n F d_M_placeIn_34 (n := 35) rfl 1 rfl ?_
          refine yy_get F X.1 X.2.1 g_M_25_M hP.o rfl d_M_placeIn_35 (n := 38) rfl ?_
          refine yy_aload_n F d_M_placeIn_38 (n := 39) rfl 1 rfl ?_
          refine yy_get F X.1 X.2.1 g_M_16_M hP.o rfl d_M_placeIn_39 (n := 42) rfl ?_
          refine yy_iload_n F d_M_placeIn_42 (n := 43) rfl 2 rfl ?_
          refine ma_ld (j := 2) (i := c) F X hP (by decide) (show c < 10 by omega) d_M_placeIn_43 (n' := 44) rfl ?_
          refine yy_tope (y := (nI (k_bs σ c))) (R.bs hc) ?_
          refine ma_ld (j := 5) (i := (k_bs σ c)) F X hP (by decide) (show k_bs σ c < 10 by omega) d_M_placeIn_44 (n' := 45) rfl ?_
          refine yy_tope (y := (nI (s_ct (k_B σ c)))) (R.ct I hc) ?_
          refine yy_ic_ge_t (tgt := 79) F d_M_placeIn_45 (by decide) (nI_le (by omega) (by omega)) ?_
          refine yy_iload_n F d_M_placeIn_79 (n := 80) rfl 0 rfl ?_
          exact yy_iret F S1 ⟨Nat.zero_le _, Nat.zero_le _⟩ rfl d_M_placeIn_80 (⟨_, rfl, by rw [k_start7 h7, ← so_cnt hs (by omega) ha (fun q => by omega)], rfl⟩)
        | succ d ih =>
          intro p locs hd ha S1
          refine yy_iload_n F d_M_placeIn_33 (n := 34) rfl 0 rfl ?_
          refine yy_aload_n F d_M_placeIn_34 (n := 35) rfl 1 rfl ?_
          refine yy_get F X.1 X.2.1 g_M_25_M hP.o rfl d_M_placeIn_35 (n := 38) rfl ?_
          refine yy_aload_n F d_M_placeIn_38 (n := 39) rfl 1 rfl ?_
          refine yy_get F X.1 X.2.1 g_M_16_M hP.o rfl d_M_placeIn_39 (n := 42) rfl ?_
          refine yy_iload_n F d_M_placeIn_42 (n := 43) rfl 2 rfl ?_
          refine ma_ld (j := 2) (i := c) F X hP (by decide) (show c < 10 by omega) d_M_placeIn_43 (n' := 44) rfl ?_
          refine yy_tope (y := (nI (k_bs σ c))) (R.bs hc) ?_
          refine ma_ld (j := 5) (i := (k_bs σ c)) F X hP (by decide) (show k_bs σ c < 10 by omega) d_M_placeIn_44 (n' := 45) rfl ?_
          refine yy_tope (y := (nI (s_ct (k_B σ c)))) (R.ct I hc) ?_
          refine yy_ic_ge_f (tgt := 79) F d_M_placeIn_45 (n := 48) rfl (by decide) (nI_ge (by omega) (by omega)) ?_
          refine yy_aload_n F d_M_placeIn_48 (n := 49) rfl 1 rfl ?_
          refine yy_get F X.1 X.2.1 g_M_19_M hP.o rfl d_M_placeIn_49 (n := 52) rfl ?_
          refine yy_bipush (v := 24) F d_M_placeIn_52 (n := 54) rfl rfl ?_
          refine yy_aload_n F d_M_placeIn_54 (n := 55) rfl 1 rfl ?_
          refine yy_get F X.1 X.2.1 g_M_16_M hP.o rfl d_M_placeIn_55 (n := 58) rfl ?_
          refine yy_iload_n F d_M_placeIn_58 (n := 59) rfl 2 rfl ?_
          refine ma_ld (j := 2) (i := c) F X hP (by decide) (show c < 10 by omega) d_M_placeIn_59 (n' := 60) rfl ?_
          refine yy_tope (y := (nI (k_bs σ c))) (R.bs hc) ?_
          refine yy_imul F d_M_placeIn_60 (n := 61) rfl ?_
          refine yy_tope (y := (nI (24 * (k_bs σ c)))) (pk_mul 24 _) ?_
          refine yy_iload_n F d_M_placeIn_61 (n := 62) rfl 0 rfl ?_
          refine yy_iadd F d_M_placeIn_62 (n := 63) rfl ?_
          refine yy_tope (y := (nI (24 * (k_bs σ c) + p))) (nI_add _ _) ?_
          refine ma_ld (j := 3) (i := (24 * (k_bs σ c) + p)) F X hP (by decide) (show 24 * (k_bs σ c) + p < 240 by omega) d_M_placeIn_63 (n' := 64) rfl ?_
          refine yy_tope (y := (s_nu (k_B σ c) p)) (R.nu I hc h5 (by omega)) ?_
          refine yy_aload_n F d_M_placeIn_64 (n := 65) rfl 1 rfl ?_
          refine yy_get F X.1 X.2.1 g_M_34_M hP.o rfl d_M_placeIn_65 (n := 68) rfl ?_
          refine yy_iload_n F d_M_placeIn_68 (n := 69) rfl 2 rfl ?_
          refine ma_ld (j := 8) (i := c) F X hP (by decide) (show c < 10 by omega) d_M_placeIn_69 (n' := 70) rfl ?_
          refine yy_tope (y := (k_lo σ c)) (R.lo hc h7) ?_
          refine yy_ic_ge (tgt := 79) F d_M_placeIn_70 (n := 73) rfl (by decide) (fun h8 => ?_) (fun h8 => ?_)
          · refine yy_iload_n F d_M_placeIn_79 (n := 80) rfl 0 rfl ?_
            exact yy_iret F S1 ⟨Nat.zero_le _, Nat.zero_le _⟩ rfl d_M_placeIn_80 (⟨_, rfl, by rw [k_start7 h7, ← so_cnt hs (by omega) ha (fun _ => Int32.not_lt.mpr h8)], rfl⟩)
          · refine yy_iinc (v := nI (p + 1)) (lv' := [(2, .int (nI (p + 1))), (0, .ref a), (1, .int (nI c))]) F d_M_placeIn_73 (n := 76) rfl 0 rfl (nI_1 _) (by decide) rfl ?_
            refine yy_goto (tgt := 33) F d_M_placeIn_76 (by decide) ?_
            exact yy_sub [0, 1, 2] rfl (ih (p + 1) _ (by omega) (fun i hi => by
              by_cases hip : i = p
              · subst hip
                exact Int32.not_le.mp h8
              · exact ha i (by omega)) S1)
      refine yy_iconst (v := 0) F d_M_placeIn_31 (n := 32) rfl rfl ?_
      refine yy_tope (y := (nI 0)) rfl ?_
      refine yy_istore_n (lv' := [(2, .int (nI 0)), (0, .ref a), (1, .int (nI c))]) F d_M_placeIn_32 (n := 33) rfl (by decide) rfl ?_
      exact yy_sub [0, 1, 2] rfl (loop _ 0 _ (Nat.zero_add _) (fun i hi => by omega) hS)
    · refine yy_iconst (v := 0) F d_M_placeIn_29 (n := 30) rfl rfl ?_
      exact yy_iret F hS ⟨Nat.zero_le _, Nat.zero_le _⟩ rfl d_M_placeIn_30 (⟨_, rfl, by rw [k_start0 h6 h7]; rfl, rfl⟩)
  · refine yy_aload_n F d_M_placeIn_11 (n := 12) rfl 0 rfl ?_
    refine yy_get F X.1 X.2.1 g_M_34_M hP.o rfl d_M_placeIn_12 (n := 15) rfl ?_
    refine yy_iload_n F d_M_placeIn_15 (n := 16) rfl 1 rfl ?_
    refine ma_ld (j := 8) (i := c) F X hP (by decide) (show c < 10 by omega) d_M_placeIn_16 (n' := 17) rfl ?_
    refine yy_tope (y := (nI (k_fs σ c))) (R.fs hc h6) ?_
    exact yy_iret F hS ⟨Nat.zero_le _, Nat.zero_le _⟩ rfl d_M_placeIn_17 (⟨_, rfl, by rw [k_start6 h6], rfl⟩)
theorem c_M_placeIn {l : Launch} {z : State} {a0 : Array Value} {D : va_G} {ca : kca} (X : kcx l z a0 D ca) {a n : Nat} {cd : Int32} {s : ms} {σ : ks} {t : Nat} (I : iv t σ) (R : mr s σ) {c : Nat} (hc : c < k_m σ) : yy_M l z y_M_placeIn (.code y_M_placeIn b_M_placeIn 3 (some .int)) ({ frames := 0, cells := 0, slots := 0, locals := 0 }) [.ref a, .int (nI c)] (mo_at D ca z a n cd s) (yy_ri (nI (k_start σ c))) := c_M_placeIn0 X I (mr_eta R) hc
/-- how many of a row a range shows -/
theorem cnt_range {f : Nat → Int32} {lo hi : Int32} : ∀ n : Nat, so_t f n → ym_cnt (fun i => decide (lo ≤ f i) && decide (f i ≤ hi)) n = ym_cnt (ym_bel f hi 1) n - ym_cnt (ym_bel f lo 0) n := by
  intro n hs
  have key : ∀ m, m ≤ n → ym_cnt (fun i => decide (lo ≤ f i) && decide (f i ≤ hi)) m = ym_cnt (ym_bel f hi 1) m - ym_cnt (ym_bel f lo 0) m := by
    intro m
    induction m with
    | zero => intro _; rfl
    | succ m ih =>
      intro hm
      have ih9 := ih (by omega)
      have hsm : so_t f (m + 1) := fun i j a b => hs i j a (by omega)
      have hl := so_lt (x := lo) hsm (show m < m + 1 by omega)
      have hh := so_le (x := hi) hsm (show m < m + 1 by omega)
      have l1 := ym_cnt_le (ym_bel f lo 0) m
      have l2 := ym_cnt_le (ym_bel f hi 1) m
      have e1 : ym_bel f lo 0 m = decide (f m < lo) := by simp [ym_bel]
      have e2 : ym_bel f hi 1 m = decide (f m ≤ hi) := by
        rw [Bool.eq_iff_iff, ← ym_cnt_lt (so_bel hsm hi 1) m (by omega), hh]
        simp
      have s1 : ym_cnt (ym_bel f lo 0) (m + 1) = ym_cnt (ym_bel f lo 0) m + (if ym_bel f lo 0 m then 1 else 0) := rfl
      have s2 : ym_cnt (ym_bel f hi 1) (m + 1) = ym_cnt (ym_bel f hi 1) m + (if ym_bel f hi 1 m then 1 else 0) := rfl
      show ym_cnt _ m + (if (decide (lo ≤ f m) && decide (f m ≤ hi)) then 1 else 0) = _
      rw [e1] at s1
      rw [e2] at s2
      by_cases a1 : f m < lo
      · have a2 : ¬ lo ≤ f m := Int32.not_le.mpr a1
        have hml := hl.mpr a1
        rw [if_pos (decide_eq_true a1)] at s1
        rw [ih9, s1, s2, decide_eq_false a2]
        have : ym_cnt (ym_bel f lo 0) m = m := by omega
        simp
        split <;> omega
      · have a2 : lo ≤ f m := Int32.not_lt.mp a1
        rw [if_neg (by simp [a1])] at s1
        rw [ih9, s1, s2, decide_eq_true a2]
        by_cases a3 : f m ≤ hi
        · have hmh := hh.mpr a3
          rw [if_pos (decide_eq_true a3)] at s2
          simp [a3]
          omega
        · simp [a3]
  exact key n (Nat.le_refl _)
set_option maxRecDepth 100000 in
set_option maxHeartbeats 4000000 in
theorem c_M_sizeOf {l : Launch} {z : State} {a0 : Array Value} {D : va_G} {ca : kca} (X : kcx l z a0 D ca) {a n : Nat} {cd : Int32} {s : ms} {σ : ks} {t : Nat} (I : iv t σ) (R : mr s σ) {c : Nat} (hc : c < k_m σ) : yy_M l z y_M_sizeOf (.code y_M_sizeOf b_M_sizeOf 4 (some .int)) ({ frames := 1, cells := 0, slots := 0, locals := 22 }) [.ref a, .int (nI c)] (mo_at D ca z a n cd s) (yy_ri (nI (k_size σ c))) := by
  refine yy_body (plainFor_of_name (by decide)) (Nat.le_of_ble_eq_true rfl) (fun b H F hS hP hH hnm => ?_)
  have h10 := I.m10
  have hb := I.bs hc
  have h24 := I.ct hc
  refine yy_aload_n F d_M_sizeOf_0 (n := 1) rfl 0 rfl ?_
  refine yy_get F X.1 X.2.1 g_M_7_M hP.o rfl d_M_sizeOf_1 (n := 4) rfl ?_
  refine yy_iload_n F d_M_sizeOf_4 (n := 5) rfl 1 rfl ?_
  refine ma_ld (j := 0) (i := c) F X hP (by decide) (show c < 10 by omega) d_M_sizeOf_5 (n' := 6) rfl ?_
  refine yy_tope (y := (k_kd σ c)) (R.kd hc) ?_
  refine yy_bipush (v := 6) F d_M_sizeOf_6 (n := 8) rfl rfl ?_
  refine yy_ic_ne (tgt := 18) F d_M_sizeOf_8 (n := 11) rfl (by decide) (fun h6 => ?_) (fun h6 => ?_)
  · refine yy_aload_n F d_M_sizeOf_18 (n := 19) rfl 0 rfl ?_
    refine yy_get F X.1 X.2.1 g_M_7_M hP.o rfl d_M_sizeOf_19 (n := 22) rfl ?_
    refine yy_iload_n F d_M_sizeOf_22 (n := 23) rfl 1 rfl ?_
    refine ma_ld (j := 0) (i := c) F X hP (by decide) (show c < 10 by omega) d_M_sizeOf_23 (n' := 24) rfl ?_
    refine yy_tope (y := (k_kd σ c)) (R.kd hc) ?_
    refine yy_bipush (v := 7) F d_M_sizeOf_24 (n := 26) rfl rfl ?_
    refine yy_ic_eq (tgt := 36) F d_M_sizeOf_26 (n := 29) rfl (by decide) (fun h7 => ?_) (fun h7 => ?_)
    · have hk4 := (I.cc hc).2.2.2.2.1 h7
      have h5 : ¬ k_kb σ c = 5 := fun q => absurd (hk4.symm.trans q) (by decide)
      have hs := (I.s hc).2.2.2.2.2.2 (Or.inl hk4)
      have hcv : ∀ i, k_cov σ c (s_nu (k_B σ c) i) = (decide (k_lo σ c ≤ s_nu (k_B σ c) i) && decide (s_nu (k_B σ c) i ≤ k_hi σ c)) := fun i => by simp [k_cov, h7]
      have loop : ∀ (d p : Nat) (locs : List Loc), p + d = s_ct (k_B σ c) → yy_S z H locs → yy_Y b H locs (0, 0) 40 [(3, .int (nI p)), (2, .int (nI (ym_cnt (fun i => k_cov σ c (s_nu (k_B σ c) i)) p))), (0, .ref a), (1, .int (nI c))] [] := by
        intro d
        induction d with
        | zero =>
          intro p locs hd S1
          refine yy_iload_n F d_M_sizeOf_40 (n := 41) rfl 0 rfl ?_
          refine yy_aload_n F d_M_sizeOf_41 (n := 42) rfl 2 rfl ?_
          refine yy_get F X.1 X.2.1 g_M_25_M hP.o rfl d_M_sizeOf_42 (n := 45) rfl ?_
          refine yy_aload_n F d_M_sizeOf_45 (n := 46) rfl 2 rfl ?_
          refine yy_get F X.1 X.2.1 g_M_16_M hP.o rfl d_M_sizeOf_46 (n := 49) rfl ?_
          refine yy_iload_n F d_M_sizeOf_49 (n := 50) rfl 3 rfl ?_
          refine ma_ld (j := 2) (i := c) F X hP (by decide) (show c < 10 by omega) d_M_sizeOf_50 (n' := 51) rfl ?_
          refine yy_tope (y := (nI (k_bs σ c))) (R.bs hc) ?_
          refine ma_ld (j := 5) (i := (k_bs σ c)) F X hP (by decide) (show k_bs σ c < 10 by omega) d_M_sizeOf_51 (n' := 52) rfl ?_
          refine yy_tope (y := (nI (s_ct (k_B σ c)))) (R.ct I hc) ?_
          refine yy_ic_ge_t (tgt := 93) F d_M_sizeOf_52 (by decide) (nI_le (by omega) (by omega)) ?_
          refine yy_iload_n F d_M_sizeOf_93 (n := 94) rfl 1 rfl ?_
          exact yy_iret F S1 ⟨Nat.zero_le _, Nat.zero_le _⟩ rfl d_M_sizeOf_94 (⟨_, rfl, by rw [k_size7 h7, ← cnt_range _ hs, show p = s_ct (k_B σ c) by omega, ym_cnt_ext (fun i _ => hcv i)], rfl⟩)
        | succ d ih =>
          intro p locs hd S1
          refine yy_iload_n F d_M_sizeOf_40 (n := 41) rfl 0 rfl ?_
          refine yy_aload_n F d_M_sizeOf_41 (n := 42) rfl 2 rfl ?_
          refine yy_get F X.1 X.2.1 g_M_25_M hP.o rfl d_M_sizeOf_42 (n := 45) rfl ?_
          refine yy_aload_n F d_M_sizeOf_45 (n := 46) rfl 2 rfl ?_
          refine yy_get F X.1 X.2.1 g_M_16_M hP.o rfl d_M_sizeOf_46 (n := 49) rfl ?_
          refine yy_iload_n F d_M_sizeOf_49 (n := 50) rfl 3 rfl ?_
          refine ma_ld (j := 2) (i := c) F X hP (by decide) (show c < 10 by omega) d_M_sizeOf_50 (n' := 51) rfl ?_
          refine yy_tope (y := (nI (k_bs σ c))) (R.bs hc) ?_
          refine ma_ld (j := 5) (i := (k_bs σ c)) F X hP (by decide) (show k_bs σ c < 10 by omega) d_M_sizeOf_51 (n' := 52) rfl ?_
          refine yy_tope (y := (nI (s_ct (k_B σ c)))) (R.ct I hc) ?_
          refine yy_ic_ge_f (tgt := 93) F d_M_sizeOf_52 (n := 55) rfl (by decide) (nI_ge (by omega) (by omega)) ?_
          refine yy_iload_n F d_M_sizeOf_55 (n := 56) rfl 1 rfl ?_
          refine yy_aload_n F d_M_sizeOf_56 (n := 57) rfl 2 rfl ?_
          refine yy_iload_n F d_M_sizeOf_57 (n := 58) rfl 3 rfl ?_
          refine yy_aload_n F d_M_sizeOf_58 (n := 59) rfl 2 rfl ?_
          refine yy_get F X.1 X.2.1 g_M_19_M hP.o rfl d_M_sizeOf_59 (n := 62) rfl ?_
          refine yy_bipush (v := 24) F d_M_sizeOf_62 (n := 64) rfl rfl ?_
          refine yy_aload_n F d_M_sizeOf_64 (n := 65) rfl 2 rfl ?_
          refine yy_get F X.1 X.2.1 g_M_16_M hP.o rfl d_M_sizeOf_65 (n := 68) rfl ?_
          refine yy_iload_n F d_M_sizeOf_68 (n := 69) rfl 3 rfl ?_
          refine ma_ld (j := 2) (i := c) F X hP (by decide) (show c < 10 by omega) d_M_sizeOf_69 (n' := 70) rfl ?_
          refine yy_tope (y := (nI (k_bs σ c))) (R.bs hc) ?_
          refine yy_imul F d_M_sizeOf_70 (n := 71) rfl ?_
          refine yy_tope (y := (nI (24 * (k_bs σ c)))) (pk_mul 24 _) ?_
          refine yy_iload_n F d_M_sizeOf_71 (n := 72) rfl 0 rfl ?_
          refine yy_iadd F d_M_sizeOf_72 (n := 73) rfl ?_
          refine yy_tope (y := (nI (24 * (k_bs σ c) + p))) (nI_add _ _) ?_
          refine ma_ld (j := 3) (i := (24 * (k_bs σ c) + p)) F X hP (by decide) (show 24 * (k_bs σ c) + p < 240 by omega) d_M_sizeOf_73 (n' := 74) rfl ?_
          refine yy_tope (y := (s_nu (k_B σ c) p)) (R.nu I hc h5 (by omega)) ?_
          refine yy_cri (w := (ym_n (k_cov σ c (s_nu (k_B σ c) p)))) F S1 (c_M_isIn (key := s_nu (k_B σ c) p) X I R hc) (yy_Bc F X.1 q_938 q_3) (yy_invV (nA := 2) (C := R_M) (bytes := b_M_isIn) (maxL := 3) (retY := (some .boolean)) F X.1 q_935 q_937 qs_M_isIn q_938 ⟨by decide, by decide, by decide +kernel⟩ (yy_recv F.N X.2.1 (ci := 6) rfl hP.o) rfl d_M_sizeOf_74) d_M_sizeOf_74 (n := 77) rfl (by simp [Value.category]) ⟨by decide, by decide⟩ ⟨Nat.zero_le _, Nat.zero_le _⟩ ⟨rfl, rfl⟩ hP rfl (fun _ hSw_1 => ?_)
          have hs9 : ∀ q : Bool, k_cov σ c (s_nu (k_B σ c) p) = q → ym_cnt (fun i => k_cov σ c (s_nu (k_B σ c) i)) (p + 1) = ym_cnt (fun i => k_cov σ c (s_nu (k_B σ c) i)) p + (if q then 1 else 0) := fun q h => by rw [← h]; rfl
          cases hcp : k_cov σ c (s_nu (k_B σ c) p)
          · refine yy_if_eq_t (tgt := 84) F d_M_sizeOf_77 (by decide) rfl ?_
            refine yy_iconst (v := 0) F d_M_sizeOf_84 (n := 85) rfl rfl ?_
            refine yy_iadd F d_M_sizeOf_85 (n := 86) rfl ?_
            refine yy_tope (y := (nI (ym_cnt (fun i => k_cov σ c (s_nu (k_B σ c) i)) (p + 1)))) (by rw [hs9 false hcp]; exact Int32.add_zero _) ?_
            refine yy_istore_n (lv' := [(2, .int (nI (ym_cnt (fun i => k_cov σ c (s_nu (k_B σ c) i)) (p + 1)))), (3, .int (nI p)), (0, .ref a), (1, .int (nI c))]) F d_M_sizeOf_86 (n := 87) rfl (by decide) rfl ?_
            refine yy_iinc (v := nI (p + 1)) (lv' := [(3, .int (nI (p + 1))), (2, .int (nI (ym_cnt (fun i => k_cov σ c (s_nu (k_B σ c) i)) (p + 1)))), (0, .ref a), (1, .int (nI c))]) F d_M_sizeOf_87 (n := 90) rfl 1 rfl (nI_1 _) (by decide) rfl ?_
            refine yy_goto (tgt := 40) F d_M_sizeOf_90 (by decide) ?_
            exact yy_sub [0, 1, 2, 3] rfl (ih (p + 1) _ (by omega) hSw_1)
          · refine yy_if_eq_f (tgt := 84) F d_M_sizeOf_77 (n := 80) rfl (by decide) (by decide) ?_
            refine yy_iconst (v := 1) F d_M_sizeOf_80 (n := 81) rfl rfl ?_
            refine yy_goto (tgt := 85) F d_M_sizeOf_81 (by decide) ?_
            refine yy_iadd F d_M_sizeOf_85 (n := 86) rfl ?_
            refine yy_tope (y := (nI (ym_cnt (fun i => k_cov σ c (s_nu (k_B σ c) i)) p + 1))) (nI_1 _) ?_
            refine yy_tope (y := (nI (ym_cnt (fun i => k_cov σ c (s_nu (k_B σ c) i)) (p + 1)))) (by rw [hs9 true hcp]; rfl) ?_
            refine yy_istore_n (lv' := [(2, .int (nI (ym_cnt (fun i => k_cov σ c (s_nu (k_B σ c) i)) (p + 1)))), (3, .int (nI p)), (0, .ref a), (1, .int (nI c))]) F d_M_sizeOf_86 (n := 87) rfl (by decide) rfl ?_
            refine yy_iinc (v := nI (p + 1)) (lv' := [(3, .int (nI (p + 1))), (2, .int (nI (ym_cnt (fun i => k_cov σ c (s_nu (k_B σ c) i)) (p + 1)))), (0, .ref a), (1, .int (nI c))]) F d_M_sizeOf_87 (n := 90) rfl 1 rfl (nI_1 _) (by decide) rfl ?_
            refine yy_goto (tgt := 40) F d_M_sizeOf_90 (by decide) ?_
            exact yy_sub [0, 1, 2, 3] rfl (ih (p + 1) _ (by omega) hSw_1)
      refine yy_iconst (v := 0) F d_M_sizeOf_36 (n := 37) rfl rfl ?_
      refine yy_tope (y := (nI 0)) rfl ?_
      refine yy_istore_n (lv' := [(2, .int (nI 0)), (0, .ref a), (1, .int (nI c))]) F d_M_sizeOf_37 (n := 38) rfl (by decide) rfl ?_
      refine yy_iconst (v := 0) F d_M_sizeOf_38 (n := 39) rfl rfl ?_
      refine yy_tope (y := (nI 0)) rfl ?_
      refine yy_istore_n (lv' := [(3, .int (nI 0)), (2, .int (nI 0)), (0, .ref a), (1, .int (nI c))]) F d_M_sizeOf_39 (n := 40) rfl (by decide) rfl ?_
      exact yy_sub [0, 1, 2, 3] rfl (loop _ 0 _ (Nat.zero_add _) hS)
    · refine yy_aload_n F d_M_sizeOf_29 (n := 30) rfl 0 rfl ?_
      refine yy_get F X.1 X.2.1 g_M_25_M hP.o rfl d_M_sizeOf_30 (n := 33) rfl ?_
      refine yy_iload_n F d_M_sizeOf_33 (n := 34) rfl 1 rfl ?_
      refine ma_ld (j := 5) (i := c) F X hP (by decide) (show c < 10 by omega) d_M_sizeOf_34 (n' := 35) rfl ?_
      refine yy_tope (y := (nI (s_ct (k_B σ c)))) (by have h9 := R.ct I hc; rw [I.b0 hc h6 h7] at h9; exact h9) ?_
      exact yy_iret F hS ⟨Nat.zero_le _, Nat.zero_le _⟩ rfl d_M_sizeOf_35 (⟨_, rfl, by rw [k_size0 h6 h7], rfl⟩)
  · refine yy_aload_n F d_M_sizeOf_11 (n := 12) rfl 0 rfl ?_
    refine yy_get F X.1 X.2.1 g_M_37_M hP.o rfl d_M_sizeOf_12 (n := 15) rfl ?_
    refine yy_iload_n F d_M_sizeOf_15 (n := 16) rfl 1 rfl ?_
    refine ma_ld (j := 9) (i := c) F X hP (by decide) (show c < 10 by omega) d_M_sizeOf_16 (n' := 17) rfl ?_
    refine yy_tope (y := (nI (k_ln σ c))) (R.ln hc h6) ?_
    exact yy_iret F hS ⟨Nat.zero_le _, Nat.zero_le _⟩ rfl d_M_sizeOf_17 (⟨_, rfl, by rw [k_size6 h6], rfl⟩)
set_option maxRecDepth 100000 in
set_option maxHeartbeats 4000000 in
theorem c_M_at {l : Launch} {z : State} {a0 : Array Value} {D : va_G} {ca : kca} (X : kcx l z a0 D ca) {a n : Nat} {cd : Int32} {s : ms} {σ : ks} {t : Nat} (I : iv t σ) (R : mr s σ) {c : Nat} (hc : c < k_m σ) {x : Int32} {q : Nat} (hq : nI (k_start σ c) + x = nI q) : yy_M l z y_M_at (.code y_M_at b_M_at 3 (some .int)) ({ frames := 1, cells := 0, slots := 0, locals := 22 }) [.ref a, .int (nI c), .int x] (mo_at D ca z a n cd s) (yy_ri (nI (24 * k_bs σ c + q))) := by
  refine yy_body (plainFor_of_name (by decide)) (Nat.le_of_ble_eq_true rfl) (fun b H F hS hP hH hnm => ?_)
  have h10 := I.m10
  have hb := I.bs hc
  have h24 := I.ct hc
  refine yy_bipush (v := 24) F d_M_at_0 (n := 2) rfl rfl ?_
  refine yy_aload_n F d_M_at_2 (n := 3) rfl 0 rfl ?_
  refine yy_get F X.1 X.2.1 g_M_16_M hP.o rfl d_M_at_3 (n := 6) rfl ?_
  refine yy_iload_n F d_M_at_6 (n := 7) rfl 1 rfl ?_
  refine ma_ld (j := 2) (i := c) F X hP (by decide) (show c < 10 by omega) d_M_at_7 (n' := 8) rfl ?_
  refine yy_tope (y := (nI (k_bs σ c))) (R.bs hc) ?_
  refine yy_imul F d_M_at_8 (n := 9) rfl ?_
  refine yy_tope (y := (nI (24 * (k_bs σ c)))) (pk_mul 24 _) ?_
  refine yy_aload_n F d_M_at_9 (n := 10) rfl 0 rfl ?_
  refine yy_iload_n F d_M_at_10 (n := 11) rfl 1 rfl ?_
  refine yy_cri (w := (nI (k_start σ c))) F hS (c_M_placeIn X I R hc) (yy_Bc F X.1 q_942 q_3) (yy_invV (nA := 1) (C := R_M) (bytes := b_M_placeIn) (maxL := 3) (retY := (some .int)) F X.1 q_939 q_941 qs_M_placeIn q_942 ⟨by decide, by decide, by decide +kernel⟩ (yy_recv F.N X.2.1 (ci := 6) rfl hP.o) rfl d_M_at_11) d_M_at_11 (n := 14) rfl (by simp [Value.category]) ⟨by decide, by decide⟩ ⟨Nat.zero_le _, Nat.zero_le _⟩ ⟨rfl, rfl⟩ hP rfl (fun _ hSw_1 => ?_)
  refine yy_iadd F d_M_at_14 (n := 15) rfl ?_
  refine yy_tope (y := (nI (24 * (k_bs σ c) + k_start σ c))) (nI_add _ _) ?_
  refine yy_iload_n F d_M_at_15 (n := 16) rfl 2 rfl ?_
  refine yy_iadd F d_M_at_16 (n := 17) rfl ?_
  exact yy_iret F hSw_1 ⟨Nat.zero_le _, Nat.zero_le _⟩ rfl d_M_at_17 (⟨_, rfl, by rw [← nI_add, Int32.add_assoc, hq, nI_add], rfl⟩)
set_option maxRecDepth 100000 in
set_option maxHeartbeats 4000000 in
theorem c_M_isOpen {l : Launch} {z : State} {a0 : Array Value} {D : va_G} {ca : kca} (X : kcx l z a0 D ca) {a n : Nat} {cd : Int32} {s : ms} {σ : ks} {t : Nat} (I : iv t σ) (R : mr s σ) {x : Int32} : yy_M l z y_M_isOpen (.code y_M_isOpen b_M_isOpen 2 (some .boolean)) ({ frames := 0, cells := 0, slots := 0, locals := 0 }) [.ref a, .int x] (mo_at D ca z a n cd s) (yy_ri (ym_n (decide (ch_wk σ x = none)))) := by
  refine yy_body (plainFor_of_name (by decide)) (Nat.le_of_ble_eq_true rfl) (fun b H F hS hP hH hnm => ?_)
  have h10 := I.m10
  have hin : ∀ q : Bool, ym_inb x 4 = q → decide (ch_wk σ x = none) = (q && decide (¬ (k_W σ (cN x)).1 = none)) := fun q h => by
    unfold ch_wk
    rw [h]
    cases q
    · rfl
    · by_cases h9 : (k_W σ (cN x)).1 = none
      · simp [h9]
      · simp [h9]
  refine yy_iload_n F d_M_isOpen_0 (n := 1) rfl 1 rfl ?_
  refine yy_if_lt (tgt := 23) F d_M_isOpen_1 (n := 4) rfl (by decide) (fun h1 => ?_) (fun h1 => ?_)
  · refine yy_iconst (v := 0) F d_M_isOpen_23 (n := 24) rfl rfl ?_
    exact yy_zret F hS ⟨Nat.zero_le _, Nat.zero_le _⟩ rfl rfl d_M_isOpen_24 (⟨_, rfl, by rw [hin false (by simp [ym_inb, h1])]; rfl, rfl⟩)
  · refine yy_iload_n F d_M_isOpen_4 (n := 5) rfl 1 rfl ?_
    refine yy_iconst (v := 4) F d_M_isOpen_5 (n := 6) rfl rfl ?_
    refine yy_ic_ge (tgt := 23) F d_M_isOpen_6 (n := 9) rfl (by decide) (fun h2 => ?_) (fun h2 => ?_)
    · refine yy_iconst (v := 0) F d_M_isOpen_23 (n := 24) rfl rfl ?_
      exact yy_zret F hS ⟨Nat.zero_le _, Nat.zero_le _⟩ rfl rfl d_M_isOpen_24 (⟨_, rfl, by rw [hin false (by simp [ym_inb, Int32.not_lt.mpr (show nI 4 ≤ x from h2)])]; rfl, rfl⟩)
    · have hb4 : ym_inb x 4 = true := by simp [ym_inb, h1, show x < nI 4 from Int32.not_le.mp h2]
      obtain ⟨hi, ex⟩ := inb_cN (by decide) hb4
      rw [ex]
      cases hov : (k_W σ (cN x)).1 with
      | none =>
        refine yy_aload_n F d_M_isOpen_9 (n := 10) rfl 0 rfl ?_
        refine yy_get F X.1 X.2.1 g_M_43_M hP.o rfl d_M_isOpen_10 (n := 13) rfl ?_
        refine yy_iload_n F d_M_isOpen_13 (n := 14) rfl 1 rfl ?_
        refine ma_ld (j := 11) (i := (cN x)) F X hP (by decide) (show cN x < 4 by omega) d_M_isOpen_14 (n' := 15) rfl ?_
        refine yy_iconst (v := (-1)) F d_M_isOpen_15 (n := 16) rfl rfl ?_
        rw [R.w0 hi hov]
        refine yy_ic_eq_t (tgt := 23) F d_M_isOpen_16 (by decide) rfl ?_
        refine yy_iconst (v := 0) F d_M_isOpen_23 (n := 24) rfl rfl ?_
        exact yy_zret F hS ⟨Nat.zero_le _, Nat.zero_le _⟩ rfl rfl d_M_isOpen_24 (⟨_, rfl, by rw [hin true hb4]; simp [ym_n, hov], rfl⟩)
      | some c =>
        refine yy_aload_n F d_M_isOpen_9 (n := 10) rfl 0 rfl ?_
        refine yy_get F X.1 X.2.1 g_M_43_M hP.o rfl d_M_isOpen_10 (n := 13) rfl ?_
        refine yy_iload_n F d_M_isOpen_13 (n := 14) rfl 1 rfl ?_
        refine ma_ld (j := 11) (i := (cN x)) F X hP (by decide) (show cN x < 4 by omega) d_M_isOpen_14 (n' := 15) rfl ?_
        refine yy_iconst (v := (-1)) F d_M_isOpen_15 (n := 16) rfl rfl ?_
        have hcm := ((I.2.2.2.2 _ hi).2 c hov).1
        rw [(R.w1 hi hov).1]
        refine yy_ic_eq_f (tgt := 23) F d_M_isOpen_16 (n := 19) rfl (by decide) (ym_nm1 (by omega)) ?_
        refine yy_iconst (v := 1) F d_M_isOpen_19 (n := 20) rfl rfl ?_
        refine yy_goto (tgt := 24) F d_M_isOpen_20 (by decide) ?_
        exact yy_zret F hS ⟨Nat.zero_le _, Nat.zero_le _⟩ rfl rfl d_M_isOpen_24 (⟨_, rfl, by rw [hin true hb4]; simp [ym_n, hov], rfl⟩)
