/-! PART C2: places of a container -/
/-- the first place of a key from i on, within d steps -/
def f_pos (f : Nat → Int32) (key : Int32) : Nat → Nat → Option Nat
  | 0, _ => none
  | d + 1, i => if f i = key then some i else f_pos f key d (i + 1)
/-- a place as a number, none as -1 -/
def o_n (o : Option Nat) : Int32 := match o with | none => -1 | some j => nI j
theorem ym_fi_pos (f : Nat → Int32) (key : Int32) : ∀ d i : Nat, ym_fi f key d i = o_n (f_pos f key d i)
  | 0, _ => rfl
  | d + 1, i => by
    unfold ym_fi f_pos
    split
    · rfl
    · exact ym_fi_pos f key d (i + 1)
theorem f_pos_some {f : Nat → Int32} {key : Int32} : ∀ {d i j : Nat}, f_pos f key d i = some j → i ≤ j ∧ j < i + d ∧ f j = key ∧ ∀ q, i ≤ q → q < j → ¬ f q = key
  | 0, _, _, h => by cases h
  | d + 1, i, j, h => by
    unfold f_pos at h
    split at h
    · cases h
      exact ⟨Nat.le_refl _, by omega, by assumption, fun q h1 h2 => by omega⟩
    · obtain ⟨a, b, e, g⟩ := f_pos_some h
      refine ⟨by omega, by omega, e, fun q h1 h2 => ?_⟩
      by_cases hq : q = i
      · subst hq
        assumption
      · exact g q (by omega) h2
theorem f_pos_none {f : Nat → Int32} {key : Int32} : ∀ {d i : Nat}, f_pos f key d i = none → ∀ q, i ≤ q → q < i + d → ¬ f q = key
  | 0, _, _ => fun q h1 h2 => by omega
  | d + 1, i, h => by
    unfold f_pos at h
    split at h
    · cases h
    · intro q h1 h2
      by_cases hq : q = i
      · subst hq
        assumption
      · exact f_pos_none h q (by omega) (by omega)
/-- a key's place in its base, if the container shows it -/
def k_at (σ : ks) (c : Nat) (key : Int32) : Option Nat := if k_cov σ c key = true then f_pos (s_nu (k_B σ c)) key (s_ct (k_B σ c)) 0 else none
/-- what placeOf says -/
def k_pl (σ : ks) (c : Nat) (key : Int32) : Int32 := match k_at σ c key with | none => -1 | some p => nI p - nI (k_start σ c)
theorem ym_mid {a b s : Nat} (ha : a ≤ 24) (hb : b ≤ 24) (hs : s ≤ 24) : ym_mx 0 (ym_mn (nI a - nI b) (nI s)) = nI (min (a - b) s) := by
  have e : (nI a - nI b).toInt = (a : Int) - b := by
    rw [Int32.toInt_sub, nI_toInt (by omega), nI_toInt (by omega)]
    apply Int.bmod_eq_of_le <;> omega
  have es := nI_toInt (show s < 2 ^ 31 by omega)
  unfold ym_mx ym_mn
  by_cases h : nI s < nI a - nI b
  · rw [if_pos h]
    rw [Int32.lt_iff_toInt_lt, e, es] at h
    rw [show min (a - b) s = s by omega]
    by_cases h2 : s = 0
    · rw [h2]
      decide
    · rw [if_pos (show (0 : Int32) < nI s from nI_lt (show 0 < s by omega) (by omega))]
  · rw [if_neg h]
    rw [Int32.lt_iff_toInt_lt, e, es] at h
    rw [show min (a - b) s = a - b by omega]
    exact ym_mx0 ha hb
set_option maxRecDepth 100000 in
set_option maxHeartbeats 4000000 in
theorem c_C_isPlace {l : Launch} {z : State} {a0 : Array Value} {D : va_G} {ca : kca} (X : kcx l z a0 D ca) {A : kA} {σ : ks} {t c : Nat} (I : iv t σ) (hc : c < k_m σ) {p : Int32} : yy_M l z y_C_isPlace (.code y_C_isPlace b_C_isPlace 2 (some .boolean)) ({ frames := 3, cells := 0, slots := 0, locals := 64 }) [.ref (a_ad A c), .int p] (ck_at D ca z A σ) (yy_ri (ym_n (ym_inb p (k_size σ c)))) := by
  refine yy_body (plainFor_of_name (by decide)) (Nat.le_of_ble_eq_true rfl) (fun b H F hS hP hH hnm => ?_)
  refine yy_iload_n F d_C_isPlace_0 (n := 1) rfl 1 rfl ?_
  refine yy_if_lt (tgt := 16) F d_C_isPlace_1 (n := 4) rfl (by decide) (fun h1 => ?_) (fun h1 => ?_)
  · refine yy_iconst (v := 0) F d_C_isPlace_16 (n := 17) rfl rfl ?_
    exact yy_zret F hS ⟨Nat.zero_le _, Nat.zero_le _⟩ rfl rfl d_C_isPlace_17 (⟨_, rfl, by simp [ym_inb, ym_n, h1], rfl⟩)
  · refine yy_iload_n F d_C_isPlace_4 (n := 5) rfl 1 rfl ?_
    refine yy_aload_n F d_C_isPlace_5 (n := 6) rfl 0 rfl ?_
    refine vd_count F X I hc hP hS q_426 ⟨by decide, by decide⟩ (by simp [Value.category]) d_C_isPlace_6 (n := 9) rfl ⟨Nat.le_refl _, Nat.le_refl _⟩ (fun _ hS_1 => ?_)
    refine yy_ic_ge (tgt := 16) F d_C_isPlace_9 (n := 12) rfl (by decide) (fun h2 => ?_) (fun h2 => ?_)
    · refine yy_iconst (v := 0) F d_C_isPlace_16 (n := 17) rfl rfl ?_
      exact yy_zret F hS_1 ⟨Nat.zero_le _, Nat.zero_le _⟩ rfl rfl d_C_isPlace_17 (⟨_, rfl, by simp [ym_inb, ym_n, h1, Int32.not_lt.mpr h2], rfl⟩)
    · refine yy_iconst (v := 1) F d_C_isPlace_12 (n := 13) rfl rfl ?_
      refine yy_goto (tgt := 17) F d_C_isPlace_13 (by decide) ?_
      exact yy_zret F hS_1 ⟨Nat.zero_le _, Nat.zero_le _⟩ rfl rfl d_C_isPlace_17 (⟨_, rfl, by simp [ym_inb, ym_n, h1, Int32.not_le.mp h2], rfl⟩)
set_option maxRecDepth 100000 in
set_option maxHeartbeats 4000000 in
theorem c_C_numberAt {l : Launch} {z : State} {a0 : Array Value} {D : va_G} {ca : kca} (X : kcx l z a0 D ca) {A : kA} {σ : ks} {t c : Nat} (I : iv t σ) (hc : c < k_m σ) {x : Int32} {q : Nat} (hq : nI (k_start σ c) + x = nI q) (hq2 : q < s_ct (k_B σ c)) : yy_M l z y_C_numberAt (.code y_C_numberAt b_C_numberAt 2 (some .int)) ({ frames := 2, cells := 0, slots := 0, locals := 44 }) [.ref (a_ad A c), .int x] (ck_at D ca z A σ) (yy_ri (s_nu (k_B σ c) q)) := by
  refine yy_body (plainFor_of_name (by decide)) (Nat.le_of_ble_eq_true rfl) (fun b H F hS hP hH hnm => ?_)
  refine yy_aload_n F d_C_numberAt_0 (n := 1) rfl 0 rfl ?_
  refine cr_store F X g_C_15_G g_C_15_P g_C_15_R hP hc d_C_numberAt_1 (n := 4) rfl ?_
  refine yy_aload_n F d_C_numberAt_4 (n := 5) rfl 0 rfl ?_
  refine vd_start F X I hc hP hS q_453 ⟨by decide, by decide⟩ (by simp [Value.category]) d_C_numberAt_5 (n := 8) rfl ⟨Nat.le_refl _, Nat.le_refl _⟩ (fun _ hS_1 => ?_)
  refine yy_iload_n F d_C_numberAt_8 (n := 9) rfl 1 rfl ?_
  refine yy_iadd F d_C_numberAt_9 (n := 10) rfl ?_
  refine yy_tope (y := (nI q)) hq ?_
  refine yy_cri (w := (s_nu (k_B σ c) q)) F hS_1 (c_S_numberAt (p := nI q) X (I.ct hc)) (yy_Bc F X.1 q_457 q_11) (yy_invV (nA := 1) (C := R_S) (bytes := b_S_numberAt) (maxL := 2) (retY := (some .int)) F X.1 q_454 q_455 q_456 q_457 ⟨by decide, by decide, by decide +kernel⟩ (yy_recv F.N X.2.1 (ci := 0) rfl (hP.sc hc).1) rfl d_C_numberAt_10) d_C_numberAt_10 (n := 13) rfl (by simp [Value.category]) ⟨by decide, by decide⟩ ⟨Nat.le_refl _, Nat.le_refl _⟩ ⟨rfl, rfl⟩ (hP.sc hc) (ym_na hq2 (I.ct hc)) (fun _ hS_2 => ?_)
  exact yy_iret F hS_2 ⟨Nat.zero_le _, Nat.zero_le _⟩ rfl d_C_numberAt_13 (⟨_, rfl, rfl, rfl⟩)
set_option maxRecDepth 100000 in
set_option maxHeartbeats 4000000 in
theorem c_C_valueAt {l : Launch} {z : State} {a0 : Array Value} {D : va_G} {ca : kca} (X : kcx l z a0 D ca) {A : kA} {σ : ks} {t c : Nat} (I : iv t σ) (hc : c < k_m σ) {x : Int32} {q : Nat} (hq : nI (k_start σ c) + x = nI q) (hq2 : q < s_ct (k_B σ c)) : yy_M l z y_C_valueAt (.code y_C_valueAt b_C_valueAt 2 (some .int)) ({ frames := 2, cells := 0, slots := 0, locals := 44 }) [.ref (a_ad A c), .int x] (ck_at D ca z A σ) (yy_ri (s_vl (k_B σ c) q)) := by
  refine yy_body (plainFor_of_name (by decide)) (Nat.le_of_ble_eq_true rfl) (fun b H F hS hP hH hnm => ?_)
  refine yy_aload_n F d_C_valueAt_0 (n := 1) rfl 0 rfl ?_
  refine cr_store F X g_C_15_G g_C_15_P g_C_15_R hP hc d_C_valueAt_1 (n := 4) rfl ?_
  refine yy_aload_n F d_C_valueAt_4 (n := 5) rfl 0 rfl ?_
  refine vd_start F X I hc hP hS q_453 ⟨by decide, by decide⟩ (by simp [Value.category]) d_C_valueAt_5 (n := 8) rfl ⟨Nat.le_refl _, Nat.le_refl _⟩ (fun _ hS_1 => ?_)
  refine yy_iload_n F d_C_valueAt_8 (n := 9) rfl 1 rfl ?_
  refine yy_iadd F d_C_valueAt_9 (n := 10) rfl ?_
  refine yy_tope (y := (nI q)) hq ?_
  refine yy_cri (w := (s_vl (k_B σ c) q)) F hS_1 (c_S_valueAt (p := nI q) X (I.ct hc)) (yy_Bc F X.1 q_657 q_11) (yy_invV (nA := 1) (C := R_S) (bytes := b_S_valueAt) (maxL := 2) (retY := (some .int)) F X.1 q_654 q_655 q_656 q_657 ⟨by decide, by decide, by decide +kernel⟩ (yy_recv F.N X.2.1 (ci := 0) rfl (hP.sc hc).1) rfl d_C_valueAt_10) d_C_valueAt_10 (n := 13) rfl (by simp [Value.category]) ⟨by decide, by decide⟩ ⟨Nat.le_refl _, Nat.le_refl _⟩ ⟨rfl, rfl⟩ (hP.sc hc) (ym_na hq2 (I.ct hc)) (fun _ hS_2 => ?_)
  exact yy_iret F hS_2 ⟨Nat.zero_le _, Nat.zero_le _⟩ rfl d_C_valueAt_13 (⟨_, rfl, rfl, rfl⟩)
set_option maxRecDepth 100000 in
set_option maxHeartbeats 4000000 in
theorem c_C_placeOf {l : Launch} {z : State} {a0 : Array Value} {D : va_G} {ca : kca} (X : kcx l z a0 D ca) {A : kA} {σ : ks} {t c : Nat} (I : iv t σ) (hc : c < k_m σ) {key : Int32} : yy_M l z y_C_placeOf (.code y_C_placeOf b_C_placeOf 2 (some .int)) ({ frames := 2, cells := 0, slots := 0, locals := 44 }) [.ref (a_ad A c), .int key] (ck_at D ca z A σ) (yy_ri (k_pl σ c key)) := by
  refine yy_body (plainFor_of_name (by decide)) (Nat.le_of_ble_eq_true rfl) (fun b H F hS hP hH hnm => ?_)
  have hfp : ym_find (s_nu (k_B σ c)) key (s_ct (k_B σ c)) = o_n (f_pos (s_nu (k_B σ c)) key (s_ct (k_B σ c)) 0) := ym_fi_pos _ _ _ _
  refine yy_aload_n F d_C_placeOf_0 (n := 1) rfl 0 rfl ?_
  refine yy_iload_n F d_C_placeOf_1 (n := 2) rfl 1 rfl ?_
  refine vd_covers F X I hc hP hS q_615 ⟨by decide, by decide⟩ (by simp [Value.category]) d_C_placeOf_2 (n := 5) rfl ⟨Nat.le_refl _, Nat.le_refl _⟩ (fun _ hS_1 => ?_)
  cases hb1 : k_cov σ c key
  · refine yy_if_eq_t (tgt := 36) F d_C_placeOf_5 (by decide) rfl ?_
    refine yy_iconst (v := (-1)) F d_C_placeOf_36 (n := 37) rfl rfl ?_
    exact yy_iret F hS_1 ⟨Nat.zero_le _, Nat.zero_le _⟩ rfl d_C_placeOf_37 (⟨_, rfl, by simp [k_pl, k_at, hb1], rfl⟩)
  · refine yy_if_eq_f (tgt := 36) F d_C_placeOf_5 (n := 8) rfl (by decide) (by decide) ?_
    refine yy_aload_n F d_C_placeOf_8 (n := 9) rfl 0 rfl ?_
    refine cr_store F X g_C_15_G g_C_15_P g_C_15_R hP hc d_C_placeOf_9 (n := 12) rfl ?_
    refine yy_iload_n F d_C_placeOf_12 (n := 13) rfl 1 rfl ?_
    refine yy_cri (w := (o_n (f_pos (s_nu (k_B σ c)) key (s_ct (k_B σ c)) 0))) F hS_1 (c_S_placeOf (key := key) X (I.ct hc)) (yy_Bc F X.1 q_619 q_11) (yy_invV (nA := 1) (C := R_S) (bytes := b_S_placeOf) (maxL := 3) (retY := (some .int)) F X.1 q_616 q_617 q_618 q_619 ⟨by decide, by decide, by decide +kernel⟩ (yy_recv F.N X.2.1 (ci := 0) rfl (hP.sc hc).1) rfl d_C_placeOf_13) d_C_placeOf_13 (n := 16) rfl (by simp [Value.category]) ⟨by decide, by decide⟩ ⟨Nat.le_refl _, Nat.le_refl _⟩ ⟨rfl, rfl⟩ (hP.sc hc) hfp (fun _ hS_2 => ?_)
    refine yy_iconst (v := (-1)) F d_C_placeOf_16 (n := 17) rfl rfl ?_
    cases ho : f_pos (s_nu (k_B σ c)) key (s_ct (k_B σ c)) 0 with
    | none =>
      refine yy_ic_eq_t (tgt := 36) F d_C_placeOf_17 (by decide) rfl ?_
      refine yy_iconst (v := (-1)) F d_C_placeOf_36 (n := 37) rfl rfl ?_
      exact yy_iret F hS_2 ⟨Nat.zero_le _, Nat.zero_le _⟩ rfl d_C_placeOf_37 (⟨_, rfl, by simp [k_pl, k_at, hb1, ho], rfl⟩)
    | some j =>
      have hj := f_pos_some ho
      have h24 := I.ct hc
      refine yy_ic_eq_f (tgt := 36) F d_C_placeOf_17 (n := 20) rfl (by decide) (ym_nm1 (by omega)) ?_
      refine yy_aload_n F d_C_placeOf_20 (n := 21) rfl 0 rfl ?_
      refine cr_store F X g_C_15_G g_C_15_P g_C_15_R hP hc d_C_placeOf_21 (n := 24) rfl ?_
      refine yy_iload_n F d_C_placeOf_24 (n := 25) rfl 1 rfl ?_
      refine yy_cri (w := (nI j)) F hS_2 (c_S_placeOf (key := key) X (I.ct hc)) (yy_Bc F X.1 q_619 q_11) (yy_invV (nA := 1) (C := R_S) (bytes := b_S_placeOf) (maxL := 3) (retY := (some .int)) F X.1 q_616 q_617 q_618 q_619 ⟨by decide, by decide, by decide +kernel⟩ (yy_recv F.N X.2.1 (ci := 0) rfl (hP.sc hc).1) rfl d_C_placeOf_25) d_C_placeOf_25 (n := 28) rfl (by simp [Value.category]) ⟨by decide, by decide⟩ ⟨Nat.le_refl _, Nat.le_refl _⟩ ⟨rfl, rfl⟩ (hP.sc hc) (by rw [hfp, ho]; rfl) (fun _ hS_3 => ?_)
      refine yy_aload_n F d_C_placeOf_28 (n := 29) rfl 0 rfl ?_
      refine vd_start F X I hc hP hS_3 q_453 ⟨by decide, by decide⟩ (by simp [Value.category]) d_C_placeOf_29 (n := 32) rfl ⟨Nat.le_refl _, Nat.le_refl _⟩ (fun _ hS_4 => ?_)
      refine yy_isub F d_C_placeOf_32 (n := 33) rfl ?_
      refine yy_goto (tgt := 37) F d_C_placeOf_33 (by decide) ?_
      exact yy_iret F hS_4 ⟨Nat.zero_le _, Nat.zero_le _⟩ rfl d_C_placeOf_37 (⟨_, rfl, by simp [k_pl, k_at, hb1, ho], rfl⟩)
set_option maxRecDepth 100000 in
set_option maxHeartbeats 4000000 in
theorem c_C_placesBefore {l : Launch} {z : State} {a0 : Array Value} {D : va_G} {ca : kca} (X : kcx l z a0 D ca) {A : kA} {σ : ks} {t c : Nat} (I : iv t σ) (hc : c < k_m σ) {key e : Int32} (hf : k_fr σ c) : yy_M l z y_C_placesBefore (.code y_C_placesBefore b_C_placesBefore 4 (some .int)) ({ frames := 3, cells := 0, slots := 0, locals := 64 }) [.ref (a_ad A c), .int key, .int e] (ck_at D ca z A σ) (yy_ri (nI (min (ym_cnt (ym_bel (s_nu (k_B σ c)) key e) (s_ct (k_B σ c)) - k_start σ c) (k_size σ c)))) := by
  refine yy_body (plainFor_of_name (by decide)) (Nat.le_of_ble_eq_true rfl) (fun b H F hS hP hH hnm => ?_)
  have h24 := I.ct hc
  have hend := I.end hc hf
  have hcn := ym_cnt_le (ym_bel (s_nu (k_B σ c)) key e) (s_ct (k_B σ c))
  refine yy_aload_n F d_C_placesBefore_0 (n := 1) rfl 0 rfl ?_
  refine cr_store F X g_C_15_G g_C_15_P g_C_15_R hP hc d_C_placesBefore_1 (n := 4) rfl ?_
  refine yy_iload_n F d_C_placesBefore_4 (n := 5) rfl 1 rfl ?_
  refine yy_iload_n F d_C_placesBefore_5 (n := 6) rfl 2 rfl ?_
  refine yy_cri (w := (nI (ym_cnt (ym_bel (s_nu (k_B σ c)) key e) (s_ct (k_B σ c))))) F hS (c_S_placesBefore (x := key) (e := e) X (I.ct hc)) (yy_Bc F X.1 q_324 q_11) (yy_invV (nA := 2) (C := R_S) (bytes := b_S_placesBefore) (maxL := 5) (retY := (some .int)) F X.1 q_694 q_322 q_323 q_324 ⟨by decide, by decide, by decide +kernel⟩ (yy_recv F.N X.2.1 (ci := 0) rfl (hP.sc hc).1) rfl d_C_placesBefore_6) d_C_placesBefore_6 (n := 9) rfl (by simp [Value.category]) ⟨by decide, by decide⟩ ⟨Nat.le_refl _, Nat.le_refl _⟩ ⟨rfl, rfl⟩ (hP.sc hc) rfl (fun _ hS_1 => ?_)
  refine yy_aload_n F d_C_placesBefore_9 (n := 10) rfl 0 rfl ?_
  refine vd_start F X I hc hP hS_1 q_453 ⟨by decide, by decide⟩ (by simp [Value.category]) d_C_placesBefore_10 (n := 13) rfl ⟨Nat.le_refl _, Nat.le_refl _⟩ (fun _ hS_2 => ?_)
  refine yy_isub F d_C_placesBefore_13 (n := 14) rfl ?_
  refine yy_istore_n (lv' := [(3, .int ((nI (ym_cnt (ym_bel (s_nu (k_B σ c)) key e) (s_ct (k_B σ c)))) - (nI (k_start σ c)))), (0, .ref (a_ad A c)), (1, .int key), (2, .int e)]) F d_C_placesBefore_14 (n := 15) rfl (by decide) rfl ?_
  refine yy_iconst (v := 0) F d_C_placesBefore_15 (n := 16) rfl rfl ?_
  refine yy_iload_n F d_C_placesBefore_16 (n := 17) rfl 0 rfl ?_
  refine yy_aload_n F d_C_placesBefore_17 (n := 18) rfl 1 rfl ?_
  refine vd_count F X I hc hP hS_2 q_426 ⟨by decide, by decide⟩ (by simp [Value.category]) d_C_placesBefore_18 (n := 21) rfl ⟨Nat.le_refl _, Nat.le_refl _⟩ (fun _ hS_3 => ?_)
  refine yy_cri (w := (ym_mn (nI (ym_cnt (ym_bel (s_nu (k_B σ c)) key e) (s_ct (k_B σ c))) - nI (k_start σ c)) (nI (k_size σ c)))) F hS_3 (c_X_min X) (yy_Bc F X.1 q_343 q_14) (yy_invS (nA := 2) (bytes := b_X_min) (maxL := 2) (retY := (some .int)) F X.1 q_695 q_342 q_14 q_343 ⟨by decide, by decide, by decide +kernel⟩ rfl d_C_placesBefore_21) d_C_placesBefore_21 (n := 24) rfl (by simp [Value.category]) ⟨by decide, by decide⟩ ⟨Nat.le_refl _, Nat.le_refl _⟩ ⟨rfl, rfl⟩ trivial rfl (fun _ hS_4 => ?_)
  refine yy_cri (w := (ym_mx 0 (ym_mn (nI (ym_cnt (ym_bel (s_nu (k_B σ c)) key e) (s_ct (k_B σ c))) - nI (k_start σ c)) (nI (k_size σ c))))) F hS_4 (c_X_max X) (yy_Bc F X.1 q_331 q_14) (yy_invS (nA := 2) (bytes := b_X_max) (maxL := 2) (retY := (some .int)) F X.1 q_696 q_330 q_14 q_331 ⟨by decide, by decide, by decide +kernel⟩ rfl d_C_placesBefore_24) d_C_placesBefore_24 (n := 27) rfl (by simp [Value.category]) ⟨by decide, by decide⟩ ⟨Nat.le_refl _, Nat.le_refl _⟩ ⟨rfl, rfl⟩ trivial rfl (fun _ hS_5 => ?_)
  exact yy_iret F hS_5 ⟨Nat.zero_le _, Nat.zero_le _⟩ rfl d_C_placesBefore_27 (⟨_, rfl, ym_mid (by omega) (by omega) (by omega), rfl⟩)
