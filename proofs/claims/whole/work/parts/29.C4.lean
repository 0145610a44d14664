/-! PART C4: bringing, taking, sorting, sifting, comparing through a container -/
/-- the places from j - 1 downwards whose numbers leave that rest are taken out -/
def k_sift (c : Nat) (by_ rest : Int32) : Nat → ks → ks × Nat
  | 0, σ => (σ, 0)
  | j + 1, σ => if ym_fm (s_nu (k_B σ c) (k_start σ c + j)) by_ = rest then ((k_sift c by_ rest j (k_take σ c (k_start σ c + j))).1, (k_sift c by_ rest j (k_take σ c (k_start σ c + j))).2 + 1) else k_sift c by_ rest j σ
theorem iv.at {t : Nat} {σ : ks} {c p : Nat} {key : Int32} (I : iv t σ) (hc : c < k_m σ) (h6 : ¬ k_kd σ c = 6) (h : k_at σ c key = some p) : p < s_ct (k_B σ c) ∧ k_start σ c ≤ p ∧ s_nu (k_B σ c) p = key ∧ k_cov σ c key = true := by
  unfold k_at at h
  split at h
  · rename_i hcv
    obtain ⟨-, h1, h2, -⟩ := f_pos_some h
    refine ⟨by omega, ?_, h2, hcv⟩
    by_cases h7 : k_kd σ c = 7
    · have hs := (I.s hc).2.2.2.2.2.2 (Or.inl ((I.cc hc).2.2.2.2.1 h7))
      rw [k_start7 h7]
      apply Nat.le_of_not_lt
      intro q
      have h3 := (so_lt hs (by omega)).mp q
      simp [k_cov, h7] at hcv
      rw [h2] at h3
      exact absurd hcv.1 (Int32.not_le.mpr h3)
    · rw [k_start0 h6 h7]
      exact Nat.zero_le _
  · cases h
theorem ym_back {a b : Nat} : nI a + (nI b - nI a) = nI b := by
  rw [Int32.add_comm, Int32.sub_add_cancel]
theorem k_pl_none {σ : ks} {c : Nat} {key : Int32} (h : k_at σ c key = none) : k_pl σ c key = -1 := by
  unfold k_pl
  rw [h]
theorem k_pl_some {t : Nat} {σ : ks} {c p : Nat} {key : Int32} (I : iv t σ) (hc : c < k_m σ) (h6 : ¬ k_kd σ c = 6) (h : k_at σ c key = some p) : k_pl σ c key = nI (p - k_start σ c) ∧ ¬ k_pl σ c key = -1 := by
  obtain ⟨h1, h2, -⟩ := I.at hc h6 h
  have h24 := I.ct hc
  have e : k_pl σ c key = nI (p - k_start σ c) := by
    unfold k_pl
    rw [h]
    exact pk_sub h2
  rw [e]
  exact ⟨rfl, ym_nm1 (by omega)⟩
def k_eqn (σ : ks) (c o : Nat) : Bool := decide (k_size σ c = k_size σ o) && decide (∀ i, i < k_size σ c → s_nu (k_B σ c) (k_start σ c + i) = s_nu (k_B σ o) (k_start σ o + i))
/-- a pair of one is one of the other -/
def k_has (σ : ks) (o : Nat) (key v : Int32) : Bool := match k_at σ o key with | none => false | some p => decide (v = s_vl (k_B σ o) p)
def k_eqp (σ : ks) (c o : Nat) : Bool := decide (k_size σ c = k_size σ o) && decide (∀ i, i < k_size σ c → k_has σ o (s_nu (k_B σ c) (k_start σ c + i)) (s_vl (k_B σ c) (k_start σ c + i)) = true)
set_option maxRecDepth 100000 in
set_option maxHeartbeats 4000000 in
theorem c_C_bring {l : Launch} {z : State} {a0 : Array Value} {D : va_G} {ca : kca} (X : kcx l z a0 D ca) {A : kA} {σ : ks} {t c : Nat} (I : iv t σ) (hc : c < k_m σ) {x y : Int32} {q : Nat} (hq : nI (k_start σ c) + x = nI q) (hq2 : q ≤ s_ct (k_B σ c)) (h24 : s_ct (k_B σ c) < 24) : yy_M l z y_C_bring (.code y_C_bring b_C_bring 3 none) ({ frames := 2, cells := 0, slots := 0, locals := 44 }) [.ref (a_ad A c), .int x, .int y] (ck_at D ca z A σ) (yy_pv (fun H H1 => ck_at D ca z A (k_bring σ c q y) H1 ∧ kpA A H H1)) := by
  refine yy_body (plainFor_of_name (by decide)) (Nat.le_of_ble_eq_true rfl) (fun b H F hS hP hH hnm => ?_)
  refine yy_aload_n F d_C_bring_0 (n := 1) rfl 0 rfl ?_
  refine cr_store F X g_C_15_G g_C_15_P g_C_15_R hP hc d_C_bring_1 (n := 4) rfl ?_
  refine yy_aload_n F d_C_bring_4 (n := 5) rfl 0 rfl ?_
  refine vd_start F X I hc hP hS q_453 ⟨by decide, by decide⟩ (by simp [Value.category]) d_C_bring_5 (n := 8) rfl ⟨Nat.le_refl _, Nat.le_refl _⟩ (fun _ hS_1 => ?_)
  refine yy_iload_n F d_C_bring_8 (n := 9) rfl 1 rfl ?_
  refine yy_iadd F d_C_bring_9 (n := 10) rfl ?_
  refine yy_iload_n F d_C_bring_10 (n := 11) rfl 2 rfl ?_
  refine yy_iconst (v := 0) F d_C_bring_11 (n := 12) rfl rfl ?_
  refine yy_thi (y := nI q) hq ?_
  refine yy_cv F hS_1 (c_S_bringIn (j := q) (x := y) (v := 0) X (I.ct hc) (hP.sok hc) hq2 h24) (yy_Bc F X.1 q_511 q_11) (yy_invV (nA := 3) (C := R_S) (bytes := b_S_bringIn) (maxL := 5) (retY := none) F X.1 q_508 q_509 q_510 q_511 ⟨by decide, by decide, by decide +kernel⟩ (yy_recv F.N X.2.1 (ci := 0) rfl (hP.sc hc).1) rfl d_C_bring_12) d_C_bring_12 (n := 15) rfl (by simp [Value.category]) ⟨by decide, by decide⟩ ⟨Nat.zero_le _, Nat.zero_le _⟩ ⟨rfl, rfl⟩ (hP.sc hc) (fun Hw_2 locs_w_2 qw_2 Sw_2 => ?_)
  obtain ⟨Qw_2, zw_2⟩ := qw_2
  have Rw_2 : sk_at D ca Hw_2 A (k_kd σ (k_bs σ c)) (k_bs σ c) (S_bring (k_kd σ (k_bs σ c)) (k_B σ c) q y 0) := (by have h9 := Qw_2; rw [n_row_eq (I.s hc).2.2.1.2 (I.ct hc), nI_1] at h9; exact h9)
  obtain ⟨Pw_2, kw_2⟩ := hP.putS (hP.ok.bs hc).1 (hP.ok.bs hc).2 Rw_2 zw_2
  have kw_2 := kpA.rf.tr kw_2
  refine yy_aload_n F d_C_bring_15 (n := 16) rfl 0 rfl ?_
  refine yy_iconst (v := 1) F d_C_bring_16 (n := 17) rfl rfl ?_
  refine vd_follow (σ := k_setS σ (k_bs σ c) (S_bring (k_kd σ (k_bs σ c)) (k_B σ c) q y 0)) (g := fun m => m + 1) F X hc Pw_2 Sw_2 q_513 ⟨I.hw, (k_chn_S σ _ _ _ _ _ _).mpr (k_chn_all (fun m => nI_1 m) _ _)⟩ ⟨by decide, by decide⟩ (by simp [Value.category]) d_C_bring_17 (n := 20) rfl ⟨Nat.zero_le _, Nat.zero_le _⟩ (fun Hw_3 locs_w_3 Pw_3 kw_3 Sw_3 => ?_)
  have kw_3 := kw_2.tr kw_3
  exact yy_vret F Sw_3 ⟨Nat.zero_le _, Nat.zero_le _⟩ rfl d_C_bring_20 (⟨rfl, Pw_3, kw_3⟩)
set_option maxRecDepth 100000 in
set_option maxHeartbeats 4000000 in
theorem c_C_take {l : Launch} {z : State} {a0 : Array Value} {D : va_G} {ca : kca} (X : kcx l z a0 D ca) {A : kA} {σ : ks} {t c : Nat} (I : iv t σ) (hc : c < k_m σ) {x : Int32} {q : Nat} (hq : nI (k_start σ c) + x = nI q) (hq2 : q < s_ct (k_B σ c)) (hf : k_fr σ c) (h1 : k_kd σ c = 6 → 1 ≤ k_ln σ c) : yy_M l z y_C_take (.code y_C_take b_C_take 3 (some .int)) ({ frames := 3, cells := 0, slots := 0, locals := 65 }) [.ref (a_ad A c), .int x] (ck_at D ca z A σ) (yy_pi (fun r H H1 => r = s_nu (k_B σ c) q ∧ ck_at D ca z A (k_take σ c q) H1 ∧ kpA A H H1)) := by
  refine yy_body (plainFor_of_name (by decide)) (Nat.le_of_ble_eq_true rfl) (fun b H F hS hP hH hnm => ?_)
  refine yy_aload_n F d_C_take_0 (n := 1) rfl 0 rfl ?_
  refine yy_iload_n F d_C_take_1 (n := 2) rfl 1 rfl ?_
  refine yy_cri (w := (s_nu (k_B σ c) q)) F hS (c_C_numberAt (A := A) (σ := σ) (c := c) X I hc hq hq2) (yy_Bc F X.1 q_452 q_9) (yy_invC (nA := 1) (x := y_C_numberAt) F X hP hc q_476 q_448 (k_dec X q_447 q_452) (k_sel q_451 q_449 q_450 σ c) q_447 ⟨by decide, by decide, by decide +kernel⟩ rfl d_C_take_2) d_C_take_2 (n := 5) rfl (by simp [Value.category]) ⟨by decide, by decide⟩ ⟨Nat.zero_le _, Nat.zero_le _⟩ ⟨rfl, rfl⟩ hP rfl (fun _ hS_1 => ?_)
  refine yy_istore_n (lv' := [(2, .int (s_nu (k_B σ c) q)), (0, .ref (a_ad A c)), (1, .int x)]) F d_C_take_5 (n := 6) rfl (by decide) rfl ?_
  refine yy_aload_n F d_C_take_6 (n := 7) rfl 1 rfl ?_
  refine cr_store F X g_C_15_G g_C_15_P g_C_15_R hP hc d_C_take_7 (n := 10) rfl ?_
  refine yy_aload_n F d_C_take_10 (n := 11) rfl 1 rfl ?_
  refine vd_start F X I hc hP hS_1 q_453 ⟨by decide, by decide⟩ (by simp [Value.category]) d_C_take_11 (n := 14) rfl ⟨Nat.le_refl _, Nat.le_refl _⟩ (fun _ hS_2 => ?_)
  refine yy_iload_n F d_C_take_14 (n := 15) rfl 2 rfl ?_
  refine yy_iadd F d_C_take_15 (n := 16) rfl ?_
  refine yy_tope (y := (nI q)) hq ?_
  refine yy_cv F hS_2 (c_S_takeOut (j := q) X (I.ct hc) (hP.sok hc) hq2) (yy_Bc F X.1 q_539 q_11) (yy_invV (nA := 1) (C := R_S) (bytes := b_S_takeOut) (maxL := 2) (retY := none) F X.1 q_536 q_537 q_538 q_539 ⟨by decide, by decide, by decide +kernel⟩ (yy_recv F.N X.2.1 (ci := 0) rfl (hP.sc hc).1) rfl d_C_take_16) d_C_take_16 (n := 19) rfl (by simp [Value.category]) ⟨by decide, by decide⟩ ⟨Nat.zero_le _, Nat.zero_le _⟩ ⟨rfl, rfl⟩ (hP.sc hc) (fun Hw_3 locs_w_3 qw_3 Sw_3 => ?_)
  obtain ⟨Qw_3, zw_3⟩ := qw_3
  have Rw_3 : sk_at D ca Hw_3 A (k_kd σ (k_bs σ c)) (k_bs σ c) (S_take (k_B σ c) q) := (by have h9 := Qw_3; rw [nI_1] at h9; exact h9)
  obtain ⟨Pw_3, kw_3⟩ := hP.putS (hP.ok.bs hc).1 (hP.ok.bs hc).2 Rw_3 zw_3
  have kw_3 := kpA.rf.tr kw_3
  refine yy_aload_n F d_C_take_19 (n := 20) rfl 1 rfl ?_
  refine yy_iconst (v := (-1)) F d_C_take_20 (n := 21) rfl rfl ?_
  refine vd_follow (σ := k_setS σ (k_bs σ c) (S_take (k_B σ c) q)) (g := fun m => m - 1) F X hc Pw_3 Sw_3 q_513 ⟨I.hw, (k_chn_S σ _ _ _ _ _ _).mpr (I.chn _ _ hc hf h1)⟩ ⟨by decide, by decide⟩ (by simp [Value.category]) d_C_take_21 (n := 24) rfl ⟨Nat.zero_le _, Nat.zero_le _⟩ (fun Hw_4 locs_w_4 Pw_4 kw_4 Sw_4 => ?_)
  have kw_4 := kw_3.tr kw_4
  refine yy_iload_n F d_C_take_24 (n := 25) rfl 0 rfl ?_
  exact yy_iret F Sw_4 ⟨Nat.zero_le _, Nat.zero_le _⟩ rfl d_C_take_25 (⟨_, rfl, rfl, Pw_4, kw_4⟩)
set_option maxRecDepth 100000 in
set_option maxHeartbeats 4000000 in
theorem c_C_arrange {l : Launch} {z : State} {a0 : Array Value} {D : va_G} {ca : kca} (X : kcx l z a0 D ca) {A : kA} {σ : ks} {t c : Nat} (I : iv t σ) (hc : c < k_m σ) {how : Int32} (hf : k_fr σ c) : yy_M l z y_C_arrange (.code y_C_arrange b_C_arrange 2 none) ({ frames := 3, cells := 0, slots := 0, locals := 70 }) [.ref (a_ad A c), .int how] (ck_at D ca z A σ) (yy_pv (fun H H1 => ck_at D ca z A (k_arr σ c how) H1 ∧ kpA A H H1)) := by
  refine yy_body (plainFor_of_name (by decide)) (Nat.le_of_ble_eq_true rfl) (fun b H F hS hP hH hnm => ?_)
  have h24 := I.ct hc
  have hend := I.end hc hf
  refine yy_aload_n F d_C_arrange_0 (n := 1) rfl 0 rfl ?_
  refine cr_store F X g_C_15_G g_C_15_P g_C_15_R hP hc d_C_arrange_1 (n := 4) rfl ?_
  refine yy_aload_n F d_C_arrange_4 (n := 5) rfl 0 rfl ?_
  refine vd_start F X I hc hP hS q_453 ⟨by decide, by decide⟩ (by simp [Value.category]) d_C_arrange_5 (n := 8) rfl ⟨Nat.le_refl _, Nat.le_refl _⟩ (fun _ hS_1 => ?_)
  refine yy_aload_n F d_C_arrange_8 (n := 9) rfl 0 rfl ?_
  refine vd_start F X I hc hP hS_1 q_453 ⟨by decide, by decide⟩ (by simp [Value.category]) d_C_arrange_9 (n := 12) rfl ⟨Nat.le_refl _, Nat.le_refl _⟩ (fun _ hS_2 => ?_)
  refine yy_aload_n F d_C_arrange_12 (n := 13) rfl 0 rfl ?_
  refine vd_count F X I hc hP hS_2 q_426 ⟨by decide, by decide⟩ (by simp [Value.category]) d_C_arrange_13 (n := 16) rfl ⟨Nat.le_refl _, Nat.le_refl _⟩ (fun _ hS_3 => ?_)
  refine yy_iadd F d_C_arrange_16 (n := 17) rfl ?_
  refine yy_iload_n F d_C_arrange_17 (n := 18) rfl 1 rfl ?_
  refine yy_sec (y := nI (k_start σ c + k_size σ c)) (nI_add _ _) ?_
  refine yy_cv F hS_3 (c_S_arrange (f0 := k_start σ c) (t0 := k_start σ c + k_size σ c) (how := how) X (I.ct hc) (hP.sok hc) (by omega) hend) (yy_Bc F X.1 q_561 q_11) (yy_invV (nA := 3) (C := R_S) (bytes := b_S_arrange) (maxL := 7) (retY := none) F X.1 q_558 q_559 q_560 q_561 ⟨by decide, by decide, by decide +kernel⟩ (yy_recv F.N X.2.1 (ci := 0) rfl (hP.sc hc).1) rfl d_C_arrange_18) d_C_arrange_18 (n := 21) rfl (by simp [Value.category]) ⟨by decide, by decide⟩ ⟨Nat.zero_le _, Nat.zero_le _⟩ ⟨rfl, rfl⟩ (hP.sc hc) (fun Hw_4 locs_w_4 qw_4 Sw_4 => ?_)
  obtain ⟨Qw_4, zw_4⟩ := qw_4
  have Rw_4 : sk_at D ca Hw_4 A (k_kd σ (k_bs σ c)) (k_bs σ c) (S_so (k_B σ c) (k_start σ c) (k_start σ c + k_size σ c) how) := (by have h9 := Qw_4; rw [nI_1] at h9; exact h9)
  obtain ⟨Pw_4, kw_4⟩ := hP.putS (hP.ok.bs hc).1 (hP.ok.bs hc).2 Rw_4 zw_4
  have kw_4 := kpA.rf.tr kw_4
  refine yy_aload_n F d_C_arrange_21 (n := 22) rfl 0 rfl ?_
  refine yy_iconst (v := 0) F d_C_arrange_22 (n := 23) rfl rfl ?_
  refine vd_follow (σ := k_setS σ (k_bs σ c) (S_so (k_B σ c) (k_start σ c) (k_start σ c + k_size σ c) how)) (g := fun m => m) F X hc Pw_4 Sw_4 q_513 ⟨I.hw, (k_chn_S σ _ _ _ _ _ _).mpr (k_chn_all (fun m => Int32.add_zero _) _ _)⟩ ⟨by decide, by decide⟩ (by simp [Value.category]) d_C_arrange_23 (n := 26) rfl ⟨Nat.zero_le _, Nat.zero_le _⟩ (fun Hw_5 locs_w_5 Pw_5 kw_5 Sw_5 => ?_)
  have kw_5 := kw_4.tr kw_5
  exact yy_vret F Sw_5 ⟨Nat.zero_le _, Nat.zero_le _⟩ rfl d_C_arrange_26 (⟨rfl, Pw_5, kw_5⟩)
set_option maxRecDepth 100000 in
set_option maxHeartbeats 4000000 in
theorem c_C_takeAll {l : Launch} {z : State} {a0 : Array Value} {D : va_G} {ca : kca} (X : kcx l z a0 D ca) {A : kA} {σ : ks} {t c : Nat} (I : iv t σ) (hc : c < k_m σ) {by_ rest : Int32} (hby : ¬ by_ < 1) (hf : k_fr σ c) (ht : t + 24 ≤ 100000) : yy_M l z y_C_takeAll (.code y_C_takeAll b_C_takeAll 5 (some .int)) ({ frames := 4, cells := 0, slots := 0, locals := 87 }) [.ref (a_ad A c), .int by_, .int rest] (ck_at D ca z A σ) (yy_pi (fun r H H1 => r = nI (k_sift c by_ rest (k_size σ c) σ).2 ∧ ck_at D ca z A ((k_sift c by_ rest (k_size σ c) σ).1) H1 ∧ kpA A H H1)) := by
  refine yy_body (plainFor_of_name (by decide)) (Nat.le_of_ble_eq_true rfl) (fun b H F hS hP hH hnm => ?_)
  have hb0 : ¬ by_ = 0 := fun h => hby (by rw [h]; decide)
  have loop : ∀ (j acc t1 : Nat) (σ1 : ks) (H1 : Heap) (locs : List Loc), iv t1 σ1 → t1 + j ≤ 100000 → c < k_m σ1 → k_fr σ1 c → j ≤ k_size σ1 c → (k_sift c by_ rest j σ1).1 = (k_sift c by_ rest (k_size σ c) σ).1 → acc + (k_sift c by_ rest j σ1).2 = (k_sift c by_ rest (k_size σ c) σ).2 → ck_at D ca z A σ1 H1 → kpA A H H1 → yy_S z H1 locs → yy_Y b H1 locs (0, 0) 17 [(4, .int (nI j - 1)), (3, .int (nI acc)), (0, .ref (a_ad A c)), (1, .int by_), (2, .int rest)] [] := by
    intro j
    induction j with
    | zero =>
      intro acc t1 σ1 H1 locs I1 ht1 hc1 hf1 hj hE hA P1 k1 S1
      refine yy_iload F d_C_takeAll_17 (n := 19) rfl 0 rfl ?_
      refine yy_if_lt_t (tgt := 52) F d_C_takeAll_19 (by decide) (by decide) ?_
      refine yy_iload_n F d_C_takeAll_52 (n := 53) rfl 1 rfl ?_
      exact yy_iret F S1 ⟨Nat.zero_le _, Nat.zero_le _⟩ rfl d_C_takeAll_53 (⟨_, rfl, by rw [← hA]; rfl, by rw [← hE]; exact P1, k1⟩)
    | succ j ih =>
      intro acc t1 σ1 H1 locs I1 ht1 hc1 hf1 hj hE hA P1 k1 S1
      rw [nI_pred j]
      have hend := I1.end hc1 hf1
      have h24 := I1.ct hc1
      refine yy_iload F d_C_takeAll_17 (n := 19) rfl 0 rfl ?_
      refine yy_if_lt_f (tgt := 52) F d_C_takeAll_19 (n := 22) rfl (by decide) (nI_pos (by omega)) ?_
      refine yy_aload_n F d_C_takeAll_22 (n := 23) rfl 2 rfl ?_
      refine yy_iload F d_C_takeAll_23 (n := 25) rfl 0 rfl ?_
      refine yy_cri (w := (s_nu (k_B σ1 c) (k_start σ1 c + j))) F S1 (c_C_numberAt (A := A) (σ := σ1) (c := c) X I1 hc1 (x := nI j) (q := k_start σ1 c + j) (nI_add _ _) (by omega)) (yy_Bc F X.1 q_452 q_9) (yy_invC (nA := 1) (x := y_C_numberAt) F X P1 hc1 q_476 q_448 (k_dec X q_447 q_452) (k_sel q_451 q_449 q_450 σ1 c) q_447 ⟨by decide, by decide, by decide +kernel⟩ rfl d_C_takeAll_25) d_C_takeAll_25 (n := 28) rfl (by simp [Value.category]) ⟨by decide, by decide⟩ ⟨Nat.zero_le _, Nat.zero_le _⟩ ⟨rfl, rfl⟩ P1 rfl (fun _ hS_1 => ?_)
      refine yy_iload_n F d_C_takeAll_28 (n := 29) rfl 3 rfl ?_
      refine yy_cri (w := (ym_fm (s_nu (k_B σ1 c) (k_start σ1 c + j)) by_)) F hS_1 (c_X_floorMod (x := s_nu (k_B σ1 c) (k_start σ1 c + j)) (y := by_) X hb0) (yy_Bc F X.1 q_568 q_14) (yy_invS (nA := 2) (bytes := b_X_floorMod) (maxL := 3) (retY := (some .int)) F X.1 q_734 q_567 q_14 q_568 ⟨by decide, by decide, by decide +kernel⟩ rfl d_C_takeAll_29) d_C_takeAll_29 (n := 32) rfl (by simp [Value.category]) ⟨by decide, by decide⟩ ⟨Nat.le_refl _, Nat.le_refl _⟩ ⟨rfl, rfl⟩ trivial rfl (fun _ hS_2 => ?_)
      refine yy_iload_n F d_C_takeAll_32 (n := 33) rfl 4 rfl ?_
      refine yy_ic_ne (tgt := 46) F d_C_takeAll_33 (n := 36) rfl (by decide) (fun h1 => ?_) (fun h1 => ?_)
      · have hS1 : k_sift c by_ rest (j + 1) σ1 = k_sift c by_ rest j σ1 := if_neg h1
        rw [hS1] at hE hA
        obtain ⟨i_3, e_i_3⟩ : ∃ y : Int32, y = (nI j) + (-1) := ⟨_, rfl⟩
        refine yy_iinc (v := i_3) (lv' := [(4, .int i_3), (3, .int (nI acc)), (0, .ref (a_ad A c)), (1, .int by_), (2, .int rest)]) F d_C_takeAll_46 (n := 49) rfl 0 rfl (by rw [e_i_3]; rfl) (by decide) rfl ?_
        refine yy_goto (tgt := 17) F d_C_takeAll_49 (by decide) ?_
        rw [show i_3 = nI j - 1 by rw [e_i_3, Int32.sub_eq_add_neg]]
        exact yy_sub [0, 1, 2, 3, 4] rfl (ih acc t1 σ1 H1 _ I1 (by omega) hc1 hf1 (by omega) hE hA P1 k1 hS_2)
      · have hS1 : k_sift c by_ rest (j + 1) σ1 = ((k_sift c by_ rest j (k_take σ1 c (k_start σ1 c + j))).1, (k_sift c by_ rest j (k_take σ1 c (k_start σ1 c + j))).2 + 1) := if_pos h1
        rw [hS1] at hE hA
        have h1t : k_kd σ1 c = 6 → 1 ≤ k_ln σ1 c := fun h => by rw [← k_size6 h]; omega
        obtain ⟨I2, f2⟩ := I1.take (q := k_start σ1 c + j) (by omega) hc1 hf1 (by omega) h1t
        obtain ⟨-, z2⟩ := I1.take_sz hc1 hf1 (j := j) (by omega)
        have m2 : k_m (k_take σ1 c (k_start σ1 c + j)) = k_m σ1 := (k_thru_C I1 hc1 _ _).1
        refine yy_aload_n F d_C_takeAll_36 (n := 37) rfl 2 rfl ?_
        refine yy_iload F d_C_takeAll_37 (n := 39) rfl 0 rfl ?_
        refine yy_ci F hS_2 (c_C_take (A := A) (σ := σ1) (c := c) X I1 hc1 (x := nI j) (q := k_start σ1 c + j) (nI_add _ _) (by omega) hf1 h1t) (yy_Bc F X.1 q_535 q_9) (yy_invC (nA := 1) (x := y_C_take) F X P1 hc1 q_735 q_531 (k_dec X q_530 q_535) (k_sel q_534 q_532 q_533 σ1 c) q_530 ⟨by decide, by decide, by decide +kernel⟩ rfl d_C_takeAll_39) d_C_takeAll_39 (n := 42) rfl (by simp [Value.category]) ⟨by decide, by decide⟩ ⟨Nat.zero_le _, Nat.zero_le _⟩ ⟨rfl, rfl⟩ P1 (fun r_w_4 Hw_4 locs_w_4 qw_4 Sw_4 => ?_)
        obtain ⟨ew_4, Pw_4, kw_4⟩ := qw_4
        rw [ew_4]
        have kw_4 := k1.tr kw_4
        refine yy_pop F d_C_takeAll_42 (n := 43) rfl rfl ?_
        refine yy_iinc (v := nI (acc + 1)) (lv' := [(3, .int (nI (acc + 1))), (4, .int (nI j)), (0, .ref (a_ad A c)), (1, .int by_), (2, .int rest)]) F d_C_takeAll_43 (n := 46) rfl 1 rfl (nI_1 _) (by decide) rfl ?_
        obtain ⟨i_5, e_i_5⟩ : ∃ y : Int32, y = (nI j) + (-1) := ⟨_, rfl⟩
        refine yy_iinc (v := i_5) (lv' := [(4, .int i_5), (3, .int (nI (acc + 1))), (0, .ref (a_ad A c)), (1, .int by_), (2, .int rest)]) F d_C_takeAll_46 (n := 49) rfl 1 rfl (by rw [e_i_5]; rfl) (by decide) rfl ?_
        refine yy_goto (tgt := 17) F d_C_takeAll_49 (by decide) ?_
        rw [show i_5 = nI j - 1 by rw [e_i_5, Int32.sub_eq_add_neg]]
        exact yy_sub [0, 1, 2, 3, 4] rfl (ih (acc + 1) (t1 + 1) _ _ _ I2 (by omega) (by rw [m2]; exact hc1) f2 (by omega) hE (by rw [← hA]; omega) Pw_4 kw_4 Sw_4)
  refine yy_iload_n F d_C_takeAll_0 (n := 1) rfl 1 rfl ?_
  refine yy_iconst (v := 1) F d_C_takeAll_1 (n := 2) rfl rfl ?_
  refine yy_ic_ge_t (tgt := 7) F d_C_takeAll_2 (by decide) (Int32.not_lt.mp hby) ?_
  refine yy_iconst (v := 0) F d_C_takeAll_7 (n := 8) rfl rfl ?_
  refine yy_istore_n (lv' := [(3, .int 0), (0, .ref (a_ad A c)), (1, .int by_), (2, .int rest)]) F d_C_takeAll_8 (n := 9) rfl (by decide) rfl ?_
  refine yy_aload_n F d_C_takeAll_9 (n := 10) rfl 1 rfl ?_
  refine vd_count F X I hc hP hS q_426 ⟨by decide, by decide⟩ (by simp [Value.category]) d_C_takeAll_10 (n := 13) rfl ⟨Nat.le_refl _, Nat.le_refl _⟩ (fun _ hS_6 => ?_)
  refine yy_iconst (v := 1) F d_C_takeAll_13 (n := 14) rfl rfl ?_
  refine yy_isub F d_C_takeAll_14 (n := 15) rfl ?_
  refine yy_istore (lv' := [(4, .int ((nI (k_size σ c)) - 1)), (3, .int 0), (0, .ref (a_ad A c)), (1, .int by_), (2, .int rest)]) F d_C_takeAll_15 (n := 17) rfl (by decide) rfl ?_
  have h24 := I.ct hc
  have hend := I.end hc hf
  exact yy_sub [0, 1, 2, 3, 4] rfl (loop (k_size σ c) 0 t σ H _ I (by omega) hc hf (Nat.le_refl _) rfl (Nat.zero_add _) hP kpA.rf hS_6)
set_option maxRecDepth 100000 in
set_option maxHeartbeats 4000000 in
theorem c_C_hasNumbersOf {l : Launch} {z : State} {a0 : Array Value} {D : va_G} {ca : kca} (X : kcx l z a0 D ca) {A : kA} {σ : ks} {t c : Nat} (I : iv t σ) (hc : c < k_m σ) {o : Nat} (ho : o < k_m σ) (hf : k_fr σ c) (hfo : k_fr σ o) : yy_M l z y_C_hasNumbersOf (.code y_C_hasNumbersOf b_C_hasNumbersOf 4 (some .boolean)) ({ frames := 3, cells := 0, slots := 0, locals := 65 }) [.ref (a_ad A c), .ref (a_ad A o)] (ck_at D ca z A σ) (yy_ri (ym_n (k_eqn σ c o))) := by
  refine yy_body (plainFor_of_name (by decide)) (Nat.le_of_ble_eq_true rfl) (fun b H F hS hP hH hnm => ?_)
  have h24 := I.ct hc
  have hend := I.end hc hf
  have h24o := I.ct ho
  have hendo := I.end ho hfo
  refine yy_aload_n F d_C_hasNumbersOf_0 (n := 1) rfl 0 rfl ?_
  refine vd_count F X I hc hP hS q_426 ⟨by decide, by decide⟩ (by simp [Value.category]) d_C_hasNumbersOf_1 (n := 4) rfl ⟨Nat.le_refl _, Nat.le_refl _⟩ (fun _ hS_1 => ?_)
  refine yy_istore_n (lv' := [(2, .int (nI (k_size σ c))), (0, .ref (a_ad A c)), (1, .ref (a_ad A o))]) F d_C_hasNumbersOf_4 (n := 5) rfl (by decide) rfl ?_
  refine yy_iload_n F d_C_hasNumbersOf_5 (n := 6) rfl 0 rfl ?_
  refine yy_aload_n F d_C_hasNumbersOf_6 (n := 7) rfl 2 rfl ?_
  refine vd_count F X I ho hP hS_1 q_426 ⟨by decide, by decide⟩ (by simp [Value.category]) d_C_hasNumbersOf_7 (n := 10) rfl ⟨Nat.le_refl _, Nat.le_refl _⟩ (fun _ hS_2 => ?_)
  refine yy_ic_eq (tgt := 15) F d_C_hasNumbersOf_10 (n := 13) rfl (by decide) (fun h1 => ?_) (fun h1 => ?_)
  · have hz := (nI_eq (a := k_size σ c) (b := k_size σ o) (by omega) (by omega)).mp h1
    refine yy_iconst (v := 0) F d_C_hasNumbersOf_15 (n := 16) rfl rfl ?_
    refine yy_istore_n (lv' := [(3, .int 0), (2, .int (nI (k_size σ c))), (0, .ref (a_ad A c)), (1, .ref (a_ad A o))]) F d_C_hasNumbersOf_16 (n := 17) rfl (by decide) rfl ?_
    have loop : ∀ (d i : Nat) (locs : List Loc), i + d = k_size σ c → (∀ j, j < i → s_nu (k_B σ c) (k_start σ c + j) = s_nu (k_B σ o) (k_start σ o + j)) → yy_S z H locs → yy_Y b H locs (0, 0) 17 [(3, .int (nI i)), (2, .int (nI (k_size σ c))), (0, .ref (a_ad A c)), (1, .ref (a_ad A o))] [] := by
      intro d
      induction d with
      | zero =>
        intro i locs hi ha S1
        refine yy_iload_n F d_C_hasNumbersOf_17 (n := 18) rfl 0 rfl ?_
        refine yy_iload_n F d_C_hasNumbersOf_18 (n := 19) rfl 1 rfl ?_
        refine yy_ic_ge_t (tgt := 43) F d_C_hasNumbersOf_19 (by decide) (nI_le (by omega) (by omega)) ?_
        refine yy_iconst (v := 1) F d_C_hasNumbersOf_43 (n := 44) rfl rfl ?_
        exact yy_zret F S1 ⟨Nat.zero_le _, Nat.zero_le _⟩ rfl rfl d_C_hasNumbersOf_44 (⟨_, rfl, by rw [show k_eqn σ c o = true by unfold k_eqn; rw [decide_eq_true hz, decide_eq_true (fun j hj => ha j (by omega))]; rfl]; rfl, rfl⟩)
      | succ d ih =>
        intro i locs hi ha S1
        refine yy_iload_n F d_C_hasNumbersOf_17 (n := 18) rfl 0 rfl ?_
        refine yy_iload_n F d_C_hasNumbersOf_18 (n := 19) rfl 1 rfl ?_
        refine yy_ic_ge_f (tgt := 43) F d_C_hasNumbersOf_19 (n := 22) rfl (by decide) (nI_ge (by omega) (by omega)) ?_
        refine yy_aload_n F d_C_hasNumbersOf_22 (n := 23) rfl 2 rfl ?_
        refine yy_iload_n F d_C_hasNumbersOf_23 (n := 24) rfl 0 rfl ?_
        refine yy_cri (w := (s_nu (k_B σ c) (k_start σ c + i))) F S1 (c_C_numberAt (A := A) (σ := σ) (c := c) X I hc (x := nI i) (q := k_start σ c + i) (nI_add _ _) (by omega)) (yy_Bc F X.1 q_452 q_9) (yy_invC (nA := 1) (x := y_C_numberAt) F X hP hc q_476 q_448 (k_dec X q_447 q_452) (k_sel q_451 q_449 q_450 σ c) q_447 ⟨by decide, by decide, by decide +kernel⟩ rfl d_C_hasNumbersOf_24) d_C_hasNumbersOf_24 (n := 27) rfl (by simp [Value.category]) ⟨by decide, by decide⟩ ⟨Nat.zero_le _, Nat.zero_le _⟩ ⟨rfl, rfl⟩ hP rfl (fun _ hS_3 => ?_)
        refine yy_aload_n F d_C_hasNumbersOf_27 (n := 28) rfl 3 rfl ?_
        refine yy_iload_n F d_C_hasNumbersOf_28 (n := 29) rfl 0 rfl ?_
        refine yy_cri (w := (s_nu (k_B σ o) (k_start σ o + i))) F hS_3 (c_C_numberAt (A := A) (σ := σ) (c := o) X I ho (x := nI i) (q := k_start σ o + i) (nI_add _ _) (by omega)) (yy_Bc F X.1 q_452 q_9) (yy_invC (nA := 1) (x := y_C_numberAt) F X hP ho q_476 q_448 (k_dec X q_447 q_452) (k_sel q_451 q_449 q_450 σ o) q_447 ⟨by decide, by decide, by decide +kernel⟩ rfl d_C_hasNumbersOf_29) d_C_hasNumbersOf_29 (n := 32) rfl (by simp [Value.category]) ⟨by decide, by decide⟩ ⟨Nat.zero_le _, Nat.zero_le _⟩ ⟨rfl, rfl⟩ hP rfl (fun _ hS_4 => ?_)
        refine yy_ic_eq (tgt := 37) F d_C_hasNumbersOf_32 (n := 35) rfl (by decide) (fun h2 => ?_) (fun h2 => ?_)
        · refine yy_iinc (v := nI (i + 1)) (lv' := [(3, .int (nI (i + 1))), (2, .int (nI (k_size σ c))), (0, .ref (a_ad A c)), (1, .ref (a_ad A o))]) F d_C_hasNumbersOf_37 (n := 40) rfl 0 rfl (nI_1 _) (by decide) rfl ?_
          refine yy_goto (tgt := 17) F d_C_hasNumbersOf_40 (by decide) ?_
          exact yy_sub [0, 1, 2, 3] rfl (ih (i + 1) _ (by omega) (fun j hj => by
            by_cases hji : j = i
            · subst hji
              exact h2
            · exact ha j (by omega)) hS_4)
        · refine yy_iconst (v := 0) F d_C_hasNumbersOf_35 (n := 36) rfl rfl ?_
          exact yy_zret F hS_4 ⟨Nat.zero_le _, Nat.zero_le _⟩ rfl rfl d_C_hasNumbersOf_36 (⟨_, rfl, by rw [show k_eqn σ c o = false by unfold k_eqn; rw [decide_eq_true hz, decide_eq_false (fun q9 => h2 (q9 i (by omega)))]; rfl]; rfl, rfl⟩)
    exact yy_sub [0, 1, 2, 3] rfl (loop (k_size σ c) 0 _ (by omega) (fun j hj => by omega) hS_2)
  · refine yy_iconst (v := 0) F d_C_hasNumbersOf_13 (n := 14) rfl rfl ?_
    exact yy_zret F hS_2 ⟨Nat.zero_le _, Nat.zero_le _⟩ rfl rfl d_C_hasNumbersOf_14 (⟨_, rfl, by rw [show k_eqn σ c o = false by unfold k_eqn; rw [decide_eq_false (fun q9 => h1 (by rw [q9]))]; rfl]; rfl, rfl⟩)
set_option maxRecDepth 100000 in
set_option maxHeartbeats 4000000 in
theorem c_C_hasPairsOf {l : Launch} {z : State} {a0 : Array Value} {D : va_G} {ca : kca} (X : kcx l z a0 D ca) {A : kA} {σ : ks} {t c : Nat} (I : iv t σ) (hc : c < k_m σ) {o : Nat} (ho : o < k_m σ) (hf : k_fr σ c) (hfo : k_fr σ o) (h6 : ¬ k_kd σ o = 6) : yy_M l z y_C_hasPairsOf (.code y_C_hasPairsOf b_C_hasPairsOf 5 (some .boolean)) ({ frames := 3, cells := 0, slots := 0, locals := 65 }) [.ref (a_ad A c), .ref (a_ad A o)] (ck_at D ca z A σ) (yy_ri (ym_n (k_eqp σ c o))) := by
  refine yy_body (plainFor_of_name (by decide)) (Nat.le_of_ble_eq_true rfl) (fun b H F hS hP hH hnm => ?_)
  have h24 := I.ct hc
  have hend := I.end hc hf
  have h24o := I.ct ho
  have hendo := I.end ho hfo
  refine yy_aload_n F d_C_hasPairsOf_0 (n := 1) rfl 0 rfl ?_
  refine vd_count F X I hc hP hS q_426 ⟨by decide, by decide⟩ (by simp [Value.category]) d_C_hasPairsOf_1 (n := 4) rfl ⟨Nat.le_refl _, Nat.le_refl _⟩ (fun _ hS_1 => ?_)
  refine yy_istore_n (lv' := [(2, .int (nI (k_size σ c))), (0, .ref (a_ad A c)), (1, .ref (a_ad A o))]) F d_C_hasPairsOf_4 (n := 5) rfl (by decide) rfl ?_
  refine yy_iload_n F d_C_hasPairsOf_5 (n := 6) rfl 0 rfl ?_
  refine yy_aload_n F d_C_hasPairsOf_6 (n := 7) rfl 2 rfl ?_
  refine vd_count F X I ho hP hS_1 q_426 ⟨by decide, by decide⟩ (by simp [Value.category]) d_C_hasPairsOf_7 (n := 10) rfl ⟨Nat.le_refl _, Nat.le_refl _⟩ (fun _ hS_2 => ?_)
  refine yy_ic_eq (tgt := 15) F d_C_hasPairsOf_10 (n := 13) rfl (by decide) (fun h1 => ?_) (fun h1 => ?_)
  · have hz := (nI_eq (a := k_size σ c) (b := k_size σ o) (by omega) (by omega)).mp h1
    refine yy_iconst (v := 0) F d_C_hasPairsOf_15 (n := 16) rfl rfl ?_
    refine yy_istore_n (lv' := [(3, .int 0), (2, .int (nI (k_size σ c))), (0, .ref (a_ad A c)), (1, .ref (a_ad A o))]) F d_C_hasPairsOf_16 (n := 17) rfl (by decide) rfl ?_
    have loop : ∀ (d i : Nat) (locs : List Loc), i + d = k_size σ c → (∀ j, j < i → k_has σ o (s_nu (k_B σ c) (k_start σ c + j)) (s_vl (k_B σ c) (k_start σ c + j)) = true) → yy_S z H locs → yy_Y b H locs (0, 0) 17 [(3, .int (nI i)), (2, .int (nI (k_size σ c))), (0, .ref (a_ad A c)), (1, .ref (a_ad A o))] [] := by
      intro d
      induction d with
      | zero =>
        intro i locs hi ha S1
        refine yy_iload_n F d_C_hasPairsOf_17 (n := 18) rfl 0 rfl ?_
        refine yy_iload_n F d_C_hasPairsOf_18 (n := 19) rfl 1 rfl ?_
        refine yy_ic_ge_t (tgt := 61) F d_C_hasPairsOf_19 (by decide) (nI_le (by omega) (by omega)) ?_
        refine yy_iconst (v := 1) F d_C_hasPairsOf_61 (n := 62) rfl rfl ?_
        exact yy_zret F S1 ⟨Nat.zero_le _, Nat.zero_le _⟩ rfl rfl d_C_hasPairsOf_62 (⟨_, rfl, by rw [show k_eqp σ c o = true by unfold k_eqp; rw [decide_eq_true hz, decide_eq_true (fun j hj => ha j (by omega))]; rfl]; rfl, rfl⟩)
      | succ d ih =>
        intro i locs hi ha S1
        refine yy_iload_n F d_C_hasPairsOf_17 (n := 18) rfl 0 rfl ?_
        refine yy_iload_n F d_C_hasPairsOf_18 (n := 19) rfl 1 rfl ?_
        refine yy_ic_ge_f (tgt := 61) F d_C_hasPairsOf_19 (n := 22) rfl (by decide) (nI_ge (by omega) (by omega)) ?_
        refine yy_aload_n F d_C_hasPairsOf_22 (n := 23) rfl 3 rfl ?_
        refine yy_aload_n F d_C_hasPairsOf_23 (n := 24) rfl 2 rfl ?_
        refine yy_iload_n F d_C_hasPairsOf_24 (n := 25) rfl 0 rfl ?_
        refine yy_cri (w := (s_nu (k_B σ c) (k_start σ c + i))) F S1 (c_C_numberAt (A := A) (σ := σ) (c := c) X I hc (x := nI i) (q := k_start σ c + i) (nI_add _ _) (by omega)) (yy_Bc F X.1 q_452 q_9) (yy_invC (nA := 1) (x := y_C_numberAt) F X hP hc q_476 q_448 (k_dec X q_447 q_452) (k_sel q_451 q_449 q_450 σ c) q_447 ⟨by decide, by decide, by decide +kernel⟩ rfl d_C_hasPairsOf_25) d_C_hasPairsOf_25 (n := 28) rfl (by simp [Value.category]) ⟨by decide, by decide⟩ ⟨Nat.zero_le _, Nat.zero_le _⟩ ⟨rfl, rfl⟩ hP rfl (fun _ hS_3 => ?_)
        refine yy_cri (w := (k_pl σ o (s_nu (k_B σ c) (k_start σ c + i)))) F hS_3 (c_C_placeOf (A := A) (σ := σ) (c := o) (key := s_nu (k_B σ c) (k_start σ c + i)) X I ho) (yy_Bc F X.1 q_614 q_9) (yy_invC (nA := 1) (x := y_C_placeOf) F X hP ho q_757 q_610 (k_dec X q_609 q_614) (k_sel q_613 q_611 q_612 σ o) q_609 ⟨by decide, by decide, by decide +kernel⟩ rfl d_C_hasPairsOf_28) d_C_hasPairsOf_28 (n := 31) rfl (by simp [Value.category]) ⟨by decide, by decide⟩ ⟨Nat.zero_le _, Nat.zero_le _⟩ ⟨rfl, rfl⟩ hP rfl (fun _ hS_4 => ?_)
        refine yy_istore (lv' := [(4, .int (k_pl σ o (s_nu (k_B σ c) (k_start σ c + i)))), (3, .int (nI i)), (2, .int (nI (k_size σ c))), (0, .ref (a_ad A c)), (1, .ref (a_ad A o))]) F d_C_hasPairsOf_31 (n := 33) rfl (by decide) rfl ?_
        refine yy_iload F d_C_hasPairsOf_33 (n := 35) rfl 0 rfl ?_
        refine yy_iconst (v := (-1)) F d_C_hasPairsOf_35 (n := 36) rfl rfl ?_
        cases hat : k_at σ o (s_nu (k_B σ c) (k_start σ c + i)) with
        | none =>
          rw [k_pl_none hat]
          refine yy_ic_eq_t (tgt := 53) F d_C_hasPairsOf_36 (by decide) rfl ?_
          refine yy_iconst (v := 0) F d_C_hasPairsOf_53 (n := 54) rfl rfl ?_
          exact yy_zret F hS_4 ⟨Nat.zero_le _, Nat.zero_le _⟩ rfl rfl d_C_hasPairsOf_54 (⟨_, rfl, by rw [show k_eqp σ c o = false by unfold k_eqp; rw [decide_eq_true hz, decide_eq_false (fun q9 => by have h8 := q9 i (by omega); unfold k_has at h8; rw [hat] at h8; cases h8)]; rfl]; rfl, rfl⟩)
        | some pp =>
          obtain ⟨a1, a2, -⟩ := I.at ho h6 hat
          obtain ⟨b1, b2⟩ := k_pl_some I ho h6 hat
          refine yy_ic_eq_f (tgt := 53) F d_C_hasPairsOf_36 (n := 39) rfl (by decide) b2 ?_
          refine yy_aload_n F d_C_hasPairsOf_39 (n := 40) rfl 3 rfl ?_
          refine yy_iload_n F d_C_hasPairsOf_40 (n := 41) rfl 1 rfl ?_
          refine yy_cri (w := (s_vl (k_B σ c) (k_start σ c + i))) F hS_4 (c_C_valueAt (A := A) (σ := σ) (c := c) X I hc (x := nI i) (q := k_start σ c + i) (nI_add _ _) (by omega)) (yy_Bc F X.1 q_653 q_9) (yy_invC (nA := 1) (x := y_C_valueAt) F X hP hc q_758 q_649 (k_dec X q_648 q_653) (k_sel q_652 q_650 q_651 σ c) q_648 ⟨by decide, by decide, by decide +kernel⟩ rfl d_C_hasPairsOf_41) d_C_hasPairsOf_41 (n := 44) rfl (by simp [Value.category]) ⟨by decide, by decide⟩ ⟨Nat.zero_le _, Nat.zero_le _⟩ ⟨rfl, rfl⟩ hP rfl (fun _ hS_5 => ?_)
          refine yy_aload_n F d_C_hasPairsOf_44 (n := 45) rfl 4 rfl ?_
          refine yy_iload F d_C_hasPairsOf_45 (n := 47) rfl 0 rfl ?_
          refine yy_cri (w := (s_vl (k_B σ o) pp)) F hS_5 (c_C_valueAt (A := A) (σ := σ) (c := o) X I ho (x := k_pl σ o (s_nu (k_B σ c) (k_start σ c + i))) (q := pp) (by rw [b1, nI_add, Nat.add_sub_cancel' a2]) a1) (yy_Bc F X.1 q_653 q_9) (yy_invC (nA := 1) (x := y_C_valueAt) F X hP ho q_758 q_649 (k_dec X q_648 q_653) (k_sel q_652 q_650 q_651 σ o) q_648 ⟨by decide, by decide, by decide +kernel⟩ rfl d_C_hasPairsOf_47) d_C_hasPairsOf_47 (n := 50) rfl (by simp [Value.category]) ⟨by decide, by decide⟩ ⟨Nat.zero_le _, Nat.zero_le _⟩ ⟨rfl, rfl⟩ hP rfl (fun _ hS_6 => ?_)
          refine yy_ic_eq (tgt := 55) F d_C_hasPairsOf_50 (n := 53) rfl (by decide) (fun h2 => ?_) (fun h2 => ?_)
          · refine yy_iinc (v := nI (i + 1)) (lv' := [(3, .int (nI (i + 1))), (4, .int (k_pl σ o (s_nu (k_B σ c) (k_start σ c + i)))), (2, .int (nI (k_size σ c))), (0, .ref (a_ad A c)), (1, .ref (a_ad A o))]) F d_C_hasPairsOf_55 (n := 58) rfl 1 rfl (nI_1 _) (by decide) rfl ?_
            refine yy_goto (tgt := 17) F d_C_hasPairsOf_58 (by decide) ?_
            exact yy_sub [0, 2, 3, 4] rfl (ih (i + 1) _ (by omega) (fun j hj => by
              by_cases hji : j = i
              · subst hji
                unfold k_has
                rw [hat]
                exact decide_eq_true h2
              · exact ha j (by omega)) hS_6)
          · refine yy_iconst (v := 0) F d_C_hasPairsOf_53 (n := 54) rfl rfl ?_
            exact yy_zret F hS_6 ⟨Nat.zero_le _, Nat.zero_le _⟩ rfl rfl d_C_hasPairsOf_54 (⟨_, rfl, by rw [show k_eqp σ c o = false by unfold k_eqp; rw [decide_eq_true hz, decide_eq_false (fun q9 => h2 (by have h8 := q9 i (by omega); unfold k_has at h8; rw [hat] at h8; exact of_decide_eq_true h8))]; rfl]; rfl, rfl⟩)
    exact yy_sub [0, 1, 2, 3] rfl (loop (k_size σ c) 0 _ (by omega) (fun j hj => by omega) hS_2)
  · refine yy_iconst (v := 0) F d_C_hasPairsOf_13 (n := 14) rfl rfl ?_
    exact yy_zret F hS_2 ⟨Nat.zero_le _, Nat.zero_le _⟩ rfl rfl d_C_hasPairsOf_14 (⟨_, rfl, by rw [show k_eqp σ c o = false by unfold k_eqp; rw [decide_eq_false (fun q9 => h1 (by rw [q9]))]; rfl]; rfl, rfl⟩)
