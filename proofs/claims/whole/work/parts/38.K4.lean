/-! PART K4: calls that change -/
set_option maxRecDepth 100000 in
set_option maxHeartbeats 4000000 in
theorem c_K_set {l : Launch} {z : State} {a0 : Array Value} {D : va_G} {ca : kca} (X : kcx l z a0 D ca) {A : kA} {σ : ks} {t : Nat} (I : iv t σ) {x p y : Int32} : yy_M l z y_K_set (.code y_K_set b_K_set 5 (some .int)) ({ frames := 8, cells := 1, slots := 6, locals := 125 }) [.ref (a_k A), .int x, .int p, .int y] (ck_at D ca z A σ) (kqi D ca z A (sp_set σ x p y)) := by
  refine yy_body (plainFor_of_name (by decide)) (Nat.le_of_ble_eq_true rfl) (fun b H F hS hP hH hnm => ?_)
  cases hE : ch_fl σ x with
  | some E =>
    refine yy_aload_n F d_K_set_0 (n := 1) rfl 0 rfl ?_
    refine yy_iload_n F d_K_set_1 (n := 2) rfl 1 rfl ?_
    exact yy_ctp F hS (c_K_freshList_no X I hE) (yy_Bc F X.1 q_418 q_1) (yy_invV (nA := 1) (C := R_K) (bytes := b_K_freshList) (maxL := 3) (retY := (some (.object "ContainerKit$Container"))) F X.1 q_415 q_417 qs_K_freshList q_418 ⟨by decide, by decide, by decide +kernel⟩ (yy_recv F.N X.2.1 (ci := 5) rfl hP.k) rfl d_K_set_2) d_K_set_2 (by simp [Value.category]) ⟨by decide, by decide⟩ ⟨by decide, by decide⟩ hP (fun H1 hx => kq_no (by unfold sp_set; rw [hE]; rfl) hP hx)
  | none =>
    obtain ⟨hc, ex, hk, hs⟩ := ch_fl_none I.m10 hE
    refine yy_aload_n F d_K_set_0 (n := 1) rfl 0 rfl ?_
    refine yy_iload_n F d_K_set_1 (n := 2) rfl 1 rfl ?_
    refine yy_crr (w := (some (a_ad A (cN x)))) F hS (c_K_freshList X I hE) (yy_Bc F X.1 q_418 q_1) (yy_invV (nA := 1) (C := R_K) (bytes := b_K_freshList) (maxL := 3) (retY := (some (.object "ContainerKit$Container"))) F X.1 q_415 q_417 qs_K_freshList q_418 ⟨by decide, by decide, by decide +kernel⟩ (yy_recv F.N X.2.1 (ci := 5) rfl hP.k) rfl d_K_set_2) d_K_set_2 (n := 5) rfl (by simp [Value.category]) ⟨by decide, by decide⟩ ⟨Nat.zero_le _, Nat.zero_le _⟩ ⟨rfl, rfl⟩ hP rfl (fun _ hSw_2 => ?_)
    refine yy_astore (lv' := [(4, .ref (a_ad A (cN x))), (0, .ref (a_k A)), (1, .int x), (2, .int p), (3, .int y)]) F d_K_set_5 (n := 7) rfl (by decide) rfl ?_
    refine yy_aload F d_K_set_7 (n := 9) rfl 0 rfl ?_
    refine yy_iload_n F d_K_set_9 (n := 10) rfl 3 rfl ?_
    have h24 := I.ct hc
    have hend := I.end hc (k_fr_of hs)
    refine yy_cri (w := (ym_n (ym_inb p (k_size σ (cN x))))) F hSw_2 (c_C_isPlace (A := A) (σ := σ) (c := cN x) (p := p) X I hc) (yy_Bc F X.1 q_425 q_9) (yy_invC (nA := 1) (x := y_C_isPlace) F X hP hc q_419 q_421 (k_dec X q_420 q_425) (k_sel q_424 q_422 q_423 σ (cN x)) q_420 ⟨by decide, by decide, by decide +kernel⟩ rfl d_K_set_10) d_K_set_10 (n := 13) rfl (by simp [Value.category]) ⟨by decide, by decide⟩ ⟨Nat.zero_le _, Nat.zero_le _⟩ ⟨rfl, rfl⟩ hP rfl (fun _ hSw_3 => ?_)
    cases hp : ym_inb p (k_size σ (cN x))
    · exact yy_ctp F hSw_3 (c_K_demandThere_no X) (yy_Bc F X.1 q_429 q_1) (yy_invS (nA := 1) (bytes := b_K_demandThere) (maxL := 1) (retY := none) F X.1 q_427 q_428 q_1 q_429 ⟨by decide, by decide, by decide +kernel⟩ rfl d_K_set_13) d_K_set_13 (by simp [Value.category]) ⟨by decide, by decide⟩ ⟨by decide, by decide⟩ trivial (fun H1 hx => kq_no (by unfold sp_set; rw [hE, hp]; rfl) hP hx)
    · obtain ⟨hp1, hp2⟩ := inb_cN (by omega) hp
      refine yy_crv F hSw_3 (c_K_demandThere X) (yy_Bc F X.1 q_429 q_1) (yy_invS (nA := 1) (bytes := b_K_demandThere) (maxL := 1) (retY := none) F X.1 q_427 q_428 q_1 q_429 ⟨by decide, by decide, by decide +kernel⟩ rfl d_K_set_13) d_K_set_13 (n := 16) rfl (by simp [Value.category]) ⟨by decide, by decide⟩ ⟨Nat.zero_le _, Nat.zero_le _⟩ ⟨rfl, rfl⟩ trivial (fun _ hSw_5 => ?_)
      refine yy_aload F d_K_set_16 (n := 18) rfl 0 rfl ?_
      refine yy_iload_n F d_K_set_18 (n := 19) rfl 3 rfl ?_
      refine yy_iload_n F d_K_set_19 (n := 20) rfl 4 rfl ?_
      refine yy_ci F hSw_5 (c_C_changeNumber (A := A) (σ := σ) (c := cN x) X I hc (x := p) (y := y) (q := k_start σ (cN x) + cN p) (by rw [← nI_add, ← hp2]) (by omega)) (yy_Bc F X.1 q_475 q_9) (yy_invC (nA := 2) (x := y_C_changeNumber) F X hP hc q_469 q_471 (k_dec X q_470 q_475) (k_sel q_474 q_472 q_473 σ (cN x)) q_470 ⟨by decide, by decide, by decide +kernel⟩ rfl d_K_set_20) d_K_set_20 (n := 23) rfl (by simp [Value.category]) ⟨by decide, by decide⟩ ⟨Nat.zero_le _, Nat.zero_le _⟩ ⟨rfl, rfl⟩ hP (fun r_w_6 Hw_6 locs_w_6 qw_6 Sw_6 => ?_)
      obtain ⟨ew_6, Pw_6, kw_6⟩ := qw_6
      rw [ew_6]
      have kw_6 := kpA.rf.tr kw_6
      exact yy_iret F Sw_6 ⟨Nat.zero_le _, Nat.zero_le _⟩ rfl d_K_set_23 (kq_i (by unfold sp_set; rw [hE, hp]; rfl) Pw_6 kw_6)
set_option maxRecDepth 100000 in
set_option maxHeartbeats 4000000 in
theorem c_K_insert {l : Launch} {z : State} {a0 : Array Value} {D : va_G} {ca : kca} (X : kcx l z a0 D ca) {A : kA} {σ : ks} {t : Nat} (I : iv t σ) {x p y : Int32} : yy_M l z y_K_insert (.code y_K_insert b_K_insert 6 none) ({ frames := 8, cells := 1, slots := 6, locals := 125 }) [.ref (a_k A), .int x, .int p, .int y] (ck_at D ca z A σ) (kqv D ca z A (sp_insert σ x p y)) := by
  refine yy_body (plainFor_of_name (by decide)) (Nat.le_of_ble_eq_true rfl) (fun b H F hS hP hH hnm => ?_)
  cases hE : ch_flh σ x with
  | some E =>
    refine yy_aload_n F d_K_insert_0 (n := 1) rfl 0 rfl ?_
    refine yy_iload_n F d_K_insert_1 (n := 2) rfl 1 rfl ?_
    exact yy_ctp F hS (c_K_freshListOrHeap_no X I hE) (yy_Bc F X.1 q_491 q_1) (yy_invV (nA := 1) (C := R_K) (bytes := b_K_freshListOrHeap) (maxL := 3) (retY := (some (.object "ContainerKit$Container"))) F X.1 q_488 q_490 qs_K_freshListOrHeap q_491 ⟨by decide, by decide, by decide +kernel⟩ (yy_recv F.N X.2.1 (ci := 5) rfl hP.k) rfl d_K_insert_2) d_K_insert_2 (by simp [Value.category]) ⟨by decide, by decide⟩ ⟨by decide, by decide⟩ hP (fun H1 hx => kq_no (by unfold sp_insert; rw [hE]; rfl) hP hx)
  | none =>
    obtain ⟨hc, ex, hk, hs⟩ := ch_flh_none I.m10 hE
    refine yy_aload_n F d_K_insert_0 (n := 1) rfl 0 rfl ?_
    refine yy_iload_n F d_K_insert_1 (n := 2) rfl 1 rfl ?_
    refine yy_crr (w := (some (a_ad A (cN x)))) F hS (c_K_freshListOrHeap X I hE) (yy_Bc F X.1 q_491 q_1) (yy_invV (nA := 1) (C := R_K) (bytes := b_K_freshListOrHeap) (maxL := 3) (retY := (some (.object "ContainerKit$Container"))) F X.1 q_488 q_490 qs_K_freshListOrHeap q_491 ⟨by decide, by decide, by decide +kernel⟩ (yy_recv F.N X.2.1 (ci := 5) rfl hP.k) rfl d_K_insert_2) d_K_insert_2 (n := 5) rfl (by simp [Value.category]) ⟨by decide, by decide⟩ ⟨Nat.zero_le _, Nat.zero_le _⟩ ⟨rfl, rfl⟩ hP rfl (fun _ hSw_2 => ?_)
    refine yy_astore (lv' := [(4, .ref (a_ad A (cN x))), (0, .ref (a_k A)), (1, .int x), (2, .int p), (3, .int y)]) F d_K_insert_5 (n := 7) rfl (by decide) rfl ?_
    refine yy_aload F d_K_insert_7 (n := 9) rfl 0 rfl ?_
    refine cr_kind F X g_K_71_G g_K_71_P g_K_71_R hP hc d_K_insert_9 (n := 12) rfl ?_
    refine yy_iconst (v := 5) F d_K_insert_12 (n := 13) rfl rfl ?_
    have h24 := I.ct hc
    have hend := I.end hc (k_fr_of hs)
    refine yy_ic_ne (tgt := 20) F d_K_insert_13 (n := 16) rfl (by decide) (fun h5 => ?_) (fun h5 => ?_)
    · refine yy_iconst (v := 0) F d_K_insert_20 (n := 21) rfl rfl ?_
      refine yy_istore (lv' := [(5, .int 0), (4, .ref (a_ad A (cN x))), (0, .ref (a_k A)), (1, .int x), (2, .int p), (3, .int y)]) F d_K_insert_21 (n := 23) rfl (by decide) rfl ?_
      refine yy_iload F d_K_insert_23 (n := 25) rfl 0 rfl ?_
      refine yy_if_ne_f (tgt := 41) F d_K_insert_25 (n := 28) rfl (by decide) rfl ?_
      refine yy_iload_n F d_K_insert_28 (n := 29) rfl 4 rfl ?_
      refine yy_if_lt (tgt := 45) F d_K_insert_29 (n := 32) rfl (by decide) (fun h0 => ?_) (fun h0 => ?_)
      · refine yy_iconst (v := 0) F d_K_insert_45 (n := 46) rfl rfl ?_
        exact yy_ctp F hSw_2 (c_K_demandThere_no X) (yy_Bc F X.1 q_429 q_1) (yy_invS (nA := 1) (bytes := b_K_demandThere) (maxL := 1) (retY := none) F X.1 q_427 q_428 q_1 q_429 ⟨by decide, by decide, by decide +kernel⟩ rfl d_K_insert_46) d_K_insert_46 (by simp [Value.category]) ⟨by decide, by decide⟩ ⟨by decide, by decide⟩ trivial (fun H1 hx => kq_no (by unfold sp_insert; rw [hE, show k_toi σ (cN x) p = false by simp [k_toi, h5, h0]]; rfl) hP hx)
      · refine yy_iload_n F d_K_insert_32 (n := 33) rfl 4 rfl ?_
        refine yy_aload F d_K_insert_33 (n := 35) rfl 1 rfl ?_
        refine vd_count F X I hc hP hSw_2 q_312 ⟨by decide, by decide⟩ (by simp [Value.category]) d_K_insert_35 (n := 38) rfl ⟨Nat.zero_le _, Nat.zero_le _⟩ (fun _ hS_4 => ?_)
        refine yy_ic_gt (tgt := 45) F d_K_insert_38 (n := 41) rfl (by decide) (fun h1 => ?_) (fun h1 => ?_)
        · refine yy_iconst (v := 0) F d_K_insert_45 (n := 46) rfl rfl ?_
          exact yy_ctp F hS_4 (c_K_demandThere_no X) (yy_Bc F X.1 q_429 q_1) (yy_invS (nA := 1) (bytes := b_K_demandThere) (maxL := 1) (retY := none) F X.1 q_427 q_428 q_1 q_429 ⟨by decide, by decide, by decide +kernel⟩ rfl d_K_insert_46) d_K_insert_46 (by simp [Value.category]) ⟨by decide, by decide⟩ ⟨by decide, by decide⟩ trivial (fun H1 hx => kq_no (by unfold sp_insert; rw [hE, show k_toi σ (cN x) p = false by simp [k_toi, h5, h1]]; rfl) hP hx)
        · have htoi : k_toi σ (cN x) p = true := by simp [k_toi, h0, h1]
          obtain ⟨hp1, hp2⟩ := le_cN (by omega) h0 h1
          have hins : k_ins σ (cN x) p y = k_start σ (cN x) + cN p := if_neg h5
          refine yy_iconst (v := 1) F d_K_insert_41 (n := 42) rfl rfl ?_
          refine yy_goto (tgt := 46) F d_K_insert_42 (by decide) ?_
          refine yy_crv F hS_4 (c_K_demandThere X) (yy_Bc F X.1 q_429 q_1) (yy_invS (nA := 1) (bytes := b_K_demandThere) (maxL := 1) (retY := none) F X.1 q_427 q_428 q_1 q_429 ⟨by decide, by decide, by decide +kernel⟩ rfl d_K_insert_46) d_K_insert_46 (n := 49) rfl (by simp [Value.category]) ⟨by decide, by decide⟩ ⟨Nat.zero_le _, Nat.zero_le _⟩ ⟨rfl, rfl⟩ trivial (fun _ hSw_6 => ?_)
          refine yy_aload F d_K_insert_49 (n := 51) rfl 1 rfl ?_
          refine cr_store F X g_K_95_G g_K_95_P g_K_95_R hP hc d_K_insert_51 (n := 54) rfl ?_
          cases hsp : decide (24 ≤ s_ct (k_B σ (cN x)))
          · have h24s := of_decide_eq_false hsp
            refine yy_crv F hSw_6 (c_K_demandSpace X I hc h24s) (yy_Bc F X.1 q_494 q_1) (yy_invS (nA := 1) (bytes := b_K_demandSpace) (maxL := 1) (retY := none) F X.1 q_492 q_493 q_1 q_494 ⟨by decide, by decide, by decide +kernel⟩ rfl d_K_insert_54) d_K_insert_54 (n := 57) rfl (by simp [Value.category]) ⟨by decide, by decide⟩ ⟨Nat.zero_le _, Nat.zero_le _⟩ ⟨rfl, rfl⟩ hP (fun _ hSw_7 => ?_)
            refine yy_aload F d_K_insert_57 (n := 59) rfl 1 rfl ?_
            refine yy_iload F d_K_insert_59 (n := 61) rfl 0 rfl ?_
            refine yy_if_eq_t (tgt := 77) F d_K_insert_61 (by decide) rfl ?_
            refine yy_iload_n F d_K_insert_77 (n := 78) rfl 4 rfl ?_
            refine yy_iload_n F d_K_insert_78 (n := 79) rfl 5 rfl ?_
            refine yy_cv F hSw_7 (c_C_bring (A := A) (σ := σ) (c := cN x) X I hc (x := p) (y := y) (q := k_start σ (cN x) + cN p) (by rw [← nI_add, ← hp2]) (by omega) (by omega)) (yy_Bc F X.1 q_507 q_9) (yy_invC (nA := 2) (x := y_C_bring) F X hP hc q_501 q_503 (k_dec X q_502 q_507) (k_sel q_506 q_504 q_505 σ (cN x)) q_502 ⟨by decide, by decide, by decide +kernel⟩ rfl d_K_insert_79) d_K_insert_79 (n := 82) rfl (by simp [Value.category]) ⟨by decide, by decide⟩ ⟨Nat.zero_le _, Nat.zero_le _⟩ ⟨rfl, rfl⟩ hP (fun Hw_8 locs_w_8 qw_8 Sw_8 => ?_)
            obtain ⟨Pw_8, kw_8⟩ := qw_8
            have kw_8 := kpA.rf.tr kw_8
            exact yy_vret F Sw_8 ⟨Nat.zero_le _, Nat.zero_le _⟩ rfl d_K_insert_82 (kq_v (v := 0) (by unfold sp_insert; rw [hE, htoi, hsp, hins]; rfl) Pw_8 kw_8)
          · have h24 := of_decide_eq_true hsp
            exact yy_ctp F hSw_6 (c_K_demandSpace_no X I hc h24) (yy_Bc F X.1 q_494 q_1) (yy_invS (nA := 1) (bytes := b_K_demandSpace) (maxL := 1) (retY := none) F X.1 q_492 q_493 q_1 q_494 ⟨by decide, by decide, by decide +kernel⟩ rfl d_K_insert_54) d_K_insert_54 (by simp [Value.category]) ⟨by decide, by decide⟩ ⟨by decide, by decide⟩ hP (fun H1 hx => kq_no (by unfold sp_insert; rw [hE, htoi, hsp]; rfl) hP hx)
    · have htoi : k_toi σ (cN x) p = true := by simp [k_toi, h5]
      have hst : k_start σ (cN x) = 0 := k_start0 (fun q => absurd (h5.symm.trans q) (by decide)) (fun q => absurd (h5.symm.trans q) (by decide))
      have hins : k_ins σ (cN x) p y = ym_cnt (ym_bel (s_nu (k_B σ (cN x))) y 1) (s_ct (k_B σ (cN x))) := if_pos h5
      have hcn := ym_cnt_le (ym_bel (s_nu (k_B σ (cN x))) y 1) (s_ct (k_B σ (cN x)))
      refine yy_iconst (v := 1) F d_K_insert_16 (n := 17) rfl rfl ?_
      refine yy_goto (tgt := 21) F d_K_insert_17 (by decide) ?_
      refine yy_istore (lv' := [(5, .int 1), (4, .ref (a_ad A (cN x))), (0, .ref (a_k A)), (1, .int x), (2, .int p), (3, .int y)]) F d_K_insert_21 (n := 23) rfl (by decide) rfl ?_
      refine yy_iload F d_K_insert_23 (n := 25) rfl 0 rfl ?_
      refine yy_if_ne_t (tgt := 41) F d_K_insert_25 (by decide) (by decide) ?_
      refine yy_iconst (v := 1) F d_K_insert_41 (n := 42) rfl rfl ?_
      refine yy_goto (tgt := 46) F d_K_insert_42 (by decide) ?_
      refine yy_crv F hSw_2 (c_K_demandThere X) (yy_Bc F X.1 q_429 q_1) (yy_invS (nA := 1) (bytes := b_K_demandThere) (maxL := 1) (retY := none) F X.1 q_427 q_428 q_1 q_429 ⟨by decide, by decide, by decide +kernel⟩ rfl d_K_insert_46) d_K_insert_46 (n := 49) rfl (by simp [Value.category]) ⟨by decide, by decide⟩ ⟨Nat.zero_le _, Nat.zero_le _⟩ ⟨rfl, rfl⟩ trivial (fun _ hSw_10 => ?_)
      refine yy_aload F d_K_insert_49 (n := 51) rfl 1 rfl ?_
      refine cr_store F X g_K_95_G g_K_95_P g_K_95_R hP hc d_K_insert_51 (n := 54) rfl ?_
      cases hsp : decide (24 ≤ s_ct (k_B σ (cN x)))
      · have h24s := of_decide_eq_false hsp
        refine yy_crv F hSw_10 (c_K_demandSpace X I hc h24s) (yy_Bc F X.1 q_494 q_1) (yy_invS (nA := 1) (bytes := b_K_demandSpace) (maxL := 1) (retY := none) F X.1 q_492 q_493 q_1 q_494 ⟨by decide, by decide, by decide +kernel⟩ rfl d_K_insert_54) d_K_insert_54 (n := 57) rfl (by simp [Value.category]) ⟨by decide, by decide⟩ ⟨Nat.zero_le _, Nat.zero_le _⟩ ⟨rfl, rfl⟩ hP (fun _ hSw_11 => ?_)
        refine yy_aload F d_K_insert_57 (n := 59) rfl 1 rfl ?_
        refine yy_iload F d_K_insert_59 (n := 61) rfl 0 rfl ?_
        refine yy_if_eq_f (tgt := 77) F d_K_insert_61 (n := 64) rfl (by decide) (by decide) ?_
        refine yy_aload F d_K_insert_64 (n := 66) rfl 1 rfl ?_
        refine cr_store F X g_K_95_G g_K_95_P g_K_95_R hP hc d_K_insert_66 (n := 69) rfl ?_
        refine yy_iload_n F d_K_insert_69 (n := 70) rfl 5 rfl ?_
        refine yy_iconst (v := 1) F d_K_insert_70 (n := 71) rfl rfl ?_
        refine yy_cri (w := (nI (ym_cnt (ym_bel (s_nu (k_B σ (cN x))) y 1) (s_ct (k_B σ (cN x)))))) F hSw_11 (c_S_placesBefore (x := y) (e := 1) X (I.ct hc)) (yy_Bc F X.1 q_324 q_11) (yy_invV (nA := 2) (C := R_S) (bytes := b_S_placesBefore) (maxL := 5) (retY := (some .int)) F X.1 q_500 q_322 q_323 q_324 ⟨by decide, by decide, by decide +kernel⟩ (yy_recv F.N X.2.1 (ci := 0) rfl (hP.sc hc).1) rfl d_K_insert_71) d_K_insert_71 (n := 74) rfl (by simp [Value.category]) ⟨by decide, by decide⟩ ⟨Nat.zero_le _, Nat.zero_le _⟩ ⟨rfl, rfl⟩ (hP.sc hc) rfl (fun _ hSw_12 => ?_)
        refine yy_goto (tgt := 78) F d_K_insert_74 (by decide) ?_
        refine yy_iload_n F d_K_insert_78 (n := 79) rfl 5 rfl ?_
        refine yy_cv F hSw_12 (c_C_bring (A := A) (σ := σ) (c := cN x) X I hc (x := nI (ym_cnt (ym_bel (s_nu (k_B σ (cN x))) y 1) (s_ct (k_B σ (cN x))))) (y := y) (q := ym_cnt (ym_bel (s_nu (k_B σ (cN x))) y 1) (s_ct (k_B σ (cN x)))) (by rw [nI_add, hst, Nat.zero_add]) hcn (by omega)) (yy_Bc F X.1 q_507 q_9) (yy_invC (nA := 2) (x := y_C_bring) F X hP hc q_501 q_503 (k_dec X q_502 q_507) (k_sel q_506 q_504 q_505 σ (cN x)) q_502 ⟨by decide, by decide, by decide +kernel⟩ rfl d_K_insert_79) d_K_insert_79 (n := 82) rfl (by simp [Value.category]) ⟨by decide, by decide⟩ ⟨Nat.zero_le _, Nat.zero_le _⟩ ⟨rfl, rfl⟩ hP (fun Hw_13 locs_w_13 qw_13 Sw_13 => ?_)
        obtain ⟨Pw_13, kw_13⟩ := qw_13
        have kw_13 := kpA.rf.tr kw_13
        exact yy_vret F Sw_13 ⟨Nat.zero_le _, Nat.zero_le _⟩ rfl d_K_insert_82 (kq_v (v := 0) (by unfold sp_insert; rw [hE, htoi, hsp, hins]; rfl) Pw_13 kw_13)
      · have h24 := of_decide_eq_true hsp
        exact yy_ctp F hSw_10 (c_K_demandSpace_no X I hc h24) (yy_Bc F X.1 q_494 q_1) (yy_invS (nA := 1) (bytes := b_K_demandSpace) (maxL := 1) (retY := none) F X.1 q_492 q_493 q_1 q_494 ⟨by decide, by decide, by decide +kernel⟩ rfl d_K_insert_54) d_K_insert_54 (by simp [Value.category]) ⟨by decide, by decide⟩ ⟨by decide, by decide⟩ hP (fun H1 hx => kq_no (by unfold sp_insert; rw [hE, htoi, hsp]; rfl) hP hx)
set_option maxRecDepth 100000 in
set_option maxHeartbeats 4000000 in
theorem c_K_remove {l : Launch} {z : State} {a0 : Array Value} {D : va_G} {ca : kca} (X : kcx l z a0 D ca) {A : kA} {σ : ks} {t : Nat} (I : iv t σ) {x p : Int32} : yy_M l z y_K_remove (.code y_K_remove b_K_remove 5 (some .int)) ({ frames := 8, cells := 1, slots := 6, locals := 125 }) [.ref (a_k A), .int x, .int p] (ck_at D ca z A σ) (kqi D ca z A (sp_remove σ x p)) := by
  refine yy_body (plainFor_of_name (by decide)) (Nat.le_of_ble_eq_true rfl) (fun b H F hS hP hH hnm => ?_)
  cases hE : ch_flh σ x with
  | some E =>
    refine yy_aload_n F d_K_remove_0 (n := 1) rfl 0 rfl ?_
    refine yy_iload_n F d_K_remove_1 (n := 2) rfl 1 rfl ?_
    exact yy_ctp F hS (c_K_freshListOrHeap_no X I hE) (yy_Bc F X.1 q_491 q_1) (yy_invV (nA := 1) (C := R_K) (bytes := b_K_freshListOrHeap) (maxL := 3) (retY := (some (.object "ContainerKit$Container"))) F X.1 q_488 q_490 qs_K_freshListOrHeap q_491 ⟨by decide, by decide, by decide +kernel⟩ (yy_recv F.N X.2.1 (ci := 5) rfl hP.k) rfl d_K_remove_2) d_K_remove_2 (by simp [Value.category]) ⟨by decide, by decide⟩ ⟨by decide, by decide⟩ hP (fun H1 hx => kq_no (by unfold sp_remove; rw [hE]; rfl) hP hx)
  | none =>
    obtain ⟨hc, ex, hk, hs⟩ := ch_flh_none I.m10 hE
    refine yy_aload_n F d_K_remove_0 (n := 1) rfl 0 rfl ?_
    refine yy_iload_n F d_K_remove_1 (n := 2) rfl 1 rfl ?_
    refine yy_crr (w := (some (a_ad A (cN x)))) F hS (c_K_freshListOrHeap X I hE) (yy_Bc F X.1 q_491 q_1) (yy_invV (nA := 1) (C := R_K) (bytes := b_K_freshListOrHeap) (maxL := 3) (retY := (some (.object "ContainerKit$Container"))) F X.1 q_488 q_490 qs_K_freshListOrHeap q_491 ⟨by decide, by decide, by decide +kernel⟩ (yy_recv F.N X.2.1 (ci := 5) rfl hP.k) rfl d_K_remove_2) d_K_remove_2 (n := 5) rfl (by simp [Value.category]) ⟨by decide, by decide⟩ ⟨Nat.zero_le _, Nat.zero_le _⟩ ⟨rfl, rfl⟩ hP rfl (fun _ hSw_2 => ?_)
    refine yy_astore_n (lv' := [(3, .ref (a_ad A (cN x))), (0, .ref (a_k A)), (1, .int x), (2, .int p)]) F d_K_remove_5 (n := 6) rfl (by decide) rfl ?_
    refine yy_aload_n F d_K_remove_6 (n := 7) rfl 0 rfl ?_
    refine cr_kind F X g_K_71_G g_K_71_P g_K_71_R hP hc d_K_remove_7 (n := 10) rfl ?_
    refine yy_iconst (v := 5) F d_K_remove_10 (n := 11) rfl rfl ?_
    have h24 := I.ct hc
    have hend := I.end hc (k_fr_of hs)
    refine yy_ic_ne (tgt := 18) F d_K_remove_11 (n := 14) rfl (by decide) (fun h5 => ?_) (fun h5 => ?_)
    · refine yy_iload_n F d_K_remove_18 (n := 19) rfl 3 rfl ?_
      refine yy_istore (lv' := [(4, .int p), (3, .ref (a_ad A (cN x))), (0, .ref (a_k A)), (1, .int x), (2, .int p)]) F d_K_remove_19 (n := 21) rfl (by decide) rfl ?_
      refine yy_aload_n F d_K_remove_21 (n := 22) rfl 1 rfl ?_
      refine yy_iload F d_K_remove_22 (n := 24) rfl 0 rfl ?_
      have hwh : k_whe σ (cN x) p = p := if_neg h5
      rw [← hwh]
      refine yy_cri (w := (ym_n (ym_inb (k_whe σ (cN x) p) (k_size σ (cN x))))) F hSw_2 (c_C_isPlace (A := A) (σ := σ) (c := cN x) (p := k_whe σ (cN x) p) X I hc) (yy_Bc F X.1 q_425 q_9) (yy_invC (nA := 1) (x := y_C_isPlace) F X hP hc q_419 q_421 (k_dec X q_420 q_425) (k_sel q_424 q_422 q_423 σ (cN x)) q_420 ⟨by decide, by decide, by decide +kernel⟩ rfl d_K_remove_24) d_K_remove_24 (n := 27) rfl (by simp [Value.category]) ⟨by decide, by decide⟩ ⟨Nat.zero_le _, Nat.zero_le _⟩ ⟨rfl, rfl⟩ hP rfl (fun _ hSw_3 => ?_)
      cases hp : ym_inb (k_whe σ (cN x) p) (k_size σ (cN x))
      · exact yy_ctp F hSw_3 (c_K_demandThere_no X) (yy_Bc F X.1 q_429 q_1) (yy_invS (nA := 1) (bytes := b_K_demandThere) (maxL := 1) (retY := none) F X.1 q_427 q_428 q_1 q_429 ⟨by decide, by decide, by decide +kernel⟩ rfl d_K_remove_27) d_K_remove_27 (by simp [Value.category]) ⟨by decide, by decide⟩ ⟨by decide, by decide⟩ trivial (fun H1 hx => kq_no (by unfold sp_remove; rw [hE, hp]; rfl) hP hx)
      · obtain ⟨hp1, hp2⟩ := inb_cN (by omega) hp
        refine yy_crv F hSw_3 (c_K_demandThere X) (yy_Bc F X.1 q_429 q_1) (yy_invS (nA := 1) (bytes := b_K_demandThere) (maxL := 1) (retY := none) F X.1 q_427 q_428 q_1 q_429 ⟨by decide, by decide, by decide +kernel⟩ rfl d_K_remove_27) d_K_remove_27 (n := 30) rfl (by simp [Value.category]) ⟨by decide, by decide⟩ ⟨Nat.zero_le _, Nat.zero_le _⟩ ⟨rfl, rfl⟩ trivial (fun _ hSw_5 => ?_)
        refine yy_aload_n F d_K_remove_30 (n := 31) rfl 1 rfl ?_
        refine yy_iload F d_K_remove_31 (n := 33) rfl 0 rfl ?_
        have h1t : k_kd σ (cN x) = 6 → 1 ≤ k_ln σ (cN x) := fun q => by rw [← k_size6 q]; omega
        refine yy_ci F hSw_5 (c_C_take (A := A) (σ := σ) (c := cN x) X I hc (x := k_whe σ (cN x) p) (q := k_start σ (cN x) + cN (k_whe σ (cN x) p)) (by rw [← nI_add, ← hp2]) (by omega) (k_fr_of hs) h1t) (yy_Bc F X.1 q_535 q_9) (yy_invC (nA := 1) (x := y_C_take) F X hP hc q_529 q_531 (k_dec X q_530 q_535) (k_sel q_534 q_532 q_533 σ (cN x)) q_530 ⟨by decide, by decide, by decide +kernel⟩ rfl d_K_remove_33) d_K_remove_33 (n := 36) rfl (by simp [Value.category]) ⟨by decide, by decide⟩ ⟨Nat.zero_le _, Nat.zero_le _⟩ ⟨rfl, rfl⟩ hP (fun r_w_6 Hw_6 locs_w_6 qw_6 Sw_6 => ?_)
        obtain ⟨ew_6, Pw_6, kw_6⟩ := qw_6
        rw [ew_6]
        have kw_6 := kpA.rf.tr kw_6
        exact yy_iret F Sw_6 ⟨Nat.zero_le _, Nat.zero_le _⟩ rfl d_K_remove_36 (kq_i (by unfold sp_remove; rw [hE, hp]; rfl) Pw_6 kw_6)
    · refine yy_iconst (v := 0) F d_K_remove_14 (n := 15) rfl rfl ?_
      refine yy_goto (tgt := 19) F d_K_remove_15 (by decide) ?_
      refine yy_istore (lv' := [(4, .int 0), (3, .ref (a_ad A (cN x))), (0, .ref (a_k A)), (1, .int x), (2, .int p)]) F d_K_remove_19 (n := 21) rfl (by decide) rfl ?_
      refine yy_aload_n F d_K_remove_21 (n := 22) rfl 1 rfl ?_
      refine yy_iload F d_K_remove_22 (n := 24) rfl 0 rfl ?_
      have hwh : k_whe σ (cN x) p = 0 := if_pos h5
      rw [← hwh]
      refine yy_cri (w := (ym_n (ym_inb (k_whe σ (cN x) p) (k_size σ (cN x))))) F hSw_2 (c_C_isPlace (A := A) (σ := σ) (c := cN x) (p := k_whe σ (cN x) p) X I hc) (yy_Bc F X.1 q_425 q_9) (yy_invC (nA := 1) (x := y_C_isPlace) F X hP hc q_419 q_421 (k_dec X q_420 q_425) (k_sel q_424 q_422 q_423 σ (cN x)) q_420 ⟨by decide, by decide, by decide +kernel⟩ rfl d_K_remove_24) d_K_remove_24 (n := 27) rfl (by simp [Value.category]) ⟨by decide, by decide⟩ ⟨Nat.zero_le _, Nat.zero_le _⟩ ⟨rfl, rfl⟩ hP rfl (fun _ hSw_7 => ?_)
      cases hp : ym_inb (k_whe σ (cN x) p) (k_size σ (cN x))
      · exact yy_ctp F hSw_7 (c_K_demandThere_no X) (yy_Bc F X.1 q_429 q_1) (yy_invS (nA := 1) (bytes := b_K_demandThere) (maxL := 1) (retY := none) F X.1 q_427 q_428 q_1 q_429 ⟨by decide, by decide, by decide +kernel⟩ rfl d_K_remove_27) d_K_remove_27 (by simp [Value.category]) ⟨by decide, by decide⟩ ⟨by decide, by decide⟩ trivial (fun H1 hx => kq_no (by unfold sp_remove; rw [hE, hp]; rfl) hP hx)
      · obtain ⟨hp1, hp2⟩ := inb_cN (by omega) hp
        refine yy_crv F hSw_7 (c_K_demandThere X) (yy_Bc F X.1 q_429 q_1) (yy_invS (nA := 1) (bytes := b_K_demandThere) (maxL := 1) (retY := none) F X.1 q_427 q_428 q_1 q_429 ⟨by decide, by decide, by decide +kernel⟩ rfl d_K_remove_27) d_K_remove_27 (n := 30) rfl (by simp [Value.category]) ⟨by decide, by decide⟩ ⟨Nat.zero_le _, Nat.zero_le _⟩ ⟨rfl, rfl⟩ trivial (fun _ hSw_9 => ?_)
        refine yy_aload_n F d_K_remove_30 (n := 31) rfl 1 rfl ?_
        refine yy_iload F d_K_remove_31 (n := 33) rfl 0 rfl ?_
        have h1t : k_kd σ (cN x) = 6 → 1 ≤ k_ln σ (cN x) := fun q => by rw [← k_size6 q]; omega
        refine yy_ci F hSw_9 (c_C_take (A := A) (σ := σ) (c := cN x) X I hc (x := k_whe σ (cN x) p) (q := k_start σ (cN x) + cN (k_whe σ (cN x) p)) (by rw [← nI_add, ← hp2]) (by omega) (k_fr_of hs) h1t) (yy_Bc F X.1 q_535 q_9) (yy_invC (nA := 1) (x := y_C_take) F X hP hc q_529 q_531 (k_dec X q_530 q_535) (k_sel q_534 q_532 q_533 σ (cN x)) q_530 ⟨by decide, by decide, by decide +kernel⟩ rfl d_K_remove_33) d_K_remove_33 (n := 36) rfl (by simp [Value.category]) ⟨by decide, by decide⟩ ⟨Nat.zero_le _, Nat.zero_le _⟩ ⟨rfl, rfl⟩ hP (fun r_w_10 Hw_10 locs_w_10 qw_10 Sw_10 => ?_)
        obtain ⟨ew_10, Pw_10, kw_10⟩ := qw_10
        rw [ew_10]
        have kw_10 := kpA.rf.tr kw_10
        exact yy_iret F Sw_10 ⟨Nat.zero_le _, Nat.zero_le _⟩ rfl d_K_remove_36 (kq_i (by unfold sp_remove; rw [hE, hp]; rfl) Pw_10 kw_10)
set_option maxRecDepth 100000 in
set_option maxHeartbeats 4000000 in
theorem c_K_sort {l : Launch} {z : State} {a0 : Array Value} {D : va_G} {ca : kca} (X : kcx l z a0 D ca) {A : kA} {σ : ks} {t : Nat} (I : iv t σ) {x how : Int32} : yy_M l z y_K_sort (.code y_K_sort b_K_sort 4 none) ({ frames := 8, cells := 1, slots := 6, locals := 125 }) [.ref (a_k A), .int x, .int how] (ck_at D ca z A σ) (kqv D ca z A (sp_sort σ x how)) := by
  refine yy_body (plainFor_of_name (by decide)) (Nat.le_of_ble_eq_true rfl) (fun b H F hS hP hH hnm => ?_)
  cases hE : ch_fl σ x with
  | some E =>
    refine yy_aload_n F d_K_sort_0 (n := 1) rfl 0 rfl ?_
    refine yy_iload_n F d_K_sort_1 (n := 2) rfl 1 rfl ?_
    exact yy_ctp F hS (c_K_freshList_no X I hE) (yy_Bc F X.1 q_418 q_1) (yy_invV (nA := 1) (C := R_K) (bytes := b_K_freshList) (maxL := 3) (retY := (some (.object "ContainerKit$Container"))) F X.1 q_415 q_417 qs_K_freshList q_418 ⟨by decide, by decide, by decide +kernel⟩ (yy_recv F.N X.2.1 (ci := 5) rfl hP.k) rfl d_K_sort_2) d_K_sort_2 (by simp [Value.category]) ⟨by decide, by decide⟩ ⟨by decide, by decide⟩ hP (fun H1 hx => kq_no (by unfold sp_sort; rw [hE]; rfl) hP hx)
  | none =>
    obtain ⟨hc, ex, hk, hs⟩ := ch_fl_none I.m10 hE
    refine yy_aload_n F d_K_sort_0 (n := 1) rfl 0 rfl ?_
    refine yy_iload_n F d_K_sort_1 (n := 2) rfl 1 rfl ?_
    refine yy_crr (w := (some (a_ad A (cN x)))) F hS (c_K_freshList X I hE) (yy_Bc F X.1 q_418 q_1) (yy_invV (nA := 1) (C := R_K) (bytes := b_K_freshList) (maxL := 3) (retY := (some (.object "ContainerKit$Container"))) F X.1 q_415 q_417 qs_K_freshList q_418 ⟨by decide, by decide, by decide +kernel⟩ (yy_recv F.N X.2.1 (ci := 5) rfl hP.k) rfl d_K_sort_2) d_K_sort_2 (n := 5) rfl (by simp [Value.category]) ⟨by decide, by decide⟩ ⟨Nat.zero_le _, Nat.zero_le _⟩ ⟨rfl, rfl⟩ hP rfl (fun _ hSw_2 => ?_)
    refine yy_astore_n (lv' := [(3, .ref (a_ad A (cN x))), (0, .ref (a_k A)), (1, .int x), (2, .int how)]) F d_K_sort_5 (n := 6) rfl (by decide) rfl ?_
    refine yy_iload_n F d_K_sort_6 (n := 7) rfl 3 rfl ?_
    refine yy_if_lt (tgt := 19) F d_K_sort_7 (n := 10) rfl (by decide) (fun h0 => ?_) (fun h0 => ?_)
    · refine yy_iconst (v := 0) F d_K_sort_19 (n := 20) rfl rfl ?_
      exact yy_ctp F hSw_2 (c_K_demandArgument_no X) (yy_Bc F X.1 q_72 q_1) (yy_invS (nA := 1) (bytes := b_K_demandArgument) (maxL := 1) (retY := none) F X.1 q_70 q_71 q_1 q_72 ⟨by decide, by decide, by decide +kernel⟩ rfl d_K_sort_20) d_K_sort_20 (by simp [Value.category]) ⟨by decide, by decide⟩ ⟨by decide, by decide⟩ trivial (fun H1 hx => kq_no (by unfold sp_sort; rw [hE, show k_btw how 2 = false by simp [k_btw, h0]]; rfl) hP hx)
    · refine yy_iload_n F d_K_sort_10 (n := 11) rfl 3 rfl ?_
      refine yy_iconst (v := 2) F d_K_sort_11 (n := 12) rfl rfl ?_
      refine yy_ic_gt (tgt := 19) F d_K_sort_12 (n := 15) rfl (by decide) (fun h1 => ?_) (fun h1 => ?_)
      · refine yy_iconst (v := 0) F d_K_sort_19 (n := 20) rfl rfl ?_
        exact yy_ctp F hSw_2 (c_K_demandArgument_no X) (yy_Bc F X.1 q_72 q_1) (yy_invS (nA := 1) (bytes := b_K_demandArgument) (maxL := 1) (retY := none) F X.1 q_70 q_71 q_1 q_72 ⟨by decide, by decide, by decide +kernel⟩ rfl d_K_sort_20) d_K_sort_20 (by simp [Value.category]) ⟨by decide, by decide⟩ ⟨by decide, by decide⟩ trivial (fun H1 hx => kq_no (by unfold sp_sort; rw [hE, show k_btw how 2 = false by simp [k_btw, h1]]; rfl) hP hx)
      · have hb : k_btw how 2 = true := by simp [k_btw, h0, h1]
        refine yy_iconst (v := 1) F d_K_sort_15 (n := 16) rfl rfl ?_
        refine yy_goto (tgt := 20) F d_K_sort_16 (by decide) ?_
        refine yy_crv F hSw_2 (c_K_demandArgument X) (yy_Bc F X.1 q_72 q_1) (yy_invS (nA := 1) (bytes := b_K_demandArgument) (maxL := 1) (retY := none) F X.1 q_70 q_71 q_1 q_72 ⟨by decide, by decide, by decide +kernel⟩ rfl d_K_sort_20) d_K_sort_20 (n := 23) rfl (by simp [Value.category]) ⟨by decide, by decide⟩ ⟨Nat.zero_le _, Nat.zero_le _⟩ ⟨rfl, rfl⟩ trivial (fun _ hSw_5 => ?_)
        refine yy_aload_n F d_K_sort_23 (n := 24) rfl 0 rfl ?_
        refine yy_iload_n F d_K_sort_24 (n := 25) rfl 3 rfl ?_
        refine yy_cv F hSw_5 (c_C_arrange (A := A) (σ := σ) (c := cN x) X I hc (how := how) (k_fr_of hs)) (yy_Bc F X.1 q_557 q_9) (yy_invC (nA := 1) (x := y_C_arrange) F X hP hc q_551 q_553 (k_dec X q_552 q_557) (k_sel q_556 q_554 q_555 σ (cN x)) q_552 ⟨by decide, by decide, by decide +kernel⟩ rfl d_K_sort_25) d_K_sort_25 (n := 28) rfl (by simp [Value.category]) ⟨by decide, by decide⟩ ⟨Nat.zero_le _, Nat.zero_le _⟩ ⟨rfl, rfl⟩ hP (fun Hw_6 locs_w_6 qw_6 Sw_6 => ?_)
        obtain ⟨Pw_6, kw_6⟩ := qw_6
        have kw_6 := kpA.rf.tr kw_6
        exact yy_vret F Sw_6 ⟨Nat.zero_le _, Nat.zero_le _⟩ rfl d_K_sort_28 (kq_v (v := 0) (by unfold sp_sort; rw [hE, hb]; rfl) Pw_6 kw_6)
set_option maxRecDepth 100000 in
set_option maxHeartbeats 4000000 in
theorem c_K_put {l : Launch} {z : State} {a0 : Array Value} {D : va_G} {ca : kca} (X : kcx l z a0 D ca) {A : kA} {σ : ks} {t : Nat} (I : iv t σ) {x key v : Int32} : yy_M l z y_K_put (.code y_K_put b_K_put 6 (some .boolean)) ({ frames := 8, cells := 1, slots := 6, locals := 125 }) [.ref (a_k A), .int x, .int key, .int v] (ck_at D ca z A σ) (kqi D ca z A (sp_put σ x key v)) := by
  refine yy_body (plainFor_of_name (by decide)) (Nat.le_of_ble_eq_true rfl) (fun b H F hS hP hH hnm => ?_)
  cases hE : ch_map σ x with
  | some E =>
    refine yy_aload_n F d_K_put_0 (n := 1) rfl 0 rfl ?_
    refine yy_iload_n F d_K_put_1 (n := 2) rfl 1 rfl ?_
    exact yy_ctp F hS (c_K_mapAt_no X I hE) (yy_Bc F X.1 q_580 q_1) (yy_invV (nA := 1) (C := R_K) (bytes := b_K_mapAt) (maxL := 3) (retY := (some (.object "ContainerKit$Container"))) F X.1 q_577 q_579 qs_K_mapAt q_580 ⟨by decide, by decide, by decide +kernel⟩ (yy_recv F.N X.2.1 (ci := 5) rfl hP.k) rfl d_K_put_2) d_K_put_2 (by simp [Value.category]) ⟨by decide, by decide⟩ ⟨by decide, by decide⟩ hP (fun H1 hx => kq_no (by unfold sp_put; rw [hE]; rfl) hP hx)
  | none =>
    obtain ⟨hc, ex, hk⟩ := ch_map_none I.m10 hE
    refine yy_aload_n F d_K_put_0 (n := 1) rfl 0 rfl ?_
    refine yy_iload_n F d_K_put_1 (n := 2) rfl 1 rfl ?_
    refine yy_crr (w := (some (a_ad A (cN x)))) F hS (c_K_mapAt X I hE) (yy_Bc F X.1 q_580 q_1) (yy_invV (nA := 1) (C := R_K) (bytes := b_K_mapAt) (maxL := 3) (retY := (some (.object "ContainerKit$Container"))) F X.1 q_577 q_579 qs_K_mapAt q_580 ⟨by decide, by decide, by decide +kernel⟩ (yy_recv F.N X.2.1 (ci := 5) rfl hP.k) rfl d_K_put_2) d_K_put_2 (n := 5) rfl (by simp [Value.category]) ⟨by decide, by decide⟩ ⟨Nat.zero_le _, Nat.zero_le _⟩ ⟨rfl, rfl⟩ hP rfl (fun _ hSw_2 => ?_)
    refine yy_astore (lv' := [(4, .ref (a_ad A (cN x))), (0, .ref (a_k A)), (1, .int x), (2, .int key), (3, .int v)]) F d_K_put_5 (n := 7) rfl (by decide) rfl ?_
    refine yy_aload F d_K_put_7 (n := 9) rfl 0 rfl ?_
    refine yy_iload_n F d_K_put_9 (n := 10) rfl 3 rfl ?_
    have h6 : ¬ k_kd σ (cN x) = 6 := k_ism6 hk
    have h24 := I.ct hc
    have hro := (I.s hc).2.2.1.2
    have hmb := I.mapb hc hk
    have hkz : ¬ k_kb σ (cN x) = 0 := fun q => by rw [q] at hmb; exact absurd hmb (by decide)
    cases hk9 : ch_key σ (cN x) key with
    | some E =>
      exact yy_ctp F hSw_2 (c_K_demandKeyFits_no (c := cN x) X I hc h6 hk9) (yy_Bc F X.1 q_598 q_1) (yy_invS (nA := 2) (bytes := b_K_demandKeyFits) (maxL := 2) (retY := none) F X.1 q_596 q_597 q_1 q_598 ⟨by decide, by decide, by decide +kernel⟩ rfl d_K_put_10) d_K_put_10 (by simp [Value.category]) ⟨by decide, by decide⟩ ⟨by decide, by decide⟩ hP (fun H1 hx => kq_no (by unfold sp_put; rw [hE, hk9]; rfl) hP hx)
    | none =>
      obtain ⟨hcv, hfu⟩ := ch_key_none hk9
      refine yy_crv F hSw_2 (c_K_demandKeyFits (c := cN x) X I hc h6 hk9) (yy_Bc F X.1 q_598 q_1) (yy_invS (nA := 2) (bytes := b_K_demandKeyFits) (maxL := 2) (retY := none) F X.1 q_596 q_597 q_1 q_598 ⟨by decide, by decide, by decide +kernel⟩ rfl d_K_put_10) d_K_put_10 (n := 13) rfl (by simp [Value.category]) ⟨by decide, by decide⟩ ⟨Nat.zero_le _, Nat.zero_le _⟩ ⟨rfl, rfl⟩ hP (fun _ hSw_4 => ?_)
      refine yy_aload F d_K_put_13 (n := 15) rfl 0 rfl ?_
      refine yy_iload_n F d_K_put_15 (n := 16) rfl 3 rfl ?_
      refine yy_cri (w := (k_pl σ (cN x) key)) F hSw_4 (c_C_placeOf (A := A) (σ := σ) (c := cN x) X I hc (key := key)) (yy_Bc F X.1 q_614 q_9) (yy_invC (nA := 1) (x := y_C_placeOf) F X hP hc q_608 q_610 (k_dec X q_609 q_614) (k_sel q_613 q_611 q_612 σ (cN x)) q_609 ⟨by decide, by decide, by decide +kernel⟩ rfl d_K_put_16) d_K_put_16 (n := 19) rfl (by simp [Value.category]) ⟨by decide, by decide⟩ ⟨Nat.zero_le _, Nat.zero_le _⟩ ⟨rfl, rfl⟩ hP rfl (fun _ hSw_5 => ?_)
      refine yy_iconst (v := (-1)) F d_K_put_19 (n := 20) rfl rfl ?_
      cases hat : k_at σ (cN x) key with
      | none =>
        have hf := k_at_pos hat hcv
        have hlt := hfu hat
        refine yy_ic_ne_f (tgt := 27) F d_K_put_20 (n := 23) rfl (by decide) (k_pl_none hat) ?_
        refine yy_iconst (v := 1) F d_K_put_23 (n := 24) rfl rfl ?_
        refine yy_goto (tgt := 28) F d_K_put_24 (by decide) ?_
        refine yy_istore (lv' := [(5, .int 1), (4, .ref (a_ad A (cN x))), (0, .ref (a_k A)), (1, .int x), (2, .int key), (3, .int v)]) F d_K_put_28 (n := 30) rfl (by decide) rfl ?_
        refine yy_aload F d_K_put_30 (n := 32) rfl 1 rfl ?_
        refine cr_store F X g_K_95_G g_K_95_P g_K_95_R hP hc d_K_put_32 (n := 35) rfl ?_
        refine yy_iload_n F d_K_put_35 (n := 36) rfl 4 rfl ?_
        refine yy_iload_n F d_K_put_36 (n := 37) rfl 5 rfl ?_
        refine yy_cv F hSw_5 (k_putNew (kd := k_kb σ (cN x)) (s := k_B σ (cN x)) (key := key) (v := v) X hro (hP.sok hc) hf hkz hlt) (yy_Bc F X.1 q_623 q_11) (yy_invV (nA := 2) (C := R_S) (bytes := b_S_putKey) (maxL := 4) (retY := none) F X.1 q_620 q_621 q_622 q_623 ⟨by decide, by decide, by decide +kernel⟩ (yy_recv F.N X.2.1 (ci := 0) rfl (hP.sc hc).1) rfl d_K_put_37) d_K_put_37 (n := 40) rfl (by simp [Value.category]) ⟨by decide, by decide⟩ ⟨Nat.zero_le _, Nat.zero_le _⟩ ⟨rfl, rfl⟩ (hP.sc hc) (fun Hw_6 locs_w_6 qw_6 Sw_6 => ?_)
        obtain ⟨Qw_6, zw_6⟩ := qw_6
        obtain ⟨Pw_6, kw_6⟩ := hP.putS (hP.ok.bs hc).1 (hP.ok.bs hc).2 (s := S_key (k_kb σ (cN x)) (k_B σ (cN x)) key v) Qw_6 zw_6
        refine yy_iload F d_K_put_40 (n := 42) rfl 0 rfl ?_
        exact yy_zret F Sw_6 ⟨Nat.zero_le _, Nat.zero_le _⟩ rfl rfl d_K_put_42 (kq_i (by unfold sp_put; rw [hE, hk9, hat]; rfl) Pw_6 kw_6)
      | some j =>
        have hf := k_at_pos hat hcv
        obtain ⟨a1, a2, -⟩ := I.at hc h6 hat
        obtain ⟨b1, b2⟩ := k_pl_some I hc h6 hat
        refine yy_ic_ne_t (tgt := 27) F d_K_put_20 (by decide) b2 ?_
        refine yy_iconst (v := 0) F d_K_put_27 (n := 28) rfl rfl ?_
        refine yy_istore (lv' := [(5, .int 0), (4, .ref (a_ad A (cN x))), (0, .ref (a_k A)), (1, .int x), (2, .int key), (3, .int v)]) F d_K_put_28 (n := 30) rfl (by decide) rfl ?_
        refine yy_aload F d_K_put_30 (n := 32) rfl 1 rfl ?_
        refine cr_store F X g_K_95_G g_K_95_P g_K_95_R hP hc d_K_put_32 (n := 35) rfl ?_
        refine yy_iload_n F d_K_put_35 (n := 36) rfl 4 rfl ?_
        refine yy_iload_n F d_K_put_36 (n := 37) rfl 5 rfl ?_
        refine yy_cv F hSw_5 (k_putOld (kd := k_kb σ (cN x)) (s := k_B σ (cN x)) (key := key) (v := v) X (hP.sok hc) hf h24) (yy_Bc F X.1 q_623 q_11) (yy_invV (nA := 2) (C := R_S) (bytes := b_S_putKey) (maxL := 4) (retY := none) F X.1 q_620 q_621 q_622 q_623 ⟨by decide, by decide, by decide +kernel⟩ (yy_recv F.N X.2.1 (ci := 0) rfl (hP.sc hc).1) rfl d_K_put_37) d_K_put_37 (n := 40) rfl (by simp [Value.category]) ⟨by decide, by decide⟩ ⟨Nat.zero_le _, Nat.zero_le _⟩ ⟨rfl, rfl⟩ (hP.sc hc) (fun Hw_7 locs_w_7 qw_7 Sw_7 => ?_)
        obtain ⟨Qw_7, zw_7⟩ := qw_7
        obtain ⟨Pw_7, kw_7⟩ := hP.putS (hP.ok.bs hc).1 (hP.ok.bs hc).2 (s := S_use (k_kb σ (cN x)) (S_vl (k_B σ (cN x)) j v) j key) Qw_7 zw_7
        refine yy_iload F d_K_put_40 (n := 42) rfl 0 rfl ?_
        exact yy_zret F Sw_7 ⟨Nat.zero_le _, Nat.zero_le _⟩ rfl rfl d_K_put_42 (kq_i (by unfold sp_put; rw [hE, hk9, hat]; rfl) Pw_7 kw_7)
set_option maxRecDepth 100000 in
set_option maxHeartbeats 4000000 in
theorem c_K_merge {l : Launch} {z : State} {a0 : Array Value} {D : va_G} {ca : kca} (X : kcx l z a0 D ca) {A : kA} {σ : ks} {t : Nat} (I : iv t σ) {x key v : Int32} : yy_M l z y_K_merge (.code y_K_merge b_K_merge 7 (some .int)) ({ frames := 8, cells := 1, slots := 6, locals := 125 }) [.ref (a_k A), .int x, .int key, .int v] (ck_at D ca z A σ) (kqi D ca z A (sp_merge σ x key v)) := by
  refine yy_body (plainFor_of_name (by decide)) (Nat.le_of_ble_eq_true rfl) (fun b H F hS hP hH hnm => ?_)
  cases hE : ch_map σ x with
  | some E =>
    refine yy_aload_n F d_K_merge_0 (n := 1) rfl 0 rfl ?_
    refine yy_iload_n F d_K_merge_1 (n := 2) rfl 1 rfl ?_
    exact yy_ctp F hS (c_K_mapAt_no X I hE) (yy_Bc F X.1 q_580 q_1) (yy_invV (nA := 1) (C := R_K) (bytes := b_K_mapAt) (maxL := 3) (retY := (some (.object "ContainerKit$Container"))) F X.1 q_577 q_579 qs_K_mapAt q_580 ⟨by decide, by decide, by decide +kernel⟩ (yy_recv F.N X.2.1 (ci := 5) rfl hP.k) rfl d_K_merge_2) d_K_merge_2 (by simp [Value.category]) ⟨by decide, by decide⟩ ⟨by decide, by decide⟩ hP (fun H1 hx => kq_no (by unfold sp_merge; rw [hE]; rfl) hP hx)
  | none =>
    obtain ⟨hc, ex, hk⟩ := ch_map_none I.m10 hE
    refine yy_aload_n F d_K_merge_0 (n := 1) rfl 0 rfl ?_
    refine yy_iload_n F d_K_merge_1 (n := 2) rfl 1 rfl ?_
    refine yy_crr (w := (some (a_ad A (cN x)))) F hS (c_K_mapAt X I hE) (yy_Bc F X.1 q_580 q_1) (yy_invV (nA := 1) (C := R_K) (bytes := b_K_mapAt) (maxL := 3) (retY := (some (.object "ContainerKit$Container"))) F X.1 q_577 q_579 qs_K_mapAt q_580 ⟨by decide, by decide, by decide +kernel⟩ (yy_recv F.N X.2.1 (ci := 5) rfl hP.k) rfl d_K_merge_2) d_K_merge_2 (n := 5) rfl (by simp [Value.category]) ⟨by decide, by decide⟩ ⟨Nat.zero_le _, Nat.zero_le _⟩ ⟨rfl, rfl⟩ hP rfl (fun _ hSw_2 => ?_)
    refine yy_astore (lv' := [(4, .ref (a_ad A (cN x))), (0, .ref (a_k A)), (1, .int x), (2, .int key), (3, .int v)]) F d_K_merge_5 (n := 7) rfl (by decide) rfl ?_
    refine yy_aload F d_K_merge_7 (n := 9) rfl 0 rfl ?_
    refine yy_iload_n F d_K_merge_9 (n := 10) rfl 3 rfl ?_
    have h6 : ¬ k_kd σ (cN x) = 6 := k_ism6 hk
    have h24 := I.ct hc
    have hro := (I.s hc).2.2.1.2
    have hmb := I.mapb hc hk
    have hkz : ¬ k_kb σ (cN x) = 0 := fun q => by rw [q] at hmb; exact absurd hmb (by decide)
    cases hk9 : ch_key σ (cN x) key with
    | some E =>
      exact yy_ctp F hSw_2 (c_K_demandKeyFits_no (c := cN x) X I hc h6 hk9) (yy_Bc F X.1 q_598 q_1) (yy_invS (nA := 2) (bytes := b_K_demandKeyFits) (maxL := 2) (retY := none) F X.1 q_596 q_597 q_1 q_598 ⟨by decide, by decide, by decide +kernel⟩ rfl d_K_merge_10) d_K_merge_10 (by simp [Value.category]) ⟨by decide, by decide⟩ ⟨by decide, by decide⟩ hP (fun H1 hx => kq_no (by unfold sp_merge; rw [hE, hk9]; rfl) hP hx)
    | none =>
      obtain ⟨hcv, hfu⟩ := ch_key_none hk9
      refine yy_crv F hSw_2 (c_K_demandKeyFits (c := cN x) X I hc h6 hk9) (yy_Bc F X.1 q_598 q_1) (yy_invS (nA := 2) (bytes := b_K_demandKeyFits) (maxL := 2) (retY := none) F X.1 q_596 q_597 q_1 q_598 ⟨by decide, by decide, by decide +kernel⟩ rfl d_K_merge_10) d_K_merge_10 (n := 13) rfl (by simp [Value.category]) ⟨by decide, by decide⟩ ⟨Nat.zero_le _, Nat.zero_le _⟩ ⟨rfl, rfl⟩ hP (fun _ hSw_4 => ?_)
      refine yy_aload F d_K_merge_13 (n := 15) rfl 0 rfl ?_
      refine yy_iload_n F d_K_merge_15 (n := 16) rfl 3 rfl ?_
      refine yy_cri (w := (k_pl σ (cN x) key)) F hSw_4 (c_C_placeOf (A := A) (σ := σ) (c := cN x) X I hc (key := key)) (yy_Bc F X.1 q_614 q_9) (yy_invC (nA := 1) (x := y_C_placeOf) F X hP hc q_608 q_610 (k_dec X q_609 q_614) (k_sel q_613 q_611 q_612 σ (cN x)) q_609 ⟨by decide, by decide, by decide +kernel⟩ rfl d_K_merge_16) d_K_merge_16 (n := 19) rfl (by simp [Value.category]) ⟨by decide, by decide⟩ ⟨Nat.zero_le _, Nat.zero_le _⟩ ⟨rfl, rfl⟩ hP rfl (fun _ hSw_5 => ?_)
      refine yy_istore (lv' := [(5, .int (k_pl σ (cN x) key)), (4, .ref (a_ad A (cN x))), (0, .ref (a_k A)), (1, .int x), (2, .int key), (3, .int v)]) F d_K_merge_19 (n := 21) rfl (by decide) rfl ?_
      refine yy_iload F d_K_merge_21 (n := 23) rfl 0 rfl ?_
      refine yy_iconst (v := (-1)) F d_K_merge_23 (n := 24) rfl rfl ?_
      cases hat : k_at σ (cN x) key with
      | none =>
        have hf := k_at_pos hat hcv
        have hlt := hfu hat
        refine yy_ic_ne_f (tgt := 31) F d_K_merge_24 (n := 27) rfl (by decide) (k_pl_none hat) ?_
        refine yy_iload_n F d_K_merge_27 (n := 28) rfl 5 rfl ?_
        refine yy_goto (tgt := 40) F d_K_merge_28 (by decide) ?_
        refine yy_istore (lv' := [(6, .int v), (5, .int (k_pl σ (cN x) key)), (4, .ref (a_ad A (cN x))), (0, .ref (a_k A)), (1, .int x), (2, .int key), (3, .int v)]) F d_K_merge_40 (n := 42) rfl (by decide) rfl ?_
        refine yy_aload F d_K_merge_42 (n := 44) rfl 2 rfl ?_
        refine cr_store F X g_K_95_G g_K_95_P g_K_95_R hP hc d_K_merge_44 (n := 47) rfl ?_
        refine yy_iload_n F d_K_merge_47 (n := 48) rfl 5 rfl ?_
        refine yy_iload F d_K_merge_48 (n := 50) rfl 0 rfl ?_
        refine yy_cv F hSw_5 (k_putNew (kd := k_kb σ (cN x)) (s := k_B σ (cN x)) (key := key) (v := v) X hro (hP.sok hc) hf hkz hlt) (yy_Bc F X.1 q_623 q_11) (yy_invV (nA := 2) (C := R_S) (bytes := b_S_putKey) (maxL := 4) (retY := none) F X.1 q_620 q_621 q_622 q_623 ⟨by decide, by decide, by decide +kernel⟩ (yy_recv F.N X.2.1 (ci := 0) rfl (hP.sc hc).1) rfl d_K_merge_50) d_K_merge_50 (n := 53) rfl (by simp [Value.category]) ⟨by decide, by decide⟩ ⟨Nat.zero_le _, Nat.zero_le _⟩ ⟨rfl, rfl⟩ (hP.sc hc) (fun Hw_6 locs_w_6 qw_6 Sw_6 => ?_)
        obtain ⟨Qw_6, zw_6⟩ := qw_6
        obtain ⟨Pw_6, kw_6⟩ := hP.putS (hP.ok.bs hc).1 (hP.ok.bs hc).2 (s := S_key (k_kb σ (cN x)) (k_B σ (cN x)) key v) Qw_6 zw_6
        refine yy_iload F d_K_merge_53 (n := 55) rfl 0 rfl ?_
        exact yy_iret F Sw_6 ⟨Nat.zero_le _, Nat.zero_le _⟩ rfl d_K_merge_55 (kq_i (by unfold sp_merge; rw [hE, hk9, hat]; rfl) Pw_6 kw_6)
      | some j =>
        have hf := k_at_pos hat hcv
        obtain ⟨a1, a2, -⟩ := I.at hc h6 hat
        obtain ⟨b1, b2⟩ := k_pl_some I hc h6 hat
        refine yy_ic_ne_t (tgt := 31) F d_K_merge_24 (by decide) b2 ?_
        refine yy_aload F d_K_merge_31 (n := 33) rfl 1 rfl ?_
        refine yy_iload F d_K_merge_33 (n := 35) rfl 0 rfl ?_
        refine yy_cri (w := (s_vl (k_B σ (cN x)) j)) F hSw_5 (c_C_valueAt (A := A) (σ := σ) (c := cN x) X I hc (x := k_pl σ (cN x) key) (q := j) (by rw [b1, nI_add, Nat.add_sub_cancel' a2]) a1) (yy_Bc F X.1 q_653 q_9) (yy_invC (nA := 1) (x := y_C_valueAt) F X hP hc q_647 q_649 (k_dec X q_648 q_653) (k_sel q_652 q_650 q_651 σ (cN x)) q_648 ⟨by decide, by decide, by decide +kernel⟩ rfl d_K_merge_35) d_K_merge_35 (n := 38) rfl (by simp [Value.category]) ⟨by decide, by decide⟩ ⟨Nat.zero_le _, Nat.zero_le _⟩ ⟨rfl, rfl⟩ hP rfl (fun _ hSw_7 => ?_)
        refine yy_iload_n F d_K_merge_38 (n := 39) rfl 5 rfl ?_
        refine yy_iadd F d_K_merge_39 (n := 40) rfl ?_
        refine yy_istore (lv' := [(6, .int ((s_vl (k_B σ (cN x)) j) + v)), (5, .int (k_pl σ (cN x) key)), (4, .ref (a_ad A (cN x))), (0, .ref (a_k A)), (1, .int x), (2, .int key), (3, .int v)]) F d_K_merge_40 (n := 42) rfl (by decide) rfl ?_
        refine yy_aload F d_K_merge_42 (n := 44) rfl 2 rfl ?_
        refine cr_store F X g_K_95_G g_K_95_P g_K_95_R hP hc d_K_merge_44 (n := 47) rfl ?_
        refine yy_iload_n F d_K_merge_47 (n := 48) rfl 5 rfl ?_
        refine yy_iload F d_K_merge_48 (n := 50) rfl 0 rfl ?_
        refine yy_cv F hSw_7 (k_putOld (kd := k_kb σ (cN x)) (s := k_B σ (cN x)) (key := key) (v := s_vl (k_B σ (cN x)) j + v) X (hP.sok hc) hf h24) (yy_Bc F X.1 q_623 q_11) (yy_invV (nA := 2) (C := R_S) (bytes := b_S_putKey) (maxL := 4) (retY := none) F X.1 q_620 q_621 q_622 q_623 ⟨by decide, by decide, by decide +kernel⟩ (yy_recv F.N X.2.1 (ci := 0) rfl (hP.sc hc).1) rfl d_K_merge_50) d_K_merge_50 (n := 53) rfl (by simp [Value.category]) ⟨by decide, by decide⟩ ⟨Nat.zero_le _, Nat.zero_le _⟩ ⟨rfl, rfl⟩ (hP.sc hc) (fun Hw_8 locs_w_8 qw_8 Sw_8 => ?_)
        obtain ⟨Qw_8, zw_8⟩ := qw_8
        obtain ⟨Pw_8, kw_8⟩ := hP.putS (hP.ok.bs hc).1 (hP.ok.bs hc).2 (s := S_use (k_kb σ (cN x)) (S_vl (k_B σ (cN x)) j (s_vl (k_B σ (cN x)) j + v)) j key) Qw_8 zw_8
        refine yy_iload F d_K_merge_53 (n := 55) rfl 0 rfl ?_
        exact yy_iret F Sw_8 ⟨Nat.zero_le _, Nat.zero_le _⟩ rfl d_K_merge_55 (kq_i (by unfold sp_merge; rw [hE, hk9, hat]; rfl) Pw_8 kw_8)
set_option maxRecDepth 100000 in
set_option maxHeartbeats 4000000 in
theorem c_K_value {l : Launch} {z : State} {a0 : Array Value} {D : va_G} {ca : kca} (X : kcx l z a0 D ca) {A : kA} {σ : ks} {t : Nat} (I : iv t σ) {x key : Int32} : yy_M l z y_K_value (.code y_K_value b_K_value 6 (some .int)) ({ frames := 8, cells := 1, slots := 6, locals := 125 }) [.ref (a_k A), .int x, .int key] (ck_at D ca z A σ) (kqi D ca z A (sp_value σ x key)) := by
  refine yy_body (plainFor_of_name (by decide)) (Nat.le_of_ble_eq_true rfl) (fun b H F hS hP hH hnm => ?_)
  cases hE : ch_map σ x with
  | some E =>
    refine yy_aload_n F d_K_value_0 (n := 1) rfl 0 rfl ?_
    refine yy_iload_n F d_K_value_1 (n := 2) rfl 1 rfl ?_
    exact yy_ctp F hS (c_K_mapAt_no X I hE) (yy_Bc F X.1 q_580 q_1) (yy_invV (nA := 1) (C := R_K) (bytes := b_K_mapAt) (maxL := 3) (retY := (some (.object "ContainerKit$Container"))) F X.1 q_577 q_579 qs_K_mapAt q_580 ⟨by decide, by decide, by decide +kernel⟩ (yy_recv F.N X.2.1 (ci := 5) rfl hP.k) rfl d_K_value_2) d_K_value_2 (by simp [Value.category]) ⟨by decide, by decide⟩ ⟨by decide, by decide⟩ hP (fun H1 hx => kq_no (by unfold sp_value; rw [hE]; rfl) hP hx)
  | none =>
    obtain ⟨hc, ex, hk⟩ := ch_map_none I.m10 hE
    refine yy_aload_n F d_K_value_0 (n := 1) rfl 0 rfl ?_
    refine yy_iload_n F d_K_value_1 (n := 2) rfl 1 rfl ?_
    refine yy_crr (w := (some (a_ad A (cN x)))) F hS (c_K_mapAt X I hE) (yy_Bc F X.1 q_580 q_1) (yy_invV (nA := 1) (C := R_K) (bytes := b_K_mapAt) (maxL := 3) (retY := (some (.object "ContainerKit$Container"))) F X.1 q_577 q_579 qs_K_mapAt q_580 ⟨by decide, by decide, by decide +kernel⟩ (yy_recv F.N X.2.1 (ci := 5) rfl hP.k) rfl d_K_value_2) d_K_value_2 (n := 5) rfl (by simp [Value.category]) ⟨by decide, by decide⟩ ⟨Nat.zero_le _, Nat.zero_le _⟩ ⟨rfl, rfl⟩ hP rfl (fun _ hSw_2 => ?_)
    refine yy_astore_n (lv' := [(3, .ref (a_ad A (cN x))), (0, .ref (a_k A)), (1, .int x), (2, .int key)]) F d_K_value_5 (n := 6) rfl (by decide) rfl ?_
    refine yy_aload_n F d_K_value_6 (n := 7) rfl 0 rfl ?_
    refine yy_iload_n F d_K_value_7 (n := 8) rfl 3 rfl ?_
    have h6 : ¬ k_kd σ (cN x) = 6 := k_ism6 hk
    have h24 := I.ct hc
    refine yy_cri (w := (k_pl σ (cN x) key)) F hSw_2 (c_C_placeOf (A := A) (σ := σ) (c := cN x) X I hc (key := key)) (yy_Bc F X.1 q_614 q_9) (yy_invC (nA := 1) (x := y_C_placeOf) F X hP hc q_608 q_610 (k_dec X q_609 q_614) (k_sel q_613 q_611 q_612 σ (cN x)) q_609 ⟨by decide, by decide, by decide +kernel⟩ rfl d_K_value_8) d_K_value_8 (n := 11) rfl (by simp [Value.category]) ⟨by decide, by decide⟩ ⟨Nat.zero_le _, Nat.zero_le _⟩ ⟨rfl, rfl⟩ hP rfl (fun _ hSw_3 => ?_)
    refine yy_istore (lv' := [(4, .int (k_pl σ (cN x) key)), (3, .ref (a_ad A (cN x))), (0, .ref (a_k A)), (1, .int x), (2, .int key)]) F d_K_value_11 (n := 13) rfl (by decide) rfl ?_
    refine yy_iload F d_K_value_13 (n := 15) rfl 0 rfl ?_
    refine yy_iconst (v := (-1)) F d_K_value_15 (n := 16) rfl rfl ?_
    cases hat : k_at σ (cN x) key with
    | none =>
      refine yy_ic_eq_t (tgt := 23) F d_K_value_16 (by decide) (k_pl_none hat) ?_
      refine yy_iconst (v := 0) F d_K_value_23 (n := 24) rfl rfl ?_
      exact yy_ctp F hSw_3 (c_K_demandThere_no X) (yy_Bc F X.1 q_429 q_1) (yy_invS (nA := 1) (bytes := b_K_demandThere) (maxL := 1) (retY := none) F X.1 q_427 q_428 q_1 q_429 ⟨by decide, by decide, by decide +kernel⟩ rfl d_K_value_24) d_K_value_24 (by simp [Value.category]) ⟨by decide, by decide⟩ ⟨by decide, by decide⟩ trivial (fun H1 hx => kq_no (by unfold sp_value; rw [hE, hat]; rfl) hP hx)
    | some j =>
      obtain ⟨a1, a2, a3, hcv⟩ := I.at hc h6 hat
      have hf := k_at_pos hat hcv
      obtain ⟨b1, b2⟩ := k_pl_some I hc h6 hat
      have hq9 : nI (k_start σ (cN x)) + k_pl σ (cN x) key = nI j := by rw [b1, nI_add, Nat.add_sub_cancel' a2]
      refine yy_ic_eq_f (tgt := 23) F d_K_value_16 (n := 19) rfl (by decide) b2 ?_
      refine yy_iconst (v := 1) F d_K_value_19 (n := 20) rfl rfl ?_
      refine yy_goto (tgt := 24) F d_K_value_20 (by decide) ?_
      refine yy_crv F hSw_3 (c_K_demandThere X) (yy_Bc F X.1 q_429 q_1) (yy_invS (nA := 1) (bytes := b_K_demandThere) (maxL := 1) (retY := none) F X.1 q_427 q_428 q_1 q_429 ⟨by decide, by decide, by decide +kernel⟩ rfl d_K_value_24) d_K_value_24 (n := 27) rfl (by simp [Value.category]) ⟨by decide, by decide⟩ ⟨Nat.zero_le _, Nat.zero_le _⟩ ⟨rfl, rfl⟩ trivial (fun _ hSw_5 => ?_)
      refine yy_aload_n F d_K_value_27 (n := 28) rfl 1 rfl ?_
      refine yy_iload F d_K_value_28 (n := 30) rfl 0 rfl ?_
      refine yy_cri (w := (s_vl (k_B σ (cN x)) j)) F hSw_5 (c_C_valueAt (A := A) (σ := σ) (c := cN x) X I hc (x := k_pl σ (cN x) key) (q := j) hq9 a1) (yy_Bc F X.1 q_653 q_9) (yy_invC (nA := 1) (x := y_C_valueAt) F X hP hc q_647 q_649 (k_dec X q_648 q_653) (k_sel q_652 q_650 q_651 σ (cN x)) q_648 ⟨by decide, by decide, by decide +kernel⟩ rfl d_K_value_30) d_K_value_30 (n := 33) rfl (by simp [Value.category]) ⟨by decide, by decide⟩ ⟨Nat.zero_le _, Nat.zero_le _⟩ ⟨rfl, rfl⟩ hP rfl (fun _ hSw_6 => ?_)
      refine yy_istore (lv' := [(5, .int (s_vl (k_B σ (cN x)) j)), (4, .int (k_pl σ (cN x) key)), (3, .ref (a_ad A (cN x))), (0, .ref (a_k A)), (1, .int x), (2, .int key)]) F d_K_value_33 (n := 35) rfl (by decide) rfl ?_
      refine yy_aload_n F d_K_value_35 (n := 36) rfl 2 rfl ?_
      refine cr_store F X g_K_95_G g_K_95_P g_K_95_R hP hc d_K_value_36 (n := 39) rfl ?_
      refine yy_iload_n F d_K_value_39 (n := 40) rfl 5 rfl ?_
      refine yy_cv F hSw_6 (k_use (kd := k_kb σ (cN x)) (s := k_B σ (cN x)) (key := key) X (hP.sok hc) hf h24) (yy_Bc F X.1 q_639 q_11) (yy_invV (nA := 1) (C := R_S) (bytes := b_S_noteUse) (maxL := 4) (retY := none) F X.1 q_672 q_637 q_638 q_639 ⟨by decide, by decide, by decide +kernel⟩ (yy_recv F.N X.2.1 (ci := 0) rfl (hP.sc hc).1) rfl d_K_value_40) d_K_value_40 (n := 43) rfl (by simp [Value.category]) ⟨by decide, by decide⟩ ⟨Nat.zero_le _, Nat.zero_le _⟩ ⟨rfl, rfl⟩ (hP.sc hc) (fun Hw_7 locs_w_7 qw_7 Sw_7 => ?_)
      obtain ⟨Qw_7, zw_7⟩ := qw_7
      obtain ⟨Pw_7, kw_7⟩ := hP.putS (hP.ok.bs hc).1 (hP.ok.bs hc).2 (s := S_use (k_kb σ (cN x)) (k_B σ (cN x)) j key) Qw_7 zw_7
      refine yy_iload F d_K_value_43 (n := 45) rfl 0 rfl ?_
      exact yy_iret F Sw_7 ⟨Nat.zero_le _, Nat.zero_le _⟩ rfl d_K_value_45 (kq_i (by unfold sp_value; rw [hE, hat]; rfl) Pw_7 kw_7)
set_option maxRecDepth 100000 in
set_option maxHeartbeats 4000000 in
theorem c_K_drop {l : Launch} {z : State} {a0 : Array Value} {D : va_G} {ca : kca} (X : kcx l z a0 D ca) {A : kA} {σ : ks} {t : Nat} (I : iv t σ) {x key : Int32} : yy_M l z y_K_drop (.code y_K_drop b_K_drop 6 (some .int)) ({ frames := 8, cells := 1, slots := 6, locals := 125 }) [.ref (a_k A), .int x, .int key] (ck_at D ca z A σ) (kqi D ca z A (sp_drop σ x key)) := by
  refine yy_body (plainFor_of_name (by decide)) (Nat.le_of_ble_eq_true rfl) (fun b H F hS hP hH hnm => ?_)
  cases hE : ch_map σ x with
  | some E =>
    refine yy_aload_n F d_K_drop_0 (n := 1) rfl 0 rfl ?_
    refine yy_iload_n F d_K_drop_1 (n := 2) rfl 1 rfl ?_
    exact yy_ctp F hS (c_K_mapAt_no X I hE) (yy_Bc F X.1 q_580 q_1) (yy_invV (nA := 1) (C := R_K) (bytes := b_K_mapAt) (maxL := 3) (retY := (some (.object "ContainerKit$Container"))) F X.1 q_577 q_579 qs_K_mapAt q_580 ⟨by decide, by decide, by decide +kernel⟩ (yy_recv F.N X.2.1 (ci := 5) rfl hP.k) rfl d_K_drop_2) d_K_drop_2 (by simp [Value.category]) ⟨by decide, by decide⟩ ⟨by decide, by decide⟩ hP (fun H1 hx => kq_no (by unfold sp_drop; rw [hE]; rfl) hP hx)
  | none =>
    obtain ⟨hc, ex, hk⟩ := ch_map_none I.m10 hE
    refine yy_aload_n F d_K_drop_0 (n := 1) rfl 0 rfl ?_
    refine yy_iload_n F d_K_drop_1 (n := 2) rfl 1 rfl ?_
    refine yy_crr (w := (some (a_ad A (cN x)))) F hS (c_K_mapAt X I hE) (yy_Bc F X.1 q_580 q_1) (yy_invV (nA := 1) (C := R_K) (bytes := b_K_mapAt) (maxL := 3) (retY := (some (.object "ContainerKit$Container"))) F X.1 q_577 q_579 qs_K_mapAt q_580 ⟨by decide, by decide, by decide +kernel⟩ (yy_recv F.N X.2.1 (ci := 5) rfl hP.k) rfl d_K_drop_2) d_K_drop_2 (n := 5) rfl (by simp [Value.category]) ⟨by decide, by decide⟩ ⟨Nat.zero_le _, Nat.zero_le _⟩ ⟨rfl, rfl⟩ hP rfl (fun _ hSw_2 => ?_)
    refine yy_astore_n (lv' := [(3, .ref (a_ad A (cN x))), (0, .ref (a_k A)), (1, .int x), (2, .int key)]) F d_K_drop_5 (n := 6) rfl (by decide) rfl ?_
    refine yy_aload_n F d_K_drop_6 (n := 7) rfl 0 rfl ?_
    refine yy_iload_n F d_K_drop_7 (n := 8) rfl 3 rfl ?_
    have h6 : ¬ k_kd σ (cN x) = 6 := k_ism6 hk
    have h24 := I.ct hc
    refine yy_cri (w := (k_pl σ (cN x) key)) F hSw_2 (c_C_placeOf (A := A) (σ := σ) (c := cN x) X I hc (key := key)) (yy_Bc F X.1 q_614 q_9) (yy_invC (nA := 1) (x := y_C_placeOf) F X hP hc q_608 q_610 (k_dec X q_609 q_614) (k_sel q_613 q_611 q_612 σ (cN x)) q_609 ⟨by decide, by decide, by decide +kernel⟩ rfl d_K_drop_8) d_K_drop_8 (n := 11) rfl (by simp [Value.category]) ⟨by decide, by decide⟩ ⟨Nat.zero_le _, Nat.zero_le _⟩ ⟨rfl, rfl⟩ hP rfl (fun _ hSw_3 => ?_)
    refine yy_istore (lv' := [(4, .int (k_pl σ (cN x) key)), (3, .ref (a_ad A (cN x))), (0, .ref (a_k A)), (1, .int x), (2, .int key)]) F d_K_drop_11 (n := 13) rfl (by decide) rfl ?_
    refine yy_iload F d_K_drop_13 (n := 15) rfl 0 rfl ?_
    refine yy_iconst (v := (-1)) F d_K_drop_15 (n := 16) rfl rfl ?_
    cases hat : k_at σ (cN x) key with
    | none =>
      refine yy_ic_eq_t (tgt := 23) F d_K_drop_16 (by decide) (k_pl_none hat) ?_
      refine yy_iconst (v := 0) F d_K_drop_23 (n := 24) rfl rfl ?_
      exact yy_ctp F hSw_3 (c_K_demandThere_no X) (yy_Bc F X.1 q_429 q_1) (yy_invS (nA := 1) (bytes := b_K_demandThere) (maxL := 1) (retY := none) F X.1 q_427 q_428 q_1 q_429 ⟨by decide, by decide, by decide +kernel⟩ rfl d_K_drop_24) d_K_drop_24 (by simp [Value.category]) ⟨by decide, by decide⟩ ⟨by decide, by decide⟩ trivial (fun H1 hx => kq_no (by unfold sp_drop; rw [hE, hat]; rfl) hP hx)
    | some j =>
      obtain ⟨a1, a2, a3, hcv⟩ := I.at hc h6 hat
      have hf := k_at_pos hat hcv
      obtain ⟨b1, b2⟩ := k_pl_some I hc h6 hat
      have hq9 : nI (k_start σ (cN x)) + k_pl σ (cN x) key = nI j := by rw [b1, nI_add, Nat.add_sub_cancel' a2]
      refine yy_ic_eq_f (tgt := 23) F d_K_drop_16 (n := 19) rfl (by decide) b2 ?_
      refine yy_iconst (v := 1) F d_K_drop_19 (n := 20) rfl rfl ?_
      refine yy_goto (tgt := 24) F d_K_drop_20 (by decide) ?_
      refine yy_crv F hSw_3 (c_K_demandThere X) (yy_Bc F X.1 q_429 q_1) (yy_invS (nA := 1) (bytes := b_K_demandThere) (maxL := 1) (retY := none) F X.1 q_427 q_428 q_1 q_429 ⟨by decide, by decide, by decide +kernel⟩ rfl d_K_drop_24) d_K_drop_24 (n := 27) rfl (by simp [Value.category]) ⟨by decide, by decide⟩ ⟨Nat.zero_le _, Nat.zero_le _⟩ ⟨rfl, rfl⟩ trivial (fun _ hSw_5 => ?_)
      refine yy_aload_n F d_K_drop_27 (n := 28) rfl 1 rfl ?_
      refine yy_iload F d_K_drop_28 (n := 30) rfl 0 rfl ?_
      refine yy_cri (w := (s_vl (k_B σ (cN x)) j)) F hSw_5 (c_C_valueAt (A := A) (σ := σ) (c := cN x) X I hc (x := k_pl σ (cN x) key) (q := j) hq9 a1) (yy_Bc F X.1 q_653 q_9) (yy_invC (nA := 1) (x := y_C_valueAt) F X hP hc q_647 q_649 (k_dec X q_648 q_653) (k_sel q_652 q_650 q_651 σ (cN x)) q_648 ⟨by decide, by decide, by decide +kernel⟩ rfl d_K_drop_30) d_K_drop_30 (n := 33) rfl (by simp [Value.category]) ⟨by decide, by decide⟩ ⟨Nat.zero_le _, Nat.zero_le _⟩ ⟨rfl, rfl⟩ hP rfl (fun _ hSw_6 => ?_)
      refine yy_istore (lv' := [(5, .int (s_vl (k_B σ (cN x)) j)), (4, .int (k_pl σ (cN x) key)), (3, .ref (a_ad A (cN x))), (0, .ref (a_k A)), (1, .int x), (2, .int key)]) F d_K_drop_33 (n := 35) rfl (by decide) rfl ?_
      refine yy_aload_n F d_K_drop_35 (n := 36) rfl 2 rfl ?_
      refine yy_iload F d_K_drop_36 (n := 38) rfl 1 rfl ?_
      refine yy_ci F hSw_6 (c_C_take (A := A) (σ := σ) (c := cN x) X I hc (x := k_pl σ (cN x) key) (q := j) hq9 a1 (k_fr_0 h6) (fun q => absurd q h6)) (yy_Bc F X.1 q_535 q_9) (yy_invC (nA := 1) (x := y_C_take) F X hP hc q_529 q_531 (k_dec X q_530 q_535) (k_sel q_534 q_532 q_533 σ (cN x)) q_530 ⟨by decide, by decide, by decide +kernel⟩ rfl d_K_drop_38) d_K_drop_38 (n := 41) rfl (by simp [Value.category]) ⟨by decide, by decide⟩ ⟨Nat.zero_le _, Nat.zero_le _⟩ ⟨rfl, rfl⟩ hP (fun r_w_7 Hw_7 locs_w_7 qw_7 Sw_7 => ?_)
      obtain ⟨ew_7, Pw_7, kw_7⟩ := qw_7
      rw [ew_7]
      have kw_7 := kpA.rf.tr kw_7
      refine yy_pop F d_K_drop_41 (n := 42) rfl rfl ?_
      refine yy_iload F d_K_drop_42 (n := 44) rfl 0 rfl ?_
      exact yy_iret F Sw_7 ⟨Nat.zero_le _, Nat.zero_le _⟩ rfl d_K_drop_44 (kq_i (by unfold sp_drop; rw [hE, hat]; rfl) Pw_7 kw_7)
set_option maxRecDepth 100000 in
set_option maxHeartbeats 4000000 in
theorem c_K_sift {l : Launch} {z : State} {a0 : Array Value} {D : va_G} {ca : kca} (X : kcx l z a0 D ca) {A : kA} {σ : ks} {t : Nat} (I : iv t σ) {x by_ rest : Int32} (ht : t + 24 ≤ 100000) : yy_M l z y_K_sift (.code y_K_sift b_K_sift 5 (some .int)) ({ frames := 7, cells := 1, slots := 6, locals := 111 }) [.ref (a_k A), .int x, .int by_, .int rest] (ck_at D ca z A σ) (kqi D ca z A (sp_sift σ x by_ rest)) := by
  refine yy_body (plainFor_of_name (by decide)) (Nat.le_of_ble_eq_true rfl) (fun b H F hS hP hH hnm => ?_)
  cases hE : ch_con σ x with
  | some E =>
    obtain ⟨hin, rfl⟩ := ch_con_some hE
    refine yy_aload_n F d_K_sift_0 (n := 1) rfl 0 rfl ?_
    refine yy_iload_n F d_K_sift_1 (n := 2) rfl 1 rfl ?_
    exact yy_ctp F hS (c_K_containerAt_no X I hin) (yy_Bc F X.1 q_237 q_1) (yy_invV (nA := 1) (C := R_K) (bytes := b_K_containerAt) (maxL := 2) (retY := (some (.object "ContainerKit$Container"))) F X.1 q_234 q_236 qs_K_containerAt q_237 ⟨by decide, by decide, by decide +kernel⟩ (yy_recv F.N X.2.1 (ci := 5) rfl hP.k) rfl d_K_sift_2) d_K_sift_2 (by simp [Value.category]) ⟨by decide, by decide⟩ ⟨by decide, by decide⟩ hP (fun H1 hx => kq_no (by unfold sp_sift; rw [hE]; rfl) hP hx)
  | none =>
    obtain ⟨hc, ex⟩ := ch_con_none I.m10 hE
    refine yy_aload_n F d_K_sift_0 (n := 1) rfl 0 rfl ?_
    refine yy_iload_n F d_K_sift_1 (n := 2) rfl 1 rfl ?_
    refine yy_crr (w := (some (a_ad A (cN x)))) F hS (k_cat X I hc ex) (yy_Bc F X.1 q_237 q_1) (yy_invV (nA := 1) (C := R_K) (bytes := b_K_containerAt) (maxL := 2) (retY := (some (.object "ContainerKit$Container"))) F X.1 q_234 q_236 qs_K_containerAt q_237 ⟨by decide, by decide, by decide +kernel⟩ (yy_recv F.N X.2.1 (ci := 5) rfl hP.k) rfl d_K_sift_2) d_K_sift_2 (n := 5) rfl (by simp [Value.category]) ⟨by decide, by decide⟩ ⟨Nat.zero_le _, Nat.zero_le _⟩ ⟨rfl, rfl⟩ hP rfl (fun _ hSw_2 => ?_)
    refine yy_astore (lv' := [(4, .ref (a_ad A (cN x))), (0, .ref (a_k A)), (1, .int x), (2, .int by_), (3, .int rest)]) F d_K_sift_5 (n := 7) rfl (by decide) rfl ?_
    refine yy_aload F d_K_sift_7 (n := 9) rfl 0 rfl ?_
    refine cr_kind F X g_K_71_G g_K_71_P g_K_71_R hP hc d_K_sift_9 (n := 12) rfl ?_
    refine yy_iconst (v := 5) F d_K_sift_12 (n := 13) rfl rfl ?_
    refine yy_ic_eq (tgt := 20) F d_K_sift_13 (n := 16) rfl (by decide) (fun h5 => ?_) (fun h5 => ?_)
    · refine yy_iconst (v := 0) F d_K_sift_20 (n := 21) rfl rfl ?_
      exact yy_ctp F hSw_2 (c_K_demandKind_no X) (yy_Bc F X.1 q_270 q_1) (yy_invS (nA := 1) (bytes := b_K_demandKind) (maxL := 1) (retY := none) F X.1 q_268 q_269 q_1 q_270 ⟨by decide, by decide, by decide +kernel⟩ rfl d_K_sift_21) d_K_sift_21 (by simp [Value.category]) ⟨by decide, by decide⟩ ⟨by decide, by decide⟩ trivial (fun H1 hx => kq_no (by unfold sp_sift; rw [hE, decide_eq_true h5]; rfl) hP hx)
    · have h5d := decide_eq_false h5
      refine yy_iconst (v := 1) F d_K_sift_16 (n := 17) rfl rfl ?_
      refine yy_goto (tgt := 21) F d_K_sift_17 (by decide) ?_
      refine yy_crv F hSw_2 (c_K_demandKind X) (yy_Bc F X.1 q_270 q_1) (yy_invS (nA := 1) (bytes := b_K_demandKind) (maxL := 1) (retY := none) F X.1 q_268 q_269 q_1 q_270 ⟨by decide, by decide, by decide +kernel⟩ rfl d_K_sift_21) d_K_sift_21 (n := 24) rfl (by simp [Value.category]) ⟨by decide, by decide⟩ ⟨Nat.zero_le _, Nat.zero_le _⟩ ⟨rfl, rfl⟩ trivial (fun _ hSw_4 => ?_)
      refine yy_aload F d_K_sift_24 (n := 26) rfl 0 rfl ?_
      cases hs : k_stale σ (cN x)
      · refine yy_crv F hSw_4 (c_K_demandFresh X I hc hs) (yy_Bc F X.1 q_289 q_1) (yy_invS (nA := 1) (bytes := b_K_demandFresh) (maxL := 1) (retY := none) F X.1 q_287 q_288 q_1 q_289 ⟨by decide, by decide, by decide +kernel⟩ rfl d_K_sift_26) d_K_sift_26 (n := 29) rfl (by simp [Value.category]) ⟨by decide, by decide⟩ ⟨Nat.zero_le _, Nat.zero_le _⟩ ⟨rfl, rfl⟩ hP (fun _ hSw_5 => ?_)
        refine yy_iload_n F d_K_sift_29 (n := 30) rfl 3 rfl ?_
        refine yy_iconst (v := 1) F d_K_sift_30 (n := 31) rfl rfl ?_
        refine yy_ic_lt (tgt := 38) F d_K_sift_31 (n := 34) rfl (by decide) (fun h1 => ?_) (fun h1 => ?_)
        · refine yy_iconst (v := 0) F d_K_sift_38 (n := 39) rfl rfl ?_
          exact yy_ctp F hSw_5 (c_K_demandArgument_no X) (yy_Bc F X.1 q_72 q_1) (yy_invS (nA := 1) (bytes := b_K_demandArgument) (maxL := 1) (retY := none) F X.1 q_70 q_71 q_1 q_72 ⟨by decide, by decide, by decide +kernel⟩ rfl d_K_sift_39) d_K_sift_39 (by simp [Value.category]) ⟨by decide, by decide⟩ ⟨by decide, by decide⟩ trivial (fun H1 hx => kq_no (by unfold sp_sift; rw [hE, h5d, hs, decide_eq_true h1]; rfl) hP hx)
        · refine yy_iconst (v := 1) F d_K_sift_34 (n := 35) rfl rfl ?_
          refine yy_goto (tgt := 39) F d_K_sift_35 (by decide) ?_
          refine yy_crv F hSw_5 (c_K_demandArgument X) (yy_Bc F X.1 q_72 q_1) (yy_invS (nA := 1) (bytes := b_K_demandArgument) (maxL := 1) (retY := none) F X.1 q_70 q_71 q_1 q_72 ⟨by decide, by decide, by decide +kernel⟩ rfl d_K_sift_39) d_K_sift_39 (n := 42) rfl (by simp [Value.category]) ⟨by decide, by decide⟩ ⟨Nat.zero_le _, Nat.zero_le _⟩ ⟨rfl, rfl⟩ trivial (fun _ hSw_7 => ?_)
          refine yy_aload F d_K_sift_42 (n := 44) rfl 0 rfl ?_
          refine yy_iload_n F d_K_sift_44 (n := 45) rfl 3 rfl ?_
          refine yy_iload_n F d_K_sift_45 (n := 46) rfl 4 rfl ?_
          refine yy_ci F hSw_7 (c_C_takeAll (A := A) (σ := σ) (c := cN x) X I hc (by_ := by_) (rest := rest) h1 (k_fr_of hs) ht) (yy_Bc F X.1 q_733 q_9) (yy_invC (nA := 2) (x := y_C_takeAll) F X hP hc q_727 q_729 (k_dec X q_728 q_733) (k_sel q_732 q_730 q_731 σ (cN x)) q_728 ⟨by decide, by decide, by decide +kernel⟩ rfl d_K_sift_46) d_K_sift_46 (n := 49) rfl (by simp [Value.category]) ⟨by decide, by decide⟩ ⟨Nat.zero_le _, Nat.zero_le _⟩ ⟨rfl, rfl⟩ hP (fun r_w_8 Hw_8 locs_w_8 qw_8 Sw_8 => ?_)
          obtain ⟨ew_8, Pw_8, kw_8⟩ := qw_8
          rw [ew_8]
          have kw_8 := kpA.rf.tr kw_8
          exact yy_iret F Sw_8 ⟨Nat.zero_le _, Nat.zero_le _⟩ rfl d_K_sift_49 (kq_i (by unfold sp_sift; rw [hE, h5d, hs, decide_eq_false h1]; rfl) Pw_8 kw_8)
      · exact yy_ctp F hSw_4 (c_K_demandFresh_no X I hc hs) (yy_Bc F X.1 q_289 q_1) (yy_invS (nA := 1) (bytes := b_K_demandFresh) (maxL := 1) (retY := none) F X.1 q_287 q_288 q_1 q_289 ⟨by decide, by decide, by decide +kernel⟩ rfl d_K_sift_26) d_K_sift_26 (by simp [Value.category]) ⟨by decide, by decide⟩ ⟨by decide, by decide⟩ hP (fun H1 hx => kq_no (by unfold sp_sift; rw [hE, h5d, hs]; rfl) hP hx)
set_option maxRecDepth 100000 in
set_option maxHeartbeats 4000000 in
theorem c_K_open {l : Launch} {z : State} {a0 : Array Value} {D : va_G} {ca : kca} (X : kcx l z a0 D ca) {A : kA} {σ : ks} {t : Nat} (I : iv t σ) {x y : Int32} : yy_M l z y_K_open (.code y_K_open b_K_open 5 none) ({ frames := 7, cells := 1, slots := 6, locals := 103 }) [.ref (a_k A), .int x, .int y] (ck_at D ca z A σ) (kqv D ca z A (sp_open σ x y)) := by
  refine yy_body (plainFor_of_name (by decide)) (Nat.le_of_ble_eq_true rfl) (fun b H F hS hP hH hnm => ?_)
  cases hw4 : ym_inb x 4
  · refine yy_aload_n F d_K_open_0 (n := 1) rfl 0 rfl ?_
    refine yy_iload_n F d_K_open_1 (n := 2) rfl 1 rfl ?_
    exact yy_ctp F hS (c_K_walkAt_no X I (inb_no (by rw [hw4]; decide))) (yy_Bc F X.1 q_769 q_1) (yy_invV (nA := 1) (C := R_K) (bytes := b_K_walkAt) (maxL := 2) (retY := (some (.object "ContainerKit$Walk"))) F X.1 q_766 q_768 qs_K_walkAt q_769 ⟨by decide, by decide, by decide +kernel⟩ (yy_recv F.N X.2.1 (ci := 5) rfl hP.k) rfl d_K_open_2) d_K_open_2 (by simp [Value.category]) ⟨by decide, by decide⟩ ⟨by decide, by decide⟩ hP (fun H1 hx => kq_no (by unfold sp_open; rw [hw4]; rfl) hP hx)
  · obtain ⟨hi, ex⟩ := inb_cN (by decide) hw4
    refine yy_aload_n F d_K_open_0 (n := 1) rfl 0 rfl ?_
    refine yy_iload_n F d_K_open_1 (n := 2) rfl 1 rfl ?_
    refine yy_crr (w := (some (a_wd A (cN x)))) F hS (k_wat X I hi ex) (yy_Bc F X.1 q_769 q_1) (yy_invV (nA := 1) (C := R_K) (bytes := b_K_walkAt) (maxL := 2) (retY := (some (.object "ContainerKit$Walk"))) F X.1 q_766 q_768 qs_K_walkAt q_769 ⟨by decide, by decide, by decide +kernel⟩ (yy_recv F.N X.2.1 (ci := 5) rfl hP.k) rfl d_K_open_2) d_K_open_2 (n := 5) rfl (by simp [Value.category]) ⟨by decide, by decide⟩ ⟨Nat.zero_le _, Nat.zero_le _⟩ ⟨rfl, rfl⟩ hP rfl (fun _ hSw_2 => ?_)
    refine yy_astore_n (lv' := [(3, .ref (a_wd A (cN x))), (0, .ref (a_k A)), (1, .int x), (2, .int y)]) F d_K_open_5 (n := 6) rfl (by decide) rfl ?_
    refine yy_aload_n F d_K_open_6 (n := 7) rfl 1 rfl ?_
    refine yy_iload_n F d_K_open_7 (n := 8) rfl 3 rfl ?_
    cases hEy : ch_con σ y with
    | some E =>
      obtain ⟨hin, rfl⟩ := ch_con_some hEy
      exact yy_ctp F hSw_2 (c_K_containerAt_no X I hin) (yy_Bc F X.1 q_237 q_1) (yy_invV (nA := 1) (C := R_K) (bytes := b_K_containerAt) (maxL := 2) (retY := (some (.object "ContainerKit$Container"))) F X.1 q_234 q_236 qs_K_containerAt q_237 ⟨by decide, by decide, by decide +kernel⟩ (yy_recv F.N X.2.1 (ci := 5) rfl hP.k) rfl d_K_open_8) d_K_open_8 (by simp [Value.category]) ⟨by decide, by decide⟩ ⟨by decide, by decide⟩ hP (fun H1 hx => kq_no (by unfold sp_open; rw [hw4, hEy]; rfl) hP hx)
    | none =>
      obtain ⟨hcy, exy⟩ := ch_con_none I.m10 hEy
      refine yy_crr (w := (some (a_ad A (cN y)))) F hSw_2 (k_cat X I hcy exy) (yy_Bc F X.1 q_237 q_1) (yy_invV (nA := 1) (C := R_K) (bytes := b_K_containerAt) (maxL := 2) (retY := (some (.object "ContainerKit$Container"))) F X.1 q_234 q_236 qs_K_containerAt q_237 ⟨by decide, by decide, by decide +kernel⟩ (yy_recv F.N X.2.1 (ci := 5) rfl hP.k) rfl d_K_open_8) d_K_open_8 (n := 11) rfl (by simp [Value.category]) ⟨by decide, by decide⟩ ⟨Nat.zero_le _, Nat.zero_le _⟩ ⟨rfl, rfl⟩ hP rfl (fun _ hSw_4 => ?_)
      refine yy_astore (lv' := [(4, .ref (a_ad A (cN y))), (3, .ref (a_wd A (cN x))), (0, .ref (a_k A)), (1, .int x), (2, .int y)]) F d_K_open_11 (n := 13) rfl (by decide) rfl ?_
      refine yy_aload F d_K_open_13 (n := 15) rfl 0 rfl ?_
      refine cr_kind F X g_K_71_G g_K_71_P g_K_71_R hP hcy d_K_open_15 (n := 18) rfl ?_
      refine yy_iconst (v := 5) F d_K_open_18 (n := 19) rfl rfl ?_
      refine yy_ic_eq (tgt := 26) F d_K_open_19 (n := 22) rfl (by decide) (fun h5 => ?_) (fun h5 => ?_)
      · refine yy_iconst (v := 0) F d_K_open_26 (n := 27) rfl rfl ?_
        exact yy_ctp F hSw_4 (c_K_demandKind_no X) (yy_Bc F X.1 q_270 q_1) (yy_invS (nA := 1) (bytes := b_K_demandKind) (maxL := 1) (retY := none) F X.1 q_268 q_269 q_1 q_270 ⟨by decide, by decide, by decide +kernel⟩ rfl d_K_open_27) d_K_open_27 (by simp [Value.category]) ⟨by decide, by decide⟩ ⟨by decide, by decide⟩ trivial (fun H1 hx => kq_no (by unfold sp_open; rw [hw4, hEy, decide_eq_true h5]; rfl) hP hx)
      · have h5d := decide_eq_false h5
        refine yy_iconst (v := 1) F d_K_open_22 (n := 23) rfl rfl ?_
        refine yy_goto (tgt := 27) F d_K_open_23 (by decide) ?_
        refine yy_crv F hSw_4 (c_K_demandKind X) (yy_Bc F X.1 q_270 q_1) (yy_invS (nA := 1) (bytes := b_K_demandKind) (maxL := 1) (retY := none) F X.1 q_268 q_269 q_1 q_270 ⟨by decide, by decide, by decide +kernel⟩ rfl d_K_open_27) d_K_open_27 (n := 30) rfl (by simp [Value.category]) ⟨by decide, by decide⟩ ⟨Nat.zero_le _, Nat.zero_le _⟩ ⟨rfl, rfl⟩ trivial (fun _ hSw_6 => ?_)
        refine yy_aload F d_K_open_30 (n := 32) rfl 0 rfl ?_
        cases hsy : k_stale σ (cN y)
        · refine yy_crv F hSw_6 (c_K_demandFresh X I hcy hsy) (yy_Bc F X.1 q_289 q_1) (yy_invS (nA := 1) (bytes := b_K_demandFresh) (maxL := 1) (retY := none) F X.1 q_287 q_288 q_1 q_289 ⟨by decide, by decide, by decide +kernel⟩ rfl d_K_open_32) d_K_open_32 (n := 35) rfl (by simp [Value.category]) ⟨by decide, by decide⟩ ⟨Nat.zero_le _, Nat.zero_le _⟩ ⟨rfl, rfl⟩ hP (fun _ hSw_7 => ?_)
          refine yy_aload_n F d_K_open_35 (n := 36) rfl 1 rfl ?_
          refine yy_aload F d_K_open_36 (n := 38) rfl 0 rfl ?_
          refine yy_cv F hSw_7 (c_W_begin (A := A) (σ := σ) (c := cN y) (i := cN x) X hcy hi) (yy_Bc F X.1 q_774 q_2) (yy_invV (nA := 1) (C := R_W) (bytes := b_W_begin) (maxL := 2) (retY := none) F X.1 q_771 q_772 q_773 q_774 ⟨by decide, by decide, by decide +kernel⟩ (yy_recv F.N X.2.1 (ci := 4) rfl (hP.w hi)) rfl d_K_open_38) d_K_open_38 (n := 41) rfl (by simp [Value.category]) ⟨by decide, by decide⟩ ⟨Nat.zero_le _, Nat.zero_le _⟩ ⟨rfl, rfl⟩ hP (fun Hw_8 locs_w_8 qw_8 Sw_8 => ?_)
          obtain ⟨Pw_8, kw_8⟩ := qw_8
          have kw_8 := kpA.rf.tr kw_8
          exact yy_vret F Sw_8 ⟨Nat.zero_le _, Nat.zero_le _⟩ rfl d_K_open_41 (kq_v (v := 0) (by unfold sp_open; rw [hw4, hEy, h5d, hsy]; rfl) Pw_8 kw_8)
        · exact yy_ctp F hSw_6 (c_K_demandFresh_no X I hcy hsy) (yy_Bc F X.1 q_289 q_1) (yy_invS (nA := 1) (bytes := b_K_demandFresh) (maxL := 1) (retY := none) F X.1 q_287 q_288 q_1 q_289 ⟨by decide, by decide, by decide +kernel⟩ rfl d_K_open_32) d_K_open_32 (by simp [Value.category]) ⟨by decide, by decide⟩ ⟨by decide, by decide⟩ hP (fun H1 hx => kq_no (by unfold sp_open; rw [hw4, hEy, h5d, hsy]; rfl) hP hx)
set_option maxRecDepth 100000 in
set_option maxHeartbeats 4000000 in
theorem c_K_next {l : Launch} {z : State} {a0 : Array Value} {D : va_G} {ca : kca} (X : kcx l z a0 D ca) {A : kA} {σ : ks} {t : Nat} (I : iv t σ) {x e : Int32} : yy_M l z y_K_next (.code y_K_next b_K_next 6 (some .int)) ({ frames := 8, cells := 1, slots := 6, locals := 125 }) [.ref (a_k A), .int x, .int e] (ck_at D ca z A σ) (kqi D ca z A (sp_next σ x e)) := by
  refine yy_body (plainFor_of_name (by decide)) (Nat.le_of_ble_eq_true rfl) (fun b H F hS hP hH hnm => ?_)
  cases hE : ch_wk σ x with
  | some E =>
    refine yy_aload_n F d_K_next_0 (n := 1) rfl 0 rfl ?_
    refine yy_iload_n F d_K_next_1 (n := 2) rfl 1 rfl ?_
    exact yy_ctp F hS (c_K_openedWalkAt_no X I hE) (yy_Bc F X.1 q_789 q_1) (yy_invV (nA := 1) (C := R_K) (bytes := b_K_openedWalkAt) (maxL := 3) (retY := (some (.object "ContainerKit$Walk"))) F X.1 q_786 q_788 qs_K_openedWalkAt q_789 ⟨by decide, by decide, by decide +kernel⟩ (yy_recv F.N X.2.1 (ci := 5) rfl hP.k) rfl d_K_next_2) d_K_next_2 (by simp [Value.category]) ⟨by decide, by decide⟩ ⟨by decide, by decide⟩ hP (fun H1 hx => kq_no (by unfold sp_next; rw [hE]; rfl) hP hx)
  | none =>
    obtain ⟨hi, ex, hov, hc⟩ := ch_wk_none I hE
    refine yy_aload_n F d_K_next_0 (n := 1) rfl 0 rfl ?_
    refine yy_iload_n F d_K_next_1 (n := 2) rfl 1 rfl ?_
    refine yy_crr (w := (some (a_wd A (cN x)))) F hS (c_K_openedWalkAt_x X I hE) (yy_Bc F X.1 q_789 q_1) (yy_invV (nA := 1) (C := R_K) (bytes := b_K_openedWalkAt) (maxL := 3) (retY := (some (.object "ContainerKit$Walk"))) F X.1 q_786 q_788 qs_K_openedWalkAt q_789 ⟨by decide, by decide, by decide +kernel⟩ (yy_recv F.N X.2.1 (ci := 5) rfl hP.k) rfl d_K_next_2) d_K_next_2 (n := 5) rfl (by simp [Value.category]) ⟨by decide, by decide⟩ ⟨Nat.zero_le _, Nat.zero_le _⟩ ⟨rfl, rfl⟩ hP rfl (fun _ hSw_2 => ?_)
    refine yy_astore_n (lv' := [(3, .ref (a_wd A (cN x))), (0, .ref (a_k A)), (1, .int x), (2, .int e)]) F d_K_next_5 (n := 6) rfl (by decide) rfl ?_
    refine yy_aload_n F d_K_next_6 (n := 7) rfl 0 rfl ?_
    refine yy_get F X.1 X.2.1 g_K_171_W (hP.wo hi hov) rfl d_K_next_7 (n := 10) rfl ?_
    refine yy_astore (lv' := [(4, .ref (a_ad A (k_ov σ (cN x)))), (3, .ref (a_wd A (cN x))), (0, .ref (a_k A)), (1, .int x), (2, .int e)]) F d_K_next_10 (n := 12) rfl (by decide) rfl ?_
    refine yy_iload_n F d_K_next_12 (n := 13) rfl 4 rfl ?_
    refine yy_if_ne (tgt := 24) F d_K_next_13 (n := 16) rfl (by decide) (fun h0 => ?_) (fun h0 => ?_)
    · have h0d := decide_eq_false h0
      have hkk : (!decide (e = 0) || k_isl (k_kd σ (k_ov σ (cN x)))) = true := by rw [h0d]; rfl
      refine yy_iconst (v := 1) F d_K_next_24 (n := 25) rfl rfl ?_
      refine yy_goto (tgt := 29) F d_K_next_25 (by decide) ?_
      refine yy_crv F hSw_2 (c_K_demandKind X) (yy_Bc F X.1 q_270 q_1) (yy_invS (nA := 1) (bytes := b_K_demandKind) (maxL := 1) (retY := none) F X.1 q_268 q_269 q_1 q_270 ⟨by decide, by decide, by decide +kernel⟩ rfl d_K_next_29) d_K_next_29 (n := 32) rfl (by simp [Value.category]) ⟨by decide, by decide⟩ ⟨Nat.zero_le _, Nat.zero_le _⟩ ⟨rfl, rfl⟩ trivial (fun _ hSw_3 => ?_)
      refine yy_aload_n F d_K_next_32 (n := 33) rfl 1 rfl ?_
      cases hs : k_lost σ (cN x) (k_ov σ (cN x))
      · refine yy_crv F hSw_3 (c_K_demandFreshWalk X I hi hc hov hs) (yy_Bc F X.1 q_793 q_1) (yy_invS (nA := 1) (bytes := b_K_demandFreshWalk) (maxL := 1) (retY := none) F X.1 q_791 q_792 q_1 q_793 ⟨by decide, by decide, by decide +kernel⟩ rfl d_K_next_33) d_K_next_33 (n := 36) rfl (by simp [Value.category]) ⟨by decide, by decide⟩ ⟨Nat.zero_le _, Nat.zero_le _⟩ ⟨rfl, rfl⟩ hP (fun _ hSw_4 => ?_)
        refine yy_iload_n F d_K_next_36 (n := 37) rfl 4 rfl ?_
        obtain ⟨hst9, hkn9⟩ := k_lost_no hs
        have h24 := I.ct hc
        have hend := I.end hc (k_fr_of hst9)
        refine yy_if_eq_f (tgt := 47) F d_K_next_37 (n := 40) rfl (by decide) h0 ?_
        refine yy_aload_n F d_K_next_40 (n := 41) rfl 1 rfl ?_
        refine yy_get F X.1 X.2.1 g_K_179_W (hP.wo hi hov) rfl d_K_next_41 (n := 44) rfl ?_
        refine yy_goto (tgt := 53) F d_K_next_44 (by decide) ?_
        refine yy_istore (lv' := [(5, .int (nI (k_W σ (cN x)).2.1)), (4, .ref (a_ad A (k_ov σ (cN x)))), (3, .ref (a_wd A (cN x))), (0, .ref (a_k A)), (1, .int x), (2, .int e)]) F d_K_next_53 (n := 55) rfl (by decide) rfl ?_
        refine yy_aload F d_K_next_55 (n := 57) rfl 1 rfl ?_
        refine yy_iload F d_K_next_57 (n := 59) rfl 0 rfl ?_
        have hnx : k_nx σ (cN x) e = nI (k_W σ (cN x)).2.1 := if_neg h0
        rw [← hnx]
        refine yy_cri (w := (ym_n (ym_inb (k_nx σ (cN x) e) (k_size σ (k_ov σ (cN x)))))) F hSw_4 (c_C_isPlace (A := A) (σ := σ) (c := k_ov σ (cN x)) (p := k_nx σ (cN x) e) X I hc) (yy_Bc F X.1 q_425 q_9) (yy_invC (nA := 1) (x := y_C_isPlace) F X hP hc q_419 q_421 (k_dec X q_420 q_425) (k_sel q_424 q_422 q_423 σ (k_ov σ (cN x))) q_420 ⟨by decide, by decide, by decide +kernel⟩ rfl d_K_next_59) d_K_next_59 (n := 62) rfl (by simp [Value.category]) ⟨by decide, by decide⟩ ⟨Nat.zero_le _, Nat.zero_le _⟩ ⟨rfl, rfl⟩ hP rfl (fun _ hSw_5 => ?_)
        cases hp : ym_inb (k_nx σ (cN x) e) (k_size σ (k_ov σ (cN x)))
        · exact yy_ctp F hSw_5 (c_K_demandThere_no X) (yy_Bc F X.1 q_429 q_1) (yy_invS (nA := 1) (bytes := b_K_demandThere) (maxL := 1) (retY := none) F X.1 q_427 q_428 q_1 q_429 ⟨by decide, by decide, by decide +kernel⟩ rfl d_K_next_62) d_K_next_62 (by simp [Value.category]) ⟨by decide, by decide⟩ ⟨by decide, by decide⟩ trivial (fun H1 hx => kq_no (by unfold sp_next; rw [hE, hkk, hs, hp]; rfl) hP hx)
        · obtain ⟨hp1, hp2⟩ := inb_cN (by omega) hp
          refine yy_crv F hSw_5 (c_K_demandThere X) (yy_Bc F X.1 q_429 q_1) (yy_invS (nA := 1) (bytes := b_K_demandThere) (maxL := 1) (retY := none) F X.1 q_427 q_428 q_1 q_429 ⟨by decide, by decide, by decide +kernel⟩ rfl d_K_next_62) d_K_next_62 (n := 65) rfl (by simp [Value.category]) ⟨by decide, by decide⟩ ⟨Nat.zero_le _, Nat.zero_le _⟩ ⟨rfl, rfl⟩ trivial (fun _ hSw_7 => ?_)
          refine yy_aload_n F d_K_next_65 (n := 66) rfl 2 rfl ?_
          refine yy_iload F d_K_next_66 (n := 68) rfl 0 rfl ?_
          refine yy_iload_n F d_K_next_68 (n := 69) rfl 5 rfl ?_
          have hgo := c_W_goOver (A := A) (σ := σ) (i := cN x) (j := cN (k_nx σ (cN x) e)) (e := e) X hi
          rw [← hp2] at hgo
          refine yy_cv F hSw_7 hgo (yy_Bc F X.1 q_803 q_2) (yy_invV (nA := 2) (C := R_W) (bytes := b_W_goOver) (maxL := 3) (retY := none) F X.1 q_800 q_801 q_802 q_803 ⟨by decide, by decide, by decide +kernel⟩ (yy_recv F.N X.2.1 (ci := 4) rfl (hP.w hi)) rfl d_K_next_69) d_K_next_69 (n := 72) rfl (by simp [Value.category]) ⟨by decide, by decide⟩ ⟨Nat.zero_le _, Nat.zero_le _⟩ ⟨rfl, rfl⟩ hP (fun Hw_8 locs_w_8 qw_8 Sw_8 => ?_)
          obtain ⟨Pw_8, kw_8⟩ := qw_8
          have kw_8 := kpA.rf.tr kw_8
          refine yy_aload F d_K_next_72 (n := 74) rfl 1 rfl ?_
          refine yy_iload F d_K_next_74 (n := 76) rfl 0 rfl ?_
          have I2 := I.goOver (e := e) hi hov hs hp1 hp2
          refine yy_cri (w := (s_nu (k_B σ (k_ov σ (cN x))) (k_start σ (k_ov σ (cN x)) + cN (k_nx σ (cN x) e)))) F Sw_8 (c_C_numberAt (A := A) (σ := k_setW σ (cN x) ((k_W σ (cN x)).1, if e = 0 then cN (k_nx σ (cN x) e) else cN (k_nx σ (cN x) e) + 1, k_nx σ (cN x) e, (k_W σ (cN x)).2.2.2)) (c := k_ov σ (cN x)) X I2 hc (x := k_nx σ (cN x) e) (q := k_start σ (k_ov σ (cN x)) + cN (k_nx σ (cN x) e)) (by rw [← nI_add, ← hp2]; rfl) (show k_start σ (k_ov σ (cN x)) + cN (k_nx σ (cN x) e) < s_ct (k_B σ (k_ov σ (cN x))) by omega)) (yy_Bc F X.1 q_452 q_9) (yy_invC (nA := 1) (x := y_C_numberAt) F X Pw_8 (show k_ov σ (cN x) < k_m (k_setW σ (cN x) ((k_W σ (cN x)).1, if e = 0 then cN (k_nx σ (cN x) e) else cN (k_nx σ (cN x) e) + 1, k_nx σ (cN x) e, (k_W σ (cN x)).2.2.2)) from hc) q_446 q_448 (k_dec X q_447 q_452) (k_sel q_451 q_449 q_450 (k_setW σ (cN x) ((k_W σ (cN x)).1, if e = 0 then cN (k_nx σ (cN x) e) else cN (k_nx σ (cN x) e) + 1, k_nx σ (cN x) e, (k_W σ (cN x)).2.2.2)) (k_ov σ (cN x))) q_447 ⟨by decide, by decide, by decide +kernel⟩ rfl d_K_next_76) d_K_next_76 (n := 79) rfl (by simp [Value.category]) ⟨by decide, by decide⟩ ⟨Nat.zero_le _, Nat.zero_le _⟩ ⟨rfl, rfl⟩ Pw_8 rfl (fun _ hSw_9 => ?_)
          exact yy_iret F hSw_9 ⟨Nat.zero_le _, Nat.zero_le _⟩ rfl d_K_next_79 (kq_i (by unfold sp_next; rw [hE, hkk, hs, hp, ← hp2]; rfl) Pw_8 kw_8)
      · exact yy_ctp F hSw_3 (c_K_demandFreshWalk_no X I hi hc hov hs) (yy_Bc F X.1 q_793 q_1) (yy_invS (nA := 1) (bytes := b_K_demandFreshWalk) (maxL := 1) (retY := none) F X.1 q_791 q_792 q_1 q_793 ⟨by decide, by decide, by decide +kernel⟩ rfl d_K_next_33) d_K_next_33 (by simp [Value.category]) ⟨by decide, by decide⟩ ⟨by decide, by decide⟩ hP (fun H1 hx => kq_no (by unfold sp_next; rw [hE, hkk, hs]; rfl) hP hx)
    · have h0d := decide_eq_true h0
      refine yy_aload F d_K_next_16 (n := 18) rfl 0 rfl ?_
      refine yy_cri (w := (ym_n (k_isl (k_kd σ (k_ov σ (cN x)))))) F hSw_2 (c_C_isList (A := A) (σ := σ) (c := k_ov σ (cN x)) X I hc) (yy_Bc F X.1 q_260 q_9) (yy_invC (nA := 0) (x := y_C_isList) F X hP hc q_254 q_256 (k_dec X q_255 q_260) (k_sel q_259 q_257 q_258 σ (k_ov σ (cN x))) q_255 ⟨by decide, by decide, by decide +kernel⟩ rfl d_K_next_18) d_K_next_18 (n := 21) rfl (by simp [Value.category]) ⟨by decide, by decide⟩ ⟨Nat.zero_le _, Nat.zero_le _⟩ ⟨rfl, rfl⟩ hP rfl (fun _ hSw_11 => ?_)
      cases hl : k_isl (k_kd σ (k_ov σ (cN x)))
      · refine yy_if_eq_t (tgt := 28) F d_K_next_21 (by decide) rfl ?_
        refine yy_iconst (v := 0) F d_K_next_28 (n := 29) rfl rfl ?_
        exact yy_ctp F hSw_11 (c_K_demandKind_no X) (yy_Bc F X.1 q_270 q_1) (yy_invS (nA := 1) (bytes := b_K_demandKind) (maxL := 1) (retY := none) F X.1 q_268 q_269 q_1 q_270 ⟨by decide, by decide, by decide +kernel⟩ rfl d_K_next_29) d_K_next_29 (by simp [Value.category]) ⟨by decide, by decide⟩ ⟨by decide, by decide⟩ trivial (fun H1 hx => kq_no (by unfold sp_next; rw [hE, h0d, hl]; rfl) hP hx)
      · refine yy_if_eq_f (tgt := 28) F d_K_next_21 (n := 24) rfl (by decide) (by decide) ?_
        have hkk : (!decide (e = 0) || k_isl (k_kd σ (k_ov σ (cN x)))) = true := by rw [hl]; exact Bool.or_true _
        refine yy_iconst (v := 1) F d_K_next_24 (n := 25) rfl rfl ?_
        refine yy_goto (tgt := 29) F d_K_next_25 (by decide) ?_
        refine yy_crv F hSw_11 (c_K_demandKind X) (yy_Bc F X.1 q_270 q_1) (yy_invS (nA := 1) (bytes := b_K_demandKind) (maxL := 1) (retY := none) F X.1 q_268 q_269 q_1 q_270 ⟨by decide, by decide, by decide +kernel⟩ rfl d_K_next_29) d_K_next_29 (n := 32) rfl (by simp [Value.category]) ⟨by decide, by decide⟩ ⟨Nat.zero_le _, Nat.zero_le _⟩ ⟨rfl, rfl⟩ trivial (fun _ hSw_13 => ?_)
        refine yy_aload_n F d_K_next_32 (n := 33) rfl 1 rfl ?_
        cases hs : k_lost σ (cN x) (k_ov σ (cN x))
        · refine yy_crv F hSw_13 (c_K_demandFreshWalk X I hi hc hov hs) (yy_Bc F X.1 q_793 q_1) (yy_invS (nA := 1) (bytes := b_K_demandFreshWalk) (maxL := 1) (retY := none) F X.1 q_791 q_792 q_1 q_793 ⟨by decide, by decide, by decide +kernel⟩ rfl d_K_next_33) d_K_next_33 (n := 36) rfl (by simp [Value.category]) ⟨by decide, by decide⟩ ⟨Nat.zero_le _, Nat.zero_le _⟩ ⟨rfl, rfl⟩ hP (fun _ hSw_14 => ?_)
          refine yy_iload_n F d_K_next_36 (n := 37) rfl 4 rfl ?_
          obtain ⟨hst9, hkn9⟩ := k_lost_no hs
          have h24 := I.ct hc
          have hend := I.end hc (k_fr_of hst9)
          refine yy_if_eq_t (tgt := 47) F d_K_next_37 (by decide) h0 ?_
          refine yy_aload_n F d_K_next_47 (n := 48) rfl 1 rfl ?_
          refine yy_get F X.1 X.2.1 g_K_179_W (hP.wo hi hov) rfl d_K_next_48 (n := 51) rfl ?_
          refine yy_iconst (v := 1) F d_K_next_51 (n := 52) rfl rfl ?_
          refine yy_isub F d_K_next_52 (n := 53) rfl ?_
          refine yy_istore (lv' := [(5, .int ((nI (k_W σ (cN x)).2.1) - 1)), (4, .ref (a_ad A (k_ov σ (cN x)))), (3, .ref (a_wd A (cN x))), (0, .ref (a_k A)), (1, .int x), (2, .int e)]) F d_K_next_53 (n := 55) rfl (by decide) rfl ?_
          refine yy_aload F d_K_next_55 (n := 57) rfl 1 rfl ?_
          refine yy_iload F d_K_next_57 (n := 59) rfl 0 rfl ?_
          have hnx : k_nx σ (cN x) e = (nI (k_W σ (cN x)).2.1) - 1 := if_pos h0
          rw [← hnx]
          refine yy_cri (w := (ym_n (ym_inb (k_nx σ (cN x) e) (k_size σ (k_ov σ (cN x)))))) F hSw_14 (c_C_isPlace (A := A) (σ := σ) (c := k_ov σ (cN x)) (p := k_nx σ (cN x) e) X I hc) (yy_Bc F X.1 q_425 q_9) (yy_invC (nA := 1) (x := y_C_isPlace) F X hP hc q_419 q_421 (k_dec X q_420 q_425) (k_sel q_424 q_422 q_423 σ (k_ov σ (cN x))) q_420 ⟨by decide, by decide, by decide +kernel⟩ rfl d_K_next_59) d_K_next_59 (n := 62) rfl (by simp [Value.category]) ⟨by decide, by decide⟩ ⟨Nat.zero_le _, Nat.zero_le _⟩ ⟨rfl, rfl⟩ hP rfl (fun _ hSw_15 => ?_)
          cases hp : ym_inb (k_nx σ (cN x) e) (k_size σ (k_ov σ (cN x)))
          · exact yy_ctp F hSw_15 (c_K_demandThere_no X) (yy_Bc F X.1 q_429 q_1) (yy_invS (nA := 1) (bytes := b_K_demandThere) (maxL := 1) (retY := none) F X.1 q_427 q_428 q_1 q_429 ⟨by decide, by decide, by decide +kernel⟩ rfl d_K_next_62) d_K_next_62 (by simp [Value.category]) ⟨by decide, by decide⟩ ⟨by decide, by decide⟩ trivial (fun H1 hx => kq_no (by unfold sp_next; rw [hE, hkk, hs, hp]; rfl) hP hx)
          · obtain ⟨hp1, hp2⟩ := inb_cN (by omega) hp
            refine yy_crv F hSw_15 (c_K_demandThere X) (yy_Bc F X.1 q_429 q_1) (yy_invS (nA := 1) (bytes := b_K_demandThere) (maxL := 1) (retY := none) F X.1 q_427 q_428 q_1 q_429 ⟨by decide, by decide, by decide +kernel⟩ rfl d_K_next_62) d_K_next_62 (n := 65) rfl (by simp [Value.category]) ⟨by decide, by decide⟩ ⟨Nat.zero_le _, Nat.zero_le _⟩ ⟨rfl, rfl⟩ trivial (fun _ hSw_17 => ?_)
            refine yy_aload_n F d_K_next_65 (n := 66) rfl 2 rfl ?_
            refine yy_iload F d_K_next_66 (n := 68) rfl 0 rfl ?_
            refine yy_iload_n F d_K_next_68 (n := 69) rfl 5 rfl ?_
            have hgo := c_W_goOver (A := A) (σ := σ) (i := cN x) (j := cN (k_nx σ (cN x) e)) (e := e) X hi
            rw [← hp2] at hgo
            refine yy_cv F hSw_17 hgo (yy_Bc F X.1 q_803 q_2) (yy_invV (nA := 2) (C := R_W) (bytes := b_W_goOver) (maxL := 3) (retY := none) F X.1 q_800 q_801 q_802 q_803 ⟨by decide, by decide, by decide +kernel⟩ (yy_recv F.N X.2.1 (ci := 4) rfl (hP.w hi)) rfl d_K_next_69) d_K_next_69 (n := 72) rfl (by simp [Value.category]) ⟨by decide, by decide⟩ ⟨Nat.zero_le _, Nat.zero_le _⟩ ⟨rfl, rfl⟩ hP (fun Hw_18 locs_w_18 qw_18 Sw_18 => ?_)
            obtain ⟨Pw_18, kw_18⟩ := qw_18
            have kw_18 := kpA.rf.tr kw_18
            refine yy_aload F d_K_next_72 (n := 74) rfl 1 rfl ?_
            refine yy_iload F d_K_next_74 (n := 76) rfl 0 rfl ?_
            have I2 := I.goOver (e := e) hi hov hs hp1 hp2
            refine yy_cri (w := (s_nu (k_B σ (k_ov σ (cN x))) (k_start σ (k_ov σ (cN x)) + cN (k_nx σ (cN x) e)))) F Sw_18 (c_C_numberAt (A := A) (σ := k_setW σ (cN x) ((k_W σ (cN x)).1, if e = 0 then cN (k_nx σ (cN x) e) else cN (k_nx σ (cN x) e) + 1, k_nx σ (cN x) e, (k_W σ (cN x)).2.2.2)) (c := k_ov σ (cN x)) X I2 hc (x := k_nx σ (cN x) e) (q := k_start σ (k_ov σ (cN x)) + cN (k_nx σ (cN x) e)) (by rw [← nI_add, ← hp2]; rfl) (show k_start σ (k_ov σ (cN x)) + cN (k_nx σ (cN x) e) < s_ct (k_B σ (k_ov σ (cN x))) by omega)) (yy_Bc F X.1 q_452 q_9) (yy_invC (nA := 1) (x := y_C_numberAt) F X Pw_18 (show k_ov σ (cN x) < k_m (k_setW σ (cN x) ((k_W σ (cN x)).1, if e = 0 then cN (k_nx σ (cN x) e) else cN (k_nx σ (cN x) e) + 1, k_nx σ (cN x) e, (k_W σ (cN x)).2.2.2)) from hc) q_446 q_448 (k_dec X q_447 q_452) (k_sel q_451 q_449 q_450 (k_setW σ (cN x) ((k_W σ (cN x)).1, if e = 0 then cN (k_nx σ (cN x) e) else cN (k_nx σ (cN x) e) + 1, k_nx σ (cN x) e, (k_W σ (cN x)).2.2.2)) (k_ov σ (cN x))) q_447 ⟨by decide, by decide, by decide +kernel⟩ rfl d_K_next_76) d_K_next_76 (n := 79) rfl (by simp [Value.category]) ⟨by decide, by decide⟩ ⟨Nat.zero_le _, Nat.zero_le _⟩ ⟨rfl, rfl⟩ Pw_18 rfl (fun _ hSw_19 => ?_)
            exact yy_iret F hSw_19 ⟨Nat.zero_le _, Nat.zero_le _⟩ rfl d_K_next_79 (kq_i (by unfold sp_next; rw [hE, hkk, hs, hp, ← hp2]; rfl) Pw_18 kw_18)
        · exact yy_ctp F hSw_13 (c_K_demandFreshWalk_no X I hi hc hov hs) (yy_Bc F X.1 q_793 q_1) (yy_invS (nA := 1) (bytes := b_K_demandFreshWalk) (maxL := 1) (retY := none) F X.1 q_791 q_792 q_1 q_793 ⟨by decide, by decide, by decide +kernel⟩ rfl d_K_next_33) d_K_next_33 (by simp [Value.category]) ⟨by decide, by decide⟩ ⟨by decide, by decide⟩ hP (fun H1 hx => kq_no (by unfold sp_next; rw [hE, hkk, hs]; rfl) hP hx)
set_option maxRecDepth 100000 in
set_option maxHeartbeats 4000000 in
theorem c_K_erase {l : Launch} {z : State} {a0 : Array Value} {D : va_G} {ca : kca} (X : kcx l z a0 D ca) {A : kA} {σ : ks} {t : Nat} (I : iv t σ) {x : Int32} : yy_M l z y_K_erase (.code y_K_erase b_K_erase 3 none) ({ frames := 8, cells := 1, slots := 6, locals := 125 }) [.ref (a_k A), .int x] (ck_at D ca z A σ) (kqv D ca z A (sp_erase σ x)) := by
  refine yy_body (plainFor_of_name (by decide)) (Nat.le_of_ble_eq_true rfl) (fun b H F hS hP hH hnm => ?_)
  cases hE : ch_wk σ x with
  | some E =>
    refine yy_aload_n F d_K_erase_0 (n := 1) rfl 0 rfl ?_
    refine yy_iload_n F d_K_erase_1 (n := 2) rfl 1 rfl ?_
    exact yy_ctp F hS (c_K_openedWalkAt_no X I hE) (yy_Bc F X.1 q_789 q_1) (yy_invV (nA := 1) (C := R_K) (bytes := b_K_openedWalkAt) (maxL := 3) (retY := (some (.object "ContainerKit$Walk"))) F X.1 q_786 q_788 qs_K_openedWalkAt q_789 ⟨by decide, by decide, by decide +kernel⟩ (yy_recv F.N X.2.1 (ci := 5) rfl hP.k) rfl d_K_erase_2) d_K_erase_2 (by simp [Value.category]) ⟨by decide, by decide⟩ ⟨by decide, by decide⟩ hP (fun H1 hx => kq_no (by unfold sp_erase; rw [hE]; rfl) hP hx)
  | none =>
    obtain ⟨hi, ex, hov, hc⟩ := ch_wk_none I hE
    refine yy_aload_n F d_K_erase_0 (n := 1) rfl 0 rfl ?_
    refine yy_iload_n F d_K_erase_1 (n := 2) rfl 1 rfl ?_
    refine yy_crr (w := (some (a_wd A (cN x)))) F hS (c_K_openedWalkAt_x X I hE) (yy_Bc F X.1 q_789 q_1) (yy_invV (nA := 1) (C := R_K) (bytes := b_K_openedWalkAt) (maxL := 3) (retY := (some (.object "ContainerKit$Walk"))) F X.1 q_786 q_788 qs_K_openedWalkAt q_789 ⟨by decide, by decide, by decide +kernel⟩ (yy_recv F.N X.2.1 (ci := 5) rfl hP.k) rfl d_K_erase_2) d_K_erase_2 (n := 5) rfl (by simp [Value.category]) ⟨by decide, by decide⟩ ⟨Nat.zero_le _, Nat.zero_le _⟩ ⟨rfl, rfl⟩ hP rfl (fun _ hSw_2 => ?_)
    refine yy_astore_n (lv' := [(2, .ref (a_wd A (cN x))), (0, .ref (a_k A)), (1, .int x)]) F d_K_erase_5 (n := 6) rfl (by decide) rfl ?_
    refine yy_aload_n F d_K_erase_6 (n := 7) rfl 0 rfl ?_
    cases hs : k_lost σ (cN x) (k_ov σ (cN x))
    · refine yy_crv F hSw_2 (c_K_demandFreshWalk X I hi hc hov hs) (yy_Bc F X.1 q_793 q_1) (yy_invS (nA := 1) (bytes := b_K_demandFreshWalk) (maxL := 1) (retY := none) F X.1 q_791 q_792 q_1 q_793 ⟨by decide, by decide, by decide +kernel⟩ rfl d_K_erase_7) d_K_erase_7 (n := 10) rfl (by simp [Value.category]) ⟨by decide, by decide⟩ ⟨Nat.zero_le _, Nat.zero_le _⟩ ⟨rfl, rfl⟩ hP (fun _ hSw_3 => ?_)
      refine yy_aload_n F d_K_erase_10 (n := 11) rfl 0 rfl ?_
      refine yy_get F X.1 X.2.1 g_K_186_W (hP.wo hi hov) rfl d_K_erase_11 (n := 14) rfl ?_
      refine yy_iconst (v := (-1)) F d_K_erase_14 (n := 15) rfl rfl ?_
      refine yy_ic_eq (tgt := 22) F d_K_erase_15 (n := 18) rfl (by decide) (fun hl => ?_) (fun hl => ?_)
      · have hld := decide_eq_true hl
        refine yy_iconst (v := 0) F d_K_erase_22 (n := 23) rfl rfl ?_
        exact yy_ctp F hSw_3 (c_K_demandArgument_no X) (yy_Bc F X.1 q_72 q_1) (yy_invS (nA := 1) (bytes := b_K_demandArgument) (maxL := 1) (retY := none) F X.1 q_70 q_71 q_1 q_72 ⟨by decide, by decide, by decide +kernel⟩ rfl d_K_erase_23) d_K_erase_23 (by simp [Value.category]) ⟨by decide, by decide⟩ ⟨by decide, by decide⟩ trivial (fun H1 hx => kq_no (by unfold sp_erase; rw [hE, hs, hld]; rfl) hP hx)
      · have hld := decide_eq_false hl
        obtain ⟨hla1, hla2⟩ := (I.walk hi hov hs).2 hl
        obtain ⟨hst9, hkn9⟩ := k_lost_no hs
        have h24 := I.ct hc
        have hend := I.end hc (k_fr_of hst9)
        have hq9 : nI (k_start σ (k_ov σ (cN x))) + (k_W σ (cN x)).2.2.1 = nI (k_start σ (k_ov σ (cN x)) + k_la σ (cN x)) := by rw [hla2, nI_add]
        refine yy_iconst (v := 1) F d_K_erase_18 (n := 19) rfl rfl ?_
        refine yy_goto (tgt := 23) F d_K_erase_19 (by decide) ?_
        refine yy_crv F hSw_3 (c_K_demandArgument X) (yy_Bc F X.1 q_72 q_1) (yy_invS (nA := 1) (bytes := b_K_demandArgument) (maxL := 1) (retY := none) F X.1 q_70 q_71 q_1 q_72 ⟨by decide, by decide, by decide +kernel⟩ rfl d_K_erase_23) d_K_erase_23 (n := 26) rfl (by simp [Value.category]) ⟨by decide, by decide⟩ ⟨Nat.zero_le _, Nat.zero_le _⟩ ⟨rfl, rfl⟩ trivial (fun _ hSw_5 => ?_)
        refine yy_aload_n F d_K_erase_26 (n := 27) rfl 0 rfl ?_
        refine yy_get F X.1 X.2.1 g_K_171_W (hP.wo hi hov) rfl d_K_erase_27 (n := 30) rfl ?_
        refine yy_aload_n F d_K_erase_30 (n := 31) rfl 0 rfl ?_
        refine yy_get F X.1 X.2.1 g_K_186_W (hP.wo hi hov) rfl d_K_erase_31 (n := 34) rfl ?_
        have h1t : k_kd σ (k_ov σ (cN x)) = 6 → 1 ≤ k_ln σ (k_ov σ (cN x)) := fun q => by rw [← k_size6 q]; omega
        refine yy_ci F hSw_5 (c_C_take (A := A) (σ := σ) (c := k_ov σ (cN x)) X I hc (x := (k_W σ (cN x)).2.2.1) (q := k_start σ (k_ov σ (cN x)) + k_la σ (cN x)) hq9 (by omega) (k_fr_of hst9) h1t) (yy_Bc F X.1 q_535 q_9) (yy_invC (nA := 1) (x := y_C_take) F X hP hc q_529 q_531 (k_dec X q_530 q_535) (k_sel q_534 q_532 q_533 σ (k_ov σ (cN x))) q_530 ⟨by decide, by decide, by decide +kernel⟩ rfl d_K_erase_34) d_K_erase_34 (n := 37) rfl (by simp [Value.category]) ⟨by decide, by decide⟩ ⟨Nat.zero_le _, Nat.zero_le _⟩ ⟨rfl, rfl⟩ hP (fun r_w_6 Hw_6 locs_w_6 qw_6 Sw_6 => ?_)
        obtain ⟨ew_6, Pw_6, kw_6⟩ := qw_6
        rw [ew_6]
        have kw_6 := kpA.rf.tr kw_6
        obtain ⟨σ1, hσ1⟩ : ∃ σ1 : ks, σ1 = k_take σ (k_ov σ (cN x)) (k_start σ (k_ov σ (cN x)) + k_la σ (cN x)) := ⟨_, rfl⟩
        rw [← hσ1] at Pw_6
        have hw1 : k_W σ1 (cN x) = k_W σ (cN x) := by rw [hσ1]; exact congrFun (k_thru_C I hc _ _).2.2.1 (cN x)
        have hm1 : k_m σ1 = k_m σ := by rw [hσ1]; exact (k_thru_C I hc _ _).1
        have hov1 : (k_W σ1 (cN x)).1 = some (k_ov σ (cN x)) := by rw [hw1]; exact hov
        have O1 := Pw_6.wo hi hov1
        rw [hw1] at O1
        refine yy_pop F d_K_erase_37 (n := 38) rfl rfl ?_
        refine yy_aload_n F d_K_erase_38 (n := 39) rfl 0 rfl ?_
        refine yy_aload_n F d_K_erase_39 (n := 40) rfl 0 rfl ?_
        refine yy_get F X.1 X.2.1 g_K_186_W O1 rfl d_K_erase_40 (n := 43) rfl ?_
        refine yy_tope (y := (nI (k_la σ (cN x)))) hla2 ?_
        refine yy_cv F Sw_6 (c_W_standAt (A := A) (σ := σ1) (c := k_ov σ (cN x)) (i := cN x) (m := k_la σ (cN x)) X (by rw [hm1]; exact hc) hi hov1) (yy_Bc F X.1 q_778 q_2) (yy_invV (nA := 1) (C := R_W) (bytes := b_W_standAt) (maxL := 2) (retY := none) F X.1 q_818 q_776 q_777 q_778 ⟨by decide, by decide, by decide +kernel⟩ (yy_recv F.N X.2.1 (ci := 4) rfl (Pw_6.w hi)) rfl d_K_erase_43) d_K_erase_43 (n := 46) rfl (by simp [Value.category]) ⟨by decide, by decide⟩ ⟨Nat.zero_le _, Nat.zero_le _⟩ ⟨rfl, rfl⟩ Pw_6 (fun Hw_7 locs_w_7 qw_7 Sw_7 => ?_)
        obtain ⟨Pw_7, kw_7⟩ := qw_7
        have kw_7 := kw_6.tr kw_7
        exact yy_vret F Sw_7 ⟨Nat.zero_le _, Nat.zero_le _⟩ rfl d_K_erase_46 (kq_v (v := 0) (by unfold sp_erase; rw [hE, hs, hld, ← hσ1]; rfl) Pw_7 kw_7)
    · exact yy_ctp F hSw_2 (c_K_demandFreshWalk_no X I hi hc hov hs) (yy_Bc F X.1 q_793 q_1) (yy_invS (nA := 1) (bytes := b_K_demandFreshWalk) (maxL := 1) (retY := none) F X.1 q_791 q_792 q_1 q_793 ⟨by decide, by decide, by decide +kernel⟩ rfl d_K_erase_7) d_K_erase_7 (by simp [Value.category]) ⟨by decide, by decide⟩ ⟨by decide, by decide⟩ hP (fun H1 hx => kq_no (by unfold sp_erase; rw [hE, hs]; rfl) hP hx)
set_option maxRecDepth 100000 in
set_option maxHeartbeats 4000000 in
theorem c_K_assign {l : Launch} {z : State} {a0 : Array Value} {D : va_G} {ca : kca} (X : kcx l z a0 D ca) {A : kA} {σ : ks} {t : Nat} (I : iv t σ) {x y : Int32} : yy_M l z y_K_assign (.code y_K_assign b_K_assign 5 (some .int)) ({ frames := 8, cells := 1, slots := 6, locals := 125 }) [.ref (a_k A), .int x, .int y] (ck_at D ca z A σ) (kqi D ca z A (sp_assign σ x y)) := by
  refine yy_body (plainFor_of_name (by decide)) (Nat.le_of_ble_eq_true rfl) (fun b H F hS hP hH hnm => ?_)
  cases hE : ch_wk σ x with
  | some E =>
    refine yy_aload_n F d_K_assign_0 (n := 1) rfl 0 rfl ?_
    refine yy_iload_n F d_K_assign_1 (n := 2) rfl 1 rfl ?_
    exact yy_ctp F hS (c_K_openedWalkAt_no X I hE) (yy_Bc F X.1 q_789 q_1) (yy_invV (nA := 1) (C := R_K) (bytes := b_K_openedWalkAt) (maxL := 3) (retY := (some (.object "ContainerKit$Walk"))) F X.1 q_786 q_788 qs_K_openedWalkAt q_789 ⟨by decide, by decide, by decide +kernel⟩ (yy_recv F.N X.2.1 (ci := 5) rfl hP.k) rfl d_K_assign_2) d_K_assign_2 (by simp [Value.category]) ⟨by decide, by decide⟩ ⟨by decide, by decide⟩ hP (fun H1 hx => kq_no (by unfold sp_assign; rw [hE]; rfl) hP hx)
  | none =>
    obtain ⟨hi, ex, hov, hc⟩ := ch_wk_none I hE
    refine yy_aload_n F d_K_assign_0 (n := 1) rfl 0 rfl ?_
    refine yy_iload_n F d_K_assign_1 (n := 2) rfl 1 rfl ?_
    refine yy_crr (w := (some (a_wd A (cN x)))) F hS (c_K_openedWalkAt_x X I hE) (yy_Bc F X.1 q_789 q_1) (yy_invV (nA := 1) (C := R_K) (bytes := b_K_openedWalkAt) (maxL := 3) (retY := (some (.object "ContainerKit$Walk"))) F X.1 q_786 q_788 qs_K_openedWalkAt q_789 ⟨by decide, by decide, by decide +kernel⟩ (yy_recv F.N X.2.1 (ci := 5) rfl hP.k) rfl d_K_assign_2) d_K_assign_2 (n := 5) rfl (by simp [Value.category]) ⟨by decide, by decide⟩ ⟨Nat.zero_le _, Nat.zero_le _⟩ ⟨rfl, rfl⟩ hP rfl (fun _ hSw_2 => ?_)
    refine yy_astore_n (lv' := [(3, .ref (a_wd A (cN x))), (0, .ref (a_k A)), (1, .int x), (2, .int y)]) F d_K_assign_5 (n := 6) rfl (by decide) rfl ?_
    refine yy_aload_n F d_K_assign_6 (n := 7) rfl 0 rfl ?_
    cases hs : k_lost σ (cN x) (k_ov σ (cN x))
    · refine yy_crv F hSw_2 (c_K_demandFreshWalk X I hi hc hov hs) (yy_Bc F X.1 q_793 q_1) (yy_invS (nA := 1) (bytes := b_K_demandFreshWalk) (maxL := 1) (retY := none) F X.1 q_791 q_792 q_1 q_793 ⟨by decide, by decide, by decide +kernel⟩ rfl d_K_assign_7) d_K_assign_7 (n := 10) rfl (by simp [Value.category]) ⟨by decide, by decide⟩ ⟨Nat.zero_le _, Nat.zero_le _⟩ ⟨rfl, rfl⟩ hP (fun _ hSw_3 => ?_)
      refine yy_aload_n F d_K_assign_10 (n := 11) rfl 0 rfl ?_
      refine yy_get F X.1 X.2.1 g_K_186_W (hP.wo hi hov) rfl d_K_assign_11 (n := 14) rfl ?_
      refine yy_iconst (v := (-1)) F d_K_assign_14 (n := 15) rfl rfl ?_
      refine yy_ic_eq (tgt := 22) F d_K_assign_15 (n := 18) rfl (by decide) (fun hl => ?_) (fun hl => ?_)
      · have hld := decide_eq_true hl
        refine yy_iconst (v := 0) F d_K_assign_22 (n := 23) rfl rfl ?_
        exact yy_ctp F hSw_3 (c_K_demandArgument_no X) (yy_Bc F X.1 q_72 q_1) (yy_invS (nA := 1) (bytes := b_K_demandArgument) (maxL := 1) (retY := none) F X.1 q_70 q_71 q_1 q_72 ⟨by decide, by decide, by decide +kernel⟩ rfl d_K_assign_23) d_K_assign_23 (by simp [Value.category]) ⟨by decide, by decide⟩ ⟨by decide, by decide⟩ trivial (fun H1 hx => kq_no (by unfold sp_assign; rw [hE, hs, hld]; rfl) hP hx)
      · have hld := decide_eq_false hl
        obtain ⟨hla1, hla2⟩ := (I.walk hi hov hs).2 hl
        obtain ⟨hst9, hkn9⟩ := k_lost_no hs
        have h24 := I.ct hc
        have hend := I.end hc (k_fr_of hst9)
        have hq9 : nI (k_start σ (k_ov σ (cN x))) + (k_W σ (cN x)).2.2.1 = nI (k_start σ (k_ov σ (cN x)) + k_la σ (cN x)) := by rw [hla2, nI_add]
        refine yy_iconst (v := 1) F d_K_assign_18 (n := 19) rfl rfl ?_
        refine yy_goto (tgt := 23) F d_K_assign_19 (by decide) ?_
        refine yy_crv F hSw_3 (c_K_demandArgument X) (yy_Bc F X.1 q_72 q_1) (yy_invS (nA := 1) (bytes := b_K_demandArgument) (maxL := 1) (retY := none) F X.1 q_70 q_71 q_1 q_72 ⟨by decide, by decide, by decide +kernel⟩ rfl d_K_assign_23) d_K_assign_23 (n := 26) rfl (by simp [Value.category]) ⟨by decide, by decide⟩ ⟨Nat.zero_le _, Nat.zero_le _⟩ ⟨rfl, rfl⟩ trivial (fun _ hSw_5 => ?_)
        refine yy_aload_n F d_K_assign_26 (n := 27) rfl 0 rfl ?_
        refine yy_get F X.1 X.2.1 g_K_171_W (hP.wo hi hov) rfl d_K_assign_27 (n := 30) rfl ?_
        refine yy_astore (lv' := [(4, .ref (a_ad A (k_ov σ (cN x)))), (3, .ref (a_wd A (cN x))), (0, .ref (a_k A)), (1, .int x), (2, .int y)]) F d_K_assign_30 (n := 32) rfl (by decide) rfl ?_
        refine yy_aload F d_K_assign_32 (n := 34) rfl 0 rfl ?_
        refine yy_cri (w := (ym_n (k_isl (k_kd σ (k_ov σ (cN x)))))) F hSw_5 (c_C_isList (A := A) (σ := σ) (c := k_ov σ (cN x)) X I hc) (yy_Bc F X.1 q_260 q_9) (yy_invC (nA := 0) (x := y_C_isList) F X hP hc q_254 q_256 (k_dec X q_255 q_260) (k_sel q_259 q_257 q_258 σ (k_ov σ (cN x))) q_255 ⟨by decide, by decide, by decide +kernel⟩ rfl d_K_assign_34) d_K_assign_34 (n := 37) rfl (by simp [Value.category]) ⟨by decide, by decide⟩ ⟨Nat.zero_le _, Nat.zero_le _⟩ ⟨rfl, rfl⟩ hP rfl (fun _ hSw_6 => ?_)
        cases hil : k_isl (k_kd σ (k_ov σ (cN x)))
        · refine yy_if_eq_t (tgt := 53) F d_K_assign_37 (by decide) rfl ?_
          refine yy_aload F d_K_assign_53 (n := 55) rfl 0 rfl ?_
          refine yy_aload_n F d_K_assign_55 (n := 56) rfl 1 rfl ?_
          refine yy_get F X.1 X.2.1 g_K_186_W (hP.wo hi hov) rfl d_K_assign_56 (n := 59) rfl ?_
          refine yy_iload_n F d_K_assign_59 (n := 60) rfl 4 rfl ?_
          refine yy_ci F hSw_6 (c_C_changeValue (A := A) (σ := σ) (c := k_ov σ (cN x)) X I hc (x := (k_W σ (cN x)).2.2.1) (y := y) (q := k_start σ (k_ov σ (cN x)) + k_la σ (cN x)) hq9 (by omega)) (yy_Bc F X.1 q_832 q_9) (yy_invC (nA := 2) (x := y_C_changeValue) F X hP hc q_826 q_828 (k_dec X q_827 q_832) (k_sel q_831 q_829 q_830 σ (k_ov σ (cN x))) q_827 ⟨by decide, by decide, by decide +kernel⟩ rfl d_K_assign_60) d_K_assign_60 (n := 63) rfl (by simp [Value.category]) ⟨by decide, by decide⟩ ⟨Nat.zero_le _, Nat.zero_le _⟩ ⟨rfl, rfl⟩ hP (fun r_w_7 Hw_7 locs_w_7 qw_7 Sw_7 => ?_)
          obtain ⟨ew_7, Pw_7, kw_7⟩ := qw_7
          rw [ew_7]
          have kw_7 := kpA.rf.tr kw_7
          exact yy_iret F Sw_7 ⟨Nat.zero_le _, Nat.zero_le _⟩ rfl d_K_assign_63 (kq_i (by unfold sp_assign; rw [hE, hs, hld, hil]; rfl) Pw_7 kw_7)
        · refine yy_if_eq_f (tgt := 53) F d_K_assign_37 (n := 40) rfl (by decide) (by decide) ?_
          refine yy_aload F d_K_assign_40 (n := 42) rfl 0 rfl ?_
          refine yy_aload_n F d_K_assign_42 (n := 43) rfl 1 rfl ?_
          refine yy_get F X.1 X.2.1 g_K_186_W (hP.wo hi hov) rfl d_K_assign_43 (n := 46) rfl ?_
          refine yy_iload_n F d_K_assign_46 (n := 47) rfl 4 rfl ?_
          refine yy_ci F hSw_6 (c_C_changeNumber (A := A) (σ := σ) (c := k_ov σ (cN x)) X I hc (x := (k_W σ (cN x)).2.2.1) (y := y) (q := k_start σ (k_ov σ (cN x)) + k_la σ (cN x)) hq9 (by omega)) (yy_Bc F X.1 q_475 q_9) (yy_invC (nA := 2) (x := y_C_changeNumber) F X hP hc q_469 q_471 (k_dec X q_470 q_475) (k_sel q_474 q_472 q_473 σ (k_ov σ (cN x))) q_470 ⟨by decide, by decide, by decide +kernel⟩ rfl d_K_assign_47) d_K_assign_47 (n := 50) rfl (by simp [Value.category]) ⟨by decide, by decide⟩ ⟨Nat.zero_le _, Nat.zero_le _⟩ ⟨rfl, rfl⟩ hP (fun r_w_8 Hw_8 locs_w_8 qw_8 Sw_8 => ?_)
          obtain ⟨ew_8, Pw_8, kw_8⟩ := qw_8
          rw [ew_8]
          have kw_8 := kpA.rf.tr kw_8
          refine yy_goto (tgt := 63) F d_K_assign_50 (by decide) ?_
          exact yy_iret F Sw_8 ⟨Nat.zero_le _, Nat.zero_le _⟩ rfl d_K_assign_63 (kq_i (by unfold sp_assign; rw [hE, hs, hld, hil]; rfl) Pw_8 kw_8)
    · exact yy_ctp F hSw_2 (c_K_demandFreshWalk_no X I hi hc hov hs) (yy_Bc F X.1 q_793 q_1) (yy_invS (nA := 1) (bytes := b_K_demandFreshWalk) (maxL := 1) (retY := none) F X.1 q_791 q_792 q_1 q_793 ⟨by decide, by decide, by decide +kernel⟩ rfl d_K_assign_7) d_K_assign_7 (by simp [Value.category]) ⟨by decide, by decide⟩ ⟨by decide, by decide⟩ hP (fun H1 hx => kq_no (by unfold sp_assign; rw [hE, hs]; rfl) hP hx)
set_option maxRecDepth 100000 in
set_option maxHeartbeats 4000000 in
theorem c_K_plant {l : Launch} {z : State} {a0 : Array Value} {D : va_G} {ca : kca} (X : kcx l z a0 D ca) {A : kA} {σ : ks} {t : Nat} (I : iv t σ) {x y : Int32} : yy_M l z y_K_plant (.code y_K_plant b_K_plant 5 none) ({ frames := 8, cells := 1, slots := 6, locals := 125 }) [.ref (a_k A), .int x, .int y] (ck_at D ca z A σ) (kqv D ca z A (sp_plant σ x y)) := by
  refine yy_body (plainFor_of_name (by decide)) (Nat.le_of_ble_eq_true rfl) (fun b H F hS hP hH hnm => ?_)
  cases hE : ch_wk σ x with
  | some E =>
    refine yy_aload_n F d_K_plant_0 (n := 1) rfl 0 rfl ?_
    refine yy_iload_n F d_K_plant_1 (n := 2) rfl 1 rfl ?_
    exact yy_ctp F hS (c_K_openedWalkAt_no X I hE) (yy_Bc F X.1 q_789 q_1) (yy_invV (nA := 1) (C := R_K) (bytes := b_K_openedWalkAt) (maxL := 3) (retY := (some (.object "ContainerKit$Walk"))) F X.1 q_786 q_788 qs_K_openedWalkAt q_789 ⟨by decide, by decide, by decide +kernel⟩ (yy_recv F.N X.2.1 (ci := 5) rfl hP.k) rfl d_K_plant_2) d_K_plant_2 (by simp [Value.category]) ⟨by decide, by decide⟩ ⟨by decide, by decide⟩ hP (fun H1 hx => kq_no (by unfold sp_plant; rw [hE]; rfl) hP hx)
  | none =>
    obtain ⟨hi, ex, hov, hc⟩ := ch_wk_none I hE
    refine yy_aload_n F d_K_plant_0 (n := 1) rfl 0 rfl ?_
    refine yy_iload_n F d_K_plant_1 (n := 2) rfl 1 rfl ?_
    refine yy_crr (w := (some (a_wd A (cN x)))) F hS (c_K_openedWalkAt_x X I hE) (yy_Bc F X.1 q_789 q_1) (yy_invV (nA := 1) (C := R_K) (bytes := b_K_openedWalkAt) (maxL := 3) (retY := (some (.object "ContainerKit$Walk"))) F X.1 q_786 q_788 qs_K_openedWalkAt q_789 ⟨by decide, by decide, by decide +kernel⟩ (yy_recv F.N X.2.1 (ci := 5) rfl hP.k) rfl d_K_plant_2) d_K_plant_2 (n := 5) rfl (by simp [Value.category]) ⟨by decide, by decide⟩ ⟨Nat.zero_le _, Nat.zero_le _⟩ ⟨rfl, rfl⟩ hP rfl (fun _ hSw_2 => ?_)
    refine yy_astore_n (lv' := [(3, .ref (a_wd A (cN x))), (0, .ref (a_k A)), (1, .int x), (2, .int y)]) F d_K_plant_5 (n := 6) rfl (by decide) rfl ?_
    refine yy_aload_n F d_K_plant_6 (n := 7) rfl 0 rfl ?_
    refine yy_get F X.1 X.2.1 g_K_171_W (hP.wo hi hov) rfl d_K_plant_7 (n := 10) rfl ?_
    refine yy_astore (lv' := [(4, .ref (a_ad A (k_ov σ (cN x)))), (3, .ref (a_wd A (cN x))), (0, .ref (a_k A)), (1, .int x), (2, .int y)]) F d_K_plant_10 (n := 12) rfl (by decide) rfl ?_
    refine yy_aload F d_K_plant_12 (n := 14) rfl 0 rfl ?_
    refine yy_cri (w := (ym_n (k_isl (k_kd σ (k_ov σ (cN x)))))) F hSw_2 (c_C_isList (A := A) (σ := σ) (c := k_ov σ (cN x)) X I hc) (yy_Bc F X.1 q_260 q_9) (yy_invC (nA := 0) (x := y_C_isList) F X hP hc q_254 q_256 (k_dec X q_255 q_260) (k_sel q_259 q_257 q_258 σ (k_ov σ (cN x))) q_255 ⟨by decide, by decide, by decide +kernel⟩ rfl d_K_plant_14) d_K_plant_14 (n := 17) rfl (by simp [Value.category]) ⟨by decide, by decide⟩ ⟨Nat.zero_le _, Nat.zero_le _⟩ ⟨rfl, rfl⟩ hP rfl (fun _ hSw_3 => ?_)
    cases hl : k_isl (k_kd σ (k_ov σ (cN x)))
    · exact yy_ctp F hSw_3 (c_K_demandKind_no X) (yy_Bc F X.1 q_270 q_1) (yy_invS (nA := 1) (bytes := b_K_demandKind) (maxL := 1) (retY := none) F X.1 q_268 q_269 q_1 q_270 ⟨by decide, by decide, by decide +kernel⟩ rfl d_K_plant_17) d_K_plant_17 (by simp [Value.category]) ⟨by decide, by decide⟩ ⟨by decide, by decide⟩ trivial (fun H1 hx => kq_no (by unfold sp_plant; rw [hE, hl]; rfl) hP hx)
    · refine yy_crv F hSw_3 (c_K_demandKind X) (yy_Bc F X.1 q_270 q_1) (yy_invS (nA := 1) (bytes := b_K_demandKind) (maxL := 1) (retY := none) F X.1 q_268 q_269 q_1 q_270 ⟨by decide, by decide, by decide +kernel⟩ rfl d_K_plant_17) d_K_plant_17 (n := 20) rfl (by simp [Value.category]) ⟨by decide, by decide⟩ ⟨Nat.zero_le _, Nat.zero_le _⟩ ⟨rfl, rfl⟩ trivial (fun _ hSw_5 => ?_)
      refine yy_aload_n F d_K_plant_20 (n := 21) rfl 1 rfl ?_
      cases hs : k_lost σ (cN x) (k_ov σ (cN x))
      · refine yy_crv F hSw_5 (c_K_demandFreshWalk X I hi hc hov hs) (yy_Bc F X.1 q_793 q_1) (yy_invS (nA := 1) (bytes := b_K_demandFreshWalk) (maxL := 1) (retY := none) F X.1 q_791 q_792 q_1 q_793 ⟨by decide, by decide, by decide +kernel⟩ rfl d_K_plant_21) d_K_plant_21 (n := 24) rfl (by simp [Value.category]) ⟨by decide, by decide⟩ ⟨Nat.zero_le _, Nat.zero_le _⟩ ⟨rfl, rfl⟩ hP (fun _ hSw_6 => ?_)
        refine yy_aload F d_K_plant_24 (n := 26) rfl 0 rfl ?_
        refine cr_store F X g_K_95_G g_K_95_P g_K_95_R hP hc d_K_plant_26 (n := 29) rfl ?_
        obtain ⟨hst9, hkn9⟩ := k_lost_no hs
        have hpl := (I.walk hi hov hs).1
        have h24 := I.ct hc
        have hend := I.end hc (k_fr_of hst9)
        cases hsp : decide (24 ≤ s_ct (k_B σ (k_ov σ (cN x))))
        · have h24s := of_decide_eq_false hsp
          refine yy_crv F hSw_6 (c_K_demandSpace X I hc h24s) (yy_Bc F X.1 q_494 q_1) (yy_invS (nA := 1) (bytes := b_K_demandSpace) (maxL := 1) (retY := none) F X.1 q_492 q_493 q_1 q_494 ⟨by decide, by decide, by decide +kernel⟩ rfl d_K_plant_29) d_K_plant_29 (n := 32) rfl (by simp [Value.category]) ⟨by decide, by decide⟩ ⟨Nat.zero_le _, Nat.zero_le _⟩ ⟨rfl, rfl⟩ hP (fun _ hSw_7 => ?_)
          refine yy_aload F d_K_plant_32 (n := 34) rfl 0 rfl ?_
          refine yy_aload_n F d_K_plant_34 (n := 35) rfl 1 rfl ?_
          refine yy_get F X.1 X.2.1 g_K_179_W (hP.wo hi hov) rfl d_K_plant_35 (n := 38) rfl ?_
          refine yy_iload_n F d_K_plant_38 (n := 39) rfl 4 rfl ?_
          refine yy_cv F hSw_7 (c_C_bring (A := A) (σ := σ) (c := k_ov σ (cN x)) X I hc (x := nI (k_W σ (cN x)).2.1) (y := y) (q := k_start σ (k_ov σ (cN x)) + (k_W σ (cN x)).2.1) (nI_add _ _) (by omega) (by omega)) (yy_Bc F X.1 q_507 q_9) (yy_invC (nA := 2) (x := y_C_bring) F X hP hc q_501 q_503 (k_dec X q_502 q_507) (k_sel q_506 q_504 q_505 σ (k_ov σ (cN x))) q_502 ⟨by decide, by decide, by decide +kernel⟩ rfl d_K_plant_39) d_K_plant_39 (n := 42) rfl (by simp [Value.category]) ⟨by decide, by decide⟩ ⟨Nat.zero_le _, Nat.zero_le _⟩ ⟨rfl, rfl⟩ hP (fun Hw_8 locs_w_8 qw_8 Sw_8 => ?_)
          obtain ⟨Pw_8, kw_8⟩ := qw_8
          have kw_8 := kpA.rf.tr kw_8
          obtain ⟨σ1, hσ1⟩ : ∃ σ1 : ks, σ1 = k_bring σ (k_ov σ (cN x)) (k_start σ (k_ov σ (cN x)) + (k_W σ (cN x)).2.1) y := ⟨_, rfl⟩
          rw [← hσ1] at Pw_8
          have hw1 : k_W σ1 (cN x) = k_W σ (cN x) := by rw [hσ1]; exact congrFun (k_thru_C I hc _ _).2.2.1 (cN x)
          have hm1 : k_m σ1 = k_m σ := by rw [hσ1]; exact (k_thru_C I hc _ _).1
          have hov1 : (k_W σ1 (cN x)).1 = some (k_ov σ (cN x)) := by rw [hw1]; exact hov
          have O1 := Pw_8.wo hi hov1
          rw [hw1] at O1
          refine yy_aload_n F d_K_plant_42 (n := 43) rfl 1 rfl ?_
          refine yy_aload_n F d_K_plant_43 (n := 44) rfl 1 rfl ?_
          refine yy_get F X.1 X.2.1 g_K_179_W O1 rfl d_K_plant_44 (n := 47) rfl ?_
          refine yy_iconst (v := 1) F d_K_plant_47 (n := 48) rfl rfl ?_
          refine yy_iadd F d_K_plant_48 (n := 49) rfl ?_
          refine yy_tope (y := (nI ((k_W σ (cN x)).2.1 + 1))) (nI_1 _) ?_
          refine yy_cv F Sw_8 (c_W_standAt (A := A) (σ := σ1) (c := k_ov σ (cN x)) (i := cN x) (m := (k_W σ (cN x)).2.1 + 1) X (by rw [hm1]; exact hc) hi hov1) (yy_Bc F X.1 q_778 q_2) (yy_invV (nA := 1) (C := R_W) (bytes := b_W_standAt) (maxL := 2) (retY := none) F X.1 q_818 q_776 q_777 q_778 ⟨by decide, by decide, by decide +kernel⟩ (yy_recv F.N X.2.1 (ci := 4) rfl (Pw_8.w hi)) rfl d_K_plant_49) d_K_plant_49 (n := 52) rfl (by simp [Value.category]) ⟨by decide, by decide⟩ ⟨Nat.zero_le _, Nat.zero_le _⟩ ⟨rfl, rfl⟩ Pw_8 (fun Hw_9 locs_w_9 qw_9 Sw_9 => ?_)
          obtain ⟨Pw_9, kw_9⟩ := qw_9
          have kw_9 := kw_8.tr kw_9
          exact yy_vret F Sw_9 ⟨Nat.zero_le _, Nat.zero_le _⟩ rfl d_K_plant_52 (kq_v (v := 0) (by unfold sp_plant; rw [hE, hl, hs, hsp, ← hσ1]; rfl) Pw_9 kw_9)
        · have h24s := of_decide_eq_true hsp
          exact yy_ctp F hSw_6 (c_K_demandSpace_no X I hc h24s) (yy_Bc F X.1 q_494 q_1) (yy_invS (nA := 1) (bytes := b_K_demandSpace) (maxL := 1) (retY := none) F X.1 q_492 q_493 q_1 q_494 ⟨by decide, by decide, by decide +kernel⟩ rfl d_K_plant_29) d_K_plant_29 (by simp [Value.category]) ⟨by decide, by decide⟩ ⟨by decide, by decide⟩ hP (fun H1 hx => kq_no (by unfold sp_plant; rw [hE, hl, hs, hsp]; rfl) hP hx)
      · exact yy_ctp F hSw_5 (c_K_demandFreshWalk_no X I hi hc hov hs) (yy_Bc F X.1 q_793 q_1) (yy_invS (nA := 1) (bytes := b_K_demandFreshWalk) (maxL := 1) (retY := none) F X.1 q_791 q_792 q_1 q_793 ⟨by decide, by decide, by decide +kernel⟩ rfl d_K_plant_21) d_K_plant_21 (by simp [Value.category]) ⟨by decide, by decide⟩ ⟨by decide, by decide⟩ hP (fun H1 hx => kq_no (by unfold sp_plant; rw [hE, hl, hs]; rfl) hP hx)
