/-! PART K3: calls that read -/
set_option maxRecDepth 100000 in
set_option maxHeartbeats 4000000 in
theorem c_K_kind {l : Launch} {z : State} {a0 : Array Value} {D : va_G} {ca : kca} (X : kcx l z a0 D ca) {A : kA} {σ : ks} {t : Nat} (I : iv t σ) {x : Int32} : yy_M l z y_K_kind (.code y_K_kind b_K_kind 2 (some .int)) ({ frames := 7, cells := 1, slots := 6, locals := 103 }) [.ref (a_k A), .int x] (ck_at D ca z A σ) (kqi D ca z A (sp_kind σ x)) := by
  refine yy_body (plainFor_of_name (by decide)) (Nat.le_of_ble_eq_true rfl) (fun b H F hS hP hH hnm => ?_)
  cases hE : ch_con σ x with
  | some E =>
    obtain ⟨hin, rfl⟩ := ch_con_some hE
    refine yy_aload_n F d_K_kind_0 (n := 1) rfl 0 rfl ?_
    refine yy_iload_n F d_K_kind_1 (n := 2) rfl 1 rfl ?_
    exact yy_ctp F hS (c_K_containerAt_no X I hin) (yy_Bc F X.1 q_237 q_1) (yy_invV (nA := 1) (C := R_K) (bytes := b_K_containerAt) (maxL := 2) (retY := (some (.object "ContainerKit$Container"))) F X.1 q_234 q_236 qs_K_containerAt q_237 ⟨by decide, by decide, by decide +kernel⟩ (yy_recv F.N X.2.1 (ci := 5) rfl hP.k) rfl d_K_kind_2) d_K_kind_2 (by simp [Value.category]) ⟨by decide, by decide⟩ ⟨by decide, by decide⟩ hP (fun H1 hx => kq_no (by unfold sp_kind; rw [hE]; rfl) hP hx)
  | none =>
    obtain ⟨hc, ex⟩ := ch_con_none I.m10 hE
    refine yy_aload_n F d_K_kind_0 (n := 1) rfl 0 rfl ?_
    refine yy_iload_n F d_K_kind_1 (n := 2) rfl 1 rfl ?_
    refine yy_crr (w := (some (a_ad A (cN x)))) F hS (k_cat X I hc ex) (yy_Bc F X.1 q_237 q_1) (yy_invV (nA := 1) (C := R_K) (bytes := b_K_containerAt) (maxL := 2) (retY := (some (.object "ContainerKit$Container"))) F X.1 q_234 q_236 qs_K_containerAt q_237 ⟨by decide, by decide, by decide +kernel⟩ (yy_recv F.N X.2.1 (ci := 5) rfl hP.k) rfl d_K_kind_2) d_K_kind_2 (n := 5) rfl (by simp [Value.category]) ⟨by decide, by decide⟩ ⟨Nat.zero_le _, Nat.zero_le _⟩ ⟨rfl, rfl⟩ hP rfl (fun _ hSw_2 => ?_)
    refine cr_kind F X g_K_71_G g_K_71_P g_K_71_R hP hc d_K_kind_5 (n := 8) rfl ?_
    exact yy_iret F hSw_2 ⟨Nat.zero_le _, Nat.zero_le _⟩ rfl d_K_kind_8 (kq_i (by unfold sp_kind; rw [hE]; rfl) hP kpA.rf)
set_option maxRecDepth 100000 in
set_option maxHeartbeats 4000000 in
theorem c_K_size {l : Launch} {z : State} {a0 : Array Value} {D : va_G} {ca : kca} (X : kcx l z a0 D ca) {A : kA} {σ : ks} {t : Nat} (I : iv t σ) {x : Int32} : yy_M l z y_K_size (.code y_K_size b_K_size 3 (some .int)) ({ frames := 7, cells := 1, slots := 6, locals := 103 }) [.ref (a_k A), .int x] (ck_at D ca z A σ) (kqi D ca z A (sp_size σ x)) := by
  refine yy_body (plainFor_of_name (by decide)) (Nat.le_of_ble_eq_true rfl) (fun b H F hS hP hH hnm => ?_)
  cases hE : ch_con σ x with
  | some E =>
    obtain ⟨hin, rfl⟩ := ch_con_some hE
    refine yy_aload_n F d_K_size_0 (n := 1) rfl 0 rfl ?_
    refine yy_iload_n F d_K_size_1 (n := 2) rfl 1 rfl ?_
    exact yy_ctp F hS (c_K_containerAt_no X I hin) (yy_Bc F X.1 q_237 q_1) (yy_invV (nA := 1) (C := R_K) (bytes := b_K_containerAt) (maxL := 2) (retY := (some (.object "ContainerKit$Container"))) F X.1 q_234 q_236 qs_K_containerAt q_237 ⟨by decide, by decide, by decide +kernel⟩ (yy_recv F.N X.2.1 (ci := 5) rfl hP.k) rfl d_K_size_2) d_K_size_2 (by simp [Value.category]) ⟨by decide, by decide⟩ ⟨by decide, by decide⟩ hP (fun H1 hx => kq_no (by unfold sp_size; rw [hE]; rfl) hP hx)
  | none =>
    obtain ⟨hc, ex⟩ := ch_con_none I.m10 hE
    refine yy_aload_n F d_K_size_0 (n := 1) rfl 0 rfl ?_
    refine yy_iload_n F d_K_size_1 (n := 2) rfl 1 rfl ?_
    refine yy_crr (w := (some (a_ad A (cN x)))) F hS (k_cat X I hc ex) (yy_Bc F X.1 q_237 q_1) (yy_invV (nA := 1) (C := R_K) (bytes := b_K_containerAt) (maxL := 2) (retY := (some (.object "ContainerKit$Container"))) F X.1 q_234 q_236 qs_K_containerAt q_237 ⟨by decide, by decide, by decide +kernel⟩ (yy_recv F.N X.2.1 (ci := 5) rfl hP.k) rfl d_K_size_2) d_K_size_2 (n := 5) rfl (by simp [Value.category]) ⟨by decide, by decide⟩ ⟨Nat.zero_le _, Nat.zero_le _⟩ ⟨rfl, rfl⟩ hP rfl (fun _ hSw_2 => ?_)
    refine yy_astore_n (lv' := [(2, .ref (a_ad A (cN x))), (0, .ref (a_k A)), (1, .int x)]) F d_K_size_5 (n := 6) rfl (by decide) rfl ?_
    refine yy_aload_n F d_K_size_6 (n := 7) rfl 0 rfl ?_
    cases hs : k_stale σ (cN x)
    · refine yy_crv F hSw_2 (c_K_demandFresh X I hc hs) (yy_Bc F X.1 q_289 q_1) (yy_invS (nA := 1) (bytes := b_K_demandFresh) (maxL := 1) (retY := none) F X.1 q_287 q_288 q_1 q_289 ⟨by decide, by decide, by decide +kernel⟩ rfl d_K_size_7) d_K_size_7 (n := 10) rfl (by simp [Value.category]) ⟨by decide, by decide⟩ ⟨Nat.zero_le _, Nat.zero_le _⟩ ⟨rfl, rfl⟩ hP (fun _ hSw_3 => ?_)
      refine yy_aload_n F d_K_size_10 (n := 11) rfl 0 rfl ?_
      refine vd_count F X I hc hP hSw_3 q_312 ⟨by decide, by decide⟩ (by simp [Value.category]) d_K_size_11 (n := 14) rfl ⟨Nat.zero_le _, Nat.zero_le _⟩ (fun _ hS_4 => ?_)
      exact yy_iret F hS_4 ⟨Nat.zero_le _, Nat.zero_le _⟩ rfl d_K_size_14 (kq_i (by unfold sp_size; rw [hE, hs]; rfl) hP kpA.rf)
    · exact yy_ctp F hSw_2 (c_K_demandFresh_no X I hc hs) (yy_Bc F X.1 q_289 q_1) (yy_invS (nA := 1) (bytes := b_K_demandFresh) (maxL := 1) (retY := none) F X.1 q_287 q_288 q_1 q_289 ⟨by decide, by decide, by decide +kernel⟩ rfl d_K_size_7) d_K_size_7 (by simp [Value.category]) ⟨by decide, by decide⟩ ⟨by decide, by decide⟩ hP (fun H1 hx => kq_no (by unfold sp_size; rw [hE, hs]; rfl) hP hx)
set_option maxRecDepth 100000 in
set_option maxHeartbeats 4000000 in
theorem c_K_get {l : Launch} {z : State} {a0 : Array Value} {D : va_G} {ca : kca} (X : kcx l z a0 D ca) {A : kA} {σ : ks} {t : Nat} (I : iv t σ) {x p : Int32} : yy_M l z y_K_get (.code y_K_get b_K_get 4 (some .int)) ({ frames := 8, cells := 1, slots := 6, locals := 125 }) [.ref (a_k A), .int x, .int p] (ck_at D ca z A σ) (kqi D ca z A (sp_get σ x p)) := by
  refine yy_body (plainFor_of_name (by decide)) (Nat.le_of_ble_eq_true rfl) (fun b H F hS hP hH hnm => ?_)
  cases hE : ch_fl σ x with
  | some E =>
    refine yy_aload_n F d_K_get_0 (n := 1) rfl 0 rfl ?_
    refine yy_iload_n F d_K_get_1 (n := 2) rfl 1 rfl ?_
    exact yy_ctp F hS (c_K_freshList_no X I hE) (yy_Bc F X.1 q_418 q_1) (yy_invV (nA := 1) (C := R_K) (bytes := b_K_freshList) (maxL := 3) (retY := (some (.object "ContainerKit$Container"))) F X.1 q_415 q_417 qs_K_freshList q_418 ⟨by decide, by decide, by decide +kernel⟩ (yy_recv F.N X.2.1 (ci := 5) rfl hP.k) rfl d_K_get_2) d_K_get_2 (by simp [Value.category]) ⟨by decide, by decide⟩ ⟨by decide, by decide⟩ hP (fun H1 hx => kq_no (by unfold sp_get; rw [hE]; rfl) hP hx)
  | none =>
    obtain ⟨hc, ex, hk, hs⟩ := ch_fl_none I.m10 hE
    refine yy_aload_n F d_K_get_0 (n := 1) rfl 0 rfl ?_
    refine yy_iload_n F d_K_get_1 (n := 2) rfl 1 rfl ?_
    refine yy_crr (w := (some (a_ad A (cN x)))) F hS (c_K_freshList X I hE) (yy_Bc F X.1 q_418 q_1) (yy_invV (nA := 1) (C := R_K) (bytes := b_K_freshList) (maxL := 3) (retY := (some (.object "ContainerKit$Container"))) F X.1 q_415 q_417 qs_K_freshList q_418 ⟨by decide, by decide, by decide +kernel⟩ (yy_recv F.N X.2.1 (ci := 5) rfl hP.k) rfl d_K_get_2) d_K_get_2 (n := 5) rfl (by simp [Value.category]) ⟨by decide, by decide⟩ ⟨Nat.zero_le _, Nat.zero_le _⟩ ⟨rfl, rfl⟩ hP rfl (fun _ hSw_2 => ?_)
    refine yy_astore_n (lv' := [(3, .ref (a_ad A (cN x))), (0, .ref (a_k A)), (1, .int x), (2, .int p)]) F d_K_get_5 (n := 6) rfl (by decide) rfl ?_
    refine yy_aload_n F d_K_get_6 (n := 7) rfl 0 rfl ?_
    refine yy_iload_n F d_K_get_7 (n := 8) rfl 3 rfl ?_
    have h24 := I.ct hc
    have hend := I.end hc (k_fr_of hs)
    refine yy_cri (w := (ym_n (ym_inb p (k_size σ (cN x))))) F hSw_2 (c_C_isPlace (A := A) (σ := σ) (c := cN x) (p := p) X I hc) (yy_Bc F X.1 q_425 q_9) (yy_invC (nA := 1) (x := y_C_isPlace) F X hP hc q_419 q_421 (k_dec X q_420 q_425) (k_sel q_424 q_422 q_423 σ (cN x)) q_420 ⟨by decide, by decide, by decide +kernel⟩ rfl d_K_get_8) d_K_get_8 (n := 11) rfl (by simp [Value.category]) ⟨by decide, by decide⟩ ⟨Nat.zero_le _, Nat.zero_le _⟩ ⟨rfl, rfl⟩ hP rfl (fun _ hSw_3 => ?_)
    cases hp : ym_inb p (k_size σ (cN x))
    · exact yy_ctp F hSw_3 (c_K_demandThere_no X) (yy_Bc F X.1 q_429 q_1) (yy_invS (nA := 1) (bytes := b_K_demandThere) (maxL := 1) (retY := none) F X.1 q_427 q_428 q_1 q_429 ⟨by decide, by decide, by decide +kernel⟩ rfl d_K_get_11) d_K_get_11 (by simp [Value.category]) ⟨by decide, by decide⟩ ⟨by decide, by decide⟩ trivial (fun H1 hx => kq_no (by unfold sp_get; rw [hE, hp]; rfl) hP hx)
    · obtain ⟨hp1, hp2⟩ := inb_cN (by omega) hp
      refine yy_crv F hSw_3 (c_K_demandThere X) (yy_Bc F X.1 q_429 q_1) (yy_invS (nA := 1) (bytes := b_K_demandThere) (maxL := 1) (retY := none) F X.1 q_427 q_428 q_1 q_429 ⟨by decide, by decide, by decide +kernel⟩ rfl d_K_get_11) d_K_get_11 (n := 14) rfl (by simp [Value.category]) ⟨by decide, by decide⟩ ⟨Nat.zero_le _, Nat.zero_le _⟩ ⟨rfl, rfl⟩ trivial (fun _ hSw_5 => ?_)
      refine yy_aload_n F d_K_get_14 (n := 15) rfl 0 rfl ?_
      refine yy_iload_n F d_K_get_15 (n := 16) rfl 3 rfl ?_
      refine yy_cri (w := (s_nu (k_B σ (cN x)) (k_start σ (cN x) + cN p))) F hSw_5 (c_C_numberAt (A := A) (σ := σ) (c := cN x) X I hc (x := p) (q := k_start σ (cN x) + cN p) (by rw [← nI_add, ← hp2]) (by omega)) (yy_Bc F X.1 q_452 q_9) (yy_invC (nA := 1) (x := y_C_numberAt) F X hP hc q_446 q_448 (k_dec X q_447 q_452) (k_sel q_451 q_449 q_450 σ (cN x)) q_447 ⟨by decide, by decide, by decide +kernel⟩ rfl d_K_get_16) d_K_get_16 (n := 19) rfl (by simp [Value.category]) ⟨by decide, by decide⟩ ⟨Nat.zero_le _, Nat.zero_le _⟩ ⟨rfl, rfl⟩ hP rfl (fun _ hSw_6 => ?_)
      exact yy_iret F hSw_6 ⟨Nat.zero_le _, Nat.zero_le _⟩ rfl d_K_get_19 (kq_i (by unfold sp_get; rw [hE, hp]; rfl) hP kpA.rf)
set_option maxRecDepth 100000 in
set_option maxHeartbeats 4000000 in
theorem c_K_has {l : Launch} {z : State} {a0 : Array Value} {D : va_G} {ca : kca} (X : kcx l z a0 D ca) {A : kA} {σ : ks} {t : Nat} (I : iv t σ) {x key : Int32} : yy_M l z y_K_has (.code y_K_has b_K_has 3 (some .boolean)) ({ frames := 8, cells := 1, slots := 6, locals := 125 }) [.ref (a_k A), .int x, .int key] (ck_at D ca z A σ) (kqi D ca z A (sp_has σ x key)) := by
  refine yy_body (plainFor_of_name (by decide)) (Nat.le_of_ble_eq_true rfl) (fun b H F hS hP hH hnm => ?_)
  cases hE : ch_map σ x with
  | some E =>
    refine yy_aload_n F d_K_has_0 (n := 1) rfl 0 rfl ?_
    refine yy_iload_n F d_K_has_1 (n := 2) rfl 1 rfl ?_
    exact yy_ctp F hS (c_K_mapAt_no X I hE) (yy_Bc F X.1 q_580 q_1) (yy_invV (nA := 1) (C := R_K) (bytes := b_K_mapAt) (maxL := 3) (retY := (some (.object "ContainerKit$Container"))) F X.1 q_577 q_579 qs_K_mapAt q_580 ⟨by decide, by decide, by decide +kernel⟩ (yy_recv F.N X.2.1 (ci := 5) rfl hP.k) rfl d_K_has_2) d_K_has_2 (by simp [Value.category]) ⟨by decide, by decide⟩ ⟨by decide, by decide⟩ hP (fun H1 hx => kq_no (by unfold sp_has; rw [hE]; rfl) hP hx)
  | none =>
    obtain ⟨hc, ex, hk⟩ := ch_map_none I.m10 hE
    refine yy_aload_n F d_K_has_0 (n := 1) rfl 0 rfl ?_
    refine yy_iload_n F d_K_has_1 (n := 2) rfl 1 rfl ?_
    refine yy_crr (w := (some (a_ad A (cN x)))) F hS (c_K_mapAt X I hE) (yy_Bc F X.1 q_580 q_1) (yy_invV (nA := 1) (C := R_K) (bytes := b_K_mapAt) (maxL := 3) (retY := (some (.object "ContainerKit$Container"))) F X.1 q_577 q_579 qs_K_mapAt q_580 ⟨by decide, by decide, by decide +kernel⟩ (yy_recv F.N X.2.1 (ci := 5) rfl hP.k) rfl d_K_has_2) d_K_has_2 (n := 5) rfl (by simp [Value.category]) ⟨by decide, by decide⟩ ⟨Nat.zero_le _, Nat.zero_le _⟩ ⟨rfl, rfl⟩ hP rfl (fun _ hSw_2 => ?_)
    refine yy_iload_n F d_K_has_5 (n := 6) rfl 2 rfl ?_
    have h6 : ¬ k_kd σ (cN x) = 6 := k_ism6 hk
    refine yy_cri (w := (k_pl σ (cN x) key)) F hSw_2 (c_C_placeOf (A := A) (σ := σ) (c := cN x) X I hc (key := key)) (yy_Bc F X.1 q_614 q_9) (yy_invC (nA := 1) (x := y_C_placeOf) F X hP hc q_608 q_610 (k_dec X q_609 q_614) (k_sel q_613 q_611 q_612 σ (cN x)) q_609 ⟨by decide, by decide, by decide +kernel⟩ rfl d_K_has_6) d_K_has_6 (n := 9) rfl (by simp [Value.category]) ⟨by decide, by decide⟩ ⟨Nat.zero_le _, Nat.zero_le _⟩ ⟨rfl, rfl⟩ hP rfl (fun _ hSw_3 => ?_)
    refine yy_iconst (v := (-1)) F d_K_has_9 (n := 10) rfl rfl ?_
    cases hat : k_at σ (cN x) key with
    | none =>
      refine yy_ic_eq_t (tgt := 17) F d_K_has_10 (by decide) (k_pl_none hat) ?_
      refine yy_iconst (v := 0) F d_K_has_17 (n := 18) rfl rfl ?_
      exact yy_zret F hSw_3 ⟨Nat.zero_le _, Nat.zero_le _⟩ rfl rfl d_K_has_18 (kq_i (by unfold sp_has; rw [hE, hat]; rfl) hP kpA.rf)
    | some q =>
      refine yy_ic_eq_f (tgt := 17) F d_K_has_10 (n := 13) rfl (by decide) ((k_pl_some I hc h6 hat).2) ?_
      refine yy_iconst (v := 1) F d_K_has_13 (n := 14) rfl rfl ?_
      refine yy_goto (tgt := 18) F d_K_has_14 (by decide) ?_
      exact yy_zret F hSw_3 ⟨Nat.zero_le _, Nat.zero_le _⟩ rfl rfl d_K_has_18 (kq_i (by unfold sp_has; rw [hE, hat]; rfl) hP kpA.rf)
set_option maxRecDepth 100000 in
set_option maxHeartbeats 4000000 in
theorem c_K_room {l : Launch} {z : State} {a0 : Array Value} {D : va_G} {ca : kca} (X : kcx l z a0 D ca) {A : kA} {σ : ks} {t : Nat} (I : iv t σ) {x : Int32} : yy_M l z y_K_room (.code y_K_room b_K_room 3 (some .int)) ({ frames := 7, cells := 1, slots := 6, locals := 103 }) [.ref (a_k A), .int x] (ck_at D ca z A σ) (kqi D ca z A (sp_room σ x)) := by
  refine yy_body (plainFor_of_name (by decide)) (Nat.le_of_ble_eq_true rfl) (fun b H F hS hP hH hnm => ?_)
  cases hE : ch_con σ x with
  | some E =>
    obtain ⟨hin, rfl⟩ := ch_con_some hE
    refine yy_aload_n F d_K_room_0 (n := 1) rfl 0 rfl ?_
    refine yy_iload_n F d_K_room_1 (n := 2) rfl 1 rfl ?_
    exact yy_ctp F hS (c_K_containerAt_no X I hin) (yy_Bc F X.1 q_237 q_1) (yy_invV (nA := 1) (C := R_K) (bytes := b_K_containerAt) (maxL := 2) (retY := (some (.object "ContainerKit$Container"))) F X.1 q_234 q_236 qs_K_containerAt q_237 ⟨by decide, by decide, by decide +kernel⟩ (yy_recv F.N X.2.1 (ci := 5) rfl hP.k) rfl d_K_room_2) d_K_room_2 (by simp [Value.category]) ⟨by decide, by decide⟩ ⟨by decide, by decide⟩ hP (fun H1 hx => kq_no (by unfold sp_room; rw [hE]; rfl) hP hx)
  | none =>
    obtain ⟨hc, ex⟩ := ch_con_none I.m10 hE
    refine yy_aload_n F d_K_room_0 (n := 1) rfl 0 rfl ?_
    refine yy_iload_n F d_K_room_1 (n := 2) rfl 1 rfl ?_
    refine yy_crr (w := (some (a_ad A (cN x)))) F hS (k_cat X I hc ex) (yy_Bc F X.1 q_237 q_1) (yy_invV (nA := 1) (C := R_K) (bytes := b_K_containerAt) (maxL := 2) (retY := (some (.object "ContainerKit$Container"))) F X.1 q_234 q_236 qs_K_containerAt q_237 ⟨by decide, by decide, by decide +kernel⟩ (yy_recv F.N X.2.1 (ci := 5) rfl hP.k) rfl d_K_room_2) d_K_room_2 (n := 5) rfl (by simp [Value.category]) ⟨by decide, by decide⟩ ⟨Nat.zero_le _, Nat.zero_le _⟩ ⟨rfl, rfl⟩ hP rfl (fun _ hSw_2 => ?_)
    refine yy_astore_n (lv' := [(2, .ref (a_ad A (cN x))), (0, .ref (a_k A)), (1, .int x)]) F d_K_room_5 (n := 6) rfl (by decide) rfl ?_
    refine yy_aload_n F d_K_room_6 (n := 7) rfl 0 rfl ?_
    refine cr_kind F X g_K_71_G g_K_71_P g_K_71_R hP hc d_K_room_7 (n := 10) rfl ?_
    refine yy_if_eq (tgt := 20) F d_K_room_10 (n := 13) rfl (by decide) (fun h0 => ?_) (fun h0 => ?_)
    · refine yy_iconst (v := 1) F d_K_room_20 (n := 21) rfl rfl ?_
      refine yy_goto (tgt := 25) F d_K_room_21 (by decide) ?_
      refine yy_crv F hSw_2 (c_K_demandKind X) (yy_Bc F X.1 q_270 q_1) (yy_invS (nA := 1) (bytes := b_K_demandKind) (maxL := 1) (retY := none) F X.1 q_268 q_269 q_1 q_270 ⟨by decide, by decide, by decide +kernel⟩ rfl d_K_room_25) d_K_room_25 (n := 28) rfl (by simp [Value.category]) ⟨by decide, by decide⟩ ⟨Nat.zero_le _, Nat.zero_le _⟩ ⟨rfl, rfl⟩ trivial (fun _ hSw_3 => ?_)
      refine yy_aload_n F d_K_room_28 (n := 29) rfl 0 rfl ?_
      refine cr_store F X g_K_95_G g_K_95_P g_K_95_R hP hc d_K_room_29 (n := 32) rfl ?_
      refine yy_get F X.1 X.2.1 g_K_142_S (hP.sc hc).1 rfl d_K_room_32 (n := 35) rfl ?_
      exact yy_iret F hSw_3 ⟨Nat.zero_le _, Nat.zero_le _⟩ rfl d_K_room_35 (kq_i (by unfold sp_room; rw [hE, h0]; rfl) hP kpA.rf)
    · refine yy_aload_n F d_K_room_13 (n := 14) rfl 0 rfl ?_
      refine yy_cri (w := (ym_n (k_ish (k_kd σ (cN x))))) F hSw_2 (c_C_isHashed (A := A) (σ := σ) (c := cN x) X I hc) (yy_Bc F X.1 q_594 q_9) (yy_invC (nA := 0) (x := y_C_isHashed) F X hP hc q_704 q_590 (k_dec X q_589 q_594) (k_sel q_593 q_591 q_592 σ (cN x)) q_589 ⟨by decide, by decide, by decide +kernel⟩ rfl d_K_room_14) d_K_room_14 (n := 17) rfl (by simp [Value.category]) ⟨by decide, by decide⟩ ⟨Nat.zero_le _, Nat.zero_le _⟩ ⟨rfl, rfl⟩ hP rfl (fun _ hSw_4 => ?_)
      cases hh : k_ish (k_kd σ (cN x))
      · refine yy_if_eq_t (tgt := 24) F d_K_room_17 (by decide) rfl ?_
        refine yy_iconst (v := 0) F d_K_room_24 (n := 25) rfl rfl ?_
        exact yy_ctp F hSw_4 (c_K_demandKind_no X) (yy_Bc F X.1 q_270 q_1) (yy_invS (nA := 1) (bytes := b_K_demandKind) (maxL := 1) (retY := none) F X.1 q_268 q_269 q_1 q_270 ⟨by decide, by decide, by decide +kernel⟩ rfl d_K_room_25) d_K_room_25 (by simp [Value.category]) ⟨by decide, by decide⟩ ⟨by decide, by decide⟩ trivial (fun H1 hx => kq_no (by unfold sp_room; rw [hE, hh, decide_eq_false h0]; rfl) hP hx)
      · refine yy_if_eq_f (tgt := 24) F d_K_room_17 (n := 20) rfl (by decide) (by decide) ?_
        refine yy_iconst (v := 1) F d_K_room_20 (n := 21) rfl rfl ?_
        refine yy_goto (tgt := 25) F d_K_room_21 (by decide) ?_
        refine yy_crv F hSw_4 (c_K_demandKind X) (yy_Bc F X.1 q_270 q_1) (yy_invS (nA := 1) (bytes := b_K_demandKind) (maxL := 1) (retY := none) F X.1 q_268 q_269 q_1 q_270 ⟨by decide, by decide, by decide +kernel⟩ rfl d_K_room_25) d_K_room_25 (n := 28) rfl (by simp [Value.category]) ⟨by decide, by decide⟩ ⟨Nat.zero_le _, Nat.zero_le _⟩ ⟨rfl, rfl⟩ trivial (fun _ hSw_6 => ?_)
        refine yy_aload_n F d_K_room_28 (n := 29) rfl 0 rfl ?_
        refine cr_store F X g_K_95_G g_K_95_P g_K_95_R hP hc d_K_room_29 (n := 32) rfl ?_
        refine yy_get F X.1 X.2.1 g_K_142_S (hP.sc hc).1 rfl d_K_room_32 (n := 35) rfl ?_
        exact yy_iret F hSw_6 ⟨Nat.zero_le _, Nat.zero_le _⟩ rfl d_K_room_35 (kq_i (by unfold sp_room; rw [hE, hh, Bool.or_true]; rfl) hP kpA.rf)
set_option maxRecDepth 100000 in
set_option maxHeartbeats 4000000 in
theorem c_K_bucket {l : Launch} {z : State} {a0 : Array Value} {D : va_G} {ca : kca} (X : kcx l z a0 D ca) {A : kA} {σ : ks} {t : Nat} (I : iv t σ) {x key : Int32} : yy_M l z y_K_bucket (.code y_K_bucket b_K_bucket 4 (some .int)) ({ frames := 7, cells := 1, slots := 6, locals := 103 }) [.ref (a_k A), .int x, .int key] (ck_at D ca z A σ) (kqi D ca z A (sp_bucket σ x key)) := by
  refine yy_body (plainFor_of_name (by decide)) (Nat.le_of_ble_eq_true rfl) (fun b H F hS hP hH hnm => ?_)
  cases hE : ch_con σ x with
  | some E =>
    obtain ⟨hin, rfl⟩ := ch_con_some hE
    refine yy_aload_n F d_K_bucket_0 (n := 1) rfl 0 rfl ?_
    refine yy_iload_n F d_K_bucket_1 (n := 2) rfl 1 rfl ?_
    exact yy_ctp F hS (c_K_containerAt_no X I hin) (yy_Bc F X.1 q_237 q_1) (yy_invV (nA := 1) (C := R_K) (bytes := b_K_containerAt) (maxL := 2) (retY := (some (.object "ContainerKit$Container"))) F X.1 q_234 q_236 qs_K_containerAt q_237 ⟨by decide, by decide, by decide +kernel⟩ (yy_recv F.N X.2.1 (ci := 5) rfl hP.k) rfl d_K_bucket_2) d_K_bucket_2 (by simp [Value.category]) ⟨by decide, by decide⟩ ⟨by decide, by decide⟩ hP (fun H1 hx => kq_no (by unfold sp_bucket; rw [hE]; rfl) hP hx)
  | none =>
    obtain ⟨hc, ex⟩ := ch_con_none I.m10 hE
    refine yy_aload_n F d_K_bucket_0 (n := 1) rfl 0 rfl ?_
    refine yy_iload_n F d_K_bucket_1 (n := 2) rfl 1 rfl ?_
    refine yy_crr (w := (some (a_ad A (cN x)))) F hS (k_cat X I hc ex) (yy_Bc F X.1 q_237 q_1) (yy_invV (nA := 1) (C := R_K) (bytes := b_K_containerAt) (maxL := 2) (retY := (some (.object "ContainerKit$Container"))) F X.1 q_234 q_236 qs_K_containerAt q_237 ⟨by decide, by decide, by decide +kernel⟩ (yy_recv F.N X.2.1 (ci := 5) rfl hP.k) rfl d_K_bucket_2) d_K_bucket_2 (n := 5) rfl (by simp [Value.category]) ⟨by decide, by decide⟩ ⟨Nat.zero_le _, Nat.zero_le _⟩ ⟨rfl, rfl⟩ hP rfl (fun _ hSw_2 => ?_)
    refine yy_astore_n (lv' := [(3, .ref (a_ad A (cN x))), (0, .ref (a_k A)), (1, .int x), (2, .int key)]) F d_K_bucket_5 (n := 6) rfl (by decide) rfl ?_
    refine yy_aload_n F d_K_bucket_6 (n := 7) rfl 0 rfl ?_
    refine yy_cri (w := (ym_n (k_ish (k_kd σ (cN x))))) F hSw_2 (c_C_isHashed (A := A) (σ := σ) (c := cN x) X I hc) (yy_Bc F X.1 q_594 q_9) (yy_invC (nA := 0) (x := y_C_isHashed) F X hP hc q_704 q_590 (k_dec X q_589 q_594) (k_sel q_593 q_591 q_592 σ (cN x)) q_589 ⟨by decide, by decide, by decide +kernel⟩ rfl d_K_bucket_7) d_K_bucket_7 (n := 10) rfl (by simp [Value.category]) ⟨by decide, by decide⟩ ⟨Nat.zero_le _, Nat.zero_le _⟩ ⟨rfl, rfl⟩ hP rfl (fun _ hSw_3 => ?_)
    cases hh : k_ish (k_kd σ (cN x))
    · exact yy_ctp F hSw_3 (c_K_demandKind_no X) (yy_Bc F X.1 q_270 q_1) (yy_invS (nA := 1) (bytes := b_K_demandKind) (maxL := 1) (retY := none) F X.1 q_268 q_269 q_1 q_270 ⟨by decide, by decide, by decide +kernel⟩ rfl d_K_bucket_10) d_K_bucket_10 (by simp [Value.category]) ⟨by decide, by decide⟩ ⟨by decide, by decide⟩ trivial (fun H1 hx => kq_no (by unfold sp_bucket; rw [hE, hh]; rfl) hP hx)
    · refine yy_crv F hSw_3 (c_K_demandKind X) (yy_Bc F X.1 q_270 q_1) (yy_invS (nA := 1) (bytes := b_K_demandKind) (maxL := 1) (retY := none) F X.1 q_268 q_269 q_1 q_270 ⟨by decide, by decide, by decide +kernel⟩ rfl d_K_bucket_10) d_K_bucket_10 (n := 13) rfl (by simp [Value.category]) ⟨by decide, by decide⟩ ⟨Nat.zero_le _, Nat.zero_le _⟩ ⟨rfl, rfl⟩ trivial (fun _ hSw_5 => ?_)
      refine yy_aload_n F d_K_bucket_13 (n := 14) rfl 0 rfl ?_
      refine cr_store F X g_K_95_G g_K_95_P g_K_95_R hP hc d_K_bucket_14 (n := 17) rfl ?_
      refine yy_iload_n F d_K_bucket_17 (n := 18) rfl 3 rfl ?_
      refine yy_cri (w := (nI (k_bu (k_B σ (cN x)) key))) F hSw_5 (c_S_countInBucketOf (key := key) X (I.ct hc)) (yy_Bc F X.1 q_715 q_11) (yy_invV (nA := 1) (C := R_S) (bytes := b_S_countInBucketOf) (maxL := 4) (retY := (some .int)) F X.1 q_712 q_713 q_714 q_715 ⟨by decide, by decide, by decide +kernel⟩ (yy_recv F.N X.2.1 (ci := 0) rfl (hP.sc hc).1) rfl d_K_bucket_18) d_K_bucket_18 (n := 21) rfl (by simp [Value.category]) ⟨by decide, by decide⟩ ⟨Nat.zero_le _, Nat.zero_le _⟩ ⟨rfl, rfl⟩ (hP.sc hc) rfl (fun _ hSw_6 => ?_)
      exact yy_iret F hSw_6 ⟨Nat.zero_le _, Nat.zero_le _⟩ rfl d_K_bucket_21 (kq_i (by unfold sp_bucket; rw [hE, hh]; rfl) hP kpA.rf)
set_option maxRecDepth 100000 in
set_option maxHeartbeats 4000000 in
theorem c_K_same {l : Launch} {z : State} {a0 : Array Value} {D : va_G} {ca : kca} (X : kcx l z a0 D ca) {A : kA} {σ : ks} {t : Nat} (I : iv t σ) {x y : Int32} : yy_M l z y_K_same (.code y_K_same b_K_same 5 (some .boolean)) ({ frames := 7, cells := 1, slots := 6, locals := 103 }) [.ref (a_k A), .int x, .int y] (ck_at D ca z A σ) (kqi D ca z A (sp_same σ x y)) := by
  refine yy_body (plainFor_of_name (by decide)) (Nat.le_of_ble_eq_true rfl) (fun b H F hS hP hH hnm => ?_)
  cases hE : ch_con σ x with
  | some E =>
    obtain ⟨hin, rfl⟩ := ch_con_some hE
    refine yy_aload_n F d_K_same_0 (n := 1) rfl 0 rfl ?_
    refine yy_iload_n F d_K_same_1 (n := 2) rfl 1 rfl ?_
    exact yy_ctp F hS (c_K_containerAt_no X I hin) (yy_Bc F X.1 q_237 q_1) (yy_invV (nA := 1) (C := R_K) (bytes := b_K_containerAt) (maxL := 2) (retY := (some (.object "ContainerKit$Container"))) F X.1 q_234 q_236 qs_K_containerAt q_237 ⟨by decide, by decide, by decide +kernel⟩ (yy_recv F.N X.2.1 (ci := 5) rfl hP.k) rfl d_K_same_2) d_K_same_2 (by simp [Value.category]) ⟨by decide, by decide⟩ ⟨by decide, by decide⟩ hP (fun H1 hx => kq_no (by unfold sp_same; rw [hE]; rfl) hP hx)
  | none =>
    obtain ⟨hc, ex⟩ := ch_con_none I.m10 hE
    refine yy_aload_n F d_K_same_0 (n := 1) rfl 0 rfl ?_
    refine yy_iload_n F d_K_same_1 (n := 2) rfl 1 rfl ?_
    refine yy_crr (w := (some (a_ad A (cN x)))) F hS (k_cat X I hc ex) (yy_Bc F X.1 q_237 q_1) (yy_invV (nA := 1) (C := R_K) (bytes := b_K_containerAt) (maxL := 2) (retY := (some (.object "ContainerKit$Container"))) F X.1 q_234 q_236 qs_K_containerAt q_237 ⟨by decide, by decide, by decide +kernel⟩ (yy_recv F.N X.2.1 (ci := 5) rfl hP.k) rfl d_K_same_2) d_K_same_2 (n := 5) rfl (by simp [Value.category]) ⟨by decide, by decide⟩ ⟨Nat.zero_le _, Nat.zero_le _⟩ ⟨rfl, rfl⟩ hP rfl (fun _ hSw_2 => ?_)
    refine yy_astore_n (lv' := [(3, .ref (a_ad A (cN x))), (0, .ref (a_k A)), (1, .int x), (2, .int y)]) F d_K_same_5 (n := 6) rfl (by decide) rfl ?_
    refine yy_aload_n F d_K_same_6 (n := 7) rfl 1 rfl ?_
    refine yy_iload_n F d_K_same_7 (n := 8) rfl 3 rfl ?_
    cases hEy : ch_con σ y with
    | some E =>
      obtain ⟨hin, rfl⟩ := ch_con_some hEy
      exact yy_ctp F hSw_2 (c_K_containerAt_no X I hin) (yy_Bc F X.1 q_237 q_1) (yy_invV (nA := 1) (C := R_K) (bytes := b_K_containerAt) (maxL := 2) (retY := (some (.object "ContainerKit$Container"))) F X.1 q_234 q_236 qs_K_containerAt q_237 ⟨by decide, by decide, by decide +kernel⟩ (yy_recv F.N X.2.1 (ci := 5) rfl hP.k) rfl d_K_same_8) d_K_same_8 (by simp [Value.category]) ⟨by decide, by decide⟩ ⟨by decide, by decide⟩ hP (fun H1 hx => kq_no (by unfold sp_same; rw [hE, hEy]; rfl) hP hx)
    | none =>
      obtain ⟨hcy, exy⟩ := ch_con_none I.m10 hEy
      refine yy_crr (w := (some (a_ad A (cN y)))) F hSw_2 (k_cat X I hcy exy) (yy_Bc F X.1 q_237 q_1) (yy_invV (nA := 1) (C := R_K) (bytes := b_K_containerAt) (maxL := 2) (retY := (some (.object "ContainerKit$Container"))) F X.1 q_234 q_236 qs_K_containerAt q_237 ⟨by decide, by decide, by decide +kernel⟩ (yy_recv F.N X.2.1 (ci := 5) rfl hP.k) rfl d_K_same_8) d_K_same_8 (n := 11) rfl (by simp [Value.category]) ⟨by decide, by decide⟩ ⟨Nat.zero_le _, Nat.zero_le _⟩ ⟨rfl, rfl⟩ hP rfl (fun _ hSw_4 => ?_)
      refine yy_astore (lv' := [(4, .ref (a_ad A (cN y))), (3, .ref (a_ad A (cN x))), (0, .ref (a_k A)), (1, .int x), (2, .int y)]) F d_K_same_11 (n := 13) rfl (by decide) rfl ?_
      refine yy_aload_n F d_K_same_13 (n := 14) rfl 1 rfl ?_
      cases hs : k_stale σ (cN x)
      · refine yy_crv F hSw_4 (c_K_demandFresh X I hc hs) (yy_Bc F X.1 q_289 q_1) (yy_invS (nA := 1) (bytes := b_K_demandFresh) (maxL := 1) (retY := none) F X.1 q_287 q_288 q_1 q_289 ⟨by decide, by decide, by decide +kernel⟩ rfl d_K_same_14) d_K_same_14 (n := 17) rfl (by simp [Value.category]) ⟨by decide, by decide⟩ ⟨Nat.zero_le _, Nat.zero_le _⟩ ⟨rfl, rfl⟩ hP (fun _ hSw_5 => ?_)
        refine yy_aload F d_K_same_17 (n := 19) rfl 0 rfl ?_
        cases hsy : k_stale σ (cN y)
        · refine yy_crv F hSw_5 (c_K_demandFresh X I hcy hsy) (yy_Bc F X.1 q_289 q_1) (yy_invS (nA := 1) (bytes := b_K_demandFresh) (maxL := 1) (retY := none) F X.1 q_287 q_288 q_1 q_289 ⟨by decide, by decide, by decide +kernel⟩ rfl d_K_same_19) d_K_same_19 (n := 22) rfl (by simp [Value.category]) ⟨by decide, by decide⟩ ⟨Nat.zero_le _, Nat.zero_le _⟩ ⟨rfl, rfl⟩ hP (fun _ hSw_6 => ?_)
          refine yy_aload_n F d_K_same_22 (n := 23) rfl 1 rfl ?_
          refine yy_cri (w := (ym_n (k_isl (k_kd σ (cN x))))) F hSw_6 (c_C_isList (A := A) (σ := σ) (c := cN x) X I hc) (yy_Bc F X.1 q_260 q_9) (yy_invC (nA := 0) (x := y_C_isList) F X hP hc q_254 q_256 (k_dec X q_255 q_260) (k_sel q_259 q_257 q_258 σ (cN x)) q_255 ⟨by decide, by decide, by decide +kernel⟩ rfl d_K_same_23) d_K_same_23 (n := 26) rfl (by simp [Value.category]) ⟨by decide, by decide⟩ ⟨Nat.zero_le _, Nat.zero_le _⟩ ⟨rfl, rfl⟩ hP rfl (fun _ hSw_7 => ?_)
          cases hl1 : k_isl (k_kd σ (cN x))
          · refine yy_if_eq_t (tgt := 44) F d_K_same_26 (by decide) rfl ?_
            refine yy_aload_n F d_K_same_44 (n := 45) rfl 1 rfl ?_
            refine yy_cri (w := (ym_n (k_ism (k_kd σ (cN x))))) F hSw_7 (c_C_isMap (A := A) (σ := σ) (c := cN x) X I hc) (yy_Bc F X.1 q_587 q_9) (yy_invC (nA := 0) (x := y_C_isMap) F X hP hc q_581 q_583 (k_dec X q_582 q_587) (k_sel q_586 q_584 q_585 σ (cN x)) q_582 ⟨by decide, by decide, by decide +kernel⟩ rfl d_K_same_45) d_K_same_45 (n := 48) rfl (by simp [Value.category]) ⟨by decide, by decide⟩ ⟨Nat.zero_le _, Nat.zero_le _⟩ ⟨rfl, rfl⟩ hP rfl (fun _ hSw_8 => ?_)
            cases hm1 : k_ism (k_kd σ (cN x))
            · refine yy_if_eq_t (tgt := 72) F d_K_same_48 (by decide) rfl ?_
              refine yy_iconst (v := 0) F d_K_same_72 (n := 73) rfl rfl ?_
              exact yy_zret F hSw_8 ⟨Nat.zero_le _, Nat.zero_le _⟩ rfl rfl d_K_same_73 (kq_i (v := 0) (by unfold sp_same; rw [hE, hEy, hs, hsy, show k_sam σ (cN x) (cN y) = false by unfold k_sam; rw [if_neg (by rw [hl1, Bool.false_and]; decide), hm1, Bool.false_and] <;> rfl]; rfl) hP kpA.rf)
            · refine yy_if_eq_f (tgt := 72) F d_K_same_48 (n := 51) rfl (by decide) (by decide) ?_
              refine yy_aload F d_K_same_51 (n := 53) rfl 0 rfl ?_
              refine yy_cri (w := (ym_n (k_ism (k_kd σ (cN y))))) F hSw_8 (c_C_isMap (A := A) (σ := σ) (c := cN y) X I hcy) (yy_Bc F X.1 q_587 q_9) (yy_invC (nA := 0) (x := y_C_isMap) F X hP hcy q_581 q_583 (k_dec X q_582 q_587) (k_sel q_586 q_584 q_585 σ (cN y)) q_582 ⟨by decide, by decide, by decide +kernel⟩ rfl d_K_same_53) d_K_same_53 (n := 56) rfl (by simp [Value.category]) ⟨by decide, by decide⟩ ⟨Nat.zero_le _, Nat.zero_le _⟩ ⟨rfl, rfl⟩ hP rfl (fun _ hSw_9 => ?_)
              cases hm2 : k_ism (k_kd σ (cN y))
              · refine yy_if_eq_t (tgt := 72) F d_K_same_56 (by decide) rfl ?_
                refine yy_iconst (v := 0) F d_K_same_72 (n := 73) rfl rfl ?_
                exact yy_zret F hSw_9 ⟨Nat.zero_le _, Nat.zero_le _⟩ rfl rfl d_K_same_73 (kq_i (v := 0) (by unfold sp_same; rw [hE, hEy, hs, hsy, show k_sam σ (cN x) (cN y) = false by unfold k_sam; rw [if_neg (by rw [hl1, Bool.false_and]; decide), hm1, hm2, Bool.and_false, Bool.false_and] <;> rfl]; rfl) hP kpA.rf)
              · refine yy_if_eq_f (tgt := 72) F d_K_same_56 (n := 59) rfl (by decide) (by decide) ?_
                have h6y : ¬ k_kd σ (cN y) = 6 := k_ism6 hm2
                refine yy_aload_n F d_K_same_59 (n := 60) rfl 1 rfl ?_
                refine yy_aload F d_K_same_60 (n := 62) rfl 0 rfl ?_
                refine yy_cri (w := (ym_n (k_eqp σ (cN x) (cN y)))) F hSw_9 (c_C_hasPairsOf (A := A) (σ := σ) (c := cN x) X I hc (o := cN y) hcy (k_fr_of hs) (k_fr_of hsy) h6y) (yy_Bc F X.1 q_756 q_9) (yy_invC (nA := 1) (x := y_C_hasPairsOf) F X hP hc q_750 q_752 (k_dec X q_751 q_756) (k_sel q_755 q_753 q_754 σ (cN x)) q_751 ⟨by decide, by decide, by decide +kernel⟩ rfl d_K_same_62) d_K_same_62 (n := 65) rfl (by simp [Value.category]) ⟨by decide, by decide⟩ ⟨Nat.zero_le _, Nat.zero_le _⟩ ⟨rfl, rfl⟩ hP rfl (fun _ hSw_10 => ?_)
                cases hq : k_eqp σ (cN x) (cN y)
                · refine yy_if_eq_t (tgt := 72) F d_K_same_65 (by decide) rfl ?_
                  refine yy_iconst (v := 0) F d_K_same_72 (n := 73) rfl rfl ?_
                  exact yy_zret F hSw_10 ⟨Nat.zero_le _, Nat.zero_le _⟩ rfl rfl d_K_same_73 (kq_i (v := 0) (by unfold sp_same; rw [hE, hEy, hs, hsy, show k_sam σ (cN x) (cN y) = false by unfold k_sam; rw [if_neg (by rw [hl1, Bool.false_and]; decide), hm1, hm2, hq] <;> rfl]; rfl) hP kpA.rf)
                · refine yy_if_eq_f (tgt := 72) F d_K_same_65 (n := 68) rfl (by decide) (by decide) ?_
                  refine yy_iconst (v := 1) F d_K_same_68 (n := 69) rfl rfl ?_
                  refine yy_goto (tgt := 73) F d_K_same_69 (by decide) ?_
                  exact yy_zret F hSw_10 ⟨Nat.zero_le _, Nat.zero_le _⟩ rfl rfl d_K_same_73 (kq_i (v := 1) (by unfold sp_same; rw [hE, hEy, hs, hsy, show k_sam σ (cN x) (cN y) = true by unfold k_sam; rw [if_neg (by rw [hl1, Bool.false_and]; decide), hm1, hm2, hq] <;> rfl]; rfl) hP kpA.rf)
          · refine yy_if_eq_f (tgt := 44) F d_K_same_26 (n := 29) rfl (by decide) (by decide) ?_
            refine yy_aload F d_K_same_29 (n := 31) rfl 0 rfl ?_
            refine yy_cri (w := (ym_n (k_isl (k_kd σ (cN y))))) F hSw_7 (c_C_isList (A := A) (σ := σ) (c := cN y) X I hcy) (yy_Bc F X.1 q_260 q_9) (yy_invC (nA := 0) (x := y_C_isList) F X hP hcy q_254 q_256 (k_dec X q_255 q_260) (k_sel q_259 q_257 q_258 σ (cN y)) q_255 ⟨by decide, by decide, by decide +kernel⟩ rfl d_K_same_31) d_K_same_31 (n := 34) rfl (by simp [Value.category]) ⟨by decide, by decide⟩ ⟨Nat.zero_le _, Nat.zero_le _⟩ ⟨rfl, rfl⟩ hP rfl (fun _ hSw_11 => ?_)
            cases hl2 : k_isl (k_kd σ (cN y))
            · refine yy_if_eq_t (tgt := 44) F d_K_same_34 (by decide) rfl ?_
              refine yy_aload_n F d_K_same_44 (n := 45) rfl 1 rfl ?_
              refine yy_cri (w := (ym_n (k_ism (k_kd σ (cN x))))) F hSw_11 (c_C_isMap (A := A) (σ := σ) (c := cN x) X I hc) (yy_Bc F X.1 q_587 q_9) (yy_invC (nA := 0) (x := y_C_isMap) F X hP hc q_581 q_583 (k_dec X q_582 q_587) (k_sel q_586 q_584 q_585 σ (cN x)) q_582 ⟨by decide, by decide, by decide +kernel⟩ rfl d_K_same_45) d_K_same_45 (n := 48) rfl (by simp [Value.category]) ⟨by decide, by decide⟩ ⟨Nat.zero_le _, Nat.zero_le _⟩ ⟨rfl, rfl⟩ hP rfl (fun _ hSw_12 => ?_)
              cases hm1 : k_ism (k_kd σ (cN x))
              · refine yy_if_eq_t (tgt := 72) F d_K_same_48 (by decide) rfl ?_
                refine yy_iconst (v := 0) F d_K_same_72 (n := 73) rfl rfl ?_
                exact yy_zret F hSw_12 ⟨Nat.zero_le _, Nat.zero_le _⟩ rfl rfl d_K_same_73 (kq_i (v := 0) (by unfold sp_same; rw [hE, hEy, hs, hsy, show k_sam σ (cN x) (cN y) = false by unfold k_sam; rw [if_neg (by rw [hl1, hl2, Bool.and_false]; decide), hm1, Bool.false_and] <;> rfl]; rfl) hP kpA.rf)
              · refine yy_if_eq_f (tgt := 72) F d_K_same_48 (n := 51) rfl (by decide) (by decide) ?_
                refine yy_aload F d_K_same_51 (n := 53) rfl 0 rfl ?_
                refine yy_cri (w := (ym_n (k_ism (k_kd σ (cN y))))) F hSw_12 (c_C_isMap (A := A) (σ := σ) (c := cN y) X I hcy) (yy_Bc F X.1 q_587 q_9) (yy_invC (nA := 0) (x := y_C_isMap) F X hP hcy q_581 q_583 (k_dec X q_582 q_587) (k_sel q_586 q_584 q_585 σ (cN y)) q_582 ⟨by decide, by decide, by decide +kernel⟩ rfl d_K_same_53) d_K_same_53 (n := 56) rfl (by simp [Value.category]) ⟨by decide, by decide⟩ ⟨Nat.zero_le _, Nat.zero_le _⟩ ⟨rfl, rfl⟩ hP rfl (fun _ hSw_13 => ?_)
                cases hm2 : k_ism (k_kd σ (cN y))
                · refine yy_if_eq_t (tgt := 72) F d_K_same_56 (by decide) rfl ?_
                  refine yy_iconst (v := 0) F d_K_same_72 (n := 73) rfl rfl ?_
                  exact yy_zret F hSw_13 ⟨Nat.zero_le _, Nat.zero_le _⟩ rfl rfl d_K_same_73 (kq_i (v := 0) (by unfold sp_same; rw [hE, hEy, hs, hsy, show k_sam σ (cN x) (cN y) = false by unfold k_sam; rw [if_neg (by rw [hl1, hl2, Bool.and_false]; decide), hm1, hm2, Bool.and_false, Bool.false_and] <;> rfl]; rfl) hP kpA.rf)
                · refine yy_if_eq_f (tgt := 72) F d_K_same_56 (n := 59) rfl (by decide) (by decide) ?_
                  have h6y : ¬ k_kd σ (cN y) = 6 := k_ism6 hm2
                  refine yy_aload_n F d_K_same_59 (n := 60) rfl 1 rfl ?_
                  refine yy_aload F d_K_same_60 (n := 62) rfl 0 rfl ?_
                  refine yy_cri (w := (ym_n (k_eqp σ (cN x) (cN y)))) F hSw_13 (c_C_hasPairsOf (A := A) (σ := σ) (c := cN x) X I hc (o := cN y) hcy (k_fr_of hs) (k_fr_of hsy) h6y) (yy_Bc F X.1 q_756 q_9) (yy_invC (nA := 1) (x := y_C_hasPairsOf) F X hP hc q_750 q_752 (k_dec X q_751 q_756) (k_sel q_755 q_753 q_754 σ (cN x)) q_751 ⟨by decide, by decide, by decide +kernel⟩ rfl d_K_same_62) d_K_same_62 (n := 65) rfl (by simp [Value.category]) ⟨by decide, by decide⟩ ⟨Nat.zero_le _, Nat.zero_le _⟩ ⟨rfl, rfl⟩ hP rfl (fun _ hSw_14 => ?_)
                  cases hq : k_eqp σ (cN x) (cN y)
                  · refine yy_if_eq_t (tgt := 72) F d_K_same_65 (by decide) rfl ?_
                    refine yy_iconst (v := 0) F d_K_same_72 (n := 73) rfl rfl ?_
                    exact yy_zret F hSw_14 ⟨Nat.zero_le _, Nat.zero_le _⟩ rfl rfl d_K_same_73 (kq_i (v := 0) (by unfold sp_same; rw [hE, hEy, hs, hsy, show k_sam σ (cN x) (cN y) = false by unfold k_sam; rw [if_neg (by rw [hl1, hl2, Bool.and_false]; decide), hm1, hm2, hq] <;> rfl]; rfl) hP kpA.rf)
                  · refine yy_if_eq_f (tgt := 72) F d_K_same_65 (n := 68) rfl (by decide) (by decide) ?_
                    refine yy_iconst (v := 1) F d_K_same_68 (n := 69) rfl rfl ?_
                    refine yy_goto (tgt := 73) F d_K_same_69 (by decide) ?_
                    exact yy_zret F hSw_14 ⟨Nat.zero_le _, Nat.zero_le _⟩ rfl rfl d_K_same_73 (kq_i (v := 1) (by unfold sp_same; rw [hE, hEy, hs, hsy, show k_sam σ (cN x) (cN y) = true by unfold k_sam; rw [if_neg (by rw [hl1, hl2, Bool.and_false]; decide), hm1, hm2, hq] <;> rfl]; rfl) hP kpA.rf)
            · refine yy_if_eq_f (tgt := 44) F d_K_same_34 (n := 37) rfl (by decide) (by decide) ?_
              refine yy_aload_n F d_K_same_37 (n := 38) rfl 1 rfl ?_
              refine yy_aload F d_K_same_38 (n := 40) rfl 0 rfl ?_
              refine yy_cri (w := (ym_n (k_eqn σ (cN x) (cN y)))) F hSw_11 (c_C_hasNumbersOf (A := A) (σ := σ) (c := cN x) X I hc (o := cN y) hcy (k_fr_of hs) (k_fr_of hsy)) (yy_Bc F X.1 q_749 q_9) (yy_invC (nA := 1) (x := y_C_hasNumbersOf) F X hP hc q_743 q_745 (k_dec X q_744 q_749) (k_sel q_748 q_746 q_747 σ (cN x)) q_744 ⟨by decide, by decide, by decide +kernel⟩ rfl d_K_same_40) d_K_same_40 (n := 43) rfl (by simp [Value.category]) ⟨by decide, by decide⟩ ⟨Nat.zero_le _, Nat.zero_le _⟩ ⟨rfl, rfl⟩ hP rfl (fun _ hSw_15 => ?_)
              cases hq : k_eqn σ (cN x) (cN y)
              · exact yy_zret F hSw_15 ⟨Nat.zero_le _, Nat.zero_le _⟩ rfl rfl d_K_same_43 (kq_i (v := 0) (by unfold sp_same; rw [hE, hEy, hs, hsy, show k_sam σ (cN x) (cN y) = false by unfold k_sam; rw [if_pos (by rw [hl1, hl2]; rfl), hq]]; rfl) hP kpA.rf)
              · exact yy_zret F hSw_15 ⟨Nat.zero_le _, Nat.zero_le _⟩ rfl rfl d_K_same_43 (kq_i (v := 1) (by unfold sp_same; rw [hE, hEy, hs, hsy, show k_sam σ (cN x) (cN y) = true by unfold k_sam; rw [if_pos (by rw [hl1, hl2]; rfl), hq]]; rfl) hP kpA.rf)
        · exact yy_ctp F hSw_5 (c_K_demandFresh_no X I hcy hsy) (yy_Bc F X.1 q_289 q_1) (yy_invS (nA := 1) (bytes := b_K_demandFresh) (maxL := 1) (retY := none) F X.1 q_287 q_288 q_1 q_289 ⟨by decide, by decide, by decide +kernel⟩ rfl d_K_same_19) d_K_same_19 (by simp [Value.category]) ⟨by decide, by decide⟩ ⟨by decide, by decide⟩ hP (fun H1 hx => kq_no (by unfold sp_same; rw [hE, hEy, hs, hsy]; rfl) hP hx)
      · exact yy_ctp F hSw_4 (c_K_demandFresh_no X I hc hs) (yy_Bc F X.1 q_289 q_1) (yy_invS (nA := 1) (bytes := b_K_demandFresh) (maxL := 1) (retY := none) F X.1 q_287 q_288 q_1 q_289 ⟨by decide, by decide, by decide +kernel⟩ rfl d_K_same_14) d_K_same_14 (by simp [Value.category]) ⟨by decide, by decide⟩ ⟨by decide, by decide⟩ hP (fun H1 hx => kq_no (by unfold sp_same; rw [hE, hEy, hs]; rfl) hP hx)
set_option maxRecDepth 100000 in
set_option maxHeartbeats 4000000 in
theorem c_K_left {l : Launch} {z : State} {a0 : Array Value} {D : va_G} {ca : kca} (X : kcx l z a0 D ca) {A : kA} {σ : ks} {t : Nat} (I : iv t σ) {x : Int32} : yy_M l z y_K_left (.code y_K_left b_K_left 3 (some .int)) ({ frames := 8, cells := 1, slots := 6, locals := 125 }) [.ref (a_k A), .int x] (ck_at D ca z A σ) (kqi D ca z A (sp_left σ x)) := by
  refine yy_body (plainFor_of_name (by decide)) (Nat.le_of_ble_eq_true rfl) (fun b H F hS hP hH hnm => ?_)
  cases hE : ch_wk σ x with
  | some E =>
    refine yy_aload_n F d_K_left_0 (n := 1) rfl 0 rfl ?_
    refine yy_iload_n F d_K_left_1 (n := 2) rfl 1 rfl ?_
    exact yy_ctp F hS (c_K_openedWalkAt_no X I hE) (yy_Bc F X.1 q_789 q_1) (yy_invV (nA := 1) (C := R_K) (bytes := b_K_openedWalkAt) (maxL := 3) (retY := (some (.object "ContainerKit$Walk"))) F X.1 q_786 q_788 qs_K_openedWalkAt q_789 ⟨by decide, by decide, by decide +kernel⟩ (yy_recv F.N X.2.1 (ci := 5) rfl hP.k) rfl d_K_left_2) d_K_left_2 (by simp [Value.category]) ⟨by decide, by decide⟩ ⟨by decide, by decide⟩ hP (fun H1 hx => kq_no (by unfold sp_left; rw [hE]; rfl) hP hx)
  | none =>
    obtain ⟨hi, ex, hov, hc⟩ := ch_wk_none I hE
    refine yy_aload_n F d_K_left_0 (n := 1) rfl 0 rfl ?_
    refine yy_iload_n F d_K_left_1 (n := 2) rfl 1 rfl ?_
    refine yy_crr (w := (some (a_wd A (cN x)))) F hS (c_K_openedWalkAt_x X I hE) (yy_Bc F X.1 q_789 q_1) (yy_invV (nA := 1) (C := R_K) (bytes := b_K_openedWalkAt) (maxL := 3) (retY := (some (.object "ContainerKit$Walk"))) F X.1 q_786 q_788 qs_K_openedWalkAt q_789 ⟨by decide, by decide, by decide +kernel⟩ (yy_recv F.N X.2.1 (ci := 5) rfl hP.k) rfl d_K_left_2) d_K_left_2 (n := 5) rfl (by simp [Value.category]) ⟨by decide, by decide⟩ ⟨Nat.zero_le _, Nat.zero_le _⟩ ⟨rfl, rfl⟩ hP rfl (fun _ hSw_2 => ?_)
    refine yy_astore_n (lv' := [(2, .ref (a_wd A (cN x))), (0, .ref (a_k A)), (1, .int x)]) F d_K_left_5 (n := 6) rfl (by decide) rfl ?_
    refine yy_aload_n F d_K_left_6 (n := 7) rfl 0 rfl ?_
    cases hs : k_lost σ (cN x) (k_ov σ (cN x))
    · refine yy_crv F hSw_2 (c_K_demandFreshWalk X I hi hc hov hs) (yy_Bc F X.1 q_793 q_1) (yy_invS (nA := 1) (bytes := b_K_demandFreshWalk) (maxL := 1) (retY := none) F X.1 q_791 q_792 q_1 q_793 ⟨by decide, by decide, by decide +kernel⟩ rfl d_K_left_7) d_K_left_7 (n := 10) rfl (by simp [Value.category]) ⟨by decide, by decide⟩ ⟨Nat.zero_le _, Nat.zero_le _⟩ ⟨rfl, rfl⟩ hP (fun _ hSw_3 => ?_)
      refine yy_aload_n F d_K_left_10 (n := 11) rfl 0 rfl ?_
      refine yy_get F X.1 X.2.1 g_K_171_W (hP.wo hi hov) rfl d_K_left_11 (n := 14) rfl ?_
      refine vd_count F X I hc hP hSw_3 q_312 ⟨by decide, by decide⟩ (by simp [Value.category]) d_K_left_14 (n := 17) rfl ⟨Nat.zero_le _, Nat.zero_le _⟩ (fun _ hS_4 => ?_)
      refine yy_aload_n F d_K_left_17 (n := 18) rfl 0 rfl ?_
      refine yy_get F X.1 X.2.1 g_K_179_W (hP.wo hi hov) rfl d_K_left_18 (n := 21) rfl ?_
      refine yy_isub F d_K_left_21 (n := 22) rfl ?_
      exact yy_iret F hS_4 ⟨Nat.zero_le _, Nat.zero_le _⟩ rfl d_K_left_22 (kq_i (by unfold sp_left; rw [hE, hs]; rfl) hP kpA.rf)
    · exact yy_ctp F hSw_2 (c_K_demandFreshWalk_no X I hi hc hov hs) (yy_Bc F X.1 q_793 q_1) (yy_invS (nA := 1) (bytes := b_K_demandFreshWalk) (maxL := 1) (retY := none) F X.1 q_791 q_792 q_1 q_793 ⟨by decide, by decide, by decide +kernel⟩ rfl d_K_left_7) d_K_left_7 (by simp [Value.category]) ⟨by decide, by decide⟩ ⟨by decide, by decide⟩ hP (fun H1 hx => kq_no (by unfold sp_left; rw [hE, hs]; rfl) hP hx)
set_option maxRecDepth 100000 in
set_option maxHeartbeats 4000000 in
theorem c_K_near {l : Launch} {z : State} {a0 : Array Value} {D : va_G} {ca : kca} (X : kcx l z a0 D ca) {A : kA} {σ : ks} {t : Nat} (I : iv t σ) {x key how : Int32} : yy_M l z y_K_near (.code y_K_near b_K_near 8 (some .int)) ({ frames := 7, cells := 1, slots := 6, locals := 103 }) [.ref (a_k A), .int x, .int key, .int how] (ck_at D ca z A σ) (kqi D ca z A (sp_near σ x key how)) := by
  refine yy_body (plainFor_of_name (by decide)) (Nat.le_of_ble_eq_true rfl) (fun b H F hS hP hH hnm => ?_)
  cases hE : ch_con σ x with
  | some E =>
    obtain ⟨hin, rfl⟩ := ch_con_some hE
    refine yy_aload_n F d_K_near_0 (n := 1) rfl 0 rfl ?_
    refine yy_iload_n F d_K_near_1 (n := 2) rfl 1 rfl ?_
    exact yy_ctp F hS (c_K_containerAt_no X I hin) (yy_Bc F X.1 q_237 q_1) (yy_invV (nA := 1) (C := R_K) (bytes := b_K_containerAt) (maxL := 2) (retY := (some (.object "ContainerKit$Container"))) F X.1 q_234 q_236 qs_K_containerAt q_237 ⟨by decide, by decide, by decide +kernel⟩ (yy_recv F.N X.2.1 (ci := 5) rfl hP.k) rfl d_K_near_2) d_K_near_2 (by simp [Value.category]) ⟨by decide, by decide⟩ ⟨by decide, by decide⟩ hP (fun H1 hx => kq_no (by unfold sp_near; rw [hE]; rfl) hP hx)
  | none =>
    obtain ⟨hc, ex⟩ := ch_con_none I.m10 hE
    refine yy_aload_n F d_K_near_0 (n := 1) rfl 0 rfl ?_
    refine yy_iload_n F d_K_near_1 (n := 2) rfl 1 rfl ?_
    refine yy_crr (w := (some (a_ad A (cN x)))) F hS (k_cat X I hc ex) (yy_Bc F X.1 q_237 q_1) (yy_invV (nA := 1) (C := R_K) (bytes := b_K_containerAt) (maxL := 2) (retY := (some (.object "ContainerKit$Container"))) F X.1 q_234 q_236 qs_K_containerAt q_237 ⟨by decide, by decide, by decide +kernel⟩ (yy_recv F.N X.2.1 (ci := 5) rfl hP.k) rfl d_K_near_2) d_K_near_2 (n := 5) rfl (by simp [Value.category]) ⟨by decide, by decide⟩ ⟨Nat.zero_le _, Nat.zero_le _⟩ ⟨rfl, rfl⟩ hP rfl (fun _ hSw_2 => ?_)
    refine yy_astore (lv' := [(4, .ref (a_ad A (cN x))), (0, .ref (a_k A)), (1, .int x), (2, .int key), (3, .int how)]) F d_K_near_5 (n := 7) rfl (by decide) rfl ?_
    refine yy_aload F d_K_near_7 (n := 9) rfl 0 rfl ?_
    refine yy_cri (w := (ym_n (k_iss (k_kd σ (cN x))))) F hSw_2 (c_C_isSorted (A := A) (σ := σ) (c := cN x) X I hc) (yy_Bc F X.1 q_267 q_9) (yy_invC (nA := 0) (x := y_C_isSorted) F X hP hc q_261 q_263 (k_dec X q_262 q_267) (k_sel q_266 q_264 q_265 σ (cN x)) q_262 ⟨by decide, by decide, by decide +kernel⟩ rfl d_K_near_9) d_K_near_9 (n := 12) rfl (by simp [Value.category]) ⟨by decide, by decide⟩ ⟨Nat.zero_le _, Nat.zero_le _⟩ ⟨rfl, rfl⟩ hP rfl (fun _ hSw_3 => ?_)
    cases hk : k_iss (k_kd σ (cN x))
    · exact yy_ctp F hSw_3 (c_K_demandKind_no X) (yy_Bc F X.1 q_270 q_1) (yy_invS (nA := 1) (bytes := b_K_demandKind) (maxL := 1) (retY := none) F X.1 q_268 q_269 q_1 q_270 ⟨by decide, by decide, by decide +kernel⟩ rfl d_K_near_12) d_K_near_12 (by simp [Value.category]) ⟨by decide, by decide⟩ ⟨by decide, by decide⟩ trivial (fun H1 hx => kq_no (by unfold sp_near; rw [hE, hk]; rfl) hP hx)
    · refine yy_crv F hSw_3 (c_K_demandKind X) (yy_Bc F X.1 q_270 q_1) (yy_invS (nA := 1) (bytes := b_K_demandKind) (maxL := 1) (retY := none) F X.1 q_268 q_269 q_1 q_270 ⟨by decide, by decide, by decide +kernel⟩ rfl d_K_near_12) d_K_near_12 (n := 15) rfl (by simp [Value.category]) ⟨by decide, by decide⟩ ⟨Nat.zero_le _, Nat.zero_le _⟩ ⟨rfl, rfl⟩ trivial (fun _ hSw_5 => ?_)
      refine yy_iload_n F d_K_near_15 (n := 16) rfl 4 rfl ?_
      have h6 : ¬ k_kd σ (cN x) = 6 := fun q => absurd hk (by rw [q]; decide)
      have hs : k_fr σ (cN x) := k_fr_0 h6
      have h24 := I.ct hc
      have hend := I.end hc hs
      refine yy_if_lt (tgt := 28) F d_K_near_16 (n := 19) rfl (by decide) (fun h0 => ?_) (fun h0 => ?_)
      · refine yy_iconst (v := 0) F d_K_near_28 (n := 29) rfl rfl ?_
        exact yy_ctp F hSw_5 (c_K_demandArgument_no X) (yy_Bc F X.1 q_72 q_1) (yy_invS (nA := 1) (bytes := b_K_demandArgument) (maxL := 1) (retY := none) F X.1 q_70 q_71 q_1 q_72 ⟨by decide, by decide, by decide +kernel⟩ rfl d_K_near_29) d_K_near_29 (by simp [Value.category]) ⟨by decide, by decide⟩ ⟨by decide, by decide⟩ trivial (fun H1 hx => kq_no (by unfold sp_near; rw [hE, hk, show k_btw how 3 = false by simp [k_btw, h0]]; rfl) hP hx)
      · refine yy_iload_n F d_K_near_19 (n := 20) rfl 4 rfl ?_
        refine yy_iconst (v := 3) F d_K_near_20 (n := 21) rfl rfl ?_
        refine yy_ic_gt (tgt := 28) F d_K_near_21 (n := 24) rfl (by decide) (fun h1 => ?_) (fun h1 => ?_)
        · refine yy_iconst (v := 0) F d_K_near_28 (n := 29) rfl rfl ?_
          exact yy_ctp F hSw_5 (c_K_demandArgument_no X) (yy_Bc F X.1 q_72 q_1) (yy_invS (nA := 1) (bytes := b_K_demandArgument) (maxL := 1) (retY := none) F X.1 q_70 q_71 q_1 q_72 ⟨by decide, by decide, by decide +kernel⟩ rfl d_K_near_29) d_K_near_29 (by simp [Value.category]) ⟨by decide, by decide⟩ ⟨by decide, by decide⟩ trivial (fun H1 hx => kq_no (by unfold sp_near; rw [hE, hk, show k_btw how 3 = false by simp [k_btw, h1]]; rfl) hP hx)
        · have hb : k_btw how 3 = true := by simp [k_btw, h0, h1]
          refine yy_iconst (v := 1) F d_K_near_24 (n := 25) rfl rfl ?_
          refine yy_goto (tgt := 29) F d_K_near_25 (by decide) ?_
          refine yy_crv F hSw_5 (c_K_demandArgument X) (yy_Bc F X.1 q_72 q_1) (yy_invS (nA := 1) (bytes := b_K_demandArgument) (maxL := 1) (retY := none) F X.1 q_70 q_71 q_1 q_72 ⟨by decide, by decide, by decide +kernel⟩ rfl d_K_near_29) d_K_near_29 (n := 32) rfl (by simp [Value.category]) ⟨by decide, by decide⟩ ⟨Nat.zero_le _, Nat.zero_le _⟩ ⟨rfl, rfl⟩ trivial (fun _ hSw_8 => ?_)
          refine yy_iload_n F d_K_near_32 (n := 33) rfl 4 rfl ?_
          refine yy_iconst (v := 1) F d_K_near_33 (n := 34) rfl rfl ?_
          refine yy_ic_eq (tgt := 42) F d_K_near_34 (n := 37) rfl (by decide) (fun h2 => ?_) (fun h2 => ?_)
          · have hwk : k_wk how = 1 := if_pos (Or.inl h2)
            refine yy_iconst (v := 1) F d_K_near_42 (n := 43) rfl rfl ?_
            refine yy_goto (tgt := 47) F d_K_near_43 (by decide) ?_
            refine yy_istore (lv' := [(5, .int 1), (4, .ref (a_ad A (cN x))), (0, .ref (a_k A)), (1, .int x), (2, .int key), (3, .int how)]) F d_K_near_47 (n := 49) rfl (by decide) rfl ?_
            refine yy_aload F d_K_near_49 (n := 51) rfl 1 rfl ?_
            refine yy_iload_n F d_K_near_51 (n := 52) rfl 4 rfl ?_
            refine yy_iload F d_K_near_52 (n := 54) rfl 0 rfl ?_
            refine yy_cri (w := (nI (min (ym_cnt (ym_bel (s_nu (k_B σ (cN x))) key (k_wk how)) (s_ct (k_B σ (cN x))) - k_start σ (cN x)) (k_size σ (cN x))))) F hSw_8 (c_C_placesBefore (A := A) (σ := σ) (c := cN x) X I hc (key := key) (e := 1) hs) (yy_Bc F X.1 q_693 q_9) (yy_invC (nA := 2) (x := y_C_placesBefore) F X hP hc q_687 q_689 (k_dec X q_688 q_693) (k_sel q_692 q_690 q_691 σ (cN x)) q_688 ⟨by decide, by decide, by decide +kernel⟩ rfl d_K_near_54) d_K_near_54 (n := 57) rfl (by simp [Value.category]) ⟨by decide, by decide⟩ ⟨Nat.zero_le _, Nat.zero_le _⟩ ⟨rfl, rfl⟩ hP (by rw [hwk]) (fun _ hSw_9 => ?_)
            refine yy_istore (lv' := [(6, .int (nI (min (ym_cnt (ym_bel (s_nu (k_B σ (cN x))) key (k_wk how)) (s_ct (k_B σ (cN x))) - k_start σ (cN x)) (k_size σ (cN x))))), (5, .int 1), (4, .ref (a_ad A (cN x))), (0, .ref (a_k A)), (1, .int x), (2, .int key), (3, .int how)]) F d_K_near_57 (n := 59) rfl (by decide) rfl ?_
            refine yy_iload_n F d_K_near_59 (n := 60) rfl 6 rfl ?_
            refine yy_iconst (v := 1) F d_K_near_60 (n := 61) rfl rfl ?_
            refine yy_ic_gt (tgt := 71) F d_K_near_61 (n := 64) rfl (by decide) (fun h4 => ?_) (fun h4 => ?_)
            · refine yy_iload F d_K_near_71 (n := 73) rfl 0 rfl ?_
              refine yy_istore (lv' := [(7, .int (nI (min (ym_cnt (ym_bel (s_nu (k_B σ (cN x))) key (k_wk how)) (s_ct (k_B σ (cN x))) - k_start σ (cN x)) (k_size σ (cN x))))), (6, .int (nI (min (ym_cnt (ym_bel (s_nu (k_B σ (cN x))) key (k_wk how)) (s_ct (k_B σ (cN x))) - k_start σ (cN x)) (k_size σ (cN x))))), (5, .int 1), (4, .ref (a_ad A (cN x))), (0, .ref (a_k A)), (1, .int x), (2, .int key), (3, .int how)]) F d_K_near_73 (n := 75) rfl (by decide) rfl ?_
              refine yy_aload F d_K_near_75 (n := 77) rfl 3 rfl ?_
              refine yy_iload F d_K_near_77 (n := 79) rfl 0 rfl ?_
              have hnr : k_nr σ (cN x) key how = nI (min (ym_cnt (ym_bel (s_nu (k_B σ (cN x))) key (k_wk how)) (s_ct (k_B σ (cN x))) - k_start σ (cN x)) (k_size σ (cN x))) := if_pos h4
              rw [← hnr]
              refine yy_cri (w := (ym_n (ym_inb (k_nr σ (cN x) key how) (k_size σ (cN x))))) F hSw_9 (c_C_isPlace (A := A) (σ := σ) (c := cN x) (p := k_nr σ (cN x) key how) X I hc) (yy_Bc F X.1 q_425 q_9) (yy_invC (nA := 1) (x := y_C_isPlace) F X hP hc q_419 q_421 (k_dec X q_420 q_425) (k_sel q_424 q_422 q_423 σ (cN x)) q_420 ⟨by decide, by decide, by decide +kernel⟩ rfl d_K_near_79) d_K_near_79 (n := 82) rfl (by simp [Value.category]) ⟨by decide, by decide⟩ ⟨Nat.zero_le _, Nat.zero_le _⟩ ⟨rfl, rfl⟩ hP rfl (fun _ hSw_10 => ?_)
              cases hp : ym_inb (k_nr σ (cN x) key how) (k_size σ (cN x))
              · exact yy_ctp F hSw_10 (c_K_demandThere_no X) (yy_Bc F X.1 q_429 q_1) (yy_invS (nA := 1) (bytes := b_K_demandThere) (maxL := 1) (retY := none) F X.1 q_427 q_428 q_1 q_429 ⟨by decide, by decide, by decide +kernel⟩ rfl d_K_near_82) d_K_near_82 (by simp [Value.category]) ⟨by decide, by decide⟩ ⟨by decide, by decide⟩ trivial (fun H1 hx => kq_no (by unfold sp_near; rw [hE, hk, hb, hp]; rfl) hP hx)
              · obtain ⟨hp1, hp2⟩ := inb_cN (by omega) hp
                refine yy_crv F hSw_10 (c_K_demandThere X) (yy_Bc F X.1 q_429 q_1) (yy_invS (nA := 1) (bytes := b_K_demandThere) (maxL := 1) (retY := none) F X.1 q_427 q_428 q_1 q_429 ⟨by decide, by decide, by decide +kernel⟩ rfl d_K_near_82) d_K_near_82 (n := 85) rfl (by simp [Value.category]) ⟨by decide, by decide⟩ ⟨Nat.zero_le _, Nat.zero_le _⟩ ⟨rfl, rfl⟩ trivial (fun _ hSw_12 => ?_)
                refine yy_aload F d_K_near_85 (n := 87) rfl 3 rfl ?_
                refine yy_iload F d_K_near_87 (n := 89) rfl 0 rfl ?_
                refine yy_cri (w := (s_nu (k_B σ (cN x)) (k_start σ (cN x) + cN (k_nr σ (cN x) key how)))) F hSw_12 (c_C_numberAt (A := A) (σ := σ) (c := cN x) X I hc (x := k_nr σ (cN x) key how) (q := k_start σ (cN x) + cN (k_nr σ (cN x) key how)) (by rw [← nI_add, ← hp2]) (by omega)) (yy_Bc F X.1 q_452 q_9) (yy_invC (nA := 1) (x := y_C_numberAt) F X hP hc q_446 q_448 (k_dec X q_447 q_452) (k_sel q_451 q_449 q_450 σ (cN x)) q_447 ⟨by decide, by decide, by decide +kernel⟩ rfl d_K_near_89) d_K_near_89 (n := 92) rfl (by simp [Value.category]) ⟨by decide, by decide⟩ ⟨Nat.zero_le _, Nat.zero_le _⟩ ⟨rfl, rfl⟩ hP rfl (fun _ hSw_13 => ?_)
                exact yy_iret F hSw_13 ⟨Nat.zero_le _, Nat.zero_le _⟩ rfl d_K_near_92 (kq_i (by unfold sp_near; rw [hE, hk, hb, hp]; rfl) hP kpA.rf)
            · refine yy_iload F d_K_near_64 (n := 66) rfl 0 rfl ?_
              refine yy_iconst (v := 1) F d_K_near_66 (n := 67) rfl rfl ?_
              refine yy_isub F d_K_near_67 (n := 68) rfl ?_
              refine yy_goto (tgt := 73) F d_K_near_68 (by decide) ?_
              refine yy_istore (lv' := [(7, .int ((nI (min (ym_cnt (ym_bel (s_nu (k_B σ (cN x))) key (k_wk how)) (s_ct (k_B σ (cN x))) - k_start σ (cN x)) (k_size σ (cN x)))) - 1)), (6, .int (nI (min (ym_cnt (ym_bel (s_nu (k_B σ (cN x))) key (k_wk how)) (s_ct (k_B σ (cN x))) - k_start σ (cN x)) (k_size σ (cN x))))), (5, .int 1), (4, .ref (a_ad A (cN x))), (0, .ref (a_k A)), (1, .int x), (2, .int key), (3, .int how)]) F d_K_near_73 (n := 75) rfl (by decide) rfl ?_
              refine yy_aload F d_K_near_75 (n := 77) rfl 3 rfl ?_
              refine yy_iload F d_K_near_77 (n := 79) rfl 0 rfl ?_
              have hnr : k_nr σ (cN x) key how = (nI (min (ym_cnt (ym_bel (s_nu (k_B σ (cN x))) key (k_wk how)) (s_ct (k_B σ (cN x))) - k_start σ (cN x)) (k_size σ (cN x)))) - 1 := if_neg h4
              rw [← hnr]
              refine yy_cri (w := (ym_n (ym_inb (k_nr σ (cN x) key how) (k_size σ (cN x))))) F hSw_9 (c_C_isPlace (A := A) (σ := σ) (c := cN x) (p := k_nr σ (cN x) key how) X I hc) (yy_Bc F X.1 q_425 q_9) (yy_invC (nA := 1) (x := y_C_isPlace) F X hP hc q_419 q_421 (k_dec X q_420 q_425) (k_sel q_424 q_422 q_423 σ (cN x)) q_420 ⟨by decide, by decide, by decide +kernel⟩ rfl d_K_near_79) d_K_near_79 (n := 82) rfl (by simp [Value.category]) ⟨by decide, by decide⟩ ⟨Nat.zero_le _, Nat.zero_le _⟩ ⟨rfl, rfl⟩ hP rfl (fun _ hSw_14 => ?_)
              cases hp : ym_inb (k_nr σ (cN x) key how) (k_size σ (cN x))
              · exact yy_ctp F hSw_14 (c_K_demandThere_no X) (yy_Bc F X.1 q_429 q_1) (yy_invS (nA := 1) (bytes := b_K_demandThere) (maxL := 1) (retY := none) F X.1 q_427 q_428 q_1 q_429 ⟨by decide, by decide, by decide +kernel⟩ rfl d_K_near_82) d_K_near_82 (by simp [Value.category]) ⟨by decide, by decide⟩ ⟨by decide, by decide⟩ trivial (fun H1 hx => kq_no (by unfold sp_near; rw [hE, hk, hb, hp]; rfl) hP hx)
              · obtain ⟨hp1, hp2⟩ := inb_cN (by omega) hp
                refine yy_crv F hSw_14 (c_K_demandThere X) (yy_Bc F X.1 q_429 q_1) (yy_invS (nA := 1) (bytes := b_K_demandThere) (maxL := 1) (retY := none) F X.1 q_427 q_428 q_1 q_429 ⟨by decide, by decide, by decide +kernel⟩ rfl d_K_near_82) d_K_near_82 (n := 85) rfl (by simp [Value.category]) ⟨by decide, by decide⟩ ⟨Nat.zero_le _, Nat.zero_le _⟩ ⟨rfl, rfl⟩ trivial (fun _ hSw_16 => ?_)
                refine yy_aload F d_K_near_85 (n := 87) rfl 3 rfl ?_
                refine yy_iload F d_K_near_87 (n := 89) rfl 0 rfl ?_
                refine yy_cri (w := (s_nu (k_B σ (cN x)) (k_start σ (cN x) + cN (k_nr σ (cN x) key how)))) F hSw_16 (c_C_numberAt (A := A) (σ := σ) (c := cN x) X I hc (x := k_nr σ (cN x) key how) (q := k_start σ (cN x) + cN (k_nr σ (cN x) key how)) (by rw [← nI_add, ← hp2]) (by omega)) (yy_Bc F X.1 q_452 q_9) (yy_invC (nA := 1) (x := y_C_numberAt) F X hP hc q_446 q_448 (k_dec X q_447 q_452) (k_sel q_451 q_449 q_450 σ (cN x)) q_447 ⟨by decide, by decide, by decide +kernel⟩ rfl d_K_near_89) d_K_near_89 (n := 92) rfl (by simp [Value.category]) ⟨by decide, by decide⟩ ⟨Nat.zero_le _, Nat.zero_le _⟩ ⟨rfl, rfl⟩ hP rfl (fun _ hSw_17 => ?_)
                exact yy_iret F hSw_17 ⟨Nat.zero_le _, Nat.zero_le _⟩ rfl d_K_near_92 (kq_i (by unfold sp_near; rw [hE, hk, hb, hp]; rfl) hP kpA.rf)
          · refine yy_iload_n F d_K_near_37 (n := 38) rfl 4 rfl ?_
            refine yy_iconst (v := 3) F d_K_near_38 (n := 39) rfl rfl ?_
            refine yy_ic_ne (tgt := 46) F d_K_near_39 (n := 42) rfl (by decide) (fun h3 => ?_) (fun h3 => ?_)
            · have hwk : k_wk how = 0 := if_neg (fun q => q.elim h2 h3)
              refine yy_iconst (v := 0) F d_K_near_46 (n := 47) rfl rfl ?_
              refine yy_istore (lv' := [(5, .int 0), (4, .ref (a_ad A (cN x))), (0, .ref (a_k A)), (1, .int x), (2, .int key), (3, .int how)]) F d_K_near_47 (n := 49) rfl (by decide) rfl ?_
              refine yy_aload F d_K_near_49 (n := 51) rfl 1 rfl ?_
              refine yy_iload_n F d_K_near_51 (n := 52) rfl 4 rfl ?_
              refine yy_iload F d_K_near_52 (n := 54) rfl 0 rfl ?_
              refine yy_cri (w := (nI (min (ym_cnt (ym_bel (s_nu (k_B σ (cN x))) key (k_wk how)) (s_ct (k_B σ (cN x))) - k_start σ (cN x)) (k_size σ (cN x))))) F hSw_8 (c_C_placesBefore (A := A) (σ := σ) (c := cN x) X I hc (key := key) (e := 0) hs) (yy_Bc F X.1 q_693 q_9) (yy_invC (nA := 2) (x := y_C_placesBefore) F X hP hc q_687 q_689 (k_dec X q_688 q_693) (k_sel q_692 q_690 q_691 σ (cN x)) q_688 ⟨by decide, by decide, by decide +kernel⟩ rfl d_K_near_54) d_K_near_54 (n := 57) rfl (by simp [Value.category]) ⟨by decide, by decide⟩ ⟨Nat.zero_le _, Nat.zero_le _⟩ ⟨rfl, rfl⟩ hP (by rw [hwk]) (fun _ hSw_18 => ?_)
              refine yy_istore (lv' := [(6, .int (nI (min (ym_cnt (ym_bel (s_nu (k_B σ (cN x))) key (k_wk how)) (s_ct (k_B σ (cN x))) - k_start σ (cN x)) (k_size σ (cN x))))), (5, .int 0), (4, .ref (a_ad A (cN x))), (0, .ref (a_k A)), (1, .int x), (2, .int key), (3, .int how)]) F d_K_near_57 (n := 59) rfl (by decide) rfl ?_
              refine yy_iload_n F d_K_near_59 (n := 60) rfl 6 rfl ?_
              refine yy_iconst (v := 1) F d_K_near_60 (n := 61) rfl rfl ?_
              refine yy_ic_gt (tgt := 71) F d_K_near_61 (n := 64) rfl (by decide) (fun h4 => ?_) (fun h4 => ?_)
              · refine yy_iload F d_K_near_71 (n := 73) rfl 0 rfl ?_
                refine yy_istore (lv' := [(7, .int (nI (min (ym_cnt (ym_bel (s_nu (k_B σ (cN x))) key (k_wk how)) (s_ct (k_B σ (cN x))) - k_start σ (cN x)) (k_size σ (cN x))))), (6, .int (nI (min (ym_cnt (ym_bel (s_nu (k_B σ (cN x))) key (k_wk how)) (s_ct (k_B σ (cN x))) - k_start σ (cN x)) (k_size σ (cN x))))), (5, .int 0), (4, .ref (a_ad A (cN x))), (0, .ref (a_k A)), (1, .int x), (2, .int key), (3, .int how)]) F d_K_near_73 (n := 75) rfl (by decide) rfl ?_
                refine yy_aload F d_K_near_75 (n := 77) rfl 3 rfl ?_
                refine yy_iload F d_K_near_77 (n := 79) rfl 0 rfl ?_
                have hnr : k_nr σ (cN x) key how = nI (min (ym_cnt (ym_bel (s_nu (k_B σ (cN x))) key (k_wk how)) (s_ct (k_B σ (cN x))) - k_start σ (cN x)) (k_size σ (cN x))) := if_pos h4
                rw [← hnr]
                refine yy_cri (w := (ym_n (ym_inb (k_nr σ (cN x) key how) (k_size σ (cN x))))) F hSw_18 (c_C_isPlace (A := A) (σ := σ) (c := cN x) (p := k_nr σ (cN x) key how) X I hc) (yy_Bc F X.1 q_425 q_9) (yy_invC (nA := 1) (x := y_C_isPlace) F X hP hc q_419 q_421 (k_dec X q_420 q_425) (k_sel q_424 q_422 q_423 σ (cN x)) q_420 ⟨by decide, by decide, by decide +kernel⟩ rfl d_K_near_79) d_K_near_79 (n := 82) rfl (by simp [Value.category]) ⟨by decide, by decide⟩ ⟨Nat.zero_le _, Nat.zero_le _⟩ ⟨rfl, rfl⟩ hP rfl (fun _ hSw_19 => ?_)
                cases hp : ym_inb (k_nr σ (cN x) key how) (k_size σ (cN x))
                · exact yy_ctp F hSw_19 (c_K_demandThere_no X) (yy_Bc F X.1 q_429 q_1) (yy_invS (nA := 1) (bytes := b_K_demandThere) (maxL := 1) (retY := none) F X.1 q_427 q_428 q_1 q_429 ⟨by decide, by decide, by decide +kernel⟩ rfl d_K_near_82) d_K_near_82 (by simp [Value.category]) ⟨by decide, by decide⟩ ⟨by decide, by decide⟩ trivial (fun H1 hx => kq_no (by unfold sp_near; rw [hE, hk, hb, hp]; rfl) hP hx)
                · obtain ⟨hp1, hp2⟩ := inb_cN (by omega) hp
                  refine yy_crv F hSw_19 (c_K_demandThere X) (yy_Bc F X.1 q_429 q_1) (yy_invS (nA := 1) (bytes := b_K_demandThere) (maxL := 1) (retY := none) F X.1 q_427 q_428 q_1 q_429 ⟨by decide, by decide, by decide +kernel⟩ rfl d_K_near_82) d_K_near_82 (n := 85) rfl (by simp [Value.category]) ⟨by decide, by decide⟩ ⟨Nat.zero_le _, Nat.zero_le _⟩ ⟨rfl, rfl⟩ trivial (fun _ hSw_21 => ?_)
                  refine yy_aload F d_K_near_85 (n := 87) rfl 3 rfl ?_
                  refine yy_iload F d_K_near_87 (n := 89) rfl 0 rfl ?_
                  refine yy_cri (w := (s_nu (k_B σ (cN x)) (k_start σ (cN x) + cN (k_nr σ (cN x) key how)))) F hSw_21 (c_C_numberAt (A := A) (σ := σ) (c := cN x) X I hc (x := k_nr σ (cN x) key how) (q := k_start σ (cN x) + cN (k_nr σ (cN x) key how)) (by rw [← nI_add, ← hp2]) (by omega)) (yy_Bc F X.1 q_452 q_9) (yy_invC (nA := 1) (x := y_C_numberAt) F X hP hc q_446 q_448 (k_dec X q_447 q_452) (k_sel q_451 q_449 q_450 σ (cN x)) q_447 ⟨by decide, by decide, by decide +kernel⟩ rfl d_K_near_89) d_K_near_89 (n := 92) rfl (by simp [Value.category]) ⟨by decide, by decide⟩ ⟨Nat.zero_le _, Nat.zero_le _⟩ ⟨rfl, rfl⟩ hP rfl (fun _ hSw_22 => ?_)
                  exact yy_iret F hSw_22 ⟨Nat.zero_le _, Nat.zero_le _⟩ rfl d_K_near_92 (kq_i (by unfold sp_near; rw [hE, hk, hb, hp]; rfl) hP kpA.rf)
              · refine yy_iload F d_K_near_64 (n := 66) rfl 0 rfl ?_
                refine yy_iconst (v := 1) F d_K_near_66 (n := 67) rfl rfl ?_
                refine yy_isub F d_K_near_67 (n := 68) rfl ?_
                refine yy_goto (tgt := 73) F d_K_near_68 (by decide) ?_
                refine yy_istore (lv' := [(7, .int ((nI (min (ym_cnt (ym_bel (s_nu (k_B σ (cN x))) key (k_wk how)) (s_ct (k_B σ (cN x))) - k_start σ (cN x)) (k_size σ (cN x)))) - 1)), (6, .int (nI (min (ym_cnt (ym_bel (s_nu (k_B σ (cN x))) key (k_wk how)) (s_ct (k_B σ (cN x))) - k_start σ (cN x)) (k_size σ (cN x))))), (5, .int 0), (4, .ref (a_ad A (cN x))), (0, .ref (a_k A)), (1, .int x), (2, .int key), (3, .int how)]) F d_K_near_73 (n := 75) rfl (by decide) rfl ?_
                refine yy_aload F d_K_near_75 (n := 77) rfl 3 rfl ?_
                refine yy_iload F d_K_near_77 (n := 79) rfl 0 rfl ?_
                have hnr : k_nr σ (cN x) key how = (nI (min (ym_cnt (ym_bel (s_nu (k_B σ (cN x))) key (k_wk how)) (s_ct (k_B σ (cN x))) - k_start σ (cN x)) (k_size σ (cN x)))) - 1 := if_neg h4
                rw [← hnr]
                refine yy_cri (w := (ym_n (ym_inb (k_nr σ (cN x) key how) (k_size σ (cN x))))) F hSw_18 (c_C_isPlace (A := A) (σ := σ) (c := cN x) (p := k_nr σ (cN x) key how) X I hc) (yy_Bc F X.1 q_425 q_9) (yy_invC (nA := 1) (x := y_C_isPlace) F X hP hc q_419 q_421 (k_dec X q_420 q_425) (k_sel q_424 q_422 q_423 σ (cN x)) q_420 ⟨by decide, by decide, by decide +kernel⟩ rfl d_K_near_79) d_K_near_79 (n := 82) rfl (by simp [Value.category]) ⟨by decide, by decide⟩ ⟨Nat.zero_le _, Nat.zero_le _⟩ ⟨rfl, rfl⟩ hP rfl (fun _ hSw_23 => ?_)
                cases hp : ym_inb (k_nr σ (cN x) key how) (k_size σ (cN x))
                · exact yy_ctp F hSw_23 (c_K_demandThere_no X) (yy_Bc F X.1 q_429 q_1) (yy_invS (nA := 1) (bytes := b_K_demandThere) (maxL := 1) (retY := none) F X.1 q_427 q_428 q_1 q_429 ⟨by decide, by decide, by decide +kernel⟩ rfl d_K_near_82) d_K_near_82 (by simp [Value.category]) ⟨by decide, by decide⟩ ⟨by decide, by decide⟩ trivial (fun H1 hx => kq_no (by unfold sp_near; rw [hE, hk, hb, hp]; rfl) hP hx)
                · obtain ⟨hp1, hp2⟩ := inb_cN (by omega) hp
                  refine yy_crv F hSw_23 (c_K_demandThere X) (yy_Bc F X.1 q_429 q_1) (yy_invS (nA := 1) (bytes := b_K_demandThere) (maxL := 1) (retY := none) F X.1 q_427 q_428 q_1 q_429 ⟨by decide, by decide, by decide +kernel⟩ rfl d_K_near_82) d_K_near_82 (n := 85) rfl (by simp [Value.category]) ⟨by decide, by decide⟩ ⟨Nat.zero_le _, Nat.zero_le _⟩ ⟨rfl, rfl⟩ trivial (fun _ hSw_25 => ?_)
                  refine yy_aload F d_K_near_85 (n := 87) rfl 3 rfl ?_
                  refine yy_iload F d_K_near_87 (n := 89) rfl 0 rfl ?_
                  refine yy_cri (w := (s_nu (k_B σ (cN x)) (k_start σ (cN x) + cN (k_nr σ (cN x) key how)))) F hSw_25 (c_C_numberAt (A := A) (σ := σ) (c := cN x) X I hc (x := k_nr σ (cN x) key how) (q := k_start σ (cN x) + cN (k_nr σ (cN x) key how)) (by rw [← nI_add, ← hp2]) (by omega)) (yy_Bc F X.1 q_452 q_9) (yy_invC (nA := 1) (x := y_C_numberAt) F X hP hc q_446 q_448 (k_dec X q_447 q_452) (k_sel q_451 q_449 q_450 σ (cN x)) q_447 ⟨by decide, by decide, by decide +kernel⟩ rfl d_K_near_89) d_K_near_89 (n := 92) rfl (by simp [Value.category]) ⟨by decide, by decide⟩ ⟨Nat.zero_le _, Nat.zero_le _⟩ ⟨rfl, rfl⟩ hP rfl (fun _ hSw_26 => ?_)
                  exact yy_iret F hSw_26 ⟨Nat.zero_le _, Nat.zero_le _⟩ rfl d_K_near_92 (kq_i (by unfold sp_near; rw [hE, hk, hb, hp]; rfl) hP kpA.rf)
            · have hwk : k_wk how = 1 := if_pos (Or.inr h3)
              refine yy_iconst (v := 1) F d_K_near_42 (n := 43) rfl rfl ?_
              refine yy_goto (tgt := 47) F d_K_near_43 (by decide) ?_
              refine yy_istore (lv' := [(5, .int 1), (4, .ref (a_ad A (cN x))), (0, .ref (a_k A)), (1, .int x), (2, .int key), (3, .int how)]) F d_K_near_47 (n := 49) rfl (by decide) rfl ?_
              refine yy_aload F d_K_near_49 (n := 51) rfl 1 rfl ?_
              refine yy_iload_n F d_K_near_51 (n := 52) rfl 4 rfl ?_
              refine yy_iload F d_K_near_52 (n := 54) rfl 0 rfl ?_
              refine yy_cri (w := (nI (min (ym_cnt (ym_bel (s_nu (k_B σ (cN x))) key (k_wk how)) (s_ct (k_B σ (cN x))) - k_start σ (cN x)) (k_size σ (cN x))))) F hSw_8 (c_C_placesBefore (A := A) (σ := σ) (c := cN x) X I hc (key := key) (e := 1) hs) (yy_Bc F X.1 q_693 q_9) (yy_invC (nA := 2) (x := y_C_placesBefore) F X hP hc q_687 q_689 (k_dec X q_688 q_693) (k_sel q_692 q_690 q_691 σ (cN x)) q_688 ⟨by decide, by decide, by decide +kernel⟩ rfl d_K_near_54) d_K_near_54 (n := 57) rfl (by simp [Value.category]) ⟨by decide, by decide⟩ ⟨Nat.zero_le _, Nat.zero_le _⟩ ⟨rfl, rfl⟩ hP (by rw [hwk]) (fun _ hSw_27 => ?_)
              refine yy_istore (lv' := [(6, .int (nI (min (ym_cnt (ym_bel (s_nu (k_B σ (cN x))) key (k_wk how)) (s_ct (k_B σ (cN x))) - k_start σ (cN x)) (k_size σ (cN x))))), (5, .int 1), (4, .ref (a_ad A (cN x))), (0, .ref (a_k A)), (1, .int x), (2, .int key), (3, .int how)]) F d_K_near_57 (n := 59) rfl (by decide) rfl ?_
              refine yy_iload_n F d_K_near_59 (n := 60) rfl 6 rfl ?_
              refine yy_iconst (v := 1) F d_K_near_60 (n := 61) rfl rfl ?_
              refine yy_ic_gt (tgt := 71) F d_K_near_61 (n := 64) rfl (by decide) (fun h4 => ?_) (fun h4 => ?_)
              · refine yy_iload F d_K_near_71 (n := 73) rfl 0 rfl ?_
                refine yy_istore (lv' := [(7, .int (nI (min (ym_cnt (ym_bel (s_nu (k_B σ (cN x))) key (k_wk how)) (s_ct (k_B σ (cN x))) - k_start σ (cN x)) (k_size σ (cN x))))), (6, .int (nI (min (ym_cnt (ym_bel (s_nu (k_B σ (cN x))) key (k_wk how)) (s_ct (k_B σ (cN x))) - k_start σ (cN x)) (k_size σ (cN x))))), (5, .int 1), (4, .ref (a_ad A (cN x))), (0, .ref (a_k A)), (1, .int x), (2, .int key), (3, .int how)]) F d_K_near_73 (n := 75) rfl (by decide) rfl ?_
                refine yy_aload F d_K_near_75 (n := 77) rfl 3 rfl ?_
                refine yy_iload F d_K_near_77 (n := 79) rfl 0 rfl ?_
                have hnr : k_nr σ (cN x) key how = nI (min (ym_cnt (ym_bel (s_nu (k_B σ (cN x))) key (k_wk how)) (s_ct (k_B σ (cN x))) - k_start σ (cN x)) (k_size σ (cN x))) := if_pos h4
                rw [← hnr]
                refine yy_cri (w := (ym_n (ym_inb (k_nr σ (cN x) key how) (k_size σ (cN x))))) F hSw_27 (c_C_isPlace (A := A) (σ := σ) (c := cN x) (p := k_nr σ (cN x) key how) X I hc) (yy_Bc F X.1 q_425 q_9) (yy_invC (nA := 1) (x := y_C_isPlace) F X hP hc q_419 q_421 (k_dec X q_420 q_425) (k_sel q_424 q_422 q_423 σ (cN x)) q_420 ⟨by decide, by decide, by decide +kernel⟩ rfl d_K_near_79) d_K_near_79 (n := 82) rfl (by simp [Value.category]) ⟨by decide, by decide⟩ ⟨Nat.zero_le _, Nat.zero_le _⟩ ⟨rfl, rfl⟩ hP rfl (fun _ hSw_28 => ?_)
                cases hp : ym_inb (k_nr σ (cN x) key how) (k_size σ (cN x))
                · exact yy_ctp F hSw_28 (c_K_demandThere_no X) (yy_Bc F X.1 q_429 q_1) (yy_invS (nA := 1) (bytes := b_K_demandThere) (maxL := 1) (retY := none) F X.1 q_427 q_428 q_1 q_429 ⟨by decide, by decide, by decide +kernel⟩ rfl d_K_near_82) d_K_near_82 (by simp [Value.category]) ⟨by decide, by decide⟩ ⟨by decide, by decide⟩ trivial (fun H1 hx => kq_no (by unfold sp_near; rw [hE, hk, hb, hp]; rfl) hP hx)
                · obtain ⟨hp1, hp2⟩ := inb_cN (by omega) hp
                  refine yy_crv F hSw_28 (c_K_demandThere X) (yy_Bc F X.1 q_429 q_1) (yy_invS (nA := 1) (bytes := b_K_demandThere) (maxL := 1) (retY := none) F X.1 q_427 q_428 q_1 q_429 ⟨by decide, by decide, by decide +kernel⟩ rfl d_K_near_82) d_K_near_82 (n := 85) rfl (by simp [Value.category]) ⟨by decide, by decide⟩ ⟨Nat.zero_le _, Nat.zero_le _⟩ ⟨rfl, rfl⟩ trivial (fun _ hSw_30 => ?_)
                  refine yy_aload F d_K_near_85 (n := 87) rfl 3 rfl ?_
                  refine yy_iload F d_K_near_87 (n := 89) rfl 0 rfl ?_
                  refine yy_cri (w := (s_nu (k_B σ (cN x)) (k_start σ (cN x) + cN (k_nr σ (cN x) key how)))) F hSw_30 (c_C_numberAt (A := A) (σ := σ) (c := cN x) X I hc (x := k_nr σ (cN x) key how) (q := k_start σ (cN x) + cN (k_nr σ (cN x) key how)) (by rw [← nI_add, ← hp2]) (by omega)) (yy_Bc F X.1 q_452 q_9) (yy_invC (nA := 1) (x := y_C_numberAt) F X hP hc q_446 q_448 (k_dec X q_447 q_452) (k_sel q_451 q_449 q_450 σ (cN x)) q_447 ⟨by decide, by decide, by decide +kernel⟩ rfl d_K_near_89) d_K_near_89 (n := 92) rfl (by simp [Value.category]) ⟨by decide, by decide⟩ ⟨Nat.zero_le _, Nat.zero_le _⟩ ⟨rfl, rfl⟩ hP rfl (fun _ hSw_31 => ?_)
                  exact yy_iret F hSw_31 ⟨Nat.zero_le _, Nat.zero_le _⟩ rfl d_K_near_92 (kq_i (by unfold sp_near; rw [hE, hk, hb, hp]; rfl) hP kpA.rf)
              · refine yy_iload F d_K_near_64 (n := 66) rfl 0 rfl ?_
                refine yy_iconst (v := 1) F d_K_near_66 (n := 67) rfl rfl ?_
                refine yy_isub F d_K_near_67 (n := 68) rfl ?_
                refine yy_goto (tgt := 73) F d_K_near_68 (by decide) ?_
                refine yy_istore (lv' := [(7, .int ((nI (min (ym_cnt (ym_bel (s_nu (k_B σ (cN x))) key (k_wk how)) (s_ct (k_B σ (cN x))) - k_start σ (cN x)) (k_size σ (cN x)))) - 1)), (6, .int (nI (min (ym_cnt (ym_bel (s_nu (k_B σ (cN x))) key (k_wk how)) (s_ct (k_B σ (cN x))) - k_start σ (cN x)) (k_size σ (cN x))))), (5, .int 1), (4, .ref (a_ad A (cN x))), (0, .ref (a_k A)), (1, .int x), (2, .int key), (3, .int how)]) F d_K_near_73 (n := 75) rfl (by decide) rfl ?_
                refine yy_aload F d_K_near_75 (n := 77) rfl 3 rfl ?_
                refine yy_iload F d_K_near_77 (n := 79) rfl 0 rfl ?_
                have hnr : k_nr σ (cN x) key how = (nI (min (ym_cnt (ym_bel (s_nu (k_B σ (cN x))) key (k_wk how)) (s_ct (k_B σ (cN x))) - k_start σ (cN x)) (k_size σ (cN x)))) - 1 := if_neg h4
                rw [← hnr]
                refine yy_cri (w := (ym_n (ym_inb (k_nr σ (cN x) key how) (k_size σ (cN x))))) F hSw_27 (c_C_isPlace (A := A) (σ := σ) (c := cN x) (p := k_nr σ (cN x) key how) X I hc) (yy_Bc F X.1 q_425 q_9) (yy_invC (nA := 1) (x := y_C_isPlace) F X hP hc q_419 q_421 (k_dec X q_420 q_425) (k_sel q_424 q_422 q_423 σ (cN x)) q_420 ⟨by decide, by decide, by decide +kernel⟩ rfl d_K_near_79) d_K_near_79 (n := 82) rfl (by simp [Value.category]) ⟨by decide, by decide⟩ ⟨Nat.zero_le _, Nat.zero_le _⟩ ⟨rfl, rfl⟩ hP rfl (fun _ hSw_32 => ?_)
                cases hp : ym_inb (k_nr σ (cN x) key how) (k_size σ (cN x))
                · exact yy_ctp F hSw_32 (c_K_demandThere_no X) (yy_Bc F X.1 q_429 q_1) (yy_invS (nA := 1) (bytes := b_K_demandThere) (maxL := 1) (retY := none) F X.1 q_427 q_428 q_1 q_429 ⟨by decide, by decide, by decide +kernel⟩ rfl d_K_near_82) d_K_near_82 (by simp [Value.category]) ⟨by decide, by decide⟩ ⟨by decide, by decide⟩ trivial (fun H1 hx => kq_no (by unfold sp_near; rw [hE, hk, hb, hp]; rfl) hP hx)
                · obtain ⟨hp1, hp2⟩ := inb_cN (by omega) hp
                  refine yy_crv F hSw_32 (c_K_demandThere X) (yy_Bc F X.1 q_429 q_1) (yy_invS (nA := 1) (bytes := b_K_demandThere) (maxL := 1) (retY := none) F X.1 q_427 q_428 q_1 q_429 ⟨by decide, by decide, by decide +kernel⟩ rfl d_K_near_82) d_K_near_82 (n := 85) rfl (by simp [Value.category]) ⟨by decide, by decide⟩ ⟨Nat.zero_le _, Nat.zero_le _⟩ ⟨rfl, rfl⟩ trivial (fun _ hSw_34 => ?_)
                  refine yy_aload F d_K_near_85 (n := 87) rfl 3 rfl ?_
                  refine yy_iload F d_K_near_87 (n := 89) rfl 0 rfl ?_
                  refine yy_cri (w := (s_nu (k_B σ (cN x)) (k_start σ (cN x) + cN (k_nr σ (cN x) key how)))) F hSw_34 (c_C_numberAt (A := A) (σ := σ) (c := cN x) X I hc (x := k_nr σ (cN x) key how) (q := k_start σ (cN x) + cN (k_nr σ (cN x) key how)) (by rw [← nI_add, ← hp2]) (by omega)) (yy_Bc F X.1 q_452 q_9) (yy_invC (nA := 1) (x := y_C_numberAt) F X hP hc q_446 q_448 (k_dec X q_447 q_452) (k_sel q_451 q_449 q_450 σ (cN x)) q_447 ⟨by decide, by decide, by decide +kernel⟩ rfl d_K_near_89) d_K_near_89 (n := 92) rfl (by simp [Value.category]) ⟨by decide, by decide⟩ ⟨Nat.zero_le _, Nat.zero_le _⟩ ⟨rfl, rfl⟩ hP rfl (fun _ hSw_35 => ?_)
                  exact yy_iret F hSw_35 ⟨Nat.zero_le _, Nat.zero_le _⟩ rfl d_K_near_92 (kq_i (by unfold sp_near; rw [hE, hk, hb, hp]; rfl) hP kpA.rf)
