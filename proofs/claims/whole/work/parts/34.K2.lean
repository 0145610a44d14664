/-! PART K2: lookups that also ask for a kind -/
theorem k_cat {l : Launch} {z : State} {a0 : Array Value} {D : va_G} {ca : kca} (X : kcx l z a0 D ca) {A : kA} {σ : ks} {t : Nat} (I : iv t σ) {x : Int32} (hc : cN x < k_m σ) (ex : x = nI (cN x)) : yy_M l z y_K_containerAt (.code y_K_containerAt b_K_containerAt 2 (some (.object "ContainerKit$Container"))) ({ frames := 0, cells := 0, slots := 0, locals := 0 }) [.ref (a_k A), .int x] (ck_at D ca z A σ) (yy_rr (some (a_ad A (cN x)))) := by
  have h9 := c_K_containerAt (A := A) X I hc
  rw [← ex] at h9
  exact h9
theorem k_wat {l : Launch} {z : State} {a0 : Array Value} {D : va_G} {ca : kca} (X : kcx l z a0 D ca) {A : kA} {σ : ks} {t : Nat} (I : iv t σ) {x : Int32} (hi : cN x < 4) (ex : x = nI (cN x)) : yy_M l z y_K_walkAt (.code y_K_walkAt b_K_walkAt 2 (some (.object "ContainerKit$Walk"))) ({ frames := 0, cells := 0, slots := 0, locals := 0 }) [.ref (a_k A), .int x] (ck_at D ca z A σ) (yy_rr (some (a_wd A (cN x)))) := by
  have h9 := c_K_walkAt (A := A) X I hi
  rw [← ex] at h9
  exact h9
set_option maxRecDepth 100000 in
set_option maxHeartbeats 4000000 in
theorem c_K_mapAt {l : Launch} {z : State} {a0 : Array Value} {D : va_G} {ca : kca} (X : kcx l z a0 D ca) {A : kA} {σ : ks} {t : Nat} (I : iv t σ) {x : Int32} (hE : ch_map σ x = none) : yy_M l z y_K_mapAt (.code y_K_mapAt b_K_mapAt 3 (some (.object "ContainerKit$Container"))) ({ frames := 2, cells := 0, slots := 0, locals := 40 }) [.ref (a_k A), .int x] (ck_at D ca z A σ) (yy_rr (some (a_ad A (cN x)))) := by
  refine yy_body (plainFor_of_name (by decide)) (Nat.le_of_ble_eq_true rfl) (fun b H F hS hP hH hnm => ?_)
  obtain ⟨hc, ex, hk⟩ := ch_map_none I.m10 hE
  refine yy_aload_n F d_K_mapAt_0 (n := 1) rfl 0 rfl ?_
  refine yy_iload_n F d_K_mapAt_1 (n := 2) rfl 1 rfl ?_
  refine yy_crr (w := (some (a_ad A (cN x)))) F hS (k_cat X I hc ex) (yy_Bc F X.1 q_237 q_1) (yy_invV (nA := 1) (C := R_K) (bytes := b_K_containerAt) (maxL := 2) (retY := (some (.object "ContainerKit$Container"))) F X.1 q_234 q_236 qs_K_containerAt q_237 ⟨by decide, by decide, by decide +kernel⟩ (yy_recv F.N X.2.1 (ci := 5) rfl hP.k) rfl d_K_mapAt_2) d_K_mapAt_2 (n := 5) rfl (by simp [Value.category]) ⟨by decide, by decide⟩ ⟨Nat.zero_le _, Nat.zero_le _⟩ ⟨rfl, rfl⟩ hP rfl (fun _ hSw_1 => ?_)
  refine yy_astore_n (lv' := [(2, .ref (a_ad A (cN x))), (0, .ref (a_k A)), (1, .int x)]) F d_K_mapAt_5 (n := 6) rfl (by decide) rfl ?_
  refine yy_aload_n F d_K_mapAt_6 (n := 7) rfl 0 rfl ?_
  refine yy_cri (w := (ym_n true)) F hSw_1 (c_C_isMap (A := A) (σ := σ) (c := cN x) X I hc) (yy_Bc F X.1 q_587 q_9) (yy_invC (nA := 0) (x := y_C_isMap) F X hP hc q_581 q_583 (k_dec X q_582 q_587) (k_sel q_586 q_584 q_585 σ (cN x)) q_582 ⟨by decide, by decide, by decide +kernel⟩ rfl d_K_mapAt_7) d_K_mapAt_7 (n := 10) rfl (by simp [Value.category]) ⟨by decide, by decide⟩ ⟨Nat.zero_le _, Nat.zero_le _⟩ ⟨rfl, rfl⟩ hP (by rw [show (k_ish (k_kd σ (cN x)) || k_iss (k_kd σ (cN x))) = true from hk]) (fun _ hSw_2 => ?_)
  refine yy_crv F hSw_2 (c_K_demandKind X) (yy_Bc F X.1 q_270 q_1) (yy_invS (nA := 1) (bytes := b_K_demandKind) (maxL := 1) (retY := none) F X.1 q_268 q_269 q_1 q_270 ⟨by decide, by decide, by decide +kernel⟩ rfl d_K_mapAt_10) d_K_mapAt_10 (n := 13) rfl (by simp [Value.category]) ⟨by decide, by decide⟩ ⟨Nat.zero_le _, Nat.zero_le _⟩ ⟨rfl, rfl⟩ trivial (fun _ hSw_3 => ?_)
  refine yy_aload_n F d_K_mapAt_13 (n := 14) rfl 0 rfl ?_
  exact yy_aret F hSw_3 ⟨Nat.zero_le _, Nat.zero_le _⟩ rfl (Or.inr ⟨_, rfl⟩) d_K_mapAt_14 (⟨some _, rfl, rfl, rfl⟩)
set_option maxRecDepth 100000 in
set_option maxHeartbeats 4000000 in
theorem c_K_mapAt_no {l : Launch} {z : State} {a0 : Array Value} {D : va_G} {ca : kca} (X : kcx l z a0 D ca) {A : kA} {σ : ks} {t : Nat} (I : iv t σ) {x : Int32} {E : String} (hE : ch_map σ x = some E) : yy_M l z y_K_mapAt (.code y_K_mapAt b_K_mapAt 3 (some (.object "ContainerKit$Container"))) ({ frames := 7, cells := 1, slots := 6, locals := 103 }) [.ref (a_k A), .int x] (ck_at D ca z A σ) (yy_tx E) := by
  refine yy_body (plainFor_of_name (by decide)) (Nat.le_of_ble_eq_true rfl) (fun b H F hS hP hH hnm => ?_)
  rcases ch_map_some I.m10 hE with ⟨hin, rfl⟩ | ⟨⟨hc, ex⟩, hk, rfl⟩
  · refine yy_aload_n F d_K_mapAt_0 (n := 1) rfl 0 rfl ?_
    refine yy_iload_n F d_K_mapAt_1 (n := 2) rfl 1 rfl ?_
    exact yy_ctp F hS (c_K_containerAt_no X I hin) (yy_Bc F X.1 q_237 q_1) (yy_invV (nA := 1) (C := R_K) (bytes := b_K_containerAt) (maxL := 2) (retY := (some (.object "ContainerKit$Container"))) F X.1 q_234 q_236 qs_K_containerAt q_237 ⟨by decide, by decide, by decide +kernel⟩ (yy_recv F.N X.2.1 (ci := 5) rfl hP.k) rfl d_K_mapAt_2) d_K_mapAt_2 (by simp [Value.category]) ⟨by decide, by decide⟩ ⟨by decide, by decide⟩ hP (fun H1 hx => ⟨rfl, hx⟩)
  · refine yy_aload_n F d_K_mapAt_0 (n := 1) rfl 0 rfl ?_
    refine yy_iload_n F d_K_mapAt_1 (n := 2) rfl 1 rfl ?_
    refine yy_crr (w := (some (a_ad A (cN x)))) F hS (k_cat X I hc ex) (yy_Bc F X.1 q_237 q_1) (yy_invV (nA := 1) (C := R_K) (bytes := b_K_containerAt) (maxL := 2) (retY := (some (.object "ContainerKit$Container"))) F X.1 q_234 q_236 qs_K_containerAt q_237 ⟨by decide, by decide, by decide +kernel⟩ (yy_recv F.N X.2.1 (ci := 5) rfl hP.k) rfl d_K_mapAt_2) d_K_mapAt_2 (n := 5) rfl (by simp [Value.category]) ⟨by decide, by decide⟩ ⟨Nat.zero_le _, Nat.zero_le _⟩ ⟨rfl, rfl⟩ hP rfl (fun _ hSw_2 => ?_)
    refine yy_astore_n (lv' := [(2, .ref (a_ad A (cN x))), (0, .ref (a_k A)), (1, .int x)]) F d_K_mapAt_5 (n := 6) rfl (by decide) rfl ?_
    refine yy_aload_n F d_K_mapAt_6 (n := 7) rfl 0 rfl ?_
    refine yy_cri (w := (ym_n false)) F hSw_2 (c_C_isMap (A := A) (σ := σ) (c := cN x) X I hc) (yy_Bc F X.1 q_587 q_9) (yy_invC (nA := 0) (x := y_C_isMap) F X hP hc q_581 q_583 (k_dec X q_582 q_587) (k_sel q_586 q_584 q_585 σ (cN x)) q_582 ⟨by decide, by decide, by decide +kernel⟩ rfl d_K_mapAt_7) d_K_mapAt_7 (n := 10) rfl (by simp [Value.category]) ⟨by decide, by decide⟩ ⟨Nat.zero_le _, Nat.zero_le _⟩ ⟨rfl, rfl⟩ hP (by rw [show (k_ish (k_kd σ (cN x)) || k_iss (k_kd σ (cN x))) = false from hk]) (fun _ hSw_3 => ?_)
    exact yy_ctp F hSw_3 (c_K_demandKind_no X) (yy_Bc F X.1 q_270 q_1) (yy_invS (nA := 1) (bytes := b_K_demandKind) (maxL := 1) (retY := none) F X.1 q_268 q_269 q_1 q_270 ⟨by decide, by decide, by decide +kernel⟩ rfl d_K_mapAt_10) d_K_mapAt_10 (by simp [Value.category]) ⟨by decide, by decide⟩ ⟨by decide, by decide⟩ trivial (fun H1 hx => ⟨rfl, hx⟩)
set_option maxRecDepth 100000 in
set_option maxHeartbeats 4000000 in
theorem c_K_freshList {l : Launch} {z : State} {a0 : Array Value} {D : va_G} {ca : kca} (X : kcx l z a0 D ca) {A : kA} {σ : ks} {t : Nat} (I : iv t σ) {x : Int32} (hE : ch_fl σ x = none) : yy_M l z y_K_freshList (.code y_K_freshList b_K_freshList 3 (some (.object "ContainerKit$Container"))) ({ frames := 2, cells := 0, slots := 0, locals := 40 }) [.ref (a_k A), .int x] (ck_at D ca z A σ) (yy_rr (some (a_ad A (cN x)))) := by
  refine yy_body (plainFor_of_name (by decide)) (Nat.le_of_ble_eq_true rfl) (fun b H F hS hP hH hnm => ?_)
  obtain ⟨hc, ex, hk, hs⟩ := ch_fl_none I.m10 hE
  refine yy_aload_n F d_K_freshList_0 (n := 1) rfl 0 rfl ?_
  refine yy_iload_n F d_K_freshList_1 (n := 2) rfl 1 rfl ?_
  refine yy_crr (w := (some (a_ad A (cN x)))) F hS (k_cat X I hc ex) (yy_Bc F X.1 q_237 q_1) (yy_invV (nA := 1) (C := R_K) (bytes := b_K_containerAt) (maxL := 2) (retY := (some (.object "ContainerKit$Container"))) F X.1 q_234 q_236 qs_K_containerAt q_237 ⟨by decide, by decide, by decide +kernel⟩ (yy_recv F.N X.2.1 (ci := 5) rfl hP.k) rfl d_K_freshList_2) d_K_freshList_2 (n := 5) rfl (by simp [Value.category]) ⟨by decide, by decide⟩ ⟨Nat.zero_le _, Nat.zero_le _⟩ ⟨rfl, rfl⟩ hP rfl (fun _ hSw_1 => ?_)
  refine yy_astore_n (lv' := [(2, .ref (a_ad A (cN x))), (0, .ref (a_k A)), (1, .int x)]) F d_K_freshList_5 (n := 6) rfl (by decide) rfl ?_
  refine yy_aload_n F d_K_freshList_6 (n := 7) rfl 0 rfl ?_
  refine yy_cri (w := (ym_n true)) F hSw_1 (c_C_isList (A := A) (σ := σ) (c := cN x) X I hc) (yy_Bc F X.1 q_260 q_9) (yy_invC (nA := 0) (x := y_C_isList) F X hP hc q_254 q_256 (k_dec X q_255 q_260) (k_sel q_259 q_257 q_258 σ (cN x)) q_255 ⟨by decide, by decide, by decide +kernel⟩ rfl d_K_freshList_7) d_K_freshList_7 (n := 10) rfl (by simp [Value.category]) ⟨by decide, by decide⟩ ⟨Nat.zero_le _, Nat.zero_le _⟩ ⟨rfl, rfl⟩ hP (by rw [hk]) (fun _ hSw_2 => ?_)
  refine yy_crv F hSw_2 (c_K_demandKind X) (yy_Bc F X.1 q_270 q_1) (yy_invS (nA := 1) (bytes := b_K_demandKind) (maxL := 1) (retY := none) F X.1 q_268 q_269 q_1 q_270 ⟨by decide, by decide, by decide +kernel⟩ rfl d_K_freshList_10) d_K_freshList_10 (n := 13) rfl (by simp [Value.category]) ⟨by decide, by decide⟩ ⟨Nat.zero_le _, Nat.zero_le _⟩ ⟨rfl, rfl⟩ trivial (fun _ hSw_3 => ?_)
  refine yy_aload_n F d_K_freshList_13 (n := 14) rfl 0 rfl ?_
  refine yy_crv F hSw_3 (c_K_demandFresh X I hc hs) (yy_Bc F X.1 q_289 q_1) (yy_invS (nA := 1) (bytes := b_K_demandFresh) (maxL := 1) (retY := none) F X.1 q_287 q_288 q_1 q_289 ⟨by decide, by decide, by decide +kernel⟩ rfl d_K_freshList_14) d_K_freshList_14 (n := 17) rfl (by simp [Value.category]) ⟨by decide, by decide⟩ ⟨Nat.zero_le _, Nat.zero_le _⟩ ⟨rfl, rfl⟩ hP (fun _ hSw_4 => ?_)
  refine yy_aload_n F d_K_freshList_17 (n := 18) rfl 0 rfl ?_
  exact yy_aret F hSw_4 ⟨Nat.zero_le _, Nat.zero_le _⟩ rfl (Or.inr ⟨_, rfl⟩) d_K_freshList_18 (⟨some _, rfl, rfl, rfl⟩)
set_option maxRecDepth 100000 in
set_option maxHeartbeats 4000000 in
theorem c_K_freshList_no {l : Launch} {z : State} {a0 : Array Value} {D : va_G} {ca : kca} (X : kcx l z a0 D ca) {A : kA} {σ : ks} {t : Nat} (I : iv t σ) {x : Int32} {E : String} (hE : ch_fl σ x = some E) : yy_M l z y_K_freshList (.code y_K_freshList b_K_freshList 3 (some (.object "ContainerKit$Container"))) ({ frames := 7, cells := 1, slots := 6, locals := 103 }) [.ref (a_k A), .int x] (ck_at D ca z A σ) (yy_tx E) := by
  refine yy_body (plainFor_of_name (by decide)) (Nat.le_of_ble_eq_true rfl) (fun b H F hS hP hH hnm => ?_)
  rcases ch_fl_some I.m10 hE with ⟨hin, rfl⟩ | ⟨⟨hc, ex⟩, ⟨hk, rfl⟩ | ⟨hk, hs, rfl⟩⟩
  · refine yy_aload_n F d_K_freshList_0 (n := 1) rfl 0 rfl ?_
    refine yy_iload_n F d_K_freshList_1 (n := 2) rfl 1 rfl ?_
    exact yy_ctp F hS (c_K_containerAt_no X I hin) (yy_Bc F X.1 q_237 q_1) (yy_invV (nA := 1) (C := R_K) (bytes := b_K_containerAt) (maxL := 2) (retY := (some (.object "ContainerKit$Container"))) F X.1 q_234 q_236 qs_K_containerAt q_237 ⟨by decide, by decide, by decide +kernel⟩ (yy_recv F.N X.2.1 (ci := 5) rfl hP.k) rfl d_K_freshList_2) d_K_freshList_2 (by simp [Value.category]) ⟨by decide, by decide⟩ ⟨by decide, by decide⟩ hP (fun H1 hx => ⟨rfl, hx⟩)
  · refine yy_aload_n F d_K_freshList_0 (n := 1) rfl 0 rfl ?_
    refine yy_iload_n F d_K_freshList_1 (n := 2) rfl 1 rfl ?_
    refine yy_crr (w := (some (a_ad A (cN x)))) F hS (k_cat X I hc ex) (yy_Bc F X.1 q_237 q_1) (yy_invV (nA := 1) (C := R_K) (bytes := b_K_containerAt) (maxL := 2) (retY := (some (.object "ContainerKit$Container"))) F X.1 q_234 q_236 qs_K_containerAt q_237 ⟨by decide, by decide, by decide +kernel⟩ (yy_recv F.N X.2.1 (ci := 5) rfl hP.k) rfl d_K_freshList_2) d_K_freshList_2 (n := 5) rfl (by simp [Value.category]) ⟨by decide, by decide⟩ ⟨Nat.zero_le _, Nat.zero_le _⟩ ⟨rfl, rfl⟩ hP rfl (fun _ hSw_2 => ?_)
    refine yy_astore_n (lv' := [(2, .ref (a_ad A (cN x))), (0, .ref (a_k A)), (1, .int x)]) F d_K_freshList_5 (n := 6) rfl (by decide) rfl ?_
    refine yy_aload_n F d_K_freshList_6 (n := 7) rfl 0 rfl ?_
    refine yy_cri (w := (ym_n false)) F hSw_2 (c_C_isList (A := A) (σ := σ) (c := cN x) X I hc) (yy_Bc F X.1 q_260 q_9) (yy_invC (nA := 0) (x := y_C_isList) F X hP hc q_254 q_256 (k_dec X q_255 q_260) (k_sel q_259 q_257 q_258 σ (cN x)) q_255 ⟨by decide, by decide, by decide +kernel⟩ rfl d_K_freshList_7) d_K_freshList_7 (n := 10) rfl (by simp [Value.category]) ⟨by decide, by decide⟩ ⟨Nat.zero_le _, Nat.zero_le _⟩ ⟨rfl, rfl⟩ hP (by rw [hk]) (fun _ hSw_3 => ?_)
    exact yy_ctp F hSw_3 (c_K_demandKind_no X) (yy_Bc F X.1 q_270 q_1) (yy_invS (nA := 1) (bytes := b_K_demandKind) (maxL := 1) (retY := none) F X.1 q_268 q_269 q_1 q_270 ⟨by decide, by decide, by decide +kernel⟩ rfl d_K_freshList_10) d_K_freshList_10 (by simp [Value.category]) ⟨by decide, by decide⟩ ⟨by decide, by decide⟩ trivial (fun H1 hx => ⟨rfl, hx⟩)
  · refine yy_aload_n F d_K_freshList_0 (n := 1) rfl 0 rfl ?_
    refine yy_iload_n F d_K_freshList_1 (n := 2) rfl 1 rfl ?_
    refine yy_crr (w := (some (a_ad A (cN x)))) F hS (k_cat X I hc ex) (yy_Bc F X.1 q_237 q_1) (yy_invV (nA := 1) (C := R_K) (bytes := b_K_containerAt) (maxL := 2) (retY := (some (.object "ContainerKit$Container"))) F X.1 q_234 q_236 qs_K_containerAt q_237 ⟨by decide, by decide, by decide +kernel⟩ (yy_recv F.N X.2.1 (ci := 5) rfl hP.k) rfl d_K_freshList_2) d_K_freshList_2 (n := 5) rfl (by simp [Value.category]) ⟨by decide, by decide⟩ ⟨Nat.zero_le _, Nat.zero_le _⟩ ⟨rfl, rfl⟩ hP rfl (fun _ hSw_5 => ?_)
    refine yy_astore_n (lv' := [(2, .ref (a_ad A (cN x))), (0, .ref (a_k A)), (1, .int x)]) F d_K_freshList_5 (n := 6) rfl (by decide) rfl ?_
    refine yy_aload_n F d_K_freshList_6 (n := 7) rfl 0 rfl ?_
    refine yy_cri (w := (ym_n true)) F hSw_5 (c_C_isList (A := A) (σ := σ) (c := cN x) X I hc) (yy_Bc F X.1 q_260 q_9) (yy_invC (nA := 0) (x := y_C_isList) F X hP hc q_254 q_256 (k_dec X q_255 q_260) (k_sel q_259 q_257 q_258 σ (cN x)) q_255 ⟨by decide, by decide, by decide +kernel⟩ rfl d_K_freshList_7) d_K_freshList_7 (n := 10) rfl (by simp [Value.category]) ⟨by decide, by decide⟩ ⟨Nat.zero_le _, Nat.zero_le _⟩ ⟨rfl, rfl⟩ hP (by rw [hk]) (fun _ hSw_6 => ?_)
    refine yy_crv F hSw_6 (c_K_demandKind X) (yy_Bc F X.1 q_270 q_1) (yy_invS (nA := 1) (bytes := b_K_demandKind) (maxL := 1) (retY := none) F X.1 q_268 q_269 q_1 q_270 ⟨by decide, by decide, by decide +kernel⟩ rfl d_K_freshList_10) d_K_freshList_10 (n := 13) rfl (by simp [Value.category]) ⟨by decide, by decide⟩ ⟨Nat.zero_le _, Nat.zero_le _⟩ ⟨rfl, rfl⟩ trivial (fun _ hSw_7 => ?_)
    refine yy_aload_n F d_K_freshList_13 (n := 14) rfl 0 rfl ?_
    exact yy_ctp F hSw_7 (c_K_demandFresh_no X I hc hs) (yy_Bc F X.1 q_289 q_1) (yy_invS (nA := 1) (bytes := b_K_demandFresh) (maxL := 1) (retY := none) F X.1 q_287 q_288 q_1 q_289 ⟨by decide, by decide, by decide +kernel⟩ rfl d_K_freshList_14) d_K_freshList_14 (by simp [Value.category]) ⟨by decide, by decide⟩ ⟨by decide, by decide⟩ hP (fun H1 hx => ⟨rfl, hx⟩)
set_option maxRecDepth 100000 in
set_option maxHeartbeats 4000000 in
theorem c_K_freshListOrHeap {l : Launch} {z : State} {a0 : Array Value} {D : va_G} {ca : kca} (X : kcx l z a0 D ca) {A : kA} {σ : ks} {t : Nat} (I : iv t σ) {x : Int32} (hE : ch_flh σ x = none) : yy_M l z y_K_freshListOrHeap (.code y_K_freshListOrHeap b_K_freshListOrHeap 3 (some (.object "ContainerKit$Container"))) ({ frames := 2, cells := 0, slots := 0, locals := 40 }) [.ref (a_k A), .int x] (ck_at D ca z A σ) (yy_rr (some (a_ad A (cN x)))) := by
  refine yy_body (plainFor_of_name (by decide)) (Nat.le_of_ble_eq_true rfl) (fun b H F hS hP hH hnm => ?_)
  obtain ⟨hc, ex, hk, hs⟩ := ch_flh_none I.m10 hE
  refine yy_aload_n F d_K_freshListOrHeap_0 (n := 1) rfl 0 rfl ?_
  refine yy_iload_n F d_K_freshListOrHeap_1 (n := 2) rfl 1 rfl ?_
  refine yy_crr (w := (some (a_ad A (cN x)))) F hS (k_cat X I hc ex) (yy_Bc F X.1 q_237 q_1) (yy_invV (nA := 1) (C := R_K) (bytes := b_K_containerAt) (maxL := 2) (retY := (some (.object "ContainerKit$Container"))) F X.1 q_234 q_236 qs_K_containerAt q_237 ⟨by decide, by decide, by decide +kernel⟩ (yy_recv F.N X.2.1 (ci := 5) rfl hP.k) rfl d_K_freshListOrHeap_2) d_K_freshListOrHeap_2 (n := 5) rfl (by simp [Value.category]) ⟨by decide, by decide⟩ ⟨Nat.zero_le _, Nat.zero_le _⟩ ⟨rfl, rfl⟩ hP rfl (fun _ hSw_1 => ?_)
  refine yy_astore_n (lv' := [(2, .ref (a_ad A (cN x))), (0, .ref (a_k A)), (1, .int x)]) F d_K_freshListOrHeap_5 (n := 6) rfl (by decide) rfl ?_
  refine yy_aload_n F d_K_freshListOrHeap_6 (n := 7) rfl 0 rfl ?_
  refine yy_cri (w := (ym_n (k_isl (k_kd σ (cN x))))) F hSw_1 (c_C_isList (A := A) (σ := σ) (c := cN x) X I hc) (yy_Bc F X.1 q_260 q_9) (yy_invC (nA := 0) (x := y_C_isList) F X hP hc q_254 q_256 (k_dec X q_255 q_260) (k_sel q_259 q_257 q_258 σ (cN x)) q_255 ⟨by decide, by decide, by decide +kernel⟩ rfl d_K_freshListOrHeap_7) d_K_freshListOrHeap_7 (n := 10) rfl (by simp [Value.category]) ⟨by decide, by decide⟩ ⟨Nat.zero_le _, Nat.zero_le _⟩ ⟨rfl, rfl⟩ hP rfl (fun _ hSw_2 => ?_)
  cases hl : k_isl (k_kd σ (cN x))
  · refine yy_if_ne_f (tgt := 21) F d_K_freshListOrHeap_10 (n := 13) rfl (by decide) rfl ?_
    refine yy_aload_n F d_K_freshListOrHeap_13 (n := 14) rfl 0 rfl ?_
    refine cr_kind F X g_K_71_G g_K_71_P g_K_71_R hP hc d_K_freshListOrHeap_14 (n := 17) rfl ?_
    refine yy_iconst (v := 5) F d_K_freshListOrHeap_17 (n := 18) rfl rfl ?_
    refine yy_ic_ne (tgt := 25) F d_K_freshListOrHeap_18 (n := 21) rfl (by decide) (fun h5 => ?_) (fun h5 => ?_)
    · exact absurd hk (by unfold k_isf; rw [hl]; simp [h5])
    · refine yy_iconst (v := 1) F d_K_freshListOrHeap_21 (n := 22) rfl rfl ?_
      refine yy_goto (tgt := 26) F d_K_freshListOrHeap_22 (by decide) ?_
      refine yy_crv F hSw_2 (c_K_demandKind X) (yy_Bc F X.1 q_270 q_1) (yy_invS (nA := 1) (bytes := b_K_demandKind) (maxL := 1) (retY := none) F X.1 q_268 q_269 q_1 q_270 ⟨by decide, by decide, by decide +kernel⟩ rfl d_K_freshListOrHeap_26) d_K_freshListOrHeap_26 (n := 29) rfl (by simp [Value.category]) ⟨by decide, by decide⟩ ⟨Nat.zero_le _, Nat.zero_le _⟩ ⟨rfl, rfl⟩ trivial (fun _ hSw_3 => ?_)
      refine yy_aload_n F d_K_freshListOrHeap_29 (n := 30) rfl 0 rfl ?_
      refine yy_crv F hSw_3 (c_K_demandFresh X I hc hs) (yy_Bc F X.1 q_289 q_1) (yy_invS (nA := 1) (bytes := b_K_demandFresh) (maxL := 1) (retY := none) F X.1 q_287 q_288 q_1 q_289 ⟨by decide, by decide, by decide +kernel⟩ rfl d_K_freshListOrHeap_30) d_K_freshListOrHeap_30 (n := 33) rfl (by simp [Value.category]) ⟨by decide, by decide⟩ ⟨Nat.zero_le _, Nat.zero_le _⟩ ⟨rfl, rfl⟩ hP (fun _ hSw_4 => ?_)
      refine yy_aload_n F d_K_freshListOrHeap_33 (n := 34) rfl 0 rfl ?_
      exact yy_aret F hSw_4 ⟨Nat.zero_le _, Nat.zero_le _⟩ rfl (Or.inr ⟨_, rfl⟩) d_K_freshListOrHeap_34 (⟨some _, rfl, rfl, rfl⟩)
  · refine yy_if_ne_t (tgt := 21) F d_K_freshListOrHeap_10 (by decide) (by decide) ?_
    refine yy_iconst (v := 1) F d_K_freshListOrHeap_21 (n := 22) rfl rfl ?_
    refine yy_goto (tgt := 26) F d_K_freshListOrHeap_22 (by decide) ?_
    refine yy_crv F hSw_2 (c_K_demandKind X) (yy_Bc F X.1 q_270 q_1) (yy_invS (nA := 1) (bytes := b_K_demandKind) (maxL := 1) (retY := none) F X.1 q_268 q_269 q_1 q_270 ⟨by decide, by decide, by decide +kernel⟩ rfl d_K_freshListOrHeap_26) d_K_freshListOrHeap_26 (n := 29) rfl (by simp [Value.category]) ⟨by decide, by decide⟩ ⟨Nat.zero_le _, Nat.zero_le _⟩ ⟨rfl, rfl⟩ trivial (fun _ hSw_5 => ?_)
    refine yy_aload_n F d_K_freshListOrHeap_29 (n := 30) rfl 0 rfl ?_
    refine yy_crv F hSw_5 (c_K_demandFresh X I hc hs) (yy_Bc F X.1 q_289 q_1) (yy_invS (nA := 1) (bytes := b_K_demandFresh) (maxL := 1) (retY := none) F X.1 q_287 q_288 q_1 q_289 ⟨by decide, by decide, by decide +kernel⟩ rfl d_K_freshListOrHeap_30) d_K_freshListOrHeap_30 (n := 33) rfl (by simp [Value.category]) ⟨by decide, by decide⟩ ⟨Nat.zero_le _, Nat.zero_le _⟩ ⟨rfl, rfl⟩ hP (fun _ hSw_6 => ?_)
    refine yy_aload_n F d_K_freshListOrHeap_33 (n := 34) rfl 0 rfl ?_
    exact yy_aret F hSw_6 ⟨Nat.zero_le _, Nat.zero_le _⟩ rfl (Or.inr ⟨_, rfl⟩) d_K_freshListOrHeap_34 (⟨some _, rfl, rfl, rfl⟩)
set_option maxRecDepth 100000 in
set_option maxHeartbeats 4000000 in
theorem c_K_freshListOrHeap_no {l : Launch} {z : State} {a0 : Array Value} {D : va_G} {ca : kca} (X : kcx l z a0 D ca) {A : kA} {σ : ks} {t : Nat} (I : iv t σ) {x : Int32} {E : String} (hE : ch_flh σ x = some E) : yy_M l z y_K_freshListOrHeap (.code y_K_freshListOrHeap b_K_freshListOrHeap 3 (some (.object "ContainerKit$Container"))) ({ frames := 7, cells := 1, slots := 6, locals := 103 }) [.ref (a_k A), .int x] (ck_at D ca z A σ) (yy_tx E) := by
  refine yy_body (plainFor_of_name (by decide)) (Nat.le_of_ble_eq_true rfl) (fun b H F hS hP hH hnm => ?_)
  rcases ch_flh_some I.m10 hE with ⟨hin, rfl⟩ | ⟨⟨hc, ex⟩, ⟨hk, rfl⟩ | ⟨hk, hs, rfl⟩⟩
  · refine yy_aload_n F d_K_freshListOrHeap_0 (n := 1) rfl 0 rfl ?_
    refine yy_iload_n F d_K_freshListOrHeap_1 (n := 2) rfl 1 rfl ?_
    exact yy_ctp F hS (c_K_containerAt_no X I hin) (yy_Bc F X.1 q_237 q_1) (yy_invV (nA := 1) (C := R_K) (bytes := b_K_containerAt) (maxL := 2) (retY := (some (.object "ContainerKit$Container"))) F X.1 q_234 q_236 qs_K_containerAt q_237 ⟨by decide, by decide, by decide +kernel⟩ (yy_recv F.N X.2.1 (ci := 5) rfl hP.k) rfl d_K_freshListOrHeap_2) d_K_freshListOrHeap_2 (by simp [Value.category]) ⟨by decide, by decide⟩ ⟨by decide, by decide⟩ hP (fun H1 hx => ⟨rfl, hx⟩)
  · refine yy_aload_n F d_K_freshListOrHeap_0 (n := 1) rfl 0 rfl ?_
    refine yy_iload_n F d_K_freshListOrHeap_1 (n := 2) rfl 1 rfl ?_
    refine yy_crr (w := (some (a_ad A (cN x)))) F hS (k_cat X I hc ex) (yy_Bc F X.1 q_237 q_1) (yy_invV (nA := 1) (C := R_K) (bytes := b_K_containerAt) (maxL := 2) (retY := (some (.object "ContainerKit$Container"))) F X.1 q_234 q_236 qs_K_containerAt q_237 ⟨by decide, by decide, by decide +kernel⟩ (yy_recv F.N X.2.1 (ci := 5) rfl hP.k) rfl d_K_freshListOrHeap_2) d_K_freshListOrHeap_2 (n := 5) rfl (by simp [Value.category]) ⟨by decide, by decide⟩ ⟨Nat.zero_le _, Nat.zero_le _⟩ ⟨rfl, rfl⟩ hP rfl (fun _ hSw_2 => ?_)
    refine yy_astore_n (lv' := [(2, .ref (a_ad A (cN x))), (0, .ref (a_k A)), (1, .int x)]) F d_K_freshListOrHeap_5 (n := 6) rfl (by decide) rfl ?_
    refine yy_aload_n F d_K_freshListOrHeap_6 (n := 7) rfl 0 rfl ?_
    refine yy_cri (w := (ym_n (k_isl (k_kd σ (cN x))))) F hSw_2 (c_C_isList (A := A) (σ := σ) (c := cN x) X I hc) (yy_Bc F X.1 q_260 q_9) (yy_invC (nA := 0) (x := y_C_isList) F X hP hc q_254 q_256 (k_dec X q_255 q_260) (k_sel q_259 q_257 q_258 σ (cN x)) q_255 ⟨by decide, by decide, by decide +kernel⟩ rfl d_K_freshListOrHeap_7) d_K_freshListOrHeap_7 (n := 10) rfl (by simp [Value.category]) ⟨by decide, by decide⟩ ⟨Nat.zero_le _, Nat.zero_le _⟩ ⟨rfl, rfl⟩ hP rfl (fun _ hSw_3 => ?_)
    cases hl : k_isl (k_kd σ (cN x))
    · refine yy_if_ne_f (tgt := 21) F d_K_freshListOrHeap_10 (n := 13) rfl (by decide) rfl ?_
      refine yy_aload_n F d_K_freshListOrHeap_13 (n := 14) rfl 0 rfl ?_
      refine cr_kind F X g_K_71_G g_K_71_P g_K_71_R hP hc d_K_freshListOrHeap_14 (n := 17) rfl ?_
      refine yy_iconst (v := 5) F d_K_freshListOrHeap_17 (n := 18) rfl rfl ?_
      refine yy_ic_ne (tgt := 25) F d_K_freshListOrHeap_18 (n := 21) rfl (by decide) (fun h5 => ?_) (fun h5 => ?_)
      · refine yy_iconst (v := 0) F d_K_freshListOrHeap_25 (n := 26) rfl rfl ?_
        exact yy_ctp F hSw_3 (c_K_demandKind_no X) (yy_Bc F X.1 q_270 q_1) (yy_invS (nA := 1) (bytes := b_K_demandKind) (maxL := 1) (retY := none) F X.1 q_268 q_269 q_1 q_270 ⟨by decide, by decide, by decide +kernel⟩ rfl d_K_freshListOrHeap_26) d_K_freshListOrHeap_26 (by simp [Value.category]) ⟨by decide, by decide⟩ ⟨by decide, by decide⟩ trivial (fun H1 hx => ⟨rfl, hx⟩)
      · exact absurd hk (by unfold k_isf; rw [hl]; simp [h5])
    · refine yy_if_ne_t (tgt := 21) F d_K_freshListOrHeap_10 (by decide) (by decide) ?_
      refine yy_iconst (v := 1) F d_K_freshListOrHeap_21 (n := 22) rfl rfl ?_
      refine yy_goto (tgt := 26) F d_K_freshListOrHeap_22 (by decide) ?_
      rw [show k_isf (k_kd σ (cN x)) = true by unfold k_isf; rw [hl]; rfl] at hk
      cases hk
  · refine yy_aload_n F d_K_freshListOrHeap_0 (n := 1) rfl 0 rfl ?_
    refine yy_iload_n F d_K_freshListOrHeap_1 (n := 2) rfl 1 rfl ?_
    refine yy_crr (w := (some (a_ad A (cN x)))) F hS (k_cat X I hc ex) (yy_Bc F X.1 q_237 q_1) (yy_invV (nA := 1) (C := R_K) (bytes := b_K_containerAt) (maxL := 2) (retY := (some (.object "ContainerKit$Container"))) F X.1 q_234 q_236 qs_K_containerAt q_237 ⟨by decide, by decide, by decide +kernel⟩ (yy_recv F.N X.2.1 (ci := 5) rfl hP.k) rfl d_K_freshListOrHeap_2) d_K_freshListOrHeap_2 (n := 5) rfl (by simp [Value.category]) ⟨by decide, by decide⟩ ⟨Nat.zero_le _, Nat.zero_le _⟩ ⟨rfl, rfl⟩ hP rfl (fun _ hSw_5 => ?_)
    refine yy_astore_n (lv' := [(2, .ref (a_ad A (cN x))), (0, .ref (a_k A)), (1, .int x)]) F d_K_freshListOrHeap_5 (n := 6) rfl (by decide) rfl ?_
    refine yy_aload_n F d_K_freshListOrHeap_6 (n := 7) rfl 0 rfl ?_
    refine yy_cri (w := (ym_n (k_isl (k_kd σ (cN x))))) F hSw_5 (c_C_isList (A := A) (σ := σ) (c := cN x) X I hc) (yy_Bc F X.1 q_260 q_9) (yy_invC (nA := 0) (x := y_C_isList) F X hP hc q_254 q_256 (k_dec X q_255 q_260) (k_sel q_259 q_257 q_258 σ (cN x)) q_255 ⟨by decide, by decide, by decide +kernel⟩ rfl d_K_freshListOrHeap_7) d_K_freshListOrHeap_7 (n := 10) rfl (by simp [Value.category]) ⟨by decide, by decide⟩ ⟨Nat.zero_le _, Nat.zero_le _⟩ ⟨rfl, rfl⟩ hP rfl (fun _ hSw_6 => ?_)
    cases hl : k_isl (k_kd σ (cN x))
    · refine yy_if_ne_f (tgt := 21) F d_K_freshListOrHeap_10 (n := 13) rfl (by decide) rfl ?_
      refine yy_aload_n F d_K_freshListOrHeap_13 (n := 14) rfl 0 rfl ?_
      refine cr_kind F X g_K_71_G g_K_71_P g_K_71_R hP hc d_K_freshListOrHeap_14 (n := 17) rfl ?_
      refine yy_iconst (v := 5) F d_K_freshListOrHeap_17 (n := 18) rfl rfl ?_
      refine yy_ic_ne (tgt := 25) F d_K_freshListOrHeap_18 (n := 21) rfl (by decide) (fun h5 => ?_) (fun h5 => ?_)
      · exact absurd hk (by unfold k_isf; rw [hl]; simp [h5])
      · refine yy_iconst (v := 1) F d_K_freshListOrHeap_21 (n := 22) rfl rfl ?_
        refine yy_goto (tgt := 26) F d_K_freshListOrHeap_22 (by decide) ?_
        refine yy_crv F hSw_6 (c_K_demandKind X) (yy_Bc F X.1 q_270 q_1) (yy_invS (nA := 1) (bytes := b_K_demandKind) (maxL := 1) (retY := none) F X.1 q_268 q_269 q_1 q_270 ⟨by decide, by decide, by decide +kernel⟩ rfl d_K_freshListOrHeap_26) d_K_freshListOrHeap_26 (n := 29) rfl (by simp [Value.category]) ⟨by decide, by decide⟩ ⟨Nat.zero_le _, Nat.zero_le _⟩ ⟨rfl, rfl⟩ trivial (fun _ hSw_7 => ?_)
        refine yy_aload_n F d_K_freshListOrHeap_29 (n := 30) rfl 0 rfl ?_
        exact yy_ctp F hSw_7 (c_K_demandFresh_no X I hc hs) (yy_Bc F X.1 q_289 q_1) (yy_invS (nA := 1) (bytes := b_K_demandFresh) (maxL := 1) (retY := none) F X.1 q_287 q_288 q_1 q_289 ⟨by decide, by decide, by decide +kernel⟩ rfl d_K_freshListOrHeap_30) d_K_freshListOrHeap_30 (by simp [Value.category]) ⟨by decide, by decide⟩ ⟨by decide, by decide⟩ hP (fun H1 hx => ⟨rfl, hx⟩)
    · refine yy_if_ne_t (tgt := 21) F d_K_freshListOrHeap_10 (by decide) (by decide) ?_
      refine yy_iconst (v := 1) F d_K_freshListOrHeap_21 (n := 22) rfl rfl ?_
      refine yy_goto (tgt := 26) F d_K_freshListOrHeap_22 (by decide) ?_
      refine yy_crv F hSw_6 (c_K_demandKind X) (yy_Bc F X.1 q_270 q_1) (yy_invS (nA := 1) (bytes := b_K_demandKind) (maxL := 1) (retY := none) F X.1 q_268 q_269 q_1 q_270 ⟨by decide, by decide, by decide +kernel⟩ rfl d_K_freshListOrHeap_26) d_K_freshListOrHeap_26 (n := 29) rfl (by simp [Value.category]) ⟨by decide, by decide⟩ ⟨Nat.zero_le _, Nat.zero_le _⟩ ⟨rfl, rfl⟩ trivial (fun _ hSw_9 => ?_)
      refine yy_aload_n F d_K_freshListOrHeap_29 (n := 30) rfl 0 rfl ?_
      exact yy_ctp F hSw_9 (c_K_demandFresh_no X I hc hs) (yy_Bc F X.1 q_289 q_1) (yy_invS (nA := 1) (bytes := b_K_demandFresh) (maxL := 1) (retY := none) F X.1 q_287 q_288 q_1 q_289 ⟨by decide, by decide, by decide +kernel⟩ rfl d_K_freshListOrHeap_30) d_K_freshListOrHeap_30 (by simp [Value.category]) ⟨by decide, by decide⟩ ⟨by decide, by decide⟩ hP (fun H1 hx => ⟨rfl, hx⟩)
theorem c_K_openedWalkAt_x {l : Launch} {z : State} {a0 : Array Value} {D : va_G} {ca : kca} (X : kcx l z a0 D ca) {A : kA} {σ : ks} {t : Nat} (I : iv t σ) {x : Int32} (hE : ch_wk σ x = none) : yy_M l z y_K_openedWalkAt (.code y_K_openedWalkAt b_K_openedWalkAt 3 (some (.object "ContainerKit$Walk"))) ({ frames := 1, cells := 0, slots := 0, locals := 21 }) [.ref (a_k A), .int x] (ck_at D ca z A σ) (yy_rr (some (a_wd A (cN x)))) := by
  obtain ⟨hi, ex, hov, -⟩ := ch_wk_none I hE
  have h9 := c_K_openedWalkAt (A := A) X I hi hov
  rw [← ex] at h9
  exact h9
set_option maxRecDepth 100000 in
set_option maxHeartbeats 4000000 in
theorem c_K_openedWalkAt_no {l : Launch} {z : State} {a0 : Array Value} {D : va_G} {ca : kca} (X : kcx l z a0 D ca) {A : kA} {σ : ks} {t : Nat} (I : iv t σ) {x : Int32} {E : String} (hE : ch_wk σ x = some E) : yy_M l z y_K_openedWalkAt (.code y_K_openedWalkAt b_K_openedWalkAt 3 (some (.object "ContainerKit$Walk"))) ({ frames := 7, cells := 1, slots := 6, locals := 103 }) [.ref (a_k A), .int x] (ck_at D ca z A σ) (yy_tx E) := by
  refine yy_body (plainFor_of_name (by decide)) (Nat.le_of_ble_eq_true rfl) (fun b H F hS hP hH hnm => ?_)
  obtain ⟨h | ⟨⟨hi, ex⟩, hov⟩, rfl⟩ := ch_wk_some hE
  · refine yy_aload_n F d_K_openedWalkAt_0 (n := 1) rfl 0 rfl ?_
    refine yy_iload_n F d_K_openedWalkAt_1 (n := 2) rfl 1 rfl ?_
    exact yy_ctp F hS (c_K_walkAt_no X I h) (yy_Bc F X.1 q_769 q_1) (yy_invV (nA := 1) (C := R_K) (bytes := b_K_walkAt) (maxL := 2) (retY := (some (.object "ContainerKit$Walk"))) F X.1 q_766 q_768 qs_K_walkAt q_769 ⟨by decide, by decide, by decide +kernel⟩ (yy_recv F.N X.2.1 (ci := 5) rfl hP.k) rfl d_K_openedWalkAt_2) d_K_openedWalkAt_2 (by simp [Value.category]) ⟨by decide, by decide⟩ ⟨by decide, by decide⟩ hP (fun H1 hx => ⟨rfl, hx⟩)
  · have hw9 : va_at D kcl (a_wd A (cN x), .inr (4, [.null, .int (nI (k_W σ (cN x)).2.1), .int (k_W σ (cN x)).2.2.1, .int (nI (k_W σ (cN x)).2.2.2)])) H := by
      have h := hP.w hi
      unfold wk_at at h
      rw [hov] at h
      exact h
    refine yy_aload_n F d_K_openedWalkAt_0 (n := 1) rfl 0 rfl ?_
    refine yy_iload_n F d_K_openedWalkAt_1 (n := 2) rfl 1 rfl ?_
    refine yy_crr (w := (some (a_wd A (cN x)))) F hS (k_wat X I hi ex) (yy_Bc F X.1 q_769 q_1) (yy_invV (nA := 1) (C := R_K) (bytes := b_K_walkAt) (maxL := 2) (retY := (some (.object "ContainerKit$Walk"))) F X.1 q_766 q_768 qs_K_walkAt q_769 ⟨by decide, by decide, by decide +kernel⟩ (yy_recv F.N X.2.1 (ci := 5) rfl hP.k) rfl d_K_openedWalkAt_2) d_K_openedWalkAt_2 (n := 5) rfl (by simp [Value.category]) ⟨by decide, by decide⟩ ⟨Nat.zero_le _, Nat.zero_le _⟩ ⟨rfl, rfl⟩ hP rfl (fun _ hSw_2 => ?_)
    refine yy_astore_n (lv' := [(2, .ref (a_wd A (cN x))), (0, .ref (a_k A)), (1, .int x)]) F d_K_openedWalkAt_5 (n := 6) rfl (by decide) rfl ?_
    refine yy_aload_n F d_K_openedWalkAt_6 (n := 7) rfl 0 rfl ?_
    refine yy_get F X.1 X.2.1 g_K_171_W hw9 rfl d_K_openedWalkAt_7 (n := 10) rfl ?_
    refine yy_ifnonnull_f F d_K_openedWalkAt_10 (n := 13) rfl ?_
    refine yy_clean hH ?_
    obtain ⟨sa, hsa⟩ := str_204 X
    exact yy_throwS F X.1 X.2.2.2 (cls := "java/lang/IndexOutOfBoundsException") (names := ["java/lang/RuntimeException", "java/lang/Exception"]) (by decide +kernel) (by decide +kernel) q_238 q_12 hsa (yy_hat X F.N oa_199) hH ⟨by decide, by decide⟩ ⟨by decide, by decide⟩ d_K_openedWalkAt_13 d_K_openedWalkAt_16 d_K_openedWalkAt_17 d_K_openedWalkAt_19 d_K_openedWalkAt_22 (fun H1 hx => ⟨rfl, hx⟩)
def ch_key (σ : ks) (c : Nat) (key : Int32) : Option String := if k_cov σ c key = true then (match k_at σ c key with | some _ => none | none => if 24 ≤ s_ct (k_B σ c) then some e_is else none) else some e_ia
set_option maxRecDepth 100000 in
set_option maxHeartbeats 4000000 in
theorem c_K_demandKeyFits {l : Launch} {z : State} {a0 : Array Value} {D : va_G} {ca : kca} (X : kcx l z a0 D ca) {A : kA} {σ : ks} {t : Nat} (I : iv t σ) {c : Nat} (hc : c < k_m σ) (h6 : ¬ k_kd σ c = 6) {key : Int32} (hE : ch_key σ c key = none) : yy_M l z y_K_demandKeyFits (.code y_K_demandKeyFits b_K_demandKeyFits 2 none) ({ frames := 3, cells := 0, slots := 0, locals := 65 }) [.ref (a_ad A c), .int key] (ck_at D ca z A σ) (yy_rv) := by
  refine yy_body (plainFor_of_name (by decide)) (Nat.le_of_ble_eq_true rfl) (fun b H F hS hP hH hnm => ?_)
  unfold ch_key at hE
  refine yy_aload_n F d_K_demandKeyFits_0 (n := 1) rfl 0 rfl ?_
  refine yy_iload_n F d_K_demandKeyFits_1 (n := 2) rfl 1 rfl ?_
  refine vd_covers F X I hc hP hS q_599 ⟨by decide, by decide⟩ (by simp [Value.category]) d_K_demandKeyFits_2 (n := 5) rfl ⟨Nat.zero_le _, Nat.zero_le _⟩ (fun _ hS_1 => ?_)
  cases hcv : k_cov σ c key
  · rw [hcv] at hE
    cases hE
  · rw [hcv, if_pos rfl] at hE
    refine yy_crv F hS_1 (c_K_demandArgument X) (yy_Bc F X.1 q_72 q_1) (yy_invS (nA := 1) (bytes := b_K_demandArgument) (maxL := 1) (retY := none) F X.1 q_70 q_71 q_1 q_72 ⟨by decide, by decide, by decide +kernel⟩ rfl d_K_demandKeyFits_5) d_K_demandKeyFits_5 (n := 8) rfl (by simp [Value.category]) ⟨by decide, by decide⟩ ⟨Nat.zero_le _, Nat.zero_le _⟩ ⟨rfl, rfl⟩ trivial (fun _ hSw_2 => ?_)
    refine yy_aload_n F d_K_demandKeyFits_8 (n := 9) rfl 0 rfl ?_
    refine yy_iload_n F d_K_demandKeyFits_9 (n := 10) rfl 1 rfl ?_
    refine yy_cri (w := (k_pl σ c key)) F hSw_2 (c_C_placeOf (A := A) (σ := σ) (c := c) X I hc) (yy_Bc F X.1 q_614 q_9) (yy_invC (nA := 1) (x := y_C_placeOf) F X hP hc q_608 q_610 (k_dec X q_609 q_614) (k_sel q_613 q_611 q_612 σ c) q_609 ⟨by decide, by decide, by decide +kernel⟩ rfl d_K_demandKeyFits_10) d_K_demandKeyFits_10 (n := 13) rfl (by simp [Value.category]) ⟨by decide, by decide⟩ ⟨Nat.zero_le _, Nat.zero_le _⟩ ⟨rfl, rfl⟩ hP rfl (fun _ hSw_3 => ?_)
    refine yy_iconst (v := (-1)) F d_K_demandKeyFits_13 (n := 14) rfl rfl ?_
    cases hat : k_at σ c key with
    | none =>
      rw [hat] at hE
      have h24 : ¬ 24 ≤ s_ct (k_B σ c) := fun q => by
        rw [show (match (none : Option Nat) with | some _ => (none : Option String) | none => if 24 ≤ s_ct (k_B σ c) then some e_is else none) = some e_is from if_pos q] at hE
        cases hE
      refine yy_ic_ne_f (tgt := 24) F d_K_demandKeyFits_14 (n := 17) rfl (by decide) (k_pl_none hat) ?_
      refine yy_aload_n F d_K_demandKeyFits_17 (n := 18) rfl 0 rfl ?_
      refine cr_store F X g_K_95_G g_K_95_P g_K_95_R hP hc d_K_demandKeyFits_18 (n := 21) rfl ?_
      refine yy_crv F hSw_3 (c_K_demandSpace X I hc h24) (yy_Bc F X.1 q_494 q_1) (yy_invS (nA := 1) (bytes := b_K_demandSpace) (maxL := 1) (retY := none) F X.1 q_492 q_493 q_1 q_494 ⟨by decide, by decide, by decide +kernel⟩ rfl d_K_demandKeyFits_21) d_K_demandKeyFits_21 (n := 24) rfl (by simp [Value.category]) ⟨by decide, by decide⟩ ⟨Nat.zero_le _, Nat.zero_le _⟩ ⟨rfl, rfl⟩ hP (fun _ hSw_4 => ?_)
      exact yy_vret F hSw_4 ⟨Nat.zero_le _, Nat.zero_le _⟩ rfl d_K_demandKeyFits_24 (⟨rfl, rfl⟩)
    | some p =>
      refine yy_ic_ne_t (tgt := 24) F d_K_demandKeyFits_14 (by decide) ((k_pl_some I hc h6 hat).2) ?_
      exact yy_vret F hSw_3 ⟨Nat.zero_le _, Nat.zero_le _⟩ rfl d_K_demandKeyFits_24 (⟨rfl, rfl⟩)
set_option maxRecDepth 100000 in
set_option maxHeartbeats 4000000 in
theorem c_K_demandKeyFits_no {l : Launch} {z : State} {a0 : Array Value} {D : va_G} {ca : kca} (X : kcx l z a0 D ca) {A : kA} {σ : ks} {t : Nat} (I : iv t σ) {c : Nat} (hc : c < k_m σ) (h6 : ¬ k_kd σ c = 6) {key : Int32} {E : String} (hE : ch_key σ c key = some E) : yy_M l z y_K_demandKeyFits (.code y_K_demandKeyFits b_K_demandKeyFits 2 none) ({ frames := 7, cells := 1, slots := 6, locals := 102 }) [.ref (a_ad A c), .int key] (ck_at D ca z A σ) (yy_tx E) := by
  refine yy_body (plainFor_of_name (by decide)) (Nat.le_of_ble_eq_true rfl) (fun b H F hS hP hH hnm => ?_)
  unfold ch_key at hE
  refine yy_aload_n F d_K_demandKeyFits_0 (n := 1) rfl 0 rfl ?_
  refine yy_iload_n F d_K_demandKeyFits_1 (n := 2) rfl 1 rfl ?_
  refine vd_covers F X I hc hP hS q_599 ⟨by decide, by decide⟩ (by simp [Value.category]) d_K_demandKeyFits_2 (n := 5) rfl ⟨Nat.zero_le _, Nat.zero_le _⟩ (fun _ hS_1 => ?_)
  cases hcv : k_cov σ c key
  · rw [hcv] at hE
    cases hE
    exact yy_ctp F hS_1 (c_K_demandArgument_no X) (yy_Bc F X.1 q_72 q_1) (yy_invS (nA := 1) (bytes := b_K_demandArgument) (maxL := 1) (retY := none) F X.1 q_70 q_71 q_1 q_72 ⟨by decide, by decide, by decide +kernel⟩ rfl d_K_demandKeyFits_5) d_K_demandKeyFits_5 (by simp [Value.category]) ⟨by decide, by decide⟩ ⟨by decide, by decide⟩ trivial (fun H1 hx => ⟨rfl, hx⟩)
  · rw [hcv, if_pos rfl] at hE
    refine yy_crv F hS_1 (c_K_demandArgument X) (yy_Bc F X.1 q_72 q_1) (yy_invS (nA := 1) (bytes := b_K_demandArgument) (maxL := 1) (retY := none) F X.1 q_70 q_71 q_1 q_72 ⟨by decide, by decide, by decide +kernel⟩ rfl d_K_demandKeyFits_5) d_K_demandKeyFits_5 (n := 8) rfl (by simp [Value.category]) ⟨by decide, by decide⟩ ⟨Nat.zero_le _, Nat.zero_le _⟩ ⟨rfl, rfl⟩ trivial (fun _ hSw_3 => ?_)
    refine yy_aload_n F d_K_demandKeyFits_8 (n := 9) rfl 0 rfl ?_
    refine yy_iload_n F d_K_demandKeyFits_9 (n := 10) rfl 1 rfl ?_
    refine yy_cri (w := (k_pl σ c key)) F hSw_3 (c_C_placeOf (A := A) (σ := σ) (c := c) X I hc) (yy_Bc F X.1 q_614 q_9) (yy_invC (nA := 1) (x := y_C_placeOf) F X hP hc q_608 q_610 (k_dec X q_609 q_614) (k_sel q_613 q_611 q_612 σ c) q_609 ⟨by decide, by decide, by decide +kernel⟩ rfl d_K_demandKeyFits_10) d_K_demandKeyFits_10 (n := 13) rfl (by simp [Value.category]) ⟨by decide, by decide⟩ ⟨Nat.zero_le _, Nat.zero_le _⟩ ⟨rfl, rfl⟩ hP rfl (fun _ hSw_4 => ?_)
    refine yy_iconst (v := (-1)) F d_K_demandKeyFits_13 (n := 14) rfl rfl ?_
    cases hat : k_at σ c key with
    | none =>
      rw [hat] at hE
      by_cases h24 : 24 ≤ s_ct (k_B σ c)
      · rw [show (match (none : Option Nat) with | some _ => (none : Option String) | none => if 24 ≤ s_ct (k_B σ c) then some e_is else none) = some e_is from if_pos h24] at hE
        cases hE
        refine yy_ic_ne_f (tgt := 24) F d_K_demandKeyFits_14 (n := 17) rfl (by decide) (k_pl_none hat) ?_
        refine yy_aload_n F d_K_demandKeyFits_17 (n := 18) rfl 0 rfl ?_
        refine cr_store F X g_K_95_G g_K_95_P g_K_95_R hP hc d_K_demandKeyFits_18 (n := 21) rfl ?_
        exact yy_ctp F hSw_4 (c_K_demandSpace_no X I hc h24) (yy_Bc F X.1 q_494 q_1) (yy_invS (nA := 1) (bytes := b_K_demandSpace) (maxL := 1) (retY := none) F X.1 q_492 q_493 q_1 q_494 ⟨by decide, by decide, by decide +kernel⟩ rfl d_K_demandKeyFits_21) d_K_demandKeyFits_21 (by simp [Value.category]) ⟨by decide, by decide⟩ ⟨by decide, by decide⟩ hP (fun H1 hx => ⟨rfl, hx⟩)
      · rw [show (match (none : Option Nat) with | some _ => (none : Option String) | none => if 24 ≤ s_ct (k_B σ c) then some e_is else none) = none from if_neg h24] at hE
        cases hE
    | some p =>
      rw [hat] at hE
      cases hE
