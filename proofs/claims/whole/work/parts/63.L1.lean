/-! PART L1: the law's helpers -/
set_option maxRecDepth 100000 in
theorem nc_is_ia {l : Launch} {z : State} {a0 : Array Value} {D : va_G} {ca : kca} (X : kcx l z a0 D ca) : va_Nc e_is e_ia z := va_Nc.of (args := a0) (flat_of_before _ X.2.2.1 _ (by decide +kernel))
set_option maxRecDepth 100000 in
theorem nc_uo_io {l : Launch} {z : State} {a0 : Array Value} {D : va_G} {ca : kca} (X : kcx l z a0 D ca) : va_Nc e_uo e_io z := va_Nc.of (args := a0) (flat_of_before _ X.2.2.1 _ (by decide +kernel))
set_option maxRecDepth 100000 in
theorem nc_ia_io {l : Launch} {z : State} {a0 : Array Value} {D : va_G} {ca : kca} (X : kcx l z a0 D ca) : va_Nc e_ia e_io z := va_Nc.of (args := a0) (flat_of_before _ X.2.2.1 _ (by decide +kernel))
set_option maxRecDepth 100000 in
theorem nc_ia_uo {l : Launch} {z : State} {a0 : Array Value} {D : va_G} {ca : kca} (X : kcx l z a0 D ca) : va_Nc e_ia e_uo z := va_Nc.of (args := a0) (flat_of_before _ X.2.2.1 _ (by decide +kernel))
set_option maxRecDepth 100000 in
theorem nc_is_io {l : Launch} {z : State} {a0 : Array Value} {D : va_G} {ca : kca} (X : kcx l z a0 D ca) : va_Nc e_is e_io z := va_Nc.of (args := a0) (flat_of_before _ X.2.2.1 _ (by decide +kernel))
set_option maxRecDepth 100000 in
theorem nc_is_uo {l : Launch} {z : State} {a0 : Array Value} {D : va_G} {ca : kca} (X : kcx l z a0 D ca) : va_Nc e_is e_uo z := va_Nc.of (args := a0) (flat_of_before _ X.2.2.1 _ (by decide +kernel))
set_option maxRecDepth 100000 in
theorem nc_rt_io {l : Launch} {z : State} {a0 : Array Value} {D : va_G} {ca : kca} (X : kcx l z a0 D ca) : va_Nc e_rt e_io z := va_Nc.of (args := a0) (flat_of_before _ X.2.2.1 _ (by decide +kernel))
set_option maxRecDepth 100000 in
theorem nc_rt_uo {l : Launch} {z : State} {a0 : Array Value} {D : va_G} {ca : kca} (X : kcx l z a0 D ca) : va_Nc e_rt e_uo z := va_Nc.of (args := a0) (flat_of_before _ X.2.2.1 _ (by decide +kernel))
set_option maxRecDepth 100000 in
theorem nc_rt_ia {l : Launch} {z : State} {a0 : Array Value} {D : va_G} {ca : kca} (X : kcx l z a0 D ca) : va_Nc e_rt e_ia z := va_Nc.of (args := a0) (flat_of_before _ X.2.2.1 _ (by decide +kernel))
set_option maxRecDepth 100000 in
theorem nc_rt_is {l : Launch} {z : State} {a0 : Array Value} {D : va_G} {ca : kca} (X : kcx l z a0 D ca) : va_Nc e_rt e_is z := va_Nc.of (args := a0) (flat_of_before _ X.2.2.1 _ (by decide +kernel))
set_option maxRecDepth 100000 in
theorem nc_ns_io {l : Launch} {z : State} {a0 : Array Value} {D : va_G} {ca : kca} (X : kcx l z a0 D ca) : va_Nc e_ns e_io z := va_Nc.of (args := a0) (flat_of_before _ X.2.2.1 _ (by decide +kernel))
set_option maxRecDepth 100000 in
theorem nc_ns_uo {l : Launch} {z : State} {a0 : Array Value} {D : va_G} {ca : kca} (X : kcx l z a0 D ca) : va_Nc e_ns e_uo z := va_Nc.of (args := a0) (flat_of_before _ X.2.2.1 _ (by decide +kernel))
set_option maxRecDepth 100000 in
theorem nc_rt_ns {l : Launch} {z : State} {a0 : Array Value} {D : va_G} {ca : kca} (X : kcx l z a0 D ca) : va_Nc e_rt e_ns z := va_Nc.of (args := a0) (flat_of_before _ X.2.2.1 _ (by decide +kernel))
set_option maxRecDepth 100000 in
theorem nc_is_ns {l : Launch} {z : State} {a0 : Array Value} {D : va_G} {ca : kca} (X : kcx l z a0 D ca) : va_Nc e_is e_ns z := va_Nc.of (args := a0) (flat_of_before _ X.2.2.1 _ (by decide +kernel))
set_option maxRecDepth 100000 in
theorem nc_ns_ia {l : Launch} {z : State} {a0 : Array Value} {D : va_G} {ca : kca} (X : kcx l z a0 D ca) : va_Nc e_ns e_ia z := va_Nc.of (args := a0) (flat_of_before _ X.2.2.1 _ (by decide +kernel))
/-- an answer as the row keeps it -/
def l_int (v : Int32) (w : Int64) : Prop := w = v.toInt64
def l_boo (v : Int32) (w : Int64) : Prop := w = if v = 0 then 0 else 1
def l_non (_ : Int32) (_ : Int64) : Prop := True
set_option maxRecDepth 100000 in
set_option maxHeartbeats 4000000 in
theorem c_L_create {l : Launch} {z : State} {a0 : Array Value} {D : va_G} {ca : kca} (X : kcx l z a0 D ca) {A : kA} {σ : ks} {t : Nat} (I : iv t σ) (ht : t + 25 ≤ 100000) {x : Int32} {ou : Nat} {g : Nat → Int64} (ho : a_ow A ou = 0) (hoz : z.heap.size ≤ ou) : yy_M l z y_L_create (.codeWith y_L_create b_L_create 4 (some .int) [(0, 9, 12, 13), (0, 9, 15, 15)]) ({ frames := 8, cells := 4, slots := 56, locals := 123 }) [.ref (a_k A), .int x, .ref ou] (fun H => ck_at D ca z A σ H ∧ lo_at D ca ou g H) (l_p D ca z A ou [e_ia, e_is] l_int (sp_create σ x)) := by
  refine yy_bodyW (by decide) (Nat.le_of_ble_eq_true rfl) (fun b H F hS hP hH => ?_)
  obtain ⟨hP, hO⟩ := hP
  have hoH : ou < H.size := va_at.lt hO
  refine yy_aload_n F d_L_create_0 (n := 1) rfl 2 rfl ?_
  refine yy_iconst (v := 0) F d_L_create_1 (n := 2) rfl rfl ?_
  refine yy_aload_n F d_L_create_2 (n := 3) rfl 0 rfl ?_
  refine yy_iload_n F d_L_create_3 (n := 4) rfl 1 rfl ?_
  refine yy_call F hS (c_K_create (x := x) X I) (yy_Bc F X.1 q_69 q_1) (yy_invV (nA := 1) (C := R_K) (bytes := b_K_create) (maxL := 2) (retY := (some .int)) F X.1 q_66 q_67 q_68 q_69 ⟨by decide, by decide, by decide +kernel⟩ (yy_recv F.N X.2.1 (ci := 5) rfl hP.k) rfl d_L_create_4) d_L_create_4 (n := 7) rfl (by simp [Value.category]) ⟨by decide, by decide⟩ ⟨by decide, by decide⟩ hP (fun v1 H1 locs1 hq S1 => ?_) (fun E q ce H1 locs1 hq S1 hce hv1 hcl => ?_)
  · obtain ⟨ho9, ⟨A9, P1, hx⟩, hk⟩ := hq
    cases hr : (sp_create σ x).1 with
    | some E =>
      rw [hr] at ho9
      cases ho9
    | none =>
      rw [hr] at ho9
      cases ho9
      have O1 : lo_at D ca ou g H1 := va_at.kept hO (hk.2 ou hoH ho)
      show yy_Y b H1 locs1 (0 + 4, 0 + 56) 7 [(0, .ref (a_k A)), (1, .int x), (2, .ref ou)] [.int (sp_create σ x).2.1, .int 0, .ref ou]
      refine yy_i2l F d_L_create_7 (n := 8) rfl rfl ?_
      refine yy_last F X.2.1 3 rfl S1 hoz O1 (i := 0) (vp_in_nI (n := 0) (by decide) (by decide)) d_L_create_8 (n := 9) rfl (fun H2 locs2 O2 z2 f2 S2 => ?_)
      refine yy_goto (tgt := 18) F d_L_create_9 (by decide) ?_
      refine yy_iconst (v := 0) F d_L_create_18 (n := 19) rfl rfl ?_
      exact yy_iret F S2 ⟨by decide, by decide⟩ rfl d_L_create_19 (l_end (by rw [hr]; rfl) P1 hx hk ho hoH O2 (fun _ => rfl) z2 f2)
  · obtain ⟨ho9, ⟨A9, P1, hx⟩, hk⟩ := hq
    cases hr : (sp_create σ x).1 with
    | none =>
      rw [hr] at ho9
      cases ho9
    | some E9 =>
      rw [hr] at ho9
      cases ho9
      have O1 : lo_at D ca ou g H1 := va_at.kept hO (hk.2 ou hoH ho)
      have hin := ex_create_ σ x _ hr
      simp only [List.mem_cons, List.not_mem_nil, or_false] at hin
      rcases hin with rfl | rfl
      · refine yy_catch F X.1 (E := e_ia) (nm := e_ia) hce hv1 hcl (pre := []) (fr := 0) (to := 9) (hp := 12) (ct := 13) (rest := [(0, 9, 15, 15)]) rfl (fun y hy => nomatch hy) ⟨by decide, by decide⟩ (by decide) q_64 q_75 ?_
        refine yy_astore_n (lv' := [(3, .ref q), (0, .ref (a_k A)), (1, .int x), (2, .ref ou)]) F d_L_create_12 (n := 13) rfl (by decide) rfl ?_
        refine yy_iconst (v := 1) F d_L_create_13 (n := 14) rfl rfl ?_
        exact yy_iret F S1 ⟨by decide, by decide⟩ rfl d_L_create_14 (l_end (by rw [hr]; rfl) P1 hx hk ho hoH O1 (fun h => by rw [hr] at h; cases h) rfl (fun _ _ => rfl))
      · refine yy_catch F X.1 (E := e_is) (nm := e_is) hce hv1 hcl (pre := [(0, 9, 12, 13)]) (fr := 0) (to := 9) (hp := 15) (ct := 15) (rest := []) rfl (by
          intro y hy
          rw [List.mem_singleton] at hy
          subst hy
          exact ⟨by decide, _, q_64, nc_is_ia X⟩) ⟨by decide, by decide⟩ (by decide) q_65 q_150 ?_
        refine yy_astore_n (lv' := [(3, .ref q), (0, .ref (a_k A)), (1, .int x), (2, .ref ou)]) F d_L_create_15 (n := 16) rfl (by decide) rfl ?_
        refine yy_iconst (v := 2) F d_L_create_16 (n := 17) rfl rfl ?_
        exact yy_iret F S1 ⟨by decide, by decide⟩ rfl d_L_create_17 (l_end (by rw [hr]; rfl) P1 hx hk ho hoH O1 (fun h => by rw [hr] at h; cases h) rfl (fun _ _ => rfl))
set_option maxRecDepth 100000 in
set_option maxHeartbeats 4000000 in
theorem c_L_view {l : Launch} {z : State} {a0 : Array Value} {D : va_G} {ca : kca} (X : kcx l z a0 D ca) {A : kA} {σ : ks} {t : Nat} (I : iv t σ) (ht : t + 25 ≤ 100000) {o x y : Int32} {ou : Nat} {g : Nat → Int64} (ho : a_ow A ou = 0) (hoz : z.heap.size ≤ ou) : yy_M l z y_L_view (.codeWith y_L_view b_L_view 6 (some .int) [(0, 12, 15, 21), (0, 12, 19, 23), (0, 12, 23, 13), (0, 12, 27, 15), (0, 12, 31, 25)]) ({ frames := 8, cells := 1, slots := 6, locals := 127 }) [.ref (a_k A), .int o, .int x, .int y, .ref ou] (fun H => ck_at D ca z A σ H ∧ lo_at D ca ou g H) (l_p D ca z A ou [e_io, e_uo, e_ia, e_is, e_rt] l_int (sp_view σ o x y)) := by
  refine yy_bodyW (by decide) (Nat.le_of_ble_eq_true rfl) (fun b H F hS hP hH => ?_)
  obtain ⟨hP, hO⟩ := hP
  have hoH : ou < H.size := va_at.lt hO
  refine yy_aload F d_L_view_0 (n := 2) rfl 4 rfl ?_
  refine yy_iconst (v := 0) F d_L_view_2 (n := 3) rfl rfl ?_
  refine yy_aload_n F d_L_view_3 (n := 4) rfl 0 rfl ?_
  refine yy_iload_n F d_L_view_4 (n := 5) rfl 1 rfl ?_
  refine yy_iload_n F d_L_view_5 (n := 6) rfl 2 rfl ?_
  refine yy_iload_n F d_L_view_6 (n := 7) rfl 3 rfl ?_
  refine yy_call F hS (c_K_view (o := o) (x := x) (y := y) X I) (yy_Bc F X.1 q_233 q_1) (yy_invV (nA := 3) (C := R_K) (bytes := b_K_view) (maxL := 5) (retY := (some .int)) F X.1 q_230 q_231 q_232 q_233 ⟨by decide, by decide, by decide +kernel⟩ (yy_recv F.N X.2.1 (ci := 5) rfl hP.k) rfl d_L_view_7) d_L_view_7 (n := 10) rfl (by simp [Value.category]) ⟨by decide, by decide⟩ ⟨by decide, by decide⟩ hP (fun v1 H1 locs1 hq S1 => ?_) (fun E q ce H1 locs1 hq S1 hce hv1 hcl => ?_)
  · obtain ⟨ho9, ⟨A9, P1, hx⟩, hk⟩ := hq
    cases hr : (sp_view σ o x y).1 with
    | some E =>
      rw [hr] at ho9
      cases ho9
    | none =>
      rw [hr] at ho9
      cases ho9
      have O1 : lo_at D ca ou g H1 := va_at.kept hO (hk.2 ou hoH ho)
      show yy_Y b H1 locs1 (0 + 1, 0 + 6) 10 [(0, .ref (a_k A)), (1, .int o), (2, .int x), (3, .int y), (4, .ref ou)] [.int (sp_view σ o x y).2.1, .int 0, .ref ou]
      refine yy_i2l F d_L_view_10 (n := 11) rfl rfl ?_
      refine yy_last F X.2.1 3 rfl S1 hoz O1 (i := 0) (vp_in_nI (n := 0) (by decide) (by decide)) d_L_view_11 (n := 12) rfl (fun H2 locs2 O2 z2 f2 S2 => ?_)
      refine yy_goto (tgt := 35) F d_L_view_12 (by decide) ?_
      refine yy_iconst (v := 0) F d_L_view_35 (n := 36) rfl rfl ?_
      exact yy_iret F S2 ⟨by decide, by decide⟩ rfl d_L_view_36 (l_end (by rw [hr]; rfl) P1 hx hk ho hoH O2 (fun _ => rfl) z2 f2)
  · obtain ⟨ho9, ⟨A9, P1, hx⟩, hk⟩ := hq
    cases hr : (sp_view σ o x y).1 with
    | none =>
      rw [hr] at ho9
      cases ho9
    | some E9 =>
      rw [hr] at ho9
      cases ho9
      have O1 : lo_at D ca ou g H1 := va_at.kept hO (hk.2 ou hoH ho)
      have hin := ex_view_ σ o x y _ hr
      simp only [List.mem_cons, List.not_mem_nil, or_false] at hin
      rcases hin with rfl | rfl | rfl | rfl | rfl
      · refine yy_catch F X.1 (E := e_io) (nm := e_io) hce hv1 hcl (pre := []) (fr := 0) (to := 12) (hp := 15) (ct := 21) (rest := [(0, 12, 19, 23), (0, 12, 23, 13), (0, 12, 27, 15), (0, 12, 31, 25)]) rfl (fun y hy => nomatch hy) ⟨by decide, by decide⟩ (by decide) q_227 q_240 ?_
        refine yy_astore (lv' := [(5, .ref q), (0, .ref (a_k A)), (1, .int o), (2, .int x), (3, .int y), (4, .ref ou)]) F d_L_view_15 (n := 17) rfl (by decide) rfl ?_
        refine yy_iconst (v := 1) F d_L_view_17 (n := 18) rfl rfl ?_
        exact yy_iret F S1 ⟨by decide, by decide⟩ rfl d_L_view_18 (l_end (by rw [hr]; rfl) P1 hx hk ho hoH O1 (fun h => by rw [hr] at h; cases h) rfl (fun _ _ => rfl))
      · refine yy_catch F X.1 (E := e_uo) (nm := e_uo) hce hv1 hcl (pre := [(0, 12, 15, 21)]) (fr := 0) (to := 12) (hp := 19) (ct := 23) (rest := [(0, 12, 23, 13), (0, 12, 27, 15), (0, 12, 31, 25)]) rfl (by
          intro y hy
          rw [List.mem_singleton] at hy
          subst hy
          exact ⟨by decide, _, q_227, nc_uo_io X⟩) ⟨by decide, by decide⟩ (by decide) q_228 q_273 ?_
        refine yy_astore (lv' := [(5, .ref q), (0, .ref (a_k A)), (1, .int o), (2, .int x), (3, .int y), (4, .ref ou)]) F d_L_view_19 (n := 21) rfl (by decide) rfl ?_
        refine yy_iconst (v := 2) F d_L_view_21 (n := 22) rfl rfl ?_
        exact yy_iret F S1 ⟨by decide, by decide⟩ rfl d_L_view_22 (l_end (by rw [hr]; rfl) P1 hx hk ho hoH O1 (fun h => by rw [hr] at h; cases h) rfl (fun _ _ => rfl))
      · refine yy_catch F X.1 (E := e_ia) (nm := e_ia) hce hv1 hcl (pre := [(0, 12, 15, 21), (0, 12, 19, 23)]) (fr := 0) (to := 12) (hp := 23) (ct := 13) (rest := [(0, 12, 27, 15), (0, 12, 31, 25)]) rfl (by
          intro y hy
          simp only [List.mem_cons, List.not_mem_nil, or_false] at hy
          rcases hy with rfl | rfl
          · exact ⟨by decide, _, q_227, nc_ia_io X⟩
          · exact ⟨by decide, _, q_228, nc_ia_uo X⟩) ⟨by decide, by decide⟩ (by decide) q_64 q_75 ?_
        refine yy_astore (lv' := [(5, .ref q), (0, .ref (a_k A)), (1, .int o), (2, .int x), (3, .int y), (4, .ref ou)]) F d_L_view_23 (n := 25) rfl (by decide) rfl ?_
        refine yy_iconst (v := 3) F d_L_view_25 (n := 26) rfl rfl ?_
        exact yy_iret F S1 ⟨by decide, by decide⟩ rfl d_L_view_26 (l_end (by rw [hr]; rfl) P1 hx hk ho hoH O1 (fun h => by rw [hr] at h; cases h) rfl (fun _ _ => rfl))
      · refine yy_catch F X.1 (E := e_is) (nm := e_is) hce hv1 hcl (pre := [(0, 12, 15, 21), (0, 12, 19, 23), (0, 12, 23, 13)]) (fr := 0) (to := 12) (hp := 27) (ct := 15) (rest := [(0, 12, 31, 25)]) rfl (by
          intro y hy
          simp only [List.mem_cons, List.not_mem_nil, or_false] at hy
          rcases hy with rfl | rfl | rfl
          · exact ⟨by decide, _, q_227, nc_is_io X⟩
          · exact ⟨by decide, _, q_228, nc_is_uo X⟩
          · exact ⟨by decide, _, q_64, nc_is_ia X⟩) ⟨by decide, by decide⟩ (by decide) q_65 q_150 ?_
        refine yy_astore (lv' := [(5, .ref q), (0, .ref (a_k A)), (1, .int o), (2, .int x), (3, .int y), (4, .ref ou)]) F d_L_view_27 (n := 29) rfl (by decide) rfl ?_
        refine yy_iconst (v := 4) F d_L_view_29 (n := 30) rfl rfl ?_
        exact yy_iret F S1 ⟨by decide, by decide⟩ rfl d_L_view_30 (l_end (by rw [hr]; rfl) P1 hx hk ho hoH O1 (fun h => by rw [hr] at h; cases h) rfl (fun _ _ => rfl))
      · refine yy_catch F X.1 (E := e_rt) (nm := e_rt) hce hv1 hcl (pre := [(0, 12, 15, 21), (0, 12, 19, 23), (0, 12, 23, 13), (0, 12, 27, 15)]) (fr := 0) (to := 12) (hp := 31) (ct := 25) (rest := []) rfl (by
          intro y hy
          simp only [List.mem_cons, List.not_mem_nil, or_false] at hy
          rcases hy with rfl | rfl | rfl | rfl
          · exact ⟨by decide, _, q_227, nc_rt_io X⟩
          · exact ⟨by decide, _, q_228, nc_rt_uo X⟩
          · exact ⟨by decide, _, q_64, nc_rt_ia X⟩
          · exact ⟨by decide, _, q_65, nc_rt_is X⟩) ⟨by decide, by decide⟩ (by decide) q_229 q_301 ?_
        refine yy_astore (lv' := [(5, .ref q), (0, .ref (a_k A)), (1, .int o), (2, .int x), (3, .int y), (4, .ref ou)]) F d_L_view_31 (n := 33) rfl (by decide) rfl ?_
        refine yy_iconst (v := 5) F d_L_view_33 (n := 34) rfl rfl ?_
        exact yy_iret F S1 ⟨by decide, by decide⟩ rfl d_L_view_34 (l_end (by rw [hr]; rfl) P1 hx hk ho hoH O1 (fun h => by rw [hr] at h; cases h) rfl (fun _ _ => rfl))
set_option maxRecDepth 100000 in
set_option maxHeartbeats 4000000 in
theorem c_L_kind {l : Launch} {z : State} {a0 : Array Value} {D : va_G} {ca : kca} (X : kcx l z a0 D ca) {A : kA} {σ : ks} {t : Nat} (I : iv t σ) (ht : t + 25 ≤ 100000) {x : Int32} {ou : Nat} {g : Nat → Int64} (ho : a_ow A ou = 0) (hoz : z.heap.size ≤ ou) : yy_M l z y_L_kind (.codeWith y_L_kind b_L_kind 4 (some .int) [(0, 9, 12, 21)]) ({ frames := 8, cells := 1, slots := 6, locals := 124 }) [.ref (a_k A), .int x, .ref ou] (fun H => ck_at D ca z A σ H ∧ lo_at D ca ou g H) (l_p D ca z A ou [e_io] l_int (sp_kind σ x)) := by
  refine yy_bodyW (by decide) (Nat.le_of_ble_eq_true rfl) (fun b H F hS hP hH => ?_)
  obtain ⟨hP, hO⟩ := hP
  have hoH : ou < H.size := va_at.lt hO
  refine yy_aload_n F d_L_kind_0 (n := 1) rfl 2 rfl ?_
  refine yy_iconst (v := 0) F d_L_kind_1 (n := 2) rfl rfl ?_
  refine yy_aload_n F d_L_kind_2 (n := 3) rfl 0 rfl ?_
  refine yy_iload_n F d_L_kind_3 (n := 4) rfl 1 rfl ?_
  refine yy_call F hS (c_K_kind (x := x) X I) (yy_Bc F X.1 q_399 q_1) (yy_invV (nA := 1) (C := R_K) (bytes := b_K_kind) (maxL := 2) (retY := (some .int)) F X.1 q_396 q_397 q_398 q_399 ⟨by decide, by decide, by decide +kernel⟩ (yy_recv F.N X.2.1 (ci := 5) rfl hP.k) rfl d_L_kind_4) d_L_kind_4 (n := 7) rfl (by simp [Value.category]) ⟨by decide, by decide⟩ ⟨by decide, by decide⟩ hP (fun v1 H1 locs1 hq S1 => ?_) (fun E q ce H1 locs1 hq S1 hce hv1 hcl => ?_)
  · obtain ⟨ho9, ⟨A9, P1, hx⟩, hk⟩ := hq
    cases hr : (sp_kind σ x).1 with
    | some E =>
      rw [hr] at ho9
      cases ho9
    | none =>
      rw [hr] at ho9
      cases ho9
      have O1 : lo_at D ca ou g H1 := va_at.kept hO (hk.2 ou hoH ho)
      show yy_Y b H1 locs1 (0 + 1, 0 + 6) 7 [(0, .ref (a_k A)), (1, .int x), (2, .ref ou)] [.int (sp_kind σ x).2.1, .int 0, .ref ou]
      refine yy_i2l F d_L_kind_7 (n := 8) rfl rfl ?_
      refine yy_last F X.2.1 3 rfl S1 hoz O1 (i := 0) (vp_in_nI (n := 0) (by decide) (by decide)) d_L_kind_8 (n := 9) rfl (fun H2 locs2 O2 z2 f2 S2 => ?_)
      refine yy_goto (tgt := 15) F d_L_kind_9 (by decide) ?_
      refine yy_iconst (v := 0) F d_L_kind_15 (n := 16) rfl rfl ?_
      exact yy_iret F S2 ⟨by decide, by decide⟩ rfl d_L_kind_16 (l_end (by rw [hr]; rfl) P1 hx hk ho hoH O2 (fun _ => rfl) z2 f2)
  · obtain ⟨ho9, ⟨A9, P1, hx⟩, hk⟩ := hq
    cases hr : (sp_kind σ x).1 with
    | none =>
      rw [hr] at ho9
      cases ho9
    | some E9 =>
      rw [hr] at ho9
      cases ho9
      have O1 : lo_at D ca ou g H1 := va_at.kept hO (hk.2 ou hoH ho)
      have hin := ex_kind_ σ x _ hr
      simp only [List.mem_cons, List.not_mem_nil, or_false] at hin
      rcases hin with rfl
      refine yy_catch F X.1 (E := e_io) (nm := e_io) hce hv1 hcl (pre := []) (fr := 0) (to := 9) (hp := 12) (ct := 21) (rest := []) rfl (fun y hy => nomatch hy) ⟨by decide, by decide⟩ (by decide) q_227 q_240 ?_
      refine yy_astore_n (lv' := [(3, .ref q), (0, .ref (a_k A)), (1, .int x), (2, .ref ou)]) F d_L_kind_12 (n := 13) rfl (by decide) rfl ?_
      refine yy_iconst (v := 1) F d_L_kind_13 (n := 14) rfl rfl ?_
      exact yy_iret F S1 ⟨by decide, by decide⟩ rfl d_L_kind_14 (l_end (by rw [hr]; rfl) P1 hx hk ho hoH O1 (fun h => by rw [hr] at h; cases h) rfl (fun _ _ => rfl))
set_option maxRecDepth 100000 in
set_option maxHeartbeats 4000000 in
theorem c_L_size {l : Launch} {z : State} {a0 : Array Value} {D : va_G} {ca : kca} (X : kcx l z a0 D ca) {A : kA} {σ : ks} {t : Nat} (I : iv t σ) (ht : t + 25 ≤ 100000) {x : Int32} {ou : Nat} {g : Nat → Int64} (ho : a_ow A ou = 0) (hoz : z.heap.size ≤ ou) : yy_M l z y_L_size (.codeWith y_L_size b_L_size 4 (some .int) [(0, 9, 12, 21), (0, 9, 15, 25)]) ({ frames := 8, cells := 1, slots := 6, locals := 125 }) [.ref (a_k A), .int x, .ref ou] (fun H => ck_at D ca z A σ H ∧ lo_at D ca ou g H) (l_p D ca z A ou [e_io, e_rt] l_int (sp_size σ x)) := by
  refine yy_bodyW (by decide) (Nat.le_of_ble_eq_true rfl) (fun b H F hS hP hH => ?_)
  obtain ⟨hP, hO⟩ := hP
  have hoH : ou < H.size := va_at.lt hO
  refine yy_aload_n F d_L_size_0 (n := 1) rfl 2 rfl ?_
  refine yy_iconst (v := 0) F d_L_size_1 (n := 2) rfl rfl ?_
  refine yy_aload_n F d_L_size_2 (n := 3) rfl 0 rfl ?_
  refine yy_iload_n F d_L_size_3 (n := 4) rfl 1 rfl ?_
  refine yy_call F hS (c_K_size (x := x) X I) (yy_Bc F X.1 q_406 q_1) (yy_invV (nA := 1) (C := R_K) (bytes := b_K_size) (maxL := 3) (retY := (some .int)) F X.1 q_403 q_404 q_405 q_406 ⟨by decide, by decide, by decide +kernel⟩ (yy_recv F.N X.2.1 (ci := 5) rfl hP.k) rfl d_L_size_4) d_L_size_4 (n := 7) rfl (by simp [Value.category]) ⟨by decide, by decide⟩ ⟨by decide, by decide⟩ hP (fun v1 H1 locs1 hq S1 => ?_) (fun E q ce H1 locs1 hq S1 hce hv1 hcl => ?_)
  · obtain ⟨ho9, ⟨A9, P1, hx⟩, hk⟩ := hq
    cases hr : (sp_size σ x).1 with
    | some E =>
      rw [hr] at ho9
      cases ho9
    | none =>
      rw [hr] at ho9
      cases ho9
      have O1 : lo_at D ca ou g H1 := va_at.kept hO (hk.2 ou hoH ho)
      show yy_Y b H1 locs1 (0 + 1, 0 + 6) 7 [(0, .ref (a_k A)), (1, .int x), (2, .ref ou)] [.int (sp_size σ x).2.1, .int 0, .ref ou]
      refine yy_i2l F d_L_size_7 (n := 8) rfl rfl ?_
      refine yy_last F X.2.1 3 rfl S1 hoz O1 (i := 0) (vp_in_nI (n := 0) (by decide) (by decide)) d_L_size_8 (n := 9) rfl (fun H2 locs2 O2 z2 f2 S2 => ?_)
      refine yy_goto (tgt := 18) F d_L_size_9 (by decide) ?_
      refine yy_iconst (v := 0) F d_L_size_18 (n := 19) rfl rfl ?_
      exact yy_iret F S2 ⟨by decide, by decide⟩ rfl d_L_size_19 (l_end (by rw [hr]; rfl) P1 hx hk ho hoH O2 (fun _ => rfl) z2 f2)
  · obtain ⟨ho9, ⟨A9, P1, hx⟩, hk⟩ := hq
    cases hr : (sp_size σ x).1 with
    | none =>
      rw [hr] at ho9
      cases ho9
    | some E9 =>
      rw [hr] at ho9
      cases ho9
      have O1 : lo_at D ca ou g H1 := va_at.kept hO (hk.2 ou hoH ho)
      have hin := ex_size_ σ x _ hr
      simp only [List.mem_cons, List.not_mem_nil, or_false] at hin
      rcases hin with rfl | rfl
      · refine yy_catch F X.1 (E := e_io) (nm := e_io) hce hv1 hcl (pre := []) (fr := 0) (to := 9) (hp := 12) (ct := 21) (rest := [(0, 9, 15, 25)]) rfl (fun y hy => nomatch hy) ⟨by decide, by decide⟩ (by decide) q_227 q_240 ?_
        refine yy_astore_n (lv' := [(3, .ref q), (0, .ref (a_k A)), (1, .int x), (2, .ref ou)]) F d_L_size_12 (n := 13) rfl (by decide) rfl ?_
        refine yy_iconst (v := 1) F d_L_size_13 (n := 14) rfl rfl ?_
        exact yy_iret F S1 ⟨by decide, by decide⟩ rfl d_L_size_14 (l_end (by rw [hr]; rfl) P1 hx hk ho hoH O1 (fun h => by rw [hr] at h; cases h) rfl (fun _ _ => rfl))
      · refine yy_catch F X.1 (E := e_rt) (nm := e_rt) hce hv1 hcl (pre := [(0, 9, 12, 21)]) (fr := 0) (to := 9) (hp := 15) (ct := 25) (rest := []) rfl (by
          intro y hy
          rw [List.mem_singleton] at hy
          subst hy
          exact ⟨by decide, _, q_227, nc_rt_io X⟩) ⟨by decide, by decide⟩ (by decide) q_229 q_301 ?_
        refine yy_astore_n (lv' := [(3, .ref q), (0, .ref (a_k A)), (1, .int x), (2, .ref ou)]) F d_L_size_15 (n := 16) rfl (by decide) rfl ?_
        refine yy_iconst (v := 2) F d_L_size_16 (n := 17) rfl rfl ?_
        exact yy_iret F S1 ⟨by decide, by decide⟩ rfl d_L_size_17 (l_end (by rw [hr]; rfl) P1 hx hk ho hoH O1 (fun h => by rw [hr] at h; cases h) rfl (fun _ _ => rfl))
set_option maxRecDepth 100000 in
set_option maxHeartbeats 4000000 in
theorem c_L_get {l : Launch} {z : State} {a0 : Array Value} {D : va_G} {ca : kca} (X : kcx l z a0 D ca) {A : kA} {σ : ks} {t : Nat} (I : iv t σ) (ht : t + 25 ≤ 100000) {x p : Int32} {ou : Nat} {g : Nat → Int64} (ho : a_ow A ou = 0) (hoz : z.heap.size ≤ ou) : yy_M l z y_L_get (.codeWith y_L_get b_L_get 5 (some .int) [(0, 10, 13, 21), (0, 10, 17, 23), (0, 10, 21, 37), (0, 10, 25, 25)]) ({ frames := 9, cells := 1, slots := 6, locals := 148 }) [.ref (a_k A), .int x, .int p, .ref ou] (fun H => ck_at D ca z A σ H ∧ lo_at D ca ou g H) (l_p D ca z A ou [e_io, e_uo, e_ns, e_rt] l_int (sp_get σ x p)) := by
  refine yy_bodyW (by decide) (Nat.le_of_ble_eq_true rfl) (fun b H F hS hP hH => ?_)
  obtain ⟨hP, hO⟩ := hP
  have hoH : ou < H.size := va_at.lt hO
  refine yy_aload_n F d_L_get_0 (n := 1) rfl 3 rfl ?_
  refine yy_iconst (v := 0) F d_L_get_1 (n := 2) rfl rfl ?_
  refine yy_aload_n F d_L_get_2 (n := 3) rfl 0 rfl ?_
  refine yy_iload_n F d_L_get_3 (n := 4) rfl 1 rfl ?_
  refine yy_iload_n F d_L_get_4 (n := 5) rfl 2 rfl ?_
  refine yy_call F hS (c_K_get (x := x) (p := p) X I) (yy_Bc F X.1 q_414 q_1) (yy_invV (nA := 2) (C := R_K) (bytes := b_K_get) (maxL := 4) (retY := (some .int)) F X.1 q_411 q_412 q_413 q_414 ⟨by decide, by decide, by decide +kernel⟩ (yy_recv F.N X.2.1 (ci := 5) rfl hP.k) rfl d_L_get_5) d_L_get_5 (n := 8) rfl (by simp [Value.category]) ⟨by decide, by decide⟩ ⟨by decide, by decide⟩ hP (fun v1 H1 locs1 hq S1 => ?_) (fun E q ce H1 locs1 hq S1 hce hv1 hcl => ?_)
  · obtain ⟨ho9, ⟨A9, P1, hx⟩, hk⟩ := hq
    cases hr : (sp_get σ x p).1 with
    | some E =>
      rw [hr] at ho9
      cases ho9
    | none =>
      rw [hr] at ho9
      cases ho9
      have O1 : lo_at D ca ou g H1 := va_at.kept hO (hk.2 ou hoH ho)
      show yy_Y b H1 locs1 (0 + 1, 0 + 6) 8 [(0, .ref (a_k A)), (1, .int x), (2, .int p), (3, .ref ou)] [.int (sp_get σ x p).2.1, .int 0, .ref ou]
      refine yy_i2l F d_L_get_8 (n := 9) rfl rfl ?_
      refine yy_last F X.2.1 3 rfl S1 hoz O1 (i := 0) (vp_in_nI (n := 0) (by decide) (by decide)) d_L_get_9 (n := 10) rfl (fun H2 locs2 O2 z2 f2 S2 => ?_)
      refine yy_goto (tgt := 29) F d_L_get_10 (by decide) ?_
      refine yy_iconst (v := 0) F d_L_get_29 (n := 30) rfl rfl ?_
      exact yy_iret F S2 ⟨by decide, by decide⟩ rfl d_L_get_30 (l_end (by rw [hr]; rfl) P1 hx hk ho hoH O2 (fun _ => rfl) z2 f2)
  · obtain ⟨ho9, ⟨A9, P1, hx⟩, hk⟩ := hq
    cases hr : (sp_get σ x p).1 with
    | none =>
      rw [hr] at ho9
      cases ho9
    | some E9 =>
      rw [hr] at ho9
      cases ho9
      have O1 : lo_at D ca ou g H1 := va_at.kept hO (hk.2 ou hoH ho)
      have hin := ex_get_ σ x p _ hr
      simp only [List.mem_cons, List.not_mem_nil, or_false] at hin
      rcases hin with rfl | rfl | rfl | rfl
      · refine yy_catch F X.1 (E := e_io) (nm := e_io) hce hv1 hcl (pre := []) (fr := 0) (to := 10) (hp := 13) (ct := 21) (rest := [(0, 10, 17, 23), (0, 10, 21, 37), (0, 10, 25, 25)]) rfl (fun y hy => nomatch hy) ⟨by decide, by decide⟩ (by decide) q_227 q_240 ?_
        refine yy_astore (lv' := [(4, .ref q), (0, .ref (a_k A)), (1, .int x), (2, .int p), (3, .ref ou)]) F d_L_get_13 (n := 15) rfl (by decide) rfl ?_
        refine yy_iconst (v := 1) F d_L_get_15 (n := 16) rfl rfl ?_
        exact yy_iret F S1 ⟨by decide, by decide⟩ rfl d_L_get_16 (l_end (by rw [hr]; rfl) P1 hx hk ho hoH O1 (fun h => by rw [hr] at h; cases h) rfl (fun _ _ => rfl))
      · refine yy_catch F X.1 (E := e_uo) (nm := e_uo) hce hv1 hcl (pre := [(0, 10, 13, 21)]) (fr := 0) (to := 10) (hp := 17) (ct := 23) (rest := [(0, 10, 21, 37), (0, 10, 25, 25)]) rfl (by
          intro y hy
          rw [List.mem_singleton] at hy
          subst hy
          exact ⟨by decide, _, q_227, nc_uo_io X⟩) ⟨by decide, by decide⟩ (by decide) q_228 q_273 ?_
        refine yy_astore (lv' := [(4, .ref q), (0, .ref (a_k A)), (1, .int x), (2, .int p), (3, .ref ou)]) F d_L_get_17 (n := 19) rfl (by decide) rfl ?_
        refine yy_iconst (v := 2) F d_L_get_19 (n := 20) rfl rfl ?_
        exact yy_iret F S1 ⟨by decide, by decide⟩ rfl d_L_get_20 (l_end (by rw [hr]; rfl) P1 hx hk ho hoH O1 (fun h => by rw [hr] at h; cases h) rfl (fun _ _ => rfl))
      · refine yy_catch F X.1 (E := e_ns) (nm := e_ns) hce hv1 hcl (pre := [(0, 10, 13, 21), (0, 10, 17, 23)]) (fr := 0) (to := 10) (hp := 21) (ct := 37) (rest := [(0, 10, 25, 25)]) rfl (by
          intro y hy
          simp only [List.mem_cons, List.not_mem_nil, or_false] at hy
          rcases hy with rfl | rfl
          · exact ⟨by decide, _, q_227, nc_ns_io X⟩
          · exact ⟨by decide, _, q_228, nc_ns_uo X⟩) ⟨by decide, by decide⟩ (by decide) q_410 q_432 ?_
        refine yy_astore (lv' := [(4, .ref q), (0, .ref (a_k A)), (1, .int x), (2, .int p), (3, .ref ou)]) F d_L_get_21 (n := 23) rfl (by decide) rfl ?_
        refine yy_iconst (v := 3) F d_L_get_23 (n := 24) rfl rfl ?_
        exact yy_iret F S1 ⟨by decide, by decide⟩ rfl d_L_get_24 (l_end (by rw [hr]; rfl) P1 hx hk ho hoH O1 (fun h => by rw [hr] at h; cases h) rfl (fun _ _ => rfl))
      · refine yy_catch F X.1 (E := e_rt) (nm := e_rt) hce hv1 hcl (pre := [(0, 10, 13, 21), (0, 10, 17, 23), (0, 10, 21, 37)]) (fr := 0) (to := 10) (hp := 25) (ct := 25) (rest := []) rfl (by
          intro y hy
          simp only [List.mem_cons, List.not_mem_nil, or_false] at hy
          rcases hy with rfl | rfl | rfl
          · exact ⟨by decide, _, q_227, nc_rt_io X⟩
          · exact ⟨by decide, _, q_228, nc_rt_uo X⟩
          · exact ⟨by decide, _, q_410, nc_rt_ns X⟩) ⟨by decide, by decide⟩ (by decide) q_229 q_301 ?_
        refine yy_astore (lv' := [(4, .ref q), (0, .ref (a_k A)), (1, .int x), (2, .int p), (3, .ref ou)]) F d_L_get_25 (n := 27) rfl (by decide) rfl ?_
        refine yy_iconst (v := 4) F d_L_get_27 (n := 28) rfl rfl ?_
        exact yy_iret F S1 ⟨by decide, by decide⟩ rfl d_L_get_28 (l_end (by rw [hr]; rfl) P1 hx hk ho hoH O1 (fun h => by rw [hr] at h; cases h) rfl (fun _ _ => rfl))
set_option maxRecDepth 100000 in
set_option maxHeartbeats 4000000 in
theorem c_L_set {l : Launch} {z : State} {a0 : Array Value} {D : va_G} {ca : kca} (X : kcx l z a0 D ca) {A : kA} {σ : ks} {t : Nat} (I : iv t σ) (ht : t + 25 ≤ 100000) {x p y : Int32} {ou : Nat} {g : Nat → Int64} (ho : a_ow A ou = 0) (hoz : z.heap.size ≤ ou) : yy_M l z y_L_set (.codeWith y_L_set b_L_set 6 (some .int) [(0, 12, 15, 21), (0, 12, 19, 23), (0, 12, 23, 37), (0, 12, 27, 25)]) ({ frames := 9, cells := 1, slots := 6, locals := 149 }) [.ref (a_k A), .int x, .int p, .int y, .ref ou] (fun H => ck_at D ca z A σ H ∧ lo_at D ca ou g H) (l_p D ca z A ou [e_io, e_uo, e_ns, e_rt] l_int (sp_set σ x p y)) := by
  refine yy_bodyW (by decide) (Nat.le_of_ble_eq_true rfl) (fun b H F hS hP hH => ?_)
  obtain ⟨hP, hO⟩ := hP
  have hoH : ou < H.size := va_at.lt hO
  refine yy_aload F d_L_set_0 (n := 2) rfl 4 rfl ?_
  refine yy_iconst (v := 0) F d_L_set_2 (n := 3) rfl rfl ?_
  refine yy_aload_n F d_L_set_3 (n := 4) rfl 0 rfl ?_
  refine yy_iload_n F d_L_set_4 (n := 5) rfl 1 rfl ?_
  refine yy_iload_n F d_L_set_5 (n := 6) rfl 2 rfl ?_
  refine yy_iload_n F d_L_set_6 (n := 7) rfl 3 rfl ?_
  refine yy_call F hS (c_K_set (x := x) (p := p) (y := y) X I) (yy_Bc F X.1 q_468 q_1) (yy_invV (nA := 3) (C := R_K) (bytes := b_K_set) (maxL := 5) (retY := (some .int)) F X.1 q_465 q_466 q_467 q_468 ⟨by decide, by decide, by decide +kernel⟩ (yy_recv F.N X.2.1 (ci := 5) rfl hP.k) rfl d_L_set_7) d_L_set_7 (n := 10) rfl (by simp [Value.category]) ⟨by decide, by decide⟩ ⟨by decide, by decide⟩ hP (fun v1 H1 locs1 hq S1 => ?_) (fun E q ce H1 locs1 hq S1 hce hv1 hcl => ?_)
  · obtain ⟨ho9, ⟨A9, P1, hx⟩, hk⟩ := hq
    cases hr : (sp_set σ x p y).1 with
    | some E =>
      rw [hr] at ho9
      cases ho9
    | none =>
      rw [hr] at ho9
      cases ho9
      have O1 : lo_at D ca ou g H1 := va_at.kept hO (hk.2 ou hoH ho)
      show yy_Y b H1 locs1 (0 + 1, 0 + 6) 10 [(0, .ref (a_k A)), (1, .int x), (2, .int p), (3, .int y), (4, .ref ou)] [.int (sp_set σ x p y).2.1, .int 0, .ref ou]
      refine yy_i2l F d_L_set_10 (n := 11) rfl rfl ?_
      refine yy_last F X.2.1 3 rfl S1 hoz O1 (i := 0) (vp_in_nI (n := 0) (by decide) (by decide)) d_L_set_11 (n := 12) rfl (fun H2 locs2 O2 z2 f2 S2 => ?_)
      refine yy_goto (tgt := 31) F d_L_set_12 (by decide) ?_
      refine yy_iconst (v := 0) F d_L_set_31 (n := 32) rfl rfl ?_
      exact yy_iret F S2 ⟨by decide, by decide⟩ rfl d_L_set_32 (l_end (by rw [hr]; rfl) P1 hx hk ho hoH O2 (fun _ => rfl) z2 f2)
  · obtain ⟨ho9, ⟨A9, P1, hx⟩, hk⟩ := hq
    cases hr : (sp_set σ x p y).1 with
    | none =>
      rw [hr] at ho9
      cases ho9
    | some E9 =>
      rw [hr] at ho9
      cases ho9
      have O1 : lo_at D ca ou g H1 := va_at.kept hO (hk.2 ou hoH ho)
      have hin := ex_set_ σ x p y _ hr
      simp only [List.mem_cons, List.not_mem_nil, or_false] at hin
      rcases hin with rfl | rfl | rfl | rfl
      · refine yy_catch F X.1 (E := e_io) (nm := e_io) hce hv1 hcl (pre := []) (fr := 0) (to := 12) (hp := 15) (ct := 21) (rest := [(0, 12, 19, 23), (0, 12, 23, 37), (0, 12, 27, 25)]) rfl (fun y hy => nomatch hy) ⟨by decide, by decide⟩ (by decide) q_227 q_240 ?_
        refine yy_astore (lv' := [(5, .ref q), (0, .ref (a_k A)), (1, .int x), (2, .int p), (3, .int y), (4, .ref ou)]) F d_L_set_15 (n := 17) rfl (by decide) rfl ?_
        refine yy_iconst (v := 1) F d_L_set_17 (n := 18) rfl rfl ?_
        exact yy_iret F S1 ⟨by decide, by decide⟩ rfl d_L_set_18 (l_end (by rw [hr]; rfl) P1 hx hk ho hoH O1 (fun h => by rw [hr] at h; cases h) rfl (fun _ _ => rfl))
      · refine yy_catch F X.1 (E := e_uo) (nm := e_uo) hce hv1 hcl (pre := [(0, 12, 15, 21)]) (fr := 0) (to := 12) (hp := 19) (ct := 23) (rest := [(0, 12, 23, 37), (0, 12, 27, 25)]) rfl (by
          intro y hy
          rw [List.mem_singleton] at hy
          subst hy
          exact ⟨by decide, _, q_227, nc_uo_io X⟩) ⟨by decide, by decide⟩ (by decide) q_228 q_273 ?_
        refine yy_astore (lv' := [(5, .ref q), (0, .ref (a_k A)), (1, .int x), (2, .int p), (3, .int y), (4, .ref ou)]) F d_L_set_19 (n := 21) rfl (by decide) rfl ?_
        refine yy_iconst (v := 2) F d_L_set_21 (n := 22) rfl rfl ?_
        exact yy_iret F S1 ⟨by decide, by decide⟩ rfl d_L_set_22 (l_end (by rw [hr]; rfl) P1 hx hk ho hoH O1 (fun h => by rw [hr] at h; cases h) rfl (fun _ _ => rfl))
      · refine yy_catch F X.1 (E := e_ns) (nm := e_ns) hce hv1 hcl (pre := [(0, 12, 15, 21), (0, 12, 19, 23)]) (fr := 0) (to := 12) (hp := 23) (ct := 37) (rest := [(0, 12, 27, 25)]) rfl (by
          intro y hy
          simp only [List.mem_cons, List.not_mem_nil, or_false] at hy
          rcases hy with rfl | rfl
          · exact ⟨by decide, _, q_227, nc_ns_io X⟩
          · exact ⟨by decide, _, q_228, nc_ns_uo X⟩) ⟨by decide, by decide⟩ (by decide) q_410 q_432 ?_
        refine yy_astore (lv' := [(5, .ref q), (0, .ref (a_k A)), (1, .int x), (2, .int p), (3, .int y), (4, .ref ou)]) F d_L_set_23 (n := 25) rfl (by decide) rfl ?_
        refine yy_iconst (v := 3) F d_L_set_25 (n := 26) rfl rfl ?_
        exact yy_iret F S1 ⟨by decide, by decide⟩ rfl d_L_set_26 (l_end (by rw [hr]; rfl) P1 hx hk ho hoH O1 (fun h => by rw [hr] at h; cases h) rfl (fun _ _ => rfl))
      · refine yy_catch F X.1 (E := e_rt) (nm := e_rt) hce hv1 hcl (pre := [(0, 12, 15, 21), (0, 12, 19, 23), (0, 12, 23, 37)]) (fr := 0) (to := 12) (hp := 27) (ct := 25) (rest := []) rfl (by
          intro y hy
          simp only [List.mem_cons, List.not_mem_nil, or_false] at hy
          rcases hy with rfl | rfl | rfl
          · exact ⟨by decide, _, q_227, nc_rt_io X⟩
          · exact ⟨by decide, _, q_228, nc_rt_uo X⟩
          · exact ⟨by decide, _, q_410, nc_rt_ns X⟩) ⟨by decide, by decide⟩ (by decide) q_229 q_301 ?_
        refine yy_astore (lv' := [(5, .ref q), (0, .ref (a_k A)), (1, .int x), (2, .int p), (3, .int y), (4, .ref ou)]) F d_L_set_27 (n := 29) rfl (by decide) rfl ?_
        refine yy_iconst (v := 4) F d_L_set_29 (n := 30) rfl rfl ?_
        exact yy_iret F S1 ⟨by decide, by decide⟩ rfl d_L_set_30 (l_end (by rw [hr]; rfl) P1 hx hk ho hoH O1 (fun h => by rw [hr] at h; cases h) rfl (fun _ _ => rfl))
set_option maxRecDepth 100000 in
set_option maxHeartbeats 4000000 in
theorem c_L_insert {l : Launch} {z : State} {a0 : Array Value} {D : va_G} {ca : kca} (X : kcx l z a0 D ca) {A : kA} {σ : ks} {t : Nat} (I : iv t σ) (ht : t + 25 ≤ 100000) {x p y : Int32} {ou : Nat} {g : Nat → Int64} (ho : a_ow A ou = 0) (hoz : z.heap.size ≤ ou) : yy_M l z y_L_insert (.codeWith y_L_insert b_L_insert 5 (some .int) [(0, 7, 10, 21), (0, 7, 14, 23), (0, 7, 18, 37), (0, 7, 22, 15), (0, 7, 26, 25)]) ({ frames := 9, cells := 1, slots := 6, locals := 150 }) [.ref (a_k A), .int x, .int p, .int y] (fun H => ck_at D ca z A σ H ∧ lo_at D ca ou g H) (l_p D ca z A ou [e_io, e_uo, e_ns, e_is, e_rt] l_non (sp_insert σ x p y)) := by
  refine yy_bodyW (by decide) (Nat.le_of_ble_eq_true rfl) (fun b H F hS hP hH => ?_)
  obtain ⟨hP, hO⟩ := hP
  have hoH : ou < H.size := va_at.lt hO
  refine yy_aload_n F d_L_insert_0 (n := 1) rfl 0 rfl ?_
  refine yy_iload_n F d_L_insert_1 (n := 2) rfl 1 rfl ?_
  refine yy_iload_n F d_L_insert_2 (n := 3) rfl 2 rfl ?_
  refine yy_iload_n F d_L_insert_3 (n := 4) rfl 3 rfl ?_
  refine yy_call F hS (c_K_insert (x := x) (p := p) (y := y) X I) (yy_Bc F X.1 q_487 q_1) (yy_invV (nA := 3) (C := R_K) (bytes := b_K_insert) (maxL := 6) (retY := none) F X.1 q_484 q_485 q_486 q_487 ⟨by decide, by decide, by decide +kernel⟩ (yy_recv F.N X.2.1 (ci := 5) rfl hP.k) rfl d_L_insert_4) d_L_insert_4 (n := 7) rfl (by simp [Value.category]) ⟨by decide, by decide⟩ ⟨by decide, by decide⟩ hP (fun v1 H1 locs1 hq S1 => ?_) (fun E q ce H1 locs1 hq S1 hce hv1 hcl => ?_)
  · obtain ⟨ho9, ⟨A9, P1, hx⟩, hk⟩ := hq
    cases hr : (sp_insert σ x p y).1 with
    | some E =>
      rw [hr] at ho9
      cases ho9
    | none =>
      rw [hr] at ho9
      cases ho9
      have O1 : lo_at D ca ou g H1 := va_at.kept hO (hk.2 ou hoH ho)
      show yy_Y b H1 locs1 (0 + 1, 0 + 6) 7 [(0, .ref (a_k A)), (1, .int x), (2, .int p), (3, .int y)] []
      refine yy_goto (tgt := 30) F d_L_insert_7 (by decide) ?_
      refine yy_iconst (v := 0) F d_L_insert_30 (n := 31) rfl rfl ?_
      exact yy_iret F S1 ⟨by decide, by decide⟩ rfl d_L_insert_31 (l_end (by rw [hr]; rfl) P1 hx hk ho hoH O1 (fun _ => trivial) rfl (fun _ _ => rfl))
  · obtain ⟨ho9, ⟨A9, P1, hx⟩, hk⟩ := hq
    cases hr : (sp_insert σ x p y).1 with
    | none =>
      rw [hr] at ho9
      cases ho9
    | some E9 =>
      rw [hr] at ho9
      cases ho9
      have O1 : lo_at D ca ou g H1 := va_at.kept hO (hk.2 ou hoH ho)
      have hin := ex_insert_ σ x p y _ hr
      simp only [List.mem_cons, List.not_mem_nil, or_false] at hin
      rcases hin with rfl | rfl | rfl | rfl | rfl
      · refine yy_catch F X.1 (E := e_io) (nm := e_io) hce hv1 hcl (pre := []) (fr := 0) (to := 7) (hp := 10) (ct := 21) (rest := [(0, 7, 14, 23), (0, 7, 18, 37), (0, 7, 22, 15), (0, 7, 26, 25)]) rfl (fun y hy => nomatch hy) ⟨by decide, by decide⟩ (by decide) q_227 q_240 ?_
        refine yy_astore (lv' := [(4, .ref q), (0, .ref (a_k A)), (1, .int x), (2, .int p), (3, .int y)]) F d_L_insert_10 (n := 12) rfl (by decide) rfl ?_
        refine yy_iconst (v := 1) F d_L_insert_12 (n := 13) rfl rfl ?_
        exact yy_iret F S1 ⟨by decide, by decide⟩ rfl d_L_insert_13 (l_end (by rw [hr]; rfl) P1 hx hk ho hoH O1 (fun h => by rw [hr] at h; cases h) rfl (fun _ _ => rfl))
      · refine yy_catch F X.1 (E := e_uo) (nm := e_uo) hce hv1 hcl (pre := [(0, 7, 10, 21)]) (fr := 0) (to := 7) (hp := 14) (ct := 23) (rest := [(0, 7, 18, 37), (0, 7, 22, 15), (0, 7, 26, 25)]) rfl (by
          intro y hy
          rw [List.mem_singleton] at hy
          subst hy
          exact ⟨by decide, _, q_227, nc_uo_io X⟩) ⟨by decide, by decide⟩ (by decide) q_228 q_273 ?_
        refine yy_astore (lv' := [(4, .ref q), (0, .ref (a_k A)), (1, .int x), (2, .int p), (3, .int y)]) F d_L_insert_14 (n := 16) rfl (by decide) rfl ?_
        refine yy_iconst (v := 2) F d_L_insert_16 (n := 17) rfl rfl ?_
        exact yy_iret F S1 ⟨by decide, by decide⟩ rfl d_L_insert_17 (l_end (by rw [hr]; rfl) P1 hx hk ho hoH O1 (fun h => by rw [hr] at h; cases h) rfl (fun _ _ => rfl))
      · refine yy_catch F X.1 (E := e_ns) (nm := e_ns) hce hv1 hcl (pre := [(0, 7, 10, 21), (0, 7, 14, 23)]) (fr := 0) (to := 7) (hp := 18) (ct := 37) (rest := [(0, 7, 22, 15), (0, 7, 26, 25)]) rfl (by
          intro y hy
          simp only [List.mem_cons, List.not_mem_nil, or_false] at hy
          rcases hy with rfl | rfl
          · exact ⟨by decide, _, q_227, nc_ns_io X⟩
          · exact ⟨by decide, _, q_228, nc_ns_uo X⟩) ⟨by decide, by decide⟩ (by decide) q_410 q_432 ?_
        refine yy_astore (lv' := [(4, .ref q), (0, .ref (a_k A)), (1, .int x), (2, .int p), (3, .int y)]) F d_L_insert_18 (n := 20) rfl (by decide) rfl ?_
        refine yy_iconst (v := 3) F d_L_insert_20 (n := 21) rfl rfl ?_
        exact yy_iret F S1 ⟨by decide, by decide⟩ rfl d_L_insert_21 (l_end (by rw [hr]; rfl) P1 hx hk ho hoH O1 (fun h => by rw [hr] at h; cases h) rfl (fun _ _ => rfl))
      · refine yy_catch F X.1 (E := e_is) (nm := e_is) hce hv1 hcl (pre := [(0, 7, 10, 21), (0, 7, 14, 23), (0, 7, 18, 37)]) (fr := 0) (to := 7) (hp := 22) (ct := 15) (rest := [(0, 7, 26, 25)]) rfl (by
          intro y hy
          simp only [List.mem_cons, List.not_mem_nil, or_false] at hy
          rcases hy with rfl | rfl | rfl
          · exact ⟨by decide, _, q_227, nc_is_io X⟩
          · exact ⟨by decide, _, q_228, nc_is_uo X⟩
          · exact ⟨by decide, _, q_410, nc_is_ns X⟩) ⟨by decide, by decide⟩ (by decide) q_65 q_150 ?_
        refine yy_astore (lv' := [(4, .ref q), (0, .ref (a_k A)), (1, .int x), (2, .int p), (3, .int y)]) F d_L_insert_22 (n := 24) rfl (by decide) rfl ?_
        refine yy_iconst (v := 4) F d_L_insert_24 (n := 25) rfl rfl ?_
        exact yy_iret F S1 ⟨by decide, by decide⟩ rfl d_L_insert_25 (l_end (by rw [hr]; rfl) P1 hx hk ho hoH O1 (fun h => by rw [hr] at h; cases h) rfl (fun _ _ => rfl))
      · refine yy_catch F X.1 (E := e_rt) (nm := e_rt) hce hv1 hcl (pre := [(0, 7, 10, 21), (0, 7, 14, 23), (0, 7, 18, 37), (0, 7, 22, 15)]) (fr := 0) (to := 7) (hp := 26) (ct := 25) (rest := []) rfl (by
          intro y hy
          simp only [List.mem_cons, List.not_mem_nil, or_false] at hy
          rcases hy with rfl | rfl | rfl | rfl
          · exact ⟨by decide, _, q_227, nc_rt_io X⟩
          · exact ⟨by decide, _, q_228, nc_rt_uo X⟩
          · exact ⟨by decide, _, q_410, nc_rt_ns X⟩
          · exact ⟨by decide, _, q_65, nc_rt_is X⟩) ⟨by decide, by decide⟩ (by decide) q_229 q_301 ?_
        refine yy_astore (lv' := [(4, .ref q), (0, .ref (a_k A)), (1, .int x), (2, .int p), (3, .int y)]) F d_L_insert_26 (n := 28) rfl (by decide) rfl ?_
        refine yy_iconst (v := 5) F d_L_insert_28 (n := 29) rfl rfl ?_
        exact yy_iret F S1 ⟨by decide, by decide⟩ rfl d_L_insert_29 (l_end (by rw [hr]; rfl) P1 hx hk ho hoH O1 (fun h => by rw [hr] at h; cases h) rfl (fun _ _ => rfl))
set_option maxRecDepth 100000 in
set_option maxHeartbeats 4000000 in
theorem c_L_remove {l : Launch} {z : State} {a0 : Array Value} {D : va_G} {ca : kca} (X : kcx l z a0 D ca) {A : kA} {σ : ks} {t : Nat} (I : iv t σ) (ht : t + 25 ≤ 100000) {x p : Int32} {ou : Nat} {g : Nat → Int64} (ho : a_ow A ou = 0) (hoz : z.heap.size ≤ ou) : yy_M l z y_L_remove (.codeWith y_L_remove b_L_remove 5 (some .int) [(0, 10, 13, 21), (0, 10, 17, 23), (0, 10, 21, 37), (0, 10, 25, 25)]) ({ frames := 9, cells := 1, slots := 6, locals := 149 }) [.ref (a_k A), .int x, .int p, .ref ou] (fun H => ck_at D ca z A σ H ∧ lo_at D ca ou g H) (l_p D ca z A ou [e_io, e_uo, e_ns, e_rt] l_int (sp_remove σ x p)) := by
  refine yy_bodyW (by decide) (Nat.le_of_ble_eq_true rfl) (fun b H F hS hP hH => ?_)
  obtain ⟨hP, hO⟩ := hP
  have hoH : ou < H.size := va_at.lt hO
  refine yy_aload_n F d_L_remove_0 (n := 1) rfl 3 rfl ?_
  refine yy_iconst (v := 0) F d_L_remove_1 (n := 2) rfl rfl ?_
  refine yy_aload_n F d_L_remove_2 (n := 3) rfl 0 rfl ?_
  refine yy_iload_n F d_L_remove_3 (n := 4) rfl 1 rfl ?_
  refine yy_iload_n F d_L_remove_4 (n := 5) rfl 2 rfl ?_
  refine yy_call F hS (c_K_remove (x := x) (p := p) X I) (yy_Bc F X.1 q_528 q_1) (yy_invV (nA := 2) (C := R_K) (bytes := b_K_remove) (maxL := 5) (retY := (some .int)) F X.1 q_525 q_526 q_527 q_528 ⟨by decide, by decide, by decide +kernel⟩ (yy_recv F.N X.2.1 (ci := 5) rfl hP.k) rfl d_L_remove_5) d_L_remove_5 (n := 8) rfl (by simp [Value.category]) ⟨by decide, by decide⟩ ⟨by decide, by decide⟩ hP (fun v1 H1 locs1 hq S1 => ?_) (fun E q ce H1 locs1 hq S1 hce hv1 hcl => ?_)
  · obtain ⟨ho9, ⟨A9, P1, hx⟩, hk⟩ := hq
    cases hr : (sp_remove σ x p).1 with
    | some E =>
      rw [hr] at ho9
      cases ho9
    | none =>
      rw [hr] at ho9
      cases ho9
      have O1 : lo_at D ca ou g H1 := va_at.kept hO (hk.2 ou hoH ho)
      show yy_Y b H1 locs1 (0 + 1, 0 + 6) 8 [(0, .ref (a_k A)), (1, .int x), (2, .int p), (3, .ref ou)] [.int (sp_remove σ x p).2.1, .int 0, .ref ou]
      refine yy_i2l F d_L_remove_8 (n := 9) rfl rfl ?_
      refine yy_last F X.2.1 3 rfl S1 hoz O1 (i := 0) (vp_in_nI (n := 0) (by decide) (by decide)) d_L_remove_9 (n := 10) rfl (fun H2 locs2 O2 z2 f2 S2 => ?_)
      refine yy_goto (tgt := 29) F d_L_remove_10 (by decide) ?_
      refine yy_iconst (v := 0) F d_L_remove_29 (n := 30) rfl rfl ?_
      exact yy_iret F S2 ⟨by decide, by decide⟩ rfl d_L_remove_30 (l_end (by rw [hr]; rfl) P1 hx hk ho hoH O2 (fun _ => rfl) z2 f2)
  · obtain ⟨ho9, ⟨A9, P1, hx⟩, hk⟩ := hq
    cases hr : (sp_remove σ x p).1 with
    | none =>
      rw [hr] at ho9
      cases ho9
    | some E9 =>
      rw [hr] at ho9
      cases ho9
      have O1 : lo_at D ca ou g H1 := va_at.kept hO (hk.2 ou hoH ho)
      have hin := ex_remove_ σ x p _ hr
      simp only [List.mem_cons, List.not_mem_nil, or_false] at hin
      rcases hin with rfl | rfl | rfl | rfl
      · refine yy_catch F X.1 (E := e_io) (nm := e_io) hce hv1 hcl (pre := []) (fr := 0) (to := 10) (hp := 13) (ct := 21) (rest := [(0, 10, 17, 23), (0, 10, 21, 37), (0, 10, 25, 25)]) rfl (fun y hy => nomatch hy) ⟨by decide, by decide⟩ (by decide) q_227 q_240 ?_
        refine yy_astore (lv' := [(4, .ref q), (0, .ref (a_k A)), (1, .int x), (2, .int p), (3, .ref ou)]) F d_L_remove_13 (n := 15) rfl (by decide) rfl ?_
        refine yy_iconst (v := 1) F d_L_remove_15 (n := 16) rfl rfl ?_
        exact yy_iret F S1 ⟨by decide, by decide⟩ rfl d_L_remove_16 (l_end (by rw [hr]; rfl) P1 hx hk ho hoH O1 (fun h => by rw [hr] at h; cases h) rfl (fun _ _ => rfl))
      · refine yy_catch F X.1 (E := e_uo) (nm := e_uo) hce hv1 hcl (pre := [(0, 10, 13, 21)]) (fr := 0) (to := 10) (hp := 17) (ct := 23) (rest := [(0, 10, 21, 37), (0, 10, 25, 25)]) rfl (by
          intro y hy
          rw [List.mem_singleton] at hy
          subst hy
          exact ⟨by decide, _, q_227, nc_uo_io X⟩) ⟨by decide, by decide⟩ (by decide) q_228 q_273 ?_
        refine yy_astore (lv' := [(4, .ref q), (0, .ref (a_k A)), (1, .int x), (2, .int p), (3, .ref ou)]) F d_L_remove_17 (n := 19) rfl (by decide) rfl ?_
        refine yy_iconst (v := 2) F d_L_remove_19 (n := 20) rfl rfl ?_
        exact yy_iret F S1 ⟨by decide, by decide⟩ rfl d_L_remove_20 (l_end (by rw [hr]; rfl) P1 hx hk ho hoH O1 (fun h => by rw [hr] at h; cases h) rfl (fun _ _ => rfl))
      · refine yy_catch F X.1 (E := e_ns) (nm := e_ns) hce hv1 hcl (pre := [(0, 10, 13, 21), (0, 10, 17, 23)]) (fr := 0) (to := 10) (hp := 21) (ct := 37) (rest := [(0, 10, 25, 25)]) rfl (by
          intro y hy
          simp only [List.mem_cons, List.not_mem_nil, or_false] at hy
          rcases hy with rfl | rfl
          · exact ⟨by decide, _, q_227, nc_ns_io X⟩
          · exact ⟨by decide, _, q_228, nc_ns_uo X⟩) ⟨by decide, by decide⟩ (by decide) q_410 q_432 ?_
        refine yy_astore (lv' := [(4, .ref q), (0, .ref (a_k A)), (1, .int x), (2, .int p), (3, .ref ou)]) F d_L_remove_21 (n := 23) rfl (by decide) rfl ?_
        refine yy_iconst (v := 3) F d_L_remove_23 (n := 24) rfl rfl ?_
        exact yy_iret F S1 ⟨by decide, by decide⟩ rfl d_L_remove_24 (l_end (by rw [hr]; rfl) P1 hx hk ho hoH O1 (fun h => by rw [hr] at h; cases h) rfl (fun _ _ => rfl))
      · refine yy_catch F X.1 (E := e_rt) (nm := e_rt) hce hv1 hcl (pre := [(0, 10, 13, 21), (0, 10, 17, 23), (0, 10, 21, 37)]) (fr := 0) (to := 10) (hp := 25) (ct := 25) (rest := []) rfl (by
          intro y hy
          simp only [List.mem_cons, List.not_mem_nil, or_false] at hy
          rcases hy with rfl | rfl | rfl
          · exact ⟨by decide, _, q_227, nc_rt_io X⟩
          · exact ⟨by decide, _, q_228, nc_rt_uo X⟩
          · exact ⟨by decide, _, q_410, nc_rt_ns X⟩) ⟨by decide, by decide⟩ (by decide) q_229 q_301 ?_
        refine yy_astore (lv' := [(4, .ref q), (0, .ref (a_k A)), (1, .int x), (2, .int p), (3, .ref ou)]) F d_L_remove_25 (n := 27) rfl (by decide) rfl ?_
        refine yy_iconst (v := 4) F d_L_remove_27 (n := 28) rfl rfl ?_
        exact yy_iret F S1 ⟨by decide, by decide⟩ rfl d_L_remove_28 (l_end (by rw [hr]; rfl) P1 hx hk ho hoH O1 (fun h => by rw [hr] at h; cases h) rfl (fun _ _ => rfl))
set_option maxRecDepth 100000 in
set_option maxHeartbeats 4000000 in
theorem c_L_sort {l : Launch} {z : State} {a0 : Array Value} {D : va_G} {ca : kca} (X : kcx l z a0 D ca) {A : kA} {σ : ks} {t : Nat} (I : iv t σ) (ht : t + 25 ≤ 100000) {x how : Int32} {ou : Nat} {g : Nat → Int64} (ho : a_ow A ou = 0) (hoz : z.heap.size ≤ ou) : yy_M l z y_L_sort (.codeWith y_L_sort b_L_sort 4 (some .int) [(0, 6, 9, 21), (0, 6, 12, 23), (0, 6, 15, 13), (0, 6, 18, 25)]) ({ frames := 9, cells := 1, slots := 6, locals := 148 }) [.ref (a_k A), .int x, .int how] (fun H => ck_at D ca z A σ H ∧ lo_at D ca ou g H) (l_p D ca z A ou [e_io, e_uo, e_ia, e_rt] l_non (sp_sort σ x how)) := by
  refine yy_bodyW (by decide) (Nat.le_of_ble_eq_true rfl) (fun b H F hS hP hH => ?_)
  obtain ⟨hP, hO⟩ := hP
  have hoH : ou < H.size := va_at.lt hO
  refine yy_aload_n F d_L_sort_0 (n := 1) rfl 0 rfl ?_
  refine yy_iload_n F d_L_sort_1 (n := 2) rfl 1 rfl ?_
  refine yy_iload_n F d_L_sort_2 (n := 3) rfl 2 rfl ?_
  refine yy_call F hS (c_K_sort (x := x) (how := how) X I) (yy_Bc F X.1 q_550 q_1) (yy_invV (nA := 2) (C := R_K) (bytes := b_K_sort) (maxL := 4) (retY := none) F X.1 q_547 q_548 q_549 q_550 ⟨by decide, by decide, by decide +kernel⟩ (yy_recv F.N X.2.1 (ci := 5) rfl hP.k) rfl d_L_sort_3) d_L_sort_3 (n := 6) rfl (by simp [Value.category]) ⟨by decide, by decide⟩ ⟨by decide, by decide⟩ hP (fun v1 H1 locs1 hq S1 => ?_) (fun E q ce H1 locs1 hq S1 hce hv1 hcl => ?_)
  · obtain ⟨ho9, ⟨A9, P1, hx⟩, hk⟩ := hq
    cases hr : (sp_sort σ x how).1 with
    | some E =>
      rw [hr] at ho9
      cases ho9
    | none =>
      rw [hr] at ho9
      cases ho9
      have O1 : lo_at D ca ou g H1 := va_at.kept hO (hk.2 ou hoH ho)
      show yy_Y b H1 locs1 (0 + 1, 0 + 6) 6 [(0, .ref (a_k A)), (1, .int x), (2, .int how)] []
      refine yy_goto (tgt := 21) F d_L_sort_6 (by decide) ?_
      refine yy_iconst (v := 0) F d_L_sort_21 (n := 22) rfl rfl ?_
      exact yy_iret F S1 ⟨by decide, by decide⟩ rfl d_L_sort_22 (l_end (by rw [hr]; rfl) P1 hx hk ho hoH O1 (fun _ => trivial) rfl (fun _ _ => rfl))
  · obtain ⟨ho9, ⟨A9, P1, hx⟩, hk⟩ := hq
    cases hr : (sp_sort σ x how).1 with
    | none =>
      rw [hr] at ho9
      cases ho9
    | some E9 =>
      rw [hr] at ho9
      cases ho9
      have O1 : lo_at D ca ou g H1 := va_at.kept hO (hk.2 ou hoH ho)
      have hin := ex_sort_ σ x how _ hr
      simp only [List.mem_cons, List.not_mem_nil, or_false] at hin
      rcases hin with rfl | rfl | rfl | rfl
      · refine yy_catch F X.1 (E := e_io) (nm := e_io) hce hv1 hcl (pre := []) (fr := 0) (to := 6) (hp := 9) (ct := 21) (rest := [(0, 6, 12, 23), (0, 6, 15, 13), (0, 6, 18, 25)]) rfl (fun y hy => nomatch hy) ⟨by decide, by decide⟩ (by decide) q_227 q_240 ?_
        refine yy_astore_n (lv' := [(3, .ref q), (0, .ref (a_k A)), (1, .int x), (2, .int how)]) F d_L_sort_9 (n := 10) rfl (by decide) rfl ?_
        refine yy_iconst (v := 1) F d_L_sort_10 (n := 11) rfl rfl ?_
        exact yy_iret F S1 ⟨by decide, by decide⟩ rfl d_L_sort_11 (l_end (by rw [hr]; rfl) P1 hx hk ho hoH O1 (fun h => by rw [hr] at h; cases h) rfl (fun _ _ => rfl))
      · refine yy_catch F X.1 (E := e_uo) (nm := e_uo) hce hv1 hcl (pre := [(0, 6, 9, 21)]) (fr := 0) (to := 6) (hp := 12) (ct := 23) (rest := [(0, 6, 15, 13), (0, 6, 18, 25)]) rfl (by
          intro y hy
          rw [List.mem_singleton] at hy
          subst hy
          exact ⟨by decide, _, q_227, nc_uo_io X⟩) ⟨by decide, by decide⟩ (by decide) q_228 q_273 ?_
        refine yy_astore_n (lv' := [(3, .ref q), (0, .ref (a_k A)), (1, .int x), (2, .int how)]) F d_L_sort_12 (n := 13) rfl (by decide) rfl ?_
        refine yy_iconst (v := 2) F d_L_sort_13 (n := 14) rfl rfl ?_
        exact yy_iret F S1 ⟨by decide, by decide⟩ rfl d_L_sort_14 (l_end (by rw [hr]; rfl) P1 hx hk ho hoH O1 (fun h => by rw [hr] at h; cases h) rfl (fun _ _ => rfl))
      · refine yy_catch F X.1 (E := e_ia) (nm := e_ia) hce hv1 hcl (pre := [(0, 6, 9, 21), (0, 6, 12, 23)]) (fr := 0) (to := 6) (hp := 15) (ct := 13) (rest := [(0, 6, 18, 25)]) rfl (by
          intro y hy
          simp only [List.mem_cons, List.not_mem_nil, or_false] at hy
          rcases hy with rfl | rfl
          · exact ⟨by decide, _, q_227, nc_ia_io X⟩
          · exact ⟨by decide, _, q_228, nc_ia_uo X⟩) ⟨by decide, by decide⟩ (by decide) q_64 q_75 ?_
        refine yy_astore_n (lv' := [(3, .ref q), (0, .ref (a_k A)), (1, .int x), (2, .int how)]) F d_L_sort_15 (n := 16) rfl (by decide) rfl ?_
        refine yy_iconst (v := 3) F d_L_sort_16 (n := 17) rfl rfl ?_
        exact yy_iret F S1 ⟨by decide, by decide⟩ rfl d_L_sort_17 (l_end (by rw [hr]; rfl) P1 hx hk ho hoH O1 (fun h => by rw [hr] at h; cases h) rfl (fun _ _ => rfl))
      · refine yy_catch F X.1 (E := e_rt) (nm := e_rt) hce hv1 hcl (pre := [(0, 6, 9, 21), (0, 6, 12, 23), (0, 6, 15, 13)]) (fr := 0) (to := 6) (hp := 18) (ct := 25) (rest := []) rfl (by
          intro y hy
          simp only [List.mem_cons, List.not_mem_nil, or_false] at hy
          rcases hy with rfl | rfl | rfl
          · exact ⟨by decide, _, q_227, nc_rt_io X⟩
          · exact ⟨by decide, _, q_228, nc_rt_uo X⟩
          · exact ⟨by decide, _, q_64, nc_rt_ia X⟩) ⟨by decide, by decide⟩ (by decide) q_229 q_301 ?_
        refine yy_astore_n (lv' := [(3, .ref q), (0, .ref (a_k A)), (1, .int x), (2, .int how)]) F d_L_sort_18 (n := 19) rfl (by decide) rfl ?_
        refine yy_iconst (v := 4) F d_L_sort_19 (n := 20) rfl rfl ?_
        exact yy_iret F S1 ⟨by decide, by decide⟩ rfl d_L_sort_20 (l_end (by rw [hr]; rfl) P1 hx hk ho hoH O1 (fun h => by rw [hr] at h; cases h) rfl (fun _ _ => rfl))
set_option maxRecDepth 100000 in
set_option maxHeartbeats 4000000 in
theorem c_L_put {l : Launch} {z : State} {a0 : Array Value} {D : va_G} {ca : kca} (X : kcx l z a0 D ca) {A : kA} {σ : ks} {t : Nat} (I : iv t σ) (ht : t + 25 ≤ 100000) {x key v : Int32} {ou : Nat} {g : Nat → Int64} (ho : a_ow A ou = 0) (hoz : z.heap.size ≤ ou) : yy_M l z y_L_put (.codeWith y_L_put b_L_put 6 (some .int) [(0, 19, 22, 21), (0, 19, 26, 23), (0, 19, 30, 13), (0, 19, 34, 15)]) ({ frames := 9, cells := 1, slots := 6, locals := 150 }) [.ref (a_k A), .int x, .int key, .int v, .ref ou] (fun H => ck_at D ca z A σ H ∧ lo_at D ca ou g H) (l_p D ca z A ou [e_io, e_uo, e_ia, e_is] l_boo (sp_put σ x key v)) := by
  refine yy_bodyW (by decide) (Nat.le_of_ble_eq_true rfl) (fun b H F hS hP hH => ?_)
  obtain ⟨hP, hO⟩ := hP
  have hoH : ou < H.size := va_at.lt hO
  refine yy_aload F d_L_put_0 (n := 2) rfl 4 rfl ?_
  refine yy_iconst (v := 0) F d_L_put_2 (n := 3) rfl rfl ?_
  refine yy_aload_n F d_L_put_3 (n := 4) rfl 0 rfl ?_
  refine yy_iload_n F d_L_put_4 (n := 5) rfl 1 rfl ?_
  refine yy_iload_n F d_L_put_5 (n := 6) rfl 2 rfl ?_
  refine yy_iload_n F d_L_put_6 (n := 7) rfl 3 rfl ?_
  refine yy_call F hS (c_K_put (x := x) (key := key) (v := v) X I) (yy_Bc F X.1 q_576 q_1) (yy_invV (nA := 3) (C := R_K) (bytes := b_K_put) (maxL := 6) (retY := (some .boolean)) F X.1 q_573 q_574 q_575 q_576 ⟨by decide, by decide, by decide +kernel⟩ (yy_recv F.N X.2.1 (ci := 5) rfl hP.k) rfl d_L_put_7) d_L_put_7 (n := 10) rfl (by simp [Value.category]) ⟨by decide, by decide⟩ ⟨by decide, by decide⟩ hP (fun v1 H1 locs1 hq S1 => ?_) (fun E q ce H1 locs1 hq S1 hce hv1 hcl => ?_)
  · obtain ⟨ho9, ⟨A9, P1, hx⟩, hk⟩ := hq
    cases hr : (sp_put σ x key v).1 with
    | some E =>
      rw [hr] at ho9
      cases ho9
    | none =>
      rw [hr] at ho9
      cases ho9
      have O1 : lo_at D ca ou g H1 := va_at.kept hO (hk.2 ou hoH ho)
      show yy_Y b H1 locs1 (0 + 1, 0 + 6) 10 [(0, .ref (a_k A)), (1, .int x), (2, .int key), (3, .int v), (4, .ref ou)] [.int (sp_put σ x key v).2.1, .int 0, .ref ou]
      refine yy_if_eq (tgt := 17) F d_L_put_10 (n := 13) rfl (by decide) (fun h0 => ?_) (fun h0 => ?_)
      · refine yy_lconst (v := 0) F d_L_put_17 (n := 18) rfl rfl ?_
        refine yy_last F X.2.1 3 rfl S1 hoz O1 (i := 0) (vp_in_nI (n := 0) (by decide) (by decide)) d_L_put_18 (n := 19) rfl (fun H2 locs2 O2 z2 f2 S2 => ?_)
        refine yy_goto (tgt := 38) F d_L_put_19 (by decide) ?_
        refine yy_iconst (v := 0) F d_L_put_38 (n := 39) rfl rfl ?_
        exact yy_iret F S2 ⟨by decide, by decide⟩ rfl d_L_put_39 (l_end (by rw [hr]; rfl) P1 hx hk ho hoH O2 (fun _ => by show vp_updL g _ _ _ = _; rw [h0]; rfl) z2 f2)
      · refine yy_lconst (v := 1) F d_L_put_13 (n := 14) rfl rfl ?_
        refine yy_goto (tgt := 18) F d_L_put_14 (by decide) ?_
        refine yy_last F X.2.1 3 rfl S1 hoz O1 (i := 0) (vp_in_nI (n := 0) (by decide) (by decide)) d_L_put_18 (n := 19) rfl (fun H2 locs2 O2 z2 f2 S2 => ?_)
        refine yy_goto (tgt := 38) F d_L_put_19 (by decide) ?_
        refine yy_iconst (v := 0) F d_L_put_38 (n := 39) rfl rfl ?_
        exact yy_iret F S2 ⟨by decide, by decide⟩ rfl d_L_put_39 (l_end (by rw [hr]; rfl) P1 hx hk ho hoH O2 (fun _ => by show vp_updL g _ _ _ = _; rw [if_neg h0]; rfl) z2 f2)
  · obtain ⟨ho9, ⟨A9, P1, hx⟩, hk⟩ := hq
    cases hr : (sp_put σ x key v).1 with
    | none =>
      rw [hr] at ho9
      cases ho9
    | some E9 =>
      rw [hr] at ho9
      cases ho9
      have O1 : lo_at D ca ou g H1 := va_at.kept hO (hk.2 ou hoH ho)
      have hin := ex_put_ σ x key v _ hr
      simp only [List.mem_cons, List.not_mem_nil, or_false] at hin
      rcases hin with rfl | rfl | rfl | rfl
      · refine yy_catch F X.1 (E := e_io) (nm := e_io) hce hv1 hcl (pre := []) (fr := 0) (to := 19) (hp := 22) (ct := 21) (rest := [(0, 19, 26, 23), (0, 19, 30, 13), (0, 19, 34, 15)]) rfl (fun y hy => nomatch hy) ⟨by decide, by decide⟩ (by decide) q_227 q_240 ?_
        refine yy_astore (lv' := [(5, .ref q), (0, .ref (a_k A)), (1, .int x), (2, .int key), (3, .int v), (4, .ref ou)]) F d_L_put_22 (n := 24) rfl (by decide) rfl ?_
        refine yy_iconst (v := 1) F d_L_put_24 (n := 25) rfl rfl ?_
        exact yy_iret F S1 ⟨by decide, by decide⟩ rfl d_L_put_25 (l_end (by rw [hr]; rfl) P1 hx hk ho hoH O1 (fun h => by rw [hr] at h; cases h) rfl (fun _ _ => rfl))
      · refine yy_catch F X.1 (E := e_uo) (nm := e_uo) hce hv1 hcl (pre := [(0, 19, 22, 21)]) (fr := 0) (to := 19) (hp := 26) (ct := 23) (rest := [(0, 19, 30, 13), (0, 19, 34, 15)]) rfl (by
          intro y hy
          rw [List.mem_singleton] at hy
          subst hy
          exact ⟨by decide, _, q_227, nc_uo_io X⟩) ⟨by decide, by decide⟩ (by decide) q_228 q_273 ?_
        refine yy_astore (lv' := [(5, .ref q), (0, .ref (a_k A)), (1, .int x), (2, .int key), (3, .int v), (4, .ref ou)]) F d_L_put_26 (n := 28) rfl (by decide) rfl ?_
        refine yy_iconst (v := 2) F d_L_put_28 (n := 29) rfl rfl ?_
        exact yy_iret F S1 ⟨by decide, by decide⟩ rfl d_L_put_29 (l_end (by rw [hr]; rfl) P1 hx hk ho hoH O1 (fun h => by rw [hr] at h; cases h) rfl (fun _ _ => rfl))
      · refine yy_catch F X.1 (E := e_ia) (nm := e_ia) hce hv1 hcl (pre := [(0, 19, 22, 21), (0, 19, 26, 23)]) (fr := 0) (to := 19) (hp := 30) (ct := 13) (rest := [(0, 19, 34, 15)]) rfl (by
          intro y hy
          simp only [List.mem_cons, List.not_mem_nil, or_false] at hy
          rcases hy with rfl | rfl
          · exact ⟨by decide, _, q_227, nc_ia_io X⟩
          · exact ⟨by decide, _, q_228, nc_ia_uo X⟩) ⟨by decide, by decide⟩ (by decide) q_64 q_75 ?_
        refine yy_astore (lv' := [(5, .ref q), (0, .ref (a_k A)), (1, .int x), (2, .int key), (3, .int v), (4, .ref ou)]) F d_L_put_30 (n := 32) rfl (by decide) rfl ?_
        refine yy_iconst (v := 3) F d_L_put_32 (n := 33) rfl rfl ?_
        exact yy_iret F S1 ⟨by decide, by decide⟩ rfl d_L_put_33 (l_end (by rw [hr]; rfl) P1 hx hk ho hoH O1 (fun h => by rw [hr] at h; cases h) rfl (fun _ _ => rfl))
      · refine yy_catch F X.1 (E := e_is) (nm := e_is) hce hv1 hcl (pre := [(0, 19, 22, 21), (0, 19, 26, 23), (0, 19, 30, 13)]) (fr := 0) (to := 19) (hp := 34) (ct := 15) (rest := []) rfl (by
          intro y hy
          simp only [List.mem_cons, List.not_mem_nil, or_false] at hy
          rcases hy with rfl | rfl | rfl
          · exact ⟨by decide, _, q_227, nc_is_io X⟩
          · exact ⟨by decide, _, q_228, nc_is_uo X⟩
          · exact ⟨by decide, _, q_64, nc_is_ia X⟩) ⟨by decide, by decide⟩ (by decide) q_65 q_150 ?_
        refine yy_astore (lv' := [(5, .ref q), (0, .ref (a_k A)), (1, .int x), (2, .int key), (3, .int v), (4, .ref ou)]) F d_L_put_34 (n := 36) rfl (by decide) rfl ?_
        refine yy_iconst (v := 4) F d_L_put_36 (n := 37) rfl rfl ?_
        exact yy_iret F S1 ⟨by decide, by decide⟩ rfl d_L_put_37 (l_end (by rw [hr]; rfl) P1 hx hk ho hoH O1 (fun h => by rw [hr] at h; cases h) rfl (fun _ _ => rfl))
set_option maxRecDepth 100000 in
set_option maxHeartbeats 4000000 in
theorem c_L_merge {l : Launch} {z : State} {a0 : Array Value} {D : va_G} {ca : kca} (X : kcx l z a0 D ca) {A : kA} {σ : ks} {t : Nat} (I : iv t σ) (ht : t + 25 ≤ 100000) {x key v : Int32} {ou : Nat} {g : Nat → Int64} (ho : a_ow A ou = 0) (hoz : z.heap.size ≤ ou) : yy_M l z y_L_merge (.codeWith y_L_merge b_L_merge 6 (some .int) [(0, 12, 15, 21), (0, 12, 19, 23), (0, 12, 23, 13), (0, 12, 27, 15)]) ({ frames := 9, cells := 1, slots := 6, locals := 151 }) [.ref (a_k A), .int x, .int key, .int v, .ref ou] (fun H => ck_at D ca z A σ H ∧ lo_at D ca ou g H) (l_p D ca z A ou [e_io, e_uo, e_ia, e_is] l_int (sp_merge σ x key v)) := by
  refine yy_bodyW (by decide) (Nat.le_of_ble_eq_true rfl) (fun b H F hS hP hH => ?_)
  obtain ⟨hP, hO⟩ := hP
  have hoH : ou < H.size := va_at.lt hO
  refine yy_aload F d_L_merge_0 (n := 2) rfl 4 rfl ?_
  refine yy_iconst (v := 0) F d_L_merge_2 (n := 3) rfl rfl ?_
  refine yy_aload_n F d_L_merge_3 (n := 4) rfl 0 rfl ?_
  refine yy_iload_n F d_L_merge_4 (n := 5) rfl 1 rfl ?_
  refine yy_iload_n F d_L_merge_5 (n := 6) rfl 2 rfl ?_
  refine yy_iload_n F d_L_merge_6 (n := 7) rfl 3 rfl ?_
  refine yy_call F hS (c_K_merge (x := x) (key := key) (v := v) X I) (yy_Bc F X.1 q_646 q_1) (yy_invV (nA := 3) (C := R_K) (bytes := b_K_merge) (maxL := 7) (retY := (some .int)) F X.1 q_643 q_644 q_645 q_646 ⟨by decide, by decide, by decide +kernel⟩ (yy_recv F.N X.2.1 (ci := 5) rfl hP.k) rfl d_L_merge_7) d_L_merge_7 (n := 10) rfl (by simp [Value.category]) ⟨by decide, by decide⟩ ⟨by decide, by decide⟩ hP (fun v1 H1 locs1 hq S1 => ?_) (fun E q ce H1 locs1 hq S1 hce hv1 hcl => ?_)
  · obtain ⟨ho9, ⟨A9, P1, hx⟩, hk⟩ := hq
    cases hr : (sp_merge σ x key v).1 with
    | some E =>
      rw [hr] at ho9
      cases ho9
    | none =>
      rw [hr] at ho9
      cases ho9
      have O1 : lo_at D ca ou g H1 := va_at.kept hO (hk.2 ou hoH ho)
      show yy_Y b H1 locs1 (0 + 1, 0 + 6) 10 [(0, .ref (a_k A)), (1, .int x), (2, .int key), (3, .int v), (4, .ref ou)] [.int (sp_merge σ x key v).2.1, .int 0, .ref ou]
      refine yy_i2l F d_L_merge_10 (n := 11) rfl rfl ?_
      refine yy_last F X.2.1 3 rfl S1 hoz O1 (i := 0) (vp_in_nI (n := 0) (by decide) (by decide)) d_L_merge_11 (n := 12) rfl (fun H2 locs2 O2 z2 f2 S2 => ?_)
      refine yy_goto (tgt := 31) F d_L_merge_12 (by decide) ?_
      refine yy_iconst (v := 0) F d_L_merge_31 (n := 32) rfl rfl ?_
      exact yy_iret F S2 ⟨by decide, by decide⟩ rfl d_L_merge_32 (l_end (by rw [hr]; rfl) P1 hx hk ho hoH O2 (fun _ => rfl) z2 f2)
  · obtain ⟨ho9, ⟨A9, P1, hx⟩, hk⟩ := hq
    cases hr : (sp_merge σ x key v).1 with
    | none =>
      rw [hr] at ho9
      cases ho9
    | some E9 =>
      rw [hr] at ho9
      cases ho9
      have O1 : lo_at D ca ou g H1 := va_at.kept hO (hk.2 ou hoH ho)
      have hin := ex_merge_ σ x key v _ hr
      simp only [List.mem_cons, List.not_mem_nil, or_false] at hin
      rcases hin with rfl | rfl | rfl | rfl
      · refine yy_catch F X.1 (E := e_io) (nm := e_io) hce hv1 hcl (pre := []) (fr := 0) (to := 12) (hp := 15) (ct := 21) (rest := [(0, 12, 19, 23), (0, 12, 23, 13), (0, 12, 27, 15)]) rfl (fun y hy => nomatch hy) ⟨by decide, by decide⟩ (by decide) q_227 q_240 ?_
        refine yy_astore (lv' := [(5, .ref q), (0, .ref (a_k A)), (1, .int x), (2, .int key), (3, .int v), (4, .ref ou)]) F d_L_merge_15 (n := 17) rfl (by decide) rfl ?_
        refine yy_iconst (v := 1) F d_L_merge_17 (n := 18) rfl rfl ?_
        exact yy_iret F S1 ⟨by decide, by decide⟩ rfl d_L_merge_18 (l_end (by rw [hr]; rfl) P1 hx hk ho hoH O1 (fun h => by rw [hr] at h; cases h) rfl (fun _ _ => rfl))
      · refine yy_catch F X.1 (E := e_uo) (nm := e_uo) hce hv1 hcl (pre := [(0, 12, 15, 21)]) (fr := 0) (to := 12) (hp := 19) (ct := 23) (rest := [(0, 12, 23, 13), (0, 12, 27, 15)]) rfl (by
          intro y hy
          rw [List.mem_singleton] at hy
          subst hy
          exact ⟨by decide, _, q_227, nc_uo_io X⟩) ⟨by decide, by decide⟩ (by decide) q_228 q_273 ?_
        refine yy_astore (lv' := [(5, .ref q), (0, .ref (a_k A)), (1, .int x), (2, .int key), (3, .int v), (4, .ref ou)]) F d_L_merge_19 (n := 21) rfl (by decide) rfl ?_
        refine yy_iconst (v := 2) F d_L_merge_21 (n := 22) rfl rfl ?_
        exact yy_iret F S1 ⟨by decide, by decide⟩ rfl d_L_merge_22 (l_end (by rw [hr]; rfl) P1 hx hk ho hoH O1 (fun h => by rw [hr] at h; cases h) rfl (fun _ _ => rfl))
      · refine yy_catch F X.1 (E := e_ia) (nm := e_ia) hce hv1 hcl (pre := [(0, 12, 15, 21), (0, 12, 19, 23)]) (fr := 0) (to := 12) (hp := 23) (ct := 13) (rest := [(0, 12, 27, 15)]) rfl (by
          intro y hy
          simp only [List.mem_cons, List.not_mem_nil, or_false] at hy
          rcases hy with rfl | rfl
          · exact ⟨by decide, _, q_227, nc_ia_io X⟩
          · exact ⟨by decide, _, q_228, nc_ia_uo X⟩) ⟨by decide, by decide⟩ (by decide) q_64 q_75 ?_
        refine yy_astore (lv' := [(5, .ref q), (0, .ref (a_k A)), (1, .int x), (2, .int key), (3, .int v), (4, .ref ou)]) F d_L_merge_23 (n := 25) rfl (by decide) rfl ?_
        refine yy_iconst (v := 3) F d_L_merge_25 (n := 26) rfl rfl ?_
        exact yy_iret F S1 ⟨by decide, by decide⟩ rfl d_L_merge_26 (l_end (by rw [hr]; rfl) P1 hx hk ho hoH O1 (fun h => by rw [hr] at h; cases h) rfl (fun _ _ => rfl))
      · refine yy_catch F X.1 (E := e_is) (nm := e_is) hce hv1 hcl (pre := [(0, 12, 15, 21), (0, 12, 19, 23), (0, 12, 23, 13)]) (fr := 0) (to := 12) (hp := 27) (ct := 15) (rest := []) rfl (by
          intro y hy
          simp only [List.mem_cons, List.not_mem_nil, or_false] at hy
          rcases hy with rfl | rfl | rfl
          · exact ⟨by decide, _, q_227, nc_is_io X⟩
          · exact ⟨by decide, _, q_228, nc_is_uo X⟩
          · exact ⟨by decide, _, q_64, nc_is_ia X⟩) ⟨by decide, by decide⟩ (by decide) q_65 q_150 ?_
        refine yy_astore (lv' := [(5, .ref q), (0, .ref (a_k A)), (1, .int x), (2, .int key), (3, .int v), (4, .ref ou)]) F d_L_merge_27 (n := 29) rfl (by decide) rfl ?_
        refine yy_iconst (v := 4) F d_L_merge_29 (n := 30) rfl rfl ?_
        exact yy_iret F S1 ⟨by decide, by decide⟩ rfl d_L_merge_30 (l_end (by rw [hr]; rfl) P1 hx hk ho hoH O1 (fun h => by rw [hr] at h; cases h) rfl (fun _ _ => rfl))
set_option maxRecDepth 100000 in
set_option maxHeartbeats 4000000 in
theorem c_L_has {l : Launch} {z : State} {a0 : Array Value} {D : va_G} {ca : kca} (X : kcx l z a0 D ca) {A : kA} {σ : ks} {t : Nat} (I : iv t σ) (ht : t + 25 ≤ 100000) {x key : Int32} {ou : Nat} {g : Nat → Int64} (ho : a_ow A ou = 0) (hoz : z.heap.size ≤ ou) : yy_M l z y_L_has (.codeWith y_L_has b_L_has 5 (some .int) [(0, 17, 20, 21), (0, 17, 24, 23)]) ({ frames := 9, cells := 1, slots := 6, locals := 147 }) [.ref (a_k A), .int x, .int key, .ref ou] (fun H => ck_at D ca z A σ H ∧ lo_at D ca ou g H) (l_p D ca z A ou [e_io, e_uo] l_boo (sp_has σ x key)) := by
  refine yy_bodyW (by decide) (Nat.le_of_ble_eq_true rfl) (fun b H F hS hP hH => ?_)
  obtain ⟨hP, hO⟩ := hP
  have hoH : ou < H.size := va_at.lt hO
  refine yy_aload_n F d_L_has_0 (n := 1) rfl 3 rfl ?_
  refine yy_iconst (v := 0) F d_L_has_1 (n := 2) rfl rfl ?_
  refine yy_aload_n F d_L_has_2 (n := 3) rfl 0 rfl ?_
  refine yy_iload_n F d_L_has_3 (n := 4) rfl 1 rfl ?_
  refine yy_iload_n F d_L_has_4 (n := 5) rfl 2 rfl ?_
  refine yy_call F hS (c_K_has (x := x) (key := key) X I) (yy_Bc F X.1 q_664 q_1) (yy_invV (nA := 2) (C := R_K) (bytes := b_K_has) (maxL := 3) (retY := (some .boolean)) F X.1 q_661 q_662 q_663 q_664 ⟨by decide, by decide, by decide +kernel⟩ (yy_recv F.N X.2.1 (ci := 5) rfl hP.k) rfl d_L_has_5) d_L_has_5 (n := 8) rfl (by simp [Value.category]) ⟨by decide, by decide⟩ ⟨by decide, by decide⟩ hP (fun v1 H1 locs1 hq S1 => ?_) (fun E q ce H1 locs1 hq S1 hce hv1 hcl => ?_)
  · obtain ⟨ho9, ⟨A9, P1, hx⟩, hk⟩ := hq
    cases hr : (sp_has σ x key).1 with
    | some E =>
      rw [hr] at ho9
      cases ho9
    | none =>
      rw [hr] at ho9
      cases ho9
      have O1 : lo_at D ca ou g H1 := va_at.kept hO (hk.2 ou hoH ho)
      show yy_Y b H1 locs1 (0 + 1, 0 + 6) 8 [(0, .ref (a_k A)), (1, .int x), (2, .int key), (3, .ref ou)] [.int (sp_has σ x key).2.1, .int 0, .ref ou]
      refine yy_if_eq (tgt := 15) F d_L_has_8 (n := 11) rfl (by decide) (fun h0 => ?_) (fun h0 => ?_)
      · refine yy_lconst (v := 0) F d_L_has_15 (n := 16) rfl rfl ?_
        refine yy_last F X.2.1 3 rfl S1 hoz O1 (i := 0) (vp_in_nI (n := 0) (by decide) (by decide)) d_L_has_16 (n := 17) rfl (fun H2 locs2 O2 z2 f2 S2 => ?_)
        refine yy_goto (tgt := 28) F d_L_has_17 (by decide) ?_
        refine yy_iconst (v := 0) F d_L_has_28 (n := 29) rfl rfl ?_
        exact yy_iret F S2 ⟨by decide, by decide⟩ rfl d_L_has_29 (l_end (by rw [hr]; rfl) P1 hx hk ho hoH O2 (fun _ => by show vp_updL g _ _ _ = _; rw [h0]; rfl) z2 f2)
      · refine yy_lconst (v := 1) F d_L_has_11 (n := 12) rfl rfl ?_
        refine yy_goto (tgt := 16) F d_L_has_12 (by decide) ?_
        refine yy_last F X.2.1 3 rfl S1 hoz O1 (i := 0) (vp_in_nI (n := 0) (by decide) (by decide)) d_L_has_16 (n := 17) rfl (fun H2 locs2 O2 z2 f2 S2 => ?_)
        refine yy_goto (tgt := 28) F d_L_has_17 (by decide) ?_
        refine yy_iconst (v := 0) F d_L_has_28 (n := 29) rfl rfl ?_
        exact yy_iret F S2 ⟨by decide, by decide⟩ rfl d_L_has_29 (l_end (by rw [hr]; rfl) P1 hx hk ho hoH O2 (fun _ => by show vp_updL g _ _ _ = _; rw [if_neg h0]; rfl) z2 f2)
  · obtain ⟨ho9, ⟨A9, P1, hx⟩, hk⟩ := hq
    cases hr : (sp_has σ x key).1 with
    | none =>
      rw [hr] at ho9
      cases ho9
    | some E9 =>
      rw [hr] at ho9
      cases ho9
      have O1 : lo_at D ca ou g H1 := va_at.kept hO (hk.2 ou hoH ho)
      have hin := ex_has_ σ x key _ hr
      simp only [List.mem_cons, List.not_mem_nil, or_false] at hin
      rcases hin with rfl | rfl
      · refine yy_catch F X.1 (E := e_io) (nm := e_io) hce hv1 hcl (pre := []) (fr := 0) (to := 17) (hp := 20) (ct := 21) (rest := [(0, 17, 24, 23)]) rfl (fun y hy => nomatch hy) ⟨by decide, by decide⟩ (by decide) q_227 q_240 ?_
        refine yy_astore (lv' := [(4, .ref q), (0, .ref (a_k A)), (1, .int x), (2, .int key), (3, .ref ou)]) F d_L_has_20 (n := 22) rfl (by decide) rfl ?_
        refine yy_iconst (v := 1) F d_L_has_22 (n := 23) rfl rfl ?_
        exact yy_iret F S1 ⟨by decide, by decide⟩ rfl d_L_has_23 (l_end (by rw [hr]; rfl) P1 hx hk ho hoH O1 (fun h => by rw [hr] at h; cases h) rfl (fun _ _ => rfl))
      · refine yy_catch F X.1 (E := e_uo) (nm := e_uo) hce hv1 hcl (pre := [(0, 17, 20, 21)]) (fr := 0) (to := 17) (hp := 24) (ct := 23) (rest := []) rfl (by
          intro y hy
          rw [List.mem_singleton] at hy
          subst hy
          exact ⟨by decide, _, q_227, nc_uo_io X⟩) ⟨by decide, by decide⟩ (by decide) q_228 q_273 ?_
        refine yy_astore (lv' := [(4, .ref q), (0, .ref (a_k A)), (1, .int x), (2, .int key), (3, .ref ou)]) F d_L_has_24 (n := 26) rfl (by decide) rfl ?_
        refine yy_iconst (v := 2) F d_L_has_26 (n := 27) rfl rfl ?_
        exact yy_iret F S1 ⟨by decide, by decide⟩ rfl d_L_has_27 (l_end (by rw [hr]; rfl) P1 hx hk ho hoH O1 (fun h => by rw [hr] at h; cases h) rfl (fun _ _ => rfl))
set_option maxRecDepth 100000 in
set_option maxHeartbeats 4000000 in
theorem c_L_value {l : Launch} {z : State} {a0 : Array Value} {D : va_G} {ca : kca} (X : kcx l z a0 D ca) {A : kA} {σ : ks} {t : Nat} (I : iv t σ) (ht : t + 25 ≤ 100000) {x key : Int32} {ou : Nat} {g : Nat → Int64} (ho : a_ow A ou = 0) (hoz : z.heap.size ≤ ou) : yy_M l z y_L_value (.codeWith y_L_value b_L_value 5 (some .int) [(0, 10, 13, 21), (0, 10, 17, 23), (0, 10, 21, 37)]) ({ frames := 9, cells := 1, slots := 6, locals := 150 }) [.ref (a_k A), .int x, .int key, .ref ou] (fun H => ck_at D ca z A σ H ∧ lo_at D ca ou g H) (l_p D ca z A ou [e_io, e_uo, e_ns] l_int (sp_value σ x key)) := by
  refine yy_bodyW (by decide) (Nat.le_of_ble_eq_true rfl) (fun b H F hS hP hH => ?_)
  obtain ⟨hP, hO⟩ := hP
  have hoH : ou < H.size := va_at.lt hO
  refine yy_aload_n F d_L_value_0 (n := 1) rfl 3 rfl ?_
  refine yy_iconst (v := 0) F d_L_value_1 (n := 2) rfl rfl ?_
  refine yy_aload_n F d_L_value_2 (n := 3) rfl 0 rfl ?_
  refine yy_iload_n F d_L_value_3 (n := 4) rfl 1 rfl ?_
  refine yy_iload_n F d_L_value_4 (n := 5) rfl 2 rfl ?_
  refine yy_call F hS (c_K_value (x := x) (key := key) X I) (yy_Bc F X.1 q_671 q_1) (yy_invV (nA := 2) (C := R_K) (bytes := b_K_value) (maxL := 6) (retY := (some .int)) F X.1 q_668 q_669 q_670 q_671 ⟨by decide, by decide, by decide +kernel⟩ (yy_recv F.N X.2.1 (ci := 5) rfl hP.k) rfl d_L_value_5) d_L_value_5 (n := 8) rfl (by simp [Value.category]) ⟨by decide, by decide⟩ ⟨by decide, by decide⟩ hP (fun v1 H1 locs1 hq S1 => ?_) (fun E q ce H1 locs1 hq S1 hce hv1 hcl => ?_)
  · obtain ⟨ho9, ⟨A9, P1, hx⟩, hk⟩ := hq
    cases hr : (sp_value σ x key).1 with
    | some E =>
      rw [hr] at ho9
      cases ho9
    | none =>
      rw [hr] at ho9
      cases ho9
      have O1 : lo_at D ca ou g H1 := va_at.kept hO (hk.2 ou hoH ho)
      show yy_Y b H1 locs1 (0 + 1, 0 + 6) 8 [(0, .ref (a_k A)), (1, .int x), (2, .int key), (3, .ref ou)] [.int (sp_value σ x key).2.1, .int 0, .ref ou]
      refine yy_i2l F d_L_value_8 (n := 9) rfl rfl ?_
      refine yy_last F X.2.1 3 rfl S1 hoz O1 (i := 0) (vp_in_nI (n := 0) (by decide) (by decide)) d_L_value_9 (n := 10) rfl (fun H2 locs2 O2 z2 f2 S2 => ?_)
      refine yy_goto (tgt := 25) F d_L_value_10 (by decide) ?_
      refine yy_iconst (v := 0) F d_L_value_25 (n := 26) rfl rfl ?_
      exact yy_iret F S2 ⟨by decide, by decide⟩ rfl d_L_value_26 (l_end (by rw [hr]; rfl) P1 hx hk ho hoH O2 (fun _ => rfl) z2 f2)
  · obtain ⟨ho9, ⟨A9, P1, hx⟩, hk⟩ := hq
    cases hr : (sp_value σ x key).1 with
    | none =>
      rw [hr] at ho9
      cases ho9
    | some E9 =>
      rw [hr] at ho9
      cases ho9
      have O1 : lo_at D ca ou g H1 := va_at.kept hO (hk.2 ou hoH ho)
      have hin := ex_value_ σ x key _ hr
      simp only [List.mem_cons, List.not_mem_nil, or_false] at hin
      rcases hin with rfl | rfl | rfl
      · refine yy_catch F X.1 (E := e_io) (nm := e_io) hce hv1 hcl (pre := []) (fr := 0) (to := 10) (hp := 13) (ct := 21) (rest := [(0, 10, 17, 23), (0, 10, 21, 37)]) rfl (fun y hy => nomatch hy) ⟨by decide, by decide⟩ (by decide) q_227 q_240 ?_
        refine yy_astore (lv' := [(4, .ref q), (0, .ref (a_k A)), (1, .int x), (2, .int key), (3, .ref ou)]) F d_L_value_13 (n := 15) rfl (by decide) rfl ?_
        refine yy_iconst (v := 1) F d_L_value_15 (n := 16) rfl rfl ?_
        exact yy_iret F S1 ⟨by decide, by decide⟩ rfl d_L_value_16 (l_end (by rw [hr]; rfl) P1 hx hk ho hoH O1 (fun h => by rw [hr] at h; cases h) rfl (fun _ _ => rfl))
      · refine yy_catch F X.1 (E := e_uo) (nm := e_uo) hce hv1 hcl (pre := [(0, 10, 13, 21)]) (fr := 0) (to := 10) (hp := 17) (ct := 23) (rest := [(0, 10, 21, 37)]) rfl (by
          intro y hy
          rw [List.mem_singleton] at hy
          subst hy
          exact ⟨by decide, _, q_227, nc_uo_io X⟩) ⟨by decide, by decide⟩ (by decide) q_228 q_273 ?_
        refine yy_astore (lv' := [(4, .ref q), (0, .ref (a_k A)), (1, .int x), (2, .int key), (3, .ref ou)]) F d_L_value_17 (n := 19) rfl (by decide) rfl ?_
        refine yy_iconst (v := 2) F d_L_value_19 (n := 20) rfl rfl ?_
        exact yy_iret F S1 ⟨by decide, by decide⟩ rfl d_L_value_20 (l_end (by rw [hr]; rfl) P1 hx hk ho hoH O1 (fun h => by rw [hr] at h; cases h) rfl (fun _ _ => rfl))
      · refine yy_catch F X.1 (E := e_ns) (nm := e_ns) hce hv1 hcl (pre := [(0, 10, 13, 21), (0, 10, 17, 23)]) (fr := 0) (to := 10) (hp := 21) (ct := 37) (rest := []) rfl (by
          intro y hy
          simp only [List.mem_cons, List.not_mem_nil, or_false] at hy
          rcases hy with rfl | rfl
          · exact ⟨by decide, _, q_227, nc_ns_io X⟩
          · exact ⟨by decide, _, q_228, nc_ns_uo X⟩) ⟨by decide, by decide⟩ (by decide) q_410 q_432 ?_
        refine yy_astore (lv' := [(4, .ref q), (0, .ref (a_k A)), (1, .int x), (2, .int key), (3, .ref ou)]) F d_L_value_21 (n := 23) rfl (by decide) rfl ?_
        refine yy_iconst (v := 3) F d_L_value_23 (n := 24) rfl rfl ?_
        exact yy_iret F S1 ⟨by decide, by decide⟩ rfl d_L_value_24 (l_end (by rw [hr]; rfl) P1 hx hk ho hoH O1 (fun h => by rw [hr] at h; cases h) rfl (fun _ _ => rfl))
set_option maxRecDepth 100000 in
set_option maxHeartbeats 4000000 in
theorem c_L_drop {l : Launch} {z : State} {a0 : Array Value} {D : va_G} {ca : kca} (X : kcx l z a0 D ca) {A : kA} {σ : ks} {t : Nat} (I : iv t σ) (ht : t + 25 ≤ 100000) {x key : Int32} {ou : Nat} {g : Nat → Int64} (ho : a_ow A ou = 0) (hoz : z.heap.size ≤ ou) : yy_M l z y_L_drop (.codeWith y_L_drop b_L_drop 5 (some .int) [(0, 10, 13, 21), (0, 10, 17, 23), (0, 10, 21, 37)]) ({ frames := 9, cells := 1, slots := 6, locals := 150 }) [.ref (a_k A), .int x, .int key, .ref ou] (fun H => ck_at D ca z A σ H ∧ lo_at D ca ou g H) (l_p D ca z A ou [e_io, e_uo, e_ns] l_int (sp_drop σ x key)) := by
  refine yy_bodyW (by decide) (Nat.le_of_ble_eq_true rfl) (fun b H F hS hP hH => ?_)
  obtain ⟨hP, hO⟩ := hP
  have hoH : ou < H.size := va_at.lt hO
  refine yy_aload_n F d_L_drop_0 (n := 1) rfl 3 rfl ?_
  refine yy_iconst (v := 0) F d_L_drop_1 (n := 2) rfl rfl ?_
  refine yy_aload_n F d_L_drop_2 (n := 3) rfl 0 rfl ?_
  refine yy_iload_n F d_L_drop_3 (n := 4) rfl 1 rfl ?_
  refine yy_iload_n F d_L_drop_4 (n := 5) rfl 2 rfl ?_
  refine yy_call F hS (c_K_drop (x := x) (key := key) X I) (yy_Bc F X.1 q_679 q_1) (yy_invV (nA := 2) (C := R_K) (bytes := b_K_drop) (maxL := 6) (retY := (some .int)) F X.1 q_676 q_677 q_678 q_679 ⟨by decide, by decide, by decide +kernel⟩ (yy_recv F.N X.2.1 (ci := 5) rfl hP.k) rfl d_L_drop_5) d_L_drop_5 (n := 8) rfl (by simp [Value.category]) ⟨by decide, by decide⟩ ⟨by decide, by decide⟩ hP (fun v1 H1 locs1 hq S1 => ?_) (fun E q ce H1 locs1 hq S1 hce hv1 hcl => ?_)
  · obtain ⟨ho9, ⟨A9, P1, hx⟩, hk⟩ := hq
    cases hr : (sp_drop σ x key).1 with
    | some E =>
      rw [hr] at ho9
      cases ho9
    | none =>
      rw [hr] at ho9
      cases ho9
      have O1 : lo_at D ca ou g H1 := va_at.kept hO (hk.2 ou hoH ho)
      show yy_Y b H1 locs1 (0 + 1, 0 + 6) 8 [(0, .ref (a_k A)), (1, .int x), (2, .int key), (3, .ref ou)] [.int (sp_drop σ x key).2.1, .int 0, .ref ou]
      refine yy_i2l F d_L_drop_8 (n := 9) rfl rfl ?_
      refine yy_last F X.2.1 3 rfl S1 hoz O1 (i := 0) (vp_in_nI (n := 0) (by decide) (by decide)) d_L_drop_9 (n := 10) rfl (fun H2 locs2 O2 z2 f2 S2 => ?_)
      refine yy_goto (tgt := 25) F d_L_drop_10 (by decide) ?_
      refine yy_iconst (v := 0) F d_L_drop_25 (n := 26) rfl rfl ?_
      exact yy_iret F S2 ⟨by decide, by decide⟩ rfl d_L_drop_26 (l_end (by rw [hr]; rfl) P1 hx hk ho hoH O2 (fun _ => rfl) z2 f2)
  · obtain ⟨ho9, ⟨A9, P1, hx⟩, hk⟩ := hq
    cases hr : (sp_drop σ x key).1 with
    | none =>
      rw [hr] at ho9
      cases ho9
    | some E9 =>
      rw [hr] at ho9
      cases ho9
      have O1 : lo_at D ca ou g H1 := va_at.kept hO (hk.2 ou hoH ho)
      have hin := ex_drop_ σ x key _ hr
      simp only [List.mem_cons, List.not_mem_nil, or_false] at hin
      rcases hin with rfl | rfl | rfl
      · refine yy_catch F X.1 (E := e_io) (nm := e_io) hce hv1 hcl (pre := []) (fr := 0) (to := 10) (hp := 13) (ct := 21) (rest := [(0, 10, 17, 23), (0, 10, 21, 37)]) rfl (fun y hy => nomatch hy) ⟨by decide, by decide⟩ (by decide) q_227 q_240 ?_
        refine yy_astore (lv' := [(4, .ref q), (0, .ref (a_k A)), (1, .int x), (2, .int key), (3, .ref ou)]) F d_L_drop_13 (n := 15) rfl (by decide) rfl ?_
        refine yy_iconst (v := 1) F d_L_drop_15 (n := 16) rfl rfl ?_
        exact yy_iret F S1 ⟨by decide, by decide⟩ rfl d_L_drop_16 (l_end (by rw [hr]; rfl) P1 hx hk ho hoH O1 (fun h => by rw [hr] at h; cases h) rfl (fun _ _ => rfl))
      · refine yy_catch F X.1 (E := e_uo) (nm := e_uo) hce hv1 hcl (pre := [(0, 10, 13, 21)]) (fr := 0) (to := 10) (hp := 17) (ct := 23) (rest := [(0, 10, 21, 37)]) rfl (by
          intro y hy
          rw [List.mem_singleton] at hy
          subst hy
          exact ⟨by decide, _, q_227, nc_uo_io X⟩) ⟨by decide, by decide⟩ (by decide) q_228 q_273 ?_
        refine yy_astore (lv' := [(4, .ref q), (0, .ref (a_k A)), (1, .int x), (2, .int key), (3, .ref ou)]) F d_L_drop_17 (n := 19) rfl (by decide) rfl ?_
        refine yy_iconst (v := 2) F d_L_drop_19 (n := 20) rfl rfl ?_
        exact yy_iret F S1 ⟨by decide, by decide⟩ rfl d_L_drop_20 (l_end (by rw [hr]; rfl) P1 hx hk ho hoH O1 (fun h => by rw [hr] at h; cases h) rfl (fun _ _ => rfl))
      · refine yy_catch F X.1 (E := e_ns) (nm := e_ns) hce hv1 hcl (pre := [(0, 10, 13, 21), (0, 10, 17, 23)]) (fr := 0) (to := 10) (hp := 21) (ct := 37) (rest := []) rfl (by
          intro y hy
          simp only [List.mem_cons, List.not_mem_nil, or_false] at hy
          rcases hy with rfl | rfl
          · exact ⟨by decide, _, q_227, nc_ns_io X⟩
          · exact ⟨by decide, _, q_228, nc_ns_uo X⟩) ⟨by decide, by decide⟩ (by decide) q_410 q_432 ?_
        refine yy_astore (lv' := [(4, .ref q), (0, .ref (a_k A)), (1, .int x), (2, .int key), (3, .ref ou)]) F d_L_drop_21 (n := 23) rfl (by decide) rfl ?_
        refine yy_iconst (v := 3) F d_L_drop_23 (n := 24) rfl rfl ?_
        exact yy_iret F S1 ⟨by decide, by decide⟩ rfl d_L_drop_24 (l_end (by rw [hr]; rfl) P1 hx hk ho hoH O1 (fun h => by rw [hr] at h; cases h) rfl (fun _ _ => rfl))
set_option maxRecDepth 100000 in
set_option maxHeartbeats 4000000 in
theorem c_L_near {l : Launch} {z : State} {a0 : Array Value} {D : va_G} {ca : kca} (X : kcx l z a0 D ca) {A : kA} {σ : ks} {t : Nat} (I : iv t σ) (ht : t + 25 ≤ 100000) {x key how : Int32} {ou : Nat} {g : Nat → Int64} (ho : a_ow A ou = 0) (hoz : z.heap.size ≤ ou) : yy_M l z y_L_near (.codeWith y_L_near b_L_near 6 (some .int) [(0, 12, 15, 21), (0, 12, 19, 23), (0, 12, 23, 13), (0, 12, 27, 37)]) ({ frames := 8, cells := 1, slots := 6, locals := 130 }) [.ref (a_k A), .int x, .int key, .int how, .ref ou] (fun H => ck_at D ca z A σ H ∧ lo_at D ca ou g H) (l_p D ca z A ou [e_io, e_uo, e_ia, e_ns] l_int (sp_near σ x key how)) := by
  refine yy_bodyW (by decide) (Nat.le_of_ble_eq_true rfl) (fun b H F hS hP hH => ?_)
  obtain ⟨hP, hO⟩ := hP
  have hoH : ou < H.size := va_at.lt hO
  refine yy_aload F d_L_near_0 (n := 2) rfl 4 rfl ?_
  refine yy_iconst (v := 0) F d_L_near_2 (n := 3) rfl rfl ?_
  refine yy_aload_n F d_L_near_3 (n := 4) rfl 0 rfl ?_
  refine yy_iload_n F d_L_near_4 (n := 5) rfl 1 rfl ?_
  refine yy_iload_n F d_L_near_5 (n := 6) rfl 2 rfl ?_
  refine yy_iload_n F d_L_near_6 (n := 7) rfl 3 rfl ?_
  refine yy_call F hS (c_K_near (x := x) (key := key) (how := how) X I) (yy_Bc F X.1 q_686 q_1) (yy_invV (nA := 3) (C := R_K) (bytes := b_K_near) (maxL := 8) (retY := (some .int)) F X.1 q_683 q_684 q_685 q_686 ⟨by decide, by decide, by decide +kernel⟩ (yy_recv F.N X.2.1 (ci := 5) rfl hP.k) rfl d_L_near_7) d_L_near_7 (n := 10) rfl (by simp [Value.category]) ⟨by decide, by decide⟩ ⟨by decide, by decide⟩ hP (fun v1 H1 locs1 hq S1 => ?_) (fun E q ce H1 locs1 hq S1 hce hv1 hcl => ?_)
  · obtain ⟨ho9, ⟨A9, P1, hx⟩, hk⟩ := hq
    cases hr : (sp_near σ x key how).1 with
    | some E =>
      rw [hr] at ho9
      cases ho9
    | none =>
      rw [hr] at ho9
      cases ho9
      have O1 : lo_at D ca ou g H1 := va_at.kept hO (hk.2 ou hoH ho)
      show yy_Y b H1 locs1 (0 + 1, 0 + 6) 10 [(0, .ref (a_k A)), (1, .int x), (2, .int key), (3, .int how), (4, .ref ou)] [.int (sp_near σ x key how).2.1, .int 0, .ref ou]
      refine yy_i2l F d_L_near_10 (n := 11) rfl rfl ?_
      refine yy_last F X.2.1 3 rfl S1 hoz O1 (i := 0) (vp_in_nI (n := 0) (by decide) (by decide)) d_L_near_11 (n := 12) rfl (fun H2 locs2 O2 z2 f2 S2 => ?_)
      refine yy_goto (tgt := 31) F d_L_near_12 (by decide) ?_
      refine yy_iconst (v := 0) F d_L_near_31 (n := 32) rfl rfl ?_
      exact yy_iret F S2 ⟨by decide, by decide⟩ rfl d_L_near_32 (l_end (by rw [hr]; rfl) P1 hx hk ho hoH O2 (fun _ => rfl) z2 f2)
  · obtain ⟨ho9, ⟨A9, P1, hx⟩, hk⟩ := hq
    cases hr : (sp_near σ x key how).1 with
    | none =>
      rw [hr] at ho9
      cases ho9
    | some E9 =>
      rw [hr] at ho9
      cases ho9
      have O1 : lo_at D ca ou g H1 := va_at.kept hO (hk.2 ou hoH ho)
      have hin := ex_near_ σ x key how _ hr
      simp only [List.mem_cons, List.not_mem_nil, or_false] at hin
      rcases hin with rfl | rfl | rfl | rfl
      · refine yy_catch F X.1 (E := e_io) (nm := e_io) hce hv1 hcl (pre := []) (fr := 0) (to := 12) (hp := 15) (ct := 21) (rest := [(0, 12, 19, 23), (0, 12, 23, 13), (0, 12, 27, 37)]) rfl (fun y hy => nomatch hy) ⟨by decide, by decide⟩ (by decide) q_227 q_240 ?_
        refine yy_astore (lv' := [(5, .ref q), (0, .ref (a_k A)), (1, .int x), (2, .int key), (3, .int how), (4, .ref ou)]) F d_L_near_15 (n := 17) rfl (by decide) rfl ?_
        refine yy_iconst (v := 1) F d_L_near_17 (n := 18) rfl rfl ?_
        exact yy_iret F S1 ⟨by decide, by decide⟩ rfl d_L_near_18 (l_end (by rw [hr]; rfl) P1 hx hk ho hoH O1 (fun h => by rw [hr] at h; cases h) rfl (fun _ _ => rfl))
      · refine yy_catch F X.1 (E := e_uo) (nm := e_uo) hce hv1 hcl (pre := [(0, 12, 15, 21)]) (fr := 0) (to := 12) (hp := 19) (ct := 23) (rest := [(0, 12, 23, 13), (0, 12, 27, 37)]) rfl (by
          intro y hy
          rw [List.mem_singleton] at hy
          subst hy
          exact ⟨by decide, _, q_227, nc_uo_io X⟩) ⟨by decide, by decide⟩ (by decide) q_228 q_273 ?_
        refine yy_astore (lv' := [(5, .ref q), (0, .ref (a_k A)), (1, .int x), (2, .int key), (3, .int how), (4, .ref ou)]) F d_L_near_19 (n := 21) rfl (by decide) rfl ?_
        refine yy_iconst (v := 2) F d_L_near_21 (n := 22) rfl rfl ?_
        exact yy_iret F S1 ⟨by decide, by decide⟩ rfl d_L_near_22 (l_end (by rw [hr]; rfl) P1 hx hk ho hoH O1 (fun h => by rw [hr] at h; cases h) rfl (fun _ _ => rfl))
      · refine yy_catch F X.1 (E := e_ia) (nm := e_ia) hce hv1 hcl (pre := [(0, 12, 15, 21), (0, 12, 19, 23)]) (fr := 0) (to := 12) (hp := 23) (ct := 13) (rest := [(0, 12, 27, 37)]) rfl (by
          intro y hy
          simp only [List.mem_cons, List.not_mem_nil, or_false] at hy
          rcases hy with rfl | rfl
          · exact ⟨by decide, _, q_227, nc_ia_io X⟩
          · exact ⟨by decide, _, q_228, nc_ia_uo X⟩) ⟨by decide, by decide⟩ (by decide) q_64 q_75 ?_
        refine yy_astore (lv' := [(5, .ref q), (0, .ref (a_k A)), (1, .int x), (2, .int key), (3, .int how), (4, .ref ou)]) F d_L_near_23 (n := 25) rfl (by decide) rfl ?_
        refine yy_iconst (v := 3) F d_L_near_25 (n := 26) rfl rfl ?_
        exact yy_iret F S1 ⟨by decide, by decide⟩ rfl d_L_near_26 (l_end (by rw [hr]; rfl) P1 hx hk ho hoH O1 (fun h => by rw [hr] at h; cases h) rfl (fun _ _ => rfl))
      · refine yy_catch F X.1 (E := e_ns) (nm := e_ns) hce hv1 hcl (pre := [(0, 12, 15, 21), (0, 12, 19, 23), (0, 12, 23, 13)]) (fr := 0) (to := 12) (hp := 27) (ct := 37) (rest := []) rfl (by
          intro y hy
          simp only [List.mem_cons, List.not_mem_nil, or_false] at hy
          rcases hy with rfl | rfl | rfl
          · exact ⟨by decide, _, q_227, nc_ns_io X⟩
          · exact ⟨by decide, _, q_228, nc_ns_uo X⟩
          · exact ⟨by decide, _, q_64, nc_ns_ia X⟩) ⟨by decide, by decide⟩ (by decide) q_410 q_432 ?_
        refine yy_astore (lv' := [(5, .ref q), (0, .ref (a_k A)), (1, .int x), (2, .int key), (3, .int how), (4, .ref ou)]) F d_L_near_27 (n := 29) rfl (by decide) rfl ?_
        refine yy_iconst (v := 4) F d_L_near_29 (n := 30) rfl rfl ?_
        exact yy_iret F S1 ⟨by decide, by decide⟩ rfl d_L_near_30 (l_end (by rw [hr]; rfl) P1 hx hk ho hoH O1 (fun h => by rw [hr] at h; cases h) rfl (fun _ _ => rfl))
set_option maxRecDepth 100000 in
set_option maxHeartbeats 4000000 in
theorem c_L_room {l : Launch} {z : State} {a0 : Array Value} {D : va_G} {ca : kca} (X : kcx l z a0 D ca) {A : kA} {σ : ks} {t : Nat} (I : iv t σ) (ht : t + 25 ≤ 100000) {x : Int32} {ou : Nat} {g : Nat → Int64} (ho : a_ow A ou = 0) (hoz : z.heap.size ≤ ou) : yy_M l z y_L_room (.codeWith y_L_room b_L_room 4 (some .int) [(0, 9, 12, 21), (0, 9, 15, 23)]) ({ frames := 8, cells := 1, slots := 6, locals := 125 }) [.ref (a_k A), .int x, .ref ou] (fun H => ck_at D ca z A σ H ∧ lo_at D ca ou g H) (l_p D ca z A ou [e_io, e_uo] l_int (sp_room σ x)) := by
  refine yy_bodyW (by decide) (Nat.le_of_ble_eq_true rfl) (fun b H F hS hP hH => ?_)
  obtain ⟨hP, hO⟩ := hP
  have hoH : ou < H.size := va_at.lt hO
  refine yy_aload_n F d_L_room_0 (n := 1) rfl 2 rfl ?_
  refine yy_iconst (v := 0) F d_L_room_1 (n := 2) rfl rfl ?_
  refine yy_aload_n F d_L_room_2 (n := 3) rfl 0 rfl ?_
  refine yy_iload_n F d_L_room_3 (n := 4) rfl 1 rfl ?_
  refine yy_call F hS (c_K_room (x := x) X I) (yy_Bc F X.1 q_703 q_1) (yy_invV (nA := 1) (C := R_K) (bytes := b_K_room) (maxL := 3) (retY := (some .int)) F X.1 q_700 q_701 q_702 q_703 ⟨by decide, by decide, by decide +kernel⟩ (yy_recv F.N X.2.1 (ci := 5) rfl hP.k) rfl d_L_room_4) d_L_room_4 (n := 7) rfl (by simp [Value.category]) ⟨by decide, by decide⟩ ⟨by decide, by decide⟩ hP (fun v1 H1 locs1 hq S1 => ?_) (fun E q ce H1 locs1 hq S1 hce hv1 hcl => ?_)
  · obtain ⟨ho9, ⟨A9, P1, hx⟩, hk⟩ := hq
    cases hr : (sp_room σ x).1 with
    | some E =>
      rw [hr] at ho9
      cases ho9
    | none =>
      rw [hr] at ho9
      cases ho9
      have O1 : lo_at D ca ou g H1 := va_at.kept hO (hk.2 ou hoH ho)
      show yy_Y b H1 locs1 (0 + 1, 0 + 6) 7 [(0, .ref (a_k A)), (1, .int x), (2, .ref ou)] [.int (sp_room σ x).2.1, .int 0, .ref ou]
      refine yy_i2l F d_L_room_7 (n := 8) rfl rfl ?_
      refine yy_last F X.2.1 3 rfl S1 hoz O1 (i := 0) (vp_in_nI (n := 0) (by decide) (by decide)) d_L_room_8 (n := 9) rfl (fun H2 locs2 O2 z2 f2 S2 => ?_)
      refine yy_goto (tgt := 18) F d_L_room_9 (by decide) ?_
      refine yy_iconst (v := 0) F d_L_room_18 (n := 19) rfl rfl ?_
      exact yy_iret F S2 ⟨by decide, by decide⟩ rfl d_L_room_19 (l_end (by rw [hr]; rfl) P1 hx hk ho hoH O2 (fun _ => rfl) z2 f2)
  · obtain ⟨ho9, ⟨A9, P1, hx⟩, hk⟩ := hq
    cases hr : (sp_room σ x).1 with
    | none =>
      rw [hr] at ho9
      cases ho9
    | some E9 =>
      rw [hr] at ho9
      cases ho9
      have O1 : lo_at D ca ou g H1 := va_at.kept hO (hk.2 ou hoH ho)
      have hin := ex_room_ σ x _ hr
      simp only [List.mem_cons, List.not_mem_nil, or_false] at hin
      rcases hin with rfl | rfl
      · refine yy_catch F X.1 (E := e_io) (nm := e_io) hce hv1 hcl (pre := []) (fr := 0) (to := 9) (hp := 12) (ct := 21) (rest := [(0, 9, 15, 23)]) rfl (fun y hy => nomatch hy) ⟨by decide, by decide⟩ (by decide) q_227 q_240 ?_
        refine yy_astore_n (lv' := [(3, .ref q), (0, .ref (a_k A)), (1, .int x), (2, .ref ou)]) F d_L_room_12 (n := 13) rfl (by decide) rfl ?_
        refine yy_iconst (v := 1) F d_L_room_13 (n := 14) rfl rfl ?_
        exact yy_iret F S1 ⟨by decide, by decide⟩ rfl d_L_room_14 (l_end (by rw [hr]; rfl) P1 hx hk ho hoH O1 (fun h => by rw [hr] at h; cases h) rfl (fun _ _ => rfl))
      · refine yy_catch F X.1 (E := e_uo) (nm := e_uo) hce hv1 hcl (pre := [(0, 9, 12, 21)]) (fr := 0) (to := 9) (hp := 15) (ct := 23) (rest := []) rfl (by
          intro y hy
          rw [List.mem_singleton] at hy
          subst hy
          exact ⟨by decide, _, q_227, nc_uo_io X⟩) ⟨by decide, by decide⟩ (by decide) q_228 q_273 ?_
        refine yy_astore_n (lv' := [(3, .ref q), (0, .ref (a_k A)), (1, .int x), (2, .ref ou)]) F d_L_room_15 (n := 16) rfl (by decide) rfl ?_
        refine yy_iconst (v := 2) F d_L_room_16 (n := 17) rfl rfl ?_
        exact yy_iret F S1 ⟨by decide, by decide⟩ rfl d_L_room_17 (l_end (by rw [hr]; rfl) P1 hx hk ho hoH O1 (fun h => by rw [hr] at h; cases h) rfl (fun _ _ => rfl))
set_option maxRecDepth 100000 in
set_option maxHeartbeats 4000000 in
theorem c_L_bucket {l : Launch} {z : State} {a0 : Array Value} {D : va_G} {ca : kca} (X : kcx l z a0 D ca) {A : kA} {σ : ks} {t : Nat} (I : iv t σ) (ht : t + 25 ≤ 100000) {x key : Int32} {ou : Nat} {g : Nat → Int64} (ho : a_ow A ou = 0) (hoz : z.heap.size ≤ ou) : yy_M l z y_L_bucket (.codeWith y_L_bucket b_L_bucket 5 (some .int) [(0, 10, 13, 21), (0, 10, 17, 23)]) ({ frames := 8, cells := 1, slots := 6, locals := 126 }) [.ref (a_k A), .int x, .int key, .ref ou] (fun H => ck_at D ca z A σ H ∧ lo_at D ca ou g H) (l_p D ca z A ou [e_io, e_uo] l_int (sp_bucket σ x key)) := by
  refine yy_bodyW (by decide) (Nat.le_of_ble_eq_true rfl) (fun b H F hS hP hH => ?_)
  obtain ⟨hP, hO⟩ := hP
  have hoH : ou < H.size := va_at.lt hO
  refine yy_aload_n F d_L_bucket_0 (n := 1) rfl 3 rfl ?_
  refine yy_iconst (v := 0) F d_L_bucket_1 (n := 2) rfl rfl ?_
  refine yy_aload_n F d_L_bucket_2 (n := 3) rfl 0 rfl ?_
  refine yy_iload_n F d_L_bucket_3 (n := 4) rfl 1 rfl ?_
  refine yy_iload_n F d_L_bucket_4 (n := 5) rfl 2 rfl ?_
  refine yy_call F hS (c_K_bucket (x := x) (key := key) X I) (yy_Bc F X.1 q_711 q_1) (yy_invV (nA := 2) (C := R_K) (bytes := b_K_bucket) (maxL := 4) (retY := (some .int)) F X.1 q_708 q_709 q_710 q_711 ⟨by decide, by decide, by decide +kernel⟩ (yy_recv F.N X.2.1 (ci := 5) rfl hP.k) rfl d_L_bucket_5) d_L_bucket_5 (n := 8) rfl (by simp [Value.category]) ⟨by decide, by decide⟩ ⟨by decide, by decide⟩ hP (fun v1 H1 locs1 hq S1 => ?_) (fun E q ce H1 locs1 hq S1 hce hv1 hcl => ?_)
  · obtain ⟨ho9, ⟨A9, P1, hx⟩, hk⟩ := hq
    cases hr : (sp_bucket σ x key).1 with
    | some E =>
      rw [hr] at ho9
      cases ho9
    | none =>
      rw [hr] at ho9
      cases ho9
      have O1 : lo_at D ca ou g H1 := va_at.kept hO (hk.2 ou hoH ho)
      show yy_Y b H1 locs1 (0 + 1, 0 + 6) 8 [(0, .ref (a_k A)), (1, .int x), (2, .int key), (3, .ref ou)] [.int (sp_bucket σ x key).2.1, .int 0, .ref ou]
      refine yy_i2l F d_L_bucket_8 (n := 9) rfl rfl ?_
      refine yy_last F X.2.1 3 rfl S1 hoz O1 (i := 0) (vp_in_nI (n := 0) (by decide) (by decide)) d_L_bucket_9 (n := 10) rfl (fun H2 locs2 O2 z2 f2 S2 => ?_)
      refine yy_goto (tgt := 21) F d_L_bucket_10 (by decide) ?_
      refine yy_iconst (v := 0) F d_L_bucket_21 (n := 22) rfl rfl ?_
      exact yy_iret F S2 ⟨by decide, by decide⟩ rfl d_L_bucket_22 (l_end (by rw [hr]; rfl) P1 hx hk ho hoH O2 (fun _ => rfl) z2 f2)
  · obtain ⟨ho9, ⟨A9, P1, hx⟩, hk⟩ := hq
    cases hr : (sp_bucket σ x key).1 with
    | none =>
      rw [hr] at ho9
      cases ho9
    | some E9 =>
      rw [hr] at ho9
      cases ho9
      have O1 : lo_at D ca ou g H1 := va_at.kept hO (hk.2 ou hoH ho)
      have hin := ex_bucket_ σ x key _ hr
      simp only [List.mem_cons, List.not_mem_nil, or_false] at hin
      rcases hin with rfl | rfl
      · refine yy_catch F X.1 (E := e_io) (nm := e_io) hce hv1 hcl (pre := []) (fr := 0) (to := 10) (hp := 13) (ct := 21) (rest := [(0, 10, 17, 23)]) rfl (fun y hy => nomatch hy) ⟨by decide, by decide⟩ (by decide) q_227 q_240 ?_
        refine yy_astore (lv' := [(4, .ref q), (0, .ref (a_k A)), (1, .int x), (2, .int key), (3, .ref ou)]) F d_L_bucket_13 (n := 15) rfl (by decide) rfl ?_
        refine yy_iconst (v := 1) F d_L_bucket_15 (n := 16) rfl rfl ?_
        exact yy_iret F S1 ⟨by decide, by decide⟩ rfl d_L_bucket_16 (l_end (by rw [hr]; rfl) P1 hx hk ho hoH O1 (fun h => by rw [hr] at h; cases h) rfl (fun _ _ => rfl))
      · refine yy_catch F X.1 (E := e_uo) (nm := e_uo) hce hv1 hcl (pre := [(0, 10, 13, 21)]) (fr := 0) (to := 10) (hp := 17) (ct := 23) (rest := []) rfl (by
          intro y hy
          rw [List.mem_singleton] at hy
          subst hy
          exact ⟨by decide, _, q_227, nc_uo_io X⟩) ⟨by decide, by decide⟩ (by decide) q_228 q_273 ?_
        refine yy_astore (lv' := [(4, .ref q), (0, .ref (a_k A)), (1, .int x), (2, .int key), (3, .ref ou)]) F d_L_bucket_17 (n := 19) rfl (by decide) rfl ?_
        refine yy_iconst (v := 2) F d_L_bucket_19 (n := 20) rfl rfl ?_
        exact yy_iret F S1 ⟨by decide, by decide⟩ rfl d_L_bucket_20 (l_end (by rw [hr]; rfl) P1 hx hk ho hoH O1 (fun h => by rw [hr] at h; cases h) rfl (fun _ _ => rfl))
set_option maxRecDepth 100000 in
set_option maxHeartbeats 4000000 in
theorem c_L_sift {l : Launch} {z : State} {a0 : Array Value} {D : va_G} {ca : kca} (X : kcx l z a0 D ca) {A : kA} {σ : ks} {t : Nat} (I : iv t σ) (ht : t + 25 ≤ 100000) {x by_ rest : Int32} {ou : Nat} {g : Nat → Int64} (ho : a_ow A ou = 0) (hoz : z.heap.size ≤ ou) : yy_M l z y_L_sift (.codeWith y_L_sift b_L_sift 6 (some .int) [(0, 12, 15, 21), (0, 12, 19, 23), (0, 12, 23, 13), (0, 12, 27, 25)]) ({ frames := 8, cells := 1, slots := 6, locals := 135 }) [.ref (a_k A), .int x, .int by_, .int rest, .ref ou] (fun H => ck_at D ca z A σ H ∧ lo_at D ca ou g H) (l_p D ca z A ou [e_io, e_uo, e_ia, e_rt] l_int (sp_sift σ x by_ rest)) := by
  refine yy_bodyW (by decide) (Nat.le_of_ble_eq_true rfl) (fun b H F hS hP hH => ?_)
  obtain ⟨hP, hO⟩ := hP
  have hoH : ou < H.size := va_at.lt hO
  refine yy_aload F d_L_sift_0 (n := 2) rfl 4 rfl ?_
  refine yy_iconst (v := 0) F d_L_sift_2 (n := 3) rfl rfl ?_
  refine yy_aload_n F d_L_sift_3 (n := 4) rfl 0 rfl ?_
  refine yy_iload_n F d_L_sift_4 (n := 5) rfl 1 rfl ?_
  refine yy_iload_n F d_L_sift_5 (n := 6) rfl 2 rfl ?_
  refine yy_iload_n F d_L_sift_6 (n := 7) rfl 3 rfl ?_
  refine yy_call F hS (c_K_sift (x := x) (by_ := by_) (rest := rest) X I (by omega)) (yy_Bc F X.1 q_726 q_1) (yy_invV (nA := 3) (C := R_K) (bytes := b_K_sift) (maxL := 5) (retY := (some .int)) F X.1 q_723 q_724 q_725 q_726 ⟨by decide, by decide, by decide +kernel⟩ (yy_recv F.N X.2.1 (ci := 5) rfl hP.k) rfl d_L_sift_7) d_L_sift_7 (n := 10) rfl (by simp [Value.category]) ⟨by decide, by decide⟩ ⟨by decide, by decide⟩ hP (fun v1 H1 locs1 hq S1 => ?_) (fun E q ce H1 locs1 hq S1 hce hv1 hcl => ?_)
  · obtain ⟨ho9, ⟨A9, P1, hx⟩, hk⟩ := hq
    cases hr : (sp_sift σ x by_ rest).1 with
    | some E =>
      rw [hr] at ho9
      cases ho9
    | none =>
      rw [hr] at ho9
      cases ho9
      have O1 : lo_at D ca ou g H1 := va_at.kept hO (hk.2 ou hoH ho)
      show yy_Y b H1 locs1 (0 + 1, 0 + 6) 10 [(0, .ref (a_k A)), (1, .int x), (2, .int by_), (3, .int rest), (4, .ref ou)] [.int (sp_sift σ x by_ rest).2.1, .int 0, .ref ou]
      refine yy_i2l F d_L_sift_10 (n := 11) rfl rfl ?_
      refine yy_last F X.2.1 3 rfl S1 hoz O1 (i := 0) (vp_in_nI (n := 0) (by decide) (by decide)) d_L_sift_11 (n := 12) rfl (fun H2 locs2 O2 z2 f2 S2 => ?_)
      refine yy_goto (tgt := 31) F d_L_sift_12 (by decide) ?_
      refine yy_iconst (v := 0) F d_L_sift_31 (n := 32) rfl rfl ?_
      exact yy_iret F S2 ⟨by decide, by decide⟩ rfl d_L_sift_32 (l_end (by rw [hr]; rfl) P1 hx hk ho hoH O2 (fun _ => rfl) z2 f2)
  · obtain ⟨ho9, ⟨A9, P1, hx⟩, hk⟩ := hq
    cases hr : (sp_sift σ x by_ rest).1 with
    | none =>
      rw [hr] at ho9
      cases ho9
    | some E9 =>
      rw [hr] at ho9
      cases ho9
      have O1 : lo_at D ca ou g H1 := va_at.kept hO (hk.2 ou hoH ho)
      have hin := ex_sift_ σ x by_ rest _ hr
      simp only [List.mem_cons, List.not_mem_nil, or_false] at hin
      rcases hin with rfl | rfl | rfl | rfl
      · refine yy_catch F X.1 (E := e_io) (nm := e_io) hce hv1 hcl (pre := []) (fr := 0) (to := 12) (hp := 15) (ct := 21) (rest := [(0, 12, 19, 23), (0, 12, 23, 13), (0, 12, 27, 25)]) rfl (fun y hy => nomatch hy) ⟨by decide, by decide⟩ (by decide) q_227 q_240 ?_
        refine yy_astore (lv' := [(5, .ref q), (0, .ref (a_k A)), (1, .int x), (2, .int by_), (3, .int rest), (4, .ref ou)]) F d_L_sift_15 (n := 17) rfl (by decide) rfl ?_
        refine yy_iconst (v := 1) F d_L_sift_17 (n := 18) rfl rfl ?_
        exact yy_iret F S1 ⟨by decide, by decide⟩ rfl d_L_sift_18 (l_end (by rw [hr]; rfl) P1 hx hk ho hoH O1 (fun h => by rw [hr] at h; cases h) rfl (fun _ _ => rfl))
      · refine yy_catch F X.1 (E := e_uo) (nm := e_uo) hce hv1 hcl (pre := [(0, 12, 15, 21)]) (fr := 0) (to := 12) (hp := 19) (ct := 23) (rest := [(0, 12, 23, 13), (0, 12, 27, 25)]) rfl (by
          intro y hy
          rw [List.mem_singleton] at hy
          subst hy
          exact ⟨by decide, _, q_227, nc_uo_io X⟩) ⟨by decide, by decide⟩ (by decide) q_228 q_273 ?_
        refine yy_astore (lv' := [(5, .ref q), (0, .ref (a_k A)), (1, .int x), (2, .int by_), (3, .int rest), (4, .ref ou)]) F d_L_sift_19 (n := 21) rfl (by decide) rfl ?_
        refine yy_iconst (v := 2) F d_L_sift_21 (n := 22) rfl rfl ?_
        exact yy_iret F S1 ⟨by decide, by decide⟩ rfl d_L_sift_22 (l_end (by rw [hr]; rfl) P1 hx hk ho hoH O1 (fun h => by rw [hr] at h; cases h) rfl (fun _ _ => rfl))
      · refine yy_catch F X.1 (E := e_ia) (nm := e_ia) hce hv1 hcl (pre := [(0, 12, 15, 21), (0, 12, 19, 23)]) (fr := 0) (to := 12) (hp := 23) (ct := 13) (rest := [(0, 12, 27, 25)]) rfl (by
          intro y hy
          simp only [List.mem_cons, List.not_mem_nil, or_false] at hy
          rcases hy with rfl | rfl
          · exact ⟨by decide, _, q_227, nc_ia_io X⟩
          · exact ⟨by decide, _, q_228, nc_ia_uo X⟩) ⟨by decide, by decide⟩ (by decide) q_64 q_75 ?_
        refine yy_astore (lv' := [(5, .ref q), (0, .ref (a_k A)), (1, .int x), (2, .int by_), (3, .int rest), (4, .ref ou)]) F d_L_sift_23 (n := 25) rfl (by decide) rfl ?_
        refine yy_iconst (v := 3) F d_L_sift_25 (n := 26) rfl rfl ?_
        exact yy_iret F S1 ⟨by decide, by decide⟩ rfl d_L_sift_26 (l_end (by rw [hr]; rfl) P1 hx hk ho hoH O1 (fun h => by rw [hr] at h; cases h) rfl (fun _ _ => rfl))
      · refine yy_catch F X.1 (E := e_rt) (nm := e_rt) hce hv1 hcl (pre := [(0, 12, 15, 21), (0, 12, 19, 23), (0, 12, 23, 13)]) (fr := 0) (to := 12) (hp := 27) (ct := 25) (rest := []) rfl (by
          intro y hy
          simp only [List.mem_cons, List.not_mem_nil, or_false] at hy
          rcases hy with rfl | rfl | rfl
          · exact ⟨by decide, _, q_227, nc_rt_io X⟩
          · exact ⟨by decide, _, q_228, nc_rt_uo X⟩
          · exact ⟨by decide, _, q_64, nc_rt_ia X⟩) ⟨by decide, by decide⟩ (by decide) q_229 q_301 ?_
        refine yy_astore (lv' := [(5, .ref q), (0, .ref (a_k A)), (1, .int x), (2, .int by_), (3, .int rest), (4, .ref ou)]) F d_L_sift_27 (n := 29) rfl (by decide) rfl ?_
        refine yy_iconst (v := 4) F d_L_sift_29 (n := 30) rfl rfl ?_
        exact yy_iret F S1 ⟨by decide, by decide⟩ rfl d_L_sift_30 (l_end (by rw [hr]; rfl) P1 hx hk ho hoH O1 (fun h => by rw [hr] at h; cases h) rfl (fun _ _ => rfl))
set_option maxRecDepth 100000 in
set_option maxHeartbeats 4000000 in
theorem c_L_same {l : Launch} {z : State} {a0 : Array Value} {D : va_G} {ca : kca} (X : kcx l z a0 D ca) {A : kA} {σ : ks} {t : Nat} (I : iv t σ) (ht : t + 25 ≤ 100000) {x y : Int32} {ou : Nat} {g : Nat → Int64} (ho : a_ow A ou = 0) (hoz : z.heap.size ≤ ou) : yy_M l z y_L_same (.codeWith y_L_same b_L_same 5 (some .int) [(0, 17, 20, 21), (0, 17, 24, 25)]) ({ frames := 8, cells := 1, slots := 6, locals := 127 }) [.ref (a_k A), .int x, .int y, .ref ou] (fun H => ck_at D ca z A σ H ∧ lo_at D ca ou g H) (l_p D ca z A ou [e_io, e_rt] l_boo (sp_same σ x y)) := by
  refine yy_bodyW (by decide) (Nat.le_of_ble_eq_true rfl) (fun b H F hS hP hH => ?_)
  obtain ⟨hP, hO⟩ := hP
  have hoH : ou < H.size := va_at.lt hO
  refine yy_aload_n F d_L_same_0 (n := 1) rfl 3 rfl ?_
  refine yy_iconst (v := 0) F d_L_same_1 (n := 2) rfl rfl ?_
  refine yy_aload_n F d_L_same_2 (n := 3) rfl 0 rfl ?_
  refine yy_iload_n F d_L_same_3 (n := 4) rfl 1 rfl ?_
  refine yy_iload_n F d_L_same_4 (n := 5) rfl 2 rfl ?_
  refine yy_call F hS (c_K_same (x := x) (y := y) X I) (yy_Bc F X.1 q_742 q_1) (yy_invV (nA := 2) (C := R_K) (bytes := b_K_same) (maxL := 5) (retY := (some .boolean)) F X.1 q_739 q_740 q_741 q_742 ⟨by decide, by decide, by decide +kernel⟩ (yy_recv F.N X.2.1 (ci := 5) rfl hP.k) rfl d_L_same_5) d_L_same_5 (n := 8) rfl (by simp [Value.category]) ⟨by decide, by decide⟩ ⟨by decide, by decide⟩ hP (fun v1 H1 locs1 hq S1 => ?_) (fun E q ce H1 locs1 hq S1 hce hv1 hcl => ?_)
  · obtain ⟨ho9, ⟨A9, P1, hx⟩, hk⟩ := hq
    cases hr : (sp_same σ x y).1 with
    | some E =>
      rw [hr] at ho9
      cases ho9
    | none =>
      rw [hr] at ho9
      cases ho9
      have O1 : lo_at D ca ou g H1 := va_at.kept hO (hk.2 ou hoH ho)
      show yy_Y b H1 locs1 (0 + 1, 0 + 6) 8 [(0, .ref (a_k A)), (1, .int x), (2, .int y), (3, .ref ou)] [.int (sp_same σ x y).2.1, .int 0, .ref ou]
      refine yy_if_eq (tgt := 15) F d_L_same_8 (n := 11) rfl (by decide) (fun h0 => ?_) (fun h0 => ?_)
      · refine yy_lconst (v := 0) F d_L_same_15 (n := 16) rfl rfl ?_
        refine yy_last F X.2.1 3 rfl S1 hoz O1 (i := 0) (vp_in_nI (n := 0) (by decide) (by decide)) d_L_same_16 (n := 17) rfl (fun H2 locs2 O2 z2 f2 S2 => ?_)
        refine yy_goto (tgt := 28) F d_L_same_17 (by decide) ?_
        refine yy_iconst (v := 0) F d_L_same_28 (n := 29) rfl rfl ?_
        exact yy_iret F S2 ⟨by decide, by decide⟩ rfl d_L_same_29 (l_end (by rw [hr]; rfl) P1 hx hk ho hoH O2 (fun _ => by show vp_updL g _ _ _ = _; rw [h0]; rfl) z2 f2)
      · refine yy_lconst (v := 1) F d_L_same_11 (n := 12) rfl rfl ?_
        refine yy_goto (tgt := 16) F d_L_same_12 (by decide) ?_
        refine yy_last F X.2.1 3 rfl S1 hoz O1 (i := 0) (vp_in_nI (n := 0) (by decide) (by decide)) d_L_same_16 (n := 17) rfl (fun H2 locs2 O2 z2 f2 S2 => ?_)
        refine yy_goto (tgt := 28) F d_L_same_17 (by decide) ?_
        refine yy_iconst (v := 0) F d_L_same_28 (n := 29) rfl rfl ?_
        exact yy_iret F S2 ⟨by decide, by decide⟩ rfl d_L_same_29 (l_end (by rw [hr]; rfl) P1 hx hk ho hoH O2 (fun _ => by show vp_updL g _ _ _ = _; rw [if_neg h0]; rfl) z2 f2)
  · obtain ⟨ho9, ⟨A9, P1, hx⟩, hk⟩ := hq
    cases hr : (sp_same σ x y).1 with
    | none =>
      rw [hr] at ho9
      cases ho9
    | some E9 =>
      rw [hr] at ho9
      cases ho9
      have O1 : lo_at D ca ou g H1 := va_at.kept hO (hk.2 ou hoH ho)
      have hin := ex_same_ σ x y _ hr
      simp only [List.mem_cons, List.not_mem_nil, or_false] at hin
      rcases hin with rfl | rfl
      · refine yy_catch F X.1 (E := e_io) (nm := e_io) hce hv1 hcl (pre := []) (fr := 0) (to := 17) (hp := 20) (ct := 21) (rest := [(0, 17, 24, 25)]) rfl (fun y hy => nomatch hy) ⟨by decide, by decide⟩ (by decide) q_227 q_240 ?_
        refine yy_astore (lv' := [(4, .ref q), (0, .ref (a_k A)), (1, .int x), (2, .int y), (3, .ref ou)]) F d_L_same_20 (n := 22) rfl (by decide) rfl ?_
        refine yy_iconst (v := 1) F d_L_same_22 (n := 23) rfl rfl ?_
        exact yy_iret F S1 ⟨by decide, by decide⟩ rfl d_L_same_23 (l_end (by rw [hr]; rfl) P1 hx hk ho hoH O1 (fun h => by rw [hr] at h; cases h) rfl (fun _ _ => rfl))
      · refine yy_catch F X.1 (E := e_rt) (nm := e_rt) hce hv1 hcl (pre := [(0, 17, 20, 21)]) (fr := 0) (to := 17) (hp := 24) (ct := 25) (rest := []) rfl (by
          intro y hy
          rw [List.mem_singleton] at hy
          subst hy
          exact ⟨by decide, _, q_227, nc_rt_io X⟩) ⟨by decide, by decide⟩ (by decide) q_229 q_301 ?_
        refine yy_astore (lv' := [(4, .ref q), (0, .ref (a_k A)), (1, .int x), (2, .int y), (3, .ref ou)]) F d_L_same_24 (n := 26) rfl (by decide) rfl ?_
        refine yy_iconst (v := 2) F d_L_same_26 (n := 27) rfl rfl ?_
        exact yy_iret F S1 ⟨by decide, by decide⟩ rfl d_L_same_27 (l_end (by rw [hr]; rfl) P1 hx hk ho hoH O1 (fun h => by rw [hr] at h; cases h) rfl (fun _ _ => rfl))
set_option maxRecDepth 100000 in
set_option maxHeartbeats 4000000 in
theorem c_L_open {l : Launch} {z : State} {a0 : Array Value} {D : va_G} {ca : kca} (X : kcx l z a0 D ca) {A : kA} {σ : ks} {t : Nat} (I : iv t σ) (ht : t + 25 ≤ 100000) {x y : Int32} {ou : Nat} {g : Nat → Int64} (ho : a_ow A ou = 0) (hoz : z.heap.size ≤ ou) : yy_M l z y_L_open (.codeWith y_L_open b_L_open 4 (some .int) [(0, 6, 9, 21), (0, 6, 12, 23), (0, 6, 15, 25)]) ({ frames := 8, cells := 1, slots := 6, locals := 127 }) [.ref (a_k A), .int x, .int y] (fun H => ck_at D ca z A σ H ∧ lo_at D ca ou g H) (l_p D ca z A ou [e_io, e_uo, e_rt] l_non (sp_open σ x y)) := by
  refine yy_bodyW (by decide) (Nat.le_of_ble_eq_true rfl) (fun b H F hS hP hH => ?_)
  obtain ⟨hP, hO⟩ := hP
  have hoH : ou < H.size := va_at.lt hO
  refine yy_aload_n F d_L_open_0 (n := 1) rfl 0 rfl ?_
  refine yy_iload_n F d_L_open_1 (n := 2) rfl 1 rfl ?_
  refine yy_iload_n F d_L_open_2 (n := 3) rfl 2 rfl ?_
  refine yy_call F hS (c_K_open (x := x) (y := y) X I) (yy_Bc F X.1 q_765 q_1) (yy_invV (nA := 2) (C := R_K) (bytes := b_K_open) (maxL := 5) (retY := none) F X.1 q_762 q_763 q_764 q_765 ⟨by decide, by decide, by decide +kernel⟩ (yy_recv F.N X.2.1 (ci := 5) rfl hP.k) rfl d_L_open_3) d_L_open_3 (n := 6) rfl (by simp [Value.category]) ⟨by decide, by decide⟩ ⟨by decide, by decide⟩ hP (fun v1 H1 locs1 hq S1 => ?_) (fun E q ce H1 locs1 hq S1 hce hv1 hcl => ?_)
  · obtain ⟨ho9, ⟨A9, P1, hx⟩, hk⟩ := hq
    cases hr : (sp_open σ x y).1 with
    | some E =>
      rw [hr] at ho9
      cases ho9
    | none =>
      rw [hr] at ho9
      cases ho9
      have O1 : lo_at D ca ou g H1 := va_at.kept hO (hk.2 ou hoH ho)
      show yy_Y b H1 locs1 (0 + 1, 0 + 6) 6 [(0, .ref (a_k A)), (1, .int x), (2, .int y)] []
      refine yy_goto (tgt := 18) F d_L_open_6 (by decide) ?_
      refine yy_iconst (v := 0) F d_L_open_18 (n := 19) rfl rfl ?_
      exact yy_iret F S1 ⟨by decide, by decide⟩ rfl d_L_open_19 (l_end (by rw [hr]; rfl) P1 hx hk ho hoH O1 (fun _ => trivial) rfl (fun _ _ => rfl))
  · obtain ⟨ho9, ⟨A9, P1, hx⟩, hk⟩ := hq
    cases hr : (sp_open σ x y).1 with
    | none =>
      rw [hr] at ho9
      cases ho9
    | some E9 =>
      rw [hr] at ho9
      cases ho9
      have O1 : lo_at D ca ou g H1 := va_at.kept hO (hk.2 ou hoH ho)
      have hin := ex_open_ σ x y _ hr
      simp only [List.mem_cons, List.not_mem_nil, or_false] at hin
      rcases hin with rfl | rfl | rfl
      · refine yy_catch F X.1 (E := e_io) (nm := e_io) hce hv1 hcl (pre := []) (fr := 0) (to := 6) (hp := 9) (ct := 21) (rest := [(0, 6, 12, 23), (0, 6, 15, 25)]) rfl (fun y hy => nomatch hy) ⟨by decide, by decide⟩ (by decide) q_227 q_240 ?_
        refine yy_astore_n (lv' := [(3, .ref q), (0, .ref (a_k A)), (1, .int x), (2, .int y)]) F d_L_open_9 (n := 10) rfl (by decide) rfl ?_
        refine yy_iconst (v := 1) F d_L_open_10 (n := 11) rfl rfl ?_
        exact yy_iret F S1 ⟨by decide, by decide⟩ rfl d_L_open_11 (l_end (by rw [hr]; rfl) P1 hx hk ho hoH O1 (fun h => by rw [hr] at h; cases h) rfl (fun _ _ => rfl))
      · refine yy_catch F X.1 (E := e_uo) (nm := e_uo) hce hv1 hcl (pre := [(0, 6, 9, 21)]) (fr := 0) (to := 6) (hp := 12) (ct := 23) (rest := [(0, 6, 15, 25)]) rfl (by
          intro y hy
          rw [List.mem_singleton] at hy
          subst hy
          exact ⟨by decide, _, q_227, nc_uo_io X⟩) ⟨by decide, by decide⟩ (by decide) q_228 q_273 ?_
        refine yy_astore_n (lv' := [(3, .ref q), (0, .ref (a_k A)), (1, .int x), (2, .int y)]) F d_L_open_12 (n := 13) rfl (by decide) rfl ?_
        refine yy_iconst (v := 2) F d_L_open_13 (n := 14) rfl rfl ?_
        exact yy_iret F S1 ⟨by decide, by decide⟩ rfl d_L_open_14 (l_end (by rw [hr]; rfl) P1 hx hk ho hoH O1 (fun h => by rw [hr] at h; cases h) rfl (fun _ _ => rfl))
      · refine yy_catch F X.1 (E := e_rt) (nm := e_rt) hce hv1 hcl (pre := [(0, 6, 9, 21), (0, 6, 12, 23)]) (fr := 0) (to := 6) (hp := 15) (ct := 25) (rest := []) rfl (by
          intro y hy
          simp only [List.mem_cons, List.not_mem_nil, or_false] at hy
          rcases hy with rfl | rfl
          · exact ⟨by decide, _, q_227, nc_rt_io X⟩
          · exact ⟨by decide, _, q_228, nc_rt_uo X⟩) ⟨by decide, by decide⟩ (by decide) q_229 q_301 ?_
        refine yy_astore_n (lv' := [(3, .ref q), (0, .ref (a_k A)), (1, .int x), (2, .int y)]) F d_L_open_15 (n := 16) rfl (by decide) rfl ?_
        refine yy_iconst (v := 3) F d_L_open_16 (n := 17) rfl rfl ?_
        exact yy_iret F S1 ⟨by decide, by decide⟩ rfl d_L_open_17 (l_end (by rw [hr]; rfl) P1 hx hk ho hoH O1 (fun h => by rw [hr] at h; cases h) rfl (fun _ _ => rfl))
set_option maxRecDepth 100000 in
set_option maxHeartbeats 4000000 in
theorem c_L_next {l : Launch} {z : State} {a0 : Array Value} {D : va_G} {ca : kca} (X : kcx l z a0 D ca) {A : kA} {σ : ks} {t : Nat} (I : iv t σ) (ht : t + 25 ≤ 100000) {x e : Int32} {ou : Nat} {g : Nat → Int64} (ho : a_ow A ou = 0) (hoz : z.heap.size ≤ ou) : yy_M l z y_L_next (.codeWith y_L_next b_L_next 5 (some .int) [(0, 10, 13, 21), (0, 10, 17, 23), (0, 10, 21, 37), (0, 10, 25, 25)]) ({ frames := 9, cells := 1, slots := 6, locals := 150 }) [.ref (a_k A), .int x, .int e, .ref ou] (fun H => ck_at D ca z A σ H ∧ lo_at D ca ou g H) (l_p D ca z A ou [e_io, e_uo, e_ns, e_rt] l_int (sp_next σ x e)) := by
  refine yy_bodyW (by decide) (Nat.le_of_ble_eq_true rfl) (fun b H F hS hP hH => ?_)
  obtain ⟨hP, hO⟩ := hP
  have hoH : ou < H.size := va_at.lt hO
  refine yy_aload_n F d_L_next_0 (n := 1) rfl 3 rfl ?_
  refine yy_iconst (v := 0) F d_L_next_1 (n := 2) rfl rfl ?_
  refine yy_aload_n F d_L_next_2 (n := 3) rfl 0 rfl ?_
  refine yy_iload_n F d_L_next_3 (n := 4) rfl 1 rfl ?_
  refine yy_iload_n F d_L_next_4 (n := 5) rfl 2 rfl ?_
  refine yy_call F hS (c_K_next (x := x) (e := e) X I) (yy_Bc F X.1 q_785 q_1) (yy_invV (nA := 2) (C := R_K) (bytes := b_K_next) (maxL := 6) (retY := (some .int)) F X.1 q_782 q_783 q_784 q_785 ⟨by decide, by decide, by decide +kernel⟩ (yy_recv F.N X.2.1 (ci := 5) rfl hP.k) rfl d_L_next_5) d_L_next_5 (n := 8) rfl (by simp [Value.category]) ⟨by decide, by decide⟩ ⟨by decide, by decide⟩ hP (fun v1 H1 locs1 hq S1 => ?_) (fun E q ce H1 locs1 hq S1 hce hv1 hcl => ?_)
  · obtain ⟨ho9, ⟨A9, P1, hx⟩, hk⟩ := hq
    cases hr : (sp_next σ x e).1 with
    | some E =>
      rw [hr] at ho9
      cases ho9
    | none =>
      rw [hr] at ho9
      cases ho9
      have O1 : lo_at D ca ou g H1 := va_at.kept hO (hk.2 ou hoH ho)
      show yy_Y b H1 locs1 (0 + 1, 0 + 6) 8 [(0, .ref (a_k A)), (1, .int x), (2, .int e), (3, .ref ou)] [.int (sp_next σ x e).2.1, .int 0, .ref ou]
      refine yy_i2l F d_L_next_8 (n := 9) rfl rfl ?_
      refine yy_last F X.2.1 3 rfl S1 hoz O1 (i := 0) (vp_in_nI (n := 0) (by decide) (by decide)) d_L_next_9 (n := 10) rfl (fun H2 locs2 O2 z2 f2 S2 => ?_)
      refine yy_goto (tgt := 29) F d_L_next_10 (by decide) ?_
      refine yy_iconst (v := 0) F d_L_next_29 (n := 30) rfl rfl ?_
      exact yy_iret F S2 ⟨by decide, by decide⟩ rfl d_L_next_30 (l_end (by rw [hr]; rfl) P1 hx hk ho hoH O2 (fun _ => rfl) z2 f2)
  · obtain ⟨ho9, ⟨A9, P1, hx⟩, hk⟩ := hq
    cases hr : (sp_next σ x e).1 with
    | none =>
      rw [hr] at ho9
      cases ho9
    | some E9 =>
      rw [hr] at ho9
      cases ho9
      have O1 : lo_at D ca ou g H1 := va_at.kept hO (hk.2 ou hoH ho)
      have hin := ex_next_ σ x e _ hr
      simp only [List.mem_cons, List.not_mem_nil, or_false] at hin
      rcases hin with rfl | rfl | rfl | rfl
      · refine yy_catch F X.1 (E := e_io) (nm := e_io) hce hv1 hcl (pre := []) (fr := 0) (to := 10) (hp := 13) (ct := 21) (rest := [(0, 10, 17, 23), (0, 10, 21, 37), (0, 10, 25, 25)]) rfl (fun y hy => nomatch hy) ⟨by decide, by decide⟩ (by decide) q_227 q_240 ?_
        refine yy_astore (lv' := [(4, .ref q), (0, .ref (a_k A)), (1, .int x), (2, .int e), (3, .ref ou)]) F d_L_next_13 (n := 15) rfl (by decide) rfl ?_
        refine yy_iconst (v := 1) F d_L_next_15 (n := 16) rfl rfl ?_
        exact yy_iret F S1 ⟨by decide, by decide⟩ rfl d_L_next_16 (l_end (by rw [hr]; rfl) P1 hx hk ho hoH O1 (fun h => by rw [hr] at h; cases h) rfl (fun _ _ => rfl))
      · refine yy_catch F X.1 (E := e_uo) (nm := e_uo) hce hv1 hcl (pre := [(0, 10, 13, 21)]) (fr := 0) (to := 10) (hp := 17) (ct := 23) (rest := [(0, 10, 21, 37), (0, 10, 25, 25)]) rfl (by
          intro y hy
          rw [List.mem_singleton] at hy
          subst hy
          exact ⟨by decide, _, q_227, nc_uo_io X⟩) ⟨by decide, by decide⟩ (by decide) q_228 q_273 ?_
        refine yy_astore (lv' := [(4, .ref q), (0, .ref (a_k A)), (1, .int x), (2, .int e), (3, .ref ou)]) F d_L_next_17 (n := 19) rfl (by decide) rfl ?_
        refine yy_iconst (v := 2) F d_L_next_19 (n := 20) rfl rfl ?_
        exact yy_iret F S1 ⟨by decide, by decide⟩ rfl d_L_next_20 (l_end (by rw [hr]; rfl) P1 hx hk ho hoH O1 (fun h => by rw [hr] at h; cases h) rfl (fun _ _ => rfl))
      · refine yy_catch F X.1 (E := e_ns) (nm := e_ns) hce hv1 hcl (pre := [(0, 10, 13, 21), (0, 10, 17, 23)]) (fr := 0) (to := 10) (hp := 21) (ct := 37) (rest := [(0, 10, 25, 25)]) rfl (by
          intro y hy
          simp only [List.mem_cons, List.not_mem_nil, or_false] at hy
          rcases hy with rfl | rfl
          · exact ⟨by decide, _, q_227, nc_ns_io X⟩
          · exact ⟨by decide, _, q_228, nc_ns_uo X⟩) ⟨by decide, by decide⟩ (by decide) q_410 q_432 ?_
        refine yy_astore (lv' := [(4, .ref q), (0, .ref (a_k A)), (1, .int x), (2, .int e), (3, .ref ou)]) F d_L_next_21 (n := 23) rfl (by decide) rfl ?_
        refine yy_iconst (v := 3) F d_L_next_23 (n := 24) rfl rfl ?_
        exact yy_iret F S1 ⟨by decide, by decide⟩ rfl d_L_next_24 (l_end (by rw [hr]; rfl) P1 hx hk ho hoH O1 (fun h => by rw [hr] at h; cases h) rfl (fun _ _ => rfl))
      · refine yy_catch F X.1 (E := e_rt) (nm := e_rt) hce hv1 hcl (pre := [(0, 10, 13, 21), (0, 10, 17, 23), (0, 10, 21, 37)]) (fr := 0) (to := 10) (hp := 25) (ct := 25) (rest := []) rfl (by
          intro y hy
          simp only [List.mem_cons, List.not_mem_nil, or_false] at hy
          rcases hy with rfl | rfl | rfl
          · exact ⟨by decide, _, q_227, nc_rt_io X⟩
          · exact ⟨by decide, _, q_228, nc_rt_uo X⟩
          · exact ⟨by decide, _, q_410, nc_rt_ns X⟩) ⟨by decide, by decide⟩ (by decide) q_229 q_301 ?_
        refine yy_astore (lv' := [(4, .ref q), (0, .ref (a_k A)), (1, .int x), (2, .int e), (3, .ref ou)]) F d_L_next_25 (n := 27) rfl (by decide) rfl ?_
        refine yy_iconst (v := 4) F d_L_next_27 (n := 28) rfl rfl ?_
        exact yy_iret F S1 ⟨by decide, by decide⟩ rfl d_L_next_28 (l_end (by rw [hr]; rfl) P1 hx hk ho hoH O1 (fun h => by rw [hr] at h; cases h) rfl (fun _ _ => rfl))
set_option maxRecDepth 100000 in
set_option maxHeartbeats 4000000 in
theorem c_L_left {l : Launch} {z : State} {a0 : Array Value} {D : va_G} {ca : kca} (X : kcx l z a0 D ca) {A : kA} {σ : ks} {t : Nat} (I : iv t σ) (ht : t + 25 ≤ 100000) {x : Int32} {ou : Nat} {g : Nat → Int64} (ho : a_ow A ou = 0) (hoz : z.heap.size ≤ ou) : yy_M l z y_L_left (.codeWith y_L_left b_L_left 4 (some .int) [(0, 9, 12, 21), (0, 9, 15, 25)]) ({ frames := 9, cells := 1, slots := 6, locals := 147 }) [.ref (a_k A), .int x, .ref ou] (fun H => ck_at D ca z A σ H ∧ lo_at D ca ou g H) (l_p D ca z A ou [e_io, e_rt] l_int (sp_left σ x)) := by
  refine yy_bodyW (by decide) (Nat.le_of_ble_eq_true rfl) (fun b H F hS hP hH => ?_)
  obtain ⟨hP, hO⟩ := hP
  have hoH : ou < H.size := va_at.lt hO
  refine yy_aload_n F d_L_left_0 (n := 1) rfl 2 rfl ?_
  refine yy_iconst (v := 0) F d_L_left_1 (n := 2) rfl rfl ?_
  refine yy_aload_n F d_L_left_2 (n := 3) rfl 0 rfl ?_
  refine yy_iload_n F d_L_left_3 (n := 4) rfl 1 rfl ?_
  refine yy_call F hS (c_K_left (x := x) X I) (yy_Bc F X.1 q_810 q_1) (yy_invV (nA := 1) (C := R_K) (bytes := b_K_left) (maxL := 3) (retY := (some .int)) F X.1 q_807 q_808 q_809 q_810 ⟨by decide, by decide, by decide +kernel⟩ (yy_recv F.N X.2.1 (ci := 5) rfl hP.k) rfl d_L_left_4) d_L_left_4 (n := 7) rfl (by simp [Value.category]) ⟨by decide, by decide⟩ ⟨by decide, by decide⟩ hP (fun v1 H1 locs1 hq S1 => ?_) (fun E q ce H1 locs1 hq S1 hce hv1 hcl => ?_)
  · obtain ⟨ho9, ⟨A9, P1, hx⟩, hk⟩ := hq
    cases hr : (sp_left σ x).1 with
    | some E =>
      rw [hr] at ho9
      cases ho9
    | none =>
      rw [hr] at ho9
      cases ho9
      have O1 : lo_at D ca ou g H1 := va_at.kept hO (hk.2 ou hoH ho)
      show yy_Y b H1 locs1 (0 + 1, 0 + 6) 7 [(0, .ref (a_k A)), (1, .int x), (2, .ref ou)] [.int (sp_left σ x).2.1, .int 0, .ref ou]
      refine yy_i2l F d_L_left_7 (n := 8) rfl rfl ?_
      refine yy_last F X.2.1 3 rfl S1 hoz O1 (i := 0) (vp_in_nI (n := 0) (by decide) (by decide)) d_L_left_8 (n := 9) rfl (fun H2 locs2 O2 z2 f2 S2 => ?_)
      refine yy_goto (tgt := 18) F d_L_left_9 (by decide) ?_
      refine yy_iconst (v := 0) F d_L_left_18 (n := 19) rfl rfl ?_
      exact yy_iret F S2 ⟨by decide, by decide⟩ rfl d_L_left_19 (l_end (by rw [hr]; rfl) P1 hx hk ho hoH O2 (fun _ => rfl) z2 f2)
  · obtain ⟨ho9, ⟨A9, P1, hx⟩, hk⟩ := hq
    cases hr : (sp_left σ x).1 with
    | none =>
      rw [hr] at ho9
      cases ho9
    | some E9 =>
      rw [hr] at ho9
      cases ho9
      have O1 : lo_at D ca ou g H1 := va_at.kept hO (hk.2 ou hoH ho)
      have hin := ex_left_ σ x _ hr
      simp only [List.mem_cons, List.not_mem_nil, or_false] at hin
      rcases hin with rfl | rfl
      · refine yy_catch F X.1 (E := e_io) (nm := e_io) hce hv1 hcl (pre := []) (fr := 0) (to := 9) (hp := 12) (ct := 21) (rest := [(0, 9, 15, 25)]) rfl (fun y hy => nomatch hy) ⟨by decide, by decide⟩ (by decide) q_227 q_240 ?_
        refine yy_astore_n (lv' := [(3, .ref q), (0, .ref (a_k A)), (1, .int x), (2, .ref ou)]) F d_L_left_12 (n := 13) rfl (by decide) rfl ?_
        refine yy_iconst (v := 1) F d_L_left_13 (n := 14) rfl rfl ?_
        exact yy_iret F S1 ⟨by decide, by decide⟩ rfl d_L_left_14 (l_end (by rw [hr]; rfl) P1 hx hk ho hoH O1 (fun h => by rw [hr] at h; cases h) rfl (fun _ _ => rfl))
      · refine yy_catch F X.1 (E := e_rt) (nm := e_rt) hce hv1 hcl (pre := [(0, 9, 12, 21)]) (fr := 0) (to := 9) (hp := 15) (ct := 25) (rest := []) rfl (by
          intro y hy
          rw [List.mem_singleton] at hy
          subst hy
          exact ⟨by decide, _, q_227, nc_rt_io X⟩) ⟨by decide, by decide⟩ (by decide) q_229 q_301 ?_
        refine yy_astore_n (lv' := [(3, .ref q), (0, .ref (a_k A)), (1, .int x), (2, .ref ou)]) F d_L_left_15 (n := 16) rfl (by decide) rfl ?_
        refine yy_iconst (v := 2) F d_L_left_16 (n := 17) rfl rfl ?_
        exact yy_iret F S1 ⟨by decide, by decide⟩ rfl d_L_left_17 (l_end (by rw [hr]; rfl) P1 hx hk ho hoH O1 (fun h => by rw [hr] at h; cases h) rfl (fun _ _ => rfl))
set_option maxRecDepth 100000 in
set_option maxHeartbeats 4000000 in
theorem c_L_erase {l : Launch} {z : State} {a0 : Array Value} {D : va_G} {ca : kca} (X : kcx l z a0 D ca) {A : kA} {σ : ks} {t : Nat} (I : iv t σ) (ht : t + 25 ≤ 100000) {x : Int32} {ou : Nat} {g : Nat → Int64} (ho : a_ow A ou = 0) (hoz : z.heap.size ≤ ou) : yy_M l z y_L_erase (.codeWith y_L_erase b_L_erase 3 (some .int) [(0, 5, 8, 21), (0, 5, 11, 13), (0, 5, 14, 25)]) ({ frames := 9, cells := 1, slots := 6, locals := 147 }) [.ref (a_k A), .int x] (fun H => ck_at D ca z A σ H ∧ lo_at D ca ou g H) (l_p D ca z A ou [e_io, e_ia, e_rt] l_non (sp_erase σ x)) := by
  refine yy_bodyW (by decide) (Nat.le_of_ble_eq_true rfl) (fun b H F hS hP hH => ?_)
  obtain ⟨hP, hO⟩ := hP
  have hoH : ou < H.size := va_at.lt hO
  refine yy_aload_n F d_L_erase_0 (n := 1) rfl 0 rfl ?_
  refine yy_iload_n F d_L_erase_1 (n := 2) rfl 1 rfl ?_
  refine yy_call F hS (c_K_erase (x := x) X I) (yy_Bc F X.1 q_817 q_1) (yy_invV (nA := 1) (C := R_K) (bytes := b_K_erase) (maxL := 3) (retY := none) F X.1 q_814 q_815 q_816 q_817 ⟨by decide, by decide, by decide +kernel⟩ (yy_recv F.N X.2.1 (ci := 5) rfl hP.k) rfl d_L_erase_2) d_L_erase_2 (n := 5) rfl (by simp [Value.category]) ⟨by decide, by decide⟩ ⟨by decide, by decide⟩ hP (fun v1 H1 locs1 hq S1 => ?_) (fun E q ce H1 locs1 hq S1 hce hv1 hcl => ?_)
  · obtain ⟨ho9, ⟨A9, P1, hx⟩, hk⟩ := hq
    cases hr : (sp_erase σ x).1 with
    | some E =>
      rw [hr] at ho9
      cases ho9
    | none =>
      rw [hr] at ho9
      cases ho9
      have O1 : lo_at D ca ou g H1 := va_at.kept hO (hk.2 ou hoH ho)
      show yy_Y b H1 locs1 (0 + 1, 0 + 6) 5 [(0, .ref (a_k A)), (1, .int x)] []
      refine yy_goto (tgt := 17) F d_L_erase_5 (by decide) ?_
      refine yy_iconst (v := 0) F d_L_erase_17 (n := 18) rfl rfl ?_
      exact yy_iret F S1 ⟨by decide, by decide⟩ rfl d_L_erase_18 (l_end (by rw [hr]; rfl) P1 hx hk ho hoH O1 (fun _ => trivial) rfl (fun _ _ => rfl))
  · obtain ⟨ho9, ⟨A9, P1, hx⟩, hk⟩ := hq
    cases hr : (sp_erase σ x).1 with
    | none =>
      rw [hr] at ho9
      cases ho9
    | some E9 =>
      rw [hr] at ho9
      cases ho9
      have O1 : lo_at D ca ou g H1 := va_at.kept hO (hk.2 ou hoH ho)
      have hin := ex_erase_ σ x _ hr
      simp only [List.mem_cons, List.not_mem_nil, or_false] at hin
      rcases hin with rfl | rfl | rfl
      · refine yy_catch F X.1 (E := e_io) (nm := e_io) hce hv1 hcl (pre := []) (fr := 0) (to := 5) (hp := 8) (ct := 21) (rest := [(0, 5, 11, 13), (0, 5, 14, 25)]) rfl (fun y hy => nomatch hy) ⟨by decide, by decide⟩ (by decide) q_227 q_240 ?_
        refine yy_astore_n (lv' := [(2, .ref q), (0, .ref (a_k A)), (1, .int x)]) F d_L_erase_8 (n := 9) rfl (by decide) rfl ?_
        refine yy_iconst (v := 1) F d_L_erase_9 (n := 10) rfl rfl ?_
        exact yy_iret F S1 ⟨by decide, by decide⟩ rfl d_L_erase_10 (l_end (by rw [hr]; rfl) P1 hx hk ho hoH O1 (fun h => by rw [hr] at h; cases h) rfl (fun _ _ => rfl))
      · refine yy_catch F X.1 (E := e_ia) (nm := e_ia) hce hv1 hcl (pre := [(0, 5, 8, 21)]) (fr := 0) (to := 5) (hp := 11) (ct := 13) (rest := [(0, 5, 14, 25)]) rfl (by
          intro y hy
          rw [List.mem_singleton] at hy
          subst hy
          exact ⟨by decide, _, q_227, nc_ia_io X⟩) ⟨by decide, by decide⟩ (by decide) q_64 q_75 ?_
        refine yy_astore_n (lv' := [(2, .ref q), (0, .ref (a_k A)), (1, .int x)]) F d_L_erase_11 (n := 12) rfl (by decide) rfl ?_
        refine yy_iconst (v := 2) F d_L_erase_12 (n := 13) rfl rfl ?_
        exact yy_iret F S1 ⟨by decide, by decide⟩ rfl d_L_erase_13 (l_end (by rw [hr]; rfl) P1 hx hk ho hoH O1 (fun h => by rw [hr] at h; cases h) rfl (fun _ _ => rfl))
      · refine yy_catch F X.1 (E := e_rt) (nm := e_rt) hce hv1 hcl (pre := [(0, 5, 8, 21), (0, 5, 11, 13)]) (fr := 0) (to := 5) (hp := 14) (ct := 25) (rest := []) rfl (by
          intro y hy
          simp only [List.mem_cons, List.not_mem_nil, or_false] at hy
          rcases hy with rfl | rfl
          · exact ⟨by decide, _, q_227, nc_rt_io X⟩
          · exact ⟨by decide, _, q_64, nc_rt_ia X⟩) ⟨by decide, by decide⟩ (by decide) q_229 q_301 ?_
        refine yy_astore_n (lv' := [(2, .ref q), (0, .ref (a_k A)), (1, .int x)]) F d_L_erase_14 (n := 15) rfl (by decide) rfl ?_
        refine yy_iconst (v := 3) F d_L_erase_15 (n := 16) rfl rfl ?_
        exact yy_iret F S1 ⟨by decide, by decide⟩ rfl d_L_erase_16 (l_end (by rw [hr]; rfl) P1 hx hk ho hoH O1 (fun h => by rw [hr] at h; cases h) rfl (fun _ _ => rfl))
set_option maxRecDepth 100000 in
set_option maxHeartbeats 4000000 in
theorem c_L_assign {l : Launch} {z : State} {a0 : Array Value} {D : va_G} {ca : kca} (X : kcx l z a0 D ca) {A : kA} {σ : ks} {t : Nat} (I : iv t σ) (ht : t + 25 ≤ 100000) {x y : Int32} {ou : Nat} {g : Nat → Int64} (ho : a_ow A ou = 0) (hoz : z.heap.size ≤ ou) : yy_M l z y_L_assign (.codeWith y_L_assign b_L_assign 5 (some .int) [(0, 10, 13, 21), (0, 10, 17, 13), (0, 10, 21, 25)]) ({ frames := 9, cells := 1, slots := 6, locals := 149 }) [.ref (a_k A), .int x, .int y, .ref ou] (fun H => ck_at D ca z A σ H ∧ lo_at D ca ou g H) (l_p D ca z A ou [e_io, e_ia, e_rt] l_int (sp_assign σ x y)) := by
  refine yy_bodyW (by decide) (Nat.le_of_ble_eq_true rfl) (fun b H F hS hP hH => ?_)
  obtain ⟨hP, hO⟩ := hP
  have hoH : ou < H.size := va_at.lt hO
  refine yy_aload_n F d_L_assign_0 (n := 1) rfl 3 rfl ?_
  refine yy_iconst (v := 0) F d_L_assign_1 (n := 2) rfl rfl ?_
  refine yy_aload_n F d_L_assign_2 (n := 3) rfl 0 rfl ?_
  refine yy_iload_n F d_L_assign_3 (n := 4) rfl 1 rfl ?_
  refine yy_iload_n F d_L_assign_4 (n := 5) rfl 2 rfl ?_
  refine yy_call F hS (c_K_assign (x := x) (y := y) X I) (yy_Bc F X.1 q_825 q_1) (yy_invV (nA := 2) (C := R_K) (bytes := b_K_assign) (maxL := 5) (retY := (some .int)) F X.1 q_822 q_823 q_824 q_825 ⟨by decide, by decide, by decide +kernel⟩ (yy_recv F.N X.2.1 (ci := 5) rfl hP.k) rfl d_L_assign_5) d_L_assign_5 (n := 8) rfl (by simp [Value.category]) ⟨by decide, by decide⟩ ⟨by decide, by decide⟩ hP (fun v1 H1 locs1 hq S1 => ?_) (fun E q ce H1 locs1 hq S1 hce hv1 hcl => ?_)
  · obtain ⟨ho9, ⟨A9, P1, hx⟩, hk⟩ := hq
    cases hr : (sp_assign σ x y).1 with
    | some E =>
      rw [hr] at ho9
      cases ho9
    | none =>
      rw [hr] at ho9
      cases ho9
      have O1 : lo_at D ca ou g H1 := va_at.kept hO (hk.2 ou hoH ho)
      show yy_Y b H1 locs1 (0 + 1, 0 + 6) 8 [(0, .ref (a_k A)), (1, .int x), (2, .int y), (3, .ref ou)] [.int (sp_assign σ x y).2.1, .int 0, .ref ou]
      refine yy_i2l F d_L_assign_8 (n := 9) rfl rfl ?_
      refine yy_last F X.2.1 3 rfl S1 hoz O1 (i := 0) (vp_in_nI (n := 0) (by decide) (by decide)) d_L_assign_9 (n := 10) rfl (fun H2 locs2 O2 z2 f2 S2 => ?_)
      refine yy_goto (tgt := 25) F d_L_assign_10 (by decide) ?_
      refine yy_iconst (v := 0) F d_L_assign_25 (n := 26) rfl rfl ?_
      exact yy_iret F S2 ⟨by decide, by decide⟩ rfl d_L_assign_26 (l_end (by rw [hr]; rfl) P1 hx hk ho hoH O2 (fun _ => rfl) z2 f2)
  · obtain ⟨ho9, ⟨A9, P1, hx⟩, hk⟩ := hq
    cases hr : (sp_assign σ x y).1 with
    | none =>
      rw [hr] at ho9
      cases ho9
    | some E9 =>
      rw [hr] at ho9
      cases ho9
      have O1 : lo_at D ca ou g H1 := va_at.kept hO (hk.2 ou hoH ho)
      have hin := ex_assign_ σ x y _ hr
      simp only [List.mem_cons, List.not_mem_nil, or_false] at hin
      rcases hin with rfl | rfl | rfl
      · refine yy_catch F X.1 (E := e_io) (nm := e_io) hce hv1 hcl (pre := []) (fr := 0) (to := 10) (hp := 13) (ct := 21) (rest := [(0, 10, 17, 13), (0, 10, 21, 25)]) rfl (fun y hy => nomatch hy) ⟨by decide, by decide⟩ (by decide) q_227 q_240 ?_
        refine yy_astore (lv' := [(4, .ref q), (0, .ref (a_k A)), (1, .int x), (2, .int y), (3, .ref ou)]) F d_L_assign_13 (n := 15) rfl (by decide) rfl ?_
        refine yy_iconst (v := 1) F d_L_assign_15 (n := 16) rfl rfl ?_
        exact yy_iret F S1 ⟨by decide, by decide⟩ rfl d_L_assign_16 (l_end (by rw [hr]; rfl) P1 hx hk ho hoH O1 (fun h => by rw [hr] at h; cases h) rfl (fun _ _ => rfl))
      · refine yy_catch F X.1 (E := e_ia) (nm := e_ia) hce hv1 hcl (pre := [(0, 10, 13, 21)]) (fr := 0) (to := 10) (hp := 17) (ct := 13) (rest := [(0, 10, 21, 25)]) rfl (by
          intro y hy
          rw [List.mem_singleton] at hy
          subst hy
          exact ⟨by decide, _, q_227, nc_ia_io X⟩) ⟨by decide, by decide⟩ (by decide) q_64 q_75 ?_
        refine yy_astore (lv' := [(4, .ref q), (0, .ref (a_k A)), (1, .int x), (2, .int y), (3, .ref ou)]) F d_L_assign_17 (n := 19) rfl (by decide) rfl ?_
        refine yy_iconst (v := 2) F d_L_assign_19 (n := 20) rfl rfl ?_
        exact yy_iret F S1 ⟨by decide, by decide⟩ rfl d_L_assign_20 (l_end (by rw [hr]; rfl) P1 hx hk ho hoH O1 (fun h => by rw [hr] at h; cases h) rfl (fun _ _ => rfl))
      · refine yy_catch F X.1 (E := e_rt) (nm := e_rt) hce hv1 hcl (pre := [(0, 10, 13, 21), (0, 10, 17, 13)]) (fr := 0) (to := 10) (hp := 21) (ct := 25) (rest := []) rfl (by
          intro y hy
          simp only [List.mem_cons, List.not_mem_nil, or_false] at hy
          rcases hy with rfl | rfl
          · exact ⟨by decide, _, q_227, nc_rt_io X⟩
          · exact ⟨by decide, _, q_64, nc_rt_ia X⟩) ⟨by decide, by decide⟩ (by decide) q_229 q_301 ?_
        refine yy_astore (lv' := [(4, .ref q), (0, .ref (a_k A)), (1, .int x), (2, .int y), (3, .ref ou)]) F d_L_assign_21 (n := 23) rfl (by decide) rfl ?_
        refine yy_iconst (v := 3) F d_L_assign_23 (n := 24) rfl rfl ?_
        exact yy_iret F S1 ⟨by decide, by decide⟩ rfl d_L_assign_24 (l_end (by rw [hr]; rfl) P1 hx hk ho hoH O1 (fun h => by rw [hr] at h; cases h) rfl (fun _ _ => rfl))
set_option maxRecDepth 100000 in
set_option maxHeartbeats 4000000 in
theorem c_L_plant {l : Launch} {z : State} {a0 : Array Value} {D : va_G} {ca : kca} (X : kcx l z a0 D ca) {A : kA} {σ : ks} {t : Nat} (I : iv t σ) (ht : t + 25 ≤ 100000) {x y : Int32} {ou : Nat} {g : Nat → Int64} (ho : a_ow A ou = 0) (hoz : z.heap.size ≤ ou) : yy_M l z y_L_plant (.codeWith y_L_plant b_L_plant 4 (some .int) [(0, 6, 9, 21), (0, 6, 12, 23), (0, 6, 15, 15), (0, 6, 18, 25)]) ({ frames := 9, cells := 1, slots := 6, locals := 149 }) [.ref (a_k A), .int x, .int y] (fun H => ck_at D ca z A σ H ∧ lo_at D ca ou g H) (l_p D ca z A ou [e_io, e_uo, e_is, e_rt] l_non (sp_plant σ x y)) := by
  refine yy_bodyW (by decide) (Nat.le_of_ble_eq_true rfl) (fun b H F hS hP hH => ?_)
  obtain ⟨hP, hO⟩ := hP
  have hoH : ou < H.size := va_at.lt hO
  refine yy_aload_n F d_L_plant_0 (n := 1) rfl 0 rfl ?_
  refine yy_iload_n F d_L_plant_1 (n := 2) rfl 1 rfl ?_
  refine yy_iload_n F d_L_plant_2 (n := 3) rfl 2 rfl ?_
  refine yy_call F hS (c_K_plant (x := x) (y := y) X I) (yy_Bc F X.1 q_840 q_1) (yy_invV (nA := 2) (C := R_K) (bytes := b_K_plant) (maxL := 5) (retY := none) F X.1 q_837 q_838 q_839 q_840 ⟨by decide, by decide, by decide +kernel⟩ (yy_recv F.N X.2.1 (ci := 5) rfl hP.k) rfl d_L_plant_3) d_L_plant_3 (n := 6) rfl (by simp [Value.category]) ⟨by decide, by decide⟩ ⟨by decide, by decide⟩ hP (fun v1 H1 locs1 hq S1 => ?_) (fun E q ce H1 locs1 hq S1 hce hv1 hcl => ?_)
  · obtain ⟨ho9, ⟨A9, P1, hx⟩, hk⟩ := hq
    cases hr : (sp_plant σ x y).1 with
    | some E =>
      rw [hr] at ho9
      cases ho9
    | none =>
      rw [hr] at ho9
      cases ho9
      have O1 : lo_at D ca ou g H1 := va_at.kept hO (hk.2 ou hoH ho)
      show yy_Y b H1 locs1 (0 + 1, 0 + 6) 6 [(0, .ref (a_k A)), (1, .int x), (2, .int y)] []
      refine yy_goto (tgt := 21) F d_L_plant_6 (by decide) ?_
      refine yy_iconst (v := 0) F d_L_plant_21 (n := 22) rfl rfl ?_
      exact yy_iret F S1 ⟨by decide, by decide⟩ rfl d_L_plant_22 (l_end (by rw [hr]; rfl) P1 hx hk ho hoH O1 (fun _ => trivial) rfl (fun _ _ => rfl))
  · obtain ⟨ho9, ⟨A9, P1, hx⟩, hk⟩ := hq
    cases hr : (sp_plant σ x y).1 with
    | none =>
      rw [hr] at ho9
      cases ho9
    | some E9 =>
      rw [hr] at ho9
      cases ho9
      have O1 : lo_at D ca ou g H1 := va_at.kept hO (hk.2 ou hoH ho)
      have hin := ex_plant_ σ x y _ hr
      simp only [List.mem_cons, List.not_mem_nil, or_false] at hin
      rcases hin with rfl | rfl | rfl | rfl
      · refine yy_catch F X.1 (E := e_io) (nm := e_io) hce hv1 hcl (pre := []) (fr := 0) (to := 6) (hp := 9) (ct := 21) (rest := [(0, 6, 12, 23), (0, 6, 15, 15), (0, 6, 18, 25)]) rfl (fun y hy => nomatch hy) ⟨by decide, by decide⟩ (by decide) q_227 q_240 ?_
        refine yy_astore_n (lv' := [(3, .ref q), (0, .ref (a_k A)), (1, .int x), (2, .int y)]) F d_L_plant_9 (n := 10) rfl (by decide) rfl ?_
        refine yy_iconst (v := 1) F d_L_plant_10 (n := 11) rfl rfl ?_
        exact yy_iret F S1 ⟨by decide, by decide⟩ rfl d_L_plant_11 (l_end (by rw [hr]; rfl) P1 hx hk ho hoH O1 (fun h => by rw [hr] at h; cases h) rfl (fun _ _ => rfl))
      · refine yy_catch F X.1 (E := e_uo) (nm := e_uo) hce hv1 hcl (pre := [(0, 6, 9, 21)]) (fr := 0) (to := 6) (hp := 12) (ct := 23) (rest := [(0, 6, 15, 15), (0, 6, 18, 25)]) rfl (by
          intro y hy
          rw [List.mem_singleton] at hy
          subst hy
          exact ⟨by decide, _, q_227, nc_uo_io X⟩) ⟨by decide, by decide⟩ (by decide) q_228 q_273 ?_
        refine yy_astore_n (lv' := [(3, .ref q), (0, .ref (a_k A)), (1, .int x), (2, .int y)]) F d_L_plant_12 (n := 13) rfl (by decide) rfl ?_
        refine yy_iconst (v := 2) F d_L_plant_13 (n := 14) rfl rfl ?_
        exact yy_iret F S1 ⟨by decide, by decide⟩ rfl d_L_plant_14 (l_end (by rw [hr]; rfl) P1 hx hk ho hoH O1 (fun h => by rw [hr] at h; cases h) rfl (fun _ _ => rfl))
      · refine yy_catch F X.1 (E := e_is) (nm := e_is) hce hv1 hcl (pre := [(0, 6, 9, 21), (0, 6, 12, 23)]) (fr := 0) (to := 6) (hp := 15) (ct := 15) (rest := [(0, 6, 18, 25)]) rfl (by
          intro y hy
          simp only [List.mem_cons, List.not_mem_nil, or_false] at hy
          rcases hy with rfl | rfl
          · exact ⟨by decide, _, q_227, nc_is_io X⟩
          · exact ⟨by decide, _, q_228, nc_is_uo X⟩) ⟨by decide, by decide⟩ (by decide) q_65 q_150 ?_
        refine yy_astore_n (lv' := [(3, .ref q), (0, .ref (a_k A)), (1, .int x), (2, .int y)]) F d_L_plant_15 (n := 16) rfl (by decide) rfl ?_
        refine yy_iconst (v := 3) F d_L_plant_16 (n := 17) rfl rfl ?_
        exact yy_iret F S1 ⟨by decide, by decide⟩ rfl d_L_plant_17 (l_end (by rw [hr]; rfl) P1 hx hk ho hoH O1 (fun h => by rw [hr] at h; cases h) rfl (fun _ _ => rfl))
      · refine yy_catch F X.1 (E := e_rt) (nm := e_rt) hce hv1 hcl (pre := [(0, 6, 9, 21), (0, 6, 12, 23), (0, 6, 15, 15)]) (fr := 0) (to := 6) (hp := 18) (ct := 25) (rest := []) rfl (by
          intro y hy
          simp only [List.mem_cons, List.not_mem_nil, or_false] at hy
          rcases hy with rfl | rfl | rfl
          · exact ⟨by decide, _, q_227, nc_rt_io X⟩
          · exact ⟨by decide, _, q_228, nc_rt_uo X⟩
          · exact ⟨by decide, _, q_65, nc_rt_is X⟩) ⟨by decide, by decide⟩ (by decide) q_229 q_301 ?_
        refine yy_astore_n (lv' := [(3, .ref q), (0, .ref (a_k A)), (1, .int x), (2, .int y)]) F d_L_plant_18 (n := 19) rfl (by decide) rfl ?_
        refine yy_iconst (v := 4) F d_L_plant_19 (n := 20) rfl rfl ?_
        exact yy_iret F S1 ⟨by decide, by decide⟩ rfl d_L_plant_20 (l_end (by rw [hr]; rfl) P1 hx hk ho hoH O1 (fun h => by rw [hr] at h; cases h) rfl (fun _ _ => rfl))
