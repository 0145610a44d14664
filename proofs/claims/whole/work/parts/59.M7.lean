/-! PART M7: the reference's calls that change: create, view, set, insert, remove, sort -/
set_option maxRecDepth 100000 in
set_option maxHeartbeats 4000000 in
theorem c_M_create {l : Launch} {z : State} {a0 : Array Value} {D : va_G} {ca : kca} (X : kcx l z a0 D ca) {a n : Nat} {cd : Int32} {s : ms} {σ : ks} {t : Nat} (I : iv t σ) (R : mr s σ) {x : Int32} : yy_M l z y_M_create (.code y_M_create b_M_create 2 (some .int)) ({ frames := 1, cells := 0, slots := 0, locals := 23 }) [.ref a, .int x] (mo_at D ca z a n cd s) (mqi D ca z a n [e_ia, e_is] (sp_create σ x)) := by
  refine yy_body (plainFor_of_name (by decide)) (Nat.le_of_ble_eq_true rfl) (fun b H F hS hP hH hnm => ?_)
  have h10 := I.m10
  refine yy_aload_n F d_M_create_0 (n := 1) rfl 0 rfl ?_
  refine yy_iload_n F d_M_create_1 (n := 2) rfl 1 rfl ?_
  refine yy_if_lt (tgt := 10) F d_M_create_2 (n := 5) rfl (by decide) (fun h0 => ?_) (fun h0 => ?_)
  · refine yy_iconst (v := 1) F d_M_create_10 (n := 11) rfl rfl ?_
    refine yy_goto (tgt := 28) F d_M_create_11 (by decide) ?_
    refine ma_code F X g_M_55_M hP hS d_M_create_28 (n' := 31) rfl (fun Hw_1 locs_w_1 Pw_1 kw_1 Sw_1 => ?_)
    have kw_1 := kpm.rf.tr kw_1
    refine yy_aload_n F d_M_create_31 (n := 32) rfl 0 rfl ?_
    refine yy_get F X.1 X.2.1 g_M_55_M Pw_1.o rfl d_M_create_32 (n := 35) rfl ?_
    refine yy_if_le_f (tgt := 42) F d_M_create_35 (n := 38) rfl (by decide) (by decide) ?_
    refine yy_iconst (v := 0) F d_M_create_38 (n := 39) rfl rfl ?_
    refine yy_goto (tgt := 48) F d_M_create_39 (by decide) ?_
    exact yy_iret F Sw_1 ⟨Nat.zero_le _, Nat.zero_le _⟩ rfl d_M_create_48 (mq_i (o := some e_ia) (v := 0) (σ := σ) (by unfold sp_create; rw [show k_btw x 5 = false by simp [k_btw, h0]]; rfl) R Pw_1 kw_1 (by decide) (fun h => by cases h))
  · refine yy_iload_n F d_M_create_5 (n := 6) rfl 1 rfl ?_
    refine yy_iconst (v := 5) F d_M_create_6 (n := 7) rfl rfl ?_
    refine yy_ic_le (tgt := 14) F d_M_create_7 (n := 10) rfl (by decide) (fun h5 => ?_) (fun h5 => ?_)
    · have hb5 : k_btw x 5 = true := by simp [k_btw, h0, Int32.not_lt.mpr h5]
      have hbx := btw5 hb5
      have n6 : ¬ x = 6 := fun q => by rw [q] at hbx; exact absurd hbx (by decide)
      have n7 : ¬ x = 7 := fun q => by rw [q] at hbx; exact absurd hbx (by decide)
      refine yy_aload_n F d_M_create_14 (n := 15) rfl 0 rfl ?_
      refine yy_get F X.1 X.2.1 g_M_59_M hP.o rfl d_M_create_15 (n := 18) rfl ?_
      refine yy_tope (y := (nI (k_m σ))) (by rw [R.1]) ?_
      refine yy_bipush (v := 10) F d_M_create_18 (n := 20) rfl rfl ?_
      refine yy_ic_ne (tgt := 27) F d_M_create_20 (n := 23) rfl (by decide) (fun hm => ?_) (fun hm => ?_)
      · have hm9 : ¬ k_m σ = 10 := fun q => hm (by rw [q]; rfl)
        have hmd : (!decide (k_m σ = 10)) = true := by simp [hm9]
        have hml : k_m σ < 10 := by omega
        refine yy_iconst (v := 0) F d_M_create_27 (n := 28) rfl rfl ?_
        refine ma_code F X g_M_55_M hP hS d_M_create_28 (n' := 31) rfl (fun Hw_3 locs_w_3 Pw_3 kw_3 Sw_3 => ?_)
        have kw_3 := kpm.rf.tr kw_3
        refine yy_aload_n F d_M_create_31 (n := 32) rfl 0 rfl ?_
        refine yy_get F X.1 X.2.1 g_M_55_M Pw_3.o rfl d_M_create_32 (n := 35) rfl ?_
        refine yy_if_le_t (tgt := 42) F d_M_create_35 (by decide) (by decide) ?_
        refine yy_aload_n F d_M_create_42 (n := 43) rfl 0 rfl ?_
        refine yy_iload_n F d_M_create_43 (n := 44) rfl 1 rfl ?_
        refine yy_iconst (v := (-1)) F d_M_create_44 (n := 45) rfl rfl ?_
        refine yy_ci F Sw_3 (c_M_make (k := x) X I R hml (Or.inl ⟨rfl, rfl⟩)) (yy_Bc F X.1 q_910 q_3) (yy_invV (nA := 2) (C := R_M) (bytes := b_M_make) (maxL := 4) (retY := (some .int)) F X.1 q_907 q_909 qs_M_make q_910 ⟨by decide, by decide, by decide +kernel⟩ (yy_recv F.N X.2.1 (ci := 6) rfl Pw_3.o) rfl d_M_create_45) d_M_create_45 (n := 48) rfl (by simp [Value.category]) ⟨by decide, by decide⟩ ⟨Nat.zero_le _, Nat.zero_le _⟩ ⟨rfl, rfl⟩ Pw_3 (fun r_w_4 Hw_4 locs_w_4 qw_4 Sw_4 => ?_)
        obtain ⟨e_r, s1, M1, P1, k1⟩ := qw_4
        have k1 := kw_3.tr k1
        have R1 := M1.B R hml n6 n7
        exact yy_iret F Sw_4 ⟨Nat.zero_le _, Nat.zero_le _⟩ rfl d_M_create_48 (mq_i (o := none) (v := (nI (k_m σ))) (σ := (k_newB σ x)) (by unfold sp_create; rw [hb5, hmd]; rfl) R1 P1 k1 (by decide) (fun _ => e_r))
      · have hm9 : k_m σ = 10 := (nI_eq (by omega) (by omega)).mp (show nI (k_m σ) = nI 10 from hm)
        have hmd : (!decide (k_m σ = 10)) = false := by simp [hm9]
        refine yy_iconst (v := 2) F d_M_create_23 (n := 24) rfl rfl ?_
        refine yy_goto (tgt := 28) F d_M_create_24 (by decide) ?_
        refine ma_code F X g_M_55_M hP hS d_M_create_28 (n' := 31) rfl (fun Hw_5 locs_w_5 Pw_5 kw_5 Sw_5 => ?_)
        have kw_5 := kpm.rf.tr kw_5
        refine yy_aload_n F d_M_create_31 (n := 32) rfl 0 rfl ?_
        refine yy_get F X.1 X.2.1 g_M_55_M Pw_5.o rfl d_M_create_32 (n := 35) rfl ?_
        refine yy_if_le_f (tgt := 42) F d_M_create_35 (n := 38) rfl (by decide) (by decide) ?_
        refine yy_iconst (v := 0) F d_M_create_38 (n := 39) rfl rfl ?_
        refine yy_goto (tgt := 48) F d_M_create_39 (by decide) ?_
        exact yy_iret F Sw_5 ⟨Nat.zero_le _, Nat.zero_le _⟩ rfl d_M_create_48 (mq_i (o := some e_is) (v := 0) (σ := σ) (by unfold sp_create; rw [hb5, hmd]; rfl) R Pw_5 kw_5 (by decide) (fun h => by cases h))
    · refine yy_iconst (v := 1) F d_M_create_10 (n := 11) rfl rfl ?_
      refine yy_goto (tgt := 28) F d_M_create_11 (by decide) ?_
      refine ma_code F X g_M_55_M hP hS d_M_create_28 (n' := 31) rfl (fun Hw_2 locs_w_2 Pw_2 kw_2 Sw_2 => ?_)
      have kw_2 := kpm.rf.tr kw_2
      refine yy_aload_n F d_M_create_31 (n := 32) rfl 0 rfl ?_
      refine yy_get F X.1 X.2.1 g_M_55_M Pw_2.o rfl d_M_create_32 (n := 35) rfl ?_
      refine yy_if_le_f (tgt := 42) F d_M_create_35 (n := 38) rfl (by decide) (by decide) ?_
      refine yy_iconst (v := 0) F d_M_create_38 (n := 39) rfl rfl ?_
      refine yy_goto (tgt := 48) F d_M_create_39 (by decide) ?_
      exact yy_iret F Sw_2 ⟨Nat.zero_le _, Nat.zero_le _⟩ rfl d_M_create_48 (mq_i (o := some e_ia) (v := 0) (σ := σ) (by unfold sp_create; rw [show k_btw x 5 = false by simp [k_btw, Int32.not_le.mp h5]]; rfl) R Pw_2 kw_2 (by decide) (fun h => by cases h))
set_option maxRecDepth 100000 in
set_option maxHeartbeats 4000000 in
theorem c_M_view {l : Launch} {z : State} {a0 : Array Value} {D : va_G} {ca : kca} (X : kcx l z a0 D ca) {a n : Nat} {cd : Int32} {s : ms} {σ : ks} {t : Nat} (I : iv t σ) (R : mr s σ) {o x y : Int32} : yy_M l z y_M_view (.code y_M_view b_M_view 8 (some .int)) ({ frames := 2, cells := 0, slots := 0, locals := 45 }) [.ref a, .int o, .int x, .int y] (mo_at D ca z a n cd s) (mqi D ca z a n [e_io, e_uo, e_ia, e_is, e_rt] (sp_view σ o x y)) := by
  refine yy_body (plainFor_of_name (by decide)) (Nat.le_of_ble_eq_true rfl) (fun b H F hS hP hH hnm => ?_)
  have h10 := I.m10
  refine yy_aload_n F d_M_view_0 (n := 1) rfl 0 rfl ?_
  refine yy_aload_n F d_M_view_1 (n := 2) rfl 0 rfl ?_
  refine yy_iload_n F d_M_view_2 (n := 3) rfl 1 rfl ?_
  refine yy_cri (w := (ym_n (ym_inb o (k_m σ)))) F hS (c_M_isThere (x := o) X I R) (yy_Bc F X.1 q_918 q_3) (yy_invV (nA := 1) (C := R_M) (bytes := b_M_isThere) (maxL := 2) (retY := (some .boolean)) F X.1 q_915 q_917 qs_M_isThere q_918 ⟨by decide, by decide, by decide +kernel⟩ (yy_recv F.N X.2.1 (ci := 6) rfl hP.o) rfl d_M_view_3) d_M_view_3 (n := 6) rfl (by simp [Value.category]) ⟨by decide, by decide⟩ ⟨Nat.zero_le _, Nat.zero_le _⟩ ⟨rfl, rfl⟩ hP rfl (fun _ hSw_1 => ?_)
  cases hin : ym_inb o (k_m σ)
  · refine yy_if_ne_f (tgt := 13) F d_M_view_6 (n := 9) rfl (by decide) rfl ?_
    refine yy_iconst (v := 1) F d_M_view_9 (n := 10) rfl rfl ?_
    refine yy_goto (tgt := 46) F d_M_view_10 (by decide) ?_
    refine ma_code F X g_M_55_M hP hSw_1 d_M_view_46 (n' := 49) rfl (fun Hw_2 locs_w_2 Pw_2 kw_2 Sw_2 => ?_)
    have kw_2 := kpm.rf.tr kw_2
    refine yy_aload_n F d_M_view_49 (n := 50) rfl 0 rfl ?_
    refine yy_get F X.1 X.2.1 g_M_55_M Pw_2.o rfl d_M_view_50 (n := 53) rfl ?_
    refine yy_if_le_f (tgt := 58) F d_M_view_53 (n := 56) rfl (by decide) (by decide) ?_
    refine yy_iconst (v := 0) F d_M_view_56 (n := 57) rfl rfl ?_
    exact yy_iret F Sw_2 ⟨Nat.zero_le _, Nat.zero_le _⟩ rfl d_M_view_57 (mq_i (o := some e_io) (v := 0) (σ := σ) (by unfold sp_view; unfold ch_con; rw [hin]; rfl) R Pw_2 kw_2 (by decide) (fun h => by cases h))
  · refine yy_if_ne_t (tgt := 13) F d_M_view_6 (by decide) (by decide) ?_
    obtain ⟨hco, exo⟩ := inb_cN (by omega) hin
    rw [show (Value.int o) = Value.int (nI (cN o)) from congrArg Value.int exo]
    have hb := I.bs hco
    have h24 := I.ct hco
    refine yy_aload_n F d_M_view_13 (n := 14) rfl 0 rfl ?_
    refine yy_iload_n F d_M_view_14 (n := 15) rfl 1 rfl ?_
    refine yy_cri (w := (ym_n (k_isl (k_kd σ (cN o))))) F hSw_1 (c_M_isList X I R hco) (yy_Bc F X.1 q_922 q_3) (yy_invV (nA := 1) (C := R_M) (bytes := b_M_isList) (maxL := 2) (retY := (some .boolean)) F X.1 q_919 q_921 qs_M_isList q_922 ⟨by decide, by decide, by decide +kernel⟩ (yy_recv F.N X.2.1 (ci := 6) rfl hP.o) rfl d_M_view_15) d_M_view_15 (n := 18) rfl (by simp [Value.category]) ⟨by decide, by decide⟩ ⟨Nat.zero_le _, Nat.zero_le _⟩ ⟨rfl, rfl⟩ hP rfl (fun _ hSw_3 => ?_)
    cases hl : k_isl (k_kd σ (cN o))
    · refine yy_if_ne_f (tgt := 33) F d_M_view_18 (n := 21) rfl (by decide) rfl ?_
      refine yy_aload_n F d_M_view_21 (n := 22) rfl 0 rfl ?_
      refine yy_iload_n F d_M_view_22 (n := 23) rfl 1 rfl ?_
      refine yy_cri (w := (ym_n (k_iss (k_kd σ (cN o))))) F hSw_3 (c_M_isTree X I R hco) (yy_Bc F X.1 q_926 q_3) (yy_invV (nA := 1) (C := R_M) (bytes := b_M_isTree) (maxL := 2) (retY := (some .boolean)) F X.1 q_923 q_925 qs_M_isTree q_926 ⟨by decide, by decide, by decide +kernel⟩ (yy_recv F.N X.2.1 (ci := 6) rfl hP.o) rfl d_M_view_23) d_M_view_23 (n := 26) rfl (by simp [Value.category]) ⟨by decide, by decide⟩ ⟨Nat.zero_le _, Nat.zero_le _⟩ ⟨rfl, rfl⟩ hP rfl (fun _ hSw_4 => ?_)
      cases hT : k_iss (k_kd σ (cN o))
      · refine yy_if_ne_f (tgt := 33) F d_M_view_26 (n := 29) rfl (by decide) rfl ?_
        refine yy_iconst (v := 2) F d_M_view_29 (n := 30) rfl rfl ?_
        refine yy_goto (tgt := 46) F d_M_view_30 (by decide) ?_
        refine ma_code F X g_M_55_M hP hSw_4 d_M_view_46 (n' := 49) rfl (fun Hw_5 locs_w_5 Pw_5 kw_5 Sw_5 => ?_)
        have kw_5 := kpm.rf.tr kw_5
        refine yy_aload_n F d_M_view_49 (n := 50) rfl 0 rfl ?_
        refine yy_get F X.1 X.2.1 g_M_55_M Pw_5.o rfl d_M_view_50 (n := 53) rfl ?_
        refine yy_if_le_f (tgt := 58) F d_M_view_53 (n := 56) rfl (by decide) (by decide) ?_
        refine yy_iconst (v := 0) F d_M_view_56 (n := 57) rfl rfl ?_
        exact yy_iret F Sw_5 ⟨Nat.zero_le _, Nat.zero_le _⟩ rfl d_M_view_57 (mq_i (o := some e_uo) (v := 0) (σ := σ) (by unfold sp_view; unfold ch_con; rw [hin, hl, hT]; rfl) R Pw_5 kw_5 (by decide) (fun h => by cases h))
      · refine yy_if_ne_t (tgt := 33) F d_M_view_26 (by decide) (by decide) ?_
        have hkk : (k_isl (k_kd σ (cN o)) || k_iss (k_kd σ (cN o))) = true := by rw [hT, Bool.or_true]
        refine yy_aload_n F d_M_view_33 (n := 34) rfl 0 rfl ?_
        refine yy_iload_n F d_M_view_34 (n := 35) rfl 1 rfl ?_
        refine yy_cri (w := (ym_n (k_stale σ (cN o)))) F hSw_4 (c_M_isStale X I R hco) (yy_Bc F X.1 q_930 q_3) (yy_invV (nA := 1) (C := R_M) (bytes := b_M_isStale) (maxL := 4) (retY := (some .boolean)) F X.1 q_927 q_929 qs_M_isStale q_930 ⟨by decide, by decide, by decide +kernel⟩ (yy_recv F.N X.2.1 (ci := 6) rfl hP.o) rfl d_M_view_35) d_M_view_35 (n := 38) rfl (by simp [Value.category]) ⟨by decide, by decide⟩ ⟨Nat.zero_le _, Nat.zero_le _⟩ ⟨rfl, rfl⟩ hP rfl (fun _ hSw_6 => ?_)
        cases hs : k_stale σ (cN o)
        · refine yy_if_eq_t (tgt := 45) F d_M_view_38 (by decide) rfl ?_
          refine yy_iconst (v := 0) F d_M_view_45 (n := 46) rfl rfl ?_
          refine ma_code F X g_M_55_M hP hSw_6 d_M_view_46 (n' := 49) rfl (fun Hw_7 locs_w_7 Pw_7 kw_7 Sw_7 => ?_)
          have kw_7 := kpm.rf.tr kw_7
          refine yy_aload_n F d_M_view_49 (n := 50) rfl 0 rfl ?_
          refine yy_get F X.1 X.2.1 g_M_55_M Pw_7.o rfl d_M_view_50 (n := 53) rfl ?_
          refine yy_if_le_t (tgt := 58) F d_M_view_53 (by decide) (by decide) ?_
          refine yy_iload_n F d_M_view_58 (n := 59) rfl 2 rfl ?_
          refine yy_iload_n F d_M_view_59 (n := 60) rfl 3 rfl ?_
          refine yy_ic_gt (tgt := 88) F d_M_view_60 (n := 63) rfl (by decide) (fun h1 => ?_) (fun h1 => ?_)
          · refine yy_iconst (v := 0) F d_M_view_88 (n := 89) rfl rfl ?_
            refine yy_istore (lv' := [(4, .int 0), (0, .ref a), (1, .int (nI (cN o))), (2, .int x), (3, .int y)]) F d_M_view_89 (n := 91) rfl (by decide) rfl ?_
            refine yy_aload_n F d_M_view_91 (n := 92) rfl 1 rfl ?_
            refine yy_iload F d_M_view_92 (n := 94) rfl 0 rfl ?_
            refine yy_if_ne_f (tgt := 101) F d_M_view_94 (n := 97) rfl (by decide) (by decide) ?_
            refine yy_iconst (v := 3) F d_M_view_97 (n := 98) rfl rfl ?_
            refine yy_goto (tgt := 115) F d_M_view_98 (by decide) ?_
            refine ma_code F X g_M_55_M Pw_7 Sw_7 d_M_view_115 (n' := 118) rfl (fun Hw_8 locs_w_8 Pw_8 kw_8 Sw_8 => ?_)
            have kw_8 := kw_7.tr kw_8
            refine yy_aload_n F d_M_view_118 (n := 119) rfl 1 rfl ?_
            refine yy_get F X.1 X.2.1 g_M_55_M Pw_8.o rfl d_M_view_119 (n := 122) rfl ?_
            refine yy_if_le_f (tgt := 127) F d_M_view_122 (n := 125) rfl (by decide) (by decide) ?_
            refine yy_iconst (v := 0) F d_M_view_125 (n := 126) rfl rfl ?_
            exact yy_iret F Sw_8 ⟨Nat.zero_le _, Nat.zero_le _⟩ rfl d_M_view_126 (mq_i (o := some e_ia) (v := 0) (σ := σ) (by unfold sp_view; unfold ch_con; rw [hin, hkk, hs, show k_vok σ (cN o) x y = false by simp [k_vok, h1]]; rfl) R Pw_8 kw_8 (by decide) (fun h => by cases h))
          · refine yy_aload_n F d_M_view_63 (n := 64) rfl 0 rfl ?_
            refine yy_iload_n F d_M_view_64 (n := 65) rfl 1 rfl ?_
            refine yy_cri (w := 1) F Sw_7 (c_M_isTree X I R hco) (yy_Bc F X.1 q_926 q_3) (yy_invV (nA := 1) (C := R_M) (bytes := b_M_isTree) (maxL := 2) (retY := (some .boolean)) F X.1 q_923 q_925 qs_M_isTree q_926 ⟨by decide, by decide, by decide +kernel⟩ (yy_recv F.N X.2.1 (ci := 6) rfl Pw_7.o) rfl d_M_view_65) d_M_view_65 (n := 68) rfl (by simp [Value.category]) ⟨by decide, by decide⟩ ⟨Nat.zero_le _, Nat.zero_le _⟩ ⟨rfl, rfl⟩ Pw_7 (by rw [hT]; rfl) (fun _ hSw_9 => ?_)
            refine yy_if_ne_t (tgt := 84) F d_M_view_68 (by decide) (by decide) ?_
            refine yy_iconst (v := 1) F d_M_view_84 (n := 85) rfl rfl ?_
            refine yy_goto (tgt := 89) F d_M_view_85 (by decide) ?_
            refine yy_istore (lv' := [(4, .int 1), (0, .ref a), (1, .int (nI (cN o))), (2, .int x), (3, .int y)]) F d_M_view_89 (n := 91) rfl (by decide) rfl ?_
            refine yy_aload_n F d_M_view_91 (n := 92) rfl 1 rfl ?_
            refine yy_iload F d_M_view_92 (n := 94) rfl 0 rfl ?_
            refine yy_if_ne_t (tgt := 101) F d_M_view_94 (by decide) (by decide) ?_
            refine yy_aload_n F d_M_view_101 (n := 102) rfl 1 rfl ?_
            refine yy_get F X.1 X.2.1 g_M_59_M Pw_7.o rfl d_M_view_102 (n := 105) rfl ?_
            refine yy_tope (y := (nI (k_m σ))) (by rw [R.1]) ?_
            refine yy_bipush (v := 10) F d_M_view_105 (n := 107) rfl rfl ?_
            have hv : k_vok σ (cN o) x y = true := by simp [k_vok, h1, hT]
            refine yy_ic_ne (tgt := 114) F d_M_view_107 (n := 110) rfl (by decide) (fun hm => ?_) (fun hm => ?_)
            · have hm9 : ¬ k_m σ = 10 := fun q => hm (by rw [q]; rfl)
              have hmd : (!decide (k_m σ = 10)) = true := by simp [hm9]
              have hml : k_m σ < 10 := by omega
              have hb := I.bs hco
              refine yy_iconst (v := 0) F d_M_view_114 (n := 115) rfl rfl ?_
              refine ma_code F X g_M_55_M Pw_7 hSw_9 d_M_view_115 (n' := 118) rfl (fun Hw_10 locs_w_10 Pw_10 kw_10 Sw_10 => ?_)
              have kw_10 := kw_7.tr kw_10
              refine yy_aload_n F d_M_view_118 (n := 119) rfl 1 rfl ?_
              refine yy_get F X.1 X.2.1 g_M_55_M Pw_10.o rfl d_M_view_119 (n := 122) rfl ?_
              refine yy_if_le_t (tgt := 127) F d_M_view_122 (by decide) (by decide) ?_
              refine yy_aload_n F d_M_view_127 (n := 128) rfl 1 rfl ?_
              refine yy_iload_n F d_M_view_128 (n := 129) rfl 2 rfl ?_
              refine yy_cri (w := 1) F Sw_10 (c_M_isTree X I R hco) (yy_Bc F X.1 q_926 q_3) (yy_invV (nA := 1) (C := R_M) (bytes := b_M_isTree) (maxL := 2) (retY := (some .boolean)) F X.1 q_923 q_925 qs_M_isTree q_926 ⟨by decide, by decide, by decide +kernel⟩ (yy_recv F.N X.2.1 (ci := 6) rfl Pw_10.o) rfl d_M_view_129) d_M_view_129 (n := 132) rfl (by simp [Value.category]) ⟨by decide, by decide⟩ ⟨Nat.zero_le _, Nat.zero_le _⟩ ⟨rfl, rfl⟩ Pw_10 (by rw [hT]; rfl) (fun _ hSw_11 => ?_)
              refine yy_istore (lv' := [(5, .int 1), (4, .int 1), (0, .ref a), (1, .int (nI (cN o))), (2, .int x), (3, .int y)]) F d_M_view_132 (n := 134) rfl (by decide) rfl ?_
              refine yy_aload_n F d_M_view_134 (n := 135) rfl 2 rfl ?_
              refine yy_iload F d_M_view_135 (n := 137) rfl 0 rfl ?_
              refine yy_if_eq_f (tgt := 145) F d_M_view_137 (n := 140) rfl (by decide) (by decide) ?_
              refine yy_bipush (v := 7) F d_M_view_140 (n := 142) rfl rfl ?_
              refine yy_goto (tgt := 147) F d_M_view_142 (by decide) ?_
              refine yy_iload_n F d_M_view_147 (n := 148) rfl 3 rfl ?_
              refine yy_ci F hSw_11 (c_M_make (k := 7) X I R hml (Or.inr ⟨cN o, hco, rfl, rfl⟩)) (yy_Bc F X.1 q_910 q_3) (yy_invV (nA := 2) (C := R_M) (bytes := b_M_make) (maxL := 4) (retY := (some .int)) F X.1 q_907 q_909 qs_M_make q_910 ⟨by decide, by decide, by decide +kernel⟩ (yy_recv F.N X.2.1 (ci := 6) rfl Pw_10.o) rfl d_M_view_148) d_M_view_148 (n := 151) rfl (by simp [Value.category]) ⟨by decide, by decide⟩ ⟨Nat.zero_le _, Nat.zero_le _⟩ ⟨rfl, rfl⟩ Pw_10 (fun r_w_12 Hw_12 locs_w_12 qw_12 Sw_12 => ?_)
              obtain ⟨e_r, s1, M1, P1, k1⟩ := qw_12
              have k1 := kw_10.tr k1
              obtain ⟨m1, m2, m3, m4, m5, m6, m7, m8, m9⟩ := M1
              have hne : cN o ≠ k_m σ := by omega
              have hneb : k_bs σ (cN o) ≠ k_m σ := by omega
              refine yy_tope (y := (nI (k_m σ))) e_r ?_
              refine yy_istore (lv' := [(6, .int (nI (k_m σ))), (5, .int 1), (4, .int 1), (0, .ref a), (1, .int (nI (cN o))), (2, .int x), (3, .int y)]) F d_M_view_151 (n := 153) rfl (by decide) rfl ?_
              refine yy_iload F d_M_view_153 (n := 155) rfl 1 rfl ?_
              refine yy_if_eq_f (tgt := 243) F d_M_view_155 (n := 158) rfl (by decide) (by decide) ?_
              refine yy_aload_n F d_M_view_158 (n := 159) rfl 3 rfl ?_
              refine yy_get F X.1 X.2.1 g_M_7_M P1.o rfl d_M_view_159 (n := 162) rfl ?_
              refine yy_iload_n F d_M_view_162 (n := 163) rfl 4 rfl ?_
              refine ma_ld (j := 0) (i := (cN o)) F X P1 (by decide) (show cN o < 10 by omega) d_M_view_163 (n' := 164) rfl ?_
              refine yy_tope (y := (k_kd σ (cN o))) (by show s1.2 0 (cN o) = _; rw [m3 0 _ hne]; exact R.kd hco) ?_
              refine yy_bipush (v := 7) F d_M_view_164 (n := 166) rfl rfl ?_
              refine yy_ic_ne (tgt := 173) F d_M_view_166 (n := 169) rfl (by decide) (fun h7 => ?_) (fun h7 => ?_)
              · refine yy_iconst (v := 0) F d_M_view_173 (n := 174) rfl rfl ?_
                refine yy_istore (lv' := [(7, .int 0), (6, .int (nI (k_m σ))), (5, .int 1), (4, .int 1), (0, .ref a), (1, .int (nI (cN o))), (2, .int x), (3, .int y)]) F d_M_view_174 (n := 176) rfl (by decide) rfl ?_
                refine yy_aload_n F d_M_view_176 (n := 177) rfl 4 rfl ?_
                refine yy_get F X.1 X.2.1 g_M_34_M P1.o rfl d_M_view_177 (n := 180) rfl ?_
                refine yy_iload F d_M_view_180 (n := 182) rfl 1 rfl ?_
                refine yy_iload F d_M_view_182 (n := 184) rfl 0 rfl ?_
                refine yy_if_eq_t (tgt := 206) F d_M_view_184 (by decide) (by decide) ?_
                refine yy_iload_n F d_M_view_206 (n := 207) rfl 6 rfl ?_
                refine ma_st (j := 8) (i := (k_m σ)) F X P1 Sw_12 (by decide) (show k_m σ < 10 by omega) d_M_view_207 (n' := 208) rfl (fun Hw_13 locs_w_13 Pw_13 kw_13 Sw_13 => ?_)
                have kw_13 := k1.tr kw_13
                refine yy_aload_n F d_M_view_208 (n := 209) rfl 4 rfl ?_
                refine yy_get F X.1 X.2.1 g_M_37_M Pw_13.o rfl d_M_view_209 (n := 212) rfl ?_
                refine yy_iload F d_M_view_212 (n := 214) rfl 1 rfl ?_
                refine yy_iload F d_M_view_214 (n := 216) rfl 0 rfl ?_
                refine yy_if_eq_t (tgt := 238) F d_M_view_216 (by decide) (by decide) ?_
                refine yy_iload_n F d_M_view_238 (n := 239) rfl 7 rfl ?_
                refine ma_st (j := 9) (i := (k_m σ)) F X Pw_13 Sw_13 (by decide) (show k_m σ < 10 by omega) d_M_view_239 (n' := 240) rfl (fun Hw_14 locs_w_14 Pw_14 kw_14 Sw_14 => ?_)
                have kw_14 := kw_13.tr kw_14
                have hvw : k_vw σ (cN o) x y = (7, k_bs σ (cN o), cN o, 0, 0, 0, x, y) := by
                  unfold k_vw
                  rw [if_pos hT, if_neg h7, if_neg h7]
                have R2 : mr (m_set (m_set s1 8 (k_m σ) x) 9 (k_m σ) y) (k_newV σ (k_vw σ (cN o) x y)) := by
                  rw [hvw]
                  refine R.newV hb m1 (fun j hj => ?_) (fun j i hi => (m_set_x _ _ _ hi).trans ((m_set_x _ _ _ hi).trans (m3 j i hi))) m4 m6 (fun q => absurd (show (7 : Int32) = 6 from q) (by decide)) (fun _ => ⟨?_, ?_⟩)
                  · rw [m_set_o _ _ (by omega), m_set_o _ _ (by omega)]
                    exact m2 j (by omega)
                  · show upd _ (k_m σ) _ (k_m σ) = _
                    exact upd_s _ _ _
                  · show upd _ (k_m σ) _ (k_m σ) = _
                    exact upd_s _ _ _
                refine yy_iload F d_M_view_240 (n := 242) rfl 1 rfl ?_
                exact yy_iret F Sw_14 ⟨Nat.zero_le _, Nat.zero_le _⟩ rfl d_M_view_242 (mq_i (o := none) (v := (nI (k_m σ))) (σ := (k_newV σ (k_vw σ (cN o) x y))) (by unfold sp_view; unfold ch_con; rw [hin, hkk, hs, hv, hmd]; rfl) R2 Pw_14 kw_14 (by decide) (fun _ => rfl))
              · refine yy_iconst (v := 1) F d_M_view_169 (n := 170) rfl rfl ?_
                refine yy_goto (tgt := 174) F d_M_view_170 (by decide) ?_
                refine yy_istore (lv' := [(7, .int 1), (6, .int (nI (k_m σ))), (5, .int 1), (4, .int 1), (0, .ref a), (1, .int (nI (cN o))), (2, .int x), (3, .int y)]) F d_M_view_174 (n := 176) rfl (by decide) rfl ?_
                refine yy_aload_n F d_M_view_176 (n := 177) rfl 4 rfl ?_
                refine yy_get F X.1 X.2.1 g_M_34_M P1.o rfl d_M_view_177 (n := 180) rfl ?_
                refine yy_iload F d_M_view_180 (n := 182) rfl 1 rfl ?_
                refine yy_iload F d_M_view_182 (n := 184) rfl 0 rfl ?_
                refine yy_if_eq_f (tgt := 206) F d_M_view_184 (n := 187) rfl (by decide) (by decide) ?_
                refine yy_aload_n F d_M_view_187 (n := 188) rfl 4 rfl ?_
                refine yy_get F X.1 X.2.1 g_M_34_M P1.o rfl d_M_view_188 (n := 191) rfl ?_
                refine yy_iload_n F d_M_view_191 (n := 192) rfl 5 rfl ?_
                refine ma_ld (j := 8) (i := (cN o)) F X P1 (by decide) (show cN o < 10 by omega) d_M_view_192 (n' := 193) rfl ?_
                refine yy_tope (y := (k_lo σ (cN o))) (by show s1.2 8 (cN o) = _; rw [m2 8 (by omega)]; exact R.lo hco h7) ?_
                refine yy_iload_n F d_M_view_193 (n := 194) rfl 6 rfl ?_
                refine yy_ic_le (tgt := 206) F d_M_view_194 (n := 197) rfl (by decide) (fun h8 => ?_) (fun h8 => ?_)
                · refine yy_iload_n F d_M_view_206 (n := 207) rfl 6 rfl ?_
                  refine ma_st (j := 8) (i := (k_m σ)) F X P1 Sw_12 (by decide) (show k_m σ < 10 by omega) d_M_view_207 (n' := 208) rfl (fun Hw_15 locs_w_15 Pw_15 kw_15 Sw_15 => ?_)
                  have kw_15 := k1.tr kw_15
                  refine yy_aload_n F d_M_view_208 (n := 209) rfl 4 rfl ?_
                  refine yy_get F X.1 X.2.1 g_M_37_M Pw_15.o rfl d_M_view_209 (n := 212) rfl ?_
                  refine yy_iload F d_M_view_212 (n := 214) rfl 1 rfl ?_
                  refine yy_iload F d_M_view_214 (n := 216) rfl 0 rfl ?_
                  refine yy_if_eq_f (tgt := 238) F d_M_view_216 (n := 219) rfl (by decide) (by decide) ?_
                  refine yy_aload_n F d_M_view_219 (n := 220) rfl 4 rfl ?_
                  refine yy_get F X.1 X.2.1 g_M_37_M Pw_15.o rfl d_M_view_220 (n := 223) rfl ?_
                  refine yy_iload_n F d_M_view_223 (n := 224) rfl 5 rfl ?_
                  refine ma_ld (j := 9) (i := (cN o)) F X Pw_15 (by decide) (show cN o < 10 by omega) d_M_view_224 (n' := 225) rfl ?_
                  refine yy_tope (y := (k_hi σ (cN o))) (by show s1.2 9 (cN o) = _; rw [m2 9 (by omega)]; exact R.hi hco h7) ?_
                  refine yy_iload_n F d_M_view_225 (n := 226) rfl 7 rfl ?_
                  refine yy_ic_ge (tgt := 238) F d_M_view_226 (n := 229) rfl (by decide) (fun h9 => ?_) (fun h9 => ?_)
                  · refine yy_iload_n F d_M_view_238 (n := 239) rfl 7 rfl ?_
                    refine ma_st (j := 9) (i := (k_m σ)) F X Pw_15 Sw_15 (by decide) (show k_m σ < 10 by omega) d_M_view_239 (n' := 240) rfl (fun Hw_16 locs_w_16 Pw_16 kw_16 Sw_16 => ?_)
                    have kw_16 := kw_15.tr kw_16
                    have hvw : k_vw σ (cN o) x y = (7, k_bs σ (cN o), cN o, 0, 0, 0, x, y) := by
                      unfold k_vw
                      rw [if_pos hT, if_pos h7, if_pos h7]
                      unfold ym_mx ym_mn
                      rw [if_neg (Int32.not_lt.mpr h8), if_neg (Int32.not_lt.mpr h9)]
                    have R2 : mr (m_set (m_set s1 8 (k_m σ) x) 9 (k_m σ) y) (k_newV σ (k_vw σ (cN o) x y)) := by
                      rw [hvw]
                      refine R.newV hb m1 (fun j hj => ?_) (fun j i hi => (m_set_x _ _ _ hi).trans ((m_set_x _ _ _ hi).trans (m3 j i hi))) m4 m6 (fun q => absurd (show (7 : Int32) = 6 from q) (by decide)) (fun _ => ⟨?_, ?_⟩)
                      · rw [m_set_o _ _ (by omega), m_set_o _ _ (by omega)]
                        exact m2 j (by omega)
                      · show upd _ (k_m σ) _ (k_m σ) = _
                        exact upd_s _ _ _
                      · show upd _ (k_m σ) _ (k_m σ) = _
                        exact upd_s _ _ _
                    refine yy_iload F d_M_view_240 (n := 242) rfl 1 rfl ?_
                    exact yy_iret F Sw_16 ⟨Nat.zero_le _, Nat.zero_le _⟩ rfl d_M_view_242 (mq_i (o := none) (v := (nI (k_m σ))) (σ := (k_newV σ (k_vw σ (cN o) x y))) (by unfold sp_view; unfold ch_con; rw [hin, hkk, hs, hv, hmd]; rfl) R2 Pw_16 kw_16 (by decide) (fun _ => rfl))
                  · refine yy_aload_n F d_M_view_229 (n := 230) rfl 4 rfl ?_
                    refine yy_get F X.1 X.2.1 g_M_37_M Pw_15.o rfl d_M_view_230 (n := 233) rfl ?_
                    refine yy_iload_n F d_M_view_233 (n := 234) rfl 5 rfl ?_
                    refine ma_ld (j := 9) (i := (cN o)) F X Pw_15 (by decide) (show cN o < 10 by omega) d_M_view_234 (n' := 235) rfl ?_
                    refine yy_tope (y := (k_hi σ (cN o))) (by show s1.2 9 (cN o) = _; rw [m2 9 (by omega)]; exact R.hi hco h7) ?_
                    refine yy_goto (tgt := 239) F d_M_view_235 (by decide) ?_
                    refine ma_st (j := 9) (i := (k_m σ)) F X Pw_15 Sw_15 (by decide) (show k_m σ < 10 by omega) d_M_view_239 (n' := 240) rfl (fun Hw_17 locs_w_17 Pw_17 kw_17 Sw_17 => ?_)
                    have kw_17 := kw_15.tr kw_17
                    have hvw : k_vw σ (cN o) x y = (7, k_bs σ (cN o), cN o, 0, 0, 0, x, k_hi σ (cN o)) := by
                      unfold k_vw
                      rw [if_pos hT, if_pos h7, if_pos h7]
                      unfold ym_mx ym_mn
                      rw [if_neg (Int32.not_lt.mpr h8), if_pos (Int32.not_le.mp h9)]
                    have R2 : mr (m_set (m_set s1 8 (k_m σ) x) 9 (k_m σ) (k_hi σ (cN o))) (k_newV σ (k_vw σ (cN o) x y)) := by
                      rw [hvw]
                      refine R.newV hb m1 (fun j hj => ?_) (fun j i hi => (m_set_x _ _ _ hi).trans ((m_set_x _ _ _ hi).trans (m3 j i hi))) m4 m6 (fun q => absurd (show (7 : Int32) = 6 from q) (by decide)) (fun _ => ⟨?_, ?_⟩)
                      · rw [m_set_o _ _ (by omega), m_set_o _ _ (by omega)]
                        exact m2 j (by omega)
                      · show upd _ (k_m σ) _ (k_m σ) = _
                        exact upd_s _ _ _
                      · show upd _ (k_m σ) _ (k_m σ) = _
                        exact upd_s _ _ _
                    refine yy_iload F d_M_view_240 (n := 242) rfl 1 rfl ?_
                    exact yy_iret F Sw_17 ⟨Nat.zero_le _, Nat.zero_le _⟩ rfl d_M_view_242 (mq_i (o := none) (v := (nI (k_m σ))) (σ := (k_newV σ (k_vw σ (cN o) x y))) (by unfold sp_view; unfold ch_con; rw [hin, hkk, hs, hv, hmd]; rfl) R2 Pw_17 kw_17 (by decide) (fun _ => rfl))
                · refine yy_aload_n F d_M_view_197 (n := 198) rfl 4 rfl ?_
                  refine yy_get F X.1 X.2.1 g_M_34_M P1.o rfl d_M_view_198 (n := 201) rfl ?_
                  refine yy_iload_n F d_M_view_201 (n := 202) rfl 5 rfl ?_
                  refine ma_ld (j := 8) (i := (cN o)) F X P1 (by decide) (show cN o < 10 by omega) d_M_view_202 (n' := 203) rfl ?_
                  refine yy_tope (y := (k_lo σ (cN o))) (by show s1.2 8 (cN o) = _; rw [m2 8 (by omega)]; exact R.lo hco h7) ?_
                  refine yy_goto (tgt := 207) F d_M_view_203 (by decide) ?_
                  refine ma_st (j := 8) (i := (k_m σ)) F X P1 Sw_12 (by decide) (show k_m σ < 10 by omega) d_M_view_207 (n' := 208) rfl (fun Hw_18 locs_w_18 Pw_18 kw_18 Sw_18 => ?_)
                  have kw_18 := k1.tr kw_18
                  refine yy_aload_n F d_M_view_208 (n := 209) rfl 4 rfl ?_
                  refine yy_get F X.1 X.2.1 g_M_37_M Pw_18.o rfl d_M_view_209 (n := 212) rfl ?_
                  refine yy_iload F d_M_view_212 (n := 214) rfl 1 rfl ?_
                  refine yy_iload F d_M_view_214 (n := 216) rfl 0 rfl ?_
                  refine yy_if_eq_f (tgt := 238) F d_M_view_216 (n := 219) rfl (by decide) (by decide) ?_
                  refine yy_aload_n F d_M_view_219 (n := 220) rfl 4 rfl ?_
                  refine yy_get F X.1 X.2.1 g_M_37_M Pw_18.o rfl d_M_view_220 (n := 223) rfl ?_
                  refine yy_iload_n F d_M_view_223 (n := 224) rfl 5 rfl ?_
                  refine ma_ld (j := 9) (i := (cN o)) F X Pw_18 (by decide) (show cN o < 10 by omega) d_M_view_224 (n' := 225) rfl ?_
                  refine yy_tope (y := (k_hi σ (cN o))) (by show s1.2 9 (cN o) = _; rw [m2 9 (by omega)]; exact R.hi hco h7) ?_
                  refine yy_iload_n F d_M_view_225 (n := 226) rfl 7 rfl ?_
                  refine yy_ic_ge (tgt := 238) F d_M_view_226 (n := 229) rfl (by decide) (fun h9 => ?_) (fun h9 => ?_)
                  · refine yy_iload_n F d_M_view_238 (n := 239) rfl 7 rfl ?_
                    refine ma_st (j := 9) (i := (k_m σ)) F X Pw_18 Sw_18 (by decide) (show k_m σ < 10 by omega) d_M_view_239 (n' := 240) rfl (fun Hw_19 locs_w_19 Pw_19 kw_19 Sw_19 => ?_)
                    have kw_19 := kw_18.tr kw_19
                    have hvw : k_vw σ (cN o) x y = (7, k_bs σ (cN o), cN o, 0, 0, 0, k_lo σ (cN o), y) := by
                      unfold k_vw
                      rw [if_pos hT, if_pos h7, if_pos h7]
                      unfold ym_mx ym_mn
                      rw [if_pos (Int32.not_le.mp h8), if_neg (Int32.not_lt.mpr h9)]
                    have R2 : mr (m_set (m_set s1 8 (k_m σ) (k_lo σ (cN o))) 9 (k_m σ) y) (k_newV σ (k_vw σ (cN o) x y)) := by
                      rw [hvw]
                      refine R.newV hb m1 (fun j hj => ?_) (fun j i hi => (m_set_x _ _ _ hi).trans ((m_set_x _ _ _ hi).trans (m3 j i hi))) m4 m6 (fun q => absurd (show (7 : Int32) = 6 from q) (by decide)) (fun _ => ⟨?_, ?_⟩)
                      · rw [m_set_o _ _ (by omega), m_set_o _ _ (by omega)]
                        exact m2 j (by omega)
                      · show upd _ (k_m σ) _ (k_m σ) = _
                        exact upd_s _ _ _
                      · show upd _ (k_m σ) _ (k_m σ) = _
                        exact upd_s _ _ _
                    refine yy_iload F d_M_view_240 (n := 242) rfl 1 rfl ?_
                    exact yy_iret F Sw_19 ⟨Nat.zero_le _, Nat.zero_le _⟩ rfl d_M_view_242 (mq_i (o := none) (v := (nI (k_m σ))) (σ := (k_newV σ (k_vw σ (cN o) x y))) (by unfold sp_view; unfold ch_con; rw [hin, hkk, hs, hv, hmd]; rfl) R2 Pw_19 kw_19 (by decide) (fun _ => rfl))
                  · refine yy_aload_n F d_M_view_229 (n := 230) rfl 4 rfl ?_
                    refine yy_get F X.1 X.2.1 g_M_37_M Pw_18.o rfl d_M_view_230 (n := 233) rfl ?_
                    refine yy_iload_n F d_M_view_233 (n := 234) rfl 5 rfl ?_
                    refine ma_ld (j := 9) (i := (cN o)) F X Pw_18 (by decide) (show cN o < 10 by omega) d_M_view_234 (n' := 235) rfl ?_
                    refine yy_tope (y := (k_hi σ (cN o))) (by show s1.2 9 (cN o) = _; rw [m2 9 (by omega)]; exact R.hi hco h7) ?_
                    refine yy_goto (tgt := 239) F d_M_view_235 (by decide) ?_
                    refine ma_st (j := 9) (i := (k_m σ)) F X Pw_18 Sw_18 (by decide) (show k_m σ < 10 by omega) d_M_view_239 (n' := 240) rfl (fun Hw_20 locs_w_20 Pw_20 kw_20 Sw_20 => ?_)
                    have kw_20 := kw_18.tr kw_20
                    have hvw : k_vw σ (cN o) x y = (7, k_bs σ (cN o), cN o, 0, 0, 0, k_lo σ (cN o), k_hi σ (cN o)) := by
                      unfold k_vw
                      rw [if_pos hT, if_pos h7, if_pos h7]
                      unfold ym_mx ym_mn
                      rw [if_pos (Int32.not_le.mp h8), if_pos (Int32.not_le.mp h9)]
                    have R2 : mr (m_set (m_set s1 8 (k_m σ) (k_lo σ (cN o))) 9 (k_m σ) (k_hi σ (cN o))) (k_newV σ (k_vw σ (cN o) x y)) := by
                      rw [hvw]
                      refine R.newV hb m1 (fun j hj => ?_) (fun j i hi => (m_set_x _ _ _ hi).trans ((m_set_x _ _ _ hi).trans (m3 j i hi))) m4 m6 (fun q => absurd (show (7 : Int32) = 6 from q) (by decide)) (fun _ => ⟨?_, ?_⟩)
                      · rw [m_set_o _ _ (by omega), m_set_o _ _ (by omega)]
                        exact m2 j (by omega)
                      · show upd _ (k_m σ) _ (k_m σ) = _
                        exact upd_s _ _ _
                      · show upd _ (k_m σ) _ (k_m σ) = _
                        exact upd_s _ _ _
                    refine yy_iload F d_M_view_240 (n := 242) rfl 1 rfl ?_
                    exact yy_iret F Sw_20 ⟨Nat.zero_le _, Nat.zero_le _⟩ rfl d_M_view_242 (mq_i (o := none) (v := (nI (k_m σ))) (σ := (k_newV σ (k_vw σ (cN o) x y))) (by unfold sp_view; unfold ch_con; rw [hin, hkk, hs, hv, hmd]; rfl) R2 Pw_20 kw_20 (by decide) (fun _ => rfl))
            · have hm9 : k_m σ = 10 := (nI_eq (by omega) (by omega)).mp (show nI (k_m σ) = nI 10 from hm)
              have hmd : (!decide (k_m σ = 10)) = false := by simp [hm9]
              refine yy_iconst (v := 4) F d_M_view_110 (n := 111) rfl rfl ?_
              refine yy_goto (tgt := 115) F d_M_view_111 (by decide) ?_
              refine ma_code F X g_M_55_M Pw_7 hSw_9 d_M_view_115 (n' := 118) rfl (fun Hw_21 locs_w_21 Pw_21 kw_21 Sw_21 => ?_)
              have kw_21 := kw_7.tr kw_21
              refine yy_aload_n F d_M_view_118 (n := 119) rfl 1 rfl ?_
              refine yy_get F X.1 X.2.1 g_M_55_M Pw_21.o rfl d_M_view_119 (n := 122) rfl ?_
              refine yy_if_le_f (tgt := 127) F d_M_view_122 (n := 125) rfl (by decide) (by decide) ?_
              refine yy_iconst (v := 0) F d_M_view_125 (n := 126) rfl rfl ?_
              exact yy_iret F Sw_21 ⟨Nat.zero_le _, Nat.zero_le _⟩ rfl d_M_view_126 (mq_i (o := some e_is) (v := 0) (σ := σ) (by unfold sp_view; unfold ch_con; rw [hin, hkk, hs, hv, hmd]; rfl) R Pw_21 kw_21 (by decide) (fun h => by cases h))
        · refine yy_if_eq_f (tgt := 45) F d_M_view_38 (n := 41) rfl (by decide) (by decide) ?_
          refine yy_iconst (v := 5) F d_M_view_41 (n := 42) rfl rfl ?_
          refine yy_goto (tgt := 46) F d_M_view_42 (by decide) ?_
          refine ma_code F X g_M_55_M hP hSw_6 d_M_view_46 (n' := 49) rfl (fun Hw_22 locs_w_22 Pw_22 kw_22 Sw_22 => ?_)
          have kw_22 := kpm.rf.tr kw_22
          refine yy_aload_n F d_M_view_49 (n := 50) rfl 0 rfl ?_
          refine yy_get F X.1 X.2.1 g_M_55_M Pw_22.o rfl d_M_view_50 (n := 53) rfl ?_
          refine yy_if_le_f (tgt := 58) F d_M_view_53 (n := 56) rfl (by decide) (by decide) ?_
          refine yy_iconst (v := 0) F d_M_view_56 (n := 57) rfl rfl ?_
          exact yy_iret F Sw_22 ⟨Nat.zero_le _, Nat.zero_le _⟩ rfl d_M_view_57 (mq_i (o := some e_rt) (v := 0) (σ := σ) (by unfold sp_view; unfold ch_con; rw [hin, hkk, hs]; rfl) R Pw_22 kw_22 (by decide) (fun h => by cases h))
    · refine yy_if_ne_t (tgt := 33) F d_M_view_18 (by decide) (by decide) ?_
      have hkk : (k_isl (k_kd σ (cN o)) || k_iss (k_kd σ (cN o))) = true := by rw [hl, Bool.true_or]
      have hT : k_iss (k_kd σ (cN o)) = false := by
        have hq := (k_lbq I hco hl).2
        rcases hq with h | h | h <;> (rw [h]; decide)
      refine yy_aload_n F d_M_view_33 (n := 34) rfl 0 rfl ?_
      refine yy_iload_n F d_M_view_34 (n := 35) rfl 1 rfl ?_
      refine yy_cri (w := (ym_n (k_stale σ (cN o)))) F hSw_3 (c_M_isStale X I R hco) (yy_Bc F X.1 q_930 q_3) (yy_invV (nA := 1) (C := R_M) (bytes := b_M_isStale) (maxL := 4) (retY := (some .boolean)) F X.1 q_927 q_929 qs_M_isStale q_930 ⟨by decide, by decide, by decide +kernel⟩ (yy_recv F.N X.2.1 (ci := 6) rfl hP.o) rfl d_M_view_35) d_M_view_35 (n := 38) rfl (by simp [Value.category]) ⟨by decide, by decide⟩ ⟨Nat.zero_le _, Nat.zero_le _⟩ ⟨rfl, rfl⟩ hP rfl (fun _ hSw_23 => ?_)
      cases hs : k_stale σ (cN o)
      · refine yy_if_eq_t (tgt := 45) F d_M_view_38 (by decide) rfl ?_
        refine yy_iconst (v := 0) F d_M_view_45 (n := 46) rfl rfl ?_
        refine ma_code F X g_M_55_M hP hSw_23 d_M_view_46 (n' := 49) rfl (fun Hw_24 locs_w_24 Pw_24 kw_24 Sw_24 => ?_)
        have kw_24 := kpm.rf.tr kw_24
        refine yy_aload_n F d_M_view_49 (n := 50) rfl 0 rfl ?_
        refine yy_get F X.1 X.2.1 g_M_55_M Pw_24.o rfl d_M_view_50 (n := 53) rfl ?_
        refine yy_if_le_t (tgt := 58) F d_M_view_53 (by decide) (by decide) ?_
        refine yy_iload_n F d_M_view_58 (n := 59) rfl 2 rfl ?_
        refine yy_iload_n F d_M_view_59 (n := 60) rfl 3 rfl ?_
        refine yy_ic_gt (tgt := 88) F d_M_view_60 (n := 63) rfl (by decide) (fun h1 => ?_) (fun h1 => ?_)
        · refine yy_iconst (v := 0) F d_M_view_88 (n := 89) rfl rfl ?_
          refine yy_istore (lv' := [(4, .int 0), (0, .ref a), (1, .int (nI (cN o))), (2, .int x), (3, .int y)]) F d_M_view_89 (n := 91) rfl (by decide) rfl ?_
          refine yy_aload_n F d_M_view_91 (n := 92) rfl 1 rfl ?_
          refine yy_iload F d_M_view_92 (n := 94) rfl 0 rfl ?_
          refine yy_if_ne_f (tgt := 101) F d_M_view_94 (n := 97) rfl (by decide) (by decide) ?_
          refine yy_iconst (v := 3) F d_M_view_97 (n := 98) rfl rfl ?_
          refine yy_goto (tgt := 115) F d_M_view_98 (by decide) ?_
          refine ma_code F X g_M_55_M Pw_24 Sw_24 d_M_view_115 (n' := 118) rfl (fun Hw_25 locs_w_25 Pw_25 kw_25 Sw_25 => ?_)
          have kw_25 := kw_24.tr kw_25
          refine yy_aload_n F d_M_view_118 (n := 119) rfl 1 rfl ?_
          refine yy_get F X.1 X.2.1 g_M_55_M Pw_25.o rfl d_M_view_119 (n := 122) rfl ?_
          refine yy_if_le_f (tgt := 127) F d_M_view_122 (n := 125) rfl (by decide) (by decide) ?_
          refine yy_iconst (v := 0) F d_M_view_125 (n := 126) rfl rfl ?_
          exact yy_iret F Sw_25 ⟨Nat.zero_le _, Nat.zero_le _⟩ rfl d_M_view_126 (mq_i (o := some e_ia) (v := 0) (σ := σ) (by unfold sp_view; unfold ch_con; rw [hin, hkk, hs, show k_vok σ (cN o) x y = false by simp [k_vok, h1]]; rfl) R Pw_25 kw_25 (by decide) (fun h => by cases h))
        · refine yy_aload_n F d_M_view_63 (n := 64) rfl 0 rfl ?_
          refine yy_iload_n F d_M_view_64 (n := 65) rfl 1 rfl ?_
          refine yy_cri (w := 0) F Sw_24 (c_M_isTree X I R hco) (yy_Bc F X.1 q_926 q_3) (yy_invV (nA := 1) (C := R_M) (bytes := b_M_isTree) (maxL := 2) (retY := (some .boolean)) F X.1 q_923 q_925 qs_M_isTree q_926 ⟨by decide, by decide, by decide +kernel⟩ (yy_recv F.N X.2.1 (ci := 6) rfl Pw_24.o) rfl d_M_view_65) d_M_view_65 (n := 68) rfl (by simp [Value.category]) ⟨by decide, by decide⟩ ⟨Nat.zero_le _, Nat.zero_le _⟩ ⟨rfl, rfl⟩ Pw_24 (by rw [hT]; rfl) (fun _ hSw_26 => ?_)
          refine yy_if_ne_f (tgt := 84) F d_M_view_68 (n := 71) rfl (by decide) (by decide) ?_
          refine yy_iload_n F d_M_view_71 (n := 72) rfl 2 rfl ?_
          refine yy_if_lt (tgt := 88) F d_M_view_72 (n := 75) rfl (by decide) (fun h2 => ?_) (fun h2 => ?_)
          · refine yy_iconst (v := 0) F d_M_view_88 (n := 89) rfl rfl ?_
            refine yy_istore (lv' := [(4, .int 0), (0, .ref a), (1, .int (nI (cN o))), (2, .int x), (3, .int y)]) F d_M_view_89 (n := 91) rfl (by decide) rfl ?_
            refine yy_aload_n F d_M_view_91 (n := 92) rfl 1 rfl ?_
            refine yy_iload F d_M_view_92 (n := 94) rfl 0 rfl ?_
            refine yy_if_ne_f (tgt := 101) F d_M_view_94 (n := 97) rfl (by decide) (by decide) ?_
            refine yy_iconst (v := 3) F d_M_view_97 (n := 98) rfl rfl ?_
            refine yy_goto (tgt := 115) F d_M_view_98 (by decide) ?_
            refine ma_code F X g_M_55_M Pw_24 hSw_26 d_M_view_115 (n' := 118) rfl (fun Hw_27 locs_w_27 Pw_27 kw_27 Sw_27 => ?_)
            have kw_27 := kw_24.tr kw_27
            refine yy_aload_n F d_M_view_118 (n := 119) rfl 1 rfl ?_
            refine yy_get F X.1 X.2.1 g_M_55_M Pw_27.o rfl d_M_view_119 (n := 122) rfl ?_
            refine yy_if_le_f (tgt := 127) F d_M_view_122 (n := 125) rfl (by decide) (by decide) ?_
            refine yy_iconst (v := 0) F d_M_view_125 (n := 126) rfl rfl ?_
            exact yy_iret F Sw_27 ⟨Nat.zero_le _, Nat.zero_le _⟩ rfl d_M_view_126 (mq_i (o := some e_ia) (v := 0) (σ := σ) (by unfold sp_view; unfold ch_con; rw [hin, hkk, hs, show k_vok σ (cN o) x y = false by simp [k_vok, hT, h2]]; rfl) R Pw_27 kw_27 (by decide) (fun h => by cases h))
          · refine yy_iload_n F d_M_view_75 (n := 76) rfl 3 rfl ?_
            refine yy_aload_n F d_M_view_76 (n := 77) rfl 0 rfl ?_
            refine yy_iload_n F d_M_view_77 (n := 78) rfl 1 rfl ?_
            refine yy_cri (w := (nI (k_size σ (cN o)))) F hSw_26 (c_M_sizeOf X I R hco) (yy_Bc F X.1 q_934 q_3) (yy_invV (nA := 1) (C := R_M) (bytes := b_M_sizeOf) (maxL := 4) (retY := (some .int)) F X.1 q_931 q_933 qs_M_sizeOf q_934 ⟨by decide, by decide, by decide +kernel⟩ (yy_recv F.N X.2.1 (ci := 6) rfl Pw_24.o) rfl d_M_view_78) d_M_view_78 (n := 81) rfl (by simp [Value.category]) ⟨by decide, by decide⟩ ⟨Nat.zero_le _, Nat.zero_le _⟩ ⟨rfl, rfl⟩ Pw_24 rfl (fun _ hSw_28 => ?_)
            refine yy_ic_gt (tgt := 88) F d_M_view_81 (n := 84) rfl (by decide) (fun h3 => ?_) (fun h3 => ?_)
            · refine yy_iconst (v := 0) F d_M_view_88 (n := 89) rfl rfl ?_
              refine yy_istore (lv' := [(4, .int 0), (0, .ref a), (1, .int (nI (cN o))), (2, .int x), (3, .int y)]) F d_M_view_89 (n := 91) rfl (by decide) rfl ?_
              refine yy_aload_n F d_M_view_91 (n := 92) rfl 1 rfl ?_
              refine yy_iload F d_M_view_92 (n := 94) rfl 0 rfl ?_
              refine yy_if_ne_f (tgt := 101) F d_M_view_94 (n := 97) rfl (by decide) (by decide) ?_
              refine yy_iconst (v := 3) F d_M_view_97 (n := 98) rfl rfl ?_
              refine yy_goto (tgt := 115) F d_M_view_98 (by decide) ?_
              refine ma_code F X g_M_55_M Pw_24 hSw_28 d_M_view_115 (n' := 118) rfl (fun Hw_29 locs_w_29 Pw_29 kw_29 Sw_29 => ?_)
              have kw_29 := kw_24.tr kw_29
              refine yy_aload_n F d_M_view_118 (n := 119) rfl 1 rfl ?_
              refine yy_get F X.1 X.2.1 g_M_55_M Pw_29.o rfl d_M_view_119 (n := 122) rfl ?_
              refine yy_if_le_f (tgt := 127) F d_M_view_122 (n := 125) rfl (by decide) (by decide) ?_
              refine yy_iconst (v := 0) F d_M_view_125 (n := 126) rfl rfl ?_
              exact yy_iret F Sw_29 ⟨Nat.zero_le _, Nat.zero_le _⟩ rfl d_M_view_126 (mq_i (o := some e_ia) (v := 0) (σ := σ) (by unfold sp_view; unfold ch_con; rw [hin, hkk, hs, show k_vok σ (cN o) x y = false by simp [k_vok, hT, h3]]; rfl) R Pw_29 kw_29 (by decide) (fun h => by cases h))
            · have hv : k_vok σ (cN o) x y = true := by simp [k_vok, h1, h2, h3, hT]
              refine yy_iconst (v := 1) F d_M_view_84 (n := 85) rfl rfl ?_
              refine yy_goto (tgt := 89) F d_M_view_85 (by decide) ?_
              refine yy_istore (lv' := [(4, .int 1), (0, .ref a), (1, .int (nI (cN o))), (2, .int x), (3, .int y)]) F d_M_view_89 (n := 91) rfl (by decide) rfl ?_
              refine yy_aload_n F d_M_view_91 (n := 92) rfl 1 rfl ?_
              refine yy_iload F d_M_view_92 (n := 94) rfl 0 rfl ?_
              refine yy_if_ne_t (tgt := 101) F d_M_view_94 (by decide) (by decide) ?_
              refine yy_aload_n F d_M_view_101 (n := 102) rfl 1 rfl ?_
              refine yy_get F X.1 X.2.1 g_M_59_M Pw_24.o rfl d_M_view_102 (n := 105) rfl ?_
              refine yy_tope (y := (nI (k_m σ))) (by rw [R.1]) ?_
              refine yy_bipush (v := 10) F d_M_view_105 (n := 107) rfl rfl ?_
              refine yy_ic_ne (tgt := 114) F d_M_view_107 (n := 110) rfl (by decide) (fun hm => ?_) (fun hm => ?_)
              · have hm9 : ¬ k_m σ = 10 := fun q => hm (by rw [q]; rfl)
                have hmd : (!decide (k_m σ = 10)) = true := by simp [hm9]
                have hml : k_m σ < 10 := by omega
                have hb := I.bs hco
                refine yy_iconst (v := 0) F d_M_view_114 (n := 115) rfl rfl ?_
                refine ma_code F X g_M_55_M Pw_24 hSw_28 d_M_view_115 (n' := 118) rfl (fun Hw_30 locs_w_30 Pw_30 kw_30 Sw_30 => ?_)
                have kw_30 := kw_24.tr kw_30
                refine yy_aload_n F d_M_view_118 (n := 119) rfl 1 rfl ?_
                refine yy_get F X.1 X.2.1 g_M_55_M Pw_30.o rfl d_M_view_119 (n := 122) rfl ?_
                refine yy_if_le_t (tgt := 127) F d_M_view_122 (by decide) (by decide) ?_
                refine yy_aload_n F d_M_view_127 (n := 128) rfl 1 rfl ?_
                refine yy_iload_n F d_M_view_128 (n := 129) rfl 2 rfl ?_
                refine yy_cri (w := 0) F Sw_30 (c_M_isTree X I R hco) (yy_Bc F X.1 q_926 q_3) (yy_invV (nA := 1) (C := R_M) (bytes := b_M_isTree) (maxL := 2) (retY := (some .boolean)) F X.1 q_923 q_925 qs_M_isTree q_926 ⟨by decide, by decide, by decide +kernel⟩ (yy_recv F.N X.2.1 (ci := 6) rfl Pw_30.o) rfl d_M_view_129) d_M_view_129 (n := 132) rfl (by simp [Value.category]) ⟨by decide, by decide⟩ ⟨Nat.zero_le _, Nat.zero_le _⟩ ⟨rfl, rfl⟩ Pw_30 (by rw [hT]; rfl) (fun _ hSw_31 => ?_)
                refine yy_istore (lv' := [(5, .int 0), (4, .int 1), (0, .ref a), (1, .int (nI (cN o))), (2, .int x), (3, .int y)]) F d_M_view_132 (n := 134) rfl (by decide) rfl ?_
                refine yy_aload_n F d_M_view_134 (n := 135) rfl 2 rfl ?_
                refine yy_iload F d_M_view_135 (n := 137) rfl 0 rfl ?_
                refine yy_if_eq_t (tgt := 145) F d_M_view_137 (by decide) (by decide) ?_
                refine yy_bipush (v := 6) F d_M_view_145 (n := 147) rfl rfl ?_
                refine yy_iload_n F d_M_view_147 (n := 148) rfl 3 rfl ?_
                refine yy_ci F hSw_31 (c_M_make (k := 6) X I R hml (Or.inr ⟨cN o, hco, rfl, rfl⟩)) (yy_Bc F X.1 q_910 q_3) (yy_invV (nA := 2) (C := R_M) (bytes := b_M_make) (maxL := 4) (retY := (some .int)) F X.1 q_907 q_909 qs_M_make q_910 ⟨by decide, by decide, by decide +kernel⟩ (yy_recv F.N X.2.1 (ci := 6) rfl Pw_30.o) rfl d_M_view_148) d_M_view_148 (n := 151) rfl (by simp [Value.category]) ⟨by decide, by decide⟩ ⟨Nat.zero_le _, Nat.zero_le _⟩ ⟨rfl, rfl⟩ Pw_30 (fun r_w_32 Hw_32 locs_w_32 qw_32 Sw_32 => ?_)
                obtain ⟨e_r, s1, M1, P1, k1⟩ := qw_32
                have k1 := kw_30.tr k1
                obtain ⟨m1, m2, m3, m4, m5, m6, m7, m8, m9⟩ := M1
                have hne : cN o ≠ k_m σ := by omega
                have hneb : k_bs σ (cN o) ≠ k_m σ := by omega
                refine yy_tope (y := (nI (k_m σ))) e_r ?_
                refine yy_istore (lv' := [(6, .int (nI (k_m σ))), (5, .int 0), (4, .int 1), (0, .ref a), (1, .int (nI (cN o))), (2, .int x), (3, .int y)]) F d_M_view_151 (n := 153) rfl (by decide) rfl ?_
                refine yy_iload F d_M_view_153 (n := 155) rfl 1 rfl ?_
                refine yy_if_eq_t (tgt := 243) F d_M_view_155 (by decide) (by decide) ?_
                refine yy_aload_n F d_M_view_243 (n := 244) rfl 3 rfl ?_
                refine yy_get F X.1 X.2.1 g_M_34_M P1.o rfl d_M_view_244 (n := 247) rfl ?_
                refine yy_iload F d_M_view_247 (n := 249) rfl 0 rfl ?_
                refine yy_aload_n F d_M_view_249 (n := 250) rfl 3 rfl ?_
                refine yy_iload_n F d_M_view_250 (n := 251) rfl 4 rfl ?_
                have R1 : mr (k_m σ, s1.2) σ := by
                  obtain ⟨r1, r2, r3, r4, r5⟩ := R
                  refine ⟨rfl, fun c hc => ?_, fun b hb9 e => ?_, fun i hi => ?_, fun i hi1 hi2 => ?_⟩
                  · have h := r2 c hc
                    have hcn : c ≠ k_m σ := by omega
                    unfold mr_c at h ⊢
                    rw [show ((k_m σ, s1.2) : ms).2 = s1.2 from rfl, m3 0 c hcn, m3 1 c hcn, m3 2 c hcn, m3 8 c hcn, m3 9 c hcn, m3 10 c hcn]
                    exact h
                  · have h := r3 b hb9 e
                    have hcn : b ≠ k_m σ := by omega
                    unfold mr_s at h ⊢
                    rw [show ((k_m σ, s1.2) : ms).2 = s1.2 from rfl, m3 5 b hcn, m3 6 b hcn, m3 7 b hcn, m2 3 (by omega), m2 4 (by omega)]
                    exact h
                  · have h := r4 i hi
                    unfold mr_w at h ⊢
                    rw [show ((k_m σ, s1.2) : ms).2 = s1.2 from rfl, m2 11 (by omega), m2 12 (by omega), m2 13 (by omega), m2 14 (by omega)]
                    exact h
                  · show s1.2 3 i = 0 ∧ s1.2 4 i = 0
                    rw [m2 3 (by omega), m2 4 (by omega)]
                    exact r5 i hi1 hi2
                refine yy_cri (w := (nI (k_start σ (cN o)))) F Sw_32 (c_M_placeIn0 X I R1 hco) (yy_Bc F X.1 q_942 q_3) (yy_invV (nA := 1) (C := R_M) (bytes := b_M_placeIn) (maxL := 3) (retY := (some .int)) F X.1 q_939 q_941 qs_M_placeIn q_942 ⟨by decide, by decide, by decide +kernel⟩ (yy_recv F.N X.2.1 (ci := 6) rfl P1.o) rfl d_M_view_251) d_M_view_251 (n := 254) rfl (by simp [Value.category]) ⟨by decide, by decide⟩ ⟨Nat.zero_le _, Nat.zero_le _⟩ ⟨rfl, rfl⟩ P1 rfl (fun _ hSw_33 => ?_)
                have hend := I.end hco (k_fr_of hs)
                have y0 : ¬ y < 0 := fun q => by
                  rw [Int32.lt_iff_toInt_lt] at q h1 h2
                  simp only [Int32.toInt_zero] at q h2
                  omega
                obtain ⟨u1, u2⟩ := le_cN (by omega) y0 h3
                obtain ⟨jx, hjx, ejx⟩ := nI_of h2
                have ecx : cN x = jx := by rw [ejx]; exact nI_clamp hjx
                have ecx2 : x = nI (cN x) := by rw [ecx]; exact ejx
                have w1 : cN x ≤ cN y := Nat.le_of_not_lt (fun q => h1 (by rw [u2, ecx2]; exact nI_lt q (by omega)))
                refine yy_iload_n F d_M_view_254 (n := 255) rfl 5 rfl ?_
                refine yy_iadd F d_M_view_255 (n := 256) rfl ?_
                refine yy_tope (y := (nI (k_start σ (cN o) + cN x))) ((congrArg (fun q => nI (k_start σ (cN o)) + q) ecx2).trans (nI_add _ _)) ?_
                refine ma_st (j := 8) (i := (k_m σ)) F X P1 hSw_33 (by decide) (show k_m σ < 10 by omega) d_M_view_256 (n' := 257) rfl (fun Hw_34 locs_w_34 Pw_34 kw_34 Sw_34 => ?_)
                have kw_34 := k1.tr kw_34
                refine yy_aload_n F d_M_view_257 (n := 258) rfl 3 rfl ?_
                refine yy_get F X.1 X.2.1 g_M_37_M Pw_34.o rfl d_M_view_258 (n := 261) rfl ?_
                refine yy_iload F d_M_view_261 (n := 263) rfl 0 rfl ?_
                refine yy_iload_n F d_M_view_263 (n := 264) rfl 6 rfl ?_
                refine yy_iload_n F d_M_view_264 (n := 265) rfl 5 rfl ?_
                refine yy_isub F d_M_view_265 (n := 266) rfl ?_
                refine yy_tope (y := (nI (cN y - cN x))) ((show y - x = nI (cN y) - nI (cN x) by rw [← u2, ← ecx2]).trans (pk_sub w1)) ?_
                refine ma_st (j := 9) (i := (k_m σ)) F X Pw_34 Sw_34 (by decide) (show k_m σ < 10 by omega) d_M_view_266 (n' := 267) rfl (fun Hw_35 locs_w_35 Pw_35 kw_35 Sw_35 => ?_)
                have kw_35 := kw_34.tr kw_35
                refine yy_aload_n F d_M_view_267 (n := 268) rfl 3 rfl ?_
                refine yy_get F X.1 X.2.1 g_M_40_M Pw_35.o rfl d_M_view_268 (n := 271) rfl ?_
                refine yy_iload F d_M_view_271 (n := 273) rfl 0 rfl ?_
                refine yy_aload_n F d_M_view_273 (n := 274) rfl 3 rfl ?_
                refine yy_get F X.1 X.2.1 g_M_28_M Pw_35.o rfl d_M_view_274 (n := 277) rfl ?_
                refine yy_aload_n F d_M_view_277 (n := 278) rfl 3 rfl ?_
                refine yy_get F X.1 X.2.1 g_M_16_M Pw_35.o rfl d_M_view_278 (n := 281) rfl ?_
                refine yy_iload F d_M_view_281 (n := 283) rfl 0 rfl ?_
                refine ma_ld (j := 2) (i := (k_m σ)) F X Pw_35 (by decide) (show k_m σ < 10 by omega) d_M_view_283 (n' := 284) rfl ?_
                refine yy_tope (y := (nI (k_bs σ (cN o)))) m6 ?_
                refine ma_ld (j := 6) (i := (k_bs σ (cN o))) F X Pw_35 (by decide) (show k_bs σ (cN o) < 10 by omega) d_M_view_284 (n' := 285) rfl ?_
                refine yy_tope (y := (nI (s_ch (k_B σ (cN o))))) (by show s1.2 6 (k_bs σ (cN o)) = _; rw [m3 6 _ hneb]; exact R.ch I hco) ?_
                refine ma_st (j := 10) (i := (k_m σ)) F X Pw_35 Sw_35 (by decide) (show k_m σ < 10 by omega) d_M_view_285 (n' := 286) rfl (fun Hw_36 locs_w_36 Pw_36 kw_36 Sw_36 => ?_)
                have kw_36 := kw_35.tr kw_36
                refine yy_iload F d_M_view_286 (n := 288) rfl 0 rfl ?_
                have hvw : k_vw σ (cN o) x y = (6, k_bs σ (cN o), cN o, k_start σ (cN o) + cN x, cN y - cN x, s_ch (k_B σ (cN o)), 0, 0) := if_neg (by rw [hT]; decide)
                have R2 : mr (m_set (m_set (m_set s1 8 (k_m σ) (nI (k_start σ (cN o) + cN x))) 9 (k_m σ) (nI (cN y - cN x))) 10 (k_m σ) (nI (s_ch (k_B σ (cN o))))) (k_newV σ (k_vw σ (cN o) x y)) := by
                  rw [hvw]
                  refine R.newV hb m1 (fun j hj => ?_) (fun j i hi => (m_set_x _ _ _ hi).trans ((m_set_x _ _ _ hi).trans ((m_set_x _ _ _ hi).trans (m3 j i hi)))) m4 m6 (fun _ => ⟨m5, ?_, ?_, ?_⟩) (fun q => absurd (show (6 : Int32) = 7 from q) (by decide))
                  · rw [m_set_o _ _ (by omega), m_set_o _ _ (by omega), m_set_o _ _ (by omega)]
                    exact m2 j (by omega)
                  · show upd _ (k_m σ) _ (k_m σ) = _
                    exact upd_s _ _ _
                  · show upd _ (k_m σ) _ (k_m σ) = _
                    exact upd_s _ _ _
                  · show upd _ (k_m σ) _ (k_m σ) = _
                    exact upd_s _ _ _
                exact yy_iret F Sw_36 ⟨Nat.zero_le _, Nat.zero_le _⟩ rfl d_M_view_288 (mq_i (o := none) (v := (nI (k_m σ))) (σ := (k_newV σ (k_vw σ (cN o) x y))) (by unfold sp_view; unfold ch_con; rw [hin, hkk, hs, hv, hmd]; rfl) R2 Pw_36 kw_36 (by decide) (fun _ => rfl))
              · have hm9 : k_m σ = 10 := (nI_eq (by omega) (by omega)).mp (show nI (k_m σ) = nI 10 from hm)
                have hmd : (!decide (k_m σ = 10)) = false := by simp [hm9]
                refine yy_iconst (v := 4) F d_M_view_110 (n := 111) rfl rfl ?_
                refine yy_goto (tgt := 115) F d_M_view_111 (by decide) ?_
                refine ma_code F X g_M_55_M Pw_24 hSw_28 d_M_view_115 (n' := 118) rfl (fun Hw_37 locs_w_37 Pw_37 kw_37 Sw_37 => ?_)
                have kw_37 := kw_24.tr kw_37
                refine yy_aload_n F d_M_view_118 (n := 119) rfl 1 rfl ?_
                refine yy_get F X.1 X.2.1 g_M_55_M Pw_37.o rfl d_M_view_119 (n := 122) rfl ?_
                refine yy_if_le_f (tgt := 127) F d_M_view_122 (n := 125) rfl (by decide) (by decide) ?_
                refine yy_iconst (v := 0) F d_M_view_125 (n := 126) rfl rfl ?_
                exact yy_iret F Sw_37 ⟨Nat.zero_le _, Nat.zero_le _⟩ rfl d_M_view_126 (mq_i (o := some e_is) (v := 0) (σ := σ) (by unfold sp_view; unfold ch_con; rw [hin, hkk, hs, hv, hmd]; rfl) R Pw_37 kw_37 (by decide) (fun h => by cases h))
      · refine yy_if_eq_f (tgt := 45) F d_M_view_38 (n := 41) rfl (by decide) (by decide) ?_
        refine yy_iconst (v := 5) F d_M_view_41 (n := 42) rfl rfl ?_
        refine yy_goto (tgt := 46) F d_M_view_42 (by decide) ?_
        refine ma_code F X g_M_55_M hP hSw_23 d_M_view_46 (n' := 49) rfl (fun Hw_38 locs_w_38 Pw_38 kw_38 Sw_38 => ?_)
        have kw_38 := kpm.rf.tr kw_38
        refine yy_aload_n F d_M_view_49 (n := 50) rfl 0 rfl ?_
        refine yy_get F X.1 X.2.1 g_M_55_M Pw_38.o rfl d_M_view_50 (n := 53) rfl ?_
        refine yy_if_le_f (tgt := 58) F d_M_view_53 (n := 56) rfl (by decide) (by decide) ?_
        refine yy_iconst (v := 0) F d_M_view_56 (n := 57) rfl rfl ?_
        exact yy_iret F Sw_38 ⟨Nat.zero_le _, Nat.zero_le _⟩ rfl d_M_view_57 (mq_i (o := some e_rt) (v := 0) (σ := σ) (by unfold sp_view; unfold ch_con; rw [hin, hkk, hs]; rfl) R Pw_38 kw_38 (by decide) (fun h => by cases h))
set_option maxRecDepth 100000 in
set_option maxHeartbeats 4000000 in
theorem c_M_set {l : Launch} {z : State} {a0 : Array Value} {D : va_G} {ca : kca} (X : kcx l z a0 D ca) {a n : Nat} {cd : Int32} {s : ms} {σ : ks} {t : Nat} (I : iv t σ) (R : mr s σ) {x p v : Int32} : yy_M l z y_M_set (.code y_M_set b_M_set 5 (some .int)) ({ frames := 3, cells := 0, slots := 0, locals := 67 }) [.ref a, .int x, .int p, .int v] (mo_at D ca z a n cd s) (mqi D ca z a n [e_io, e_uo, e_ns, e_rt] (sp_set σ x p v)) := by
  refine yy_body (plainFor_of_name (by decide)) (Nat.le_of_ble_eq_true rfl) (fun b H F hS hP hH hnm => ?_)
  have h10 := I.m10
  cases hE : ch_fl σ x with
  | some E =>
    have hin9 : E ∈ ([e_io, e_uo, e_ns, e_rt] : List String) := by rcases ch_fl_in I.m10 hE with rfl | rfl | rfl <;> decide
    obtain ⟨hc1, hc2⟩ := m_pos hin9 (by decide)
    have hg : sp_get σ x p = (some E, 0, σ) := by unfold sp_get; rw [hE]; rfl
    refine yy_aload_n F d_M_set_0 (n := 1) rfl 0 rfl ?_
    refine yy_iload_n F d_M_set_1 (n := 2) rfl 1 rfl ?_
    refine yy_iload_n F d_M_set_2 (n := 3) rfl 2 rfl ?_
    refine yy_ci F hS (c_M_get (x := x) (p := p) X I R) (yy_Bc F X.1 q_954 q_3) (yy_invV (nA := 2) (C := R_M) (bytes := b_M_get) (maxL := 3) (retY := (some .int)) F X.1 q_967 q_952 q_953 q_954 ⟨by decide, by decide, by decide +kernel⟩ (yy_recv F.N X.2.1 (ci := 6) rfl hP.o) rfl d_M_set_3) d_M_set_3 (n := 6) rfl (by simp [Value.category]) ⟨by decide, by decide⟩ ⟨Nat.zero_le _, Nat.zero_le _⟩ ⟨rfl, rfl⟩ hP (fun r_w_1 Hw_1 locs_w_1 qw_1 Sw_1 => ?_)
    rw [hg] at qw_1
    obtain ⟨⟨⟨s1, Q1, P1⟩, k1⟩, hv1⟩ := qw_1
    have k1 := kpm.rf.tr k1
    have P1 : mo_at D ca z a n (c_of [e_io, e_uo, e_ns, e_rt] (some E)) s1 Hw_1 := P1
    refine yy_istore (lv' := [(4, .int r_w_1), (0, .ref a), (1, .int x), (2, .int p), (3, .int v)]) F d_M_set_6 (n := 8) rfl (by decide) rfl ?_
    refine yy_aload_n F d_M_set_8 (n := 9) rfl 1 rfl ?_
    refine yy_get F X.1 X.2.1 g_M_55_M P1.o rfl d_M_set_9 (n := 12) rfl ?_
    refine yy_if_ne_t (tgt := 27) F d_M_set_12 (by decide) hc2 ?_
    refine yy_iload F d_M_set_27 (n := 29) rfl 0 rfl ?_
    exact yy_iret F Sw_1 ⟨Nat.zero_le _, Nat.zero_le _⟩ rfl d_M_set_29 (mq_i (o := some E) (v := 0) (σ := σ) (by unfold sp_set; rw [hE]; rfl) Q1 P1 k1 rfl (fun h => by cases h))
  | none =>
    obtain ⟨hc, ex, hk, hs⟩ := ch_fl_none I.m10 hE
    have hb := I.bs hc
    have h24 := I.ct hc
    have hend := I.end hc (k_fr_of hs)
    have h5 := k_lb5 I hc hk
    cases hp : ym_inb p (k_size σ (cN x)) with
    | false =>
      have hg : sp_get σ x p = (some e_ns, 0, σ) := by unfold sp_get; rw [hE, hp]; rfl
      refine yy_aload_n F d_M_set_0 (n := 1) rfl 0 rfl ?_
      refine yy_iload_n F d_M_set_1 (n := 2) rfl 1 rfl ?_
      refine yy_iload_n F d_M_set_2 (n := 3) rfl 2 rfl ?_
      refine yy_ci F hS (c_M_get (x := x) (p := p) X I R) (yy_Bc F X.1 q_954 q_3) (yy_invV (nA := 2) (C := R_M) (bytes := b_M_get) (maxL := 3) (retY := (some .int)) F X.1 q_967 q_952 q_953 q_954 ⟨by decide, by decide, by decide +kernel⟩ (yy_recv F.N X.2.1 (ci := 6) rfl hP.o) rfl d_M_set_3) d_M_set_3 (n := 6) rfl (by simp [Value.category]) ⟨by decide, by decide⟩ ⟨Nat.zero_le _, Nat.zero_le _⟩ ⟨rfl, rfl⟩ hP (fun r_w_2 Hw_2 locs_w_2 qw_2 Sw_2 => ?_)
      rw [hg] at qw_2
      obtain ⟨⟨⟨s1, Q1, P1⟩, k1⟩, hv1⟩ := qw_2
      have k1 := kpm.rf.tr k1
      have P1 : mo_at D ca z a n (c_of [e_io, e_uo, e_ns, e_rt] (some e_ns)) s1 Hw_2 := P1
      refine yy_istore (lv' := [(4, .int r_w_2), (0, .ref a), (1, .int x), (2, .int p), (3, .int v)]) F d_M_set_6 (n := 8) rfl (by decide) rfl ?_
      refine yy_aload_n F d_M_set_8 (n := 9) rfl 1 rfl ?_
      refine yy_get F X.1 X.2.1 g_M_55_M P1.o rfl d_M_set_9 (n := 12) rfl ?_
      refine yy_if_ne_t (tgt := 27) F d_M_set_12 (by decide) (by decide) ?_
      refine yy_iload F d_M_set_27 (n := 29) rfl 0 rfl ?_
      exact yy_iret F Sw_2 ⟨Nat.zero_le _, Nat.zero_le _⟩ rfl d_M_set_29 (mq_i (o := some e_ns) (v := 0) (σ := σ) (by unfold sp_set; rw [hE, hp]; rfl) Q1 P1 k1 rfl (fun h => by cases h))
    | true =>
      have hg : sp_get σ x p = (none, s_nu (k_B σ (cN x)) (k_start σ (cN x) + cN p), σ) := by unfold sp_get; rw [hE, hp]; rfl
      refine yy_aload_n F d_M_set_0 (n := 1) rfl 0 rfl ?_
      refine yy_iload_n F d_M_set_1 (n := 2) rfl 1 rfl ?_
      refine yy_iload_n F d_M_set_2 (n := 3) rfl 2 rfl ?_
      refine yy_ci F hS (c_M_get (x := x) (p := p) X I R) (yy_Bc F X.1 q_954 q_3) (yy_invV (nA := 2) (C := R_M) (bytes := b_M_get) (maxL := 3) (retY := (some .int)) F X.1 q_967 q_952 q_953 q_954 ⟨by decide, by decide, by decide +kernel⟩ (yy_recv F.N X.2.1 (ci := 6) rfl hP.o) rfl d_M_set_3) d_M_set_3 (n := 6) rfl (by simp [Value.category]) ⟨by decide, by decide⟩ ⟨Nat.zero_le _, Nat.zero_le _⟩ ⟨rfl, rfl⟩ hP (fun r_w_3 Hw_3 locs_w_3 qw_3 Sw_3 => ?_)
      rw [hg] at qw_3
      obtain ⟨⟨⟨s1, Q1, P1⟩, k1⟩, hv1⟩ := qw_3
      have k1 := kpm.rf.tr k1
      have P1 : mo_at D ca z a n (c_of [e_io, e_uo, e_ns, e_rt] none) s1 Hw_3 := P1
      have hv1 := hv1 rfl
      obtain ⟨hp1, hp2⟩ := inb_cN (by omega) hp
      refine yy_istore (lv' := [(4, .int r_w_3), (0, .ref a), (1, .int x), (2, .int p), (3, .int v)]) F d_M_set_6 (n := 8) rfl (by decide) rfl ?_
      refine yy_aload_n F d_M_set_8 (n := 9) rfl 1 rfl ?_
      refine yy_get F X.1 X.2.1 g_M_55_M P1.o rfl d_M_set_9 (n := 12) rfl ?_
      refine yy_if_ne_f (tgt := 27) F d_M_set_12 (n := 15) rfl (by decide) rfl ?_
      rw [show (Value.int x) = Value.int (nI (cN x)) from congrArg Value.int ex]
      refine yy_aload_n F d_M_set_15 (n := 16) rfl 1 rfl ?_
      refine yy_get F X.1 X.2.1 g_M_19_M P1.o rfl d_M_set_16 (n := 19) rfl ?_
      refine yy_aload_n F d_M_set_19 (n := 20) rfl 1 rfl ?_
      refine yy_iload_n F d_M_set_20 (n := 21) rfl 2 rfl ?_
      refine yy_iload_n F d_M_set_21 (n := 22) rfl 3 rfl ?_
      refine yy_cri (w := (nI (24 * k_bs σ (cN x) + (k_start σ (cN x) + cN p)))) F Sw_3 (c_M_at (x := p) (q := k_start σ (cN x) + cN p) X I Q1 hc (by rw [← nI_add, ← hp2])) (yy_Bc F X.1 q_962 q_3) (yy_invV (nA := 2) (C := R_M) (bytes := b_M_at) (maxL := 3) (retY := (some .int)) F X.1 q_959 q_961 qs_M_at q_962 ⟨by decide, by decide, by decide +kernel⟩ (yy_recv F.N X.2.1 (ci := 6) rfl P1.o) rfl d_M_set_22) d_M_set_22 (n := 25) rfl (by simp [Value.category]) ⟨by decide, by decide⟩ ⟨Nat.zero_le _, Nat.zero_le _⟩ ⟨rfl, rfl⟩ P1 rfl (fun _ hSw_4 => ?_)
      refine yy_iload_n F d_M_set_25 (n := 26) rfl 4 rfl ?_
      have hb := I.bs hc
      refine ma_st (j := 3) (i := (24 * k_bs σ (cN x) + (k_start σ (cN x) + cN p))) F X P1 hSw_4 (by decide) (show 24 * k_bs σ (cN x) + (k_start σ (cN x) + cN p) < 240 by omega) d_M_set_26 (n' := 27) rfl (fun Hw_5 locs_w_5 Pw_5 kw_5 Sw_5 => ?_)
      have kw_5 := k1.tr kw_5
      refine yy_iload F d_M_set_27 (n := 29) rfl 0 rfl ?_
      have R2 := Q1.nu1 (q := k_start σ (cN x) + cN p) (v := v) hb (I.bb hc) h5 (by omega)
      exact yy_iret F Sw_5 ⟨Nat.zero_le _, Nat.zero_le _⟩ rfl d_M_set_29 (mq_i (o := none) (v := (s_nu (k_B σ (cN x)) (k_start σ (cN x) + cN p))) (σ := (k_setS σ (k_bs σ (cN x)) (S_nu (k_B σ (cN x)) (k_start σ (cN x) + cN p) v))) (by unfold sp_set; rw [hE, hp]; rfl) R2 Pw_5 kw_5 (by decide) (fun _ => hv1))
set_option maxRecDepth 100000 in
set_option maxHeartbeats 4000000 in
theorem c_M_insert {l : Launch} {z : State} {a0 : Array Value} {D : va_G} {ca : kca} (X : kcx l z a0 D ca) {a n : Nat} {cd : Int32} {s : ms} {σ : ks} {t : Nat} (I : iv t σ) (R : mr s σ) {x p v : Int32} : yy_M l z y_M_insert (.code y_M_insert b_M_insert 5 none) ({ frames := 3, cells := 0, slots := 0, locals := 74 }) [.ref a, .int x, .int p, .int v] (mo_at D ca z a n cd s) (mqv D ca z a n [e_io, e_uo, e_ns, e_is, e_rt] (sp_insert σ x p v)) := by
  refine yy_body (plainFor_of_name (by decide)) (Nat.le_of_ble_eq_true rfl) (fun b H F hS hP hH hnm => ?_)
  have h10 := I.m10
  refine yy_aload_n F d_M_insert_0 (n := 1) rfl 0 rfl ?_
  refine yy_iload_n F d_M_insert_1 (n := 2) rfl 1 rfl ?_
  refine yy_cri (w := (ym_n (ym_inb x (k_m σ)))) F hS (c_M_isThere (x := x) X I R) (yy_Bc F X.1 q_918 q_3) (yy_invV (nA := 1) (C := R_M) (bytes := b_M_isThere) (maxL := 2) (retY := (some .boolean)) F X.1 q_915 q_917 qs_M_isThere q_918 ⟨by decide, by decide, by decide +kernel⟩ (yy_recv F.N X.2.1 (ci := 6) rfl hP.o) rfl d_M_insert_2) d_M_insert_2 (n := 5) rfl (by simp [Value.category]) ⟨by decide, by decide⟩ ⟨Nat.zero_le _, Nat.zero_le _⟩ ⟨rfl, rfl⟩ hP rfl (fun _ hSw_1 => ?_)
  cases hin : ym_inb x (k_m σ)
  · refine yy_if_eq_t (tgt := 22) F d_M_insert_5 (by decide) rfl ?_
    have hfe : ch_flh σ x = ch_fl σ x := flh_n (fun q => by rw [hin] at q; cases q)
    refine yy_iconst (v := 0) F d_M_insert_22 (n := 23) rfl rfl ?_
    refine yy_istore (lv' := [(4, .int 0), (0, .ref a), (1, .int x), (2, .int p), (3, .int v)]) F d_M_insert_23 (n := 25) rfl (by decide) rfl ?_
    refine yy_aload_n F d_M_insert_25 (n := 26) rfl 1 rfl ?_
    refine yy_iload F d_M_insert_26 (n := 28) rfl 0 rfl ?_
    refine yy_if_eq_t (tgt := 35) F d_M_insert_28 (by decide) (by decide) ?_
    refine yy_aload_n F d_M_insert_35 (n := 36) rfl 1 rfl ?_
    refine yy_iload_n F d_M_insert_36 (n := 37) rfl 2 rfl ?_
    refine yy_iconst (v := 5) F d_M_insert_37 (n := 38) rfl rfl ?_
    cases hE : ch_fl σ x with
    | some E =>
      have hin9 : E ∈ ([e_io, e_uo, e_ns, e_is, e_rt] : List String) := by rcases ch_fl_in I.m10 hE with rfl | rfl | rfl <;> decide
      obtain ⟨hc1, hc2⟩ := m_pos hin9 (by decide)
      refine yy_cri (w := (c_of [e_io, e_uo, e_ns, e_is, e_rt] (some E))) F hSw_1 (c_M_checkList (x := x) (e := 5) X I R) (yy_Bc F X.1 q_958 q_3) (yy_invV (nA := 2) (C := R_M) (bytes := b_M_checkList) (maxL := 3) (retY := (some .int)) F X.1 q_955 q_957 qs_M_checkList q_958 ⟨by decide, by decide, by decide +kernel⟩ (yy_recv F.N X.2.1 (ci := 6) rfl hP.o) rfl d_M_insert_38) d_M_insert_38 (n := 41) rfl (by simp [Value.category]) ⟨by decide, by decide⟩ ⟨Nat.zero_le _, Nat.zero_le _⟩ ⟨rfl, rfl⟩ hP (m_cl_E I.m10 hE (by decide) (by decide) (by decide)) (fun _ hSw_2 => ?_)
      refine ma_code F X g_M_55_M hP hSw_2 d_M_insert_41 (n' := 44) rfl (fun Hw_3 locs_w_3 Pw_3 kw_3 Sw_3 => ?_)
      have kw_3 := kpm.rf.tr kw_3
      refine yy_aload_n F d_M_insert_44 (n := 45) rfl 1 rfl ?_
      refine yy_get F X.1 X.2.1 g_M_55_M Pw_3.o rfl d_M_insert_45 (n := 48) rfl ?_
      refine yy_if_le_f (tgt := 52) F d_M_insert_48 (n := 51) rfl (by decide) hc1 ?_
      exact yy_vret F Sw_3 ⟨Nat.zero_le _, Nat.zero_le _⟩ rfl d_M_insert_51 (mq_v (o := some E) (v := 0) (σ := σ) (by unfold sp_insert; rw [hfe, hE]; rfl) R Pw_3 kw_3 rfl)
    | none =>
      obtain ⟨hc, ex, hk, hs⟩ := ch_fl_none I.m10 hE
      have hb := I.bs hc
      have h24 := I.ct hc
      have hend := I.end hc (k_fr_of hs)
      refine yy_cri (w := 0) F hSw_1 (c_M_checkList (x := x) (e := 5) X I R) (yy_Bc F X.1 q_958 q_3) (yy_invV (nA := 2) (C := R_M) (bytes := b_M_checkList) (maxL := 3) (retY := (some .int)) F X.1 q_955 q_957 qs_M_checkList q_958 ⟨by decide, by decide, by decide +kernel⟩ (yy_recv F.N X.2.1 (ci := 6) rfl hP.o) rfl d_M_insert_38) d_M_insert_38 (n := 41) rfl (by simp [Value.category]) ⟨by decide, by decide⟩ ⟨Nat.zero_le _, Nat.zero_le _⟩ ⟨rfl, rfl⟩ hP (m_cl_0 hE) (fun _ hSw_4 => ?_)
      rw [show (Value.int x) = Value.int (nI (cN x)) from congrArg Value.int ex]
      have n5 : ¬ k_kd σ (cN x) = 5 := fun q => by rw [q] at hk; exact absurd hk (by decide)
      have hb := I.bs hc
      refine ma_code F X g_M_55_M hP hSw_4 d_M_insert_41 (n' := 44) rfl (fun Hw_5 locs_w_5 Pw_5 kw_5 Sw_5 => ?_)
      have kw_5 := kpm.rf.tr kw_5
      refine yy_aload_n F d_M_insert_44 (n := 45) rfl 1 rfl ?_
      refine yy_get F X.1 X.2.1 g_M_55_M Pw_5.o rfl d_M_insert_45 (n := 48) rfl ?_
      refine yy_if_le_t (tgt := 52) F d_M_insert_48 (by decide) (by decide) ?_
      refine yy_aload_n F d_M_insert_52 (n := 53) rfl 1 rfl ?_
      refine yy_iload F d_M_insert_53 (n := 55) rfl 0 rfl ?_
      refine yy_if_ne_f (tgt := 75) F d_M_insert_55 (n := 58) rfl (by decide) (by decide) ?_
      refine yy_iload_n F d_M_insert_58 (n := 59) rfl 3 rfl ?_
      refine yy_if_lt (tgt := 71) F d_M_insert_59 (n := 62) rfl (by decide) (fun h0 => ?_) (fun h0 => ?_)
      · refine yy_iconst (v := 3) F d_M_insert_71 (n := 72) rfl rfl ?_
        refine yy_goto (tgt := 96) F d_M_insert_72 (by decide) ?_
        refine ma_code F X g_M_55_M Pw_5 Sw_5 d_M_insert_96 (n' := 99) rfl (fun Hw_6 locs_w_6 Pw_6 kw_6 Sw_6 => ?_)
        have kw_6 := kw_5.tr kw_6
        refine yy_aload_n F d_M_insert_99 (n := 100) rfl 1 rfl ?_
        refine yy_get F X.1 X.2.1 g_M_55_M Pw_6.o rfl d_M_insert_100 (n := 103) rfl ?_
        refine yy_if_le_f (tgt := 107) F d_M_insert_103 (n := 106) rfl (by decide) (by decide) ?_
        exact yy_vret F Sw_6 ⟨Nat.zero_le _, Nat.zero_le _⟩ rfl d_M_insert_106 (mq_v (o := some e_ns) (v := 0) (σ := σ) (by unfold sp_insert; rw [hfe, hE, show k_toi σ (cN x) p = false by simp [k_toi, n5, h0]]; rfl) R Pw_6 kw_6 (by decide))
      · refine yy_iload_n F d_M_insert_62 (n := 63) rfl 3 rfl ?_
        refine yy_aload_n F d_M_insert_63 (n := 64) rfl 1 rfl ?_
        refine yy_iload_n F d_M_insert_64 (n := 65) rfl 2 rfl ?_
        refine yy_cri (w := (nI (k_size σ (cN x)))) F Sw_5 (c_M_sizeOf X I R hc) (yy_Bc F X.1 q_934 q_3) (yy_invV (nA := 1) (C := R_M) (bytes := b_M_sizeOf) (maxL := 4) (retY := (some .int)) F X.1 q_931 q_933 qs_M_sizeOf q_934 ⟨by decide, by decide, by decide +kernel⟩ (yy_recv F.N X.2.1 (ci := 6) rfl Pw_5.o) rfl d_M_insert_65) d_M_insert_65 (n := 68) rfl (by simp [Value.category]) ⟨by decide, by decide⟩ ⟨Nat.zero_le _, Nat.zero_le _⟩ ⟨rfl, rfl⟩ Pw_5 rfl (fun _ hSw_7 => ?_)
        refine yy_ic_le (tgt := 75) F d_M_insert_68 (n := 71) rfl (by decide) (fun h1 => ?_) (fun h1 => ?_)
        · have hti : k_toi σ (cN x) p = true := by simp [k_toi, n5, h0, Int32.not_lt.mpr h1]
          obtain ⟨hp1, hp2⟩ := le_cN (by omega) h0 (Int32.not_lt.mpr h1)
          have hki : k_ins σ (cN x) p v = k_start σ (cN x) + cN p := if_neg n5
          refine yy_aload_n F d_M_insert_75 (n := 76) rfl 1 rfl ?_
          refine yy_get F X.1 X.2.1 g_M_25_M Pw_5.o rfl d_M_insert_76 (n := 79) rfl ?_
          refine yy_aload_n F d_M_insert_79 (n := 80) rfl 1 rfl ?_
          refine yy_get F X.1 X.2.1 g_M_16_M Pw_5.o rfl d_M_insert_80 (n := 83) rfl ?_
          refine yy_iload_n F d_M_insert_83 (n := 84) rfl 2 rfl ?_
          refine ma_ld (j := 2) (i := (cN x)) F X Pw_5 (by decide) (show cN x < 10 by omega) d_M_insert_84 (n' := 85) rfl ?_
          refine yy_tope (y := (nI (k_bs σ (cN x)))) (R.bs hc) ?_
          refine ma_ld (j := 5) (i := (k_bs σ (cN x))) F X Pw_5 (by decide) (show k_bs σ (cN x) < 10 by omega) d_M_insert_85 (n' := 86) rfl ?_
          refine yy_tope (y := (nI (s_ct (k_B σ (cN x))))) (R.ct I hc) ?_
          refine yy_bipush (v := 24) F d_M_insert_86 (n := 88) rfl rfl ?_
          refine yy_ic_ne (tgt := 95) F d_M_insert_88 (n := 91) rfl (by decide) (fun hf => ?_) (fun hf => ?_)
          · have h24b : s_ct (k_B σ (cN x)) < 24 := by
              have : ¬ s_ct (k_B σ (cN x)) = 24 := fun q => hf (by rw [q]; rfl)
              omega
            have hpi : Value.int p = Value.int (nI (cN p)) := congrArg Value.int hp2
            refine yy_iconst (v := 0) F d_M_insert_95 (n := 96) rfl rfl ?_
            refine ma_code F X g_M_55_M Pw_5 hSw_7 d_M_insert_96 (n' := 99) rfl (fun Hw_9 locs_w_9 Pw_9 kw_9 Sw_9 => ?_)
            have kw_9 := kw_5.tr kw_9
            refine yy_aload_n F d_M_insert_99 (n := 100) rfl 1 rfl ?_
            refine yy_get F X.1 X.2.1 g_M_55_M Pw_9.o rfl d_M_insert_100 (n := 103) rfl ?_
            refine yy_if_le_t (tgt := 107) F d_M_insert_103 (by decide) (by decide) ?_
            refine yy_iload F d_M_insert_107 (n := 109) rfl 0 rfl ?_
            refine yy_if_eq_t (tgt := 128) F d_M_insert_109 (by decide) (by decide) ?_
            refine yy_aload_n F d_M_insert_128 (n := 129) rfl 1 rfl ?_
            refine yy_iload_n F d_M_insert_129 (n := 130) rfl 2 rfl ?_
            refine yy_iload_n F d_M_insert_130 (n := 131) rfl 3 rfl ?_
            refine yy_iload_n F d_M_insert_131 (n := 132) rfl 4 rfl ?_
            rw [hpi]
            refine yy_cv F Sw_9 (c_M_insertAt (p := cN p) (y := v) X I R hc hk (by omega) h24b) (yy_Bc F X.1 q_983 q_3) (yy_invV (nA := 3) (C := R_M) (bytes := b_M_insertAt) (maxL := 5) (retY := none) F X.1 q_980 q_982 qs_M_insertAt q_983 ⟨by decide, by decide, by decide +kernel⟩ (yy_recv F.N X.2.1 (ci := 6) rfl Pw_9.o) rfl d_M_insert_132) d_M_insert_132 (n := 135) rfl (by simp [Value.category]) ⟨by decide, by decide⟩ ⟨Nat.zero_le _, Nat.zero_le _⟩ ⟨rfl, rfl⟩ Pw_9 (fun Hw_10 locs_w_10 qw_10 Sw_10 => ?_)
            obtain ⟨s1, R1, P1, k1⟩ := qw_10
            have k1 := kw_9.tr k1
            exact yy_vret F Sw_10 ⟨Nat.zero_le _, Nat.zero_le _⟩ rfl d_M_insert_135 (mq_v (o := none) (v := 0) (σ := (k_bring σ (cN x) (k_start σ (cN x) + cN p) v)) (by unfold sp_insert; rw [hfe, hE, hti, show (!decide (24 ≤ s_ct (k_B σ (cN x)))) = true by simp [h24b], hki]; rfl) R1 P1 k1 (by decide))
          · have hf9 : s_ct (k_B σ (cN x)) = 24 := (nI_eq (by omega) (by omega)).mp (show nI (s_ct (k_B σ (cN x))) = nI 24 from hf)
            refine yy_iconst (v := 4) F d_M_insert_91 (n := 92) rfl rfl ?_
            refine yy_goto (tgt := 96) F d_M_insert_92 (by decide) ?_
            refine ma_code F X g_M_55_M Pw_5 hSw_7 d_M_insert_96 (n' := 99) rfl (fun Hw_11 locs_w_11 Pw_11 kw_11 Sw_11 => ?_)
            have kw_11 := kw_5.tr kw_11
            refine yy_aload_n F d_M_insert_99 (n := 100) rfl 1 rfl ?_
            refine yy_get F X.1 X.2.1 g_M_55_M Pw_11.o rfl d_M_insert_100 (n := 103) rfl ?_
            refine yy_if_le_f (tgt := 107) F d_M_insert_103 (n := 106) rfl (by decide) (by decide) ?_
            exact yy_vret F Sw_11 ⟨Nat.zero_le _, Nat.zero_le _⟩ rfl d_M_insert_106 (mq_v (o := some e_is) (v := 0) (σ := σ) (by unfold sp_insert; rw [hfe, hE, hti, show (!decide (24 ≤ s_ct (k_B σ (cN x)))) = false by simp [hf9]]; rfl) R Pw_11 kw_11 (by decide))
        · refine yy_iconst (v := 3) F d_M_insert_71 (n := 72) rfl rfl ?_
          refine yy_goto (tgt := 96) F d_M_insert_72 (by decide) ?_
          refine ma_code F X g_M_55_M Pw_5 hSw_7 d_M_insert_96 (n' := 99) rfl (fun Hw_8 locs_w_8 Pw_8 kw_8 Sw_8 => ?_)
          have kw_8 := kw_5.tr kw_8
          refine yy_aload_n F d_M_insert_99 (n := 100) rfl 1 rfl ?_
          refine yy_get F X.1 X.2.1 g_M_55_M Pw_8.o rfl d_M_insert_100 (n := 103) rfl ?_
          refine yy_if_le_f (tgt := 107) F d_M_insert_103 (n := 106) rfl (by decide) (by decide) ?_
          exact yy_vret F Sw_8 ⟨Nat.zero_le _, Nat.zero_le _⟩ rfl d_M_insert_106 (mq_v (o := some e_ns) (v := 0) (σ := σ) (by unfold sp_insert; rw [hfe, hE, show k_toi σ (cN x) p = false by simp [k_toi, n5, Int32.not_le.mp h1]]; rfl) R Pw_8 kw_8 (by decide))
  · refine yy_if_eq_f (tgt := 22) F d_M_insert_5 (n := 8) rfl (by decide) (by decide) ?_
    obtain ⟨hc, ex⟩ := inb_cN (by omega) hin
    refine yy_aload_n F d_M_insert_8 (n := 9) rfl 0 rfl ?_
    refine yy_get F X.1 X.2.1 g_M_7_M hP.o rfl d_M_insert_9 (n := 12) rfl ?_
    refine yy_iload_n F d_M_insert_12 (n := 13) rfl 1 rfl ?_
    refine yy_tope (y := (nI (cN x))) ex ?_
    refine ma_ld (j := 0) (i := (cN x)) F X hP (by decide) (show cN x < 10 by omega) d_M_insert_13 (n' := 14) rfl ?_
    refine yy_tope (y := (k_kd σ (cN x))) (R.kd hc) ?_
    refine yy_iconst (v := 5) F d_M_insert_14 (n := 15) rfl rfl ?_
    refine yy_ic_ne (tgt := 22) F d_M_insert_15 (n := 18) rfl (by decide) (fun h5 => ?_) (fun h5 => ?_)
    · have hfe : ch_flh σ x = ch_fl σ x := flh_n (fun _ => h5)
      refine yy_iconst (v := 0) F d_M_insert_22 (n := 23) rfl rfl ?_
      refine yy_istore (lv' := [(4, .int 0), (0, .ref a), (1, .int x), (2, .int p), (3, .int v)]) F d_M_insert_23 (n := 25) rfl (by decide) rfl ?_
      refine yy_aload_n F d_M_insert_25 (n := 26) rfl 1 rfl ?_
      refine yy_iload F d_M_insert_26 (n := 28) rfl 0 rfl ?_
      refine yy_if_eq_t (tgt := 35) F d_M_insert_28 (by decide) (by decide) ?_
      refine yy_aload_n F d_M_insert_35 (n := 36) rfl 1 rfl ?_
      refine yy_iload_n F d_M_insert_36 (n := 37) rfl 2 rfl ?_
      refine yy_iconst (v := 5) F d_M_insert_37 (n := 38) rfl rfl ?_
      cases hE : ch_fl σ x with
      | some E =>
        have hin9 : E ∈ ([e_io, e_uo, e_ns, e_is, e_rt] : List String) := by rcases ch_fl_in I.m10 hE with rfl | rfl | rfl <;> decide
        obtain ⟨hc1, hc2⟩ := m_pos hin9 (by decide)
        refine yy_cri (w := (c_of [e_io, e_uo, e_ns, e_is, e_rt] (some E))) F hSw_1 (c_M_checkList (x := x) (e := 5) X I R) (yy_Bc F X.1 q_958 q_3) (yy_invV (nA := 2) (C := R_M) (bytes := b_M_checkList) (maxL := 3) (retY := (some .int)) F X.1 q_955 q_957 qs_M_checkList q_958 ⟨by decide, by decide, by decide +kernel⟩ (yy_recv F.N X.2.1 (ci := 6) rfl hP.o) rfl d_M_insert_38) d_M_insert_38 (n := 41) rfl (by simp [Value.category]) ⟨by decide, by decide⟩ ⟨Nat.zero_le _, Nat.zero_le _⟩ ⟨rfl, rfl⟩ hP (m_cl_E I.m10 hE (by decide) (by decide) (by decide)) (fun _ hSw_12 => ?_)
        refine ma_code F X g_M_55_M hP hSw_12 d_M_insert_41 (n' := 44) rfl (fun Hw_13 locs_w_13 Pw_13 kw_13 Sw_13 => ?_)
        have kw_13 := kpm.rf.tr kw_13
        refine yy_aload_n F d_M_insert_44 (n := 45) rfl 1 rfl ?_
        refine yy_get F X.1 X.2.1 g_M_55_M Pw_13.o rfl d_M_insert_45 (n := 48) rfl ?_
        refine yy_if_le_f (tgt := 52) F d_M_insert_48 (n := 51) rfl (by decide) hc1 ?_
        exact yy_vret F Sw_13 ⟨Nat.zero_le _, Nat.zero_le _⟩ rfl d_M_insert_51 (mq_v (o := some E) (v := 0) (σ := σ) (by unfold sp_insert; rw [hfe, hE]; rfl) R Pw_13 kw_13 rfl)
      | none =>
        obtain ⟨hc, ex, hk, hs⟩ := ch_fl_none I.m10 hE
        have hb := I.bs hc
        have h24 := I.ct hc
        have hend := I.end hc (k_fr_of hs)
        refine yy_cri (w := 0) F hSw_1 (c_M_checkList (x := x) (e := 5) X I R) (yy_Bc F X.1 q_958 q_3) (yy_invV (nA := 2) (C := R_M) (bytes := b_M_checkList) (maxL := 3) (retY := (some .int)) F X.1 q_955 q_957 qs_M_checkList q_958 ⟨by decide, by decide, by decide +kernel⟩ (yy_recv F.N X.2.1 (ci := 6) rfl hP.o) rfl d_M_insert_38) d_M_insert_38 (n := 41) rfl (by simp [Value.category]) ⟨by decide, by decide⟩ ⟨Nat.zero_le _, Nat.zero_le _⟩ ⟨rfl, rfl⟩ hP (m_cl_0 hE) (fun _ hSw_14 => ?_)
        rw [show (Value.int x) = Value.int (nI (cN x)) from congrArg Value.int ex]
        have n5 : ¬ k_kd σ (cN x) = 5 := fun q => by rw [q] at hk; exact absurd hk (by decide)
        have hb := I.bs hc
        refine ma_code F X g_M_55_M hP hSw_14 d_M_insert_41 (n' := 44) rfl (fun Hw_15 locs_w_15 Pw_15 kw_15 Sw_15 => ?_)
        have kw_15 := kpm.rf.tr kw_15
        refine yy_aload_n F d_M_insert_44 (n := 45) rfl 1 rfl ?_
        refine yy_get F X.1 X.2.1 g_M_55_M Pw_15.o rfl d_M_insert_45 (n := 48) rfl ?_
        refine yy_if_le_t (tgt := 52) F d_M_insert_48 (by decide) (by decide) ?_
        refine yy_aload_n F d_M_insert_52 (n := 53) rfl 1 rfl ?_
        refine yy_iload F d_M_insert_53 (n := 55) rfl 0 rfl ?_
        refine yy_if_ne_f (tgt := 75) F d_M_insert_55 (n := 58) rfl (by decide) (by decide) ?_
        refine yy_iload_n F d_M_insert_58 (n := 59) rfl 3 rfl ?_
        refine yy_if_lt (tgt := 71) F d_M_insert_59 (n := 62) rfl (by decide) (fun h0 => ?_) (fun h0 => ?_)
        · refine yy_iconst (v := 3) F d_M_insert_71 (n := 72) rfl rfl ?_
          refine yy_goto (tgt := 96) F d_M_insert_72 (by decide) ?_
          refine ma_code F X g_M_55_M Pw_15 Sw_15 d_M_insert_96 (n' := 99) rfl (fun Hw_16 locs_w_16 Pw_16 kw_16 Sw_16 => ?_)
          have kw_16 := kw_15.tr kw_16
          refine yy_aload_n F d_M_insert_99 (n := 100) rfl 1 rfl ?_
          refine yy_get F X.1 X.2.1 g_M_55_M Pw_16.o rfl d_M_insert_100 (n := 103) rfl ?_
          refine yy_if_le_f (tgt := 107) F d_M_insert_103 (n := 106) rfl (by decide) (by decide) ?_
          exact yy_vret F Sw_16 ⟨Nat.zero_le _, Nat.zero_le _⟩ rfl d_M_insert_106 (mq_v (o := some e_ns) (v := 0) (σ := σ) (by unfold sp_insert; rw [hfe, hE, show k_toi σ (cN x) p = false by simp [k_toi, n5, h0]]; rfl) R Pw_16 kw_16 (by decide))
        · refine yy_iload_n F d_M_insert_62 (n := 63) rfl 3 rfl ?_
          refine yy_aload_n F d_M_insert_63 (n := 64) rfl 1 rfl ?_
          refine yy_iload_n F d_M_insert_64 (n := 65) rfl 2 rfl ?_
          refine yy_cri (w := (nI (k_size σ (cN x)))) F Sw_15 (c_M_sizeOf X I R hc) (yy_Bc F X.1 q_934 q_3) (yy_invV (nA := 1) (C := R_M) (bytes := b_M_sizeOf) (maxL := 4) (retY := (some .int)) F X.1 q_931 q_933 qs_M_sizeOf q_934 ⟨by decide, by decide, by decide +kernel⟩ (yy_recv F.N X.2.1 (ci := 6) rfl Pw_15.o) rfl d_M_insert_65) d_M_insert_65 (n := 68) rfl (by simp [Value.category]) ⟨by decide, by decide⟩ ⟨Nat.zero_le _, Nat.zero_le _⟩ ⟨rfl, rfl⟩ Pw_15 rfl (fun _ hSw_17 => ?_)
          refine yy_ic_le (tgt := 75) F d_M_insert_68 (n := 71) rfl (by decide) (fun h1 => ?_) (fun h1 => ?_)
          · have hti : k_toi σ (cN x) p = true := by simp [k_toi, n5, h0, Int32.not_lt.mpr h1]
            obtain ⟨hp1, hp2⟩ := le_cN (by omega) h0 (Int32.not_lt.mpr h1)
            have hki : k_ins σ (cN x) p v = k_start σ (cN x) + cN p := if_neg n5
            refine yy_aload_n F d_M_insert_75 (n := 76) rfl 1 rfl ?_
            refine yy_get F X.1 X.2.1 g_M_25_M Pw_15.o rfl d_M_insert_76 (n := 79) rfl ?_
            refine yy_aload_n F d_M_insert_79 (n := 80) rfl 1 rfl ?_
            refine yy_get F X.1 X.2.1 g_M_16_M Pw_15.o rfl d_M_insert_80 (n := 83) rfl ?_
            refine yy_iload_n F d_M_insert_83 (n := 84) rfl 2 rfl ?_
            refine ma_ld (j := 2) (i := (cN x)) F X Pw_15 (by decide) (show cN x < 10 by omega) d_M_insert_84 (n' := 85) rfl ?_
            refine yy_tope (y := (nI (k_bs σ (cN x)))) (R.bs hc) ?_
            refine ma_ld (j := 5) (i := (k_bs σ (cN x))) F X Pw_15 (by decide) (show k_bs σ (cN x) < 10 by omega) d_M_insert_85 (n' := 86) rfl ?_
            refine yy_tope (y := (nI (s_ct (k_B σ (cN x))))) (R.ct I hc) ?_
            refine yy_bipush (v := 24) F d_M_insert_86 (n := 88) rfl rfl ?_
            refine yy_ic_ne (tgt := 95) F d_M_insert_88 (n := 91) rfl (by decide) (fun hf => ?_) (fun hf => ?_)
            · have h24b : s_ct (k_B σ (cN x)) < 24 := by
                have : ¬ s_ct (k_B σ (cN x)) = 24 := fun q => hf (by rw [q]; rfl)
                omega
              have hpi : Value.int p = Value.int (nI (cN p)) := congrArg Value.int hp2
              refine yy_iconst (v := 0) F d_M_insert_95 (n := 96) rfl rfl ?_
              refine ma_code F X g_M_55_M Pw_15 hSw_17 d_M_insert_96 (n' := 99) rfl (fun Hw_19 locs_w_19 Pw_19 kw_19 Sw_19 => ?_)
              have kw_19 := kw_15.tr kw_19
              refine yy_aload_n F d_M_insert_99 (n := 100) rfl 1 rfl ?_
              refine yy_get F X.1 X.2.1 g_M_55_M Pw_19.o rfl d_M_insert_100 (n := 103) rfl ?_
              refine yy_if_le_t (tgt := 107) F d_M_insert_103 (by decide) (by decide) ?_
              refine yy_iload F d_M_insert_107 (n := 109) rfl 0 rfl ?_
              refine yy_if_eq_t (tgt := 128) F d_M_insert_109 (by decide) (by decide) ?_
              refine yy_aload_n F d_M_insert_128 (n := 129) rfl 1 rfl ?_
              refine yy_iload_n F d_M_insert_129 (n := 130) rfl 2 rfl ?_
              refine yy_iload_n F d_M_insert_130 (n := 131) rfl 3 rfl ?_
              refine yy_iload_n F d_M_insert_131 (n := 132) rfl 4 rfl ?_
              rw [hpi]
              refine yy_cv F Sw_19 (c_M_insertAt (p := cN p) (y := v) X I R hc hk (by omega) h24b) (yy_Bc F X.1 q_983 q_3) (yy_invV (nA := 3) (C := R_M) (bytes := b_M_insertAt) (maxL := 5) (retY := none) F X.1 q_980 q_982 qs_M_insertAt q_983 ⟨by decide, by decide, by decide +kernel⟩ (yy_recv F.N X.2.1 (ci := 6) rfl Pw_19.o) rfl d_M_insert_132) d_M_insert_132 (n := 135) rfl (by simp [Value.category]) ⟨by decide, by decide⟩ ⟨Nat.zero_le _, Nat.zero_le _⟩ ⟨rfl, rfl⟩ Pw_19 (fun Hw_20 locs_w_20 qw_20 Sw_20 => ?_)
              obtain ⟨s1, R1, P1, k1⟩ := qw_20
              have k1 := kw_19.tr k1
              exact yy_vret F Sw_20 ⟨Nat.zero_le _, Nat.zero_le _⟩ rfl d_M_insert_135 (mq_v (o := none) (v := 0) (σ := (k_bring σ (cN x) (k_start σ (cN x) + cN p) v)) (by unfold sp_insert; rw [hfe, hE, hti, show (!decide (24 ≤ s_ct (k_B σ (cN x)))) = true by simp [h24b], hki]; rfl) R1 P1 k1 (by decide))
            · have hf9 : s_ct (k_B σ (cN x)) = 24 := (nI_eq (by omega) (by omega)).mp (show nI (s_ct (k_B σ (cN x))) = nI 24 from hf)
              refine yy_iconst (v := 4) F d_M_insert_91 (n := 92) rfl rfl ?_
              refine yy_goto (tgt := 96) F d_M_insert_92 (by decide) ?_
              refine ma_code F X g_M_55_M Pw_15 hSw_17 d_M_insert_96 (n' := 99) rfl (fun Hw_21 locs_w_21 Pw_21 kw_21 Sw_21 => ?_)
              have kw_21 := kw_15.tr kw_21
              refine yy_aload_n F d_M_insert_99 (n := 100) rfl 1 rfl ?_
              refine yy_get F X.1 X.2.1 g_M_55_M Pw_21.o rfl d_M_insert_100 (n := 103) rfl ?_
              refine yy_if_le_f (tgt := 107) F d_M_insert_103 (n := 106) rfl (by decide) (by decide) ?_
              exact yy_vret F Sw_21 ⟨Nat.zero_le _, Nat.zero_le _⟩ rfl d_M_insert_106 (mq_v (o := some e_is) (v := 0) (σ := σ) (by unfold sp_insert; rw [hfe, hE, hti, show (!decide (24 ≤ s_ct (k_B σ (cN x)))) = false by simp [hf9]]; rfl) R Pw_21 kw_21 (by decide))
          · refine yy_iconst (v := 3) F d_M_insert_71 (n := 72) rfl rfl ?_
            refine yy_goto (tgt := 96) F d_M_insert_72 (by decide) ?_
            refine ma_code F X g_M_55_M Pw_15 hSw_17 d_M_insert_96 (n' := 99) rfl (fun Hw_18 locs_w_18 Pw_18 kw_18 Sw_18 => ?_)
            have kw_18 := kw_15.tr kw_18
            refine yy_aload_n F d_M_insert_99 (n := 100) rfl 1 rfl ?_
            refine yy_get F X.1 X.2.1 g_M_55_M Pw_18.o rfl d_M_insert_100 (n := 103) rfl ?_
            refine yy_if_le_f (tgt := 107) F d_M_insert_103 (n := 106) rfl (by decide) (by decide) ?_
            exact yy_vret F Sw_18 ⟨Nat.zero_le _, Nat.zero_le _⟩ rfl d_M_insert_106 (mq_v (o := some e_ns) (v := 0) (σ := σ) (by unfold sp_insert; rw [hfe, hE, show k_toi σ (cN x) p = false by simp [k_toi, n5, Int32.not_le.mp h1]]; rfl) R Pw_18 kw_18 (by decide))
    · have hfe := flh_5 hin h5
      have h6 : ¬ k_kd σ (cN x) = 6 := fun q => absurd (h5.symm.trans q) (by decide)
      have h7 : ¬ k_kd σ (cN x) = 7 := fun q => absurd (h5.symm.trans q) (by decide)
      have ebc := I.b0 hc h6 h7
      have hk5 : k_kb σ (cN x) = 5 := by rw [k_kb, ebc]; exact h5
      have hso := (I.s hc).2.2.2.2.2.2 (Or.inr hk5)
      have hhp := (R.ss I hc).2.2.1 hk5
      have hb := I.bs hc
      have h24 := I.ct hc
      refine yy_iconst (v := 1) F d_M_insert_18 (n := 19) rfl rfl ?_
      refine yy_goto (tgt := 23) F d_M_insert_19 (by decide) ?_
      rw [show (Value.int x) = Value.int (nI (cN x)) from congrArg Value.int ex]
      refine yy_istore (lv' := [(4, .int 1), (0, .ref a), (1, .int (nI (cN x))), (2, .int p), (3, .int v)]) F d_M_insert_23 (n := 25) rfl (by decide) rfl ?_
      refine yy_aload_n F d_M_insert_25 (n := 26) rfl 1 rfl ?_
      refine yy_iload F d_M_insert_26 (n := 28) rfl 0 rfl ?_
      refine yy_if_eq_f (tgt := 35) F d_M_insert_28 (n := 31) rfl (by decide) (by decide) ?_
      refine yy_iconst (v := 0) F d_M_insert_31 (n := 32) rfl rfl ?_
      refine yy_goto (tgt := 41) F d_M_insert_32 (by decide) ?_
      refine ma_code F X g_M_55_M hP hSw_1 d_M_insert_41 (n' := 44) rfl (fun Hw_22 locs_w_22 Pw_22 kw_22 Sw_22 => ?_)
      have kw_22 := kpm.rf.tr kw_22
      refine yy_aload_n F d_M_insert_44 (n := 45) rfl 1 rfl ?_
      refine yy_get F X.1 X.2.1 g_M_55_M Pw_22.o rfl d_M_insert_45 (n := 48) rfl ?_
      refine yy_if_le_t (tgt := 52) F d_M_insert_48 (by decide) (by decide) ?_
      refine yy_aload_n F d_M_insert_52 (n := 53) rfl 1 rfl ?_
      refine yy_iload F d_M_insert_53 (n := 55) rfl 0 rfl ?_
      refine yy_if_ne_t (tgt := 75) F d_M_insert_55 (by decide) (by decide) ?_
      refine yy_aload_n F d_M_insert_75 (n := 76) rfl 1 rfl ?_
      refine yy_get F X.1 X.2.1 g_M_25_M Pw_22.o rfl d_M_insert_76 (n := 79) rfl ?_
      refine yy_aload_n F d_M_insert_79 (n := 80) rfl 1 rfl ?_
      refine yy_get F X.1 X.2.1 g_M_16_M Pw_22.o rfl d_M_insert_80 (n := 83) rfl ?_
      refine yy_iload_n F d_M_insert_83 (n := 84) rfl 2 rfl ?_
      refine ma_ld (j := 2) (i := (cN x)) F X Pw_22 (by decide) (show cN x < 10 by omega) d_M_insert_84 (n' := 85) rfl ?_
      refine yy_tope (y := (nI (k_bs σ (cN x)))) (R.bs hc) ?_
      refine ma_ld (j := 5) (i := (k_bs σ (cN x))) F X Pw_22 (by decide) (show k_bs σ (cN x) < 10 by omega) d_M_insert_85 (n' := 86) rfl ?_
      refine yy_tope (y := (nI (s_ct (k_B σ (cN x))))) (R.ct I hc) ?_
      refine yy_bipush (v := 24) F d_M_insert_86 (n := 88) rfl rfl ?_
      refine yy_ic_ne (tgt := 95) F d_M_insert_88 (n := 91) rfl (by decide) (fun hf => ?_) (fun hf => ?_)
      · have h24b : s_ct (k_B σ (cN x)) < 24 := by
          have : ¬ s_ct (k_B σ (cN x)) = 24 := fun q => hf (by rw [q]; rfl)
          omega
        have hki : k_ins σ (cN x) p v ≤ s_ct (k_B σ (cN x)) := by
          unfold k_ins
          rw [if_pos h5]
          exact ym_cnt_le _ _
        have hnr : n_row (k_kb σ (cN x)) (s_ro (k_B σ (cN x))) (s_ct (k_B σ (cN x))) = s_ro (k_B σ (cN x)) := if_neg (fun q => absurd (hk5.symm.trans q.1) (by decide))
        refine yy_iconst (v := 0) F d_M_insert_95 (n := 96) rfl rfl ?_
        refine ma_code F X g_M_55_M Pw_22 Sw_22 d_M_insert_96 (n' := 99) rfl (fun Hw_23 locs_w_23 Pw_23 kw_23 Sw_23 => ?_)
        have kw_23 := kw_22.tr kw_23
        refine yy_aload_n F d_M_insert_99 (n := 100) rfl 1 rfl ?_
        refine yy_get F X.1 X.2.1 g_M_55_M Pw_23.o rfl d_M_insert_100 (n := 103) rfl ?_
        refine yy_if_le_t (tgt := 107) F d_M_insert_103 (by decide) (by decide) ?_
        refine yy_iload F d_M_insert_107 (n := 109) rfl 0 rfl ?_
        refine yy_if_eq_f (tgt := 128) F d_M_insert_109 (n := 112) rfl (by decide) (by decide) ?_
        refine yy_aload_n F d_M_insert_112 (n := 113) rfl 1 rfl ?_
        refine yy_iload_n F d_M_insert_113 (n := 114) rfl 2 rfl ?_
        refine yy_aload_n F d_M_insert_114 (n := 115) rfl 1 rfl ?_
        refine yy_get F X.1 X.2.1 g_M_25_M Pw_23.o rfl d_M_insert_115 (n := 118) rfl ?_
        refine yy_iload_n F d_M_insert_118 (n := 119) rfl 2 rfl ?_
        refine ma_ld (j := 5) (i := (cN x)) F X Pw_23 (by decide) (show cN x < 10 by omega) d_M_insert_119 (n' := 120) rfl ?_
        refine yy_tope (y := (nI (s_ct (k_B σ (cN x))))) (by have h9 := R.ct I hc; rw [I.b0 hc h6 h7] at h9; exact h9) ?_
        refine yy_iload_n F d_M_insert_120 (n := 121) rfl 4 rfl ?_
        refine yy_iconst (v := 0) F d_M_insert_121 (n := 122) rfl rfl ?_
        refine yy_cv F Sw_23 (c_M_putIn (j := s_ct (k_B σ (cN x))) (x := v) (v := 0) (nu := upd (ym_up (s_nu (k_B σ (cN x))) (k_ins σ (cN x) p v) (s_ct (k_B σ (cN x)))) (k_ins σ (cN x) p v) v) (vl := upd (ym_up (s_vl (k_B σ (cN x))) (k_ins σ (cN x) p v) (s_ct (k_B σ (cN x)))) (k_ins σ (cN x) p v) 0) X I R hc (Nat.le_refl _) h24b (fun q => absurd hk5 q) (fun _ => hp_ins hhp.2 (Nat.le_refl _) hki v) (fun q => by rw [hk5] at q; exact absurd q (by decide))) (yy_Bc F X.1 q_975 q_3) (yy_invV (nA := 4) (C := R_M) (bytes := b_M_putIn) (maxL := 7) (retY := none) F X.1 q_972 q_974 qs_M_putIn q_975 ⟨by decide, by decide, by decide +kernel⟩ (yy_recv F.N X.2.1 (ci := 6) rfl Pw_23.o) rfl d_M_insert_122) d_M_insert_122 (n := 125) rfl (by simp [Value.category]) ⟨by decide, by decide⟩ ⟨Nat.zero_le _, Nat.zero_le _⟩ ⟨rfl, rfl⟩ Pw_23 (fun Hw_24 locs_w_24 qw_24 Sw_24 => ?_)
        obtain ⟨s1, Q1, P1, k1⟩ := qw_24
        have k1 := kw_23.tr k1
        have R1 : mr s1 (k_bring σ (cN x) (k_ins σ (cN x) p v) v) := by
          unfold k_bring S_bring
          rw [hnr]
          exact Q1
        refine yy_goto (tgt := 135) F d_M_insert_125 (by decide) ?_
        exact yy_vret F Sw_24 ⟨Nat.zero_le _, Nat.zero_le _⟩ rfl d_M_insert_135 (mq_v (o := none) (v := 0) (σ := (k_bring σ (cN x) (k_ins σ (cN x) p v) v)) (by unfold sp_insert; rw [hfe, show k_toi σ (cN x) p = true by simp [k_toi, h5], show (!decide (24 ≤ s_ct (k_B σ (cN x)))) = true by simp [h24b]]; rfl) R1 P1 k1 (by decide))
      · have hf9 : s_ct (k_B σ (cN x)) = 24 := (nI_eq (by omega) (by omega)).mp (show nI (s_ct (k_B σ (cN x))) = nI 24 from hf)
        refine yy_iconst (v := 4) F d_M_insert_91 (n := 92) rfl rfl ?_
        refine yy_goto (tgt := 96) F d_M_insert_92 (by decide) ?_
        refine ma_code F X g_M_55_M Pw_22 Sw_22 d_M_insert_96 (n' := 99) rfl (fun Hw_25 locs_w_25 Pw_25 kw_25 Sw_25 => ?_)
        have kw_25 := kw_22.tr kw_25
        refine yy_aload_n F d_M_insert_99 (n := 100) rfl 1 rfl ?_
        refine yy_get F X.1 X.2.1 g_M_55_M Pw_25.o rfl d_M_insert_100 (n := 103) rfl ?_
        refine yy_if_le_f (tgt := 107) F d_M_insert_103 (n := 106) rfl (by decide) (by decide) ?_
        exact yy_vret F Sw_25 ⟨Nat.zero_le _, Nat.zero_le _⟩ rfl d_M_insert_106 (mq_v (o := some e_is) (v := 0) (σ := σ) (by unfold sp_insert; rw [hfe, show k_toi σ (cN x) p = true by simp [k_toi, h5], show (!decide (24 ≤ s_ct (k_B σ (cN x)))) = false by simp [hf9]]; rfl) R Pw_25 kw_25 (by decide))
set_option maxRecDepth 100000 in
set_option maxHeartbeats 4000000 in
theorem c_M_remove {l : Launch} {z : State} {a0 : Array Value} {D : va_G} {ca : kca} (X : kcx l z a0 D ca) {a n : Nat} {cd : Int32} {s : ms} {σ : ks} {t : Nat} (I : iv t σ) (R : mr s σ) {x p : Int32} : yy_M l z y_M_remove (.code y_M_remove b_M_remove 6 (some .int)) ({ frames := 2, cells := 0, slots := 0, locals := 48 }) [.ref a, .int x, .int p] (mo_at D ca z a n cd s) (mqi D ca z a n [e_io, e_uo, e_ns, e_rt] (sp_remove σ x p)) := by
  refine yy_body (plainFor_of_name (by decide)) (Nat.le_of_ble_eq_true rfl) (fun b H F hS hP hH hnm => ?_)
  have h10 := I.m10
  refine yy_aload_n F d_M_remove_0 (n := 1) rfl 0 rfl ?_
  refine yy_iload_n F d_M_remove_1 (n := 2) rfl 1 rfl ?_
  refine yy_cri (w := (ym_n (ym_inb x (k_m σ)))) F hS (c_M_isThere (x := x) X I R) (yy_Bc F X.1 q_918 q_3) (yy_invV (nA := 1) (C := R_M) (bytes := b_M_isThere) (maxL := 2) (retY := (some .boolean)) F X.1 q_915 q_917 qs_M_isThere q_918 ⟨by decide, by decide, by decide +kernel⟩ (yy_recv F.N X.2.1 (ci := 6) rfl hP.o) rfl d_M_remove_2) d_M_remove_2 (n := 5) rfl (by simp [Value.category]) ⟨by decide, by decide⟩ ⟨Nat.zero_le _, Nat.zero_le _⟩ ⟨rfl, rfl⟩ hP rfl (fun _ hSw_1 => ?_)
  cases hin : ym_inb x (k_m σ)
  · refine yy_if_eq_t (tgt := 22) F d_M_remove_5 (by decide) rfl ?_
    have hfe : ch_flh σ x = ch_fl σ x := flh_n (fun q => by rw [hin] at q; cases q)
    refine yy_iconst (v := 0) F d_M_remove_22 (n := 23) rfl rfl ?_
    refine yy_istore_n (lv' := [(3, .int 0), (0, .ref a), (1, .int x), (2, .int p)]) F d_M_remove_23 (n := 24) rfl (by decide) rfl ?_
    refine yy_aload_n F d_M_remove_24 (n := 25) rfl 1 rfl ?_
    refine yy_iload_n F d_M_remove_25 (n := 26) rfl 0 rfl ?_
    refine yy_if_eq_t (tgt := 33) F d_M_remove_26 (by decide) (by decide) ?_
    refine yy_aload_n F d_M_remove_33 (n := 34) rfl 1 rfl ?_
    refine yy_iload_n F d_M_remove_34 (n := 35) rfl 2 rfl ?_
    refine yy_iconst (v := 4) F d_M_remove_35 (n := 36) rfl rfl ?_
    cases hE : ch_fl σ x with
    | some E =>
      have hin9 : E ∈ ([e_io, e_uo, e_ns, e_rt] : List String) := by rcases ch_fl_in I.m10 hE with rfl | rfl | rfl <;> decide
      obtain ⟨hc1, hc2⟩ := m_pos hin9 (by decide)
      refine yy_cri (w := (c_of [e_io, e_uo, e_ns, e_rt] (some E))) F hSw_1 (c_M_checkList (x := x) (e := 4) X I R) (yy_Bc F X.1 q_958 q_3) (yy_invV (nA := 2) (C := R_M) (bytes := b_M_checkList) (maxL := 3) (retY := (some .int)) F X.1 q_955 q_957 qs_M_checkList q_958 ⟨by decide, by decide, by decide +kernel⟩ (yy_recv F.N X.2.1 (ci := 6) rfl hP.o) rfl d_M_remove_36) d_M_remove_36 (n := 39) rfl (by simp [Value.category]) ⟨by decide, by decide⟩ ⟨Nat.zero_le _, Nat.zero_le _⟩ ⟨rfl, rfl⟩ hP (m_cl_E I.m10 hE (by decide) (by decide) (by decide)) (fun _ hSw_2 => ?_)
      refine ma_code F X g_M_55_M hP hSw_2 d_M_remove_39 (n' := 42) rfl (fun Hw_3 locs_w_3 Pw_3 kw_3 Sw_3 => ?_)
      have kw_3 := kpm.rf.tr kw_3
      refine yy_aload_n F d_M_remove_42 (n := 43) rfl 1 rfl ?_
      refine yy_get F X.1 X.2.1 g_M_55_M Pw_3.o rfl d_M_remove_43 (n := 46) rfl ?_
      refine yy_if_le_f (tgt := 51) F d_M_remove_46 (n := 49) rfl (by decide) hc1 ?_
      refine yy_iconst (v := 0) F d_M_remove_49 (n := 50) rfl rfl ?_
      exact yy_iret F Sw_3 ⟨Nat.zero_le _, Nat.zero_le _⟩ rfl d_M_remove_50 (mq_i (o := some E) (v := 0) (σ := σ) (by unfold sp_remove; rw [hfe, hE]; rfl) R Pw_3 kw_3 rfl (fun h => by cases h))
    | none =>
      obtain ⟨hc, ex, hk, hs⟩ := ch_fl_none I.m10 hE
      have hb := I.bs hc
      have h24 := I.ct hc
      have hend := I.end hc (k_fr_of hs)
      refine yy_cri (w := 0) F hSw_1 (c_M_checkList (x := x) (e := 4) X I R) (yy_Bc F X.1 q_958 q_3) (yy_invV (nA := 2) (C := R_M) (bytes := b_M_checkList) (maxL := 3) (retY := (some .int)) F X.1 q_955 q_957 qs_M_checkList q_958 ⟨by decide, by decide, by decide +kernel⟩ (yy_recv F.N X.2.1 (ci := 6) rfl hP.o) rfl d_M_remove_36) d_M_remove_36 (n := 39) rfl (by simp [Value.category]) ⟨by decide, by decide⟩ ⟨Nat.zero_le _, Nat.zero_le _⟩ ⟨rfl, rfl⟩ hP (m_cl_0 hE) (fun _ hSw_4 => ?_)
      rw [show (Value.int x) = Value.int (nI (cN x)) from congrArg Value.int ex]
      have n5 : ¬ k_kd σ (cN x) = 5 := fun q => by rw [q] at hk; exact absurd hk (by decide)
      have hb := I.bs hc
      have h5 := k_lb5 I hc hk
      have hwh : k_whe σ (cN x) p = p := if_neg n5
      refine ma_code F X g_M_55_M hP hSw_4 d_M_remove_39 (n' := 42) rfl (fun Hw_5 locs_w_5 Pw_5 kw_5 Sw_5 => ?_)
      have kw_5 := kpm.rf.tr kw_5
      refine yy_aload_n F d_M_remove_42 (n := 43) rfl 1 rfl ?_
      refine yy_get F X.1 X.2.1 g_M_55_M Pw_5.o rfl d_M_remove_43 (n := 46) rfl ?_
      refine yy_if_le_t (tgt := 51) F d_M_remove_46 (by decide) (by decide) ?_
      refine yy_aload_n F d_M_remove_51 (n := 52) rfl 1 rfl ?_
      refine yy_iload_n F d_M_remove_52 (n := 53) rfl 0 rfl ?_
      refine yy_if_eq_t (tgt := 73) F d_M_remove_53 (by decide) (by decide) ?_
      refine yy_iload_n F d_M_remove_73 (n := 74) rfl 3 rfl ?_
      refine yy_if_lt (tgt := 86) F d_M_remove_74 (n := 77) rfl (by decide) (fun h0 => ?_) (fun h0 => ?_)
      · refine yy_iconst (v := 3) F d_M_remove_86 (n := 87) rfl rfl ?_
        refine yy_goto (tgt := 91) F d_M_remove_87 (by decide) ?_
        refine ma_code F X g_M_55_M Pw_5 Sw_5 d_M_remove_91 (n' := 94) rfl (fun Hw_6 locs_w_6 Pw_6 kw_6 Sw_6 => ?_)
        have kw_6 := kw_5.tr kw_6
        refine yy_aload_n F d_M_remove_94 (n := 95) rfl 1 rfl ?_
        refine yy_get F X.1 X.2.1 g_M_55_M Pw_6.o rfl d_M_remove_95 (n := 98) rfl ?_
        refine yy_if_le_f (tgt := 103) F d_M_remove_98 (n := 101) rfl (by decide) (by decide) ?_
        refine yy_iconst (v := 0) F d_M_remove_101 (n := 102) rfl rfl ?_
        exact yy_iret F Sw_6 ⟨Nat.zero_le _, Nat.zero_le _⟩ rfl d_M_remove_102 (mq_i (o := some e_ns) (v := 0) (σ := σ) (by unfold sp_remove; rw [hfe, hE, hwh, show ym_inb p (k_size σ (cN x)) = false by simp [ym_inb, h0]]; rfl) R Pw_6 kw_6 (by decide) (fun h => by cases h))
      · refine yy_iload_n F d_M_remove_77 (n := 78) rfl 3 rfl ?_
        refine yy_aload_n F d_M_remove_78 (n := 79) rfl 1 rfl ?_
        refine yy_iload_n F d_M_remove_79 (n := 80) rfl 2 rfl ?_
        refine yy_cri (w := (nI (k_size σ (cN x)))) F Sw_5 (c_M_sizeOf X I R hc) (yy_Bc F X.1 q_934 q_3) (yy_invV (nA := 1) (C := R_M) (bytes := b_M_sizeOf) (maxL := 4) (retY := (some .int)) F X.1 q_931 q_933 qs_M_sizeOf q_934 ⟨by decide, by decide, by decide +kernel⟩ (yy_recv F.N X.2.1 (ci := 6) rfl Pw_5.o) rfl d_M_remove_80) d_M_remove_80 (n := 83) rfl (by simp [Value.category]) ⟨by decide, by decide⟩ ⟨Nat.zero_le _, Nat.zero_le _⟩ ⟨rfl, rfl⟩ Pw_5 rfl (fun _ hSw_7 => ?_)
        refine yy_ic_lt (tgt := 90) F d_M_remove_83 (n := 86) rfl (by decide) (fun h1 => ?_) (fun h1 => ?_)
        · have hp : ym_inb p (k_size σ (cN x)) = true := by simp [ym_inb, h0, h1]
          obtain ⟨hp1, hp2⟩ := inb_cN (by omega) hp
          have hpi : Value.int p = Value.int (nI (cN p)) := congrArg Value.int hp2
          rw [hpi]
          refine yy_iconst (v := 0) F d_M_remove_90 (n := 91) rfl rfl ?_
          refine ma_code F X g_M_55_M Pw_5 hSw_7 d_M_remove_91 (n' := 94) rfl (fun Hw_8 locs_w_8 Pw_8 kw_8 Sw_8 => ?_)
          have kw_8 := kw_5.tr kw_8
          refine yy_aload_n F d_M_remove_94 (n := 95) rfl 1 rfl ?_
          refine yy_get F X.1 X.2.1 g_M_55_M Pw_8.o rfl d_M_remove_95 (n := 98) rfl ?_
          refine yy_if_le_t (tgt := 103) F d_M_remove_98 (by decide) (by decide) ?_
          refine yy_iload_n F d_M_remove_103 (n := 104) rfl 0 rfl ?_
          refine yy_if_eq_t (tgt := 111) F d_M_remove_104 (by decide) (by decide) ?_
          refine yy_iload_n F d_M_remove_111 (n := 112) rfl 3 rfl ?_
          refine yy_istore (lv' := [(4, .int (nI (cN p))), (3, .int 0), (0, .ref a), (1, .int (nI (cN x))), (2, .int (nI (cN p)))]) F d_M_remove_112 (n := 114) rfl (by decide) rfl ?_
          refine yy_iconst (v := 0) F d_M_remove_114 (n := 115) rfl rfl ?_
          refine yy_tope (y := (nI 0)) rfl ?_
          refine yy_istore (lv' := [(5, .int (nI 0)), (4, .int (nI (cN p))), (3, .int 0), (0, .ref a), (1, .int (nI (cN x))), (2, .int (nI (cN p)))]) F d_M_remove_115 (n := 117) rfl (by decide) rfl ?_
          refine yy_iload_n F d_M_remove_117 (n := 118) rfl 2 rfl ?_
          refine yy_if_eq_t (tgt := 174) F d_M_remove_118 (by decide) (by decide) ?_
          refine yy_aload_n F d_M_remove_174 (n := 175) rfl 3 rfl ?_
          refine yy_get F X.1 X.2.1 g_M_19_M Pw_8.o rfl d_M_remove_175 (n := 178) rfl ?_
          refine yy_aload_n F d_M_remove_178 (n := 179) rfl 3 rfl ?_
          refine yy_iload_n F d_M_remove_179 (n := 180) rfl 4 rfl ?_
          refine yy_iload F d_M_remove_180 (n := 182) rfl 1 rfl ?_
          refine yy_cri (w := (nI (24 * k_bs σ (cN x) + (k_start σ (cN x) + cN p)))) F Sw_8 (c_M_at (x := nI (cN p)) (q := k_start σ (cN x) + cN p) X I R hc (nI_add _ _)) (yy_Bc F X.1 q_962 q_3) (yy_invV (nA := 2) (C := R_M) (bytes := b_M_at) (maxL := 3) (retY := (some .int)) F X.1 q_959 q_961 qs_M_at q_962 ⟨by decide, by decide, by decide +kernel⟩ (yy_recv F.N X.2.1 (ci := 6) rfl Pw_8.o) rfl d_M_remove_182) d_M_remove_182 (n := 185) rfl (by simp [Value.category]) ⟨by decide, by decide⟩ ⟨Nat.zero_le _, Nat.zero_le _⟩ ⟨rfl, rfl⟩ Pw_8 rfl (fun _ hSw_9 => ?_)
          refine ma_ld (j := 3) (i := (24 * k_bs σ (cN x) + (k_start σ (cN x) + cN p))) F X Pw_8 (by decide) (show 24 * k_bs σ (cN x) + (k_start σ (cN x) + cN p) < 240 by omega) d_M_remove_185 (n' := 186) rfl ?_
          refine yy_tope (y := (s_nu (k_B σ (cN x)) (k_start σ (cN x) + cN p))) (R.nu I hc h5 (by omega)) ?_
          refine yy_istore (lv' := [(5, .int (s_nu (k_B σ (cN x)) (k_start σ (cN x) + cN p))), (4, .int (nI (cN p))), (3, .int 0), (0, .ref a), (1, .int (nI (cN x))), (2, .int (nI (cN p)))]) F d_M_remove_186 (n := 188) rfl (by decide) rfl ?_
          refine yy_aload_n F d_M_remove_188 (n := 189) rfl 3 rfl ?_
          refine yy_iload_n F d_M_remove_189 (n := 190) rfl 4 rfl ?_
          refine yy_aload_n F d_M_remove_190 (n := 191) rfl 3 rfl ?_
          refine yy_iload_n F d_M_remove_191 (n := 192) rfl 4 rfl ?_
          refine yy_cri (w := (nI (k_start σ (cN x)))) F hSw_9 (c_M_placeIn X I R hc) (yy_Bc F X.1 q_942 q_3) (yy_invV (nA := 1) (C := R_M) (bytes := b_M_placeIn) (maxL := 3) (retY := (some .int)) F X.1 q_939 q_941 qs_M_placeIn q_942 ⟨by decide, by decide, by decide +kernel⟩ (yy_recv F.N X.2.1 (ci := 6) rfl Pw_8.o) rfl d_M_remove_192) d_M_remove_192 (n := 195) rfl (by simp [Value.category]) ⟨by decide, by decide⟩ ⟨Nat.zero_le _, Nat.zero_le _⟩ ⟨rfl, rfl⟩ Pw_8 rfl (fun _ hSw_10 => ?_)
          refine yy_iload F d_M_remove_195 (n := 197) rfl 1 rfl ?_
          refine yy_iadd F d_M_remove_197 (n := 198) rfl ?_
          refine yy_tope (y := (nI (k_start σ (cN x) + cN p))) (nI_add _ _) ?_
          refine yy_cv F hSw_10 (c_M_takeOut (j := (k_start σ (cN x) + cN p)) (nu := ym_sh (s_nu (k_B σ (cN x))) (k_start σ (cN x) + cN p) (s_ct (k_B σ (cN x)) - 1)) (vl := ym_sh (s_vl (k_B σ (cN x))) (k_start σ (cN x) + cN p) (s_ct (k_B σ (cN x)) - 1)) X I R hc (by omega) (k_fr_of hs) (fun h6 => by rw [k_size6 h6] at hp1; omega) (fun _ => sh_cg (by omega) (R.nu24 I hc h5)) (fun q => absurd q h5) (fun q => absurd q (k_l234 (k_lb I hc hk)))) (yy_Bc F X.1 q_991 q_3) (yy_invV (nA := 2) (C := R_M) (bytes := b_M_takeOut) (maxL := 5) (retY := none) F X.1 q_988 q_990 qs_M_takeOut q_991 ⟨by decide, by decide, by decide +kernel⟩ (yy_recv F.N X.2.1 (ci := 6) rfl Pw_8.o) rfl d_M_remove_198) d_M_remove_198 (n := 201) rfl (by simp [Value.category]) ⟨by decide, by decide⟩ ⟨Nat.zero_le _, Nat.zero_le _⟩ ⟨rfl, rfl⟩ Pw_8 (fun Hw_11 locs_w_11 qw_11 Sw_11 => ?_)
          obtain ⟨s1, Q1, P1, k1⟩ := qw_11
          have k1 := kw_8.tr k1
          have R1 : mr s1 (k_take σ (cN x) (k_start σ (cN x) + cN p)) := Q1
          refine yy_iload F d_M_remove_201 (n := 203) rfl 0 rfl ?_
          exact yy_iret F Sw_11 ⟨Nat.zero_le _, Nat.zero_le _⟩ rfl d_M_remove_203 (mq_i (o := none) (v := (s_nu (k_B σ (cN x)) (k_start σ (cN x) + cN p))) (σ := (k_take σ (cN x) (k_start σ (cN x) + cN p))) (by unfold sp_remove; rw [hfe, hE, hwh, hp]; rfl) R1 P1 k1 (by decide) (fun _ => rfl))
        · refine yy_iconst (v := 3) F d_M_remove_86 (n := 87) rfl rfl ?_
          refine yy_goto (tgt := 91) F d_M_remove_87 (by decide) ?_
          refine ma_code F X g_M_55_M Pw_5 hSw_7 d_M_remove_91 (n' := 94) rfl (fun Hw_12 locs_w_12 Pw_12 kw_12 Sw_12 => ?_)
          have kw_12 := kw_5.tr kw_12
          refine yy_aload_n F d_M_remove_94 (n := 95) rfl 1 rfl ?_
          refine yy_get F X.1 X.2.1 g_M_55_M Pw_12.o rfl d_M_remove_95 (n := 98) rfl ?_
          refine yy_if_le_f (tgt := 103) F d_M_remove_98 (n := 101) rfl (by decide) (by decide) ?_
          refine yy_iconst (v := 0) F d_M_remove_101 (n := 102) rfl rfl ?_
          exact yy_iret F Sw_12 ⟨Nat.zero_le _, Nat.zero_le _⟩ rfl d_M_remove_102 (mq_i (o := some e_ns) (v := 0) (σ := σ) (by unfold sp_remove; rw [hfe, hE, hwh, show ym_inb p (k_size σ (cN x)) = false by simp [ym_inb, h1]]; rfl) R Pw_12 kw_12 (by decide) (fun h => by cases h))
  · refine yy_if_eq_f (tgt := 22) F d_M_remove_5 (n := 8) rfl (by decide) (by decide) ?_
    obtain ⟨hc, ex⟩ := inb_cN (by omega) hin
    refine yy_aload_n F d_M_remove_8 (n := 9) rfl 0 rfl ?_
    refine yy_get F X.1 X.2.1 g_M_7_M hP.o rfl d_M_remove_9 (n := 12) rfl ?_
    refine yy_iload_n F d_M_remove_12 (n := 13) rfl 1 rfl ?_
    refine yy_tope (y := (nI (cN x))) ex ?_
    refine ma_ld (j := 0) (i := (cN x)) F X hP (by decide) (show cN x < 10 by omega) d_M_remove_13 (n' := 14) rfl ?_
    refine yy_tope (y := (k_kd σ (cN x))) (R.kd hc) ?_
    refine yy_iconst (v := 5) F d_M_remove_14 (n := 15) rfl rfl ?_
    refine yy_ic_ne (tgt := 22) F d_M_remove_15 (n := 18) rfl (by decide) (fun h5 => ?_) (fun h5 => ?_)
    · have hfe : ch_flh σ x = ch_fl σ x := flh_n (fun _ => h5)
      refine yy_iconst (v := 0) F d_M_remove_22 (n := 23) rfl rfl ?_
      refine yy_istore_n (lv' := [(3, .int 0), (0, .ref a), (1, .int x), (2, .int p)]) F d_M_remove_23 (n := 24) rfl (by decide) rfl ?_
      refine yy_aload_n F d_M_remove_24 (n := 25) rfl 1 rfl ?_
      refine yy_iload_n F d_M_remove_25 (n := 26) rfl 0 rfl ?_
      refine yy_if_eq_t (tgt := 33) F d_M_remove_26 (by decide) (by decide) ?_
      refine yy_aload_n F d_M_remove_33 (n := 34) rfl 1 rfl ?_
      refine yy_iload_n F d_M_remove_34 (n := 35) rfl 2 rfl ?_
      refine yy_iconst (v := 4) F d_M_remove_35 (n := 36) rfl rfl ?_
      cases hE : ch_fl σ x with
      | some E =>
        have hin9 : E ∈ ([e_io, e_uo, e_ns, e_rt] : List String) := by rcases ch_fl_in I.m10 hE with rfl | rfl | rfl <;> decide
        obtain ⟨hc1, hc2⟩ := m_pos hin9 (by decide)
        refine yy_cri (w := (c_of [e_io, e_uo, e_ns, e_rt] (some E))) F hSw_1 (c_M_checkList (x := x) (e := 4) X I R) (yy_Bc F X.1 q_958 q_3) (yy_invV (nA := 2) (C := R_M) (bytes := b_M_checkList) (maxL := 3) (retY := (some .int)) F X.1 q_955 q_957 qs_M_checkList q_958 ⟨by decide, by decide, by decide +kernel⟩ (yy_recv F.N X.2.1 (ci := 6) rfl hP.o) rfl d_M_remove_36) d_M_remove_36 (n := 39) rfl (by simp [Value.category]) ⟨by decide, by decide⟩ ⟨Nat.zero_le _, Nat.zero_le _⟩ ⟨rfl, rfl⟩ hP (m_cl_E I.m10 hE (by decide) (by decide) (by decide)) (fun _ hSw_13 => ?_)
        refine ma_code F X g_M_55_M hP hSw_13 d_M_remove_39 (n' := 42) rfl (fun Hw_14 locs_w_14 Pw_14 kw_14 Sw_14 => ?_)
        have kw_14 := kpm.rf.tr kw_14
        refine yy_aload_n F d_M_remove_42 (n := 43) rfl 1 rfl ?_
        refine yy_get F X.1 X.2.1 g_M_55_M Pw_14.o rfl d_M_remove_43 (n := 46) rfl ?_
        refine yy_if_le_f (tgt := 51) F d_M_remove_46 (n := 49) rfl (by decide) hc1 ?_
        refine yy_iconst (v := 0) F d_M_remove_49 (n := 50) rfl rfl ?_
        exact yy_iret F Sw_14 ⟨Nat.zero_le _, Nat.zero_le _⟩ rfl d_M_remove_50 (mq_i (o := some E) (v := 0) (σ := σ) (by unfold sp_remove; rw [hfe, hE]; rfl) R Pw_14 kw_14 rfl (fun h => by cases h))
      | none =>
        obtain ⟨hc, ex, hk, hs⟩ := ch_fl_none I.m10 hE
        have hb := I.bs hc
        have h24 := I.ct hc
        have hend := I.end hc (k_fr_of hs)
        refine yy_cri (w := 0) F hSw_1 (c_M_checkList (x := x) (e := 4) X I R) (yy_Bc F X.1 q_958 q_3) (yy_invV (nA := 2) (C := R_M) (bytes := b_M_checkList) (maxL := 3) (retY := (some .int)) F X.1 q_955 q_957 qs_M_checkList q_958 ⟨by decide, by decide, by decide +kernel⟩ (yy_recv F.N X.2.1 (ci := 6) rfl hP.o) rfl d_M_remove_36) d_M_remove_36 (n := 39) rfl (by simp [Value.category]) ⟨by decide, by decide⟩ ⟨Nat.zero_le _, Nat.zero_le _⟩ ⟨rfl, rfl⟩ hP (m_cl_0 hE) (fun _ hSw_15 => ?_)
        rw [show (Value.int x) = Value.int (nI (cN x)) from congrArg Value.int ex]
        have n5 : ¬ k_kd σ (cN x) = 5 := fun q => by rw [q] at hk; exact absurd hk (by decide)
        have hb := I.bs hc
        have h5 := k_lb5 I hc hk
        have hwh : k_whe σ (cN x) p = p := if_neg n5
        refine ma_code F X g_M_55_M hP hSw_15 d_M_remove_39 (n' := 42) rfl (fun Hw_16 locs_w_16 Pw_16 kw_16 Sw_16 => ?_)
        have kw_16 := kpm.rf.tr kw_16
        refine yy_aload_n F d_M_remove_42 (n := 43) rfl 1 rfl ?_
        refine yy_get F X.1 X.2.1 g_M_55_M Pw_16.o rfl d_M_remove_43 (n := 46) rfl ?_
        refine yy_if_le_t (tgt := 51) F d_M_remove_46 (by decide) (by decide) ?_
        refine yy_aload_n F d_M_remove_51 (n := 52) rfl 1 rfl ?_
        refine yy_iload_n F d_M_remove_52 (n := 53) rfl 0 rfl ?_
        refine yy_if_eq_t (tgt := 73) F d_M_remove_53 (by decide) (by decide) ?_
        refine yy_iload_n F d_M_remove_73 (n := 74) rfl 3 rfl ?_
        refine yy_if_lt (tgt := 86) F d_M_remove_74 (n := 77) rfl (by decide) (fun h0 => ?_) (fun h0 => ?_)
        · refine yy_iconst (v := 3) F d_M_remove_86 (n := 87) rfl rfl ?_
          refine yy_goto (tgt := 91) F d_M_remove_87 (by decide) ?_
          refine ma_code F X g_M_55_M Pw_16 Sw_16 d_M_remove_91 (n' := 94) rfl (fun Hw_17 locs_w_17 Pw_17 kw_17 Sw_17 => ?_)
          have kw_17 := kw_16.tr kw_17
          refine yy_aload_n F d_M_remove_94 (n := 95) rfl 1 rfl ?_
          refine yy_get F X.1 X.2.1 g_M_55_M Pw_17.o rfl d_M_remove_95 (n := 98) rfl ?_
          refine yy_if_le_f (tgt := 103) F d_M_remove_98 (n := 101) rfl (by decide) (by decide) ?_
          refine yy_iconst (v := 0) F d_M_remove_101 (n := 102) rfl rfl ?_
          exact yy_iret F Sw_17 ⟨Nat.zero_le _, Nat.zero_le _⟩ rfl d_M_remove_102 (mq_i (o := some e_ns) (v := 0) (σ := σ) (by unfold sp_remove; rw [hfe, hE, hwh, show ym_inb p (k_size σ (cN x)) = false by simp [ym_inb, h0]]; rfl) R Pw_17 kw_17 (by decide) (fun h => by cases h))
        · refine yy_iload_n F d_M_remove_77 (n := 78) rfl 3 rfl ?_
          refine yy_aload_n F d_M_remove_78 (n := 79) rfl 1 rfl ?_
          refine yy_iload_n F d_M_remove_79 (n := 80) rfl 2 rfl ?_
          refine yy_cri (w := (nI (k_size σ (cN x)))) F Sw_16 (c_M_sizeOf X I R hc) (yy_Bc F X.1 q_934 q_3) (yy_invV (nA := 1) (C := R_M) (bytes := b_M_sizeOf) (maxL := 4) (retY := (some .int)) F X.1 q_931 q_933 qs_M_sizeOf q_934 ⟨by decide, by decide, by decide +kernel⟩ (yy_recv F.N X.2.1 (ci := 6) rfl Pw_16.o) rfl d_M_remove_80) d_M_remove_80 (n := 83) rfl (by simp [Value.category]) ⟨by decide, by decide⟩ ⟨Nat.zero_le _, Nat.zero_le _⟩ ⟨rfl, rfl⟩ Pw_16 rfl (fun _ hSw_18 => ?_)
          refine yy_ic_lt (tgt := 90) F d_M_remove_83 (n := 86) rfl (by decide) (fun h1 => ?_) (fun h1 => ?_)
          · have hp : ym_inb p (k_size σ (cN x)) = true := by simp [ym_inb, h0, h1]
            obtain ⟨hp1, hp2⟩ := inb_cN (by omega) hp
            have hpi : Value.int p = Value.int (nI (cN p)) := congrArg Value.int hp2
            rw [hpi]
            refine yy_iconst (v := 0) F d_M_remove_90 (n := 91) rfl rfl ?_
            refine ma_code F X g_M_55_M Pw_16 hSw_18 d_M_remove_91 (n' := 94) rfl (fun Hw_19 locs_w_19 Pw_19 kw_19 Sw_19 => ?_)
            have kw_19 := kw_16.tr kw_19
            refine yy_aload_n F d_M_remove_94 (n := 95) rfl 1 rfl ?_
            refine yy_get F X.1 X.2.1 g_M_55_M Pw_19.o rfl d_M_remove_95 (n := 98) rfl ?_
            refine yy_if_le_t (tgt := 103) F d_M_remove_98 (by decide) (by decide) ?_
            refine yy_iload_n F d_M_remove_103 (n := 104) rfl 0 rfl ?_
            refine yy_if_eq_t (tgt := 111) F d_M_remove_104 (by decide) (by decide) ?_
            refine yy_iload_n F d_M_remove_111 (n := 112) rfl 3 rfl ?_
            refine yy_istore (lv' := [(4, .int (nI (cN p))), (3, .int 0), (0, .ref a), (1, .int (nI (cN x))), (2, .int (nI (cN p)))]) F d_M_remove_112 (n := 114) rfl (by decide) rfl ?_
            refine yy_iconst (v := 0) F d_M_remove_114 (n := 115) rfl rfl ?_
            refine yy_tope (y := (nI 0)) rfl ?_
            refine yy_istore (lv' := [(5, .int (nI 0)), (4, .int (nI (cN p))), (3, .int 0), (0, .ref a), (1, .int (nI (cN x))), (2, .int (nI (cN p)))]) F d_M_remove_115 (n := 117) rfl (by decide) rfl ?_
            refine yy_iload_n F d_M_remove_117 (n := 118) rfl 2 rfl ?_
            refine yy_if_eq_t (tgt := 174) F d_M_remove_118 (by decide) (by decide) ?_
            refine yy_aload_n F d_M_remove_174 (n := 175) rfl 3 rfl ?_
            refine yy_get F X.1 X.2.1 g_M_19_M Pw_19.o rfl d_M_remove_175 (n := 178) rfl ?_
            refine yy_aload_n F d_M_remove_178 (n := 179) rfl 3 rfl ?_
            refine yy_iload_n F d_M_remove_179 (n := 180) rfl 4 rfl ?_
            refine yy_iload F d_M_remove_180 (n := 182) rfl 1 rfl ?_
            refine yy_cri (w := (nI (24 * k_bs σ (cN x) + (k_start σ (cN x) + cN p)))) F Sw_19 (c_M_at (x := nI (cN p)) (q := k_start σ (cN x) + cN p) X I R hc (nI_add _ _)) (yy_Bc F X.1 q_962 q_3) (yy_invV (nA := 2) (C := R_M) (bytes := b_M_at) (maxL := 3) (retY := (some .int)) F X.1 q_959 q_961 qs_M_at q_962 ⟨by decide, by decide, by decide +kernel⟩ (yy_recv F.N X.2.1 (ci := 6) rfl Pw_19.o) rfl d_M_remove_182) d_M_remove_182 (n := 185) rfl (by simp [Value.category]) ⟨by decide, by decide⟩ ⟨Nat.zero_le _, Nat.zero_le _⟩ ⟨rfl, rfl⟩ Pw_19 rfl (fun _ hSw_20 => ?_)
            refine ma_ld (j := 3) (i := (24 * k_bs σ (cN x) + (k_start σ (cN x) + cN p))) F X Pw_19 (by decide) (show 24 * k_bs σ (cN x) + (k_start σ (cN x) + cN p) < 240 by omega) d_M_remove_185 (n' := 186) rfl ?_
            refine yy_tope (y := (s_nu (k_B σ (cN x)) (k_start σ (cN x) + cN p))) (R.nu I hc h5 (by omega)) ?_
            refine yy_istore (lv' := [(5, .int (s_nu (k_B σ (cN x)) (k_start σ (cN x) + cN p))), (4, .int (nI (cN p))), (3, .int 0), (0, .ref a), (1, .int (nI (cN x))), (2, .int (nI (cN p)))]) F d_M_remove_186 (n := 188) rfl (by decide) rfl ?_
            refine yy_aload_n F d_M_remove_188 (n := 189) rfl 3 rfl ?_
            refine yy_iload_n F d_M_remove_189 (n := 190) rfl 4 rfl ?_
            refine yy_aload_n F d_M_remove_190 (n := 191) rfl 3 rfl ?_
            refine yy_iload_n F d_M_remove_191 (n := 192) rfl 4 rfl ?_
            refine yy_cri (w := (nI (k_start σ (cN x)))) F hSw_20 (c_M_placeIn X I R hc) (yy_Bc F X.1 q_942 q_3) (yy_invV (nA := 1) (C := R_M) (bytes := b_M_placeIn) (maxL := 3) (retY := (some .int)) F X.1 q_939 q_941 qs_M_placeIn q_942 ⟨by decide, by decide, by decide +kernel⟩ (yy_recv F.N X.2.1 (ci := 6) rfl Pw_19.o) rfl d_M_remove_192) d_M_remove_192 (n := 195) rfl (by simp [Value.category]) ⟨by decide, by decide⟩ ⟨Nat.zero_le _, Nat.zero_le _⟩ ⟨rfl, rfl⟩ Pw_19 rfl (fun _ hSw_21 => ?_)
            refine yy_iload F d_M_remove_195 (n := 197) rfl 1 rfl ?_
            refine yy_iadd F d_M_remove_197 (n := 198) rfl ?_
            refine yy_tope (y := (nI (k_start σ (cN x) + cN p))) (nI_add _ _) ?_
            refine yy_cv F hSw_21 (c_M_takeOut (j := (k_start σ (cN x) + cN p)) (nu := ym_sh (s_nu (k_B σ (cN x))) (k_start σ (cN x) + cN p) (s_ct (k_B σ (cN x)) - 1)) (vl := ym_sh (s_vl (k_B σ (cN x))) (k_start σ (cN x) + cN p) (s_ct (k_B σ (cN x)) - 1)) X I R hc (by omega) (k_fr_of hs) (fun h6 => by rw [k_size6 h6] at hp1; omega) (fun _ => sh_cg (by omega) (R.nu24 I hc h5)) (fun q => absurd q h5) (fun q => absurd q (k_l234 (k_lb I hc hk)))) (yy_Bc F X.1 q_991 q_3) (yy_invV (nA := 2) (C := R_M) (bytes := b_M_takeOut) (maxL := 5) (retY := none) F X.1 q_988 q_990 qs_M_takeOut q_991 ⟨by decide, by decide, by decide +kernel⟩ (yy_recv F.N X.2.1 (ci := 6) rfl Pw_19.o) rfl d_M_remove_198) d_M_remove_198 (n := 201) rfl (by simp [Value.category]) ⟨by decide, by decide⟩ ⟨Nat.zero_le _, Nat.zero_le _⟩ ⟨rfl, rfl⟩ Pw_19 (fun Hw_22 locs_w_22 qw_22 Sw_22 => ?_)
            obtain ⟨s1, Q1, P1, k1⟩ := qw_22
            have k1 := kw_19.tr k1
            have R1 : mr s1 (k_take σ (cN x) (k_start σ (cN x) + cN p)) := Q1
            refine yy_iload F d_M_remove_201 (n := 203) rfl 0 rfl ?_
            exact yy_iret F Sw_22 ⟨Nat.zero_le _, Nat.zero_le _⟩ rfl d_M_remove_203 (mq_i (o := none) (v := (s_nu (k_B σ (cN x)) (k_start σ (cN x) + cN p))) (σ := (k_take σ (cN x) (k_start σ (cN x) + cN p))) (by unfold sp_remove; rw [hfe, hE, hwh, hp]; rfl) R1 P1 k1 (by decide) (fun _ => rfl))
          · refine yy_iconst (v := 3) F d_M_remove_86 (n := 87) rfl rfl ?_
            refine yy_goto (tgt := 91) F d_M_remove_87 (by decide) ?_
            refine ma_code F X g_M_55_M Pw_16 hSw_18 d_M_remove_91 (n' := 94) rfl (fun Hw_23 locs_w_23 Pw_23 kw_23 Sw_23 => ?_)
            have kw_23 := kw_16.tr kw_23
            refine yy_aload_n F d_M_remove_94 (n := 95) rfl 1 rfl ?_
            refine yy_get F X.1 X.2.1 g_M_55_M Pw_23.o rfl d_M_remove_95 (n := 98) rfl ?_
            refine yy_if_le_f (tgt := 103) F d_M_remove_98 (n := 101) rfl (by decide) (by decide) ?_
            refine yy_iconst (v := 0) F d_M_remove_101 (n := 102) rfl rfl ?_
            exact yy_iret F Sw_23 ⟨Nat.zero_le _, Nat.zero_le _⟩ rfl d_M_remove_102 (mq_i (o := some e_ns) (v := 0) (σ := σ) (by unfold sp_remove; rw [hfe, hE, hwh, show ym_inb p (k_size σ (cN x)) = false by simp [ym_inb, h1]]; rfl) R Pw_23 kw_23 (by decide) (fun h => by cases h))
    · have hfe := flh_5 hin h5
      have h6 : ¬ k_kd σ (cN x) = 6 := fun q => absurd (h5.symm.trans q) (by decide)
      have h7 : ¬ k_kd σ (cN x) = 7 := fun q => absurd (h5.symm.trans q) (by decide)
      have ebc := I.b0 hc h6 h7
      have hk5 : k_kb σ (cN x) = 5 := by rw [k_kb, ebc]; exact h5
      have hso := (I.s hc).2.2.2.2.2.2 (Or.inr hk5)
      have hhp := (R.ss I hc).2.2.1 hk5
      have hb := I.bs hc
      have h24 := I.ct hc
      refine yy_iconst (v := 1) F d_M_remove_18 (n := 19) rfl rfl ?_
      refine yy_goto (tgt := 23) F d_M_remove_19 (by decide) ?_
      rw [show (Value.int x) = Value.int (nI (cN x)) from congrArg Value.int ex]
      have hst := k_start0 h6 h7
      have hsz := k_size0 h6 h7
      have hwh : k_whe σ (cN x) p = 0 := if_pos h5
      refine yy_istore_n (lv' := [(3, .int 1), (0, .ref a), (1, .int (nI (cN x))), (2, .int p)]) F d_M_remove_23 (n := 24) rfl (by decide) rfl ?_
      refine yy_aload_n F d_M_remove_24 (n := 25) rfl 1 rfl ?_
      refine yy_iload_n F d_M_remove_25 (n := 26) rfl 0 rfl ?_
      refine yy_if_eq_f (tgt := 33) F d_M_remove_26 (n := 29) rfl (by decide) (by decide) ?_
      refine yy_iconst (v := 0) F d_M_remove_29 (n := 30) rfl rfl ?_
      refine yy_goto (tgt := 39) F d_M_remove_30 (by decide) ?_
      refine ma_code F X g_M_55_M hP hSw_1 d_M_remove_39 (n' := 42) rfl (fun Hw_24 locs_w_24 Pw_24 kw_24 Sw_24 => ?_)
      have kw_24 := kpm.rf.tr kw_24
      refine yy_aload_n F d_M_remove_42 (n := 43) rfl 1 rfl ?_
      refine yy_get F X.1 X.2.1 g_M_55_M Pw_24.o rfl d_M_remove_43 (n := 46) rfl ?_
      refine yy_if_le_t (tgt := 51) F d_M_remove_46 (by decide) (by decide) ?_
      refine yy_aload_n F d_M_remove_51 (n := 52) rfl 1 rfl ?_
      refine yy_iload_n F d_M_remove_52 (n := 53) rfl 0 rfl ?_
      refine yy_if_eq_f (tgt := 73) F d_M_remove_53 (n := 56) rfl (by decide) (by decide) ?_
      refine yy_aload_n F d_M_remove_56 (n := 57) rfl 1 rfl ?_
      refine yy_get F X.1 X.2.1 g_M_25_M Pw_24.o rfl d_M_remove_57 (n := 60) rfl ?_
      refine yy_iload_n F d_M_remove_60 (n := 61) rfl 2 rfl ?_
      refine ma_ld (j := 5) (i := (cN x)) F X Pw_24 (by decide) (show cN x < 10 by omega) d_M_remove_61 (n' := 62) rfl ?_
      refine yy_tope (y := (nI (s_ct (k_B σ (cN x))))) (by have h9 := R.ct I hc; rw [I.b0 hc h6 h7] at h9; exact h9) ?_
      refine yy_if_ne (tgt := 69) F d_M_remove_62 (n := 65) rfl (by decide) (fun hz => ?_) (fun hz => ?_)
      · have hn0 : 0 < s_ct (k_B σ (cN x)) := Nat.pos_of_ne_zero (fun q => hz (by rw [q]; rfl))
        have hiw : ym_inb (k_whe σ (cN x) p) (k_size σ (cN x)) = true := by rw [hwh, hsz]; exact ym_inb_t (ym_in.of (j := 0) hn0 (by omega))
        have hrow : (fun i => s.2 3 (24 * k_bs σ (cN x) + i)) = (fun i => s.2 3 (24 * cN x + i)) := by rw [ebc]
        have hct9 : s.2 5 (cN x) = nI (s_ct (k_B σ (cN x))) := by have h9 := R.ct I hc; rw [ebc] at h9; exact h9
        refine yy_iconst (v := 0) F d_M_remove_69 (n := 70) rfl rfl ?_
        refine yy_goto (tgt := 91) F d_M_remove_70 (by decide) ?_
        refine ma_code F X g_M_55_M Pw_24 Sw_24 d_M_remove_91 (n' := 94) rfl (fun Hw_25 locs_w_25 Pw_25 kw_25 Sw_25 => ?_)
        have kw_25 := kw_24.tr kw_25
        refine yy_aload_n F d_M_remove_94 (n := 95) rfl 1 rfl ?_
        refine yy_get F X.1 X.2.1 g_M_55_M Pw_25.o rfl d_M_remove_95 (n := 98) rfl ?_
        refine yy_if_le_t (tgt := 103) F d_M_remove_98 (by decide) (by decide) ?_
        refine yy_iload_n F d_M_remove_103 (n := 104) rfl 0 rfl ?_
        refine yy_if_eq_f (tgt := 111) F d_M_remove_104 (n := 107) rfl (by decide) (by decide) ?_
        refine yy_iconst (v := 0) F d_M_remove_107 (n := 108) rfl rfl ?_
        refine yy_goto (tgt := 112) F d_M_remove_108 (by decide) ?_
        refine yy_tope (y := (nI 0)) rfl ?_
        refine yy_istore (lv' := [(4, .int (nI 0)), (3, .int 1), (0, .ref a), (1, .int (nI (cN x))), (2, .int p)]) F d_M_remove_112 (n := 114) rfl (by decide) rfl ?_
        refine yy_iconst (v := 0) F d_M_remove_114 (n := 115) rfl rfl ?_
        refine yy_tope (y := (nI 0)) rfl ?_
        refine yy_istore (lv' := [(5, .int (nI 0)), (4, .int (nI 0)), (3, .int 1), (0, .ref a), (1, .int (nI (cN x))), (2, .int p)]) F d_M_remove_115 (n := 117) rfl (by decide) rfl ?_
        have loop : ∀ (d k f : Nat) (locs : List Loc), k + d = s_ct (k_B σ (cN x)) → f < s_ct (k_B σ (cN x)) → (∀ i, i < k → s.2 3 (24 * cN x + f) ≤ s.2 3 (24 * cN x + i)) → yy_S z Hw_25 locs → yy_Y b Hw_25 locs (0, 0) 117 [(5, .int (nI k)), (4, .int (nI f)), (3, .int 1), (0, .ref a), (1, .int (nI (cN x))), (2, .int p)] [] := by
          intro d
          induction d with
          | zero =>
            intro k f locs hd hf hm S1
            have hmin : s.2 3 (24 * k_bs σ (cN x) + f) = s_nu (k_B σ (cN x)) 0 := hp_min (f := fun i => s.2 3 (24 * k_bs σ (cN x) + i)) hhp.2 hso hf (fun i hi => by show s.2 3 (24 * k_bs σ (cN x) + f) ≤ s.2 3 (24 * k_bs σ (cN x) + i); rw [ebc]; exact hm i (by omega))
            refine yy_iload_n F d_M_remove_117 (n := 118) rfl 2 rfl ?_
            refine yy_if_eq_f (tgt := 174) F d_M_remove_118 (n := 121) rfl (by decide) (by decide) ?_
            refine yy_iload F d_M_remove_121 (n := 123) rfl 0 rfl ?_
            refine yy_aload_n F d_M_remove_123 (n := 124) rfl 3 rfl ?_
            refine yy_get F X.1 X.2.1 g_M_25_M Pw_25.o rfl d_M_remove_124 (n := 127) rfl ?_
            refine yy_iload_n F d_M_remove_127 (n := 128) rfl 4 rfl ?_
            refine ma_ld (j := 5) (i := (cN x)) F X Pw_25 (by decide) (show cN x < 10 by omega) d_M_remove_128 (n' := 129) rfl ?_
            refine yy_tope (y := (nI (s_ct (k_B σ (cN x))))) (by have h9 := R.ct I hc; rw [I.b0 hc h6 h7] at h9; exact h9) ?_
            refine yy_ic_ge_t (tgt := 174) F d_M_remove_129 (by decide) (nI_le (by omega) (by omega)) ?_
            refine yy_aload_n F d_M_remove_174 (n := 175) rfl 3 rfl ?_
            refine yy_get F X.1 X.2.1 g_M_19_M Pw_25.o rfl d_M_remove_175 (n := 178) rfl ?_
            refine yy_aload_n F d_M_remove_178 (n := 179) rfl 3 rfl ?_
            refine yy_iload_n F d_M_remove_179 (n := 180) rfl 4 rfl ?_
            refine yy_iload F d_M_remove_180 (n := 182) rfl 1 rfl ?_
            refine yy_cri (w := (nI (24 * k_bs σ (cN x) + (k_start σ (cN x) + f)))) F S1 (c_M_at (x := nI f) (q := k_start σ (cN x) + f) X I R hc (nI_add _ _)) (yy_Bc F X.1 q_962 q_3) (yy_invV (nA := 2) (C := R_M) (bytes := b_M_at) (maxL := 3) (retY := (some .int)) F X.1 q_959 q_961 qs_M_at q_962 ⟨by decide, by decide, by decide +kernel⟩ (yy_recv F.N X.2.1 (ci := 6) rfl Pw_25.o) rfl d_M_remove_182) d_M_remove_182 (n := 185) rfl (by simp [Value.category]) ⟨by decide, by decide⟩ ⟨Nat.zero_le _, Nat.zero_le _⟩ ⟨rfl, rfl⟩ Pw_25 rfl (fun _ hSw_26 => ?_)
            rw [hst, Nat.zero_add]
            have hb := I.bs hc
            refine ma_ld (j := 3) (i := (24 * k_bs σ (cN x) + f)) F X Pw_25 (by decide) (show 24 * k_bs σ (cN x) + f < 240 by omega) d_M_remove_185 (n' := 186) rfl ?_
            refine yy_tope (y := (s_nu (k_B σ (cN x)) 0)) hmin ?_
            refine yy_istore (lv' := [(5, .int (s_nu (k_B σ (cN x)) 0)), (4, .int (nI f)), (3, .int 1), (0, .ref a), (1, .int (nI (cN x))), (2, .int p)]) F d_M_remove_186 (n := 188) rfl (by decide) rfl ?_
            refine yy_aload_n F d_M_remove_188 (n := 189) rfl 3 rfl ?_
            refine yy_iload_n F d_M_remove_189 (n := 190) rfl 4 rfl ?_
            refine yy_aload_n F d_M_remove_190 (n := 191) rfl 3 rfl ?_
            refine yy_iload_n F d_M_remove_191 (n := 192) rfl 4 rfl ?_
            refine yy_cri (w := (nI 0)) F hSw_26 (c_M_placeIn X I R hc) (yy_Bc F X.1 q_942 q_3) (yy_invV (nA := 1) (C := R_M) (bytes := b_M_placeIn) (maxL := 3) (retY := (some .int)) F X.1 q_939 q_941 qs_M_placeIn q_942 ⟨by decide, by decide, by decide +kernel⟩ (yy_recv F.N X.2.1 (ci := 6) rfl Pw_25.o) rfl d_M_remove_192) d_M_remove_192 (n := 195) rfl (by simp [Value.category]) ⟨by decide, by decide⟩ ⟨Nat.zero_le _, Nat.zero_le _⟩ ⟨rfl, rfl⟩ Pw_25 (by rw [hst]) (fun _ hSw_27 => ?_)
            refine yy_iload F d_M_remove_195 (n := 197) rfl 1 rfl ?_
            refine yy_iadd F d_M_remove_197 (n := 198) rfl ?_
            refine yy_tope (y := (nI (0 + f))) (nI_add _ _) ?_
            rw [Nat.zero_add]
            refine yy_cv F hSw_27 (c_M_takeOut (j := f) (nu := ym_sh (s_nu (k_B σ (cN x))) 0 (s_ct (k_B σ (cN x)) - 1)) (vl := ym_sh (s_vl (k_B σ (cN x))) 0 (s_ct (k_B σ (cN x)) - 1)) X I R hc hf (k_fr_0 h6) (fun q => absurd q h6) (fun q => absurd hk5 q) (fun _ => hp_rem hhp.2 hf hn0 hmin) (fun q => by rw [hk5] at q; exact absurd q (by decide))) (yy_Bc F X.1 q_991 q_3) (yy_invV (nA := 2) (C := R_M) (bytes := b_M_takeOut) (maxL := 5) (retY := none) F X.1 q_988 q_990 qs_M_takeOut q_991 ⟨by decide, by decide, by decide +kernel⟩ (yy_recv F.N X.2.1 (ci := 6) rfl Pw_25.o) rfl d_M_remove_198) d_M_remove_198 (n := 201) rfl (by simp [Value.category]) ⟨by decide, by decide⟩ ⟨Nat.zero_le _, Nat.zero_le _⟩ ⟨rfl, rfl⟩ Pw_25 (fun Hw_28 locs_w_28 qw_28 Sw_28 => ?_)
            obtain ⟨s1, Q1, P1, k1⟩ := qw_28
            have k1 := kw_25.tr k1
            have R1 : mr s1 (k_take σ (cN x) 0) := Q1
            refine yy_iload F d_M_remove_201 (n := 203) rfl 0 rfl ?_
            exact yy_iret F Sw_28 ⟨Nat.zero_le _, Nat.zero_le _⟩ rfl d_M_remove_203 (mq_i (o := none) (v := (s_nu (k_B σ (cN x)) 0)) (σ := (k_take σ (cN x) 0)) (by unfold sp_remove; rw [hfe, hiw, hwh, hst]; rfl) R1 P1 k1 (by decide) (fun _ => rfl))
          | succ d ih =>
            intro k f locs hd hf hm S1
            refine yy_iload_n F d_M_remove_117 (n := 118) rfl 2 rfl ?_
            refine yy_if_eq_f (tgt := 174) F d_M_remove_118 (n := 121) rfl (by decide) (by decide) ?_
            refine yy_iload F d_M_remove_121 (n := 123) rfl 0 rfl ?_
            refine yy_aload_n F d_M_remove_123 (n := 124) rfl 3 rfl ?_
            refine yy_get F X.1 X.2.1 g_M_25_M Pw_25.o rfl d_M_remove_124 (n := 127) rfl ?_
            refine yy_iload_n F d_M_remove_127 (n := 128) rfl 4 rfl ?_
            refine ma_ld (j := 5) (i := (cN x)) F X Pw_25 (by decide) (show cN x < 10 by omega) d_M_remove_128 (n' := 129) rfl ?_
            refine yy_tope (y := (nI (s_ct (k_B σ (cN x))))) (by have h9 := R.ct I hc; rw [I.b0 hc h6 h7] at h9; exact h9) ?_
            refine yy_ic_ge_f (tgt := 174) F d_M_remove_129 (n := 132) rfl (by decide) (nI_ge (by omega) (by omega)) ?_
            refine yy_aload_n F d_M_remove_132 (n := 133) rfl 3 rfl ?_
            refine yy_get F X.1 X.2.1 g_M_19_M Pw_25.o rfl d_M_remove_133 (n := 136) rfl ?_
            refine yy_bipush (v := 24) F d_M_remove_136 (n := 138) rfl rfl ?_
            refine yy_iload_n F d_M_remove_138 (n := 139) rfl 4 rfl ?_
            refine yy_imul F d_M_remove_139 (n := 140) rfl ?_
            refine yy_tope (y := (nI (24 * (cN x)))) (pk_mul 24 _) ?_
            refine yy_iload F d_M_remove_140 (n := 142) rfl 0 rfl ?_
            refine yy_iadd F d_M_remove_142 (n := 143) rfl ?_
            refine yy_tope (y := (nI (24 * (cN x) + k))) (nI_add _ _) ?_
            refine ma_ld (j := 3) (i := (24 * (cN x) + k)) F X Pw_25 (by decide) (show 24 * (cN x) + k < 240 by omega) d_M_remove_143 (n' := 144) rfl ?_
            refine yy_aload_n F d_M_remove_144 (n := 145) rfl 3 rfl ?_
            refine yy_get F X.1 X.2.1 g_M_19_M Pw_25.o rfl d_M_remove_145 (n := 148) rfl ?_
            refine yy_bipush (v := 24) F d_M_remove_148 (n := 150) rfl rfl ?_
            refine yy_iload_n F d_M_remove_150 (n := 151) rfl 4 rfl ?_
            refine yy_imul F d_M_remove_151 (n := 152) rfl ?_
            refine yy_tope (y := (nI (24 * (cN x)))) (pk_mul 24 _) ?_
            refine yy_iload F d_M_remove_152 (n := 154) rfl 1 rfl ?_
            refine yy_iadd F d_M_remove_154 (n := 155) rfl ?_
            refine yy_tope (y := (nI (24 * (cN x) + f))) (nI_add _ _) ?_
            refine ma_ld (j := 3) (i := (24 * (cN x) + f)) F X Pw_25 (by decide) (show 24 * (cN x) + f < 240 by omega) d_M_remove_155 (n' := 156) rfl ?_
            refine yy_ic_ge (tgt := 164) F d_M_remove_156 (n := 159) rfl (by decide) (fun hlt => ?_) (fun hlt => ?_)
            · refine yy_iload F d_M_remove_164 (n := 166) rfl 1 rfl ?_
              refine yy_istore (lv' := [(4, .int (nI f)), (5, .int (nI k)), (3, .int 1), (0, .ref a), (1, .int (nI (cN x))), (2, .int p)]) F d_M_remove_166 (n := 168) rfl (by decide) rfl ?_
              refine yy_iinc (v := nI (k + 1)) (lv' := [(5, .int (nI (k + 1))), (4, .int (nI f)), (3, .int 1), (0, .ref a), (1, .int (nI (cN x))), (2, .int p)]) F d_M_remove_168 (n := 171) rfl 1 rfl (nI_1 _) (by decide) rfl ?_
              refine yy_goto (tgt := 117) F d_M_remove_171 (by decide) ?_
              exact yy_sub [0, 1, 2, 3, 4, 5] rfl (ih (k + 1) f _ (by omega) hf (fun i hi => by
                by_cases e : i = k
                · subst e
                  exact hlt
                · exact hm i (by omega)) S1)
            · refine yy_iload F d_M_remove_159 (n := 161) rfl 0 rfl ?_
              refine yy_goto (tgt := 166) F d_M_remove_161 (by decide) ?_
              refine yy_istore (lv' := [(4, .int (nI k)), (5, .int (nI k)), (3, .int 1), (0, .ref a), (1, .int (nI (cN x))), (2, .int p)]) F d_M_remove_166 (n := 168) rfl (by decide) rfl ?_
              refine yy_iinc (v := nI (k + 1)) (lv' := [(5, .int (nI (k + 1))), (4, .int (nI k)), (3, .int 1), (0, .ref a), (1, .int (nI (cN x))), (2, .int p)]) F d_M_remove_168 (n := 171) rfl 1 rfl (nI_1 _) (by decide) rfl ?_
              refine yy_goto (tgt := 117) F d_M_remove_171 (by decide) ?_
              exact yy_sub [0, 1, 2, 3, 4, 5] rfl (ih (k + 1) k _ (by omega) (by omega) (fun i hi => by
                by_cases e : i = k
                · subst e
                  exact Int32.le_refl _
                · exact Int32.le_trans (Int32.le_of_lt (Int32.not_le.mp hlt)) (hm i (by omega))) S1)
        exact yy_sub [0, 1, 2, 3, 4, 5] rfl (loop _ 0 0 _ (Nat.zero_add _) hn0 (fun i hi => absurd hi (Nat.not_lt_zero i)) Sw_25)
      · have hn0 : s_ct (k_B σ (cN x)) = 0 := (nI_eq (by omega) (by omega)).mp (show nI (s_ct (k_B σ (cN x))) = nI 0 from hz)
        have hiw : ym_inb (k_whe σ (cN x) p) (k_size σ (cN x)) = false := by rw [hwh, hsz, hn0]; rfl
        refine yy_iconst (v := 3) F d_M_remove_65 (n := 66) rfl rfl ?_
        refine yy_goto (tgt := 91) F d_M_remove_66 (by decide) ?_
        refine ma_code F X g_M_55_M Pw_24 Sw_24 d_M_remove_91 (n' := 94) rfl (fun Hw_29 locs_w_29 Pw_29 kw_29 Sw_29 => ?_)
        have kw_29 := kw_24.tr kw_29
        refine yy_aload_n F d_M_remove_94 (n := 95) rfl 1 rfl ?_
        refine yy_get F X.1 X.2.1 g_M_55_M Pw_29.o rfl d_M_remove_95 (n := 98) rfl ?_
        refine yy_if_le_f (tgt := 103) F d_M_remove_98 (n := 101) rfl (by decide) (by decide) ?_
        refine yy_iconst (v := 0) F d_M_remove_101 (n := 102) rfl rfl ?_
        exact yy_iret F Sw_29 ⟨Nat.zero_le _, Nat.zero_le _⟩ rfl d_M_remove_102 (mq_i (o := some e_ns) (v := 0) (σ := σ) (by unfold sp_remove; rw [hfe, hiw]; rfl) R Pw_29 kw_29 (by decide) (fun h => by cases h))
