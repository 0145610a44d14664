/-! PART M4: the reference's calls that read -/
theorem k_lb {t : Nat} {σ : ks} {c : Nat} (I : iv t σ) (hc : c < k_m σ) (h : k_isl (k_kd σ c) = true) : k_kb σ c = 0 ∨ k_kb σ c = 1 := (k_lbq I hc h).1
theorem k_lb5 {t : Nat} {σ : ks} {c : Nat} (I : iv t σ) (hc : c < k_m σ) (h : k_isl (k_kd σ c) = true) : ¬ k_kb σ c = 5 := fun q => by
  rcases k_lb I hc h with h | h <;> exact absurd (h.symm.trans q) (by decide)
theorem k_nh5 {t : Nat} {σ : ks} {c : Nat} (I : iv t σ) (hc : c < k_m σ) (h : ¬ k_kd σ c = 5) : ¬ k_kb σ c = 5 := fun q => by
  obtain ⟨i1, -, -, i4, i5, i6⟩ := I.cc hc
  by_cases h6 : k_kd σ c = 6
  · rcases (i6 h6).1 with e | e <;> exact absurd (e.symm.trans q) (by decide)
  · by_cases h7 : k_kd σ c = 7
    · exact absurd ((i5 h7).symm.trans q) (by decide)
    · rw [k_kb, i4 h6 h7] at q
      exact h q
set_option maxRecDepth 100000 in
set_option maxHeartbeats 4000000 in
theorem c_M_kind {l : Launch} {z : State} {a0 : Array Value} {D : va_G} {ca : kca} (X : kcx l z a0 D ca) {a n : Nat} {cd : Int32} {s : ms} {σ : ks} {t : Nat} (I : iv t σ) (R : mr s σ) {x : Int32} : yy_M l z y_M_kind (.code y_M_kind b_M_kind 2 (some .int)) ({ frames := 1, cells := 0, slots := 0, locals := 21 }) [.ref a, .int x] (mo_at D ca z a n cd s) (mqi D ca z a n [e_io] (sp_kind σ x)) := by
  refine yy_body (plainFor_of_name (by decide)) (Nat.le_of_ble_eq_true rfl) (fun b H F hS hP hH hnm => ?_)
  have h10 := I.m10
  refine yy_aload_n F d_M_kind_0 (n := 1) rfl 0 rfl ?_
  refine yy_aload_n F d_M_kind_1 (n := 2) rfl 0 rfl ?_
  refine yy_iload_n F d_M_kind_2 (n := 3) rfl 1 rfl ?_
  refine yy_cri (w := (ym_n (ym_inb x (k_m σ)))) F hS (c_M_isThere (x := x) X I R) (yy_Bc F X.1 q_918 q_3) (yy_invV (nA := 1) (C := R_M) (bytes := b_M_isThere) (maxL := 2) (retY := (some .boolean)) F X.1 q_915 q_917 qs_M_isThere q_918 ⟨by decide, by decide, by decide +kernel⟩ (yy_recv F.N X.2.1 (ci := 6) rfl hP.o) rfl d_M_kind_3) d_M_kind_3 (n := 6) rfl (by simp [Value.category]) ⟨by decide, by decide⟩ ⟨Nat.zero_le _, Nat.zero_le _⟩ ⟨rfl, rfl⟩ hP rfl (fun _ hSw_1 => ?_)
  cases hin : ym_inb x (k_m σ)
  · refine yy_if_eq_t (tgt := 13) F d_M_kind_6 (by decide) rfl ?_
    refine yy_iconst (v := 1) F d_M_kind_13 (n := 14) rfl rfl ?_
    refine ma_code F X g_M_55_M hP hSw_1 d_M_kind_14 (n' := 17) rfl (fun Hw_2 locs_w_2 Pw_2 kw_2 Sw_2 => ?_)
    have kw_2 := kpm.rf.tr kw_2
    refine yy_aload_n F d_M_kind_17 (n := 18) rfl 0 rfl ?_
    refine yy_get F X.1 X.2.1 g_M_55_M Pw_2.o rfl d_M_kind_18 (n := 21) rfl ?_
    refine yy_if_le_f (tgt := 28) F d_M_kind_21 (n := 24) rfl (by decide) (by decide) ?_
    refine yy_iconst (v := 0) F d_M_kind_24 (n := 25) rfl rfl ?_
    refine yy_goto (tgt := 34) F d_M_kind_25 (by decide) ?_
    exact yy_iret F Sw_2 ⟨Nat.zero_le _, Nat.zero_le _⟩ rfl d_M_kind_34 (mq_i (o := some e_io) (v := 0) (σ := σ) (by unfold sp_kind; unfold ch_con; rw [hin]; rfl) R Pw_2 kw_2 (by decide) (fun h => by cases h))
  · refine yy_if_eq_f (tgt := 13) F d_M_kind_6 (n := 9) rfl (by decide) (by decide) ?_
    obtain ⟨hc, ex⟩ := inb_cN (by omega) hin
    rw [show (Value.int x) = Value.int (nI (cN x)) from congrArg Value.int ex]
    refine yy_iconst (v := 0) F d_M_kind_9 (n := 10) rfl rfl ?_
    refine yy_goto (tgt := 14) F d_M_kind_10 (by decide) ?_
    refine ma_code F X g_M_55_M hP hSw_1 d_M_kind_14 (n' := 17) rfl (fun Hw_3 locs_w_3 Pw_3 kw_3 Sw_3 => ?_)
    have kw_3 := kpm.rf.tr kw_3
    refine yy_aload_n F d_M_kind_17 (n := 18) rfl 0 rfl ?_
    refine yy_get F X.1 X.2.1 g_M_55_M Pw_3.o rfl d_M_kind_18 (n := 21) rfl ?_
    refine yy_if_le_t (tgt := 28) F d_M_kind_21 (by decide) (by decide) ?_
    refine yy_aload_n F d_M_kind_28 (n := 29) rfl 0 rfl ?_
    refine yy_get F X.1 X.2.1 g_M_7_M Pw_3.o rfl d_M_kind_29 (n := 32) rfl ?_
    refine yy_iload_n F d_M_kind_32 (n := 33) rfl 1 rfl ?_
    refine ma_ld (j := 0) (i := (cN x)) F X Pw_3 (by decide) (show cN x < 10 by omega) d_M_kind_33 (n' := 34) rfl ?_
    refine yy_tope (y := (k_kd σ (cN x))) (R.kd hc) ?_
    exact yy_iret F Sw_3 ⟨Nat.zero_le _, Nat.zero_le _⟩ rfl d_M_kind_34 (mq_i (o := none) (by unfold sp_kind; unfold ch_con; rw [hin]; rfl) R Pw_3 kw_3 (by decide) (fun _ => rfl))
set_option maxRecDepth 100000 in
set_option maxHeartbeats 4000000 in
theorem c_M_size {l : Launch} {z : State} {a0 : Array Value} {D : va_G} {ca : kca} (X : kcx l z a0 D ca) {a n : Nat} {cd : Int32} {s : ms} {σ : ks} {t : Nat} (I : iv t σ) (R : mr s σ) {x : Int32} : yy_M l z y_M_size (.code y_M_size b_M_size 2 (some .int)) ({ frames := 2, cells := 0, slots := 0, locals := 45 }) [.ref a, .int x] (mo_at D ca z a n cd s) (mqi D ca z a n [e_io, e_rt] (sp_size σ x)) := by
  refine yy_body (plainFor_of_name (by decide)) (Nat.le_of_ble_eq_true rfl) (fun b H F hS hP hH hnm => ?_)
  have h10 := I.m10
  refine yy_aload_n F d_M_size_0 (n := 1) rfl 0 rfl ?_
  refine yy_aload_n F d_M_size_1 (n := 2) rfl 0 rfl ?_
  refine yy_iload_n F d_M_size_2 (n := 3) rfl 1 rfl ?_
  refine yy_cri (w := (ym_n (ym_inb x (k_m σ)))) F hS (c_M_isThere (x := x) X I R) (yy_Bc F X.1 q_918 q_3) (yy_invV (nA := 1) (C := R_M) (bytes := b_M_isThere) (maxL := 2) (retY := (some .boolean)) F X.1 q_915 q_917 qs_M_isThere q_918 ⟨by decide, by decide, by decide +kernel⟩ (yy_recv F.N X.2.1 (ci := 6) rfl hP.o) rfl d_M_size_3) d_M_size_3 (n := 6) rfl (by simp [Value.category]) ⟨by decide, by decide⟩ ⟨Nat.zero_le _, Nat.zero_le _⟩ ⟨rfl, rfl⟩ hP rfl (fun _ hSw_1 => ?_)
  cases hin : ym_inb x (k_m σ)
  · refine yy_if_ne_f (tgt := 13) F d_M_size_6 (n := 9) rfl (by decide) rfl ?_
    refine yy_iconst (v := 1) F d_M_size_9 (n := 10) rfl rfl ?_
    refine yy_goto (tgt := 26) F d_M_size_10 (by decide) ?_
    refine ma_code F X g_M_55_M hP hSw_1 d_M_size_26 (n' := 29) rfl (fun Hw_2 locs_w_2 Pw_2 kw_2 Sw_2 => ?_)
    have kw_2 := kpm.rf.tr kw_2
    refine yy_aload_n F d_M_size_29 (n := 30) rfl 0 rfl ?_
    refine yy_get F X.1 X.2.1 g_M_55_M Pw_2.o rfl d_M_size_30 (n := 33) rfl ?_
    refine yy_if_le_f (tgt := 40) F d_M_size_33 (n := 36) rfl (by decide) (by decide) ?_
    refine yy_iconst (v := 0) F d_M_size_36 (n := 37) rfl rfl ?_
    refine yy_goto (tgt := 45) F d_M_size_37 (by decide) ?_
    exact yy_iret F Sw_2 ⟨Nat.zero_le _, Nat.zero_le _⟩ rfl d_M_size_45 (mq_i (o := some e_io) (v := 0) (σ := σ) (by unfold sp_size; unfold ch_con; rw [hin]; rfl) R Pw_2 kw_2 (by decide) (fun h => by cases h))
  · refine yy_if_ne_t (tgt := 13) F d_M_size_6 (by decide) (by decide) ?_
    obtain ⟨hc, ex⟩ := inb_cN (by omega) hin
    rw [show (Value.int x) = Value.int (nI (cN x)) from congrArg Value.int ex]
    refine yy_aload_n F d_M_size_13 (n := 14) rfl 0 rfl ?_
    refine yy_iload_n F d_M_size_14 (n := 15) rfl 1 rfl ?_
    refine yy_cri (w := (ym_n (k_stale σ (cN x)))) F hSw_1 (c_M_isStale X I R hc) (yy_Bc F X.1 q_930 q_3) (yy_invV (nA := 1) (C := R_M) (bytes := b_M_isStale) (maxL := 4) (retY := (some .boolean)) F X.1 q_927 q_929 qs_M_isStale q_930 ⟨by decide, by decide, by decide +kernel⟩ (yy_recv F.N X.2.1 (ci := 6) rfl hP.o) rfl d_M_size_15) d_M_size_15 (n := 18) rfl (by simp [Value.category]) ⟨by decide, by decide⟩ ⟨Nat.zero_le _, Nat.zero_le _⟩ ⟨rfl, rfl⟩ hP rfl (fun _ hSw_3 => ?_)
    cases hs : k_stale σ (cN x)
    · refine yy_if_eq_t (tgt := 25) F d_M_size_18 (by decide) rfl ?_
      refine yy_iconst (v := 0) F d_M_size_25 (n := 26) rfl rfl ?_
      refine ma_code F X g_M_55_M hP hSw_3 d_M_size_26 (n' := 29) rfl (fun Hw_4 locs_w_4 Pw_4 kw_4 Sw_4 => ?_)
      have kw_4 := kpm.rf.tr kw_4
      refine yy_aload_n F d_M_size_29 (n := 30) rfl 0 rfl ?_
      refine yy_get F X.1 X.2.1 g_M_55_M Pw_4.o rfl d_M_size_30 (n := 33) rfl ?_
      refine yy_if_le_t (tgt := 40) F d_M_size_33 (by decide) (by decide) ?_
      refine yy_aload_n F d_M_size_40 (n := 41) rfl 0 rfl ?_
      refine yy_iload_n F d_M_size_41 (n := 42) rfl 1 rfl ?_
      refine yy_cri (w := (nI (k_size σ (cN x)))) F Sw_4 (c_M_sizeOf X I R hc) (yy_Bc F X.1 q_934 q_3) (yy_invV (nA := 1) (C := R_M) (bytes := b_M_sizeOf) (maxL := 4) (retY := (some .int)) F X.1 q_931 q_933 qs_M_sizeOf q_934 ⟨by decide, by decide, by decide +kernel⟩ (yy_recv F.N X.2.1 (ci := 6) rfl Pw_4.o) rfl d_M_size_42) d_M_size_42 (n := 45) rfl (by simp [Value.category]) ⟨by decide, by decide⟩ ⟨Nat.zero_le _, Nat.zero_le _⟩ ⟨rfl, rfl⟩ Pw_4 rfl (fun _ hSw_5 => ?_)
      exact yy_iret F hSw_5 ⟨Nat.zero_le _, Nat.zero_le _⟩ rfl d_M_size_45 (mq_i (o := none) (by unfold sp_size; unfold ch_con; rw [hin, hs]; rfl) R Pw_4 kw_4 (by decide) (fun _ => rfl))
    · refine yy_if_eq_f (tgt := 25) F d_M_size_18 (n := 21) rfl (by decide) (by decide) ?_
      refine yy_iconst (v := 2) F d_M_size_21 (n := 22) rfl rfl ?_
      refine yy_goto (tgt := 26) F d_M_size_22 (by decide) ?_
      refine ma_code F X g_M_55_M hP hSw_3 d_M_size_26 (n' := 29) rfl (fun Hw_6 locs_w_6 Pw_6 kw_6 Sw_6 => ?_)
      have kw_6 := kpm.rf.tr kw_6
      refine yy_aload_n F d_M_size_29 (n := 30) rfl 0 rfl ?_
      refine yy_get F X.1 X.2.1 g_M_55_M Pw_6.o rfl d_M_size_30 (n := 33) rfl ?_
      refine yy_if_le_f (tgt := 40) F d_M_size_33 (n := 36) rfl (by decide) (by decide) ?_
      refine yy_iconst (v := 0) F d_M_size_36 (n := 37) rfl rfl ?_
      refine yy_goto (tgt := 45) F d_M_size_37 (by decide) ?_
      exact yy_iret F Sw_6 ⟨Nat.zero_le _, Nat.zero_le _⟩ rfl d_M_size_45 (mq_i (o := some e_rt) (v := 0) (σ := σ) (by unfold sp_size; unfold ch_con; rw [hin, hs]; rfl) R Pw_6 kw_6 (by decide) (fun h => by cases h))
set_option maxRecDepth 100000 in
set_option maxHeartbeats 4000000 in
theorem c_M_room {l : Launch} {z : State} {a0 : Array Value} {D : va_G} {ca : kca} (X : kcx l z a0 D ca) {a n : Nat} {cd : Int32} {s : ms} {σ : ks} {t : Nat} (I : iv t σ) (R : mr s σ) {x : Int32} : yy_M l z y_M_room (.code y_M_room b_M_room 2 (some .int)) ({ frames := 1, cells := 0, slots := 0, locals := 21 }) [.ref a, .int x] (mo_at D ca z a n cd s) (mqi D ca z a n [e_io, e_uo] (sp_room σ x)) := by
  refine yy_body (plainFor_of_name (by decide)) (Nat.le_of_ble_eq_true rfl) (fun b H F hS hP hH hnm => ?_)
  have h10 := I.m10
  refine yy_aload_n F d_M_room_0 (n := 1) rfl 0 rfl ?_
  refine yy_aload_n F d_M_room_1 (n := 2) rfl 0 rfl ?_
  refine yy_iload_n F d_M_room_2 (n := 3) rfl 1 rfl ?_
  refine yy_cri (w := (ym_n (ym_inb x (k_m σ)))) F hS (c_M_isThere (x := x) X I R) (yy_Bc F X.1 q_918 q_3) (yy_invV (nA := 1) (C := R_M) (bytes := b_M_isThere) (maxL := 2) (retY := (some .boolean)) F X.1 q_915 q_917 qs_M_isThere q_918 ⟨by decide, by decide, by decide +kernel⟩ (yy_recv F.N X.2.1 (ci := 6) rfl hP.o) rfl d_M_room_3) d_M_room_3 (n := 6) rfl (by simp [Value.category]) ⟨by decide, by decide⟩ ⟨Nat.zero_le _, Nat.zero_le _⟩ ⟨rfl, rfl⟩ hP rfl (fun _ hSw_1 => ?_)
  cases hin : ym_inb x (k_m σ)
  · refine yy_if_ne_f (tgt := 13) F d_M_room_6 (n := 9) rfl (by decide) rfl ?_
    refine yy_iconst (v := 1) F d_M_room_9 (n := 10) rfl rfl ?_
    refine yy_goto (tgt := 35) F d_M_room_10 (by decide) ?_
    refine ma_code F X g_M_55_M hP hSw_1 d_M_room_35 (n' := 38) rfl (fun Hw_2 locs_w_2 Pw_2 kw_2 Sw_2 => ?_)
    have kw_2 := kpm.rf.tr kw_2
    refine yy_aload_n F d_M_room_38 (n := 39) rfl 0 rfl ?_
    refine yy_get F X.1 X.2.1 g_M_55_M Pw_2.o rfl d_M_room_39 (n := 42) rfl ?_
    refine yy_if_le_f (tgt := 49) F d_M_room_42 (n := 45) rfl (by decide) (by decide) ?_
    refine yy_iconst (v := 0) F d_M_room_45 (n := 46) rfl rfl ?_
    refine yy_goto (tgt := 55) F d_M_room_46 (by decide) ?_
    exact yy_iret F Sw_2 ⟨Nat.zero_le _, Nat.zero_le _⟩ rfl d_M_room_55 (mq_i (o := some e_io) (v := 0) (σ := σ) (by unfold sp_room; unfold ch_con; rw [hin]; rfl) R Pw_2 kw_2 (by decide) (fun h => by cases h))
  · refine yy_if_ne_t (tgt := 13) F d_M_room_6 (by decide) (by decide) ?_
    obtain ⟨hc, ex⟩ := inb_cN (by omega) hin
    rw [show (Value.int x) = Value.int (nI (cN x)) from congrArg Value.int ex]
    have hb := I.bs hc
    refine yy_aload_n F d_M_room_13 (n := 14) rfl 0 rfl ?_
    refine yy_get F X.1 X.2.1 g_M_7_M hP.o rfl d_M_room_14 (n := 17) rfl ?_
    refine yy_iload_n F d_M_room_17 (n := 18) rfl 1 rfl ?_
    refine ma_ld (j := 0) (i := (cN x)) F X hP (by decide) (show cN x < 10 by omega) d_M_room_18 (n' := 19) rfl ?_
    refine yy_tope (y := (k_kd σ (cN x))) (R.kd hc) ?_
    refine yy_if_eq (tgt := 30) F d_M_room_19 (n := 22) rfl (by decide) (fun h0 => ?_) (fun h0 => ?_)
    · have h6 : ¬ k_kd σ (cN x) = 6 := by intro q; rw [q] at h0; exact absurd h0 (by decide)
      have h7 : ¬ k_kd σ (cN x) = 7 := by intro q; rw [q] at h0; exact absurd h0 (by decide)
      refine yy_iconst (v := 0) F d_M_room_30 (n := 31) rfl rfl ?_
      refine yy_goto (tgt := 35) F d_M_room_31 (by decide) ?_
      refine ma_code F X g_M_55_M hP hSw_1 d_M_room_35 (n' := 38) rfl (fun Hw_3 locs_w_3 Pw_3 kw_3 Sw_3 => ?_)
      have kw_3 := kpm.rf.tr kw_3
      refine yy_aload_n F d_M_room_38 (n := 39) rfl 0 rfl ?_
      refine yy_get F X.1 X.2.1 g_M_55_M Pw_3.o rfl d_M_room_39 (n := 42) rfl ?_
      refine yy_if_le_t (tgt := 49) F d_M_room_42 (by decide) (by decide) ?_
      refine yy_aload_n F d_M_room_49 (n := 50) rfl 0 rfl ?_
      refine yy_get F X.1 X.2.1 g_M_31_M Pw_3.o rfl d_M_room_50 (n := 53) rfl ?_
      refine yy_iload_n F d_M_room_53 (n := 54) rfl 1 rfl ?_
      refine ma_ld (j := 7) (i := (cN x)) F X Pw_3 (by decide) (show cN x < 10 by omega) d_M_room_54 (n' := 55) rfl ?_
      refine yy_tope (y := (nI (s_ro (k_B σ (cN x))))) (by have h9 := R.ro I hc; rw [I.b0 hc h6 h7] at h9; exact h9) ?_
      exact yy_iret F Sw_3 ⟨Nat.zero_le _, Nat.zero_le _⟩ rfl d_M_room_55 (mq_i (o := none) (by unfold sp_room; unfold ch_con; rw [hin, h0]; rfl) R Pw_3 kw_3 (by decide) (fun _ => rfl))
    · refine yy_aload_n F d_M_room_22 (n := 23) rfl 0 rfl ?_
      refine yy_iload_n F d_M_room_23 (n := 24) rfl 1 rfl ?_
      refine yy_cri (w := (ym_n (k_ish (k_kd σ (cN x))))) F hSw_1 (c_M_hashes X I R hc) (yy_Bc F X.1 q_1029 q_3) (yy_invV (nA := 1) (C := R_M) (bytes := b_M_hashes) (maxL := 2) (retY := (some .boolean)) F X.1 q_1026 q_1028 qs_M_hashes q_1029 ⟨by decide, by decide, by decide +kernel⟩ (yy_recv F.N X.2.1 (ci := 6) rfl hP.o) rfl d_M_room_24) d_M_room_24 (n := 27) rfl (by simp [Value.category]) ⟨by decide, by decide⟩ ⟨Nat.zero_le _, Nat.zero_le _⟩ ⟨rfl, rfl⟩ hP rfl (fun _ hSw_4 => ?_)
      cases hh : k_ish (k_kd σ (cN x))
      · refine yy_if_eq_t (tgt := 34) F d_M_room_27 (by decide) rfl ?_
        refine yy_iconst (v := 2) F d_M_room_34 (n := 35) rfl rfl ?_
        refine ma_code F X g_M_55_M hP hSw_4 d_M_room_35 (n' := 38) rfl (fun Hw_5 locs_w_5 Pw_5 kw_5 Sw_5 => ?_)
        have kw_5 := kpm.rf.tr kw_5
        refine yy_aload_n F d_M_room_38 (n := 39) rfl 0 rfl ?_
        refine yy_get F X.1 X.2.1 g_M_55_M Pw_5.o rfl d_M_room_39 (n := 42) rfl ?_
        refine yy_if_le_f (tgt := 49) F d_M_room_42 (n := 45) rfl (by decide) (by decide) ?_
        refine yy_iconst (v := 0) F d_M_room_45 (n := 46) rfl rfl ?_
        refine yy_goto (tgt := 55) F d_M_room_46 (by decide) ?_
        exact yy_iret F Sw_5 ⟨Nat.zero_le _, Nat.zero_le _⟩ rfl d_M_room_55 (mq_i (o := some e_uo) (v := 0) (σ := σ) (by unfold sp_room; unfold ch_con; rw [hin, hh, decide_eq_false h0]; rfl) R Pw_5 kw_5 (by decide) (fun h => by cases h))
      · refine yy_if_eq_f (tgt := 34) F d_M_room_27 (n := 30) rfl (by decide) (by decide) ?_
        have h6 : ¬ k_kd σ (cN x) = 6 := by intro q; rw [q] at hh; exact absurd hh (by decide)
        have h7 : ¬ k_kd σ (cN x) = 7 := by intro q; rw [q] at hh; exact absurd hh (by decide)
        refine yy_iconst (v := 0) F d_M_room_30 (n := 31) rfl rfl ?_
        refine yy_goto (tgt := 35) F d_M_room_31 (by decide) ?_
        refine ma_code F X g_M_55_M hP hSw_4 d_M_room_35 (n' := 38) rfl (fun Hw_6 locs_w_6 Pw_6 kw_6 Sw_6 => ?_)
        have kw_6 := kpm.rf.tr kw_6
        refine yy_aload_n F d_M_room_38 (n := 39) rfl 0 rfl ?_
        refine yy_get F X.1 X.2.1 g_M_55_M Pw_6.o rfl d_M_room_39 (n := 42) rfl ?_
        refine yy_if_le_t (tgt := 49) F d_M_room_42 (by decide) (by decide) ?_
        refine yy_aload_n F d_M_room_49 (n := 50) rfl 0 rfl ?_
        refine yy_get F X.1 X.2.1 g_M_31_M Pw_6.o rfl d_M_room_50 (n := 53) rfl ?_
        refine yy_iload_n F d_M_room_53 (n := 54) rfl 1 rfl ?_
        refine ma_ld (j := 7) (i := (cN x)) F X Pw_6 (by decide) (show cN x < 10 by omega) d_M_room_54 (n' := 55) rfl ?_
        refine yy_tope (y := (nI (s_ro (k_B σ (cN x))))) (by have h9 := R.ro I hc; rw [I.b0 hc h6 h7] at h9; exact h9) ?_
        exact yy_iret F Sw_6 ⟨Nat.zero_le _, Nat.zero_le _⟩ rfl d_M_room_55 (mq_i (o := none) (by unfold sp_room; unfold ch_con; rw [hin, hh, Bool.or_true]; rfl) R Pw_6 kw_6 (by decide) (fun _ => rfl))
set_option maxRecDepth 100000 in
set_option maxHeartbeats 4000000 in
theorem c_M_get {l : Launch} {z : State} {a0 : Array Value} {D : va_G} {ca : kca} (X : kcx l z a0 D ca) {a n : Nat} {cd : Int32} {s : ms} {σ : ks} {t : Nat} (I : iv t σ) (R : mr s σ) {x p : Int32} : yy_M l z y_M_get (.code y_M_get b_M_get 3 (some .int)) ({ frames := 2, cells := 0, slots := 0, locals := 45 }) [.ref a, .int x, .int p] (mo_at D ca z a n cd s) (mqi D ca z a n [e_io, e_uo, e_ns, e_rt] (sp_get σ x p)) := by
  refine yy_body (plainFor_of_name (by decide)) (Nat.le_of_ble_eq_true rfl) (fun b H F hS hP hH hnm => ?_)
  have h10 := I.m10
  cases hE : ch_fl σ x with
  | some E =>
    have hin9 : E ∈ ([e_io, e_uo, e_ns, e_rt] : List String) := by rcases ch_fl_in I.m10 hE with rfl | rfl | rfl <;> decide
    obtain ⟨hc1, hc2⟩ := m_pos hin9 (by decide)
    refine yy_aload_n F d_M_get_0 (n := 1) rfl 0 rfl ?_
    refine yy_aload_n F d_M_get_1 (n := 2) rfl 0 rfl ?_
    refine yy_iload_n F d_M_get_2 (n := 3) rfl 1 rfl ?_
    refine yy_iconst (v := 4) F d_M_get_3 (n := 4) rfl rfl ?_
    refine yy_cri (w := (c_of [e_io, e_uo, e_ns, e_rt] (some E))) F hS (c_M_checkList (x := x) (e := 4) X I R) (yy_Bc F X.1 q_958 q_3) (yy_invV (nA := 2) (C := R_M) (bytes := b_M_checkList) (maxL := 3) (retY := (some .int)) F X.1 q_955 q_957 qs_M_checkList q_958 ⟨by decide, by decide, by decide +kernel⟩ (yy_recv F.N X.2.1 (ci := 6) rfl hP.o) rfl d_M_get_4) d_M_get_4 (n := 7) rfl (by simp [Value.category]) ⟨by decide, by decide⟩ ⟨Nat.zero_le _, Nat.zero_le _⟩ ⟨rfl, rfl⟩ hP (m_cl_E I.m10 hE (by decide) (by decide) (by decide)) (fun _ hSw_1 => ?_)
    refine ma_code F X g_M_55_M hP hSw_1 d_M_get_7 (n' := 10) rfl (fun Hw_2 locs_w_2 Pw_2 kw_2 Sw_2 => ?_)
    have kw_2 := kpm.rf.tr kw_2
    refine yy_aload_n F d_M_get_10 (n := 11) rfl 0 rfl ?_
    refine yy_get F X.1 X.2.1 g_M_55_M Pw_2.o rfl d_M_get_11 (n := 14) rfl ?_
    refine yy_if_ne_t (tgt := 35) F d_M_get_14 (by decide) hc2 ?_
    refine yy_aload_n F d_M_get_35 (n := 36) rfl 0 rfl ?_
    refine yy_get F X.1 X.2.1 g_M_55_M Pw_2.o rfl d_M_get_36 (n := 39) rfl ?_
    refine yy_if_le_f (tgt := 46) F d_M_get_39 (n := 42) rfl (by decide) hc1 ?_
    refine yy_iconst (v := 0) F d_M_get_42 (n := 43) rfl rfl ?_
    refine yy_goto (tgt := 57) F d_M_get_43 (by decide) ?_
    exact yy_iret F Sw_2 ⟨Nat.zero_le _, Nat.zero_le _⟩ rfl d_M_get_57 (mq_i (o := some E) (v := 0) (σ := σ) (by unfold sp_get; rw [hE]; rfl) R Pw_2 kw_2 rfl (fun h => by cases h))
  | none =>
    obtain ⟨hc, ex, hk, hs⟩ := ch_fl_none I.m10 hE
    have hb := I.bs hc
    have h24 := I.ct hc
    have hend := I.end hc (k_fr_of hs)
    refine yy_aload_n F d_M_get_0 (n := 1) rfl 0 rfl ?_
    refine yy_aload_n F d_M_get_1 (n := 2) rfl 0 rfl ?_
    refine yy_iload_n F d_M_get_2 (n := 3) rfl 1 rfl ?_
    refine yy_iconst (v := 4) F d_M_get_3 (n := 4) rfl rfl ?_
    refine yy_cri (w := 0) F hS (c_M_checkList (x := x) (e := 4) X I R) (yy_Bc F X.1 q_958 q_3) (yy_invV (nA := 2) (C := R_M) (bytes := b_M_checkList) (maxL := 3) (retY := (some .int)) F X.1 q_955 q_957 qs_M_checkList q_958 ⟨by decide, by decide, by decide +kernel⟩ (yy_recv F.N X.2.1 (ci := 6) rfl hP.o) rfl d_M_get_4) d_M_get_4 (n := 7) rfl (by simp [Value.category]) ⟨by decide, by decide⟩ ⟨Nat.zero_le _, Nat.zero_le _⟩ ⟨rfl, rfl⟩ hP (m_cl_0 hE) (fun _ hSw_3 => ?_)
    rw [show (Value.int x) = Value.int (nI (cN x)) from congrArg Value.int ex]
    have h5 := k_lb5 I hc hk
    refine ma_code F X g_M_55_M hP hSw_3 d_M_get_7 (n' := 10) rfl (fun Hw_4 locs_w_4 Pw_4 kw_4 Sw_4 => ?_)
    have kw_4 := kpm.rf.tr kw_4
    refine yy_aload_n F d_M_get_10 (n := 11) rfl 0 rfl ?_
    refine yy_get F X.1 X.2.1 g_M_55_M Pw_4.o rfl d_M_get_11 (n := 14) rfl ?_
    refine yy_if_ne_f (tgt := 35) F d_M_get_14 (n := 17) rfl (by decide) (by decide) ?_
    refine yy_iload_n F d_M_get_17 (n := 18) rfl 2 rfl ?_
    refine yy_if_lt (tgt := 30) F d_M_get_18 (n := 21) rfl (by decide) (fun h0 => ?_) (fun h0 => ?_)
    · refine yy_aload_n F d_M_get_30 (n := 31) rfl 0 rfl ?_
      refine yy_iconst (v := 3) F d_M_get_31 (n := 32) rfl rfl ?_
      refine ma_code F X g_M_55_M Pw_4 Sw_4 d_M_get_32 (n' := 35) rfl (fun Hw_5 locs_w_5 Pw_5 kw_5 Sw_5 => ?_)
      have kw_5 := kw_4.tr kw_5
      refine yy_aload_n F d_M_get_35 (n := 36) rfl 0 rfl ?_
      refine yy_get F X.1 X.2.1 g_M_55_M Pw_5.o rfl d_M_get_36 (n := 39) rfl ?_
      refine yy_if_le_f (tgt := 46) F d_M_get_39 (n := 42) rfl (by decide) (by decide) ?_
      refine yy_iconst (v := 0) F d_M_get_42 (n := 43) rfl rfl ?_
      refine yy_goto (tgt := 57) F d_M_get_43 (by decide) ?_
      exact yy_iret F Sw_5 ⟨Nat.zero_le _, Nat.zero_le _⟩ rfl d_M_get_57 (mq_i (o := some e_ns) (v := 0) (σ := σ) (by unfold sp_get; rw [hE, show ym_inb p (k_size σ (cN x)) = false by simp [ym_inb, h0]]; rfl) R Pw_5 kw_5 (by decide) (fun h => by cases h))
    · refine yy_iload_n F d_M_get_21 (n := 22) rfl 2 rfl ?_
      refine yy_aload_n F d_M_get_22 (n := 23) rfl 0 rfl ?_
      refine yy_iload_n F d_M_get_23 (n := 24) rfl 1 rfl ?_
      refine yy_cri (w := (nI (k_size σ (cN x)))) F Sw_4 (c_M_sizeOf X I R hc) (yy_Bc F X.1 q_934 q_3) (yy_invV (nA := 1) (C := R_M) (bytes := b_M_sizeOf) (maxL := 4) (retY := (some .int)) F X.1 q_931 q_933 qs_M_sizeOf q_934 ⟨by decide, by decide, by decide +kernel⟩ (yy_recv F.N X.2.1 (ci := 6) rfl Pw_4.o) rfl d_M_get_24) d_M_get_24 (n := 27) rfl (by simp [Value.category]) ⟨by decide, by decide⟩ ⟨Nat.zero_le _, Nat.zero_le _⟩ ⟨rfl, rfl⟩ Pw_4 rfl (fun _ hSw_6 => ?_)
      refine yy_ic_lt (tgt := 35) F d_M_get_27 (n := 30) rfl (by decide) (fun h1 => ?_) (fun h1 => ?_)
      · have hp : ym_inb p (k_size σ (cN x)) = true := by simp [ym_inb, h0, h1]
        obtain ⟨hp1, hp2⟩ := inb_cN (by omega) hp
        refine yy_aload_n F d_M_get_35 (n := 36) rfl 0 rfl ?_
        refine yy_get F X.1 X.2.1 g_M_55_M Pw_4.o rfl d_M_get_36 (n := 39) rfl ?_
        refine yy_if_le_t (tgt := 46) F d_M_get_39 (by decide) (by decide) ?_
        refine yy_aload_n F d_M_get_46 (n := 47) rfl 0 rfl ?_
        refine yy_get F X.1 X.2.1 g_M_19_M Pw_4.o rfl d_M_get_47 (n := 50) rfl ?_
        refine yy_aload_n F d_M_get_50 (n := 51) rfl 0 rfl ?_
        refine yy_iload_n F d_M_get_51 (n := 52) rfl 1 rfl ?_
        refine yy_iload_n F d_M_get_52 (n := 53) rfl 2 rfl ?_
        refine yy_cri (w := (nI (24 * k_bs σ (cN x) + (k_start σ (cN x) + cN p)))) F hSw_6 (c_M_at (x := p) (q := k_start σ (cN x) + cN p) X I R hc (by rw [← nI_add, ← hp2])) (yy_Bc F X.1 q_962 q_3) (yy_invV (nA := 2) (C := R_M) (bytes := b_M_at) (maxL := 3) (retY := (some .int)) F X.1 q_959 q_961 qs_M_at q_962 ⟨by decide, by decide, by decide +kernel⟩ (yy_recv F.N X.2.1 (ci := 6) rfl Pw_4.o) rfl d_M_get_53) d_M_get_53 (n := 56) rfl (by simp [Value.category]) ⟨by decide, by decide⟩ ⟨Nat.zero_le _, Nat.zero_le _⟩ ⟨rfl, rfl⟩ Pw_4 rfl (fun _ hSw_7 => ?_)
        refine ma_ld (j := 3) (i := (24 * k_bs σ (cN x) + (k_start σ (cN x) + cN p))) F X Pw_4 (by decide) (show 24 * k_bs σ (cN x) + (k_start σ (cN x) + cN p) < 240 by omega) d_M_get_56 (n' := 57) rfl ?_
        refine yy_tope (y := (s_nu (k_B σ (cN x)) (k_start σ (cN x) + cN p))) (R.nu I hc h5 (by omega)) ?_
        exact yy_iret F hSw_7 ⟨Nat.zero_le _, Nat.zero_le _⟩ rfl d_M_get_57 (mq_i (o := none) (by unfold sp_get; rw [hE, hp]; rfl) R Pw_4 kw_4 (by decide) (fun _ => rfl))
      · refine yy_aload_n F d_M_get_30 (n := 31) rfl 0 rfl ?_
        refine yy_iconst (v := 3) F d_M_get_31 (n := 32) rfl rfl ?_
        refine ma_code F X g_M_55_M Pw_4 hSw_6 d_M_get_32 (n' := 35) rfl (fun Hw_8 locs_w_8 Pw_8 kw_8 Sw_8 => ?_)
        have kw_8 := kw_4.tr kw_8
        refine yy_aload_n F d_M_get_35 (n := 36) rfl 0 rfl ?_
        refine yy_get F X.1 X.2.1 g_M_55_M Pw_8.o rfl d_M_get_36 (n := 39) rfl ?_
        refine yy_if_le_f (tgt := 46) F d_M_get_39 (n := 42) rfl (by decide) (by decide) ?_
        refine yy_iconst (v := 0) F d_M_get_42 (n := 43) rfl rfl ?_
        refine yy_goto (tgt := 57) F d_M_get_43 (by decide) ?_
        exact yy_iret F Sw_8 ⟨Nat.zero_le _, Nat.zero_le _⟩ rfl d_M_get_57 (mq_i (o := some e_ns) (v := 0) (σ := σ) (by unfold sp_get; rw [hE, show ym_inb p (k_size σ (cN x)) = false by simp [ym_inb, h1]]; rfl) R Pw_8 kw_8 (by decide) (fun h => by cases h))
set_option maxRecDepth 100000 in
set_option maxHeartbeats 4000000 in
theorem c_M_has {l : Launch} {z : State} {a0 : Array Value} {D : va_G} {ca : kca} (X : kcx l z a0 D ca) {a n : Nat} {cd : Int32} {s : ms} {σ : ks} {t : Nat} (I : iv t σ) (R : mr s σ) {x key : Int32} : yy_M l z y_M_has (.code y_M_has b_M_has 3 (some .boolean)) ({ frames := 3, cells := 0, slots := 0, locals := 63 }) [.ref a, .int x, .int key] (mo_at D ca z a n cd s) (mqi D ca z a n [e_io, e_uo] (sp_has σ x key)) := by
  refine yy_body (plainFor_of_name (by decide)) (Nat.le_of_ble_eq_true rfl) (fun b H F hS hP hH hnm => ?_)
  have h10 := I.m10
  cases hE : ch_map σ x with
  | some E =>
    have hin9 : E ∈ ([e_io, e_uo] : List String) := by rcases ch_map_in I.m10 hE with rfl | rfl <;> decide
    obtain ⟨hc1, hc2⟩ := m_pos hin9 (by decide)
    refine yy_aload_n F d_M_has_0 (n := 1) rfl 0 rfl ?_
    refine yy_aload_n F d_M_has_1 (n := 2) rfl 0 rfl ?_
    refine yy_iload_n F d_M_has_2 (n := 3) rfl 1 rfl ?_
    refine yy_cri (w := (c_of [e_io, e_uo] (some E))) F hS (c_M_checkMap (x := x) X I R) (yy_Bc F X.1 q_1013 q_3) (yy_invV (nA := 1) (C := R_M) (bytes := b_M_checkMap) (maxL := 2) (retY := (some .int)) F X.1 q_1010 q_1012 qs_M_checkMap q_1013 ⟨by decide, by decide, by decide +kernel⟩ (yy_recv F.N X.2.1 (ci := 6) rfl hP.o) rfl d_M_has_3) d_M_has_3 (n := 6) rfl (by simp [Value.category]) ⟨by decide, by decide⟩ ⟨Nat.zero_le _, Nat.zero_le _⟩ ⟨rfl, rfl⟩ hP ((congrArg (c_of _) hE).trans (by rcases ch_map_in I.m10 hE with rfl | rfl <;> decide)) (fun _ hSw_1 => ?_)
    refine ma_code F X g_M_55_M hP hSw_1 d_M_has_6 (n' := 9) rfl (fun Hw_2 locs_w_2 Pw_2 kw_2 Sw_2 => ?_)
    have kw_2 := kpm.rf.tr kw_2
    refine yy_aload_n F d_M_has_9 (n := 10) rfl 0 rfl ?_
    refine yy_get F X.1 X.2.1 g_M_55_M Pw_2.o rfl d_M_has_10 (n := 13) rfl ?_
    refine yy_if_ne_t (tgt := 30) F d_M_has_13 (by decide) hc2 ?_
    refine yy_iconst (v := 0) F d_M_has_30 (n := 31) rfl rfl ?_
    exact yy_zret F Sw_2 ⟨Nat.zero_le _, Nat.zero_le _⟩ rfl rfl d_M_has_31 (mq_i (o := some E) (v := 0) (σ := σ) (by unfold sp_has; rw [hE]; rfl) R Pw_2 kw_2 rfl (fun h => by cases h))
  | none =>
    obtain ⟨hc, ex, hk⟩ := ch_map_none I.m10 hE
    have h6 := k_ism6 hk
    have hv := I.mapb hc hk
    have h5 : ¬ k_kb σ (cN x) = 5 := fun q => by rw [q] at hv; exact absurd hv (by decide)
    have hb := I.bs hc
    have h24 := I.ct hc
    refine yy_aload_n F d_M_has_0 (n := 1) rfl 0 rfl ?_
    refine yy_aload_n F d_M_has_1 (n := 2) rfl 0 rfl ?_
    refine yy_iload_n F d_M_has_2 (n := 3) rfl 1 rfl ?_
    refine yy_cri (w := 0) F hS (c_M_checkMap (x := x) X I R) (yy_Bc F X.1 q_1013 q_3) (yy_invV (nA := 1) (C := R_M) (bytes := b_M_checkMap) (maxL := 2) (retY := (some .int)) F X.1 q_1010 q_1012 qs_M_checkMap q_1013 ⟨by decide, by decide, by decide +kernel⟩ (yy_recv F.N X.2.1 (ci := 6) rfl hP.o) rfl d_M_has_3) d_M_has_3 (n := 6) rfl (by simp [Value.category]) ⟨by decide, by decide⟩ ⟨Nat.zero_le _, Nat.zero_le _⟩ ⟨rfl, rfl⟩ hP (by rw [hE]; rfl) (fun _ hSw_3 => ?_)
    rw [show (Value.int x) = Value.int (nI (cN x)) from congrArg Value.int ex]
    refine ma_code F X g_M_55_M hP hSw_3 d_M_has_6 (n' := 9) rfl (fun Hw_4 locs_w_4 Pw_4 kw_4 Sw_4 => ?_)
    have kw_4 := kpm.rf.tr kw_4
    refine yy_aload_n F d_M_has_9 (n := 10) rfl 0 rfl ?_
    refine yy_get F X.1 X.2.1 g_M_55_M Pw_4.o rfl d_M_has_10 (n := 13) rfl ?_
    refine yy_if_ne_f (tgt := 30) F d_M_has_13 (n := 16) rfl (by decide) (by decide) ?_
    refine yy_aload_n F d_M_has_16 (n := 17) rfl 0 rfl ?_
    refine yy_iload_n F d_M_has_17 (n := 18) rfl 1 rfl ?_
    refine yy_iload_n F d_M_has_18 (n := 19) rfl 2 rfl ?_
    refine yy_cri (w := (o_n (k_at σ (cN x) key))) F Sw_4 (c_M_find (key := key) X I R hc h5) (yy_Bc F X.1 q_1021 q_3) (yy_invV (nA := 2) (C := R_M) (bytes := b_M_find) (maxL := 5) (retY := (some .int)) F X.1 q_1018 q_1020 qs_M_find q_1021 ⟨by decide, by decide, by decide +kernel⟩ (yy_recv F.N X.2.1 (ci := 6) rfl Pw_4.o) rfl d_M_has_19) d_M_has_19 (n := 22) rfl (by simp [Value.category]) ⟨by decide, by decide⟩ ⟨Nat.zero_le _, Nat.zero_le _⟩ ⟨rfl, rfl⟩ Pw_4 rfl (fun _ hSw_5 => ?_)
    refine yy_iconst (v := (-1)) F d_M_has_22 (n := 23) rfl rfl ?_
    cases hat : k_at σ (cN x) key with
    | none =>
      refine yy_ic_eq_t (tgt := 30) F d_M_has_23 (by decide) rfl ?_
      refine yy_iconst (v := 0) F d_M_has_30 (n := 31) rfl rfl ?_
      exact yy_zret F hSw_5 ⟨Nat.zero_le _, Nat.zero_le _⟩ rfl rfl d_M_has_31 (mq_i (o := none) (by unfold sp_has; rw [hE, hat]; rfl) R Pw_4 kw_4 (by decide) (fun _ => rfl))
    | some q =>
      have hq := (I.at hc h6 hat).1
      refine yy_ic_eq_f (tgt := 30) F d_M_has_23 (n := 26) rfl (by decide) (ym_nm1 (by omega)) ?_
      refine yy_iconst (v := 1) F d_M_has_26 (n := 27) rfl rfl ?_
      refine yy_goto (tgt := 31) F d_M_has_27 (by decide) ?_
      exact yy_zret F hSw_5 ⟨Nat.zero_le _, Nat.zero_le _⟩ rfl rfl d_M_has_31 (mq_i (o := none) (by unfold sp_has; rw [hE, hat]; rfl) R Pw_4 kw_4 (by decide) (fun _ => rfl))
set_option maxRecDepth 100000 in
set_option maxHeartbeats 4000000 in
theorem c_M_left {l : Launch} {z : State} {a0 : Array Value} {D : va_G} {ca : kca} (X : kcx l z a0 D ca) {a n : Nat} {cd : Int32} {s : ms} {σ : ks} {t : Nat} (I : iv t σ) (R : mr s σ) {x : Int32} : yy_M l z y_M_left (.code y_M_left b_M_left 2 (some .int)) ({ frames := 2, cells := 0, slots := 0, locals := 45 }) [.ref a, .int x] (mo_at D ca z a n cd s) (mqi D ca z a n [e_io, e_rt] (sp_left σ x)) := by
  refine yy_body (plainFor_of_name (by decide)) (Nat.le_of_ble_eq_true rfl) (fun b H F hS hP hH hnm => ?_)
  have h10 := I.m10
  refine yy_aload_n F d_M_left_0 (n := 1) rfl 0 rfl ?_
  refine yy_aload_n F d_M_left_1 (n := 2) rfl 0 rfl ?_
  refine yy_iload_n F d_M_left_2 (n := 3) rfl 1 rfl ?_
  refine yy_cri (w := (ym_n (decide (ch_wk σ x = none)))) F hS (c_M_isOpen (x := x) X I R) (yy_Bc F X.1 q_1091 q_3) (yy_invV (nA := 1) (C := R_M) (bytes := b_M_isOpen) (maxL := 2) (retY := (some .boolean)) F X.1 q_1088 q_1090 qs_M_isOpen q_1091 ⟨by decide, by decide, by decide +kernel⟩ (yy_recv F.N X.2.1 (ci := 6) rfl hP.o) rfl d_M_left_3) d_M_left_3 (n := 6) rfl (by simp [Value.category]) ⟨by decide, by decide⟩ ⟨Nat.zero_le _, Nat.zero_le _⟩ ⟨rfl, rfl⟩ hP rfl (fun _ hSw_1 => ?_)
  cases hop : decide (ch_wk σ x = none)
  · refine yy_if_ne_f (tgt := 13) F d_M_left_6 (n := 9) rfl (by decide) rfl ?_
    have hE := of_decide_eq_false hop
    cases hE9 : ch_wk σ x with
    | none => exact absurd hE9 hE
    | some E =>
      have hEE := (ch_wk_some hE9).2
      subst hEE
      refine yy_iconst (v := 1) F d_M_left_9 (n := 10) rfl rfl ?_
      refine yy_goto (tgt := 26) F d_M_left_10 (by decide) ?_
      refine ma_code F X g_M_55_M hP hSw_1 d_M_left_26 (n' := 29) rfl (fun Hw_2 locs_w_2 Pw_2 kw_2 Sw_2 => ?_)
      have kw_2 := kpm.rf.tr kw_2
      refine yy_aload_n F d_M_left_29 (n := 30) rfl 0 rfl ?_
      refine yy_get F X.1 X.2.1 g_M_55_M Pw_2.o rfl d_M_left_30 (n := 33) rfl ?_
      refine yy_if_le_f (tgt := 40) F d_M_left_33 (n := 36) rfl (by decide) (by decide) ?_
      refine yy_iconst (v := 0) F d_M_left_36 (n := 37) rfl rfl ?_
      refine yy_goto (tgt := 57) F d_M_left_37 (by decide) ?_
      exact yy_iret F Sw_2 ⟨Nat.zero_le _, Nat.zero_le _⟩ rfl d_M_left_57 (mq_i (o := some e_io) (v := 0) (σ := σ) (by unfold sp_left; rw [hE9]; rfl) R Pw_2 kw_2 (by decide) (fun h => by cases h))
  · refine yy_if_ne_t (tgt := 13) F d_M_left_6 (by decide) (by decide) ?_
    have hE := of_decide_eq_true hop
    obtain ⟨hi, ex, hov, hc⟩ := ch_wk_none I hE
    have hb := I.bs hc
    have h24 := I.ct hc
    rw [show (Value.int x) = Value.int (nI (cN x)) from congrArg Value.int ex]
    refine yy_aload_n F d_M_left_13 (n := 14) rfl 0 rfl ?_
    refine yy_iload_n F d_M_left_14 (n := 15) rfl 1 rfl ?_
    refine yy_cri (w := (ym_n (k_lost σ (cN x) (k_ov σ (cN x))))) F hSw_1 (c_M_isLost X I R hi hov) (yy_Bc F X.1 q_1095 q_3) (yy_invV (nA := 1) (C := R_M) (bytes := b_M_isLost) (maxL := 2) (retY := (some .boolean)) F X.1 q_1092 q_1094 qs_M_isLost q_1095 ⟨by decide, by decide, by decide +kernel⟩ (yy_recv F.N X.2.1 (ci := 6) rfl hP.o) rfl d_M_left_15) d_M_left_15 (n := 18) rfl (by simp [Value.category]) ⟨by decide, by decide⟩ ⟨Nat.zero_le _, Nat.zero_le _⟩ ⟨rfl, rfl⟩ hP rfl (fun _ hSw_3 => ?_)
    cases hl : k_lost σ (cN x) (k_ov σ (cN x))
    · refine yy_if_eq_t (tgt := 25) F d_M_left_18 (by decide) rfl ?_
      refine yy_iconst (v := 0) F d_M_left_25 (n := 26) rfl rfl ?_
      refine ma_code F X g_M_55_M hP hSw_3 d_M_left_26 (n' := 29) rfl (fun Hw_4 locs_w_4 Pw_4 kw_4 Sw_4 => ?_)
      have kw_4 := kpm.rf.tr kw_4
      refine yy_aload_n F d_M_left_29 (n := 30) rfl 0 rfl ?_
      refine yy_get F X.1 X.2.1 g_M_55_M Pw_4.o rfl d_M_left_30 (n := 33) rfl ?_
      refine yy_if_le_t (tgt := 40) F d_M_left_33 (by decide) (by decide) ?_
      refine yy_aload_n F d_M_left_40 (n := 41) rfl 0 rfl ?_
      refine yy_aload_n F d_M_left_41 (n := 42) rfl 0 rfl ?_
      refine yy_get F X.1 X.2.1 g_M_43_M Pw_4.o rfl d_M_left_42 (n := 45) rfl ?_
      refine yy_iload_n F d_M_left_45 (n := 46) rfl 1 rfl ?_
      refine ma_ld (j := 11) (i := (cN x)) F X Pw_4 (by decide) (show cN x < 4 by omega) d_M_left_46 (n' := 47) rfl ?_
      refine yy_tope (y := (nI (k_ov σ (cN x)))) ((R.w1 hi hov).1) ?_
      refine yy_cri (w := (nI (k_size σ (k_ov σ (cN x))))) F Sw_4 (c_M_sizeOf X I R hc) (yy_Bc F X.1 q_934 q_3) (yy_invV (nA := 1) (C := R_M) (bytes := b_M_sizeOf) (maxL := 4) (retY := (some .int)) F X.1 q_931 q_933 qs_M_sizeOf q_934 ⟨by decide, by decide, by decide +kernel⟩ (yy_recv F.N X.2.1 (ci := 6) rfl Pw_4.o) rfl d_M_left_47) d_M_left_47 (n := 50) rfl (by simp [Value.category]) ⟨by decide, by decide⟩ ⟨Nat.zero_le _, Nat.zero_le _⟩ ⟨rfl, rfl⟩ Pw_4 rfl (fun _ hSw_5 => ?_)
      refine yy_aload_n F d_M_left_50 (n := 51) rfl 0 rfl ?_
      refine yy_get F X.1 X.2.1 g_M_46_M Pw_4.o rfl d_M_left_51 (n := 54) rfl ?_
      refine yy_iload_n F d_M_left_54 (n := 55) rfl 1 rfl ?_
      refine ma_ld (j := 12) (i := (cN x)) F X Pw_4 (by decide) (show cN x < 4 by omega) d_M_left_55 (n' := 56) rfl ?_
      refine yy_tope (y := (nI (k_W σ (cN x)).2.1)) ((R.w1 hi hov).2.1) ?_
      refine yy_isub F d_M_left_56 (n := 57) rfl ?_
      exact yy_iret F hSw_5 ⟨Nat.zero_le _, Nat.zero_le _⟩ rfl d_M_left_57 (mq_i (o := none) (by unfold sp_left; rw [hE, hl]; rfl) R Pw_4 kw_4 (by decide) (fun _ => rfl))
    · refine yy_if_eq_f (tgt := 25) F d_M_left_18 (n := 21) rfl (by decide) (by decide) ?_
      refine yy_iconst (v := 2) F d_M_left_21 (n := 22) rfl rfl ?_
      refine yy_goto (tgt := 26) F d_M_left_22 (by decide) ?_
      refine ma_code F X g_M_55_M hP hSw_3 d_M_left_26 (n' := 29) rfl (fun Hw_6 locs_w_6 Pw_6 kw_6 Sw_6 => ?_)
      have kw_6 := kpm.rf.tr kw_6
      refine yy_aload_n F d_M_left_29 (n := 30) rfl 0 rfl ?_
      refine yy_get F X.1 X.2.1 g_M_55_M Pw_6.o rfl d_M_left_30 (n := 33) rfl ?_
      refine yy_if_le_f (tgt := 40) F d_M_left_33 (n := 36) rfl (by decide) (by decide) ?_
      refine yy_iconst (v := 0) F d_M_left_36 (n := 37) rfl rfl ?_
      refine yy_goto (tgt := 57) F d_M_left_37 (by decide) ?_
      exact yy_iret F Sw_6 ⟨Nat.zero_le _, Nat.zero_le _⟩ rfl d_M_left_57 (mq_i (o := some e_rt) (v := 0) (σ := σ) (by unfold sp_left; rw [hE, hl]; rfl) R Pw_6 kw_6 (by decide) (fun h => by cases h))
set_option maxRecDepth 100000 in
set_option maxHeartbeats 4000000 in
theorem c_M_bucket {l : Launch} {z : State} {a0 : Array Value} {D : va_G} {ca : kca} (X : kcx l z a0 D ca) {a n : Nat} {cd : Int32} {s : ms} {σ : ks} {t : Nat} (I : iv t σ) (R : mr s σ) {x key : Int32} : yy_M l z y_M_bucket (.code y_M_bucket b_M_bucket 5 (some .int)) ({ frames := 1, cells := 0, slots := 0, locals := 21 }) [.ref a, .int x, .int key] (mo_at D ca z a n cd s) (mqi D ca z a n [e_io, e_uo] (sp_bucket σ x key)) := by
  refine yy_body (plainFor_of_name (by decide)) (Nat.le_of_ble_eq_true rfl) (fun b H F hS hP hH hnm => ?_)
  have h10 := I.m10
  refine yy_aload_n F d_M_bucket_0 (n := 1) rfl 0 rfl ?_
  refine yy_aload_n F d_M_bucket_1 (n := 2) rfl 0 rfl ?_
  refine yy_iload_n F d_M_bucket_2 (n := 3) rfl 1 rfl ?_
  refine yy_cri (w := (ym_n (ym_inb x (k_m σ)))) F hS (c_M_isThere (x := x) X I R) (yy_Bc F X.1 q_918 q_3) (yy_invV (nA := 1) (C := R_M) (bytes := b_M_isThere) (maxL := 2) (retY := (some .boolean)) F X.1 q_915 q_917 qs_M_isThere q_918 ⟨by decide, by decide, by decide +kernel⟩ (yy_recv F.N X.2.1 (ci := 6) rfl hP.o) rfl d_M_bucket_3) d_M_bucket_3 (n := 6) rfl (by simp [Value.category]) ⟨by decide, by decide⟩ ⟨Nat.zero_le _, Nat.zero_le _⟩ ⟨rfl, rfl⟩ hP rfl (fun _ hSw_1 => ?_)
  cases hin : ym_inb x (k_m σ)
  · refine yy_if_ne_f (tgt := 13) F d_M_bucket_6 (n := 9) rfl (by decide) rfl ?_
    refine yy_iconst (v := 1) F d_M_bucket_9 (n := 10) rfl rfl ?_
    refine yy_goto (tgt := 26) F d_M_bucket_10 (by decide) ?_
    refine ma_code F X g_M_55_M hP hSw_1 d_M_bucket_26 (n' := 29) rfl (fun Hw_2 locs_w_2 Pw_2 kw_2 Sw_2 => ?_)
    have kw_2 := kpm.rf.tr kw_2
    refine yy_aload_n F d_M_bucket_29 (n := 30) rfl 0 rfl ?_
    refine yy_get F X.1 X.2.1 g_M_55_M Pw_2.o rfl d_M_bucket_30 (n := 33) rfl ?_
    refine yy_if_le_f (tgt := 38) F d_M_bucket_33 (n := 36) rfl (by decide) (by decide) ?_
    refine yy_iconst (v := 0) F d_M_bucket_36 (n := 37) rfl rfl ?_
    exact yy_iret F Sw_2 ⟨Nat.zero_le _, Nat.zero_le _⟩ rfl d_M_bucket_37 (mq_i (o := some e_io) (v := 0) (σ := σ) (by unfold sp_bucket; unfold ch_con; rw [hin]; rfl) R Pw_2 kw_2 (by decide) (fun h => by cases h))
  · refine yy_if_ne_t (tgt := 13) F d_M_bucket_6 (by decide) (by decide) ?_
    obtain ⟨hc, ex⟩ := inb_cN (by omega) hin
    rw [show (Value.int x) = Value.int (nI (cN x)) from congrArg Value.int ex]
    have hb := I.bs hc
    have h24 := I.ct hc
    refine yy_aload_n F d_M_bucket_13 (n := 14) rfl 0 rfl ?_
    refine yy_iload_n F d_M_bucket_14 (n := 15) rfl 1 rfl ?_
    refine yy_cri (w := (ym_n (k_ish (k_kd σ (cN x))))) F hSw_1 (c_M_hashes X I R hc) (yy_Bc F X.1 q_1029 q_3) (yy_invV (nA := 1) (C := R_M) (bytes := b_M_hashes) (maxL := 2) (retY := (some .boolean)) F X.1 q_1026 q_1028 qs_M_hashes q_1029 ⟨by decide, by decide, by decide +kernel⟩ (yy_recv F.N X.2.1 (ci := 6) rfl hP.o) rfl d_M_bucket_15) d_M_bucket_15 (n := 18) rfl (by simp [Value.category]) ⟨by decide, by decide⟩ ⟨Nat.zero_le _, Nat.zero_le _⟩ ⟨rfl, rfl⟩ hP rfl (fun _ hSw_3 => ?_)
    cases hh : k_ish (k_kd σ (cN x))
    · refine yy_if_eq_t (tgt := 25) F d_M_bucket_18 (by decide) rfl ?_
      refine yy_iconst (v := 2) F d_M_bucket_25 (n := 26) rfl rfl ?_
      refine ma_code F X g_M_55_M hP hSw_3 d_M_bucket_26 (n' := 29) rfl (fun Hw_4 locs_w_4 Pw_4 kw_4 Sw_4 => ?_)
      have kw_4 := kpm.rf.tr kw_4
      refine yy_aload_n F d_M_bucket_29 (n := 30) rfl 0 rfl ?_
      refine yy_get F X.1 X.2.1 g_M_55_M Pw_4.o rfl d_M_bucket_30 (n := 33) rfl ?_
      refine yy_if_le_f (tgt := 38) F d_M_bucket_33 (n := 36) rfl (by decide) (by decide) ?_
      refine yy_iconst (v := 0) F d_M_bucket_36 (n := 37) rfl rfl ?_
      exact yy_iret F Sw_4 ⟨Nat.zero_le _, Nat.zero_le _⟩ rfl d_M_bucket_37 (mq_i (o := some e_uo) (v := 0) (σ := σ) (by unfold sp_bucket; unfold ch_con; rw [hin, hh]; rfl) R Pw_4 kw_4 (by decide) (fun h => by cases h))
    · refine yy_if_eq_f (tgt := 25) F d_M_bucket_18 (n := 21) rfl (by decide) (by decide) ?_
      have h6 : ¬ k_kd σ (cN x) = 6 := fun q => by rw [q] at hh; exact absurd hh (by decide)
      have h7 : ¬ k_kd σ (cN x) = 7 := fun q => by rw [q] at hh; exact absurd hh (by decide)
      have h50 : ¬ k_kd σ (cN x) = 5 := fun q => by rw [q] at hh; exact absurd hh (by decide)
      have h5 := k_nh5 I hc h50
      have hbs := I.b0 hc h6 h7
      have hnu : ∀ i, i < s_ct (k_B σ (cN x)) → s.2 3 (24 * cN x + i) = s_nu (k_B σ (cN x)) i := fun i hi => by have h9 := R.nu I hc h5 (p := i) (by omega); rw [hbs] at h9; exact h9
      refine yy_iconst (v := 0) F d_M_bucket_21 (n := 22) rfl rfl ?_
      refine yy_goto (tgt := 26) F d_M_bucket_22 (by decide) ?_
      refine ma_code F X g_M_55_M hP hSw_3 d_M_bucket_26 (n' := 29) rfl (fun Hw_5 locs_w_5 Pw_5 kw_5 Sw_5 => ?_)
      have kw_5 := kpm.rf.tr kw_5
      refine yy_aload_n F d_M_bucket_29 (n := 30) rfl 0 rfl ?_
      refine yy_get F X.1 X.2.1 g_M_55_M Pw_5.o rfl d_M_bucket_30 (n := 33) rfl ?_
      refine yy_if_le_t (tgt := 38) F d_M_bucket_33 (by decide) (by decide) ?_
      refine yy_iconst (v := 0) F d_M_bucket_38 (n := 39) rfl rfl ?_
      refine yy_tope (y := (nI 0)) rfl ?_
      refine yy_istore_n (lv' := [(3, .int (nI 0)), (0, .ref a), (1, .int (nI (cN x))), (2, .int key)]) F d_M_bucket_39 (n := 40) rfl (by decide) rfl ?_
      refine yy_iconst (v := 0) F d_M_bucket_40 (n := 41) rfl rfl ?_
      refine yy_tope (y := (nI 0)) rfl ?_
      refine yy_istore (lv' := [(4, .int (nI 0)), (3, .int (nI 0)), (0, .ref a), (1, .int (nI (cN x))), (2, .int key)]) F d_M_bucket_41 (n := 43) rfl (by decide) rfl ?_
      have loop : ∀ (d i : Nat) (locs : List Loc), i + d = s_ct (k_B σ (cN x)) → yy_S z Hw_5 locs → yy_Y b Hw_5 locs (0, 0) 43 [(4, .int (nI i)), (3, .int (nI (ym_cnt (fun i => decide (ym_bk (s_nu (k_B σ (cN x)) i) (nI (s_ro (k_B σ (cN x)))) = ym_bk key (nI (s_ro (k_B σ (cN x)))))) i))), (0, .ref a), (1, .int (nI (cN x))), (2, .int key)] [] := by
        intro d
        induction d with
        | zero =>
          intro i locs hd S1
          refine yy_iload F d_M_bucket_43 (n := 45) rfl 0 rfl ?_
          refine yy_aload_n F d_M_bucket_45 (n := 46) rfl 2 rfl ?_
          refine yy_get F X.1 X.2.1 g_M_25_M Pw_5.o rfl d_M_bucket_46 (n := 49) rfl ?_
          refine yy_iload_n F d_M_bucket_49 (n := 50) rfl 3 rfl ?_
          refine ma_ld (j := 5) (i := (cN x)) F X Pw_5 (by decide) (show cN x < 10 by omega) d_M_bucket_50 (n' := 51) rfl ?_
          refine yy_tope (y := (nI (s_ct (k_B σ (cN x))))) (by have h9 := R.ct I hc; rw [I.b0 hc h6 h7] at h9; exact h9) ?_
          refine yy_ic_ge_t (tgt := 100) F d_M_bucket_51 (by decide) (nI_le (by omega) (by omega)) ?_
          refine yy_iload_n F d_M_bucket_100 (n := 101) rfl 1 rfl ?_
          exact yy_iret F S1 ⟨Nat.zero_le _, Nat.zero_le _⟩ rfl d_M_bucket_101 (mq_i (o := none) (by unfold sp_bucket; unfold ch_con; rw [hin, hh]; rfl) R Pw_5 kw_5 (by decide) (fun _ => by rw [show i = s_ct (k_B σ (cN x)) by omega]; rfl))
        | succ d ih =>
          intro i locs hd S1
          have hs9 : ∀ q : Bool, (fun i => decide (ym_bk (s_nu (k_B σ (cN x)) i) (nI (s_ro (k_B σ (cN x)))) = ym_bk key (nI (s_ro (k_B σ (cN x)))))) i = q → ym_cnt (fun i => decide (ym_bk (s_nu (k_B σ (cN x)) i) (nI (s_ro (k_B σ (cN x)))) = ym_bk key (nI (s_ro (k_B σ (cN x)))))) (i + 1) = ym_cnt (fun i => decide (ym_bk (s_nu (k_B σ (cN x)) i) (nI (s_ro (k_B σ (cN x)))) = ym_bk key (nI (s_ro (k_B σ (cN x)))))) i + (if q then 1 else 0) := fun q h => by rw [← h]; rfl
          refine yy_iload F d_M_bucket_43 (n := 45) rfl 0 rfl ?_
          refine yy_aload_n F d_M_bucket_45 (n := 46) rfl 2 rfl ?_
          refine yy_get F X.1 X.2.1 g_M_25_M Pw_5.o rfl d_M_bucket_46 (n := 49) rfl ?_
          refine yy_iload_n F d_M_bucket_49 (n := 50) rfl 3 rfl ?_
          refine ma_ld (j := 5) (i := (cN x)) F X Pw_5 (by decide) (show cN x < 10 by omega) d_M_bucket_50 (n' := 51) rfl ?_
          refine yy_tope (y := (nI (s_ct (k_B σ (cN x))))) (by have h9 := R.ct I hc; rw [I.b0 hc h6 h7] at h9; exact h9) ?_
          refine yy_ic_ge_f (tgt := 100) F d_M_bucket_51 (n := 54) rfl (by decide) (nI_ge (by omega) (by omega)) ?_
          refine yy_iload_n F d_M_bucket_54 (n := 55) rfl 1 rfl ?_
          refine yy_aload_n F d_M_bucket_55 (n := 56) rfl 2 rfl ?_
          refine yy_get F X.1 X.2.1 g_M_19_M Pw_5.o rfl d_M_bucket_56 (n := 59) rfl ?_
          refine yy_bipush (v := 24) F d_M_bucket_59 (n := 61) rfl rfl ?_
          refine yy_iload_n F d_M_bucket_61 (n := 62) rfl 3 rfl ?_
          refine yy_imul F d_M_bucket_62 (n := 63) rfl ?_
          refine yy_tope (y := (nI (24 * (cN x)))) (pk_mul 24 _) ?_
          refine yy_iload F d_M_bucket_63 (n := 65) rfl 0 rfl ?_
          refine yy_iadd F d_M_bucket_65 (n := 66) rfl ?_
          refine yy_tope (y := (nI (24 * (cN x) + i))) (nI_add _ _) ?_
          refine ma_ld (j := 3) (i := (24 * (cN x) + i)) F X Pw_5 (by decide) (show 24 * (cN x) + i < 240 by omega) d_M_bucket_66 (n' := 67) rfl ?_
          refine yy_tope (y := (s_nu (k_B σ (cN x)) i)) (hnu i (by omega)) ?_
          refine yy_cri (w := (m_spr (s_nu (k_B σ (cN x)) i))) F S1 (c_M_spread (x := s_nu (k_B σ (cN x)) i) X) (yy_Bc F X.1 q_1071 q_3) (yy_invS (nA := 1) (bytes := b_M_spread) (maxL := 1) (retY := (some .int)) F X.1 q_1069 q_1070 q_3 q_1071 ⟨by decide, by decide, by decide +kernel⟩ rfl d_M_bucket_67) d_M_bucket_67 (n := 70) rfl (by simp [Value.category]) ⟨by decide, by decide⟩ ⟨Nat.zero_le _, Nat.zero_le _⟩ ⟨rfl, rfl⟩ trivial rfl (fun _ hSw_6 => ?_)
          refine yy_iload_n F d_M_bucket_70 (n := 71) rfl 4 rfl ?_
          refine yy_cri (w := (m_spr key)) F hSw_6 (c_M_spread (x := key) X) (yy_Bc F X.1 q_1071 q_3) (yy_invS (nA := 1) (bytes := b_M_spread) (maxL := 1) (retY := (some .int)) F X.1 q_1069 q_1070 q_3 q_1071 ⟨by decide, by decide, by decide +kernel⟩ rfl d_M_bucket_71) d_M_bucket_71 (n := 74) rfl (by simp [Value.category]) ⟨by decide, by decide⟩ ⟨Nat.zero_le _, Nat.zero_le _⟩ ⟨rfl, rfl⟩ trivial rfl (fun _ hSw_7 => ?_)
          refine yy_ixor F d_M_bucket_74 (n := 75) rfl ?_
          refine yy_aload_n F d_M_bucket_75 (n := 76) rfl 2 rfl ?_
          refine yy_get F X.1 X.2.1 g_M_31_M Pw_5.o rfl d_M_bucket_76 (n := 79) rfl ?_
          refine yy_iload_n F d_M_bucket_79 (n := 80) rfl 3 rfl ?_
          refine ma_ld (j := 7) (i := (cN x)) F X Pw_5 (by decide) (show cN x < 10 by omega) d_M_bucket_80 (n' := 81) rfl ?_
          refine yy_tope (y := (nI (s_ro (k_B σ (cN x))))) (by have h9 := R.ro I hc; rw [I.b0 hc h6 h7] at h9; exact h9) ?_
          refine yy_iconst (v := 1) F d_M_bucket_81 (n := 82) rfl rfl ?_
          refine yy_isub F d_M_bucket_82 (n := 83) rfl ?_
          refine yy_iand F d_M_bucket_83 (n := 84) rfl ?_
          refine yy_if_ne (tgt := 91) F d_M_bucket_84 (n := 87) rfl (by decide) (fun hz => ?_) (fun hz => ?_)
          · refine yy_iconst (v := 0) F d_M_bucket_91 (n := 92) rfl rfl ?_
            refine yy_iadd F d_M_bucket_92 (n := 93) rfl ?_
            refine yy_tope (y := (nI (ym_cnt (fun i => decide (ym_bk (s_nu (k_B σ (cN x)) i) (nI (s_ro (k_B σ (cN x)))) = ym_bk key (nI (s_ro (k_B σ (cN x)))))) (i + 1)))) (by rw [hs9 false (decide_eq_false (mt (bk_same _ _ _).mpr hz))]; exact Int32.add_zero _) ?_
            refine yy_istore_n (lv' := [(3, .int (nI (ym_cnt (fun i => decide (ym_bk (s_nu (k_B σ (cN x)) i) (nI (s_ro (k_B σ (cN x)))) = ym_bk key (nI (s_ro (k_B σ (cN x)))))) (i + 1)))), (4, .int (nI i)), (0, .ref a), (1, .int (nI (cN x))), (2, .int key)]) F d_M_bucket_93 (n := 94) rfl (by decide) rfl ?_
            refine yy_iinc (v := nI (i + 1)) (lv' := [(4, .int (nI (i + 1))), (3, .int (nI (ym_cnt (fun i => decide (ym_bk (s_nu (k_B σ (cN x)) i) (nI (s_ro (k_B σ (cN x)))) = ym_bk key (nI (s_ro (k_B σ (cN x)))))) (i + 1)))), (0, .ref a), (1, .int (nI (cN x))), (2, .int key)]) F d_M_bucket_94 (n := 97) rfl 1 rfl (nI_1 _) (by decide) rfl ?_
            refine yy_goto (tgt := 43) F d_M_bucket_97 (by decide) ?_
            exact yy_sub [0, 1, 2, 3, 4] rfl (ih (i + 1) _ (by omega) hSw_7)
          · refine yy_iconst (v := 1) F d_M_bucket_87 (n := 88) rfl rfl ?_
            refine yy_goto (tgt := 92) F d_M_bucket_88 (by decide) ?_
            refine yy_iadd F d_M_bucket_92 (n := 93) rfl ?_
            refine yy_tope (y := (nI (ym_cnt (fun i => decide (ym_bk (s_nu (k_B σ (cN x)) i) (nI (s_ro (k_B σ (cN x)))) = ym_bk key (nI (s_ro (k_B σ (cN x)))))) i + 1))) (nI_1 _) ?_
            refine yy_tope (y := (nI (ym_cnt (fun i => decide (ym_bk (s_nu (k_B σ (cN x)) i) (nI (s_ro (k_B σ (cN x)))) = ym_bk key (nI (s_ro (k_B σ (cN x)))))) (i + 1)))) (by rw [hs9 true (decide_eq_true ((bk_same _ _ _).mp hz))]; rfl) ?_
            refine yy_istore_n (lv' := [(3, .int (nI (ym_cnt (fun i => decide (ym_bk (s_nu (k_B σ (cN x)) i) (nI (s_ro (k_B σ (cN x)))) = ym_bk key (nI (s_ro (k_B σ (cN x)))))) (i + 1)))), (4, .int (nI i)), (0, .ref a), (1, .int (nI (cN x))), (2, .int key)]) F d_M_bucket_93 (n := 94) rfl (by decide) rfl ?_
            refine yy_iinc (v := nI (i + 1)) (lv' := [(4, .int (nI (i + 1))), (3, .int (nI (ym_cnt (fun i => decide (ym_bk (s_nu (k_B σ (cN x)) i) (nI (s_ro (k_B σ (cN x)))) = ym_bk key (nI (s_ro (k_B σ (cN x)))))) (i + 1)))), (0, .ref a), (1, .int (nI (cN x))), (2, .int key)]) F d_M_bucket_94 (n := 97) rfl 1 rfl (nI_1 _) (by decide) rfl ?_
            refine yy_goto (tgt := 43) F d_M_bucket_97 (by decide) ?_
            exact yy_sub [0, 1, 2, 3, 4] rfl (ih (i + 1) _ (by omega) hSw_7)
      exact yy_sub [0, 1, 2, 3, 4] rfl (loop _ 0 _ (Nat.zero_add _) Sw_5)
