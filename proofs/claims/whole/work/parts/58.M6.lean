/-! PART M6: the reference's calls that change, near, same -/
theorem nar_n (b : Bool) : narrow .boolean (.int (ym_n b)) = .int (ym_n b) := by cases b <;> rfl
set_option maxRecDepth 100000 in
set_option maxHeartbeats 4000000 in
theorem c_M_near {l : Launch} {z : State} {a0 : Array Value} {D : va_G} {ca : kca} (X : kcx l z a0 D ca) {a n : Nat} {cd : Int32} {s : ms} {σ : ks} {t : Nat} (I : iv t σ) (R : mr s σ) {x key how : Int32} : yy_M l z y_M_near (.code y_M_near b_M_near 6 (some .int)) ({ frames := 2, cells := 0, slots := 0, locals := 45 }) [.ref a, .int x, .int key, .int how] (mo_at D ca z a n cd s) (mqi D ca z a n [e_io, e_uo, e_ia, e_ns] (sp_near σ x key how)) := by
  refine yy_body (plainFor_of_name (by decide)) (Nat.le_of_ble_eq_true rfl) (fun b H F hS hP hH hnm => ?_)
  have h10 := I.m10
  refine yy_aload_n F d_M_near_0 (n := 1) rfl 0 rfl ?_
  refine yy_aload_n F d_M_near_1 (n := 2) rfl 0 rfl ?_
  refine yy_iload_n F d_M_near_2 (n := 3) rfl 1 rfl ?_
  refine yy_cri (w := (ym_n (ym_inb x (k_m σ)))) F hS (c_M_isThere (x := x) X I R) (yy_Bc F X.1 q_918 q_3) (yy_invV (nA := 1) (C := R_M) (bytes := b_M_isThere) (maxL := 2) (retY := (some .boolean)) F X.1 q_915 q_917 qs_M_isThere q_918 ⟨by decide, by decide, by decide +kernel⟩ (yy_recv F.N X.2.1 (ci := 6) rfl hP.o) rfl d_M_near_3) d_M_near_3 (n := 6) rfl (by simp [Value.category]) ⟨by decide, by decide⟩ ⟨Nat.zero_le _, Nat.zero_le _⟩ ⟨rfl, rfl⟩ hP rfl (fun _ hSw_1 => ?_)
  cases hin : ym_inb x (k_m σ)
  · refine yy_if_ne_f (tgt := 13) F d_M_near_6 (n := 9) rfl (by decide) rfl ?_
    refine yy_iconst (v := 1) F d_M_near_9 (n := 10) rfl rfl ?_
    refine yy_goto (tgt := 39) F d_M_near_10 (by decide) ?_
    refine ma_code F X g_M_55_M hP hSw_1 d_M_near_39 (n' := 42) rfl (fun Hw_2 locs_w_2 Pw_2 kw_2 Sw_2 => ?_)
    have kw_2 := kpm.rf.tr kw_2
    refine yy_aload_n F d_M_near_42 (n := 43) rfl 0 rfl ?_
    refine yy_get F X.1 X.2.1 g_M_55_M Pw_2.o rfl d_M_near_43 (n := 46) rfl ?_
    refine yy_if_le_f (tgt := 51) F d_M_near_46 (n := 49) rfl (by decide) (by decide) ?_
    refine yy_iconst (v := 0) F d_M_near_49 (n := 50) rfl rfl ?_
    exact yy_iret F Sw_2 ⟨Nat.zero_le _, Nat.zero_le _⟩ rfl d_M_near_50 (mq_i (o := some e_io) (v := 0) (σ := σ) (by unfold sp_near; unfold ch_con; rw [hin]; rfl) R Pw_2 kw_2 (by decide) (fun h => by cases h))
  · refine yy_if_ne_t (tgt := 13) F d_M_near_6 (by decide) (by decide) ?_
    obtain ⟨hc, ex⟩ := inb_cN (by omega) hin
    rw [show (Value.int x) = Value.int (nI (cN x)) from congrArg Value.int ex]
    have hb := I.bs hc
    have h24 := I.ct hc
    refine yy_aload_n F d_M_near_13 (n := 14) rfl 0 rfl ?_
    refine yy_iload_n F d_M_near_14 (n := 15) rfl 1 rfl ?_
    refine yy_cri (w := (ym_n (k_iss (k_kd σ (cN x))))) F hSw_1 (c_M_isTree X I R hc) (yy_Bc F X.1 q_926 q_3) (yy_invV (nA := 1) (C := R_M) (bytes := b_M_isTree) (maxL := 2) (retY := (some .boolean)) F X.1 q_923 q_925 qs_M_isTree q_926 ⟨by decide, by decide, by decide +kernel⟩ (yy_recv F.N X.2.1 (ci := 6) rfl hP.o) rfl d_M_near_15) d_M_near_15 (n := 18) rfl (by simp [Value.category]) ⟨by decide, by decide⟩ ⟨Nat.zero_le _, Nat.zero_le _⟩ ⟨rfl, rfl⟩ hP rfl (fun _ hSw_3 => ?_)
    cases hk : k_iss (k_kd σ (cN x))
    · refine yy_if_ne_f (tgt := 25) F d_M_near_18 (n := 21) rfl (by decide) rfl ?_
      refine yy_iconst (v := 2) F d_M_near_21 (n := 22) rfl rfl ?_
      refine yy_goto (tgt := 39) F d_M_near_22 (by decide) ?_
      refine ma_code F X g_M_55_M hP hSw_3 d_M_near_39 (n' := 42) rfl (fun Hw_4 locs_w_4 Pw_4 kw_4 Sw_4 => ?_)
      have kw_4 := kpm.rf.tr kw_4
      refine yy_aload_n F d_M_near_42 (n := 43) rfl 0 rfl ?_
      refine yy_get F X.1 X.2.1 g_M_55_M Pw_4.o rfl d_M_near_43 (n := 46) rfl ?_
      refine yy_if_le_f (tgt := 51) F d_M_near_46 (n := 49) rfl (by decide) (by decide) ?_
      refine yy_iconst (v := 0) F d_M_near_49 (n := 50) rfl rfl ?_
      exact yy_iret F Sw_4 ⟨Nat.zero_le _, Nat.zero_le _⟩ rfl d_M_near_50 (mq_i (o := some e_uo) (v := 0) (σ := σ) (by unfold sp_near; unfold ch_con; rw [hin, hk]; rfl) R Pw_4 kw_4 (by decide) (fun h => by cases h))
    · refine yy_if_ne_t (tgt := 25) F d_M_near_18 (by decide) (by decide) ?_
      refine yy_iload_n F d_M_near_25 (n := 26) rfl 3 rfl ?_
      refine yy_if_lt (tgt := 34) F d_M_near_26 (n := 29) rfl (by decide) (fun h0 => ?_) (fun h0 => ?_)
      · refine yy_iconst (v := 3) F d_M_near_34 (n := 35) rfl rfl ?_
        refine yy_goto (tgt := 39) F d_M_near_35 (by decide) ?_
        refine ma_code F X g_M_55_M hP hSw_3 d_M_near_39 (n' := 42) rfl (fun Hw_5 locs_w_5 Pw_5 kw_5 Sw_5 => ?_)
        have kw_5 := kpm.rf.tr kw_5
        refine yy_aload_n F d_M_near_42 (n := 43) rfl 0 rfl ?_
        refine yy_get F X.1 X.2.1 g_M_55_M Pw_5.o rfl d_M_near_43 (n := 46) rfl ?_
        refine yy_if_le_f (tgt := 51) F d_M_near_46 (n := 49) rfl (by decide) (by decide) ?_
        refine yy_iconst (v := 0) F d_M_near_49 (n := 50) rfl rfl ?_
        exact yy_iret F Sw_5 ⟨Nat.zero_le _, Nat.zero_le _⟩ rfl d_M_near_50 (mq_i (o := some e_ia) (v := 0) (σ := σ) (by unfold sp_near; unfold ch_con; rw [hin, hk, show k_btw how 3 = false by simp [k_btw, h0]]; rfl) R Pw_5 kw_5 (by decide) (fun h => by cases h))
      · refine yy_iload_n F d_M_near_29 (n := 30) rfl 3 rfl ?_
        refine yy_iconst (v := 3) F d_M_near_30 (n := 31) rfl rfl ?_
        refine yy_ic_le (tgt := 38) F d_M_near_31 (n := 34) rfl (by decide) (fun h3 => ?_) (fun h3 => ?_)
        · have hb3 : k_btw how 3 = true := by simp [k_btw, h0, Int32.not_lt.mpr h3]
          have h6 : ¬ k_kd σ (cN x) = 6 := fun q => by rw [q] at hk; exact absurd hk (by decide)
          have h5 : ¬ k_kb σ (cN x) = 5 := fun q => absurd ((k_sbq I hc hk).symm.trans q) (by decide)
          have hend := I.end hc (k_fr_0 h6)
          obtain ⟨B, hB⟩ : ∃ B, B = k_nb σ (cN x) key how := ⟨_, rfl⟩
          have hBle : B ≤ k_size σ (cN x) := by rw [hB]; exact Nat.min_le_right _ _
          refine yy_iconst (v := 0) F d_M_near_38 (n := 39) rfl rfl ?_
          refine ma_code F X g_M_55_M hP hSw_3 d_M_near_39 (n' := 42) rfl (fun Hw_6 locs_w_6 Pw_6 kw_6 Sw_6 => ?_)
          have kw_6 := kpm.rf.tr kw_6
          refine yy_aload_n F d_M_near_42 (n := 43) rfl 0 rfl ?_
          refine yy_get F X.1 X.2.1 g_M_55_M Pw_6.o rfl d_M_near_43 (n := 46) rfl ?_
          refine yy_if_le_t (tgt := 51) F d_M_near_46 (by decide) (by decide) ?_
          refine yy_iconst (v := (-1)) F d_M_near_51 (n := 52) rfl rfl ?_
          refine yy_tope (y := (m_nf how B 0)) ((m_nf_0 how B).symm) ?_
          refine yy_istore (lv' := [(4, .int (m_nf how B 0)), (0, .ref a), (1, .int (nI (cN x))), (2, .int key), (3, .int how)]) F d_M_near_52 (n := 54) rfl (by decide) rfl ?_
          refine yy_iconst (v := 0) F d_M_near_54 (n := 55) rfl rfl ?_
          refine yy_tope (y := (nI 0)) rfl ?_
          refine yy_istore (lv' := [(5, .int (nI 0)), (4, .int (m_nf how B 0)), (0, .ref a), (1, .int (nI (cN x))), (2, .int key), (3, .int how)]) F d_M_near_55 (n := 57) rfl (by decide) rfl ?_
          have loop : ∀ (d p : Nat) (locs : List Loc), p + d = k_size σ (cN x) → yy_S z Hw_6 locs → yy_Y b Hw_6 locs (0, 0) 57 [(5, .int (nI p)), (4, .int (m_nf how B p)), (0, .ref a), (1, .int (nI (cN x))), (2, .int key), (3, .int how)] [] := by
            intro d
            induction d with
            | zero =>
              intro p locs hd S1
              have hp9 : p = k_size σ (cN x) := by omega
              subst hp9
              refine yy_iload F d_M_near_57 (n := 59) rfl 0 rfl ?_
              refine yy_aload_n F d_M_near_59 (n := 60) rfl 2 rfl ?_
              refine yy_iload_n F d_M_near_60 (n := 61) rfl 3 rfl ?_
              refine yy_cri (w := (nI (k_size σ (cN x)))) F S1 (c_M_sizeOf X I R hc) (yy_Bc F X.1 q_934 q_3) (yy_invV (nA := 1) (C := R_M) (bytes := b_M_sizeOf) (maxL := 4) (retY := (some .int)) F X.1 q_931 q_933 qs_M_sizeOf q_934 ⟨by decide, by decide, by decide +kernel⟩ (yy_recv F.N X.2.1 (ci := 6) rfl Pw_6.o) rfl d_M_near_61) d_M_near_61 (n := 64) rfl (by simp [Value.category]) ⟨by decide, by decide⟩ ⟨Nat.zero_le _, Nat.zero_le _⟩ ⟨rfl, rfl⟩ Pw_6 rfl (fun _ hSw_7 => ?_)
              refine yy_ic_ge_t (tgt := 108) F d_M_near_64 (by decide) (nI_le (by omega) (by omega)) ?_
              rw [hB]
              refine yy_iload F d_M_near_108 (n := 110) rfl 1 rfl ?_
              refine yy_iconst (v := (-1)) F d_M_near_110 (n := 111) rfl rfl ?_
              rcases near_end (σ := σ) (c := cN x) (key := key) hb3 (by omega) with ⟨e1, e2⟩ | ⟨q, hq, e1, e2⟩
              · refine yy_ic_ne_f (tgt := 122) F d_M_near_111 (n := 114) rfl (by decide) e1 ?_
                refine yy_aload_n F d_M_near_114 (n := 115) rfl 2 rfl ?_
                refine yy_iconst (v := 4) F d_M_near_115 (n := 116) rfl rfl ?_
                refine yy_ci F hSw_7 (c_M_fail (e := 4) X) (yy_Bc F X.1 q_1049 q_3) (yy_invV (nA := 1) (C := R_M) (bytes := b_M_fail) (maxL := 2) (retY := (some .int)) F X.1 q_1046 q_1048 qs_M_fail q_1049 ⟨by decide, by decide, by decide +kernel⟩ (yy_recv F.N X.2.1 (ci := 6) rfl Pw_6.o) rfl d_M_near_116) d_M_near_116 (n := 119) rfl (by simp [Value.category]) ⟨by decide, by decide⟩ ⟨Nat.zero_le _, Nat.zero_le _⟩ ⟨rfl, rfl⟩ Pw_6 (fun r_w_8 Hw_8 locs_w_8 qw_8 Sw_8 => ?_)
                obtain ⟨e_r, Pf, kf⟩ := qw_8
                have kf := kw_6.tr kf
                refine yy_goto (tgt := 134) F d_M_near_119 (by decide) ?_
                exact yy_iret F Sw_8 ⟨Nat.zero_le _, Nat.zero_le _⟩ rfl d_M_near_134 (mq_i (o := some e_ns) (v := 0) (σ := σ) (by unfold sp_near; unfold ch_con; rw [hin, hk, hb3, e2]; rfl) R Pf kf (by decide) (fun h => by cases h))
              · have hq3 : ym_inb (k_nr σ (cN x) key how) (k_size σ (cN x)) = true := by rw [e2]; exact ym_inb_t (ym_in.of hq (by omega))
                have hq4 : cN (k_nr σ (cN x) key how) = q := by rw [e2]; exact nI_clamp (by omega)
                refine yy_ic_ne_t (tgt := 122) F d_M_near_111 (by decide) (by rw [e1]; exact ym_nm1 (by omega)) ?_
                refine yy_aload_n F d_M_near_122 (n := 123) rfl 2 rfl ?_
                refine yy_get F X.1 X.2.1 g_M_19_M Pw_6.o rfl d_M_near_123 (n := 126) rfl ?_
                refine yy_aload_n F d_M_near_126 (n := 127) rfl 2 rfl ?_
                refine yy_iload_n F d_M_near_127 (n := 128) rfl 3 rfl ?_
                refine yy_iload F d_M_near_128 (n := 130) rfl 1 rfl ?_
                refine yy_tope (y := (nI q)) e1 ?_
                refine yy_cri (w := (nI (24 * k_bs σ (cN x) + (k_start σ (cN x) + q)))) F hSw_7 (c_M_at (x := nI q) (q := k_start σ (cN x) + q) X I R hc (nI_add _ _)) (yy_Bc F X.1 q_962 q_3) (yy_invV (nA := 2) (C := R_M) (bytes := b_M_at) (maxL := 3) (retY := (some .int)) F X.1 q_959 q_961 qs_M_at q_962 ⟨by decide, by decide, by decide +kernel⟩ (yy_recv F.N X.2.1 (ci := 6) rfl Pw_6.o) rfl d_M_near_130) d_M_near_130 (n := 133) rfl (by simp [Value.category]) ⟨by decide, by decide⟩ ⟨Nat.zero_le _, Nat.zero_le _⟩ ⟨rfl, rfl⟩ Pw_6 rfl (fun _ hSw_9 => ?_)
                refine ma_ld (j := 3) (i := (24 * k_bs σ (cN x) + (k_start σ (cN x) + q))) F X Pw_6 (by decide) (show 24 * k_bs σ (cN x) + (k_start σ (cN x) + q) < 240 by omega) d_M_near_133 (n' := 134) rfl ?_
                refine yy_tope (y := (s_nu (k_B σ (cN x)) (k_start σ (cN x) + q))) (R.nu I hc h5 (by omega)) ?_
                exact yy_iret F hSw_9 ⟨Nat.zero_le _, Nat.zero_le _⟩ rfl d_M_near_134 (mq_i (o := none) (v := s_nu (k_B σ (cN x)) (k_start σ (cN x) + q)) (σ := σ) (by unfold sp_near; unfold ch_con; rw [hin, hk, hb3, hq3]; rw [← hq4]; rfl) R Pw_6 kw_6 (by decide) (fun _ => rfl))
            | succ d ih =>
              intro p locs hd S1
              have hft := near_fit (key := key) (how := how) (p := p) I hc hk hb3 (by omega)
              rw [← hB] at hft
              refine yy_iload F d_M_near_57 (n := 59) rfl 0 rfl ?_
              refine yy_aload_n F d_M_near_59 (n := 60) rfl 2 rfl ?_
              refine yy_iload_n F d_M_near_60 (n := 61) rfl 3 rfl ?_
              refine yy_cri (w := (nI (k_size σ (cN x)))) F S1 (c_M_sizeOf X I R hc) (yy_Bc F X.1 q_934 q_3) (yy_invV (nA := 1) (C := R_M) (bytes := b_M_sizeOf) (maxL := 4) (retY := (some .int)) F X.1 q_931 q_933 qs_M_sizeOf q_934 ⟨by decide, by decide, by decide +kernel⟩ (yy_recv F.N X.2.1 (ci := 6) rfl Pw_6.o) rfl d_M_near_61) d_M_near_61 (n := 64) rfl (by simp [Value.category]) ⟨by decide, by decide⟩ ⟨Nat.zero_le _, Nat.zero_le _⟩ ⟨rfl, rfl⟩ Pw_6 rfl (fun _ hSw_10 => ?_)
              refine yy_ic_ge_f (tgt := 108) F d_M_near_64 (n := 67) rfl (by decide) (nI_ge (by omega) (by omega)) ?_
              refine yy_aload_n F d_M_near_67 (n := 68) rfl 2 rfl ?_
              refine yy_get F X.1 X.2.1 g_M_19_M Pw_6.o rfl d_M_near_68 (n := 71) rfl ?_
              refine yy_aload_n F d_M_near_71 (n := 72) rfl 2 rfl ?_
              refine yy_iload_n F d_M_near_72 (n := 73) rfl 3 rfl ?_
              refine yy_iload F d_M_near_73 (n := 75) rfl 0 rfl ?_
              refine yy_cri (w := (nI (24 * k_bs σ (cN x) + (k_start σ (cN x) + p)))) F hSw_10 (c_M_at (x := nI p) (q := k_start σ (cN x) + p) X I R hc (nI_add _ _)) (yy_Bc F X.1 q_962 q_3) (yy_invV (nA := 2) (C := R_M) (bytes := b_M_at) (maxL := 3) (retY := (some .int)) F X.1 q_959 q_961 qs_M_at q_962 ⟨by decide, by decide, by decide +kernel⟩ (yy_recv F.N X.2.1 (ci := 6) rfl Pw_6.o) rfl d_M_near_75) d_M_near_75 (n := 78) rfl (by simp [Value.category]) ⟨by decide, by decide⟩ ⟨Nat.zero_le _, Nat.zero_le _⟩ ⟨rfl, rfl⟩ Pw_6 rfl (fun _ hSw_11 => ?_)
              refine ma_ld (j := 3) (i := (24 * k_bs σ (cN x) + (k_start σ (cN x) + p))) F X Pw_6 (by decide) (show 24 * k_bs σ (cN x) + (k_start σ (cN x) + p) < 240 by omega) d_M_near_78 (n' := 79) rfl ?_
              refine yy_tope (y := (s_nu (k_B σ (cN x)) (k_start σ (cN x) + p))) (R.nu I hc h5 (by omega)) ?_
              refine yy_iload_n F d_M_near_79 (n := 80) rfl 4 rfl ?_
              refine yy_iload_n F d_M_near_80 (n := 81) rfl 5 rfl ?_
              refine yy_cri (w := (ym_n (m_fit (s_nu (k_B σ (cN x)) (k_start σ (cN x) + p)) key how))) F hSw_11 (c_M_fits (x := s_nu (k_B σ (cN x)) (k_start σ (cN x) + p)) (y := key) (how := how) X) (yy_Bc F X.1 q_1060 q_3) (yy_invS (nA := 3) (bytes := b_M_fits) (maxL := 3) (retY := (some .boolean)) F X.1 q_1058 q_1059 q_3 q_1060 ⟨by decide, by decide, by decide +kernel⟩ rfl d_M_near_81) d_M_near_81 (n := 84) rfl (by simp [Value.category]) ⟨by decide, by decide⟩ ⟨Nat.zero_le _, Nat.zero_le _⟩ ⟨rfl, rfl⟩ trivial rfl (fun _ hSw_12 => ?_)
              cases hfit : m_fit (s_nu (k_B σ (cN x)) (k_start σ (cN x) + p)) key how
              · refine yy_if_eq_t (tgt := 102) F d_M_near_84 (by decide) rfl ?_
                have hz : m_nf how B (p + 1) = m_nf how B p := m_nf_k (fun q => by rw [hft.mpr q] at hfit; cases hfit)
                refine yy_iinc (v := nI (p + 1)) (lv' := [(5, .int (nI (p + 1))), (4, .int (m_nf how B p)), (0, .ref a), (1, .int (nI (cN x))), (2, .int key), (3, .int how)]) F d_M_near_102 (n := 105) rfl 0 rfl (nI_1 _) (by decide) rfl ?_
                refine yy_goto (tgt := 57) F d_M_near_105 (by decide) ?_
                have h9 := ih (p + 1) _ (by omega) hSw_12
                rw [hz] at h9
                exact yy_sub [0, 1, 2, 3, 4, 5] rfl h9
              · refine yy_if_eq_f (tgt := 102) F d_M_near_84 (n := 87) rfl (by decide) (by decide) ?_
                have hf9 := hft.mp hfit
                refine yy_iload F d_M_near_87 (n := 89) rfl 1 rfl ?_
                refine yy_iconst (v := (-1)) F d_M_near_89 (n := 90) rfl rfl ?_
                refine yy_ic_eq (tgt := 98) F d_M_near_90 (n := 93) rfl (by decide) (fun h8 => ?_) (fun h8 => ?_)
                · have hz : m_nf how B (p + 1) = nI p := m_nf_y (by omega) (by omega) hf9 (Or.inl h8)
                  refine yy_iload F d_M_near_98 (n := 100) rfl 0 rfl ?_
                  refine yy_istore (lv' := [(4, .int (nI p)), (5, .int (nI p)), (0, .ref a), (1, .int (nI (cN x))), (2, .int key), (3, .int how)]) F d_M_near_100 (n := 102) rfl (by decide) rfl ?_
                  refine yy_iinc (v := nI (p + 1)) (lv' := [(5, .int (nI (p + 1))), (4, .int (nI p)), (0, .ref a), (1, .int (nI (cN x))), (2, .int key), (3, .int how)]) F d_M_near_102 (n := 105) rfl 1 rfl (nI_1 _) (by decide) rfl ?_
                  refine yy_goto (tgt := 57) F d_M_near_105 (by decide) ?_
                  have h9 := ih (p + 1) _ (by omega) hSw_12
                  rw [hz] at h9
                  exact yy_sub [0, 1, 2, 3, 4, 5] rfl h9
                · refine yy_iload_n F d_M_near_93 (n := 94) rfl 5 rfl ?_
                  refine yy_iconst (v := 2) F d_M_near_94 (n := 95) rfl rfl ?_
                  refine yy_ic_ge (tgt := 102) F d_M_near_95 (n := 98) rfl (by decide) (fun h9 => ?_) (fun h9 => ?_)
                  · have hz : m_nf how B (p + 1) = m_nf how B p := m_nf_o (Int32.not_lt.mpr h9) h8
                    refine yy_iinc (v := nI (p + 1)) (lv' := [(5, .int (nI (p + 1))), (4, .int (m_nf how B p)), (0, .ref a), (1, .int (nI (cN x))), (2, .int key), (3, .int how)]) F d_M_near_102 (n := 105) rfl 0 rfl (nI_1 _) (by decide) rfl ?_
                    refine yy_goto (tgt := 57) F d_M_near_105 (by decide) ?_
                    have h9 := ih (p + 1) _ (by omega) hSw_12
                    rw [hz] at h9
                    exact yy_sub [0, 1, 2, 3, 4, 5] rfl h9
                  · have hz : m_nf how B (p + 1) = nI p := m_nf_y (by omega) (by omega) hf9 (Or.inr (Int32.not_le.mp h9))
                    refine yy_iload F d_M_near_98 (n := 100) rfl 0 rfl ?_
                    refine yy_istore (lv' := [(4, .int (nI p)), (5, .int (nI p)), (0, .ref a), (1, .int (nI (cN x))), (2, .int key), (3, .int how)]) F d_M_near_100 (n := 102) rfl (by decide) rfl ?_
                    refine yy_iinc (v := nI (p + 1)) (lv' := [(5, .int (nI (p + 1))), (4, .int (nI p)), (0, .ref a), (1, .int (nI (cN x))), (2, .int key), (3, .int how)]) F d_M_near_102 (n := 105) rfl 1 rfl (nI_1 _) (by decide) rfl ?_
                    refine yy_goto (tgt := 57) F d_M_near_105 (by decide) ?_
                    have h9 := ih (p + 1) _ (by omega) hSw_12
                    rw [hz] at h9
                    exact yy_sub [0, 1, 2, 3, 4, 5] rfl h9
          exact yy_sub [0, 1, 2, 3, 4, 5] rfl (loop _ 0 _ (Nat.zero_add _) Sw_6)
        · refine yy_iconst (v := 3) F d_M_near_34 (n := 35) rfl rfl ?_
          refine yy_goto (tgt := 39) F d_M_near_35 (by decide) ?_
          refine ma_code F X g_M_55_M hP hSw_3 d_M_near_39 (n' := 42) rfl (fun Hw_13 locs_w_13 Pw_13 kw_13 Sw_13 => ?_)
          have kw_13 := kpm.rf.tr kw_13
          refine yy_aload_n F d_M_near_42 (n := 43) rfl 0 rfl ?_
          refine yy_get F X.1 X.2.1 g_M_55_M Pw_13.o rfl d_M_near_43 (n := 46) rfl ?_
          refine yy_if_le_f (tgt := 51) F d_M_near_46 (n := 49) rfl (by decide) (by decide) ?_
          refine yy_iconst (v := 0) F d_M_near_49 (n := 50) rfl rfl ?_
          exact yy_iret F Sw_13 ⟨Nat.zero_le _, Nat.zero_le _⟩ rfl d_M_near_50 (mq_i (o := some e_ia) (v := 0) (σ := σ) (by unfold sp_near; unfold ch_con; rw [hin, hk, show k_btw how 3 = false by simp [k_btw, Int32.not_le.mp h3]]; rfl) R Pw_13 kw_13 (by decide) (fun h => by cases h))
set_option maxRecDepth 100000 in
set_option maxHeartbeats 4000000 in
theorem c_M_same {l : Launch} {z : State} {a0 : Array Value} {D : va_G} {ca : kca} (X : kcx l z a0 D ca) {a n : Nat} {cd : Int32} {s : ms} {σ : ks} {t : Nat} (I : iv t σ) (R : mr s σ) {x y : Int32} : yy_M l z y_M_same (.code y_M_same b_M_same 8 (some .boolean)) ({ frames := 2, cells := 0, slots := 0, locals := 46 }) [.ref a, .int x, .int y] (mo_at D ca z a n cd s) (mqi D ca z a n [e_io, e_rt] (sp_same σ x y)) := by
  refine yy_body (plainFor_of_name (by decide)) (Nat.le_of_ble_eq_true rfl) (fun b H F hS hP hH hnm => ?_)
  have h10 := I.m10
  refine yy_aload_n F d_M_same_0 (n := 1) rfl 0 rfl ?_
  refine yy_aload_n F d_M_same_1 (n := 2) rfl 0 rfl ?_
  refine yy_iload_n F d_M_same_2 (n := 3) rfl 1 rfl ?_
  refine yy_cri (w := (ym_n (ym_inb x (k_m σ)))) F hS (c_M_isThere (x := x) X I R) (yy_Bc F X.1 q_918 q_3) (yy_invV (nA := 1) (C := R_M) (bytes := b_M_isThere) (maxL := 2) (retY := (some .boolean)) F X.1 q_915 q_917 qs_M_isThere q_918 ⟨by decide, by decide, by decide +kernel⟩ (yy_recv F.N X.2.1 (ci := 6) rfl hP.o) rfl d_M_same_3) d_M_same_3 (n := 6) rfl (by simp [Value.category]) ⟨by decide, by decide⟩ ⟨Nat.zero_le _, Nat.zero_le _⟩ ⟨rfl, rfl⟩ hP rfl (fun _ hSw_1 => ?_)
  cases hin : ym_inb x (k_m σ)
  · refine yy_if_eq_t (tgt := 17) F d_M_same_6 (by decide) rfl ?_
    refine yy_iconst (v := 1) F d_M_same_17 (n := 18) rfl rfl ?_
    refine yy_goto (tgt := 42) F d_M_same_18 (by decide) ?_
    refine ma_code F X g_M_55_M hP hSw_1 d_M_same_42 (n' := 45) rfl (fun Hw_2 locs_w_2 Pw_2 kw_2 Sw_2 => ?_)
    have kw_2 := kpm.rf.tr kw_2
    refine yy_aload_n F d_M_same_45 (n := 46) rfl 0 rfl ?_
    refine yy_get F X.1 X.2.1 g_M_55_M Pw_2.o rfl d_M_same_46 (n := 49) rfl ?_
    refine yy_if_le_f (tgt := 54) F d_M_same_49 (n := 52) rfl (by decide) (by decide) ?_
    refine yy_iconst (v := 0) F d_M_same_52 (n := 53) rfl rfl ?_
    exact yy_zret F Sw_2 ⟨Nat.zero_le _, Nat.zero_le _⟩ rfl rfl d_M_same_53 (mq_i (o := some e_io) (v := 0) (σ := σ) (by unfold sp_same; unfold ch_con; rw [hin]; rfl) R Pw_2 kw_2 (by decide) (fun h => by cases h))
  · refine yy_if_eq_f (tgt := 17) F d_M_same_6 (n := 9) rfl (by decide) (by decide) ?_
    obtain ⟨hc, ex⟩ := inb_cN (by omega) hin
    refine yy_aload_n F d_M_same_9 (n := 10) rfl 0 rfl ?_
    refine yy_iload_n F d_M_same_10 (n := 11) rfl 2 rfl ?_
    refine yy_cri (w := (ym_n (ym_inb y (k_m σ)))) F hSw_1 (c_M_isThere (x := y) X I R) (yy_Bc F X.1 q_918 q_3) (yy_invV (nA := 1) (C := R_M) (bytes := b_M_isThere) (maxL := 2) (retY := (some .boolean)) F X.1 q_915 q_917 qs_M_isThere q_918 ⟨by decide, by decide, by decide +kernel⟩ (yy_recv F.N X.2.1 (ci := 6) rfl hP.o) rfl d_M_same_11) d_M_same_11 (n := 14) rfl (by simp [Value.category]) ⟨by decide, by decide⟩ ⟨Nat.zero_le _, Nat.zero_le _⟩ ⟨rfl, rfl⟩ hP rfl (fun _ hSw_3 => ?_)
    cases hin2 : ym_inb y (k_m σ)
    · refine yy_if_ne_f (tgt := 21) F d_M_same_14 (n := 17) rfl (by decide) rfl ?_
      refine yy_iconst (v := 1) F d_M_same_17 (n := 18) rfl rfl ?_
      refine yy_goto (tgt := 42) F d_M_same_18 (by decide) ?_
      refine ma_code F X g_M_55_M hP hSw_3 d_M_same_42 (n' := 45) rfl (fun Hw_4 locs_w_4 Pw_4 kw_4 Sw_4 => ?_)
      have kw_4 := kpm.rf.tr kw_4
      refine yy_aload_n F d_M_same_45 (n := 46) rfl 0 rfl ?_
      refine yy_get F X.1 X.2.1 g_M_55_M Pw_4.o rfl d_M_same_46 (n := 49) rfl ?_
      refine yy_if_le_f (tgt := 54) F d_M_same_49 (n := 52) rfl (by decide) (by decide) ?_
      refine yy_iconst (v := 0) F d_M_same_52 (n := 53) rfl rfl ?_
      exact yy_zret F Sw_4 ⟨Nat.zero_le _, Nat.zero_le _⟩ rfl rfl d_M_same_53 (mq_i (o := some e_io) (v := 0) (σ := σ) (by unfold sp_same; unfold ch_con; rw [hin, hin2]; rfl) R Pw_4 kw_4 (by decide) (fun h => by cases h))
    · refine yy_if_ne_t (tgt := 21) F d_M_same_14 (by decide) (by decide) ?_
      obtain ⟨hcy, exy⟩ := inb_cN (by omega) hin2
      rw [show (Value.int x) = Value.int (nI (cN x)) from congrArg Value.int ex]
      rw [show (Value.int y) = Value.int (nI (cN y)) from congrArg Value.int exy]
      have hb := I.bs hc
      have h24 := I.ct hc
      have hby := I.bs hcy
      have h24y := I.ct hcy
      refine yy_aload_n F d_M_same_21 (n := 22) rfl 0 rfl ?_
      refine yy_iload_n F d_M_same_22 (n := 23) rfl 1 rfl ?_
      refine yy_cri (w := (ym_n (k_stale σ (cN x)))) F hSw_3 (c_M_isStale X I R hc) (yy_Bc F X.1 q_930 q_3) (yy_invV (nA := 1) (C := R_M) (bytes := b_M_isStale) (maxL := 4) (retY := (some .boolean)) F X.1 q_927 q_929 qs_M_isStale q_930 ⟨by decide, by decide, by decide +kernel⟩ (yy_recv F.N X.2.1 (ci := 6) rfl hP.o) rfl d_M_same_23) d_M_same_23 (n := 26) rfl (by simp [Value.category]) ⟨by decide, by decide⟩ ⟨Nat.zero_le _, Nat.zero_le _⟩ ⟨rfl, rfl⟩ hP rfl (fun _ hSw_5 => ?_)
      cases hs : k_stale σ (cN x)
      · refine yy_if_ne_f (tgt := 37) F d_M_same_26 (n := 29) rfl (by decide) rfl ?_
        refine yy_aload_n F d_M_same_29 (n := 30) rfl 0 rfl ?_
        refine yy_iload_n F d_M_same_30 (n := 31) rfl 2 rfl ?_
        refine yy_cri (w := (ym_n (k_stale σ (cN y)))) F hSw_5 (c_M_isStale X I R hcy) (yy_Bc F X.1 q_930 q_3) (yy_invV (nA := 1) (C := R_M) (bytes := b_M_isStale) (maxL := 4) (retY := (some .boolean)) F X.1 q_927 q_929 qs_M_isStale q_930 ⟨by decide, by decide, by decide +kernel⟩ (yy_recv F.N X.2.1 (ci := 6) rfl hP.o) rfl d_M_same_31) d_M_same_31 (n := 34) rfl (by simp [Value.category]) ⟨by decide, by decide⟩ ⟨Nat.zero_le _, Nat.zero_le _⟩ ⟨rfl, rfl⟩ hP rfl (fun _ hSw_6 => ?_)
        cases hs2 : k_stale σ (cN y)
        · refine yy_if_eq_t (tgt := 41) F d_M_same_34 (by decide) rfl ?_
          refine yy_iconst (v := 0) F d_M_same_41 (n := 42) rfl rfl ?_
          refine ma_code F X g_M_55_M hP hSw_6 d_M_same_42 (n' := 45) rfl (fun Hw_7 locs_w_7 Pw_7 kw_7 Sw_7 => ?_)
          have kw_7 := kpm.rf.tr kw_7
          refine yy_aload_n F d_M_same_45 (n := 46) rfl 0 rfl ?_
          refine yy_get F X.1 X.2.1 g_M_55_M Pw_7.o rfl d_M_same_46 (n := 49) rfl ?_
          refine yy_if_le_t (tgt := 54) F d_M_same_49 (by decide) (by decide) ?_
          refine yy_aload_n F d_M_same_54 (n := 55) rfl 0 rfl ?_
          refine yy_iload_n F d_M_same_55 (n := 56) rfl 1 rfl ?_
          have hend := I.end hc (k_fr_of hs)
          have hendy := I.end hcy (k_fr_of hs2)
          refine yy_cri (w := (ym_n (k_isl (k_kd σ (cN x))))) F Sw_7 (c_M_isList X I R hc) (yy_Bc F X.1 q_922 q_3) (yy_invV (nA := 1) (C := R_M) (bytes := b_M_isList) (maxL := 2) (retY := (some .boolean)) F X.1 q_919 q_921 qs_M_isList q_922 ⟨by decide, by decide, by decide +kernel⟩ (yy_recv F.N X.2.1 (ci := 6) rfl Pw_7.o) rfl d_M_same_56) d_M_same_56 (n := 59) rfl (by simp [Value.category]) ⟨by decide, by decide⟩ ⟨Nat.zero_le _, Nat.zero_le _⟩ ⟨rfl, rfl⟩ Pw_7 rfl (fun _ hSw_8 => ?_)
          cases hl : k_isl (k_kd σ (cN x))
          · refine yy_if_eq_t (tgt := 74) F d_M_same_59 (by decide) rfl ?_
            have hsam : k_sam σ (cN x) (cN y) = (k_ism (k_kd σ (cN x)) && k_ism (k_kd σ (cN y)) && k_eqp σ (cN x) (cN y)) := if_neg (by rw [hl, Bool.false_and]; decide)
            refine yy_iconst (v := 0) F d_M_same_74 (n := 75) rfl rfl ?_
            refine yy_istore_n (lv' := [(3, .int 0), (0, .ref a), (1, .int (nI (cN x))), (2, .int (nI (cN y)))]) F d_M_same_75 (n := 76) rfl (by decide) rfl ?_
            refine yy_iload_n F d_M_same_76 (n := 77) rfl 0 rfl ?_
            refine yy_if_ne_f (tgt := 96) F d_M_same_77 (n := 80) rfl (by decide) (by decide) ?_
            refine yy_aload_n F d_M_same_80 (n := 81) rfl 1 rfl ?_
            refine yy_iload_n F d_M_same_81 (n := 82) rfl 2 rfl ?_
            refine yy_cri (w := (ym_n (k_ism (k_kd σ (cN x))))) F hSw_8 (c_M_isMap X I R hc) (yy_Bc F X.1 q_1017 q_3) (yy_invV (nA := 1) (C := R_M) (bytes := b_M_isMap) (maxL := 2) (retY := (some .boolean)) F X.1 q_1014 q_1016 qs_M_isMap q_1017 ⟨by decide, by decide, by decide +kernel⟩ (yy_recv F.N X.2.1 (ci := 6) rfl Pw_7.o) rfl d_M_same_82) d_M_same_82 (n := 85) rfl (by simp [Value.category]) ⟨by decide, by decide⟩ ⟨Nat.zero_le _, Nat.zero_le _⟩ ⟨rfl, rfl⟩ Pw_7 rfl (fun _ hSw_9 => ?_)
            cases hm : k_ism (k_kd σ (cN x))
            · refine yy_if_eq_t (tgt := 109) F d_M_same_85 (by decide) rfl ?_
              refine yy_iconst (v := 0) F d_M_same_109 (n := 110) rfl rfl ?_
              have hr9 : sp_same σ x y = (none, ym_n (k_sam σ (cN x) (cN y)), σ) := by unfold sp_same; unfold ch_con; rw [hin, hin2, hs, hs2]; rfl
              exact yy_zret F hSw_9 ⟨Nat.zero_le _, Nat.zero_le _⟩ rfl rfl d_M_same_110 (mq_i (o := none) hr9 R Pw_7 kw_7 (by decide) (fun _ => by rw [hsam, hm]; rfl))
            · refine yy_if_eq_f (tgt := 109) F d_M_same_85 (n := 88) rfl (by decide) (by decide) ?_
              refine yy_aload_n F d_M_same_88 (n := 89) rfl 1 rfl ?_
              refine yy_iload_n F d_M_same_89 (n := 90) rfl 3 rfl ?_
              refine yy_cri (w := (ym_n (k_ism (k_kd σ (cN y))))) F hSw_9 (c_M_isMap X I R hcy) (yy_Bc F X.1 q_1017 q_3) (yy_invV (nA := 1) (C := R_M) (bytes := b_M_isMap) (maxL := 2) (retY := (some .boolean)) F X.1 q_1014 q_1016 qs_M_isMap q_1017 ⟨by decide, by decide, by decide +kernel⟩ (yy_recv F.N X.2.1 (ci := 6) rfl Pw_7.o) rfl d_M_same_90) d_M_same_90 (n := 93) rfl (by simp [Value.category]) ⟨by decide, by decide⟩ ⟨Nat.zero_le _, Nat.zero_le _⟩ ⟨rfl, rfl⟩ Pw_7 rfl (fun _ hSw_10 => ?_)
              cases hm2 : k_ism (k_kd σ (cN y))
              · refine yy_if_eq_t (tgt := 109) F d_M_same_93 (by decide) rfl ?_
                refine yy_iconst (v := 0) F d_M_same_109 (n := 110) rfl rfl ?_
                have hr9 : sp_same σ x y = (none, ym_n (k_sam σ (cN x) (cN y)), σ) := by unfold sp_same; unfold ch_con; rw [hin, hin2, hs, hs2]; rfl
                exact yy_zret F hSw_10 ⟨Nat.zero_le _, Nat.zero_le _⟩ rfl rfl d_M_same_110 (mq_i (o := none) hr9 R Pw_7 kw_7 (by decide) (fun _ => by rw [hsam, hm, hm2]; rfl))
              · refine yy_if_eq_f (tgt := 109) F d_M_same_93 (n := 96) rfl (by decide) (by decide) ?_
                have hv := I.mapb hc hm
                have hvy := I.mapb hcy hm2
                have h5 : ¬ k_kb σ (cN x) = 5 := fun q => by rw [q] at hv; exact absurd hv (by decide)
                have h5y : ¬ k_kb σ (cN y) = 5 := fun q => by rw [q] at hvy; exact absurd hvy (by decide)
                have h6y := k_ism6 hm2
                refine yy_aload_n F d_M_same_96 (n := 97) rfl 1 rfl ?_
                refine yy_iload_n F d_M_same_97 (n := 98) rfl 2 rfl ?_
                refine yy_cri (w := (nI (k_size σ (cN x)))) F hSw_10 (c_M_sizeOf X I R hc) (yy_Bc F X.1 q_934 q_3) (yy_invV (nA := 1) (C := R_M) (bytes := b_M_sizeOf) (maxL := 4) (retY := (some .int)) F X.1 q_931 q_933 qs_M_sizeOf q_934 ⟨by decide, by decide, by decide +kernel⟩ (yy_recv F.N X.2.1 (ci := 6) rfl Pw_7.o) rfl d_M_same_98) d_M_same_98 (n := 101) rfl (by simp [Value.category]) ⟨by decide, by decide⟩ ⟨Nat.zero_le _, Nat.zero_le _⟩ ⟨rfl, rfl⟩ Pw_7 rfl (fun _ hSw_11 => ?_)
                refine yy_aload_n F d_M_same_101 (n := 102) rfl 1 rfl ?_
                refine yy_iload_n F d_M_same_102 (n := 103) rfl 3 rfl ?_
                refine yy_cri (w := (nI (k_size σ (cN y)))) F hSw_11 (c_M_sizeOf X I R hcy) (yy_Bc F X.1 q_934 q_3) (yy_invV (nA := 1) (C := R_M) (bytes := b_M_sizeOf) (maxL := 4) (retY := (some .int)) F X.1 q_931 q_933 qs_M_sizeOf q_934 ⟨by decide, by decide, by decide +kernel⟩ (yy_recv F.N X.2.1 (ci := 6) rfl Pw_7.o) rfl d_M_same_103) d_M_same_103 (n := 106) rfl (by simp [Value.category]) ⟨by decide, by decide⟩ ⟨Nat.zero_le _, Nat.zero_le _⟩ ⟨rfl, rfl⟩ Pw_7 rfl (fun _ hSw_12 => ?_)
                refine yy_ic_eq (tgt := 111) F d_M_same_106 (n := 109) rfl (by decide) (fun hz => ?_) (fun hz => ?_)
                · have hz2 : k_size σ (cN x) = k_size σ (cN y) := (nI_eq (by omega) (by omega)).mp hz
                  refine yy_iconst (v := 1) F d_M_same_111 (n := 112) rfl rfl ?_
                  refine yy_tope (y := (ym_n (ym_all (fun i => k_has σ (cN y) (s_nu (k_B σ (cN x)) (k_start σ (cN x) + i)) (s_vl (k_B σ (cN x)) (k_start σ (cN x) + i))) 0))) rfl ?_
                  refine yy_istore (lv' := [(4, .int (ym_n (ym_all (fun i => k_has σ (cN y) (s_nu (k_B σ (cN x)) (k_start σ (cN x) + i)) (s_vl (k_B σ (cN x)) (k_start σ (cN x) + i))) 0))), (3, .int 0), (0, .ref a), (1, .int (nI (cN x))), (2, .int (nI (cN y)))]) F d_M_same_112 (n := 114) rfl (by decide) rfl ?_
                  refine yy_iconst (v := 0) F d_M_same_114 (n := 115) rfl rfl ?_
                  refine yy_tope (y := (nI 0)) rfl ?_
                  refine yy_istore (lv' := [(5, .int (nI 0)), (4, .int (ym_n (ym_all (fun i => k_has σ (cN y) (s_nu (k_B σ (cN x)) (k_start σ (cN x) + i)) (s_vl (k_B σ (cN x)) (k_start σ (cN x) + i))) 0))), (3, .int 0), (0, .ref a), (1, .int (nI (cN x))), (2, .int (nI (cN y)))]) F d_M_same_115 (n := 117) rfl (by decide) rfl ?_
                  have loop : ∀ (d p : Nat) (locs : List Loc), p + d = k_size σ (cN x) → yy_S z Hw_7 locs → yy_Y b Hw_7 locs (0, 0) 117 [(5, .int (nI p)), (4, .int (ym_n (ym_all (fun i => k_has σ (cN y) (s_nu (k_B σ (cN x)) (k_start σ (cN x) + i)) (s_vl (k_B σ (cN x)) (k_start σ (cN x) + i))) p))), (3, .int 0), (0, .ref a), (1, .int (nI (cN x))), (2, .int (nI (cN y)))] [] := by
                    intro d
                    induction d with
                    | zero =>
                      intro p locs hd S1
                      have hp9 : p = k_size σ (cN x) := by omega
                      subst hp9
                      refine yy_iload F d_M_same_117 (n := 119) rfl 0 rfl ?_
                      refine yy_aload_n F d_M_same_119 (n := 120) rfl 3 rfl ?_
                      refine yy_iload_n F d_M_same_120 (n := 121) rfl 4 rfl ?_
                      refine yy_cri (w := (nI (k_size σ (cN x)))) F S1 (c_M_sizeOf X I R hc) (yy_Bc F X.1 q_934 q_3) (yy_invV (nA := 1) (C := R_M) (bytes := b_M_sizeOf) (maxL := 4) (retY := (some .int)) F X.1 q_931 q_933 qs_M_sizeOf q_934 ⟨by decide, by decide, by decide +kernel⟩ (yy_recv F.N X.2.1 (ci := 6) rfl Pw_7.o) rfl d_M_same_121) d_M_same_121 (n := 124) rfl (by simp [Value.category]) ⟨by decide, by decide⟩ ⟨Nat.zero_le _, Nat.zero_le _⟩ ⟨rfl, rfl⟩ Pw_7 rfl (fun _ hSw_13 => ?_)
                      refine yy_ic_ge_t (tgt := 247) F d_M_same_124 (by decide) (nI_le (by omega) (by omega)) ?_
                      refine yy_iload F d_M_same_247 (n := 249) rfl 1 rfl ?_
                      have hr9 : sp_same σ x y = (none, ym_n (k_sam σ (cN x) (cN y)), σ) := by unfold sp_same; unfold ch_con; rw [hin, hin2, hs, hs2]; rfl
                      exact yy_zret F hSw_13 ⟨Nat.zero_le _, Nat.zero_le _⟩ rfl (nar_n _) d_M_same_249 (mq_i (o := none) hr9 R Pw_7 kw_7 (by decide) (fun _ => by rw [hsam, hm, hm2]; unfold k_eqp; rw [decide_eq_true hz2]; exact congrArg ym_n (ym_all_dec (fun i => Iff.rfl))))
                    | succ d ih =>
                      intro p locs hd S1
                      have has : ym_all (fun i => k_has σ (cN y) (s_nu (k_B σ (cN x)) (k_start σ (cN x) + i)) (s_vl (k_B σ (cN x)) (k_start σ (cN x) + i))) (p + 1) = (ym_all (fun i => k_has σ (cN y) (s_nu (k_B σ (cN x)) (k_start σ (cN x) + i)) (s_vl (k_B σ (cN x)) (k_start σ (cN x) + i))) p && (k_has σ (cN y) (s_nu (k_B σ (cN x)) (k_start σ (cN x) + p)) (s_vl (k_B σ (cN x)) (k_start σ (cN x) + p)))) := rfl
                      refine yy_iload F d_M_same_117 (n := 119) rfl 0 rfl ?_
                      refine yy_aload_n F d_M_same_119 (n := 120) rfl 3 rfl ?_
                      refine yy_iload_n F d_M_same_120 (n := 121) rfl 4 rfl ?_
                      refine yy_cri (w := (nI (k_size σ (cN x)))) F S1 (c_M_sizeOf X I R hc) (yy_Bc F X.1 q_934 q_3) (yy_invV (nA := 1) (C := R_M) (bytes := b_M_sizeOf) (maxL := 4) (retY := (some .int)) F X.1 q_931 q_933 qs_M_sizeOf q_934 ⟨by decide, by decide, by decide +kernel⟩ (yy_recv F.N X.2.1 (ci := 6) rfl Pw_7.o) rfl d_M_same_121) d_M_same_121 (n := 124) rfl (by simp [Value.category]) ⟨by decide, by decide⟩ ⟨Nat.zero_le _, Nat.zero_le _⟩ ⟨rfl, rfl⟩ Pw_7 rfl (fun _ hSw_14 => ?_)
                      refine yy_ic_ge_f (tgt := 247) F d_M_same_124 (n := 127) rfl (by decide) (nI_ge (by omega) (by omega)) ?_
                      refine yy_aload_n F d_M_same_127 (n := 128) rfl 3 rfl ?_
                      refine yy_iload_n F d_M_same_128 (n := 129) rfl 4 rfl ?_
                      refine yy_iload F d_M_same_129 (n := 131) rfl 0 rfl ?_
                      refine yy_cri (w := (nI (24 * k_bs σ (cN x) + (k_start σ (cN x) + p)))) F hSw_14 (c_M_at (x := nI p) (q := k_start σ (cN x) + p) X I R hc (nI_add _ _)) (yy_Bc F X.1 q_962 q_3) (yy_invV (nA := 2) (C := R_M) (bytes := b_M_at) (maxL := 3) (retY := (some .int)) F X.1 q_959 q_961 qs_M_at q_962 ⟨by decide, by decide, by decide +kernel⟩ (yy_recv F.N X.2.1 (ci := 6) rfl Pw_7.o) rfl d_M_same_131) d_M_same_131 (n := 134) rfl (by simp [Value.category]) ⟨by decide, by decide⟩ ⟨Nat.zero_le _, Nat.zero_le _⟩ ⟨rfl, rfl⟩ Pw_7 rfl (fun _ hSw_15 => ?_)
                      refine yy_istore (lv' := [(6, .int (nI (24 * k_bs σ (cN x) + (k_start σ (cN x) + p)))), (5, .int (nI p)), (4, .int (ym_n (ym_all (fun i => k_has σ (cN y) (s_nu (k_B σ (cN x)) (k_start σ (cN x) + i)) (s_vl (k_B σ (cN x)) (k_start σ (cN x) + i))) p))), (3, .int 0), (0, .ref a), (1, .int (nI (cN x))), (2, .int (nI (cN y)))]) F d_M_same_134 (n := 136) rfl (by decide) rfl ?_
                      refine yy_iload_n F d_M_same_136 (n := 137) rfl 3 rfl ?_
                      refine yy_if_eq_t (tgt := 151) F d_M_same_137 (by decide) rfl ?_
                      refine yy_aload_n F d_M_same_151 (n := 152) rfl 4 rfl ?_
                      refine yy_iload_n F d_M_same_152 (n := 153) rfl 6 rfl ?_
                      refine yy_aload_n F d_M_same_153 (n := 154) rfl 4 rfl ?_
                      refine yy_get F X.1 X.2.1 g_M_19_M Pw_7.o rfl d_M_same_154 (n := 157) rfl ?_
                      refine yy_iload F d_M_same_157 (n := 159) rfl 0 rfl ?_
                      refine ma_ld (j := 3) (i := (24 * k_bs σ (cN x) + (k_start σ (cN x) + p))) F X Pw_7 (by decide) (show 24 * k_bs σ (cN x) + (k_start σ (cN x) + p) < 240 by omega) d_M_same_159 (n' := 160) rfl ?_
                      refine yy_tope (y := (s_nu (k_B σ (cN x)) (k_start σ (cN x) + p))) (R.nu I hc h5 (by omega)) ?_
                      refine yy_cri (w := (o_n (k_at σ (cN y) (s_nu (k_B σ (cN x)) (k_start σ (cN x) + p))))) F hSw_15 (c_M_find (key := s_nu (k_B σ (cN x)) (k_start σ (cN x) + p)) X I R hcy h5y) (yy_Bc F X.1 q_1021 q_3) (yy_invV (nA := 2) (C := R_M) (bytes := b_M_find) (maxL := 5) (retY := (some .int)) F X.1 q_1018 q_1020 qs_M_find q_1021 ⟨by decide, by decide, by decide +kernel⟩ (yy_recv F.N X.2.1 (ci := 6) rfl Pw_7.o) rfl d_M_same_160) d_M_same_160 (n := 163) rfl (by simp [Value.category]) ⟨by decide, by decide⟩ ⟨Nat.zero_le _, Nat.zero_le _⟩ ⟨rfl, rfl⟩ Pw_7 rfl (fun _ hSw_16 => ?_)
                      refine yy_istore (lv' := [(7, .int (o_n (k_at σ (cN y) (s_nu (k_B σ (cN x)) (k_start σ (cN x) + p))))), (6, .int (nI (24 * k_bs σ (cN x) + (k_start σ (cN x) + p)))), (5, .int (nI p)), (4, .int (ym_n (ym_all (fun i => k_has σ (cN y) (s_nu (k_B σ (cN x)) (k_start σ (cN x) + i)) (s_vl (k_B σ (cN x)) (k_start σ (cN x) + i))) p))), (3, .int 0), (0, .ref a), (1, .int (nI (cN x))), (2, .int (nI (cN y)))]) F d_M_same_163 (n := 165) rfl (by decide) rfl ?_
                      refine yy_iload F d_M_same_165 (n := 167) rfl 3 rfl ?_
                      cases hA : ym_all (fun i => k_has σ (cN y) (s_nu (k_B σ (cN x)) (k_start σ (cN x) + i)) (s_vl (k_B σ (cN x)) (k_start σ (cN x) + i))) p
                      · refine yy_if_eq_t (tgt := 238) F d_M_same_167 (by decide) rfl ?_
                        refine yy_iconst (v := 0) F d_M_same_238 (n := 239) rfl rfl ?_
                        refine yy_tope (y := (ym_n (ym_all (fun i => k_has σ (cN y) (s_nu (k_B σ (cN x)) (k_start σ (cN x) + i)) (s_vl (k_B σ (cN x)) (k_start σ (cN x) + i))) (p + 1)))) ((congrArg ym_n (has.trans (congrFun (congrArg and hA) _))).symm) ?_
                        refine yy_istore (lv' := [(4, .int (ym_n (ym_all (fun i => k_has σ (cN y) (s_nu (k_B σ (cN x)) (k_start σ (cN x) + i)) (s_vl (k_B σ (cN x)) (k_start σ (cN x) + i))) (p + 1)))), (7, .int (o_n (k_at σ (cN y) (s_nu (k_B σ (cN x)) (k_start σ (cN x) + p))))), (6, .int (nI (24 * k_bs σ (cN x) + (k_start σ (cN x) + p)))), (5, .int (nI p)), (3, .int 0), (0, .ref a), (1, .int (nI (cN x))), (2, .int (nI (cN y)))]) F d_M_same_239 (n := 241) rfl (by decide) rfl ?_
                        refine yy_iinc (v := nI (p + 1)) (lv' := [(5, .int (nI (p + 1))), (4, .int (ym_n (ym_all (fun i => k_has σ (cN y) (s_nu (k_B σ (cN x)) (k_start σ (cN x) + i)) (s_vl (k_B σ (cN x)) (k_start σ (cN x) + i))) (p + 1)))), (7, .int (o_n (k_at σ (cN y) (s_nu (k_B σ (cN x)) (k_start σ (cN x) + p))))), (6, .int (nI (24 * k_bs σ (cN x) + (k_start σ (cN x) + p)))), (3, .int 0), (0, .ref a), (1, .int (nI (cN x))), (2, .int (nI (cN y)))]) F d_M_same_241 (n := 244) rfl 3 rfl (nI_1 _) (by decide) rfl ?_
                        refine yy_goto (tgt := 117) F d_M_same_244 (by decide) ?_
                        exact yy_sub [0, 1, 4, 5, 6, 7] rfl (ih (p + 1) _ (by omega) hSw_16)
                      · refine yy_if_eq_f (tgt := 238) F d_M_same_167 (n := 170) rfl (by decide) (by decide) ?_
                        refine yy_iload F d_M_same_170 (n := 172) rfl 0 rfl ?_
                        refine yy_iconst (v := (-1)) F d_M_same_172 (n := 173) rfl rfl ?_
                        cases hat : k_at σ (cN y) (s_nu (k_B σ (cN x)) (k_start σ (cN x) + p)) with
                        | none =>
                          have hh9 : k_has σ (cN y) (s_nu (k_B σ (cN x)) (k_start σ (cN x) + p)) (s_vl (k_B σ (cN x)) (k_start σ (cN x) + p)) = false := by unfold k_has; rw [hat]
                          refine yy_ic_eq_t (tgt := 238) F d_M_same_173 (by decide) rfl ?_
                          refine yy_iconst (v := 0) F d_M_same_238 (n := 239) rfl rfl ?_
                          refine yy_tope (y := (ym_n (ym_all (fun i => k_has σ (cN y) (s_nu (k_B σ (cN x)) (k_start σ (cN x) + i)) (s_vl (k_B σ (cN x)) (k_start σ (cN x) + i))) (p + 1)))) ((congrArg ym_n (has.trans (congr (congrArg and hA) (hh9)))).symm) ?_
                          refine yy_istore (lv' := [(4, .int (ym_n (ym_all (fun i => k_has σ (cN y) (s_nu (k_B σ (cN x)) (k_start σ (cN x) + i)) (s_vl (k_B σ (cN x)) (k_start σ (cN x) + i))) (p + 1)))), (7, .int (-1)), (6, .int (nI (24 * k_bs σ (cN x) + (k_start σ (cN x) + p)))), (5, .int (nI p)), (3, .int 0), (0, .ref a), (1, .int (nI (cN x))), (2, .int (nI (cN y)))]) F d_M_same_239 (n := 241) rfl (by decide) rfl ?_
                          refine yy_iinc (v := nI (p + 1)) (lv' := [(5, .int (nI (p + 1))), (4, .int (ym_n (ym_all (fun i => k_has σ (cN y) (s_nu (k_B σ (cN x)) (k_start σ (cN x) + i)) (s_vl (k_B σ (cN x)) (k_start σ (cN x) + i))) (p + 1)))), (7, .int (-1)), (6, .int (nI (24 * k_bs σ (cN x) + (k_start σ (cN x) + p)))), (3, .int 0), (0, .ref a), (1, .int (nI (cN x))), (2, .int (nI (cN y)))]) F d_M_same_241 (n := 244) rfl 3 rfl (nI_1 _) (by decide) rfl ?_
                          refine yy_goto (tgt := 117) F d_M_same_244 (by decide) ?_
                          exact yy_sub [0, 1, 4, 5, 6, 7] rfl (ih (p + 1) _ (by omega) hSw_16)
                        | some j =>
                          obtain ⟨hj1, hj2, hj3, hj4⟩ := I.at hcy h6y hat
                          have hh9 : k_has σ (cN y) (s_nu (k_B σ (cN x)) (k_start σ (cN x) + p)) (s_vl (k_B σ (cN x)) (k_start σ (cN x) + p)) = decide (s_vl (k_B σ (cN x)) (k_start σ (cN x) + p) = s_vl (k_B σ (cN y)) j) := by unfold k_has; rw [hat]
                          refine yy_ic_eq_f (tgt := 238) F d_M_same_173 (n := 176) rfl (by decide) (ym_nm1 (by omega)) ?_
                          refine yy_aload_n F d_M_same_176 (n := 177) rfl 5 rfl ?_
                          refine yy_get F X.1 X.2.1 g_M_19_M Pw_7.o rfl d_M_same_177 (n := 180) rfl ?_
                          refine yy_bipush (v := 24) F d_M_same_180 (n := 182) rfl rfl ?_
                          refine yy_aload_n F d_M_same_182 (n := 183) rfl 5 rfl ?_
                          refine yy_get F X.1 X.2.1 g_M_16_M Pw_7.o rfl d_M_same_183 (n := 186) rfl ?_
                          refine yy_iload_n F d_M_same_186 (n := 187) rfl 7 rfl ?_
                          refine ma_ld (j := 2) (i := (cN y)) F X Pw_7 (by decide) (show cN y < 10 by omega) d_M_same_187 (n' := 188) rfl ?_
                          refine yy_tope (y := (nI (k_bs σ (cN y)))) (R.bs hcy) ?_
                          refine yy_imul F d_M_same_188 (n := 189) rfl ?_
                          refine yy_tope (y := (nI (24 * (k_bs σ (cN y))))) (pk_mul 24 _) ?_
                          refine yy_iload F d_M_same_189 (n := 191) rfl 0 rfl ?_
                          refine yy_iadd F d_M_same_191 (n := 192) rfl ?_
                          refine yy_tope (y := (nI (24 * (k_bs σ (cN y)) + j))) (nI_add _ _) ?_
                          refine ma_ld (j := 3) (i := (24 * (k_bs σ (cN y)) + j)) F X Pw_7 (by decide) (show 24 * (k_bs σ (cN y)) + j < 240 by omega) d_M_same_192 (n' := 193) rfl ?_
                          refine yy_tope (y := (s_nu (k_B σ (cN y)) j)) (R.nu I hcy h5y (by omega)) ?_
                          refine yy_aload_n F d_M_same_193 (n := 194) rfl 5 rfl ?_
                          refine yy_get F X.1 X.2.1 g_M_19_M Pw_7.o rfl d_M_same_194 (n := 197) rfl ?_
                          refine yy_iload F d_M_same_197 (n := 199) rfl 1 rfl ?_
                          refine ma_ld (j := 3) (i := (24 * k_bs σ (cN x) + (k_start σ (cN x) + p))) F X Pw_7 (by decide) (show 24 * k_bs σ (cN x) + (k_start σ (cN x) + p) < 240 by omega) d_M_same_199 (n' := 200) rfl ?_
                          refine yy_tope (y := (s_nu (k_B σ (cN x)) (k_start σ (cN x) + p))) (R.nu I hc h5 (by omega)) ?_
                          refine yy_ic_ne_f (tgt := 238) F d_M_same_200 (n := 203) rfl (by decide) hj3 ?_
                          refine yy_iload_n F d_M_same_203 (n := 204) rfl 4 rfl ?_
                          refine yy_if_ne_f (tgt := 234) F d_M_same_204 (n := 207) rfl (by decide) rfl ?_
                          refine yy_aload_n F d_M_same_207 (n := 208) rfl 5 rfl ?_
                          refine yy_get F X.1 X.2.1 g_M_22_M Pw_7.o rfl d_M_same_208 (n := 211) rfl ?_
                          refine yy_bipush (v := 24) F d_M_same_211 (n := 213) rfl rfl ?_
                          refine yy_aload_n F d_M_same_213 (n := 214) rfl 5 rfl ?_
                          refine yy_get F X.1 X.2.1 g_M_16_M Pw_7.o rfl d_M_same_214 (n := 217) rfl ?_
                          refine yy_iload_n F d_M_same_217 (n := 218) rfl 7 rfl ?_
                          refine ma_ld (j := 2) (i := (cN y)) F X Pw_7 (by decide) (show cN y < 10 by omega) d_M_same_218 (n' := 219) rfl ?_
                          refine yy_tope (y := (nI (k_bs σ (cN y)))) (R.bs hcy) ?_
                          refine yy_imul F d_M_same_219 (n := 220) rfl ?_
                          refine yy_tope (y := (nI (24 * (k_bs σ (cN y))))) (pk_mul 24 _) ?_
                          refine yy_iload F d_M_same_220 (n := 222) rfl 0 rfl ?_
                          refine yy_iadd F d_M_same_222 (n := 223) rfl ?_
                          refine yy_tope (y := (nI (24 * (k_bs σ (cN y)) + j))) (nI_add _ _) ?_
                          refine ma_ld (j := 4) (i := (24 * (k_bs σ (cN y)) + j)) F X Pw_7 (by decide) (show 24 * (k_bs σ (cN y)) + j < 240 by omega) d_M_same_223 (n' := 224) rfl ?_
                          refine yy_tope (y := (s_vl (k_B σ (cN y)) j)) (R.vl I hcy hvy (by omega)) ?_
                          refine yy_aload_n F d_M_same_224 (n := 225) rfl 5 rfl ?_
                          refine yy_get F X.1 X.2.1 g_M_22_M Pw_7.o rfl d_M_same_225 (n := 228) rfl ?_
                          refine yy_iload F d_M_same_228 (n := 230) rfl 1 rfl ?_
                          refine ma_ld (j := 4) (i := (24 * k_bs σ (cN x) + (k_start σ (cN x) + p))) F X Pw_7 (by decide) (show 24 * k_bs σ (cN x) + (k_start σ (cN x) + p) < 240 by omega) d_M_same_230 (n' := 231) rfl ?_
                          refine yy_tope (y := (s_vl (k_B σ (cN x)) (k_start σ (cN x) + p))) (R.vl I hc hv (by omega)) ?_
                          refine yy_ic_ne (tgt := 238) F d_M_same_231 (n := 234) rfl (by decide) (fun hn => ?_) (fun hn => ?_)
                          · refine yy_iconst (v := 0) F d_M_same_238 (n := 239) rfl rfl ?_
                            refine yy_tope (y := (ym_n (ym_all (fun i => k_has σ (cN y) (s_nu (k_B σ (cN x)) (k_start σ (cN x) + i)) (s_vl (k_B σ (cN x)) (k_start σ (cN x) + i))) (p + 1)))) ((congrArg ym_n (has.trans (congr (congrArg and hA) (hh9.trans (decide_eq_false (fun q => hn q.symm)))))).symm) ?_
                            refine yy_istore (lv' := [(4, .int (ym_n (ym_all (fun i => k_has σ (cN y) (s_nu (k_B σ (cN x)) (k_start σ (cN x) + i)) (s_vl (k_B σ (cN x)) (k_start σ (cN x) + i))) (p + 1)))), (7, .int (nI j)), (6, .int (nI (24 * k_bs σ (cN x) + (k_start σ (cN x) + p)))), (5, .int (nI p)), (3, .int 0), (0, .ref a), (1, .int (nI (cN x))), (2, .int (nI (cN y)))]) F d_M_same_239 (n := 241) rfl (by decide) rfl ?_
                            refine yy_iinc (v := nI (p + 1)) (lv' := [(5, .int (nI (p + 1))), (4, .int (ym_n (ym_all (fun i => k_has σ (cN y) (s_nu (k_B σ (cN x)) (k_start σ (cN x) + i)) (s_vl (k_B σ (cN x)) (k_start σ (cN x) + i))) (p + 1)))), (7, .int (nI j)), (6, .int (nI (24 * k_bs σ (cN x) + (k_start σ (cN x) + p)))), (3, .int 0), (0, .ref a), (1, .int (nI (cN x))), (2, .int (nI (cN y)))]) F d_M_same_241 (n := 244) rfl 3 rfl (nI_1 _) (by decide) rfl ?_
                            refine yy_goto (tgt := 117) F d_M_same_244 (by decide) ?_
                            exact yy_sub [0, 1, 4, 5, 6, 7] rfl (ih (p + 1) _ (by omega) hSw_16)
                          · refine yy_iconst (v := 1) F d_M_same_234 (n := 235) rfl rfl ?_
                            refine yy_goto (tgt := 239) F d_M_same_235 (by decide) ?_
                            refine yy_tope (y := (ym_n (ym_all (fun i => k_has σ (cN y) (s_nu (k_B σ (cN x)) (k_start σ (cN x) + i)) (s_vl (k_B σ (cN x)) (k_start σ (cN x) + i))) (p + 1)))) ((congrArg ym_n (has.trans (congr (congrArg and hA) (hh9.trans (decide_eq_true hn.symm))))).symm) ?_
                            refine yy_istore (lv' := [(4, .int (ym_n (ym_all (fun i => k_has σ (cN y) (s_nu (k_B σ (cN x)) (k_start σ (cN x) + i)) (s_vl (k_B σ (cN x)) (k_start σ (cN x) + i))) (p + 1)))), (7, .int (nI j)), (6, .int (nI (24 * k_bs σ (cN x) + (k_start σ (cN x) + p)))), (5, .int (nI p)), (3, .int 0), (0, .ref a), (1, .int (nI (cN x))), (2, .int (nI (cN y)))]) F d_M_same_239 (n := 241) rfl (by decide) rfl ?_
                            refine yy_iinc (v := nI (p + 1)) (lv' := [(5, .int (nI (p + 1))), (4, .int (ym_n (ym_all (fun i => k_has σ (cN y) (s_nu (k_B σ (cN x)) (k_start σ (cN x) + i)) (s_vl (k_B σ (cN x)) (k_start σ (cN x) + i))) (p + 1)))), (7, .int (nI j)), (6, .int (nI (24 * k_bs σ (cN x) + (k_start σ (cN x) + p)))), (3, .int 0), (0, .ref a), (1, .int (nI (cN x))), (2, .int (nI (cN y)))]) F d_M_same_241 (n := 244) rfl 3 rfl (nI_1 _) (by decide) rfl ?_
                            refine yy_goto (tgt := 117) F d_M_same_244 (by decide) ?_
                            exact yy_sub [0, 1, 4, 5, 6, 7] rfl (ih (p + 1) _ (by omega) hSw_16)
                  exact yy_sub [0, 1, 2, 3, 4, 5] rfl (loop _ 0 _ (Nat.zero_add _) hSw_12)
                · have hz2 : ¬ k_size σ (cN x) = k_size σ (cN y) := fun q => hz (by rw [q])
                  refine yy_iconst (v := 0) F d_M_same_109 (n := 110) rfl rfl ?_
                  have hr9 : sp_same σ x y = (none, ym_n (k_sam σ (cN x) (cN y)), σ) := by unfold sp_same; unfold ch_con; rw [hin, hin2, hs, hs2]; rfl
                  exact yy_zret F hSw_12 ⟨Nat.zero_le _, Nat.zero_le _⟩ rfl rfl d_M_same_110 (mq_i (o := none) hr9 R Pw_7 kw_7 (by decide) (fun _ => by rw [hsam, hm, hm2]; unfold k_eqp; rw [decide_eq_false hz2]; rfl))
          · refine yy_if_eq_f (tgt := 74) F d_M_same_59 (n := 62) rfl (by decide) (by decide) ?_
            refine yy_aload_n F d_M_same_62 (n := 63) rfl 0 rfl ?_
            refine yy_iload_n F d_M_same_63 (n := 64) rfl 2 rfl ?_
            refine yy_cri (w := (ym_n (k_isl (k_kd σ (cN y))))) F hSw_8 (c_M_isList X I R hcy) (yy_Bc F X.1 q_922 q_3) (yy_invV (nA := 1) (C := R_M) (bytes := b_M_isList) (maxL := 2) (retY := (some .boolean)) F X.1 q_919 q_921 qs_M_isList q_922 ⟨by decide, by decide, by decide +kernel⟩ (yy_recv F.N X.2.1 (ci := 6) rfl Pw_7.o) rfl d_M_same_64) d_M_same_64 (n := 67) rfl (by simp [Value.category]) ⟨by decide, by decide⟩ ⟨Nat.zero_le _, Nat.zero_le _⟩ ⟨rfl, rfl⟩ Pw_7 rfl (fun _ hSw_17 => ?_)
            cases hl2 : k_isl (k_kd σ (cN y))
            · refine yy_if_eq_t (tgt := 74) F d_M_same_67 (by decide) rfl ?_
              have hsam : k_sam σ (cN x) (cN y) = (k_ism (k_kd σ (cN x)) && k_ism (k_kd σ (cN y)) && k_eqp σ (cN x) (cN y)) := if_neg (by rw [hl2, Bool.and_false]; decide)
              refine yy_iconst (v := 0) F d_M_same_74 (n := 75) rfl rfl ?_
              refine yy_istore_n (lv' := [(3, .int 0), (0, .ref a), (1, .int (nI (cN x))), (2, .int (nI (cN y)))]) F d_M_same_75 (n := 76) rfl (by decide) rfl ?_
              refine yy_iload_n F d_M_same_76 (n := 77) rfl 0 rfl ?_
              refine yy_if_ne_f (tgt := 96) F d_M_same_77 (n := 80) rfl (by decide) (by decide) ?_
              refine yy_aload_n F d_M_same_80 (n := 81) rfl 1 rfl ?_
              refine yy_iload_n F d_M_same_81 (n := 82) rfl 2 rfl ?_
              refine yy_cri (w := (ym_n (k_ism (k_kd σ (cN x))))) F hSw_17 (c_M_isMap X I R hc) (yy_Bc F X.1 q_1017 q_3) (yy_invV (nA := 1) (C := R_M) (bytes := b_M_isMap) (maxL := 2) (retY := (some .boolean)) F X.1 q_1014 q_1016 qs_M_isMap q_1017 ⟨by decide, by decide, by decide +kernel⟩ (yy_recv F.N X.2.1 (ci := 6) rfl Pw_7.o) rfl d_M_same_82) d_M_same_82 (n := 85) rfl (by simp [Value.category]) ⟨by decide, by decide⟩ ⟨Nat.zero_le _, Nat.zero_le _⟩ ⟨rfl, rfl⟩ Pw_7 rfl (fun _ hSw_18 => ?_)
              cases hm : k_ism (k_kd σ (cN x))
              · refine yy_if_eq_t (tgt := 109) F d_M_same_85 (by decide) rfl ?_
                refine yy_iconst (v := 0) F d_M_same_109 (n := 110) rfl rfl ?_
                have hr9 : sp_same σ x y = (none, ym_n (k_sam σ (cN x) (cN y)), σ) := by unfold sp_same; unfold ch_con; rw [hin, hin2, hs, hs2]; rfl
                exact yy_zret F hSw_18 ⟨Nat.zero_le _, Nat.zero_le _⟩ rfl rfl d_M_same_110 (mq_i (o := none) hr9 R Pw_7 kw_7 (by decide) (fun _ => by rw [hsam, hm]; rfl))
              · refine yy_if_eq_f (tgt := 109) F d_M_same_85 (n := 88) rfl (by decide) (by decide) ?_
                refine yy_aload_n F d_M_same_88 (n := 89) rfl 1 rfl ?_
                refine yy_iload_n F d_M_same_89 (n := 90) rfl 3 rfl ?_
                refine yy_cri (w := (ym_n (k_ism (k_kd σ (cN y))))) F hSw_18 (c_M_isMap X I R hcy) (yy_Bc F X.1 q_1017 q_3) (yy_invV (nA := 1) (C := R_M) (bytes := b_M_isMap) (maxL := 2) (retY := (some .boolean)) F X.1 q_1014 q_1016 qs_M_isMap q_1017 ⟨by decide, by decide, by decide +kernel⟩ (yy_recv F.N X.2.1 (ci := 6) rfl Pw_7.o) rfl d_M_same_90) d_M_same_90 (n := 93) rfl (by simp [Value.category]) ⟨by decide, by decide⟩ ⟨Nat.zero_le _, Nat.zero_le _⟩ ⟨rfl, rfl⟩ Pw_7 rfl (fun _ hSw_19 => ?_)
                cases hm2 : k_ism (k_kd σ (cN y))
                · refine yy_if_eq_t (tgt := 109) F d_M_same_93 (by decide) rfl ?_
                  refine yy_iconst (v := 0) F d_M_same_109 (n := 110) rfl rfl ?_
                  have hr9 : sp_same σ x y = (none, ym_n (k_sam σ (cN x) (cN y)), σ) := by unfold sp_same; unfold ch_con; rw [hin, hin2, hs, hs2]; rfl
                  exact yy_zret F hSw_19 ⟨Nat.zero_le _, Nat.zero_le _⟩ rfl rfl d_M_same_110 (mq_i (o := none) hr9 R Pw_7 kw_7 (by decide) (fun _ => by rw [hsam, hm, hm2]; rfl))
                · refine yy_if_eq_f (tgt := 109) F d_M_same_93 (n := 96) rfl (by decide) (by decide) ?_
                  have hv := I.mapb hc hm
                  have hvy := I.mapb hcy hm2
                  have h5 : ¬ k_kb σ (cN x) = 5 := fun q => by rw [q] at hv; exact absurd hv (by decide)
                  have h5y : ¬ k_kb σ (cN y) = 5 := fun q => by rw [q] at hvy; exact absurd hvy (by decide)
                  have h6y := k_ism6 hm2
                  refine yy_aload_n F d_M_same_96 (n := 97) rfl 1 rfl ?_
                  refine yy_iload_n F d_M_same_97 (n := 98) rfl 2 rfl ?_
                  refine yy_cri (w := (nI (k_size σ (cN x)))) F hSw_19 (c_M_sizeOf X I R hc) (yy_Bc F X.1 q_934 q_3) (yy_invV (nA := 1) (C := R_M) (bytes := b_M_sizeOf) (maxL := 4) (retY := (some .int)) F X.1 q_931 q_933 qs_M_sizeOf q_934 ⟨by decide, by decide, by decide +kernel⟩ (yy_recv F.N X.2.1 (ci := 6) rfl Pw_7.o) rfl d_M_same_98) d_M_same_98 (n := 101) rfl (by simp [Value.category]) ⟨by decide, by decide⟩ ⟨Nat.zero_le _, Nat.zero_le _⟩ ⟨rfl, rfl⟩ Pw_7 rfl (fun _ hSw_20 => ?_)
                  refine yy_aload_n F d_M_same_101 (n := 102) rfl 1 rfl ?_
                  refine yy_iload_n F d_M_same_102 (n := 103) rfl 3 rfl ?_
                  refine yy_cri (w := (nI (k_size σ (cN y)))) F hSw_20 (c_M_sizeOf X I R hcy) (yy_Bc F X.1 q_934 q_3) (yy_invV (nA := 1) (C := R_M) (bytes := b_M_sizeOf) (maxL := 4) (retY := (some .int)) F X.1 q_931 q_933 qs_M_sizeOf q_934 ⟨by decide, by decide, by decide +kernel⟩ (yy_recv F.N X.2.1 (ci := 6) rfl Pw_7.o) rfl d_M_same_103) d_M_same_103 (n := 106) rfl (by simp [Value.category]) ⟨by decide, by decide⟩ ⟨Nat.zero_le _, Nat.zero_le _⟩ ⟨rfl, rfl⟩ Pw_7 rfl (fun _ hSw_21 => ?_)
                  refine yy_ic_eq (tgt := 111) F d_M_same_106 (n := 109) rfl (by decide) (fun hz => ?_) (fun hz => ?_)
                  · have hz2 : k_size σ (cN x) = k_size σ (cN y) := (nI_eq (by omega) (by omega)).mp hz
                    refine yy_iconst (v := 1) F d_M_same_111 (n := 112) rfl rfl ?_
                    refine yy_tope (y := (ym_n (ym_all (fun i => k_has σ (cN y) (s_nu (k_B σ (cN x)) (k_start σ (cN x) + i)) (s_vl (k_B σ (cN x)) (k_start σ (cN x) + i))) 0))) rfl ?_
                    refine yy_istore (lv' := [(4, .int (ym_n (ym_all (fun i => k_has σ (cN y) (s_nu (k_B σ (cN x)) (k_start σ (cN x) + i)) (s_vl (k_B σ (cN x)) (k_start σ (cN x) + i))) 0))), (3, .int 0), (0, .ref a), (1, .int (nI (cN x))), (2, .int (nI (cN y)))]) F d_M_same_112 (n := 114) rfl (by decide) rfl ?_
                    refine yy_iconst (v := 0) F d_M_same_114 (n := 115) rfl rfl ?_
                    refine yy_tope (y := (nI 0)) rfl ?_
                    refine yy_istore (lv' := [(5, .int (nI 0)), (4, .int (ym_n (ym_all (fun i => k_has σ (cN y) (s_nu (k_B σ (cN x)) (k_start σ (cN x) + i)) (s_vl (k_B σ (cN x)) (k_start σ (cN x) + i))) 0))), (3, .int 0), (0, .ref a), (1, .int (nI (cN x))), (2, .int (nI (cN y)))]) F d_M_same_115 (n := 117) rfl (by decide) rfl ?_
                    have loop : ∀ (d p : Nat) (locs : List Loc), p + d = k_size σ (cN x) → yy_S z Hw_7 locs → yy_Y b Hw_7 locs (0, 0) 117 [(5, .int (nI p)), (4, .int (ym_n (ym_all (fun i => k_has σ (cN y) (s_nu (k_B σ (cN x)) (k_start σ (cN x) + i)) (s_vl (k_B σ (cN x)) (k_start σ (cN x) + i))) p))), (3, .int 0), (0, .ref a), (1, .int (nI (cN x))), (2, .int (nI (cN y)))] [] := by
                      intro d
                      induction d with
                      | zero =>
                        intro p locs hd S1
                        have hp9 : p = k_size σ (cN x) := by omega
                        subst hp9
                        refine yy_iload F d_M_same_117 (n := 119) rfl 0 rfl ?_
                        refine yy_aload_n F d_M_same_119 (n := 120) rfl 3 rfl ?_
                        refine yy_iload_n F d_M_same_120 (n := 121) rfl 4 rfl ?_
                        refine yy_cri (w := (nI (k_size σ (cN x)))) F S1 (c_M_sizeOf X I R hc) (yy_Bc F X.1 q_934 q_3) (yy_invV (nA := 1) (C := R_M) (bytes := b_M_sizeOf) (maxL := 4) (retY := (some .int)) F X.1 q_931 q_933 qs_M_sizeOf q_934 ⟨by decide, by decide, by decide +kernel⟩ (yy_recv F.N X.2.1 (ci := 6) rfl Pw_7.o) rfl d_M_same_121) d_M_same_121 (n := 124) rfl (by simp [Value.category]) ⟨by decide, by decide⟩ ⟨Nat.zero_le _, Nat.zero_le _⟩ ⟨rfl, rfl⟩ Pw_7 rfl (fun _ hSw_22 => ?_)
                        refine yy_ic_ge_t (tgt := 247) F d_M_same_124 (by decide) (nI_le (by omega) (by omega)) ?_
                        refine yy_iload F d_M_same_247 (n := 249) rfl 1 rfl ?_
                        have hr9 : sp_same σ x y = (none, ym_n (k_sam σ (cN x) (cN y)), σ) := by unfold sp_same; unfold ch_con; rw [hin, hin2, hs, hs2]; rfl
                        exact yy_zret F hSw_22 ⟨Nat.zero_le _, Nat.zero_le _⟩ rfl (nar_n _) d_M_same_249 (mq_i (o := none) hr9 R Pw_7 kw_7 (by decide) (fun _ => by rw [hsam, hm, hm2]; unfold k_eqp; rw [decide_eq_true hz2]; exact congrArg ym_n (ym_all_dec (fun i => Iff.rfl))))
                      | succ d ih =>
                        intro p locs hd S1
                        have has : ym_all (fun i => k_has σ (cN y) (s_nu (k_B σ (cN x)) (k_start σ (cN x) + i)) (s_vl (k_B σ (cN x)) (k_start σ (cN x) + i))) (p + 1) = (ym_all (fun i => k_has σ (cN y) (s_nu (k_B σ (cN x)) (k_start σ (cN x) + i)) (s_vl (k_B σ (cN x)) (k_start σ (cN x) + i))) p && (k_has σ (cN y) (s_nu (k_B σ (cN x)) (k_start σ (cN x) + p)) (s_vl (k_B σ (cN x)) (k_start σ (cN x) + p)))) := rfl
                        refine yy_iload F d_M_same_117 (n := 119) rfl 0 rfl ?_
                        refine yy_aload_n F d_M_same_119 (n := 120) rfl 3 rfl ?_
                        refine yy_iload_n F d_M_same_120 (n := 121) rfl 4 rfl ?_
                        refine yy_cri (w := (nI (k_size σ (cN x)))) F S1 (c_M_sizeOf X I R hc) (yy_Bc F X.1 q_934 q_3) (yy_invV (nA := 1) (C := R_M) (bytes := b_M_sizeOf) (maxL := 4) (retY := (some .int)) F X.1 q_931 q_933 qs_M_sizeOf q_934 ⟨by decide, by decide, by decide +kernel⟩ (yy_recv F.N X.2.1 (ci := 6) rfl Pw_7.o) rfl d_M_same_121) d_M_same_121 (n := 124) rfl (by simp [Value.category]) ⟨by decide, by decide⟩ ⟨Nat.zero_le _, Nat.zero_le _⟩ ⟨rfl, rfl⟩ Pw_7 rfl (fun _ hSw_23 => ?_)
                        refine yy_ic_ge_f (tgt := 247) F d_M_same_124 (n := 127) rfl (by decide) (nI_ge (by omega) (by omega)) ?_
                        refine yy_aload_n F d_M_same_127 (n := 128) rfl 3 rfl ?_
                        refine yy_iload_n F d_M_same_128 (n := 129) rfl 4 rfl ?_
                        refine yy_iload F d_M_same_129 (n := 131) rfl 0 rfl ?_
                        refine yy_cri (w := (nI (24 * k_bs σ (cN x) + (k_start σ (cN x) + p)))) F hSw_23 (c_M_at (x := nI p) (q := k_start σ (cN x) + p) X I R hc (nI_add _ _)) (yy_Bc F X.1 q_962 q_3) (yy_invV (nA := 2) (C := R_M) (bytes := b_M_at) (maxL := 3) (retY := (some .int)) F X.1 q_959 q_961 qs_M_at q_962 ⟨by decide, by decide, by decide +kernel⟩ (yy_recv F.N X.2.1 (ci := 6) rfl Pw_7.o) rfl d_M_same_131) d_M_same_131 (n := 134) rfl (by simp [Value.category]) ⟨by decide, by decide⟩ ⟨Nat.zero_le _, Nat.zero_le _⟩ ⟨rfl, rfl⟩ Pw_7 rfl (fun _ hSw_24 => ?_)
                        refine yy_istore (lv' := [(6, .int (nI (24 * k_bs σ (cN x) + (k_start σ (cN x) + p)))), (5, .int (nI p)), (4, .int (ym_n (ym_all (fun i => k_has σ (cN y) (s_nu (k_B σ (cN x)) (k_start σ (cN x) + i)) (s_vl (k_B σ (cN x)) (k_start σ (cN x) + i))) p))), (3, .int 0), (0, .ref a), (1, .int (nI (cN x))), (2, .int (nI (cN y)))]) F d_M_same_134 (n := 136) rfl (by decide) rfl ?_
                        refine yy_iload_n F d_M_same_136 (n := 137) rfl 3 rfl ?_
                        refine yy_if_eq_t (tgt := 151) F d_M_same_137 (by decide) rfl ?_
                        refine yy_aload_n F d_M_same_151 (n := 152) rfl 4 rfl ?_
                        refine yy_iload_n F d_M_same_152 (n := 153) rfl 6 rfl ?_
                        refine yy_aload_n F d_M_same_153 (n := 154) rfl 4 rfl ?_
                        refine yy_get F X.1 X.2.1 g_M_19_M Pw_7.o rfl d_M_same_154 (n := 157) rfl ?_
                        refine yy_iload F d_M_same_157 (n := 159) rfl 0 rfl ?_
                        refine ma_ld (j := 3) (i := (24 * k_bs σ (cN x) + (k_start σ (cN x) + p))) F X Pw_7 (by decide) (show 24 * k_bs σ (cN x) + (k_start σ (cN x) + p) < 240 by omega) d_M_same_159 (n' := 160) rfl ?_
                        refine yy_tope (y := (s_nu (k_B σ (cN x)) (k_start σ (cN x) + p))) (R.nu I hc h5 (by omega)) ?_
                        refine yy_cri (w := (o_n (k_at σ (cN y) (s_nu (k_B σ (cN x)) (k_start σ (cN x) + p))))) F hSw_24 (c_M_find (key := s_nu (k_B σ (cN x)) (k_start σ (cN x) + p)) X I R hcy h5y) (yy_Bc F X.1 q_1021 q_3) (yy_invV (nA := 2) (C := R_M) (bytes := b_M_find) (maxL := 5) (retY := (some .int)) F X.1 q_1018 q_1020 qs_M_find q_1021 ⟨by decide, by decide, by decide +kernel⟩ (yy_recv F.N X.2.1 (ci := 6) rfl Pw_7.o) rfl d_M_same_160) d_M_same_160 (n := 163) rfl (by simp [Value.category]) ⟨by decide, by decide⟩ ⟨Nat.zero_le _, Nat.zero_le _⟩ ⟨rfl, rfl⟩ Pw_7 rfl (fun _ hSw_25 => ?_)
                        refine yy_istore (lv' := [(7, .int (o_n (k_at σ (cN y) (s_nu (k_B σ (cN x)) (k_start σ (cN x) + p))))), (6, .int (nI (24 * k_bs σ (cN x) + (k_start σ (cN x) + p)))), (5, .int (nI p)), (4, .int (ym_n (ym_all (fun i => k_has σ (cN y) (s_nu (k_B σ (cN x)) (k_start σ (cN x) + i)) (s_vl (k_B σ (cN x)) (k_start σ (cN x) + i))) p))), (3, .int 0), (0, .ref a), (1, .int (nI (cN x))), (2, .int (nI (cN y)))]) F d_M_same_163 (n := 165) rfl (by decide) rfl ?_
                        refine yy_iload F d_M_same_165 (n := 167) rfl 3 rfl ?_
                        cases hA : ym_all (fun i => k_has σ (cN y) (s_nu (k_B σ (cN x)) (k_start σ (cN x) + i)) (s_vl (k_B σ (cN x)) (k_start σ (cN x) + i))) p
                        · refine yy_if_eq_t (tgt := 238) F d_M_same_167 (by decide) rfl ?_
                          refine yy_iconst (v := 0) F d_M_same_238 (n := 239) rfl rfl ?_
                          refine yy_tope (y := (ym_n (ym_all (fun i => k_has σ (cN y) (s_nu (k_B σ (cN x)) (k_start σ (cN x) + i)) (s_vl (k_B σ (cN x)) (k_start σ (cN x) + i))) (p + 1)))) ((congrArg ym_n (has.trans (congrFun (congrArg and hA) _))).symm) ?_
                          refine yy_istore (lv' := [(4, .int (ym_n (ym_all (fun i => k_has σ (cN y) (s_nu (k_B σ (cN x)) (k_start σ (cN x) + i)) (s_vl (k_B σ (cN x)) (k_start σ (cN x) + i))) (p + 1)))), (7, .int (o_n (k_at σ (cN y) (s_nu (k_B σ (cN x)) (k_start σ (cN x) + p))))), (6, .int (nI (24 * k_bs σ (cN x) + (k_start σ (cN x) + p)))), (5, .int (nI p)), (3, .int 0), (0, .ref a), (1, .int (nI (cN x))), (2, .int (nI (cN y)))]) F d_M_same_239 (n := 241) rfl (by decide) rfl ?_
                          refine yy_iinc (v := nI (p + 1)) (lv' := [(5, .int (nI (p + 1))), (4, .int (ym_n (ym_all (fun i => k_has σ (cN y) (s_nu (k_B σ (cN x)) (k_start σ (cN x) + i)) (s_vl (k_B σ (cN x)) (k_start σ (cN x) + i))) (p + 1)))), (7, .int (o_n (k_at σ (cN y) (s_nu (k_B σ (cN x)) (k_start σ (cN x) + p))))), (6, .int (nI (24 * k_bs σ (cN x) + (k_start σ (cN x) + p)))), (3, .int 0), (0, .ref a), (1, .int (nI (cN x))), (2, .int (nI (cN y)))]) F d_M_same_241 (n := 244) rfl 3 rfl (nI_1 _) (by decide) rfl ?_
                          refine yy_goto (tgt := 117) F d_M_same_244 (by decide) ?_
                          exact yy_sub [0, 1, 4, 5, 6, 7] rfl (ih (p + 1) _ (by omega) hSw_25)
                        · refine yy_if_eq_f (tgt := 238) F d_M_same_167 (n := 170) rfl (by decide) (by decide) ?_
                          refine yy_iload F d_M_same_170 (n := 172) rfl 0 rfl ?_
                          refine yy_iconst (v := (-1)) F d_M_same_172 (n := 173) rfl rfl ?_
                          cases hat : k_at σ (cN y) (s_nu (k_B σ (cN x)) (k_start σ (cN x) + p)) with
                          | none =>
                            have hh9 : k_has σ (cN y) (s_nu (k_B σ (cN x)) (k_start σ (cN x) + p)) (s_vl (k_B σ (cN x)) (k_start σ (cN x) + p)) = false := by unfold k_has; rw [hat]
                            refine yy_ic_eq_t (tgt := 238) F d_M_same_173 (by decide) rfl ?_
                            refine yy_iconst (v := 0) F d_M_same_238 (n := 239) rfl rfl ?_
                            refine yy_tope (y := (ym_n (ym_all (fun i => k_has σ (cN y) (s_nu (k_B σ (cN x)) (k_start σ (cN x) + i)) (s_vl (k_B σ (cN x)) (k_start σ (cN x) + i))) (p + 1)))) ((congrArg ym_n (has.trans (congr (congrArg and hA) (hh9)))).symm) ?_
                            refine yy_istore (lv' := [(4, .int (ym_n (ym_all (fun i => k_has σ (cN y) (s_nu (k_B σ (cN x)) (k_start σ (cN x) + i)) (s_vl (k_B σ (cN x)) (k_start σ (cN x) + i))) (p + 1)))), (7, .int (-1)), (6, .int (nI (24 * k_bs σ (cN x) + (k_start σ (cN x) + p)))), (5, .int (nI p)), (3, .int 0), (0, .ref a), (1, .int (nI (cN x))), (2, .int (nI (cN y)))]) F d_M_same_239 (n := 241) rfl (by decide) rfl ?_
                            refine yy_iinc (v := nI (p + 1)) (lv' := [(5, .int (nI (p + 1))), (4, .int (ym_n (ym_all (fun i => k_has σ (cN y) (s_nu (k_B σ (cN x)) (k_start σ (cN x) + i)) (s_vl (k_B σ (cN x)) (k_start σ (cN x) + i))) (p + 1)))), (7, .int (-1)), (6, .int (nI (24 * k_bs σ (cN x) + (k_start σ (cN x) + p)))), (3, .int 0), (0, .ref a), (1, .int (nI (cN x))), (2, .int (nI (cN y)))]) F d_M_same_241 (n := 244) rfl 3 rfl (nI_1 _) (by decide) rfl ?_
                            refine yy_goto (tgt := 117) F d_M_same_244 (by decide) ?_
                            exact yy_sub [0, 1, 4, 5, 6, 7] rfl (ih (p + 1) _ (by omega) hSw_25)
                          | some j =>
                            obtain ⟨hj1, hj2, hj3, hj4⟩ := I.at hcy h6y hat
                            have hh9 : k_has σ (cN y) (s_nu (k_B σ (cN x)) (k_start σ (cN x) + p)) (s_vl (k_B σ (cN x)) (k_start σ (cN x) + p)) = decide (s_vl (k_B σ (cN x)) (k_start σ (cN x) + p) = s_vl (k_B σ (cN y)) j) := by unfold k_has; rw [hat]
                            refine yy_ic_eq_f (tgt := 238) F d_M_same_173 (n := 176) rfl (by decide) (ym_nm1 (by omega)) ?_
                            refine yy_aload_n F d_M_same_176 (n := 177) rfl 5 rfl ?_
                            refine yy_get F X.1 X.2.1 g_M_19_M Pw_7.o rfl d_M_same_177 (n := 180) rfl ?_
                            refine yy_bipush (v := 24) F d_M_same_180 (n := 182) rfl rfl ?_
                            refine yy_aload_n F d_M_same_182 (n := 183) rfl 5 rfl ?_
                            refine yy_get F X.1 X.2.1 g_M_16_M Pw_7.o rfl d_M_same_183 (n := 186) rfl ?_
                            refine yy_iload_n F d_M_same_186 (n := 187) rfl 7 rfl ?_
                            refine ma_ld (j := 2) (i := (cN y)) F X Pw_7 (by decide) (show cN y < 10 by omega) d_M_same_187 (n' := 188) rfl ?_
                            refine yy_tope (y := (nI (k_bs σ (cN y)))) (R.bs hcy) ?_
                            refine yy_imul F d_M_same_188 (n := 189) rfl ?_
                            refine yy_tope (y := (nI (24 * (k_bs σ (cN y))))) (pk_mul 24 _) ?_
                            refine yy_iload F d_M_same_189 (n := 191) rfl 0 rfl ?_
                            refine yy_iadd F d_M_same_191 (n := 192) rfl ?_
                            refine yy_tope (y := (nI (24 * (k_bs σ (cN y)) + j))) (nI_add _ _) ?_
                            refine ma_ld (j := 3) (i := (24 * (k_bs σ (cN y)) + j)) F X Pw_7 (by decide) (show 24 * (k_bs σ (cN y)) + j < 240 by omega) d_M_same_192 (n' := 193) rfl ?_
                            refine yy_tope (y := (s_nu (k_B σ (cN y)) j)) (R.nu I hcy h5y (by omega)) ?_
                            refine yy_aload_n F d_M_same_193 (n := 194) rfl 5 rfl ?_
                            refine yy_get F X.1 X.2.1 g_M_19_M Pw_7.o rfl d_M_same_194 (n := 197) rfl ?_
                            refine yy_iload F d_M_same_197 (n := 199) rfl 1 rfl ?_
                            refine ma_ld (j := 3) (i := (24 * k_bs σ (cN x) + (k_start σ (cN x) + p))) F X Pw_7 (by decide) (show 24 * k_bs σ (cN x) + (k_start σ (cN x) + p) < 240 by omega) d_M_same_199 (n' := 200) rfl ?_
                            refine yy_tope (y := (s_nu (k_B σ (cN x)) (k_start σ (cN x) + p))) (R.nu I hc h5 (by omega)) ?_
                            refine yy_ic_ne_f (tgt := 238) F d_M_same_200 (n := 203) rfl (by decide) hj3 ?_
                            refine yy_iload_n F d_M_same_203 (n := 204) rfl 4 rfl ?_
                            refine yy_if_ne_f (tgt := 234) F d_M_same_204 (n := 207) rfl (by decide) rfl ?_
                            refine yy_aload_n F d_M_same_207 (n := 208) rfl 5 rfl ?_
                            refine yy_get F X.1 X.2.1 g_M_22_M Pw_7.o rfl d_M_same_208 (n := 211) rfl ?_
                            refine yy_bipush (v := 24) F d_M_same_211 (n := 213) rfl rfl ?_
                            refine yy_aload_n F d_M_same_213 (n := 214) rfl 5 rfl ?_
                            refine yy_get F X.1 X.2.1 g_M_16_M Pw_7.o rfl d_M_same_214 (n := 217) rfl ?_
                            refine yy_iload_n F d_M_same_217 (n := 218) rfl 7 rfl ?_
                            refine ma_ld (j := 2) (i := (cN y)) F X Pw_7 (by decide) (show cN y < 10 by omega) d_M_same_218 (n' := 219) rfl ?_
                            refine yy_tope (y := (nI (k_bs σ (cN y)))) (R.bs hcy) ?_
                            refine yy_imul F d_M_same_219 (n := 220) rfl ?_
                            refine yy_tope (y := (nI (24 * (k_bs σ (cN y))))) (pk_mul 24 _) ?_
                            refine yy_iload F d_M_same_220 (n := 222) rfl 0 rfl ?_
                            refine yy_iadd F d_M_same_222 (n := 223) rfl ?_
                            refine yy_tope (y := (nI (24 * (k_bs σ (cN y)) + j))) (nI_add _ _) ?_
                            refine ma_ld (j := 4) (i := (24 * (k_bs σ (cN y)) + j)) F X Pw_7 (by decide) (show 24 * (k_bs σ (cN y)) + j < 240 by omega) d_M_same_223 (n' := 224) rfl ?_
                            refine yy_tope (y := (s_vl (k_B σ (cN y)) j)) (R.vl I hcy hvy (by omega)) ?_
                            refine yy_aload_n F d_M_same_224 (n := 225) rfl 5 rfl ?_
                            refine yy_get F X.1 X.2.1 g_M_22_M Pw_7.o rfl d_M_same_225 (n := 228) rfl ?_
                            refine yy_iload F d_M_same_228 (n := 230) rfl 1 rfl ?_
                            refine ma_ld (j := 4) (i := (24 * k_bs σ (cN x) + (k_start σ (cN x) + p))) F X Pw_7 (by decide) (show 24 * k_bs σ (cN x) + (k_start σ (cN x) + p) < 240 by omega) d_M_same_230 (n' := 231) rfl ?_
                            refine yy_tope (y := (s_vl (k_B σ (cN x)) (k_start σ (cN x) + p))) (R.vl I hc hv (by omega)) ?_
                            refine yy_ic_ne (tgt := 238) F d_M_same_231 (n := 234) rfl (by decide) (fun hn => ?_) (fun hn => ?_)
                            · refine yy_iconst (v := 0) F d_M_same_238 (n := 239) rfl rfl ?_
                              refine yy_tope (y := (ym_n (ym_all (fun i => k_has σ (cN y) (s_nu (k_B σ (cN x)) (k_start σ (cN x) + i)) (s_vl (k_B σ (cN x)) (k_start σ (cN x) + i))) (p + 1)))) ((congrArg ym_n (has.trans (congr (congrArg and hA) (hh9.trans (decide_eq_false (fun q => hn q.symm)))))).symm) ?_
                              refine yy_istore (lv' := [(4, .int (ym_n (ym_all (fun i => k_has σ (cN y) (s_nu (k_B σ (cN x)) (k_start σ (cN x) + i)) (s_vl (k_B σ (cN x)) (k_start σ (cN x) + i))) (p + 1)))), (7, .int (nI j)), (6, .int (nI (24 * k_bs σ (cN x) + (k_start σ (cN x) + p)))), (5, .int (nI p)), (3, .int 0), (0, .ref a), (1, .int (nI (cN x))), (2, .int (nI (cN y)))]) F d_M_same_239 (n := 241) rfl (by decide) rfl ?_
                              refine yy_iinc (v := nI (p + 1)) (lv' := [(5, .int (nI (p + 1))), (4, .int (ym_n (ym_all (fun i => k_has σ (cN y) (s_nu (k_B σ (cN x)) (k_start σ (cN x) + i)) (s_vl (k_B σ (cN x)) (k_start σ (cN x) + i))) (p + 1)))), (7, .int (nI j)), (6, .int (nI (24 * k_bs σ (cN x) + (k_start σ (cN x) + p)))), (3, .int 0), (0, .ref a), (1, .int (nI (cN x))), (2, .int (nI (cN y)))]) F d_M_same_241 (n := 244) rfl 3 rfl (nI_1 _) (by decide) rfl ?_
                              refine yy_goto (tgt := 117) F d_M_same_244 (by decide) ?_
                              exact yy_sub [0, 1, 4, 5, 6, 7] rfl (ih (p + 1) _ (by omega) hSw_25)
                            · refine yy_iconst (v := 1) F d_M_same_234 (n := 235) rfl rfl ?_
                              refine yy_goto (tgt := 239) F d_M_same_235 (by decide) ?_
                              refine yy_tope (y := (ym_n (ym_all (fun i => k_has σ (cN y) (s_nu (k_B σ (cN x)) (k_start σ (cN x) + i)) (s_vl (k_B σ (cN x)) (k_start σ (cN x) + i))) (p + 1)))) ((congrArg ym_n (has.trans (congr (congrArg and hA) (hh9.trans (decide_eq_true hn.symm))))).symm) ?_
                              refine yy_istore (lv' := [(4, .int (ym_n (ym_all (fun i => k_has σ (cN y) (s_nu (k_B σ (cN x)) (k_start σ (cN x) + i)) (s_vl (k_B σ (cN x)) (k_start σ (cN x) + i))) (p + 1)))), (7, .int (nI j)), (6, .int (nI (24 * k_bs σ (cN x) + (k_start σ (cN x) + p)))), (5, .int (nI p)), (3, .int 0), (0, .ref a), (1, .int (nI (cN x))), (2, .int (nI (cN y)))]) F d_M_same_239 (n := 241) rfl (by decide) rfl ?_
                              refine yy_iinc (v := nI (p + 1)) (lv' := [(5, .int (nI (p + 1))), (4, .int (ym_n (ym_all (fun i => k_has σ (cN y) (s_nu (k_B σ (cN x)) (k_start σ (cN x) + i)) (s_vl (k_B σ (cN x)) (k_start σ (cN x) + i))) (p + 1)))), (7, .int (nI j)), (6, .int (nI (24 * k_bs σ (cN x) + (k_start σ (cN x) + p)))), (3, .int 0), (0, .ref a), (1, .int (nI (cN x))), (2, .int (nI (cN y)))]) F d_M_same_241 (n := 244) rfl 3 rfl (nI_1 _) (by decide) rfl ?_
                              refine yy_goto (tgt := 117) F d_M_same_244 (by decide) ?_
                              exact yy_sub [0, 1, 4, 5, 6, 7] rfl (ih (p + 1) _ (by omega) hSw_25)
                    exact yy_sub [0, 1, 2, 3, 4, 5] rfl (loop _ 0 _ (Nat.zero_add _) hSw_21)
                  · have hz2 : ¬ k_size σ (cN x) = k_size σ (cN y) := fun q => hz (by rw [q])
                    refine yy_iconst (v := 0) F d_M_same_109 (n := 110) rfl rfl ?_
                    have hr9 : sp_same σ x y = (none, ym_n (k_sam σ (cN x) (cN y)), σ) := by unfold sp_same; unfold ch_con; rw [hin, hin2, hs, hs2]; rfl
                    exact yy_zret F hSw_21 ⟨Nat.zero_le _, Nat.zero_le _⟩ rfl rfl d_M_same_110 (mq_i (o := none) hr9 R Pw_7 kw_7 (by decide) (fun _ => by rw [hsam, hm, hm2]; unfold k_eqp; rw [decide_eq_false hz2]; rfl))
            · refine yy_if_eq_f (tgt := 74) F d_M_same_67 (n := 70) rfl (by decide) (by decide) ?_
              have hsam : k_sam σ (cN x) (cN y) = k_eqn σ (cN x) (cN y) := if_pos (by rw [hl, hl2]; rfl)
              have h5 := k_lb5 I hc hl
              have h5y := k_lb5 I hcy hl2
              refine yy_iconst (v := 1) F d_M_same_70 (n := 71) rfl rfl ?_
              refine yy_goto (tgt := 75) F d_M_same_71 (by decide) ?_
              refine yy_istore_n (lv' := [(3, .int 1), (0, .ref a), (1, .int (nI (cN x))), (2, .int (nI (cN y)))]) F d_M_same_75 (n := 76) rfl (by decide) rfl ?_
              refine yy_iload_n F d_M_same_76 (n := 77) rfl 0 rfl ?_
              refine yy_if_ne_t (tgt := 96) F d_M_same_77 (by decide) (by decide) ?_
              refine yy_aload_n F d_M_same_96 (n := 97) rfl 1 rfl ?_
              refine yy_iload_n F d_M_same_97 (n := 98) rfl 2 rfl ?_
              refine yy_cri (w := (nI (k_size σ (cN x)))) F hSw_17 (c_M_sizeOf X I R hc) (yy_Bc F X.1 q_934 q_3) (yy_invV (nA := 1) (C := R_M) (bytes := b_M_sizeOf) (maxL := 4) (retY := (some .int)) F X.1 q_931 q_933 qs_M_sizeOf q_934 ⟨by decide, by decide, by decide +kernel⟩ (yy_recv F.N X.2.1 (ci := 6) rfl Pw_7.o) rfl d_M_same_98) d_M_same_98 (n := 101) rfl (by simp [Value.category]) ⟨by decide, by decide⟩ ⟨Nat.zero_le _, Nat.zero_le _⟩ ⟨rfl, rfl⟩ Pw_7 rfl (fun _ hSw_26 => ?_)
              refine yy_aload_n F d_M_same_101 (n := 102) rfl 1 rfl ?_
              refine yy_iload_n F d_M_same_102 (n := 103) rfl 3 rfl ?_
              refine yy_cri (w := (nI (k_size σ (cN y)))) F hSw_26 (c_M_sizeOf X I R hcy) (yy_Bc F X.1 q_934 q_3) (yy_invV (nA := 1) (C := R_M) (bytes := b_M_sizeOf) (maxL := 4) (retY := (some .int)) F X.1 q_931 q_933 qs_M_sizeOf q_934 ⟨by decide, by decide, by decide +kernel⟩ (yy_recv F.N X.2.1 (ci := 6) rfl Pw_7.o) rfl d_M_same_103) d_M_same_103 (n := 106) rfl (by simp [Value.category]) ⟨by decide, by decide⟩ ⟨Nat.zero_le _, Nat.zero_le _⟩ ⟨rfl, rfl⟩ Pw_7 rfl (fun _ hSw_27 => ?_)
              refine yy_ic_eq (tgt := 111) F d_M_same_106 (n := 109) rfl (by decide) (fun hz => ?_) (fun hz => ?_)
              · have hz2 : k_size σ (cN x) = k_size σ (cN y) := (nI_eq (by omega) (by omega)).mp hz
                refine yy_iconst (v := 1) F d_M_same_111 (n := 112) rfl rfl ?_
                refine yy_tope (y := (ym_n (ym_all (fun i => decide (s_nu (k_B σ (cN x)) (k_start σ (cN x) + i) = s_nu (k_B σ (cN y)) (k_start σ (cN y) + i))) 0))) rfl ?_
                refine yy_istore (lv' := [(4, .int (ym_n (ym_all (fun i => decide (s_nu (k_B σ (cN x)) (k_start σ (cN x) + i) = s_nu (k_B σ (cN y)) (k_start σ (cN y) + i))) 0))), (3, .int 1), (0, .ref a), (1, .int (nI (cN x))), (2, .int (nI (cN y)))]) F d_M_same_112 (n := 114) rfl (by decide) rfl ?_
                refine yy_iconst (v := 0) F d_M_same_114 (n := 115) rfl rfl ?_
                refine yy_tope (y := (nI 0)) rfl ?_
                refine yy_istore (lv' := [(5, .int (nI 0)), (4, .int (ym_n (ym_all (fun i => decide (s_nu (k_B σ (cN x)) (k_start σ (cN x) + i) = s_nu (k_B σ (cN y)) (k_start σ (cN y) + i))) 0))), (3, .int 1), (0, .ref a), (1, .int (nI (cN x))), (2, .int (nI (cN y)))]) F d_M_same_115 (n := 117) rfl (by decide) rfl ?_
                have loop : ∀ (d p : Nat) (locs : List Loc), p + d = k_size σ (cN x) → yy_S z Hw_7 locs → yy_Y b Hw_7 locs (0, 0) 117 [(5, .int (nI p)), (4, .int (ym_n (ym_all (fun i => decide (s_nu (k_B σ (cN x)) (k_start σ (cN x) + i) = s_nu (k_B σ (cN y)) (k_start σ (cN y) + i))) p))), (3, .int 1), (0, .ref a), (1, .int (nI (cN x))), (2, .int (nI (cN y)))] [] := by
                  intro d
                  induction d with
                  | zero =>
                    intro p locs hd S1
                    have hp9 : p = k_size σ (cN x) := by omega
                    subst hp9
                    refine yy_iload F d_M_same_117 (n := 119) rfl 0 rfl ?_
                    refine yy_aload_n F d_M_same_119 (n := 120) rfl 3 rfl ?_
                    refine yy_iload_n F d_M_same_120 (n := 121) rfl 4 rfl ?_
                    refine yy_cri (w := (nI (k_size σ (cN x)))) F S1 (c_M_sizeOf X I R hc) (yy_Bc F X.1 q_934 q_3) (yy_invV (nA := 1) (C := R_M) (bytes := b_M_sizeOf) (maxL := 4) (retY := (some .int)) F X.1 q_931 q_933 qs_M_sizeOf q_934 ⟨by decide, by decide, by decide +kernel⟩ (yy_recv F.N X.2.1 (ci := 6) rfl Pw_7.o) rfl d_M_same_121) d_M_same_121 (n := 124) rfl (by simp [Value.category]) ⟨by decide, by decide⟩ ⟨Nat.zero_le _, Nat.zero_le _⟩ ⟨rfl, rfl⟩ Pw_7 rfl (fun _ hSw_28 => ?_)
                    refine yy_ic_ge_t (tgt := 247) F d_M_same_124 (by decide) (nI_le (by omega) (by omega)) ?_
                    refine yy_iload F d_M_same_247 (n := 249) rfl 1 rfl ?_
                    have hr9 : sp_same σ x y = (none, ym_n (k_sam σ (cN x) (cN y)), σ) := by unfold sp_same; unfold ch_con; rw [hin, hin2, hs, hs2]; rfl
                    exact yy_zret F hSw_28 ⟨Nat.zero_le _, Nat.zero_le _⟩ rfl (nar_n _) d_M_same_249 (mq_i (o := none) hr9 R Pw_7 kw_7 (by decide) (fun _ => by rw [hsam]; unfold k_eqn; rw [decide_eq_true hz2, Bool.true_and]; exact congrArg ym_n (ym_all_dec (fun i => decide_eq_true_iff))))
                  | succ d ih =>
                    intro p locs hd S1
                    have has : ym_all (fun i => decide (s_nu (k_B σ (cN x)) (k_start σ (cN x) + i) = s_nu (k_B σ (cN y)) (k_start σ (cN y) + i))) (p + 1) = (ym_all (fun i => decide (s_nu (k_B σ (cN x)) (k_start σ (cN x) + i) = s_nu (k_B σ (cN y)) (k_start σ (cN y) + i))) p && (decide (s_nu (k_B σ (cN x)) (k_start σ (cN x) + p) = s_nu (k_B σ (cN y)) (k_start σ (cN y) + p)))) := rfl
                    refine yy_iload F d_M_same_117 (n := 119) rfl 0 rfl ?_
                    refine yy_aload_n F d_M_same_119 (n := 120) rfl 3 rfl ?_
                    refine yy_iload_n F d_M_same_120 (n := 121) rfl 4 rfl ?_
                    refine yy_cri (w := (nI (k_size σ (cN x)))) F S1 (c_M_sizeOf X I R hc) (yy_Bc F X.1 q_934 q_3) (yy_invV (nA := 1) (C := R_M) (bytes := b_M_sizeOf) (maxL := 4) (retY := (some .int)) F X.1 q_931 q_933 qs_M_sizeOf q_934 ⟨by decide, by decide, by decide +kernel⟩ (yy_recv F.N X.2.1 (ci := 6) rfl Pw_7.o) rfl d_M_same_121) d_M_same_121 (n := 124) rfl (by simp [Value.category]) ⟨by decide, by decide⟩ ⟨Nat.zero_le _, Nat.zero_le _⟩ ⟨rfl, rfl⟩ Pw_7 rfl (fun _ hSw_29 => ?_)
                    refine yy_ic_ge_f (tgt := 247) F d_M_same_124 (n := 127) rfl (by decide) (nI_ge (by omega) (by omega)) ?_
                    refine yy_aload_n F d_M_same_127 (n := 128) rfl 3 rfl ?_
                    refine yy_iload_n F d_M_same_128 (n := 129) rfl 4 rfl ?_
                    refine yy_iload F d_M_same_129 (n := 131) rfl 0 rfl ?_
                    refine yy_cri (w := (nI (24 * k_bs σ (cN x) + (k_start σ (cN x) + p)))) F hSw_29 (c_M_at (x := nI p) (q := k_start σ (cN x) + p) X I R hc (nI_add _ _)) (yy_Bc F X.1 q_962 q_3) (yy_invV (nA := 2) (C := R_M) (bytes := b_M_at) (maxL := 3) (retY := (some .int)) F X.1 q_959 q_961 qs_M_at q_962 ⟨by decide, by decide, by decide +kernel⟩ (yy_recv F.N X.2.1 (ci := 6) rfl Pw_7.o) rfl d_M_same_131) d_M_same_131 (n := 134) rfl (by simp [Value.category]) ⟨by decide, by decide⟩ ⟨Nat.zero_le _, Nat.zero_le _⟩ ⟨rfl, rfl⟩ Pw_7 rfl (fun _ hSw_30 => ?_)
                    refine yy_istore (lv' := [(6, .int (nI (24 * k_bs σ (cN x) + (k_start σ (cN x) + p)))), (5, .int (nI p)), (4, .int (ym_n (ym_all (fun i => decide (s_nu (k_B σ (cN x)) (k_start σ (cN x) + i) = s_nu (k_B σ (cN y)) (k_start σ (cN y) + i))) p))), (3, .int 1), (0, .ref a), (1, .int (nI (cN x))), (2, .int (nI (cN y)))]) F d_M_same_134 (n := 136) rfl (by decide) rfl ?_
                    refine yy_iload_n F d_M_same_136 (n := 137) rfl 3 rfl ?_
                    refine yy_if_eq_f (tgt := 151) F d_M_same_137 (n := 140) rfl (by decide) (by decide) ?_
                    refine yy_aload_n F d_M_same_140 (n := 141) rfl 4 rfl ?_
                    refine yy_iload_n F d_M_same_141 (n := 142) rfl 6 rfl ?_
                    refine yy_cri (w := (nI (k_start σ (cN y)))) F hSw_30 (c_M_placeIn X I R hcy) (yy_Bc F X.1 q_942 q_3) (yy_invV (nA := 1) (C := R_M) (bytes := b_M_placeIn) (maxL := 3) (retY := (some .int)) F X.1 q_939 q_941 qs_M_placeIn q_942 ⟨by decide, by decide, by decide +kernel⟩ (yy_recv F.N X.2.1 (ci := 6) rfl Pw_7.o) rfl d_M_same_142) d_M_same_142 (n := 145) rfl (by simp [Value.category]) ⟨by decide, by decide⟩ ⟨Nat.zero_le _, Nat.zero_le _⟩ ⟨rfl, rfl⟩ Pw_7 rfl (fun _ hSw_31 => ?_)
                    refine yy_iload F d_M_same_145 (n := 147) rfl 1 rfl ?_
                    refine yy_iadd F d_M_same_147 (n := 148) rfl ?_
                    refine yy_tope (y := (nI (k_start σ (cN y) + p))) (nI_add _ _) ?_
                    refine yy_goto (tgt := 163) F d_M_same_148 (by decide) ?_
                    refine yy_istore (lv' := [(7, .int (nI (k_start σ (cN y) + p))), (6, .int (nI (24 * k_bs σ (cN x) + (k_start σ (cN x) + p)))), (5, .int (nI p)), (4, .int (ym_n (ym_all (fun i => decide (s_nu (k_B σ (cN x)) (k_start σ (cN x) + i) = s_nu (k_B σ (cN y)) (k_start σ (cN y) + i))) p))), (3, .int 1), (0, .ref a), (1, .int (nI (cN x))), (2, .int (nI (cN y)))]) F d_M_same_163 (n := 165) rfl (by decide) rfl ?_
                    refine yy_iload F d_M_same_165 (n := 167) rfl 3 rfl ?_
                    cases hA : ym_all (fun i => decide (s_nu (k_B σ (cN x)) (k_start σ (cN x) + i) = s_nu (k_B σ (cN y)) (k_start σ (cN y) + i))) p
                    · refine yy_if_eq_t (tgt := 238) F d_M_same_167 (by decide) rfl ?_
                      refine yy_iconst (v := 0) F d_M_same_238 (n := 239) rfl rfl ?_
                      refine yy_tope (y := (ym_n (ym_all (fun i => decide (s_nu (k_B σ (cN x)) (k_start σ (cN x) + i) = s_nu (k_B σ (cN y)) (k_start σ (cN y) + i))) (p + 1)))) ((congrArg ym_n (has.trans (congrFun (congrArg and hA) _))).symm) ?_
                      refine yy_istore (lv' := [(4, .int (ym_n (ym_all (fun i => decide (s_nu (k_B σ (cN x)) (k_start σ (cN x) + i) = s_nu (k_B σ (cN y)) (k_start σ (cN y) + i))) (p + 1)))), (7, .int (nI (k_start σ (cN y) + p))), (6, .int (nI (24 * k_bs σ (cN x) + (k_start σ (cN x) + p)))), (5, .int (nI p)), (3, .int 1), (0, .ref a), (1, .int (nI (cN x))), (2, .int (nI (cN y)))]) F d_M_same_239 (n := 241) rfl (by decide) rfl ?_
                      refine yy_iinc (v := nI (p + 1)) (lv' := [(5, .int (nI (p + 1))), (4, .int (ym_n (ym_all (fun i => decide (s_nu (k_B σ (cN x)) (k_start σ (cN x) + i) = s_nu (k_B σ (cN y)) (k_start σ (cN y) + i))) (p + 1)))), (7, .int (nI (k_start σ (cN y) + p))), (6, .int (nI (24 * k_bs σ (cN x) + (k_start σ (cN x) + p)))), (3, .int 1), (0, .ref a), (1, .int (nI (cN x))), (2, .int (nI (cN y)))]) F d_M_same_241 (n := 244) rfl 3 rfl (nI_1 _) (by decide) rfl ?_
                      refine yy_goto (tgt := 117) F d_M_same_244 (by decide) ?_
                      exact yy_sub [0, 1, 4, 5, 6, 7] rfl (ih (p + 1) _ (by omega) hSw_31)
                    · refine yy_if_eq_f (tgt := 238) F d_M_same_167 (n := 170) rfl (by decide) (by decide) ?_
                      refine yy_iload F d_M_same_170 (n := 172) rfl 0 rfl ?_
                      refine yy_iconst (v := (-1)) F d_M_same_172 (n := 173) rfl rfl ?_
                      refine yy_ic_eq_f (tgt := 238) F d_M_same_173 (n := 176) rfl (by decide) (ym_nm1 (by omega)) ?_
                      refine yy_aload_n F d_M_same_176 (n := 177) rfl 5 rfl ?_
                      refine yy_get F X.1 X.2.1 g_M_19_M Pw_7.o rfl d_M_same_177 (n := 180) rfl ?_
                      refine yy_bipush (v := 24) F d_M_same_180 (n := 182) rfl rfl ?_
                      refine yy_aload_n F d_M_same_182 (n := 183) rfl 5 rfl ?_
                      refine yy_get F X.1 X.2.1 g_M_16_M Pw_7.o rfl d_M_same_183 (n := 186) rfl ?_
                      refine yy_iload_n F d_M_same_186 (n := 187) rfl 7 rfl ?_
                      refine ma_ld (j := 2) (i := (cN y)) F X Pw_7 (by decide) (show cN y < 10 by omega) d_M_same_187 (n' := 188) rfl ?_
                      refine yy_tope (y := (nI (k_bs σ (cN y)))) (R.bs hcy) ?_
                      refine yy_imul F d_M_same_188 (n := 189) rfl ?_
                      refine yy_tope (y := (nI (24 * (k_bs σ (cN y))))) (pk_mul 24 _) ?_
                      refine yy_iload F d_M_same_189 (n := 191) rfl 0 rfl ?_
                      refine yy_iadd F d_M_same_191 (n := 192) rfl ?_
                      refine yy_tope (y := (nI (24 * (k_bs σ (cN y)) + (k_start σ (cN y) + p)))) (nI_add _ _) ?_
                      refine ma_ld (j := 3) (i := (24 * (k_bs σ (cN y)) + (k_start σ (cN y) + p))) F X Pw_7 (by decide) (show 24 * (k_bs σ (cN y)) + (k_start σ (cN y) + p) < 240 by omega) d_M_same_192 (n' := 193) rfl ?_
                      refine yy_tope (y := (s_nu (k_B σ (cN y)) (k_start σ (cN y) + p))) (R.nu I hcy h5y (by omega)) ?_
                      refine yy_aload_n F d_M_same_193 (n := 194) rfl 5 rfl ?_
                      refine yy_get F X.1 X.2.1 g_M_19_M Pw_7.o rfl d_M_same_194 (n := 197) rfl ?_
                      refine yy_iload F d_M_same_197 (n := 199) rfl 1 rfl ?_
                      refine ma_ld (j := 3) (i := (24 * k_bs σ (cN x) + (k_start σ (cN x) + p))) F X Pw_7 (by decide) (show 24 * k_bs σ (cN x) + (k_start σ (cN x) + p) < 240 by omega) d_M_same_199 (n' := 200) rfl ?_
                      refine yy_tope (y := (s_nu (k_B σ (cN x)) (k_start σ (cN x) + p))) (R.nu I hc h5 (by omega)) ?_
                      refine yy_ic_ne (tgt := 238) F d_M_same_200 (n := 203) rfl (by decide) (fun hn => ?_) (fun hn => ?_)
                      · refine yy_iconst (v := 0) F d_M_same_238 (n := 239) rfl rfl ?_
                        refine yy_tope (y := (ym_n (ym_all (fun i => decide (s_nu (k_B σ (cN x)) (k_start σ (cN x) + i) = s_nu (k_B σ (cN y)) (k_start σ (cN y) + i))) (p + 1)))) ((congrArg ym_n (has.trans (congr (congrArg and hA) (decide_eq_false (fun q => hn q.symm))))).symm) ?_
                        refine yy_istore (lv' := [(4, .int (ym_n (ym_all (fun i => decide (s_nu (k_B σ (cN x)) (k_start σ (cN x) + i) = s_nu (k_B σ (cN y)) (k_start σ (cN y) + i))) (p + 1)))), (7, .int (nI (k_start σ (cN y) + p))), (6, .int (nI (24 * k_bs σ (cN x) + (k_start σ (cN x) + p)))), (5, .int (nI p)), (3, .int 1), (0, .ref a), (1, .int (nI (cN x))), (2, .int (nI (cN y)))]) F d_M_same_239 (n := 241) rfl (by decide) rfl ?_
                        refine yy_iinc (v := nI (p + 1)) (lv' := [(5, .int (nI (p + 1))), (4, .int (ym_n (ym_all (fun i => decide (s_nu (k_B σ (cN x)) (k_start σ (cN x) + i) = s_nu (k_B σ (cN y)) (k_start σ (cN y) + i))) (p + 1)))), (7, .int (nI (k_start σ (cN y) + p))), (6, .int (nI (24 * k_bs σ (cN x) + (k_start σ (cN x) + p)))), (3, .int 1), (0, .ref a), (1, .int (nI (cN x))), (2, .int (nI (cN y)))]) F d_M_same_241 (n := 244) rfl 3 rfl (nI_1 _) (by decide) rfl ?_
                        refine yy_goto (tgt := 117) F d_M_same_244 (by decide) ?_
                        exact yy_sub [0, 1, 4, 5, 6, 7] rfl (ih (p + 1) _ (by omega) hSw_31)
                      · refine yy_iload_n F d_M_same_203 (n := 204) rfl 4 rfl ?_
                        refine yy_if_ne_t (tgt := 234) F d_M_same_204 (by decide) (by decide) ?_
                        refine yy_iconst (v := 1) F d_M_same_234 (n := 235) rfl rfl ?_
                        refine yy_goto (tgt := 239) F d_M_same_235 (by decide) ?_
                        refine yy_tope (y := (ym_n (ym_all (fun i => decide (s_nu (k_B σ (cN x)) (k_start σ (cN x) + i) = s_nu (k_B σ (cN y)) (k_start σ (cN y) + i))) (p + 1)))) ((congrArg ym_n (has.trans (congr (congrArg and hA) (decide_eq_true hn.symm)))).symm) ?_
                        refine yy_istore (lv' := [(4, .int (ym_n (ym_all (fun i => decide (s_nu (k_B σ (cN x)) (k_start σ (cN x) + i) = s_nu (k_B σ (cN y)) (k_start σ (cN y) + i))) (p + 1)))), (7, .int (nI (k_start σ (cN y) + p))), (6, .int (nI (24 * k_bs σ (cN x) + (k_start σ (cN x) + p)))), (5, .int (nI p)), (3, .int 1), (0, .ref a), (1, .int (nI (cN x))), (2, .int (nI (cN y)))]) F d_M_same_239 (n := 241) rfl (by decide) rfl ?_
                        refine yy_iinc (v := nI (p + 1)) (lv' := [(5, .int (nI (p + 1))), (4, .int (ym_n (ym_all (fun i => decide (s_nu (k_B σ (cN x)) (k_start σ (cN x) + i) = s_nu (k_B σ (cN y)) (k_start σ (cN y) + i))) (p + 1)))), (7, .int (nI (k_start σ (cN y) + p))), (6, .int (nI (24 * k_bs σ (cN x) + (k_start σ (cN x) + p)))), (3, .int 1), (0, .ref a), (1, .int (nI (cN x))), (2, .int (nI (cN y)))]) F d_M_same_241 (n := 244) rfl 3 rfl (nI_1 _) (by decide) rfl ?_
                        refine yy_goto (tgt := 117) F d_M_same_244 (by decide) ?_
                        exact yy_sub [0, 1, 4, 5, 6, 7] rfl (ih (p + 1) _ (by omega) hSw_31)
                exact yy_sub [0, 1, 2, 3, 4, 5] rfl (loop _ 0 _ (Nat.zero_add _) hSw_27)
              · have hz2 : ¬ k_size σ (cN x) = k_size σ (cN y) := fun q => hz (by rw [q])
                refine yy_iconst (v := 0) F d_M_same_109 (n := 110) rfl rfl ?_
                have hr9 : sp_same σ x y = (none, ym_n (k_sam σ (cN x) (cN y)), σ) := by unfold sp_same; unfold ch_con; rw [hin, hin2, hs, hs2]; rfl
                exact yy_zret F hSw_27 ⟨Nat.zero_le _, Nat.zero_le _⟩ rfl rfl d_M_same_110 (mq_i (o := none) hr9 R Pw_7 kw_7 (by decide) (fun _ => by rw [hsam]; unfold k_eqn; rw [decide_eq_false hz2]; rfl))
        · refine yy_if_eq_f (tgt := 41) F d_M_same_34 (n := 37) rfl (by decide) (by decide) ?_
          refine yy_iconst (v := 2) F d_M_same_37 (n := 38) rfl rfl ?_
          refine yy_goto (tgt := 42) F d_M_same_38 (by decide) ?_
          refine ma_code F X g_M_55_M hP hSw_6 d_M_same_42 (n' := 45) rfl (fun Hw_32 locs_w_32 Pw_32 kw_32 Sw_32 => ?_)
          have kw_32 := kpm.rf.tr kw_32
          refine yy_aload_n F d_M_same_45 (n := 46) rfl 0 rfl ?_
          refine yy_get F X.1 X.2.1 g_M_55_M Pw_32.o rfl d_M_same_46 (n := 49) rfl ?_
          refine yy_if_le_f (tgt := 54) F d_M_same_49 (n := 52) rfl (by decide) (by decide) ?_
          refine yy_iconst (v := 0) F d_M_same_52 (n := 53) rfl rfl ?_
          exact yy_zret F Sw_32 ⟨Nat.zero_le _, Nat.zero_le _⟩ rfl rfl d_M_same_53 (mq_i (o := some e_rt) (v := 0) (σ := σ) (by unfold sp_same; unfold ch_con; rw [hin, hin2, hs, hs2]; rfl) R Pw_32 kw_32 (by decide) (fun h => by cases h))
      · refine yy_if_ne_t (tgt := 37) F d_M_same_26 (by decide) (by decide) ?_
        refine yy_iconst (v := 2) F d_M_same_37 (n := 38) rfl rfl ?_
        refine yy_goto (tgt := 42) F d_M_same_38 (by decide) ?_
        refine ma_code F X g_M_55_M hP hSw_5 d_M_same_42 (n' := 45) rfl (fun Hw_33 locs_w_33 Pw_33 kw_33 Sw_33 => ?_)
        have kw_33 := kpm.rf.tr kw_33
        refine yy_aload_n F d_M_same_45 (n := 46) rfl 0 rfl ?_
        refine yy_get F X.1 X.2.1 g_M_55_M Pw_33.o rfl d_M_same_46 (n := 49) rfl ?_
        refine yy_if_le_f (tgt := 54) F d_M_same_49 (n := 52) rfl (by decide) (by decide) ?_
        refine yy_iconst (v := 0) F d_M_same_52 (n := 53) rfl rfl ?_
        exact yy_zret F Sw_33 ⟨Nat.zero_le _, Nat.zero_le _⟩ rfl rfl d_M_same_53 (mq_i (o := some e_rt) (v := 0) (σ := σ) (by unfold sp_same; unfold ch_con; rw [hin, hin2, hs]; rfl) R Pw_33 kw_33 (by decide) (fun h => by cases h))
