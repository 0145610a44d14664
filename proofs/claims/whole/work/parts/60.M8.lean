/-! PART M8: the reference's calls that change: sort, put .. plant -/
theorem k_size_li {σ : ks} {c : Nat} {q : kS} (h7 : ¬ k_kd σ c = 7) (h1 : s_ct q = s_ct (k_B σ c)) : k_size (k_setS σ (k_bs σ c) q) c = k_size σ c := by
  unfold k_size
  rw [k_B_set, h1]
  by_cases h6 : k_kd σ c = 6
  · rw [if_pos (c := k_kd (k_setS σ (k_bs σ c) q) c = 6) h6, if_pos h6]
    rfl
  · rw [if_neg (c := k_kd (k_setS σ (k_bs σ c) q) c = 6) h6, if_neg h6, if_neg (c := k_kd (k_setS σ (k_bs σ c) q) c = 7) h7, if_neg h7]
theorem k_mp {kd : Int32} (h : k_isl kd = false) (h5 : ¬ kd = 5) (h8 : kd = 0 ∨ kd = 1 ∨ kd = 2 ∨ kd = 3 ∨ kd = 4 ∨ kd = 5 ∨ kd = 6 ∨ kd = 7) : k_ism kd = true := by
  rcases h8 with q | q | q | q | q | q | q | q <;> subst q <;> first | rfl | exact absurd h (by decide) | exact absurd rfl h5
set_option maxRecDepth 100000 in
set_option maxHeartbeats 4000000 in
theorem c_M_sort {l : Launch} {z : State} {a0 : Array Value} {D : va_G} {ca : kca} (X : kcx l z a0 D ca) {a n : Nat} {cd : Int32} {s : ms} {σ : ks} {t : Nat} (I : iv t σ) (R : mr s σ) {x how : Int32} : yy_M l z y_M_sort (.code y_M_sort b_M_sort 7 none) ({ frames := 2, cells := 0, slots := 0, locals := 45 }) [.ref a, .int x, .int how] (mo_at D ca z a n cd s) (mqv D ca z a n [e_io, e_uo, e_ia, e_rt] (sp_sort σ x how)) := by
  refine yy_body (plainFor_of_name (by decide)) (Nat.le_of_ble_eq_true rfl) (fun b H F hS hP hH hnm => ?_)
  have h10 := I.m10
  cases hE : ch_fl σ x with
  | some E =>
    have hin9 : E ∈ ([e_io, e_uo, e_ia, e_rt] : List String) := by rcases ch_fl_in I.m10 hE with rfl | rfl | rfl <;> decide
    obtain ⟨hc1, hc2⟩ := m_pos hin9 (by decide)
    refine yy_aload_n F d_M_sort_0 (n := 1) rfl 0 rfl ?_
    refine yy_aload_n F d_M_sort_1 (n := 2) rfl 0 rfl ?_
    refine yy_iload_n F d_M_sort_2 (n := 3) rfl 1 rfl ?_
    refine yy_iconst (v := 4) F d_M_sort_3 (n := 4) rfl rfl ?_
    refine yy_cri (w := (c_of [e_io, e_uo, e_ia, e_rt] (some E))) F hS (c_M_checkList (x := x) (e := 4) X I R) (yy_Bc F X.1 q_958 q_3) (yy_invV (nA := 2) (C := R_M) (bytes := b_M_checkList) (maxL := 3) (retY := (some .int)) F X.1 q_955 q_957 qs_M_checkList q_958 ⟨by decide, by decide, by decide +kernel⟩ (yy_recv F.N X.2.1 (ci := 6) rfl hP.o) rfl d_M_sort_4) d_M_sort_4 (n := 7) rfl (by simp [Value.category]) ⟨by decide, by decide⟩ ⟨Nat.zero_le _, Nat.zero_le _⟩ ⟨rfl, rfl⟩ hP (m_cl_E I.m10 hE (by decide) (by decide) (by decide)) (fun _ hSw_1 => ?_)
    refine ma_code F X g_M_55_M hP hSw_1 d_M_sort_7 (n' := 10) rfl (fun Hw_2 locs_w_2 Pw_2 kw_2 Sw_2 => ?_)
    have kw_2 := kpm.rf.tr kw_2
    refine yy_aload_n F d_M_sort_10 (n := 11) rfl 0 rfl ?_
    refine yy_get F X.1 X.2.1 g_M_55_M Pw_2.o rfl d_M_sort_11 (n := 14) rfl ?_
    refine yy_if_ne_t (tgt := 31) F d_M_sort_14 (by decide) hc2 ?_
    refine yy_aload_n F d_M_sort_31 (n := 32) rfl 0 rfl ?_
    refine yy_get F X.1 X.2.1 g_M_55_M Pw_2.o rfl d_M_sort_32 (n := 35) rfl ?_
    refine yy_if_le_f (tgt := 39) F d_M_sort_35 (n := 38) rfl (by decide) hc1 ?_
    exact yy_vret F Sw_2 ⟨Nat.zero_le _, Nat.zero_le _⟩ rfl d_M_sort_38 (mq_v (o := some E) (v := 0) (σ := σ) (by unfold sp_sort; rw [hE]; rfl) R Pw_2 kw_2 rfl)
  | none =>
    obtain ⟨hc, ex, hk, hs⟩ := ch_fl_none I.m10 hE
    have hb := I.bs hc
    have h24 := I.ct hc
    have hend := I.end hc (k_fr_of hs)
    refine yy_aload_n F d_M_sort_0 (n := 1) rfl 0 rfl ?_
    refine yy_aload_n F d_M_sort_1 (n := 2) rfl 0 rfl ?_
    refine yy_iload_n F d_M_sort_2 (n := 3) rfl 1 rfl ?_
    refine yy_iconst (v := 4) F d_M_sort_3 (n := 4) rfl rfl ?_
    refine yy_cri (w := 0) F hS (c_M_checkList (x := x) (e := 4) X I R) (yy_Bc F X.1 q_958 q_3) (yy_invV (nA := 2) (C := R_M) (bytes := b_M_checkList) (maxL := 3) (retY := (some .int)) F X.1 q_955 q_957 qs_M_checkList q_958 ⟨by decide, by decide, by decide +kernel⟩ (yy_recv F.N X.2.1 (ci := 6) rfl hP.o) rfl d_M_sort_4) d_M_sort_4 (n := 7) rfl (by simp [Value.category]) ⟨by decide, by decide⟩ ⟨Nat.zero_le _, Nat.zero_le _⟩ ⟨rfl, rfl⟩ hP (m_cl_0 hE) (fun _ hSw_3 => ?_)
    rw [show (Value.int x) = Value.int (nI (cN x)) from congrArg Value.int ex]
    have hb := I.bs hc
    have h5 := k_lb5 I hc hk
    have hkb := k_lb I hc hk
    have h7 : ¬ k_kd σ (cN x) = 7 := fun q => by rw [q] at hk; exact absurd hk (by decide)
    refine ma_code F X g_M_55_M hP hSw_3 d_M_sort_7 (n' := 10) rfl (fun Hw_4 locs_w_4 Pw_4 kw_4 Sw_4 => ?_)
    have kw_4 := kpm.rf.tr kw_4
    refine yy_aload_n F d_M_sort_10 (n := 11) rfl 0 rfl ?_
    refine yy_get F X.1 X.2.1 g_M_55_M Pw_4.o rfl d_M_sort_11 (n := 14) rfl ?_
    refine yy_if_ne_f (tgt := 31) F d_M_sort_14 (n := 17) rfl (by decide) (by decide) ?_
    refine yy_iload_n F d_M_sort_17 (n := 18) rfl 2 rfl ?_
    refine yy_if_lt (tgt := 26) F d_M_sort_18 (n := 21) rfl (by decide) (fun h0 => ?_) (fun h0 => ?_)
    · refine yy_aload_n F d_M_sort_26 (n := 27) rfl 0 rfl ?_
      refine yy_iconst (v := 3) F d_M_sort_27 (n := 28) rfl rfl ?_
      refine ma_code F X g_M_55_M Pw_4 Sw_4 d_M_sort_28 (n' := 31) rfl (fun Hw_5 locs_w_5 Pw_5 kw_5 Sw_5 => ?_)
      have kw_5 := kw_4.tr kw_5
      refine yy_aload_n F d_M_sort_31 (n := 32) rfl 0 rfl ?_
      refine yy_get F X.1 X.2.1 g_M_55_M Pw_5.o rfl d_M_sort_32 (n := 35) rfl ?_
      refine yy_if_le_f (tgt := 39) F d_M_sort_35 (n := 38) rfl (by decide) (by decide) ?_
      exact yy_vret F Sw_5 ⟨Nat.zero_le _, Nat.zero_le _⟩ rfl d_M_sort_38 (mq_v (o := some e_ia) (v := 0) (σ := σ) (by unfold sp_sort; rw [hE, show k_btw how 2 = false by simp [k_btw, h0]]; rfl) R Pw_5 kw_5 (by decide))
    · refine yy_iload_n F d_M_sort_21 (n := 22) rfl 2 rfl ?_
      refine yy_iconst (v := 2) F d_M_sort_22 (n := 23) rfl rfl ?_
      refine yy_ic_le (tgt := 31) F d_M_sort_23 (n := 26) rfl (by decide) (fun h2 => ?_) (fun h2 => ?_)
      · have hb2 : k_btw how 2 = true := by simp [k_btw, h0, Int32.not_lt.mpr h2]
        refine yy_aload_n F d_M_sort_31 (n := 32) rfl 0 rfl ?_
        refine yy_get F X.1 X.2.1 g_M_55_M Pw_4.o rfl d_M_sort_32 (n := 35) rfl ?_
        refine yy_if_le_t (tgt := 39) F d_M_sort_35 (by decide) (by decide) ?_
        refine yy_aload_n F d_M_sort_39 (n := 40) rfl 0 rfl ?_
        refine yy_iload_n F d_M_sort_40 (n := 41) rfl 1 rfl ?_
        refine yy_iconst (v := 0) F d_M_sort_41 (n := 42) rfl rfl ?_
        refine yy_cri (w := (nI (24 * k_bs σ (cN x) + k_start σ (cN x)))) F Sw_4 (c_M_at (x := 0) (q := k_start σ (cN x)) X I R hc (Int32.add_zero _)) (yy_Bc F X.1 q_962 q_3) (yy_invV (nA := 2) (C := R_M) (bytes := b_M_at) (maxL := 3) (retY := (some .int)) F X.1 q_959 q_961 qs_M_at q_962 ⟨by decide, by decide, by decide +kernel⟩ (yy_recv F.N X.2.1 (ci := 6) rfl Pw_4.o) rfl d_M_sort_42) d_M_sort_42 (n := 45) rfl (by simp [Value.category]) ⟨by decide, by decide⟩ ⟨Nat.zero_le _, Nat.zero_le _⟩ ⟨rfl, rfl⟩ Pw_4 rfl (fun _ hSw_7 => ?_)
        refine yy_istore_n (lv' := [(3, .int (nI (24 * k_bs σ (cN x) + k_start σ (cN x)))), (0, .ref a), (1, .int (nI (cN x))), (2, .int how)]) F d_M_sort_45 (n := 46) rfl (by decide) rfl ?_
        refine yy_iload_n F d_M_sort_46 (n := 47) rfl 0 rfl ?_
        refine yy_iconst (v := 1) F d_M_sort_47 (n := 48) rfl rfl ?_
        refine yy_iadd F d_M_sort_48 (n := 49) rfl ?_
        refine yy_tope (y := (nI (24 * k_bs σ (cN x) + k_start σ (cN x) + 1))) (nI_1 _) ?_
        refine yy_tope (y := (nI (24 * k_bs σ (cN x) + (k_start σ (cN x) + 1)))) (by rw [Nat.add_assoc]) ?_
        refine yy_istore (lv' := [(4, .int (nI (24 * k_bs σ (cN x) + (k_start σ (cN x) + 1)))), (3, .int (nI (24 * k_bs σ (cN x) + k_start σ (cN x)))), (0, .ref a), (1, .int (nI (cN x))), (2, .int how)]) F d_M_sort_49 (n := 51) rfl (by decide) rfl ?_
        obtain ⟨A, hA⟩ : ∃ A : ms → Prop, A = fun s1 => s1.1 = s.1 ∧ (∀ q, q ≠ 3 → s1.2 q = s.2 q) ∧ ∀ i, (i < 24 * k_bs σ (cN x) ∨ 24 * k_bs σ (cN x) + 24 ≤ i) → s1.2 3 i = s.2 3 i := ⟨_, rfl⟩
        have hR := R.ss I hc
        have st1 : ∀ (s1 : ms) (nu : Nat → Int32), A s1 → (∀ p, p < 24 → s1.2 3 (24 * k_bs σ (cN x) + p) = nu p) → mr s1 (k_setS σ (k_bs σ (cN x)) (s_ct (k_B σ (cN x)), s_ch (k_B σ (cN x)), s_ro (k_B σ (cN x)), nu, s_vl (k_B σ (cN x)))) ∧ iv t (k_setS σ (k_bs σ (cN x)) (s_ct (k_B σ (cN x)), s_ch (k_B σ (cN x)), s_ro (k_B σ (cN x)), nu, s_vl (k_B σ (cN x)))) := by
          intro s1 nu h1 h2
          rw [hA] at h1
          obtain ⟨a1, a2, a3⟩ := h1
          obtain ⟨i1, i2, i3, i4, i5, i6, i7⟩ := I.s hc
          refine ⟨R.setS hb ⟨a1, fun j hj => a2 j (by omega), fun j i hi hj => by rw [a2 j (by omega)], fun j i hi hj => ?_⟩ ⟨⟨?_, ?_, ?_⟩, fun _ p hp => h2 p hp, fun h => absurd h h5, fun h => absurd h (k_l234 hkb)⟩, I.setS ⟨i1, i2, i3, i4, i5, i6, fun q => ?_⟩ rfl rfl (fun q => ?_)⟩
          · rcases hj with rfl | rfl
            · exact a3 i hi
            · rw [a2 4 (by decide)]
          · rw [a2 5 (by decide)]; exact hR.1.1
          · rw [a2 6 (by decide)]; exact hR.1.2.1
          · rw [a2 7 (by decide)]; exact hR.1.2.2
          · rcases hkb with h | h <;> rcases q with q | q <;> exact absurd (h.symm.trans q) (by decide)
          · rcases hkb with h | h <;> exact absurd (h.symm.trans q) (by decide)
        have stA : ∀ (s1 : ms) (i : Nat) (v : Int32), A s1 → 24 * k_bs σ (cN x) ≤ i → i < 24 * k_bs σ (cN x) + 24 → A (m_set s1 3 i v) := by
          intro s1 i v h1 h2 h3
          rw [hA] at h1 ⊢
          exact ⟨h1.1, fun q hq => (m_set_o _ _ hq).trans (h1.2.1 q hq), fun j hj => (m_set_i _ _ _ (by omega)).trans (h1.2.2 j hj)⟩
        have loop : ∀ (d i : Nat) (s1 : ms) (H1 : Heap) (locs : List Loc), d = k_start σ (cN x) + k_size σ (cN x) - i → k_start σ (cN x) + 1 ≤ i → i ≤ 25 → A s1 → ym_so (24 * k_bs σ (cN x) + k_start σ (cN x)) how d (24 * k_bs σ (cN x) + i) (s1.2 3) = ym_so (24 * k_bs σ (cN x) + k_start σ (cN x)) how (k_start σ (cN x) + k_size σ (cN x) - (k_start σ (cN x) + 1)) (24 * k_bs σ (cN x) + (k_start σ (cN x) + 1)) (s.2 3) → mo_at D ca z a n 0 s1 H1 → kpm a n H H1 → yy_S z H1 locs → yy_Y b H1 locs (0, 0) 51 [(4, .int (nI (24 * k_bs σ (cN x) + i))), (3, .int (nI (24 * k_bs σ (cN x) + k_start σ (cN x)))), (0, .ref a), (1, .int (nI (cN x))), (2, .int how)] [] := by
          intro d
          induction d with
          | zero =>
            intro i s1 H1 locs hd hi hi25 A1 hF P1 k1 S1
            obtain ⟨Q0, I0⟩ := st1 s1 (fun p => s1.2 3 (24 * k_bs σ (cN x) + p)) A1 (fun _ _ => rfl)
            have hsz := k_size_li (q := (s_ct (k_B σ (cN x)), s_ch (k_B σ (cN x)), s_ro (k_B σ (cN x)), (fun p => s1.2 3 (24 * k_bs σ (cN x) + p)), s_vl (k_B σ (cN x)))) h7 rfl
            refine yy_iload F d_M_sort_51 (n := 53) rfl 0 rfl ?_
            refine yy_iload_n F d_M_sort_53 (n := 54) rfl 1 rfl ?_
            refine yy_aload_n F d_M_sort_54 (n := 55) rfl 2 rfl ?_
            refine yy_iload_n F d_M_sort_55 (n := 56) rfl 3 rfl ?_
            refine yy_cri (w := (nI (k_size σ (cN x)))) F S1 (c_M_sizeOf X I0 Q0 hc) (yy_Bc F X.1 q_934 q_3) (yy_invV (nA := 1) (C := R_M) (bytes := b_M_sizeOf) (maxL := 4) (retY := (some .int)) F X.1 q_931 q_933 qs_M_sizeOf q_934 ⟨by decide, by decide, by decide +kernel⟩ (yy_recv F.N X.2.1 (ci := 6) rfl P1.o) rfl d_M_sort_56) d_M_sort_56 (n := 59) rfl (by simp [Value.category]) ⟨by decide, by decide⟩ ⟨Nat.zero_le _, Nat.zero_le _⟩ ⟨rfl, rfl⟩ P1 (by rw [hsz]) (fun _ hSw_8 => ?_)
            refine yy_iadd F d_M_sort_59 (n := 60) rfl ?_
            refine yy_tope (y := (nI (24 * k_bs σ (cN x) + k_start σ (cN x) + k_size σ (cN x)))) (nI_add _ _) ?_
            refine yy_tope (y := (nI (24 * k_bs σ (cN x) + (k_start σ (cN x) + k_size σ (cN x))))) (by rw [Nat.add_assoc]) ?_
            refine yy_ic_ge_t (tgt := 137) F d_M_sort_60 (by decide) (nI_le (by omega) (by omega)) ?_
            have g3 : ∀ p, p < 24 → s1.2 3 (24 * k_bs σ (cN x) + p) = ym_so (k_start σ (cN x)) how (k_start σ (cN x) + k_size σ (cN x) - (k_start σ (cN x) + 1)) (k_start σ (cN x) + 1) (s_nu (k_B σ (cN x))) p := fun p hp => by
              have h9 : s1.2 3 = ym_so (24 * k_bs σ (cN x) + k_start σ (cN x)) how (k_start σ (cN x) + k_size σ (cN x) - (k_start σ (cN x) + 1)) (24 * k_bs σ (cN x) + (k_start σ (cN x) + 1)) (s.2 3) := hF
              rw [h9, (so_in how (k_bs σ (cN x)) (k_start σ (cN x)) _ (k_start σ (cN x) + 1) (s.2 3) (by omega)).1 p]
              exact so_cg _ _ (R.nu24 I hc h5) (by omega) p hp
            obtain ⟨Q1, I1⟩ := st1 s1 _ A1 g3
            obtain ⟨q, hq⟩ : ∃ q : kS, q = (s_ct (k_B σ (cN x)), s_ch (k_B σ (cN x)), s_ro (k_B σ (cN x)), ym_so (k_start σ (cN x)) how (k_start σ (cN x) + k_size σ (cN x) - (k_start σ (cN x) + 1)) (k_start σ (cN x) + 1) (s_nu (k_B σ (cN x))), s_vl (k_B σ (cN x))) := ⟨_, rfl⟩
            rw [← hq] at Q1 I1
            refine yy_aload_n F d_M_sort_137 (n := 138) rfl 2 rfl ?_
            refine yy_iload_n F d_M_sort_138 (n := 139) rfl 3 rfl ?_
            refine yy_iconst (v := 0) F d_M_sort_139 (n := 140) rfl rfl ?_
            refine yy_cv F hSw_8 (c_M_changed (σ := k_setS σ (k_bs σ (cN x)) q) (c := cN x) (g := fun m => m) X I1.wf Q1 hc (k_chn_all (fun m => Int32.add_zero _) _ _)) (yy_Bc F X.1 q_979 q_3) (yy_invV (nA := 2) (C := R_M) (bytes := b_M_changed) (maxL := 5) (retY := none) F X.1 q_976 q_978 qs_M_changed q_979 ⟨by decide, by decide, by decide +kernel⟩ (yy_recv F.N X.2.1 (ci := 6) rfl P1.o) rfl d_M_sort_140) d_M_sort_140 (n := 143) rfl (by simp [Value.category]) ⟨by decide, by decide⟩ ⟨Nat.zero_le _, Nat.zero_le _⟩ ⟨rfl, rfl⟩ P1 (fun Hw_9 locs_w_9 qw_9 Sw_9 => ?_)
            obtain ⟨s3, Q3, P3, k3⟩ := qw_9
            have k3 := k1.tr k3
            have e9 : k_bs (k_setS σ (k_bs σ (cN x)) q) (cN x) = k_bs σ (cN x) := rfl
            rw [e9, k_thru_m, hq] at Q3
            have R3 : mr s3 (k_arr σ (cN x) how) := Q3
            exact yy_vret F Sw_9 ⟨Nat.zero_le _, Nat.zero_le _⟩ rfl d_M_sort_143 (mq_v (o := none) (v := 0) (σ := (k_arr σ (cN x) how)) (by unfold sp_sort; rw [hE, hb2]; rfl) R3 P3 k3 (by decide))
          | succ d ih =>
            intro i s1 H1 locs hd hi hi25 A1 hF P1 k1 S1
            obtain ⟨Q0, I0⟩ := st1 s1 (fun p => s1.2 3 (24 * k_bs σ (cN x) + p)) A1 (fun _ _ => rfl)
            have hsz := k_size_li (q := (s_ct (k_B σ (cN x)), s_ch (k_B σ (cN x)), s_ro (k_B σ (cN x)), (fun p => s1.2 3 (24 * k_bs σ (cN x) + p)), s_vl (k_B σ (cN x)))) h7 rfl
            refine yy_iload F d_M_sort_51 (n := 53) rfl 0 rfl ?_
            refine yy_iload_n F d_M_sort_53 (n := 54) rfl 1 rfl ?_
            refine yy_aload_n F d_M_sort_54 (n := 55) rfl 2 rfl ?_
            refine yy_iload_n F d_M_sort_55 (n := 56) rfl 3 rfl ?_
            refine yy_cri (w := (nI (k_size σ (cN x)))) F S1 (c_M_sizeOf X I0 Q0 hc) (yy_Bc F X.1 q_934 q_3) (yy_invV (nA := 1) (C := R_M) (bytes := b_M_sizeOf) (maxL := 4) (retY := (some .int)) F X.1 q_931 q_933 qs_M_sizeOf q_934 ⟨by decide, by decide, by decide +kernel⟩ (yy_recv F.N X.2.1 (ci := 6) rfl P1.o) rfl d_M_sort_56) d_M_sort_56 (n := 59) rfl (by simp [Value.category]) ⟨by decide, by decide⟩ ⟨Nat.zero_le _, Nat.zero_le _⟩ ⟨rfl, rfl⟩ P1 (by rw [hsz]) (fun _ hSw_10 => ?_)
            refine yy_iadd F d_M_sort_59 (n := 60) rfl ?_
            refine yy_tope (y := (nI (24 * k_bs σ (cN x) + k_start σ (cN x) + k_size σ (cN x)))) (nI_add _ _) ?_
            refine yy_tope (y := (nI (24 * k_bs σ (cN x) + (k_start σ (cN x) + k_size σ (cN x))))) (by rw [Nat.add_assoc]) ?_
            refine yy_ic_ge_f (tgt := 137) F d_M_sort_60 (n := 63) rfl (by decide) (nI_ge (by omega) (by omega)) ?_
            refine yy_aload_n F d_M_sort_63 (n := 64) rfl 2 rfl ?_
            refine yy_get F X.1 X.2.1 g_M_19_M P1.o rfl d_M_sort_64 (n := 67) rfl ?_
            refine yy_iload F d_M_sort_67 (n := 69) rfl 0 rfl ?_
            refine ma_ld (j := 3) (i := (24 * k_bs σ (cN x) + i)) F X P1 (by decide) (show 24 * k_bs σ (cN x) + i < 240 by omega) d_M_sort_69 (n' := 70) rfl ?_
            refine yy_istore (lv' := [(5, .int (s1.2 3 (24 * k_bs σ (cN x) + i))), (4, .int (nI (24 * k_bs σ (cN x) + i))), (3, .int (nI (24 * k_bs σ (cN x) + k_start σ (cN x)))), (0, .ref a), (1, .int (nI (cN x))), (2, .int how)]) F d_M_sort_70 (n := 72) rfl (by decide) rfl ?_
            refine yy_iload F d_M_sort_72 (n := 74) rfl 1 rfl ?_
            refine yy_istore (lv' := [(6, .int (nI (24 * k_bs σ (cN x) + i))), (5, .int (s1.2 3 (24 * k_bs σ (cN x) + i))), (4, .int (nI (24 * k_bs σ (cN x) + i))), (3, .int (nI (24 * k_bs σ (cN x) + k_start σ (cN x)))), (0, .ref a), (1, .int (nI (cN x))), (2, .int how)]) F d_M_sort_74 (n := 76) rfl (by decide) rfl ?_
            obtain ⟨G, hG⟩ : ∃ G, G = ym_i1 (s1.2 3 (24 * k_bs σ (cN x) + i)) (24 * k_bs σ (cN x) + k_start σ (cN x)) how (24 * k_bs σ (cN x) + i) (s1.2 3) := ⟨_, rfl⟩
            have hF2 : ym_so (24 * k_bs σ (cN x) + k_start σ (cN x)) how d (24 * k_bs σ (cN x) + (i + 1)) G = ym_so (24 * k_bs σ (cN x) + k_start σ (cN x)) how (k_start σ (cN x) + k_size σ (cN x) - (k_start σ (cN x) + 1)) (24 * k_bs σ (cN x) + (k_start σ (cN x) + 1)) (s.2 3) := by rw [hG]; exact hF
            have hi24 : i < 24 := by omega
            have inner : ∀ (e : Nat) (s2 : ms) (H2 : Heap) (locs : List Loc), k_start σ (cN x) + e ≤ i → A s2 → ym_i1 (s1.2 3 (24 * k_bs σ (cN x) + i)) (24 * k_bs σ (cN x) + k_start σ (cN x)) how (24 * k_bs σ (cN x) + k_start σ (cN x) + e) (s2.2 3) = G → mo_at D ca z a n 0 s2 H2 → kpm a n H H2 → yy_S z H2 locs → yy_Y b H2 locs (0, 0) 76 [(6, .int (nI (24 * k_bs σ (cN x) + k_start σ (cN x) + e))), (5, .int (s1.2 3 (24 * k_bs σ (cN x) + i))), (4, .int (nI (24 * k_bs σ (cN x) + i))), (3, .int (nI (24 * k_bs σ (cN x) + k_start σ (cN x)))), (0, .ref a), (1, .int (nI (cN x))), (2, .int how)] [] := by
              intro e
              induction e with
              | zero =>
                intro s2 H2 locs he A2 hG9 P2 k2 S2
                refine yy_iload F d_M_sort_76 (n := 78) rfl 0 rfl ?_
                refine yy_iload_n F d_M_sort_78 (n := 79) rfl 3 rfl ?_
                refine yy_ic_le_t (tgt := 122) F d_M_sort_79 (by decide) (nI_le (by omega) (by omega)) ?_
                have hz : ym_i1 (s1.2 3 (24 * k_bs σ (cN x) + i)) (24 * k_bs σ (cN x) + k_start σ (cN x)) how (24 * k_bs σ (cN x) + k_start σ (cN x)) (s2.2 3) = upd (s2.2 3) (24 * k_bs σ (cN x) + k_start σ (cN x)) (s1.2 3 (24 * k_bs σ (cN x) + i)) := by
                  generalize (24 * k_bs σ (cN x) + k_start σ (cN x)) = m
                  cases m with
                  | zero => rfl
                  | succ m => exact if_neg (fun q => by have := q.1; omega)
                refine yy_aload_n F d_M_sort_122 (n := 123) rfl 4 rfl ?_
                refine yy_get F X.1 X.2.1 g_M_19_M P2.o rfl d_M_sort_123 (n := 126) rfl ?_
                refine yy_iload F d_M_sort_126 (n := 128) rfl 0 rfl ?_
                refine yy_iload F d_M_sort_128 (n := 130) rfl 1 rfl ?_
                refine ma_st (j := 3) (i := (24 * k_bs σ (cN x) + k_start σ (cN x) + 0)) F X P2 S2 (by decide) (show 24 * k_bs σ (cN x) + k_start σ (cN x) + 0 < 240 by omega) d_M_sort_130 (n' := 131) rfl (fun Hw_11 locs_w_11 Pw_11 kw_11 Sw_11 => ?_)
                have kw_11 := k2.tr kw_11
                have hG2 : (m_set s2 3 (24 * k_bs σ (cN x) + k_start σ (cN x) + 0) (s1.2 3 (24 * k_bs σ (cN x) + i))).2 3 = G := by
                  rw [m_set_r, ← hG9]
                  exact hz.symm
                refine yy_iinc (v := nI ((24 * k_bs σ (cN x) + i) + 1)) (lv' := [(4, .int (nI ((24 * k_bs σ (cN x) + i) + 1))), (6, .int (nI (24 * k_bs σ (cN x) + k_start σ (cN x) + 0))), (5, .int (s1.2 3 (24 * k_bs σ (cN x) + i))), (3, .int (nI (24 * k_bs σ (cN x) + k_start σ (cN x)))), (0, .ref a), (1, .int (nI (cN x))), (2, .int how)]) F d_M_sort_131 (n := 134) rfl 2 rfl (nI_1 _) (by decide) rfl ?_
                refine yy_goto (tgt := 51) F d_M_sort_134 (by decide) ?_
                exact yy_sub [0, 3, 4, 5, 6] rfl (ih (i + 1) (m_set s2 3 (24 * k_bs σ (cN x) + k_start σ (cN x) + 0) (s1.2 3 (24 * k_bs σ (cN x) + i))) _ _ (by omega) (by omega) (by omega) (stA _ _ _ A2 (by omega) (by omega)) (by rw [hG2]; exact hF2) Pw_11 kw_11 Sw_11)
              | succ e ihe =>
                intro s2 H2 locs he A2 hG9 P2 k2 S2
                have hstep : ym_i1 (s1.2 3 (24 * k_bs σ (cN x) + i)) (24 * k_bs σ (cN x) + k_start σ (cN x)) how (24 * k_bs σ (cN x) + k_start σ (cN x) + (e + 1)) (s2.2 3) = if (24 * k_bs σ (cN x) + k_start σ (cN x)) ≤ 24 * k_bs σ (cN x) + k_start σ (cN x) + e ∧ ym_cb (s1.2 3 (24 * k_bs σ (cN x) + i)) (s2.2 3 (24 * k_bs σ (cN x) + k_start σ (cN x) + e)) how = true then ym_i1 (s1.2 3 (24 * k_bs σ (cN x) + i)) (24 * k_bs σ (cN x) + k_start σ (cN x)) how (24 * k_bs σ (cN x) + k_start σ (cN x) + e) (upd (s2.2 3) (24 * k_bs σ (cN x) + k_start σ (cN x) + (e + 1)) (s2.2 3 (24 * k_bs σ (cN x) + k_start σ (cN x) + e))) else upd (s2.2 3) (24 * k_bs σ (cN x) + k_start σ (cN x) + (e + 1)) (s1.2 3 (24 * k_bs σ (cN x) + i)) := rfl
                refine yy_iload F d_M_sort_76 (n := 78) rfl 0 rfl ?_
                refine yy_iload_n F d_M_sort_78 (n := 79) rfl 3 rfl ?_
                refine yy_ic_le_f (tgt := 122) F d_M_sort_79 (n := 82) rfl (by decide) (nI_ge (by omega) (by omega)) ?_
                refine yy_iload F d_M_sort_82 (n := 84) rfl 1 rfl ?_
                refine yy_aload_n F d_M_sort_84 (n := 85) rfl 4 rfl ?_
                refine yy_get F X.1 X.2.1 g_M_19_M P2.o rfl d_M_sort_85 (n := 88) rfl ?_
                refine yy_iload F d_M_sort_88 (n := 90) rfl 0 rfl ?_
                refine yy_iconst (v := 1) F d_M_sort_90 (n := 91) rfl rfl ?_
                refine yy_isub F d_M_sort_91 (n := 92) rfl ?_
                refine yy_tope (y := (nI (24 * k_bs σ (cN x) + k_start σ (cN x) + e))) (nI_pred _) ?_
                refine ma_ld (j := 3) (i := (24 * k_bs σ (cN x) + k_start σ (cN x) + e)) F X P2 (by decide) (show 24 * k_bs σ (cN x) + k_start σ (cN x) + e < 240 by omega) d_M_sort_92 (n' := 93) rfl ?_
                refine yy_iload_n F d_M_sort_93 (n := 94) rfl 6 rfl ?_
                refine yy_cri (w := (ym_n (ym_cb (s1.2 3 (24 * k_bs σ (cN x) + i)) (s2.2 3 (24 * k_bs σ (cN x) + k_start σ (cN x) + e)) how))) F S2 (c_M_isBefore (x := s1.2 3 (24 * k_bs σ (cN x) + i)) (y := s2.2 3 (24 * k_bs σ (cN x) + k_start σ (cN x) + e)) (how := how) X) (yy_Bc F X.1 q_998 q_3) (yy_invS (nA := 3) (bytes := b_M_isBefore) (maxL := 3) (retY := (some .boolean)) F X.1 q_996 q_997 q_3 q_998 ⟨by decide, by decide, by decide +kernel⟩ rfl d_M_sort_94) d_M_sort_94 (n := 97) rfl (by simp [Value.category]) ⟨by decide, by decide⟩ ⟨Nat.zero_le _, Nat.zero_le _⟩ ⟨rfl, rfl⟩ trivial rfl (fun _ hSw_12 => ?_)
                cases hcb : ym_cb (s1.2 3 (24 * k_bs σ (cN x) + i)) (s2.2 3 (24 * k_bs σ (cN x) + k_start σ (cN x) + e)) how
                · refine yy_if_eq_t (tgt := 122) F d_M_sort_97 (by decide) rfl ?_
                  rw [hstep, if_neg (fun q => by rw [hcb] at q; exact absurd q.2 (by decide))] at hG9
                  refine yy_aload_n F d_M_sort_122 (n := 123) rfl 4 rfl ?_
                  refine yy_get F X.1 X.2.1 g_M_19_M P2.o rfl d_M_sort_123 (n := 126) rfl ?_
                  refine yy_iload F d_M_sort_126 (n := 128) rfl 0 rfl ?_
                  refine yy_iload F d_M_sort_128 (n := 130) rfl 1 rfl ?_
                  refine ma_st (j := 3) (i := (24 * k_bs σ (cN x) + k_start σ (cN x) + (e + 1))) F X P2 hSw_12 (by decide) (show 24 * k_bs σ (cN x) + k_start σ (cN x) + (e + 1) < 240 by omega) d_M_sort_130 (n' := 131) rfl (fun Hw_13 locs_w_13 Pw_13 kw_13 Sw_13 => ?_)
                  have kw_13 := k2.tr kw_13
                  have hG2 : (m_set s2 3 (24 * k_bs σ (cN x) + k_start σ (cN x) + (e + 1)) (s1.2 3 (24 * k_bs σ (cN x) + i))).2 3 = G := by
                    rw [m_set_r, ← hG9]
                  refine yy_iinc (v := nI ((24 * k_bs σ (cN x) + i) + 1)) (lv' := [(4, .int (nI ((24 * k_bs σ (cN x) + i) + 1))), (6, .int (nI (24 * k_bs σ (cN x) + k_start σ (cN x) + (e + 1)))), (5, .int (s1.2 3 (24 * k_bs σ (cN x) + i))), (3, .int (nI (24 * k_bs σ (cN x) + k_start σ (cN x)))), (0, .ref a), (1, .int (nI (cN x))), (2, .int how)]) F d_M_sort_131 (n := 134) rfl 2 rfl (nI_1 _) (by decide) rfl ?_
                  refine yy_goto (tgt := 51) F d_M_sort_134 (by decide) ?_
                  exact yy_sub [0, 3, 4, 5, 6] rfl (ih (i + 1) (m_set s2 3 (24 * k_bs σ (cN x) + k_start σ (cN x) + (e + 1)) (s1.2 3 (24 * k_bs σ (cN x) + i))) _ _ (by omega) (by omega) (by omega) (stA _ _ _ A2 (by omega) (by omega)) (by rw [hG2]; exact hF2) Pw_13 kw_13 Sw_13)
                · refine yy_if_eq_f (tgt := 122) F d_M_sort_97 (n := 100) rfl (by decide) (by decide) ?_
                  refine yy_aload_n F d_M_sort_100 (n := 101) rfl 4 rfl ?_
                  refine yy_get F X.1 X.2.1 g_M_19_M P2.o rfl d_M_sort_101 (n := 104) rfl ?_
                  refine yy_iload F d_M_sort_104 (n := 106) rfl 0 rfl ?_
                  refine yy_aload_n F d_M_sort_106 (n := 107) rfl 4 rfl ?_
                  refine yy_get F X.1 X.2.1 g_M_19_M P2.o rfl d_M_sort_107 (n := 110) rfl ?_
                  refine yy_iload F d_M_sort_110 (n := 112) rfl 0 rfl ?_
                  refine yy_iconst (v := 1) F d_M_sort_112 (n := 113) rfl rfl ?_
                  refine yy_isub F d_M_sort_113 (n := 114) rfl ?_
                  refine yy_tope (y := (nI (24 * k_bs σ (cN x) + k_start σ (cN x) + e))) (nI_pred _) ?_
                  refine ma_ld (j := 3) (i := (24 * k_bs σ (cN x) + k_start σ (cN x) + e)) F X P2 (by decide) (show 24 * k_bs σ (cN x) + k_start σ (cN x) + e < 240 by omega) d_M_sort_114 (n' := 115) rfl ?_
                  refine ma_st (j := 3) (i := (24 * k_bs σ (cN x) + k_start σ (cN x) + (e + 1))) F X P2 hSw_12 (by decide) (show 24 * k_bs σ (cN x) + k_start σ (cN x) + (e + 1) < 240 by omega) d_M_sort_115 (n' := 116) rfl (fun Hw_14 locs_w_14 Pw_14 kw_14 Sw_14 => ?_)
                  have kw_14 := k2.tr kw_14
                  obtain ⟨i_15, e_i_15⟩ : ∃ y : Int32, y = (nI (24 * k_bs σ (cN x) + k_start σ (cN x) + (e + 1))) + (-1) := ⟨_, rfl⟩
                  refine yy_iinc (v := i_15) (lv' := [(6, .int i_15), (5, .int (s1.2 3 (24 * k_bs σ (cN x) + i))), (4, .int (nI (24 * k_bs σ (cN x) + i))), (3, .int (nI (24 * k_bs σ (cN x) + k_start σ (cN x)))), (0, .ref a), (1, .int (nI (cN x))), (2, .int how)]) F d_M_sort_116 (n := 119) rfl 0 rfl (by rw [e_i_15]; rfl) (by decide) rfl ?_
                  refine yy_goto (tgt := 76) F d_M_sort_119 (by decide) ?_
                  have hl9 : nI (24 * k_bs σ (cN x) + k_start σ (cN x) + (e + 1)) + (-1) = nI (24 * k_bs σ (cN x) + k_start σ (cN x) + e) := pk_m1 _
                  rw [show i_15 = nI (24 * k_bs σ (cN x) + k_start σ (cN x) + e) by rw [e_i_15]; exact hl9]
                  exact yy_sub [0, 1, 2, 3, 4, 5, 6] rfl (ihe (m_set s2 3 (24 * k_bs σ (cN x) + k_start σ (cN x) + (e + 1)) (s2.2 3 (24 * k_bs σ (cN x) + k_start σ (cN x) + e))) _ _ (by omega) (stA _ _ _ A2 (by omega) (by omega)) (by rw [← hG9, hstep, if_pos ⟨by omega, hcb⟩, m_set_r]) Pw_14 kw_14 Sw_14)
            have hz9 : k_start σ (cN x) + (i - k_start σ (cN x)) = i := by omega
            have hz8 : 24 * k_bs σ (cN x) + k_start σ (cN x) + (i - k_start σ (cN x)) = 24 * k_bs σ (cN x) + i := by omega
            have h9 := inner (i - k_start σ (cN x)) s1 _ _ (by omega) A1 (by rw [hz8, hG]) P1 k1 hSw_10
            rw [hz8] at h9
            exact yy_sub [0, 1, 2, 3, 4, 5, 6] rfl h9
        exact yy_sub [0, 1, 2, 3, 4] rfl (loop _ (k_start σ (cN x) + 1) s _ _ rfl (Nat.le_refl _) (by omega) (by rw [hA]; exact ⟨rfl, fun _ _ => rfl, fun _ _ => rfl⟩) rfl Pw_4 kw_4 hSw_7)
      · refine yy_aload_n F d_M_sort_26 (n := 27) rfl 0 rfl ?_
        refine yy_iconst (v := 3) F d_M_sort_27 (n := 28) rfl rfl ?_
        refine ma_code F X g_M_55_M Pw_4 Sw_4 d_M_sort_28 (n' := 31) rfl (fun Hw_6 locs_w_6 Pw_6 kw_6 Sw_6 => ?_)
        have kw_6 := kw_4.tr kw_6
        refine yy_aload_n F d_M_sort_31 (n := 32) rfl 0 rfl ?_
        refine yy_get F X.1 X.2.1 g_M_55_M Pw_6.o rfl d_M_sort_32 (n := 35) rfl ?_
        refine yy_if_le_f (tgt := 39) F d_M_sort_35 (n := 38) rfl (by decide) (by decide) ?_
        exact yy_vret F Sw_6 ⟨Nat.zero_le _, Nat.zero_le _⟩ rfl d_M_sort_38 (mq_v (o := some e_ia) (v := 0) (σ := σ) (by unfold sp_sort; rw [hE, show k_btw how 2 = false by simp [k_btw, Int32.not_le.mp h2]]; rfl) R Pw_6 kw_6 (by decide))
set_option maxRecDepth 100000 in
set_option maxHeartbeats 4000000 in
theorem c_M_put {l : Launch} {z : State} {a0 : Array Value} {D : va_G} {ca : kca} (X : kcx l z a0 D ca) {a n : Nat} {cd : Int32} {s : ms} {σ : ks} {t : Nat} (I : iv t σ) (R : mr s σ) {x key v : Int32} (ht : t + 25 ≤ 100000) : yy_M l z y_M_put (.code y_M_put b_M_put 5 (some .boolean)) ({ frames := 4, cells := 0, slots := 0, locals := 86 }) [.ref a, .int x, .int key, .int v] (mo_at D ca z a n cd s) (mqi D ca z a n [e_io, e_uo, e_ia, e_is] (sp_put σ x key v)) := by
  refine yy_body (plainFor_of_name (by decide)) (Nat.le_of_ble_eq_true rfl) (fun b H F hS hP hH hnm => ?_)
  have h10 := I.m10
  refine yy_aload_n F d_M_put_0 (n := 1) rfl 0 rfl ?_
  refine yy_iload_n F d_M_put_1 (n := 2) rfl 1 rfl ?_
  refine yy_iload_n F d_M_put_2 (n := 3) rfl 2 rfl ?_
  refine yy_ci F hS (c_M_lookUp (x := x) (key := key) X I R) (yy_Bc F X.1 q_1009 q_3) (yy_invV (nA := 2) (C := R_M) (bytes := b_M_lookUp) (maxL := 4) (retY := (some .int)) F X.1 q_1006 q_1008 qs_M_lookUp q_1009 ⟨by decide, by decide, by decide +kernel⟩ (yy_recv F.N X.2.1 (ci := 6) rfl hP.o) rfl d_M_put_3) d_M_put_3 (n := 6) rfl (by simp [Value.category]) ⟨by decide, by decide⟩ ⟨Nat.zero_le _, Nat.zero_le _⟩ ⟨rfl, rfl⟩ hP (fun r_w_1 Hw_1 locs_w_1 qw_1 Sw_1 => ?_)
  obtain ⟨P1, k1, hr1⟩ := qw_1
  have k1 := kpm.rf.tr k1
  cases hM : ch_mk σ x key with
  | some E =>
    rw [hM] at P1
    obtain ⟨hc1, hc2⟩ := m_pos (ch_mk_in hM) (by decide)
    refine yy_istore (lv' := [(4, .int r_w_1), (0, .ref a), (1, .int x), (2, .int key), (3, .int v)]) F d_M_put_6 (n := 8) rfl (by decide) rfl ?_
    refine yy_aload_n F d_M_put_8 (n := 9) rfl 1 rfl ?_
    refine yy_get F X.1 X.2.1 g_M_55_M P1.o rfl d_M_put_9 (n := 12) rfl ?_
    refine yy_if_le_f (tgt := 17) F d_M_put_12 (n := 15) rfl (by decide) hc1 ?_
    refine yy_iconst (v := 0) F d_M_put_15 (n := 16) rfl rfl ?_
    exact yy_zret F Sw_1 ⟨Nat.zero_le _, Nat.zero_le _⟩ rfl rfl d_M_put_16 (mq_i (o := some E) (v := 0) (σ := σ) (by unfold sp_put; exact ch_mk_b hM) R P1 k1 rfl (fun h => by cases h))
  | none =>
    rw [hM] at P1
    have hr1 := hr1 hM
    obtain ⟨hE, hK⟩ := ch_mk_no hM
    obtain ⟨hc, ex, hk⟩ := ch_map_none I.m10 hE
    have h6 := k_ism6 hk
    have hv := I.mapb hc hk
    have h5 : ¬ k_kb σ (cN x) = 5 := fun q => by rw [q] at hv; exact absurd hv (by decide)
    have hb := I.bs hc
    have h24 := I.ct hc
    rw [show (Value.int x) = Value.int (nI (cN x)) from congrArg Value.int ex]
    refine yy_tope (y := (o_n (k_at σ (cN x) key))) hr1 ?_
    refine yy_istore (lv' := [(4, .int (o_n (k_at σ (cN x) key))), (0, .ref a), (1, .int (nI (cN x))), (2, .int key), (3, .int v)]) F d_M_put_6 (n := 8) rfl (by decide) rfl ?_
    refine yy_aload_n F d_M_put_8 (n := 9) rfl 1 rfl ?_
    refine yy_get F X.1 X.2.1 g_M_55_M P1.o rfl d_M_put_9 (n := 12) rfl ?_
    refine yy_if_le_t (tgt := 17) F d_M_put_12 (by decide) (by decide) ?_
    cases hat : k_at σ (cN x) key with
    | none =>
      refine yy_iload F d_M_put_17 (n := 19) rfl 0 rfl ?_
      refine yy_iconst (v := (-1)) F d_M_put_19 (n := 20) rfl rfl ?_
      refine yy_ic_ne_f (tgt := 32) F d_M_put_20 (n := 23) rfl (by decide) rfl ?_
      refine yy_aload_n F d_M_put_23 (n := 24) rfl 1 rfl ?_
      refine yy_iload_n F d_M_put_24 (n := 25) rfl 2 rfl ?_
      refine yy_iload_n F d_M_put_25 (n := 26) rfl 3 rfl ?_
      refine yy_iload_n F d_M_put_26 (n := 27) rfl 4 rfl ?_
      refine yy_cv F Sw_1 (c_M_add (key := key) (v := v) X I R hc (by omega) hk ((ch_key_none hK).2 hat)) (yy_Bc F X.1 q_1025 q_3) (yy_invV (nA := 3) (C := R_M) (bytes := b_M_add) (maxL := 6) (retY := none) F X.1 q_1022 q_1024 qs_M_add q_1025 ⟨by decide, by decide, by decide +kernel⟩ (yy_recv F.N X.2.1 (ci := 6) rfl P1.o) rfl d_M_put_27) d_M_put_27 (n := 30) rfl (by simp [Value.category]) ⟨by decide, by decide⟩ ⟨Nat.zero_le _, Nat.zero_le _⟩ ⟨rfl, rfl⟩ P1 (fun Hw_2 locs_w_2 qw_2 Sw_2 => ?_)
      obtain ⟨s2, R2, P2, k2⟩ := qw_2
      have k2 := k1.tr k2
      refine yy_iconst (v := 1) F d_M_put_30 (n := 31) rfl rfl ?_
      exact yy_zret F Sw_2 ⟨Nat.zero_le _, Nat.zero_le _⟩ rfl rfl d_M_put_31 (mq_i (o := none) (v := 1) (σ := (k_setS σ (k_bs σ (cN x)) (S_key (k_kb σ (cN x)) (k_B σ (cN x)) key v))) (by unfold sp_put; rw [hE, hK, hat]; rfl) R2 P2 k2 (by decide) (fun _ => rfl))
    | some q =>
      obtain ⟨hq1, hq2, hq3, hq4⟩ := I.at hc h6 hat
      refine yy_iload F d_M_put_17 (n := 19) rfl 0 rfl ?_
      refine yy_iconst (v := (-1)) F d_M_put_19 (n := 20) rfl rfl ?_
      refine yy_ic_ne_t (tgt := 32) F d_M_put_20 (by decide) (ym_nm1 (by omega)) ?_
      refine yy_aload_n F d_M_put_32 (n := 33) rfl 1 rfl ?_
      refine yy_get F X.1 X.2.1 g_M_22_M P1.o rfl d_M_put_33 (n := 36) rfl ?_
      refine yy_bipush (v := 24) F d_M_put_36 (n := 38) rfl rfl ?_
      refine yy_aload_n F d_M_put_38 (n := 39) rfl 1 rfl ?_
      refine yy_get F X.1 X.2.1 g_M_16_M P1.o rfl d_M_put_39 (n := 42) rfl ?_
      refine yy_iload_n F d_M_put_42 (n := 43) rfl 2 rfl ?_
      refine ma_ld (j := 2) (i := (cN x)) F X P1 (by decide) (show cN x < 10 by omega) d_M_put_43 (n' := 44) rfl ?_
      refine yy_tope (y := (nI (k_bs σ (cN x)))) (R.bs hc) ?_
      refine yy_imul F d_M_put_44 (n := 45) rfl ?_
      refine yy_tope (y := (nI (24 * (k_bs σ (cN x))))) (pk_mul 24 _) ?_
      refine yy_iload F d_M_put_45 (n := 47) rfl 0 rfl ?_
      refine yy_iadd F d_M_put_47 (n := 48) rfl ?_
      refine yy_tope (y := (nI (24 * (k_bs σ (cN x)) + q))) (nI_add _ _) ?_
      refine yy_iload_n F d_M_put_48 (n := 49) rfl 4 rfl ?_
      refine ma_st (j := 4) (i := (24 * (k_bs σ (cN x)) + q)) F X P1 Sw_1 (by decide) (show 24 * (k_bs σ (cN x)) + q < 240 by omega) d_M_put_49 (n' := 50) rfl (fun Hw_3 locs_w_3 Pw_3 kw_3 Sw_3 => ?_)
      have kw_3 := k1.tr kw_3
      obtain ⟨s2, hs2⟩ : ∃ s2 : ms, s2 = m_set s 4 (24 * (k_bs σ (cN x)) + q) v := ⟨_, rfl⟩
      have R2 : mr s2 (k_setS σ (k_bs σ (cN x)) (S_vl (k_B σ (cN x)) q (v))) := by rw [hs2]; exact R.vl1 hb (I.bb hc) (by omega)
      have I2 : iv t (k_setS σ (k_bs σ (cN x)) (S_vl (k_B σ (cN x)) q (v))) := I.setS (I.s hc).vl rfl rfl (fun _ => rfl)
      have eB : k_B (k_setS σ (k_bs σ (cN x)) (S_vl (k_B σ (cN x)) q (v))) (cN x) = (S_vl (k_B σ (cN x)) q (v)) := k_B_set _ _ _
      refine yy_aload_n F d_M_put_50 (n := 51) rfl 1 rfl ?_
      refine yy_iload_n F d_M_put_51 (n := 52) rfl 2 rfl ?_
      refine yy_iload F d_M_put_52 (n := 54) rfl 0 rfl ?_
      rw [← hs2] at Pw_3
      refine yy_cv F Sw_3 (c_M_freshen (p := q) X I2 R2 hc hk (by rw [eB]; exact hq1)) (yy_Bc F X.1 q_1033 q_3) (yy_invV (nA := 2) (C := R_M) (bytes := b_M_freshen) (maxL := 6) (retY := none) F X.1 q_1030 q_1032 qs_M_freshen q_1033 ⟨by decide, by decide, by decide +kernel⟩ (yy_recv F.N X.2.1 (ci := 6) rfl Pw_3.o) rfl d_M_put_54) d_M_put_54 (n := 57) rfl (by simp [Value.category]) ⟨by decide, by decide⟩ ⟨Nat.zero_le _, Nat.zero_le _⟩ ⟨rfl, rfl⟩ Pw_3 (fun Hw_4 locs_w_4 qw_4 Sw_4 => ?_)
      obtain ⟨s3, Q3, P3, k3⟩ := qw_4
      have k3 := kw_3.tr k3
      have e9 : k_bs (k_setS σ (k_bs σ (cN x)) (S_vl (k_B σ (cN x)) q (v))) (cN x) = k_bs σ (cN x) := rfl
      rw [e9, eB, k_setS2, show s_nu (S_vl (k_B σ (cN x)) q (v)) q = key from hq3] at Q3
      refine yy_iconst (v := 0) F d_M_put_57 (n := 58) rfl rfl ?_
      exact yy_zret F Sw_4 ⟨Nat.zero_le _, Nat.zero_le _⟩ rfl rfl d_M_put_58 (mq_i (o := none) (v := 0) (σ := (k_setS σ (k_bs σ (cN x)) (S_use (k_kb σ (cN x)) (S_vl (k_B σ (cN x)) q (v)) q key))) (by unfold sp_put; rw [hE, hK, hat]; rfl) Q3 P3 k3 (by decide) (fun _ => rfl))
set_option maxRecDepth 100000 in
set_option maxHeartbeats 4000000 in
theorem c_M_merge {l : Launch} {z : State} {a0 : Array Value} {D : va_G} {ca : kca} (X : kcx l z a0 D ca) {a n : Nat} {cd : Int32} {s : ms} {σ : ks} {t : Nat} (I : iv t σ) (R : mr s σ) {x key v : Int32} (ht : t + 25 ≤ 100000) : yy_M l z y_M_merge (.code y_M_merge b_M_merge 6 (some .int)) ({ frames := 4, cells := 0, slots := 0, locals := 86 }) [.ref a, .int x, .int key, .int v] (mo_at D ca z a n cd s) (mqi D ca z a n [e_io, e_uo, e_ia, e_is] (sp_merge σ x key v)) := by
  refine yy_body (plainFor_of_name (by decide)) (Nat.le_of_ble_eq_true rfl) (fun b H F hS hP hH hnm => ?_)
  have h10 := I.m10
  refine yy_aload_n F d_M_merge_0 (n := 1) rfl 0 rfl ?_
  refine yy_iload_n F d_M_merge_1 (n := 2) rfl 1 rfl ?_
  refine yy_iload_n F d_M_merge_2 (n := 3) rfl 2 rfl ?_
  refine yy_ci F hS (c_M_lookUp (x := x) (key := key) X I R) (yy_Bc F X.1 q_1009 q_3) (yy_invV (nA := 2) (C := R_M) (bytes := b_M_lookUp) (maxL := 4) (retY := (some .int)) F X.1 q_1006 q_1008 qs_M_lookUp q_1009 ⟨by decide, by decide, by decide +kernel⟩ (yy_recv F.N X.2.1 (ci := 6) rfl hP.o) rfl d_M_merge_3) d_M_merge_3 (n := 6) rfl (by simp [Value.category]) ⟨by decide, by decide⟩ ⟨Nat.zero_le _, Nat.zero_le _⟩ ⟨rfl, rfl⟩ hP (fun r_w_1 Hw_1 locs_w_1 qw_1 Sw_1 => ?_)
  obtain ⟨P1, k1, hr1⟩ := qw_1
  have k1 := kpm.rf.tr k1
  cases hM : ch_mk σ x key with
  | some E =>
    rw [hM] at P1
    obtain ⟨hc1, hc2⟩ := m_pos (ch_mk_in hM) (by decide)
    refine yy_istore (lv' := [(4, .int r_w_1), (0, .ref a), (1, .int x), (2, .int key), (3, .int v)]) F d_M_merge_6 (n := 8) rfl (by decide) rfl ?_
    refine yy_aload_n F d_M_merge_8 (n := 9) rfl 1 rfl ?_
    refine yy_get F X.1 X.2.1 g_M_55_M P1.o rfl d_M_merge_9 (n := 12) rfl ?_
    refine yy_if_le_f (tgt := 17) F d_M_merge_12 (n := 15) rfl (by decide) hc1 ?_
    refine yy_iconst (v := 0) F d_M_merge_15 (n := 16) rfl rfl ?_
    exact yy_iret F Sw_1 ⟨Nat.zero_le _, Nat.zero_le _⟩ rfl d_M_merge_16 (mq_i (o := some E) (v := 0) (σ := σ) (by unfold sp_merge; exact ch_mk_b hM) R P1 k1 rfl (fun h => by cases h))
  | none =>
    rw [hM] at P1
    have hr1 := hr1 hM
    obtain ⟨hE, hK⟩ := ch_mk_no hM
    obtain ⟨hc, ex, hk⟩ := ch_map_none I.m10 hE
    have h6 := k_ism6 hk
    have hv := I.mapb hc hk
    have h5 : ¬ k_kb σ (cN x) = 5 := fun q => by rw [q] at hv; exact absurd hv (by decide)
    have hb := I.bs hc
    have h24 := I.ct hc
    rw [show (Value.int x) = Value.int (nI (cN x)) from congrArg Value.int ex]
    refine yy_tope (y := (o_n (k_at σ (cN x) key))) hr1 ?_
    refine yy_istore (lv' := [(4, .int (o_n (k_at σ (cN x) key))), (0, .ref a), (1, .int (nI (cN x))), (2, .int key), (3, .int v)]) F d_M_merge_6 (n := 8) rfl (by decide) rfl ?_
    refine yy_aload_n F d_M_merge_8 (n := 9) rfl 1 rfl ?_
    refine yy_get F X.1 X.2.1 g_M_55_M P1.o rfl d_M_merge_9 (n := 12) rfl ?_
    refine yy_if_le_t (tgt := 17) F d_M_merge_12 (by decide) (by decide) ?_
    cases hat : k_at σ (cN x) key with
    | none =>
      refine yy_iload F d_M_merge_17 (n := 19) rfl 0 rfl ?_
      refine yy_iconst (v := (-1)) F d_M_merge_19 (n := 20) rfl rfl ?_
      refine yy_ic_ne_f (tgt := 32) F d_M_merge_20 (n := 23) rfl (by decide) rfl ?_
      refine yy_aload_n F d_M_merge_23 (n := 24) rfl 1 rfl ?_
      refine yy_iload_n F d_M_merge_24 (n := 25) rfl 2 rfl ?_
      refine yy_iload_n F d_M_merge_25 (n := 26) rfl 3 rfl ?_
      refine yy_iload_n F d_M_merge_26 (n := 27) rfl 4 rfl ?_
      refine yy_cv F Sw_1 (c_M_add (key := key) (v := v) X I R hc (by omega) hk ((ch_key_none hK).2 hat)) (yy_Bc F X.1 q_1025 q_3) (yy_invV (nA := 3) (C := R_M) (bytes := b_M_add) (maxL := 6) (retY := none) F X.1 q_1022 q_1024 qs_M_add q_1025 ⟨by decide, by decide, by decide +kernel⟩ (yy_recv F.N X.2.1 (ci := 6) rfl P1.o) rfl d_M_merge_27) d_M_merge_27 (n := 30) rfl (by simp [Value.category]) ⟨by decide, by decide⟩ ⟨Nat.zero_le _, Nat.zero_le _⟩ ⟨rfl, rfl⟩ P1 (fun Hw_2 locs_w_2 qw_2 Sw_2 => ?_)
      obtain ⟨s2, R2, P2, k2⟩ := qw_2
      have k2 := k1.tr k2
      refine yy_iload_n F d_M_merge_30 (n := 31) rfl 4 rfl ?_
      exact yy_iret F Sw_2 ⟨Nat.zero_le _, Nat.zero_le _⟩ rfl d_M_merge_31 (mq_i (o := none) (v := v) (σ := (k_setS σ (k_bs σ (cN x)) (S_key (k_kb σ (cN x)) (k_B σ (cN x)) key v))) (by unfold sp_merge; rw [hE, hK, hat]; rfl) R2 P2 k2 (by decide) (fun _ => rfl))
    | some q =>
      obtain ⟨hq1, hq2, hq3, hq4⟩ := I.at hc h6 hat
      refine yy_iload F d_M_merge_17 (n := 19) rfl 0 rfl ?_
      refine yy_iconst (v := (-1)) F d_M_merge_19 (n := 20) rfl rfl ?_
      refine yy_ic_ne_t (tgt := 32) F d_M_merge_20 (by decide) (ym_nm1 (by omega)) ?_
      refine yy_aload_n F d_M_merge_32 (n := 33) rfl 1 rfl ?_
      refine yy_get F X.1 X.2.1 g_M_22_M P1.o rfl d_M_merge_33 (n := 36) rfl ?_
      refine yy_bipush (v := 24) F d_M_merge_36 (n := 38) rfl rfl ?_
      refine yy_aload_n F d_M_merge_38 (n := 39) rfl 1 rfl ?_
      refine yy_get F X.1 X.2.1 g_M_16_M P1.o rfl d_M_merge_39 (n := 42) rfl ?_
      refine yy_iload_n F d_M_merge_42 (n := 43) rfl 2 rfl ?_
      refine ma_ld (j := 2) (i := (cN x)) F X P1 (by decide) (show cN x < 10 by omega) d_M_merge_43 (n' := 44) rfl ?_
      refine yy_tope (y := (nI (k_bs σ (cN x)))) (R.bs hc) ?_
      refine yy_imul F d_M_merge_44 (n := 45) rfl ?_
      refine yy_tope (y := (nI (24 * (k_bs σ (cN x))))) (pk_mul 24 _) ?_
      refine yy_iload F d_M_merge_45 (n := 47) rfl 0 rfl ?_
      refine yy_iadd F d_M_merge_47 (n := 48) rfl ?_
      refine yy_tope (y := (nI (24 * (k_bs σ (cN x)) + q))) (nI_add _ _) ?_
      refine yy_dup2 F d_M_merge_48 (n := 49) rfl rfl rfl ?_
      refine ma_ld (j := 4) (i := (24 * (k_bs σ (cN x)) + q)) F X P1 (by decide) (show 24 * (k_bs σ (cN x)) + q < 240 by omega) d_M_merge_49 (n' := 50) rfl ?_
      refine yy_tope (y := (s_vl (k_B σ (cN x)) q)) (R.vl I hc hv (by omega)) ?_
      refine yy_iload_n F d_M_merge_50 (n := 51) rfl 4 rfl ?_
      refine yy_iadd F d_M_merge_51 (n := 52) rfl ?_
      refine ma_st (j := 4) (i := (24 * (k_bs σ (cN x)) + q)) F X P1 Sw_1 (by decide) (show 24 * (k_bs σ (cN x)) + q < 240 by omega) d_M_merge_52 (n' := 53) rfl (fun Hw_3 locs_w_3 Pw_3 kw_3 Sw_3 => ?_)
      have kw_3 := k1.tr kw_3
      obtain ⟨s2, hs2⟩ : ∃ s2 : ms, s2 = m_set s 4 (24 * (k_bs σ (cN x)) + q) ((s_vl (k_B σ (cN x)) q) + v) := ⟨_, rfl⟩
      have R2 : mr s2 (k_setS σ (k_bs σ (cN x)) (S_vl (k_B σ (cN x)) q (s_vl (k_B σ (cN x)) q + v))) := by rw [hs2]; exact R.vl1 hb (I.bb hc) (by omega)
      have I2 : iv t (k_setS σ (k_bs σ (cN x)) (S_vl (k_B σ (cN x)) q (s_vl (k_B σ (cN x)) q + v))) := I.setS (I.s hc).vl rfl rfl (fun _ => rfl)
      have eB : k_B (k_setS σ (k_bs σ (cN x)) (S_vl (k_B σ (cN x)) q (s_vl (k_B σ (cN x)) q + v))) (cN x) = (S_vl (k_B σ (cN x)) q (s_vl (k_B σ (cN x)) q + v)) := k_B_set _ _ _
      refine yy_aload_n F d_M_merge_53 (n := 54) rfl 1 rfl ?_
      refine yy_get F X.1 X.2.1 g_M_22_M Pw_3.o rfl d_M_merge_54 (n := 57) rfl ?_
      refine yy_bipush (v := 24) F d_M_merge_57 (n := 59) rfl rfl ?_
      refine yy_aload_n F d_M_merge_59 (n := 60) rfl 1 rfl ?_
      refine yy_get F X.1 X.2.1 g_M_16_M Pw_3.o rfl d_M_merge_60 (n := 63) rfl ?_
      refine yy_iload_n F d_M_merge_63 (n := 64) rfl 2 rfl ?_
      refine ma_ld (j := 2) (i := (cN x)) F X Pw_3 (by decide) (show cN x < 10 by omega) d_M_merge_64 (n' := 65) rfl ?_
      refine yy_tope (y := (nI (k_bs σ (cN x)))) (R.bs hc) ?_
      refine yy_imul F d_M_merge_65 (n := 66) rfl ?_
      refine yy_tope (y := (nI (24 * (k_bs σ (cN x))))) (pk_mul 24 _) ?_
      refine yy_iload F d_M_merge_66 (n := 68) rfl 0 rfl ?_
      refine yy_iadd F d_M_merge_68 (n := 69) rfl ?_
      refine yy_tope (y := (nI (24 * (k_bs σ (cN x)) + q))) (nI_add _ _) ?_
      refine ma_ld (j := 4) (i := (24 * (k_bs σ (cN x)) + q)) F X Pw_3 (by decide) (show 24 * (k_bs σ (cN x)) + q < 240 by omega) d_M_merge_69 (n' := 70) rfl ?_
      refine yy_tope (y := (s_vl (k_B σ (cN x)) q + v)) (by show upd _ (24 * k_bs σ (cN x) + q) _ _ = _; rw [upd_s]) ?_
      refine yy_istore (lv' := [(5, .int (s_vl (k_B σ (cN x)) q + v)), (4, .int (nI q)), (0, .ref a), (1, .int (nI (cN x))), (2, .int key), (3, .int v)]) F d_M_merge_70 (n := 72) rfl (by decide) rfl ?_
      refine yy_aload_n F d_M_merge_72 (n := 73) rfl 2 rfl ?_
      refine yy_iload_n F d_M_merge_73 (n := 74) rfl 3 rfl ?_
      refine yy_iload F d_M_merge_74 (n := 76) rfl 1 rfl ?_
      rw [← hs2] at Pw_3
      refine yy_cv F Sw_3 (c_M_freshen (p := q) X I2 R2 hc hk (by rw [eB]; exact hq1)) (yy_Bc F X.1 q_1033 q_3) (yy_invV (nA := 2) (C := R_M) (bytes := b_M_freshen) (maxL := 6) (retY := none) F X.1 q_1030 q_1032 qs_M_freshen q_1033 ⟨by decide, by decide, by decide +kernel⟩ (yy_recv F.N X.2.1 (ci := 6) rfl Pw_3.o) rfl d_M_merge_76) d_M_merge_76 (n := 79) rfl (by simp [Value.category]) ⟨by decide, by decide⟩ ⟨Nat.zero_le _, Nat.zero_le _⟩ ⟨rfl, rfl⟩ Pw_3 (fun Hw_4 locs_w_4 qw_4 Sw_4 => ?_)
      obtain ⟨s3, Q3, P3, k3⟩ := qw_4
      have k3 := kw_3.tr k3
      have e9 : k_bs (k_setS σ (k_bs σ (cN x)) (S_vl (k_B σ (cN x)) q (s_vl (k_B σ (cN x)) q + v))) (cN x) = k_bs σ (cN x) := rfl
      rw [e9, eB, k_setS2, show s_nu (S_vl (k_B σ (cN x)) q (s_vl (k_B σ (cN x)) q + v)) q = key from hq3] at Q3
      refine yy_iload F d_M_merge_79 (n := 81) rfl 0 rfl ?_
      exact yy_iret F Sw_4 ⟨Nat.zero_le _, Nat.zero_le _⟩ rfl d_M_merge_81 (mq_i (o := none) (v := (s_vl (k_B σ (cN x)) q + v)) (σ := (k_setS σ (k_bs σ (cN x)) (S_use (k_kb σ (cN x)) (S_vl (k_B σ (cN x)) q (s_vl (k_B σ (cN x)) q + v)) q key))) (by unfold sp_merge; rw [hE, hK, hat]; rfl) Q3 P3 k3 (by decide) (fun _ => rfl))
set_option maxRecDepth 100000 in
set_option maxHeartbeats 4000000 in
theorem c_M_value {l : Launch} {z : State} {a0 : Array Value} {D : va_G} {ca : kca} (X : kcx l z a0 D ca) {a n : Nat} {cd : Int32} {s : ms} {σ : ks} {t : Nat} (I : iv t σ) (R : mr s σ) {x key : Int32} : yy_M l z y_M_value (.code y_M_value b_M_value 5 (some .int)) ({ frames := 3, cells := 0, slots := 0, locals := 63 }) [.ref a, .int x, .int key] (mo_at D ca z a n cd s) (mqi D ca z a n [e_io, e_uo, e_ns] (sp_value σ x key)) := by
  refine yy_body (plainFor_of_name (by decide)) (Nat.le_of_ble_eq_true rfl) (fun b H F hS hP hH hnm => ?_)
  have h10 := I.m10
  cases hE : ch_map σ x with
  | some E =>
    have hin9 : E ∈ ([e_io, e_uo, e_ns] : List String) := by rcases ch_map_in I.m10 hE with rfl | rfl <;> decide
    obtain ⟨hc1, hc2⟩ := m_pos hin9 (by decide)
    refine yy_aload_n F d_M_value_0 (n := 1) rfl 0 rfl ?_
    refine yy_aload_n F d_M_value_1 (n := 2) rfl 0 rfl ?_
    refine yy_iload_n F d_M_value_2 (n := 3) rfl 1 rfl ?_
    refine yy_cri (w := (c_of [e_io, e_uo, e_ns] (some E))) F hS (c_M_checkMap (x := x) X I R) (yy_Bc F X.1 q_1013 q_3) (yy_invV (nA := 1) (C := R_M) (bytes := b_M_checkMap) (maxL := 2) (retY := (some .int)) F X.1 q_1010 q_1012 qs_M_checkMap q_1013 ⟨by decide, by decide, by decide +kernel⟩ (yy_recv F.N X.2.1 (ci := 6) rfl hP.o) rfl d_M_value_3) d_M_value_3 (n := 6) rfl (by simp [Value.category]) ⟨by decide, by decide⟩ ⟨Nat.zero_le _, Nat.zero_le _⟩ ⟨rfl, rfl⟩ hP ((congrArg (c_of _) hE).trans (by rcases ch_map_in I.m10 hE with rfl | rfl <;> decide)) (fun _ hSw_1 => ?_)
    refine ma_code F X g_M_55_M hP hSw_1 d_M_value_6 (n' := 9) rfl (fun Hw_2 locs_w_2 Pw_2 kw_2 Sw_2 => ?_)
    have kw_2 := kpm.rf.tr kw_2
    refine yy_aload_n F d_M_value_9 (n := 10) rfl 0 rfl ?_
    refine yy_get F X.1 X.2.1 g_M_55_M Pw_2.o rfl d_M_value_10 (n := 13) rfl ?_
    refine yy_if_le_f (tgt := 18) F d_M_value_13 (n := 16) rfl (by decide) hc1 ?_
    refine yy_iconst (v := 0) F d_M_value_16 (n := 17) rfl rfl ?_
    exact yy_iret F Sw_2 ⟨Nat.zero_le _, Nat.zero_le _⟩ rfl d_M_value_17 (mq_i (o := some E) (v := 0) (σ := σ) (by unfold sp_value; rw [hE]; rfl) R Pw_2 kw_2 rfl (fun h => by cases h))
  | none =>
    obtain ⟨hc, ex, hk⟩ := ch_map_none I.m10 hE
    have h6 := k_ism6 hk
    have hv := I.mapb hc hk
    have h5 : ¬ k_kb σ (cN x) = 5 := fun q => by rw [q] at hv; exact absurd hv (by decide)
    have hb := I.bs hc
    have h24 := I.ct hc
    refine yy_aload_n F d_M_value_0 (n := 1) rfl 0 rfl ?_
    refine yy_aload_n F d_M_value_1 (n := 2) rfl 0 rfl ?_
    refine yy_iload_n F d_M_value_2 (n := 3) rfl 1 rfl ?_
    refine yy_cri (w := 0) F hS (c_M_checkMap (x := x) X I R) (yy_Bc F X.1 q_1013 q_3) (yy_invV (nA := 1) (C := R_M) (bytes := b_M_checkMap) (maxL := 2) (retY := (some .int)) F X.1 q_1010 q_1012 qs_M_checkMap q_1013 ⟨by decide, by decide, by decide +kernel⟩ (yy_recv F.N X.2.1 (ci := 6) rfl hP.o) rfl d_M_value_3) d_M_value_3 (n := 6) rfl (by simp [Value.category]) ⟨by decide, by decide⟩ ⟨Nat.zero_le _, Nat.zero_le _⟩ ⟨rfl, rfl⟩ hP (by rw [hE]; rfl) (fun _ hSw_3 => ?_)
    rw [show (Value.int x) = Value.int (nI (cN x)) from congrArg Value.int ex]
    have hb := I.bs hc
    refine ma_code F X g_M_55_M hP hSw_3 d_M_value_6 (n' := 9) rfl (fun Hw_4 locs_w_4 Pw_4 kw_4 Sw_4 => ?_)
    have kw_4 := kpm.rf.tr kw_4
    refine yy_aload_n F d_M_value_9 (n := 10) rfl 0 rfl ?_
    refine yy_get F X.1 X.2.1 g_M_55_M Pw_4.o rfl d_M_value_10 (n := 13) rfl ?_
    refine yy_if_le_t (tgt := 18) F d_M_value_13 (by decide) (by decide) ?_
    refine yy_aload_n F d_M_value_18 (n := 19) rfl 0 rfl ?_
    refine yy_iload_n F d_M_value_19 (n := 20) rfl 1 rfl ?_
    refine yy_iload_n F d_M_value_20 (n := 21) rfl 2 rfl ?_
    refine yy_cri (w := (o_n (k_at σ (cN x) key))) F Sw_4 (c_M_find (key := key) X I R hc h5) (yy_Bc F X.1 q_1021 q_3) (yy_invV (nA := 2) (C := R_M) (bytes := b_M_find) (maxL := 5) (retY := (some .int)) F X.1 q_1018 q_1020 qs_M_find q_1021 ⟨by decide, by decide, by decide +kernel⟩ (yy_recv F.N X.2.1 (ci := 6) rfl Pw_4.o) rfl d_M_value_21) d_M_value_21 (n := 24) rfl (by simp [Value.category]) ⟨by decide, by decide⟩ ⟨Nat.zero_le _, Nat.zero_le _⟩ ⟨rfl, rfl⟩ Pw_4 rfl (fun _ hSw_5 => ?_)
    refine yy_istore_n (lv' := [(3, .int (o_n (k_at σ (cN x) key))), (0, .ref a), (1, .int (nI (cN x))), (2, .int key)]) F d_M_value_24 (n := 25) rfl (by decide) rfl ?_
    refine yy_iload_n F d_M_value_25 (n := 26) rfl 0 rfl ?_
    refine yy_iconst (v := (-1)) F d_M_value_26 (n := 27) rfl rfl ?_
    cases hat : k_at σ (cN x) key with
    | none =>
      refine yy_ic_ne_f (tgt := 36) F d_M_value_27 (n := 30) rfl (by decide) rfl ?_
      refine yy_aload_n F d_M_value_30 (n := 31) rfl 1 rfl ?_
      refine yy_iconst (v := 3) F d_M_value_31 (n := 32) rfl rfl ?_
      refine yy_ci F hSw_5 (c_M_fail (e := 3) X) (yy_Bc F X.1 q_1049 q_3) (yy_invV (nA := 1) (C := R_M) (bytes := b_M_fail) (maxL := 2) (retY := (some .int)) F X.1 q_1046 q_1048 qs_M_fail q_1049 ⟨by decide, by decide, by decide +kernel⟩ (yy_recv F.N X.2.1 (ci := 6) rfl Pw_4.o) rfl d_M_value_32) d_M_value_32 (n := 35) rfl (by simp [Value.category]) ⟨by decide, by decide⟩ ⟨Nat.zero_le _, Nat.zero_le _⟩ ⟨rfl, rfl⟩ Pw_4 (fun r_w_6 Hw_6 locs_w_6 qw_6 Sw_6 => ?_)
      obtain ⟨e_r, Pf, kf⟩ := qw_6
      have kf := kw_4.tr kf
      exact yy_iret F Sw_6 ⟨Nat.zero_le _, Nat.zero_le _⟩ rfl d_M_value_35 (mq_i (o := some e_ns) (v := 0) (σ := σ) (by unfold sp_value; rw [hE, hat]; rfl) R Pf kf (by decide) (fun h => by cases h))
    | some q =>
      obtain ⟨hq1, hq2, hq3, hq4⟩ := I.at hc h6 hat
      refine yy_ic_ne_t (tgt := 36) F d_M_value_27 (by decide) (ym_nm1 (by omega)) ?_
      refine yy_aload_n F d_M_value_36 (n := 37) rfl 1 rfl ?_
      refine yy_get F X.1 X.2.1 g_M_22_M Pw_4.o rfl d_M_value_37 (n := 40) rfl ?_
      refine yy_bipush (v := 24) F d_M_value_40 (n := 42) rfl rfl ?_
      refine yy_aload_n F d_M_value_42 (n := 43) rfl 1 rfl ?_
      refine yy_get F X.1 X.2.1 g_M_16_M Pw_4.o rfl d_M_value_43 (n := 46) rfl ?_
      refine yy_iload_n F d_M_value_46 (n := 47) rfl 2 rfl ?_
      refine ma_ld (j := 2) (i := (cN x)) F X Pw_4 (by decide) (show cN x < 10 by omega) d_M_value_47 (n' := 48) rfl ?_
      refine yy_tope (y := (nI (k_bs σ (cN x)))) (R.bs hc) ?_
      refine yy_imul F d_M_value_48 (n := 49) rfl ?_
      refine yy_tope (y := (nI (24 * (k_bs σ (cN x))))) (pk_mul 24 _) ?_
      refine yy_iload_n F d_M_value_49 (n := 50) rfl 0 rfl ?_
      refine yy_iadd F d_M_value_50 (n := 51) rfl ?_
      refine yy_tope (y := (nI (24 * (k_bs σ (cN x)) + q))) (nI_add _ _) ?_
      refine ma_ld (j := 4) (i := (24 * (k_bs σ (cN x)) + q)) F X Pw_4 (by decide) (show 24 * (k_bs σ (cN x)) + q < 240 by omega) d_M_value_51 (n' := 52) rfl ?_
      refine yy_tope (y := (s_vl (k_B σ (cN x)) q)) (R.vl I hc hv (by omega)) ?_
      refine yy_istore (lv' := [(4, .int (s_vl (k_B σ (cN x)) q)), (3, .int (nI q)), (0, .ref a), (1, .int (nI (cN x))), (2, .int key)]) F d_M_value_52 (n := 54) rfl (by decide) rfl ?_
      refine yy_aload_n F d_M_value_54 (n := 55) rfl 2 rfl ?_
      refine yy_iload_n F d_M_value_55 (n := 56) rfl 3 rfl ?_
      refine yy_iload_n F d_M_value_56 (n := 57) rfl 1 rfl ?_
      refine yy_cv F hSw_5 (c_M_freshen (p := q) X I R hc hk hq1) (yy_Bc F X.1 q_1033 q_3) (yy_invV (nA := 2) (C := R_M) (bytes := b_M_freshen) (maxL := 6) (retY := none) F X.1 q_1030 q_1032 qs_M_freshen q_1033 ⟨by decide, by decide, by decide +kernel⟩ (yy_recv F.N X.2.1 (ci := 6) rfl Pw_4.o) rfl d_M_value_57) d_M_value_57 (n := 60) rfl (by simp [Value.category]) ⟨by decide, by decide⟩ ⟨Nat.zero_le _, Nat.zero_le _⟩ ⟨rfl, rfl⟩ Pw_4 (fun Hw_7 locs_w_7 qw_7 Sw_7 => ?_)
      obtain ⟨s3, Q3, P3, k3⟩ := qw_7
      have k3 := kw_4.tr k3
      rw [hq3] at Q3
      refine yy_iload F d_M_value_60 (n := 62) rfl 0 rfl ?_
      exact yy_iret F Sw_7 ⟨Nat.zero_le _, Nat.zero_le _⟩ rfl d_M_value_62 (mq_i (o := none) (v := (s_vl (k_B σ (cN x)) q)) (σ := (k_setS σ (k_bs σ (cN x)) (S_use (k_kb σ (cN x)) (k_B σ (cN x)) q key))) (by unfold sp_value; rw [hE, hat]; rfl) Q3 P3 k3 (by decide) (fun _ => rfl))
set_option maxRecDepth 100000 in
set_option maxHeartbeats 4000000 in
theorem c_M_drop {l : Launch} {z : State} {a0 : Array Value} {D : va_G} {ca : kca} (X : kcx l z a0 D ca) {a n : Nat} {cd : Int32} {s : ms} {σ : ks} {t : Nat} (I : iv t σ) (R : mr s σ) {x key : Int32} : yy_M l z y_M_drop (.code y_M_drop b_M_drop 5 (some .int)) ({ frames := 3, cells := 0, slots := 0, locals := 63 }) [.ref a, .int x, .int key] (mo_at D ca z a n cd s) (mqi D ca z a n [e_io, e_uo, e_ns] (sp_drop σ x key)) := by
  refine yy_body (plainFor_of_name (by decide)) (Nat.le_of_ble_eq_true rfl) (fun b H F hS hP hH hnm => ?_)
  have h10 := I.m10
  cases hE : ch_map σ x with
  | some E =>
    have hin9 : E ∈ ([e_io, e_uo, e_ns] : List String) := by rcases ch_map_in I.m10 hE with rfl | rfl <;> decide
    obtain ⟨hc1, hc2⟩ := m_pos hin9 (by decide)
    refine yy_aload_n F d_M_drop_0 (n := 1) rfl 0 rfl ?_
    refine yy_aload_n F d_M_drop_1 (n := 2) rfl 0 rfl ?_
    refine yy_iload_n F d_M_drop_2 (n := 3) rfl 1 rfl ?_
    refine yy_cri (w := (c_of [e_io, e_uo, e_ns] (some E))) F hS (c_M_checkMap (x := x) X I R) (yy_Bc F X.1 q_1013 q_3) (yy_invV (nA := 1) (C := R_M) (bytes := b_M_checkMap) (maxL := 2) (retY := (some .int)) F X.1 q_1010 q_1012 qs_M_checkMap q_1013 ⟨by decide, by decide, by decide +kernel⟩ (yy_recv F.N X.2.1 (ci := 6) rfl hP.o) rfl d_M_drop_3) d_M_drop_3 (n := 6) rfl (by simp [Value.category]) ⟨by decide, by decide⟩ ⟨Nat.zero_le _, Nat.zero_le _⟩ ⟨rfl, rfl⟩ hP ((congrArg (c_of _) hE).trans (by rcases ch_map_in I.m10 hE with rfl | rfl <;> decide)) (fun _ hSw_1 => ?_)
    refine ma_code F X g_M_55_M hP hSw_1 d_M_drop_6 (n' := 9) rfl (fun Hw_2 locs_w_2 Pw_2 kw_2 Sw_2 => ?_)
    have kw_2 := kpm.rf.tr kw_2
    refine yy_aload_n F d_M_drop_9 (n := 10) rfl 0 rfl ?_
    refine yy_get F X.1 X.2.1 g_M_55_M Pw_2.o rfl d_M_drop_10 (n := 13) rfl ?_
    refine yy_if_le_f (tgt := 18) F d_M_drop_13 (n := 16) rfl (by decide) hc1 ?_
    refine yy_iconst (v := 0) F d_M_drop_16 (n := 17) rfl rfl ?_
    exact yy_iret F Sw_2 ⟨Nat.zero_le _, Nat.zero_le _⟩ rfl d_M_drop_17 (mq_i (o := some E) (v := 0) (σ := σ) (by unfold sp_drop; rw [hE]; rfl) R Pw_2 kw_2 rfl (fun h => by cases h))
  | none =>
    obtain ⟨hc, ex, hk⟩ := ch_map_none I.m10 hE
    have h6 := k_ism6 hk
    have hv := I.mapb hc hk
    have h5 : ¬ k_kb σ (cN x) = 5 := fun q => by rw [q] at hv; exact absurd hv (by decide)
    have hb := I.bs hc
    have h24 := I.ct hc
    refine yy_aload_n F d_M_drop_0 (n := 1) rfl 0 rfl ?_
    refine yy_aload_n F d_M_drop_1 (n := 2) rfl 0 rfl ?_
    refine yy_iload_n F d_M_drop_2 (n := 3) rfl 1 rfl ?_
    refine yy_cri (w := 0) F hS (c_M_checkMap (x := x) X I R) (yy_Bc F X.1 q_1013 q_3) (yy_invV (nA := 1) (C := R_M) (bytes := b_M_checkMap) (maxL := 2) (retY := (some .int)) F X.1 q_1010 q_1012 qs_M_checkMap q_1013 ⟨by decide, by decide, by decide +kernel⟩ (yy_recv F.N X.2.1 (ci := 6) rfl hP.o) rfl d_M_drop_3) d_M_drop_3 (n := 6) rfl (by simp [Value.category]) ⟨by decide, by decide⟩ ⟨Nat.zero_le _, Nat.zero_le _⟩ ⟨rfl, rfl⟩ hP (by rw [hE]; rfl) (fun _ hSw_3 => ?_)
    rw [show (Value.int x) = Value.int (nI (cN x)) from congrArg Value.int ex]
    have hb := I.bs hc
    refine ma_code F X g_M_55_M hP hSw_3 d_M_drop_6 (n' := 9) rfl (fun Hw_4 locs_w_4 Pw_4 kw_4 Sw_4 => ?_)
    have kw_4 := kpm.rf.tr kw_4
    refine yy_aload_n F d_M_drop_9 (n := 10) rfl 0 rfl ?_
    refine yy_get F X.1 X.2.1 g_M_55_M Pw_4.o rfl d_M_drop_10 (n := 13) rfl ?_
    refine yy_if_le_t (tgt := 18) F d_M_drop_13 (by decide) (by decide) ?_
    refine yy_aload_n F d_M_drop_18 (n := 19) rfl 0 rfl ?_
    refine yy_iload_n F d_M_drop_19 (n := 20) rfl 1 rfl ?_
    refine yy_iload_n F d_M_drop_20 (n := 21) rfl 2 rfl ?_
    refine yy_cri (w := (o_n (k_at σ (cN x) key))) F Sw_4 (c_M_find (key := key) X I R hc h5) (yy_Bc F X.1 q_1021 q_3) (yy_invV (nA := 2) (C := R_M) (bytes := b_M_find) (maxL := 5) (retY := (some .int)) F X.1 q_1018 q_1020 qs_M_find q_1021 ⟨by decide, by decide, by decide +kernel⟩ (yy_recv F.N X.2.1 (ci := 6) rfl Pw_4.o) rfl d_M_drop_21) d_M_drop_21 (n := 24) rfl (by simp [Value.category]) ⟨by decide, by decide⟩ ⟨Nat.zero_le _, Nat.zero_le _⟩ ⟨rfl, rfl⟩ Pw_4 rfl (fun _ hSw_5 => ?_)
    refine yy_istore_n (lv' := [(3, .int (o_n (k_at σ (cN x) key))), (0, .ref a), (1, .int (nI (cN x))), (2, .int key)]) F d_M_drop_24 (n := 25) rfl (by decide) rfl ?_
    refine yy_iload_n F d_M_drop_25 (n := 26) rfl 0 rfl ?_
    refine yy_iconst (v := (-1)) F d_M_drop_26 (n := 27) rfl rfl ?_
    cases hat : k_at σ (cN x) key with
    | none =>
      refine yy_ic_ne_f (tgt := 36) F d_M_drop_27 (n := 30) rfl (by decide) rfl ?_
      refine yy_aload_n F d_M_drop_30 (n := 31) rfl 1 rfl ?_
      refine yy_iconst (v := 3) F d_M_drop_31 (n := 32) rfl rfl ?_
      refine yy_ci F hSw_5 (c_M_fail (e := 3) X) (yy_Bc F X.1 q_1049 q_3) (yy_invV (nA := 1) (C := R_M) (bytes := b_M_fail) (maxL := 2) (retY := (some .int)) F X.1 q_1046 q_1048 qs_M_fail q_1049 ⟨by decide, by decide, by decide +kernel⟩ (yy_recv F.N X.2.1 (ci := 6) rfl Pw_4.o) rfl d_M_drop_32) d_M_drop_32 (n := 35) rfl (by simp [Value.category]) ⟨by decide, by decide⟩ ⟨Nat.zero_le _, Nat.zero_le _⟩ ⟨rfl, rfl⟩ Pw_4 (fun r_w_6 Hw_6 locs_w_6 qw_6 Sw_6 => ?_)
      obtain ⟨e_r, Pf, kf⟩ := qw_6
      have kf := kw_4.tr kf
      exact yy_iret F Sw_6 ⟨Nat.zero_le _, Nat.zero_le _⟩ rfl d_M_drop_35 (mq_i (o := some e_ns) (v := 0) (σ := σ) (by unfold sp_drop; rw [hE, hat]; rfl) R Pf kf (by decide) (fun h => by cases h))
    | some q =>
      obtain ⟨hq1, hq2, hq3, hq4⟩ := I.at hc h6 hat
      refine yy_ic_ne_t (tgt := 36) F d_M_drop_27 (by decide) (ym_nm1 (by omega)) ?_
      refine yy_aload_n F d_M_drop_36 (n := 37) rfl 1 rfl ?_
      refine yy_get F X.1 X.2.1 g_M_22_M Pw_4.o rfl d_M_drop_37 (n := 40) rfl ?_
      refine yy_bipush (v := 24) F d_M_drop_40 (n := 42) rfl rfl ?_
      refine yy_aload_n F d_M_drop_42 (n := 43) rfl 1 rfl ?_
      refine yy_get F X.1 X.2.1 g_M_16_M Pw_4.o rfl d_M_drop_43 (n := 46) rfl ?_
      refine yy_iload_n F d_M_drop_46 (n := 47) rfl 2 rfl ?_
      refine ma_ld (j := 2) (i := (cN x)) F X Pw_4 (by decide) (show cN x < 10 by omega) d_M_drop_47 (n' := 48) rfl ?_
      refine yy_tope (y := (nI (k_bs σ (cN x)))) (R.bs hc) ?_
      refine yy_imul F d_M_drop_48 (n := 49) rfl ?_
      refine yy_tope (y := (nI (24 * (k_bs σ (cN x))))) (pk_mul 24 _) ?_
      refine yy_iload_n F d_M_drop_49 (n := 50) rfl 0 rfl ?_
      refine yy_iadd F d_M_drop_50 (n := 51) rfl ?_
      refine yy_tope (y := (nI (24 * (k_bs σ (cN x)) + q))) (nI_add _ _) ?_
      refine ma_ld (j := 4) (i := (24 * (k_bs σ (cN x)) + q)) F X Pw_4 (by decide) (show 24 * (k_bs σ (cN x)) + q < 240 by omega) d_M_drop_51 (n' := 52) rfl ?_
      refine yy_tope (y := (s_vl (k_B σ (cN x)) q)) (R.vl I hc hv (by omega)) ?_
      refine yy_istore (lv' := [(4, .int (s_vl (k_B σ (cN x)) q)), (3, .int (nI q)), (0, .ref a), (1, .int (nI (cN x))), (2, .int key)]) F d_M_drop_52 (n := 54) rfl (by decide) rfl ?_
      refine yy_aload_n F d_M_drop_54 (n := 55) rfl 2 rfl ?_
      refine yy_iload_n F d_M_drop_55 (n := 56) rfl 3 rfl ?_
      refine yy_iload_n F d_M_drop_56 (n := 57) rfl 1 rfl ?_
      refine yy_cv F hSw_5 (c_M_takeOut (j := q) (nu := ym_sh (s_nu (k_B σ (cN x))) q (s_ct (k_B σ (cN x)) - 1)) (vl := ym_sh (s_vl (k_B σ (cN x))) q (s_ct (k_B σ (cN x)) - 1)) X I R hc hq1 (k_fr_0 h6) (fun q => absurd q h6) (fun _ => sh_cg (by omega) (R.nu24 I hc h5)) (fun q => absurd q h5) (fun _ => sh_cg (by omega) (R.vl24 I hc hv))) (yy_Bc F X.1 q_991 q_3) (yy_invV (nA := 2) (C := R_M) (bytes := b_M_takeOut) (maxL := 5) (retY := none) F X.1 q_988 q_990 qs_M_takeOut q_991 ⟨by decide, by decide, by decide +kernel⟩ (yy_recv F.N X.2.1 (ci := 6) rfl Pw_4.o) rfl d_M_drop_57) d_M_drop_57 (n := 60) rfl (by simp [Value.category]) ⟨by decide, by decide⟩ ⟨Nat.zero_le _, Nat.zero_le _⟩ ⟨rfl, rfl⟩ Pw_4 (fun Hw_7 locs_w_7 qw_7 Sw_7 => ?_)
      obtain ⟨s3, Q3, P3, k3⟩ := qw_7
      have k3 := kw_4.tr k3
      have R3 : mr s3 (k_take σ (cN x) q) := Q3
      refine yy_iload F d_M_drop_60 (n := 62) rfl 0 rfl ?_
      exact yy_iret F Sw_7 ⟨Nat.zero_le _, Nat.zero_le _⟩ rfl d_M_drop_62 (mq_i (o := none) (v := (s_vl (k_B σ (cN x)) q)) (σ := (k_take σ (cN x) q)) (by unfold sp_drop; rw [hE, hat]; rfl) R3 P3 k3 (by decide) (fun _ => rfl))
set_option maxRecDepth 100000 in
set_option maxHeartbeats 4000000 in
theorem c_M_sift {l : Launch} {z : State} {a0 : Array Value} {D : va_G} {ca : kca} (X : kcx l z a0 D ca) {a n : Nat} {cd : Int32} {s : ms} {σ : ks} {t : Nat} (I : iv t σ) (R : mr s σ) {x by_ rest : Int32} (ht : t + 25 ≤ 100000) : yy_M l z y_M_sift (.code y_M_sift b_M_sift 6 (some .int)) ({ frames := 2, cells := 0, slots := 0, locals := 48 }) [.ref a, .int x, .int by_, .int rest] (mo_at D ca z a n cd s) (mqi D ca z a n [e_io, e_uo, e_ia, e_rt] (sp_sift σ x by_ rest)) := by
  refine yy_body (plainFor_of_name (by decide)) (Nat.le_of_ble_eq_true rfl) (fun b H F hS hP hH hnm => ?_)
  have h10 := I.m10
  refine yy_aload_n F d_M_sift_0 (n := 1) rfl 0 rfl ?_
  refine yy_aload_n F d_M_sift_1 (n := 2) rfl 0 rfl ?_
  refine yy_iload_n F d_M_sift_2 (n := 3) rfl 1 rfl ?_
  refine yy_cri (w := (ym_n (ym_inb x (k_m σ)))) F hS (c_M_isThere (x := x) X I R) (yy_Bc F X.1 q_918 q_3) (yy_invV (nA := 1) (C := R_M) (bytes := b_M_isThere) (maxL := 2) (retY := (some .boolean)) F X.1 q_915 q_917 qs_M_isThere q_918 ⟨by decide, by decide, by decide +kernel⟩ (yy_recv F.N X.2.1 (ci := 6) rfl hP.o) rfl d_M_sift_3) d_M_sift_3 (n := 6) rfl (by simp [Value.category]) ⟨by decide, by decide⟩ ⟨Nat.zero_le _, Nat.zero_le _⟩ ⟨rfl, rfl⟩ hP rfl (fun _ hSw_1 => ?_)
  cases hin : ym_inb x (k_m σ)
  · refine yy_if_ne_f (tgt := 13) F d_M_sift_6 (n := 9) rfl (by decide) rfl ?_
    refine yy_iconst (v := 1) F d_M_sift_9 (n := 10) rfl rfl ?_
    refine yy_goto (tgt := 49) F d_M_sift_10 (by decide) ?_
    refine ma_code F X g_M_55_M hP hSw_1 d_M_sift_49 (n' := 52) rfl (fun Hw_2 locs_w_2 Pw_2 kw_2 Sw_2 => ?_)
    have kw_2 := kpm.rf.tr kw_2
    refine yy_aload_n F d_M_sift_52 (n := 53) rfl 0 rfl ?_
    refine yy_get F X.1 X.2.1 g_M_55_M Pw_2.o rfl d_M_sift_53 (n := 56) rfl ?_
    refine yy_if_le_f (tgt := 61) F d_M_sift_56 (n := 59) rfl (by decide) (by decide) ?_
    refine yy_iconst (v := 0) F d_M_sift_59 (n := 60) rfl rfl ?_
    exact yy_iret F Sw_2 ⟨Nat.zero_le _, Nat.zero_le _⟩ rfl d_M_sift_60 (mq_i (o := some e_io) (v := 0) (σ := σ) (by unfold sp_sift; unfold ch_con; rw [hin]; rfl) R Pw_2 kw_2 (by decide) (fun h => by cases h))
  · refine yy_if_ne_t (tgt := 13) F d_M_sift_6 (by decide) (by decide) ?_
    obtain ⟨hc, ex⟩ := inb_cN (by omega) hin
    rw [show (Value.int x) = Value.int (nI (cN x)) from congrArg Value.int ex]
    have hb := I.bs hc
    have h24 := I.ct hc
    refine yy_aload_n F d_M_sift_13 (n := 14) rfl 0 rfl ?_
    refine yy_get F X.1 X.2.1 g_M_7_M hP.o rfl d_M_sift_14 (n := 17) rfl ?_
    refine yy_iload_n F d_M_sift_17 (n := 18) rfl 1 rfl ?_
    refine ma_ld (j := 0) (i := (cN x)) F X hP (by decide) (show cN x < 10 by omega) d_M_sift_18 (n' := 19) rfl ?_
    refine yy_tope (y := (k_kd σ (cN x))) (R.kd hc) ?_
    refine yy_iconst (v := 5) F d_M_sift_19 (n := 20) rfl rfl ?_
    refine yy_ic_ne (tgt := 27) F d_M_sift_20 (n := 23) rfl (by decide) (fun h5 => ?_) (fun h5 => ?_)
    · refine yy_aload_n F d_M_sift_27 (n := 28) rfl 0 rfl ?_
      refine yy_iload_n F d_M_sift_28 (n := 29) rfl 1 rfl ?_
      refine yy_cri (w := (ym_n (k_stale σ (cN x)))) F hSw_1 (c_M_isStale X I R hc) (yy_Bc F X.1 q_930 q_3) (yy_invV (nA := 1) (C := R_M) (bytes := b_M_isStale) (maxL := 4) (retY := (some .boolean)) F X.1 q_927 q_929 qs_M_isStale q_930 ⟨by decide, by decide, by decide +kernel⟩ (yy_recv F.N X.2.1 (ci := 6) rfl hP.o) rfl d_M_sift_29) d_M_sift_29 (n := 32) rfl (by simp [Value.category]) ⟨by decide, by decide⟩ ⟨Nat.zero_le _, Nat.zero_le _⟩ ⟨rfl, rfl⟩ hP rfl (fun _ hSw_3 => ?_)
      cases hs : k_stale σ (cN x)
      · refine yy_if_eq_t (tgt := 39) F d_M_sift_32 (by decide) rfl ?_
        refine yy_iload_n F d_M_sift_39 (n := 40) rfl 2 rfl ?_
        refine yy_iconst (v := 1) F d_M_sift_40 (n := 41) rfl rfl ?_
        refine yy_ic_ge (tgt := 48) F d_M_sift_41 (n := 44) rfl (by decide) (fun hby => ?_) (fun hby => ?_)
        · have hb1 : ¬ by_ < 1 := Int32.not_lt.mpr hby
          have hf := k_fr_of hs
          have hend := I.end hc hf
          refine yy_iconst (v := 0) F d_M_sift_48 (n := 49) rfl rfl ?_
          refine ma_code F X g_M_55_M hP hSw_3 d_M_sift_49 (n' := 52) rfl (fun Hw_5 locs_w_5 Pw_5 kw_5 Sw_5 => ?_)
          have kw_5 := kpm.rf.tr kw_5
          refine yy_aload_n F d_M_sift_52 (n := 53) rfl 0 rfl ?_
          refine yy_get F X.1 X.2.1 g_M_55_M Pw_5.o rfl d_M_sift_53 (n := 56) rfl ?_
          refine yy_if_le_t (tgt := 61) F d_M_sift_56 (by decide) (by decide) ?_
          refine yy_iconst (v := 0) F d_M_sift_61 (n := 62) rfl rfl ?_
          refine yy_tope (y := (nI 0)) rfl ?_
          refine yy_istore (lv' := [(4, .int (nI 0)), (0, .ref a), (1, .int (nI (cN x))), (2, .int by_), (3, .int rest)]) F d_M_sift_62 (n := 64) rfl (by decide) rfl ?_
          refine yy_aload_n F d_M_sift_64 (n := 65) rfl 1 rfl ?_
          refine yy_iload_n F d_M_sift_65 (n := 66) rfl 2 rfl ?_
          refine yy_cri (w := (nI (k_size σ (cN x)))) F Sw_5 (c_M_sizeOf X I R hc) (yy_Bc F X.1 q_934 q_3) (yy_invV (nA := 1) (C := R_M) (bytes := b_M_sizeOf) (maxL := 4) (retY := (some .int)) F X.1 q_931 q_933 qs_M_sizeOf q_934 ⟨by decide, by decide, by decide +kernel⟩ (yy_recv F.N X.2.1 (ci := 6) rfl Pw_5.o) rfl d_M_sift_66) d_M_sift_66 (n := 69) rfl (by simp [Value.category]) ⟨by decide, by decide⟩ ⟨Nat.zero_le _, Nat.zero_le _⟩ ⟨rfl, rfl⟩ Pw_5 rfl (fun _ hSw_6 => ?_)
          refine yy_iconst (v := 1) F d_M_sift_69 (n := 70) rfl rfl ?_
          refine yy_isub F d_M_sift_70 (n := 71) rfl ?_
          refine yy_istore (lv' := [(5, .int ((nI (k_size σ (cN x))) - 1)), (4, .int (nI 0)), (0, .ref a), (1, .int (nI (cN x))), (2, .int by_), (3, .int rest)]) F d_M_sift_71 (n := 73) rfl (by decide) rfl ?_
          have loop : ∀ (j gn t1 : Nat) (σ1 : ks) (s1 : ms) (H1 : Heap) (locs : List Loc), iv t1 σ1 → t1 + j ≤ 100000 → cN x < k_m σ1 → ¬ k_kd σ1 (cN x) = 5 → k_fr σ1 (cN x) → j ≤ k_size σ1 (cN x) → (k_sift (cN x) by_ rest j σ1).1 = (k_sift (cN x) by_ rest (k_size σ (cN x)) σ).1 → gn + (k_sift (cN x) by_ rest j σ1).2 = (k_sift (cN x) by_ rest (k_size σ (cN x)) σ).2 → mr s1 σ1 → mo_at D ca z a n 0 s1 H1 → kpm a n H H1 → yy_S z H1 locs → yy_Y b H1 locs (0, 0) 73 [(5, .int (nI j - 1)), (4, .int (nI gn)), (0, .ref a), (1, .int (nI (cN x))), (2, .int by_), (3, .int rest)] [] := by
            intro j
            induction j with
            | zero =>
              intro gn t1 σ1 s1 H1 locs I1 ht1 hc1 h51 hf1 hj1 hE1 hE2 R1 P1 k1 S1
              refine yy_iload F d_M_sift_73 (n := 75) rfl 0 rfl ?_
              refine yy_if_lt_t (tgt := 123) F d_M_sift_75 (by decide) (by decide) ?_
              refine yy_iload F d_M_sift_123 (n := 125) rfl 1 rfl ?_
              have R9 : mr s1 (k_sift (cN x) by_ rest (k_size σ (cN x)) σ).1 := by rw [← hE1]; exact R1
              have e9 : gn = (k_sift (cN x) by_ rest (k_size σ (cN x)) σ).2 := by rw [← hE2]; rfl
              exact yy_iret F S1 ⟨Nat.zero_le _, Nat.zero_le _⟩ rfl d_M_sift_125 (mq_i (o := none) (v := (nI (k_sift (cN x) by_ rest (k_size σ (cN x)) σ).2)) (σ := ((k_sift (cN x) by_ rest (k_size σ (cN x)) σ).1)) (by unfold sp_sift; unfold ch_con; rw [hin, show (!decide (k_kd σ (cN x) = 5)) = true by simp [h5], hs, show (!decide (by_ < 1)) = true by simp [hb1]]; rfl) R9 P1 k1 (by decide) (fun _ => congrArg nI e9))
            | succ j ih =>
              intro gn t1 σ1 s1 H1 locs I1 ht1 hc1 h51 hf1 hj1 hE1 hE2 R1 P1 k1 S1
              have h24 := I1.ct hc1
              have hb1m := I1.bs hc1
              have h10 := I1.m10
              have hend1 := I1.end hc1 hf1
              have h55 := k_nh5 I1 hc1 h51
              have hst : k_sift (cN x) by_ rest (j + 1) σ1 = if ym_fm (s_nu (k_B σ1 (cN x)) (k_start σ1 (cN x) + j)) by_ = rest then ((k_sift (cN x) by_ rest j (k_take σ1 (cN x) (k_start σ1 (cN x) + j))).1, (k_sift (cN x) by_ rest j (k_take σ1 (cN x) (k_start σ1 (cN x) + j))).2 + 1) else k_sift (cN x) by_ rest j σ1 := rfl
              rw [show nI (j + 1) - 1 = nI j from nI_pred j]
              refine yy_iload F d_M_sift_73 (n := 75) rfl 0 rfl ?_
              refine yy_if_lt_f (tgt := 123) F d_M_sift_75 (n := 78) rfl (by decide) (nI_pos (by omega)) ?_
              refine yy_aload_n F d_M_sift_78 (n := 79) rfl 2 rfl ?_
              refine yy_get F X.1 X.2.1 g_M_19_M P1.o rfl d_M_sift_79 (n := 82) rfl ?_
              refine yy_aload_n F d_M_sift_82 (n := 83) rfl 2 rfl ?_
              refine yy_iload_n F d_M_sift_83 (n := 84) rfl 3 rfl ?_
              refine yy_iload F d_M_sift_84 (n := 86) rfl 0 rfl ?_
              refine yy_cri (w := (nI (24 * k_bs σ1 (cN x) + (k_start σ1 (cN x) + j)))) F S1 (c_M_at (x := nI j) (q := k_start σ1 (cN x) + j) X I1 R1 hc1 (nI_add _ _)) (yy_Bc F X.1 q_962 q_3) (yy_invV (nA := 2) (C := R_M) (bytes := b_M_at) (maxL := 3) (retY := (some .int)) F X.1 q_959 q_961 qs_M_at q_962 ⟨by decide, by decide, by decide +kernel⟩ (yy_recv F.N X.2.1 (ci := 6) rfl P1.o) rfl d_M_sift_86) d_M_sift_86 (n := 89) rfl (by simp [Value.category]) ⟨by decide, by decide⟩ ⟨Nat.zero_le _, Nat.zero_le _⟩ ⟨rfl, rfl⟩ P1 rfl (fun _ hSw_7 => ?_)
              refine ma_ld (j := 3) (i := (24 * k_bs σ1 (cN x) + (k_start σ1 (cN x) + j))) F X P1 (by decide) (show 24 * k_bs σ1 (cN x) + (k_start σ1 (cN x) + j) < 240 by omega) d_M_sift_89 (n' := 90) rfl ?_
              refine yy_tope (y := (s_nu (k_B σ1 (cN x)) (k_start σ1 (cN x) + j))) (R1.nu I1 hc1 h55 (by omega)) ?_
              refine yy_iload_n F d_M_sift_90 (n := 91) rfl 4 rfl ?_
              refine yy_cri (w := (ym_fm (s_nu (k_B σ1 (cN x)) (k_start σ1 (cN x) + j)) by_)) F hSw_7 (c_M_modulo (x := s_nu (k_B σ1 (cN x)) (k_start σ1 (cN x) + j)) (y := by_) X hb1) (yy_Bc F X.1 q_1001 q_3) (yy_invS (nA := 2) (bytes := b_M_modulo) (maxL := 3) (retY := (some .int)) F X.1 q_999 q_1000 q_3 q_1001 ⟨by decide, by decide, by decide +kernel⟩ rfl d_M_sift_91) d_M_sift_91 (n := 94) rfl (by simp [Value.category]) ⟨by decide, by decide⟩ ⟨Nat.zero_le _, Nat.zero_le _⟩ ⟨rfl, rfl⟩ trivial rfl (fun _ hSw_8 => ?_)
              refine yy_iload_n F d_M_sift_94 (n := 95) rfl 5 rfl ?_
              refine yy_ic_eq (tgt := 101) F d_M_sift_95 (n := 98) rfl (by decide) (fun heq => ?_) (fun heq => ?_)
              · rw [if_pos heq] at hst
                rw [hst] at hE1 hE2
                obtain ⟨I2, hf2⟩ := I1.take (q := k_start σ1 (cN x) + j) (by omega) hc1 hf1 (by omega) (fun h6 => by rw [k_size6 h6] at hj1; omega)
                have hz2 := (I1.take_sz hc1 hf1 (j := j) (by omega)).2
                have hk2 := (k_thru_k I1 hc1 (S_take (k_B σ1 (cN x)) (k_start σ1 (cN x) + j)) (fun m => m - 1) (cN x)).1
                have hm2 := (k_thru_C I1 hc1 (S_take (k_B σ1 (cN x)) (k_start σ1 (cN x) + j)) (fun m => m - 1)).1
                refine yy_aload_n F d_M_sift_101 (n := 102) rfl 2 rfl ?_
                refine yy_iload_n F d_M_sift_102 (n := 103) rfl 3 rfl ?_
                refine yy_aload_n F d_M_sift_103 (n := 104) rfl 2 rfl ?_
                refine yy_iload_n F d_M_sift_104 (n := 105) rfl 3 rfl ?_
                refine yy_cri (w := (nI (k_start σ1 (cN x)))) F hSw_8 (c_M_placeIn X I1 R1 hc1) (yy_Bc F X.1 q_942 q_3) (yy_invV (nA := 1) (C := R_M) (bytes := b_M_placeIn) (maxL := 3) (retY := (some .int)) F X.1 q_939 q_941 qs_M_placeIn q_942 ⟨by decide, by decide, by decide +kernel⟩ (yy_recv F.N X.2.1 (ci := 6) rfl P1.o) rfl d_M_sift_105) d_M_sift_105 (n := 108) rfl (by simp [Value.category]) ⟨by decide, by decide⟩ ⟨Nat.zero_le _, Nat.zero_le _⟩ ⟨rfl, rfl⟩ P1 rfl (fun _ hSw_9 => ?_)
                refine yy_iload F d_M_sift_108 (n := 110) rfl 0 rfl ?_
                refine yy_iadd F d_M_sift_110 (n := 111) rfl ?_
                refine yy_tope (y := (nI (k_start σ1 (cN x) + j))) (nI_add _ _) ?_
                refine yy_cv F hSw_9 (c_M_takeOut (j := (k_start σ1 (cN x) + j)) (nu := ym_sh (s_nu (k_B σ1 (cN x))) (k_start σ1 (cN x) + j) (s_ct (k_B σ1 (cN x)) - 1)) (vl := ym_sh (s_vl (k_B σ1 (cN x))) (k_start σ1 (cN x) + j) (s_ct (k_B σ1 (cN x)) - 1)) X I1 R1 hc1 (by omega) hf1 (fun h6 => by rw [k_size6 h6] at hj1; omega) (fun _ => sh_cg (by omega) (R1.nu24 I1 hc1 h55)) (fun q => absurd q h55) (fun q => sh_cg (by omega) (R1.vl24 I1 hc1 q))) (yy_Bc F X.1 q_991 q_3) (yy_invV (nA := 2) (C := R_M) (bytes := b_M_takeOut) (maxL := 5) (retY := none) F X.1 q_988 q_990 qs_M_takeOut q_991 ⟨by decide, by decide, by decide +kernel⟩ (yy_recv F.N X.2.1 (ci := 6) rfl P1.o) rfl d_M_sift_111) d_M_sift_111 (n := 114) rfl (by simp [Value.category]) ⟨by decide, by decide⟩ ⟨Nat.zero_le _, Nat.zero_le _⟩ ⟨rfl, rfl⟩ P1 (fun Hw_10 locs_w_10 qw_10 Sw_10 => ?_)
                obtain ⟨s2, Q2, P2, k2⟩ := qw_10
                have k2 := k1.tr k2
                obtain ⟨σ2, hσ2⟩ : ∃ σ2 : ks, σ2 = k_take σ1 (cN x) (k_start σ1 (cN x) + j) := ⟨_, rfl⟩
                have R2 : mr s2 σ2 := by rw [hσ2]; exact Q2
                rw [← hσ2] at I2 hf2 hz2 hE1 hE2
                refine yy_iinc (v := nI (gn + 1)) (lv' := [(4, .int (nI (gn + 1))), (5, .int (nI j)), (0, .ref a), (1, .int (nI (cN x))), (2, .int by_), (3, .int rest)]) F d_M_sift_114 (n := 117) rfl 1 rfl (nI_1 _) (by decide) rfl ?_
                obtain ⟨i_11, e_i_11⟩ : ∃ y : Int32, y = (nI j) + (-1) := ⟨_, rfl⟩
                refine yy_iinc (v := i_11) (lv' := [(5, .int i_11), (4, .int (nI (gn + 1))), (0, .ref a), (1, .int (nI (cN x))), (2, .int by_), (3, .int rest)]) F d_M_sift_117 (n := 120) rfl 1 rfl (by rw [e_i_11]; rfl) (by decide) rfl ?_
                refine yy_goto (tgt := 73) F d_M_sift_120 (by decide) ?_
                rw [show i_11 = nI j - 1 by rw [e_i_11, Int32.sub_eq_add_neg]]
                exact yy_sub [0, 1, 2, 3, 4, 5] rfl (ih (gn + 1) (t1 + 1) σ2 s2 _ _ I2 (by omega) (by rw [hσ2]; show cN x < (k_take σ1 (cN x) _).1; unfold k_take; rw [hm2]; exact hc1) (by rw [hσ2]; unfold k_take; rw [hk2]; exact h51) hf2 (by omega) hE1 (by omega) R2 P2 k2 Sw_10)
              · rw [if_neg heq] at hst
                rw [hst] at hE1 hE2
                refine yy_goto (tgt := 117) F d_M_sift_98 (by decide) ?_
                obtain ⟨i_12, e_i_12⟩ : ∃ y : Int32, y = (nI j) + (-1) := ⟨_, rfl⟩
                refine yy_iinc (v := i_12) (lv' := [(5, .int i_12), (4, .int (nI gn)), (0, .ref a), (1, .int (nI (cN x))), (2, .int by_), (3, .int rest)]) F d_M_sift_117 (n := 120) rfl 0 rfl (by rw [e_i_12]; rfl) (by decide) rfl ?_
                refine yy_goto (tgt := 73) F d_M_sift_120 (by decide) ?_
                rw [show i_12 = nI j - 1 by rw [e_i_12, Int32.sub_eq_add_neg]]
                exact yy_sub [0, 1, 2, 3, 4, 5] rfl (ih gn t1 σ1 s1 _ _ I1 (by omega) hc1 h51 hf1 (by omega) hE1 hE2 R1 P1 k1 hSw_8)
          exact yy_sub [0, 1, 2, 3, 4, 5] rfl (loop (k_size σ (cN x)) 0 t σ s _ _ I (by omega) hc h5 hf (Nat.le_refl _) rfl (Nat.zero_add _) R Pw_5 kw_5 hSw_6)
        · refine yy_iconst (v := 3) F d_M_sift_44 (n := 45) rfl rfl ?_
          refine yy_goto (tgt := 49) F d_M_sift_45 (by decide) ?_
          refine ma_code F X g_M_55_M hP hSw_3 d_M_sift_49 (n' := 52) rfl (fun Hw_4 locs_w_4 Pw_4 kw_4 Sw_4 => ?_)
          have kw_4 := kpm.rf.tr kw_4
          refine yy_aload_n F d_M_sift_52 (n := 53) rfl 0 rfl ?_
          refine yy_get F X.1 X.2.1 g_M_55_M Pw_4.o rfl d_M_sift_53 (n := 56) rfl ?_
          refine yy_if_le_f (tgt := 61) F d_M_sift_56 (n := 59) rfl (by decide) (by decide) ?_
          refine yy_iconst (v := 0) F d_M_sift_59 (n := 60) rfl rfl ?_
          exact yy_iret F Sw_4 ⟨Nat.zero_le _, Nat.zero_le _⟩ rfl d_M_sift_60 (mq_i (o := some e_ia) (v := 0) (σ := σ) (by unfold sp_sift; unfold ch_con; rw [hin, show (!decide (k_kd σ (cN x) = 5)) = true by simp [h5], hs, show (!decide (by_ < 1)) = false by simp [Int32.not_le.mp hby]]; rfl) R Pw_4 kw_4 (by decide) (fun h => by cases h))
      · refine yy_if_eq_f (tgt := 39) F d_M_sift_32 (n := 35) rfl (by decide) (by decide) ?_
        refine yy_iconst (v := 4) F d_M_sift_35 (n := 36) rfl rfl ?_
        refine yy_goto (tgt := 49) F d_M_sift_36 (by decide) ?_
        refine ma_code F X g_M_55_M hP hSw_3 d_M_sift_49 (n' := 52) rfl (fun Hw_13 locs_w_13 Pw_13 kw_13 Sw_13 => ?_)
        have kw_13 := kpm.rf.tr kw_13
        refine yy_aload_n F d_M_sift_52 (n := 53) rfl 0 rfl ?_
        refine yy_get F X.1 X.2.1 g_M_55_M Pw_13.o rfl d_M_sift_53 (n := 56) rfl ?_
        refine yy_if_le_f (tgt := 61) F d_M_sift_56 (n := 59) rfl (by decide) (by decide) ?_
        refine yy_iconst (v := 0) F d_M_sift_59 (n := 60) rfl rfl ?_
        exact yy_iret F Sw_13 ⟨Nat.zero_le _, Nat.zero_le _⟩ rfl d_M_sift_60 (mq_i (o := some e_rt) (v := 0) (σ := σ) (by unfold sp_sift; unfold ch_con; rw [hin, show (!decide (k_kd σ (cN x) = 5)) = true by simp [h5], hs]; rfl) R Pw_13 kw_13 (by decide) (fun h => by cases h))
    · refine yy_iconst (v := 2) F d_M_sift_23 (n := 24) rfl rfl ?_
      refine yy_goto (tgt := 49) F d_M_sift_24 (by decide) ?_
      refine ma_code F X g_M_55_M hP hSw_1 d_M_sift_49 (n' := 52) rfl (fun Hw_14 locs_w_14 Pw_14 kw_14 Sw_14 => ?_)
      have kw_14 := kpm.rf.tr kw_14
      refine yy_aload_n F d_M_sift_52 (n := 53) rfl 0 rfl ?_
      refine yy_get F X.1 X.2.1 g_M_55_M Pw_14.o rfl d_M_sift_53 (n := 56) rfl ?_
      refine yy_if_le_f (tgt := 61) F d_M_sift_56 (n := 59) rfl (by decide) (by decide) ?_
      refine yy_iconst (v := 0) F d_M_sift_59 (n := 60) rfl rfl ?_
      exact yy_iret F Sw_14 ⟨Nat.zero_le _, Nat.zero_le _⟩ rfl d_M_sift_60 (mq_i (o := some e_uo) (v := 0) (σ := σ) (by unfold sp_sift; unfold ch_con; rw [hin, show (!decide (k_kd σ (cN x) = 5)) = false by simp [h5]]; rfl) R Pw_14 kw_14 (by decide) (fun h => by cases h))
set_option maxRecDepth 100000 in
set_option maxHeartbeats 4000000 in
theorem c_M_open {l : Launch} {z : State} {a0 : Array Value} {D : va_G} {ca : kca} (X : kcx l z a0 D ca) {a n : Nat} {cd : Int32} {s : ms} {σ : ks} {t : Nat} (I : iv t σ) (R : mr s σ) {x y : Int32} : yy_M l z y_M_open (.code y_M_open b_M_open 3 none) ({ frames := 1, cells := 0, slots := 0, locals := 23 }) [.ref a, .int x, .int y] (mo_at D ca z a n cd s) (mqv D ca z a n [e_io, e_uo, e_rt] (sp_open σ x y)) := by
  refine yy_body (plainFor_of_name (by decide)) (Nat.le_of_ble_eq_true rfl) (fun b H F hS hP hH hnm => ?_)
  have h10 := I.m10
  refine yy_aload_n F d_M_open_0 (n := 1) rfl 0 rfl ?_
  refine yy_aload_n F d_M_open_1 (n := 2) rfl 0 rfl ?_
  refine yy_iload_n F d_M_open_2 (n := 3) rfl 2 rfl ?_
  refine yy_cri (w := (ym_n (ym_inb y (k_m σ)))) F hS (c_M_isThere (x := y) X I R) (yy_Bc F X.1 q_918 q_3) (yy_invV (nA := 1) (C := R_M) (bytes := b_M_isThere) (maxL := 2) (retY := (some .boolean)) F X.1 q_915 q_917 qs_M_isThere q_918 ⟨by decide, by decide, by decide +kernel⟩ (yy_recv F.N X.2.1 (ci := 6) rfl hP.o) rfl d_M_open_3) d_M_open_3 (n := 6) rfl (by simp [Value.category]) ⟨by decide, by decide⟩ ⟨Nat.zero_le _, Nat.zero_le _⟩ ⟨rfl, rfl⟩ hP rfl (fun _ hSw_1 => ?_)
  cases hin : ym_inb y (k_m σ)
  · refine yy_if_eq_t (tgt := 18) F d_M_open_6 (by decide) rfl ?_
    have hsp : sp_open σ x y = (some e_io, 0, σ) := by
      unfold sp_open ch_con
      rw [hin]
      cases ym_inb x 4 <;> rfl
    refine yy_iconst (v := 1) F d_M_open_18 (n := 19) rfl rfl ?_
    refine yy_goto (tgt := 49) F d_M_open_19 (by decide) ?_
    refine ma_code F X g_M_55_M hP hSw_1 d_M_open_49 (n' := 52) rfl (fun Hw_2 locs_w_2 Pw_2 kw_2 Sw_2 => ?_)
    have kw_2 := kpm.rf.tr kw_2
    refine yy_aload_n F d_M_open_52 (n := 53) rfl 0 rfl ?_
    refine yy_get F X.1 X.2.1 g_M_55_M Pw_2.o rfl d_M_open_53 (n := 56) rfl ?_
    refine yy_if_le_f (tgt := 60) F d_M_open_56 (n := 59) rfl (by decide) (by decide) ?_
    exact yy_vret F Sw_2 ⟨Nat.zero_le _, Nat.zero_le _⟩ rfl d_M_open_59 (mq_v (o := some e_io) (v := 0) (σ := σ) hsp R Pw_2 kw_2 (by decide))
  · refine yy_if_eq_f (tgt := 18) F d_M_open_6 (n := 9) rfl (by decide) (by decide) ?_
    obtain ⟨hcy, exy⟩ := inb_cN (by omega) hin
    refine yy_iload_n F d_M_open_9 (n := 10) rfl 1 rfl ?_
    refine yy_if_lt (tgt := 18) F d_M_open_10 (n := 13) rfl (by decide) (fun h0 => ?_) (fun h0 => ?_)
    · refine yy_iconst (v := 1) F d_M_open_18 (n := 19) rfl rfl ?_
      refine yy_goto (tgt := 49) F d_M_open_19 (by decide) ?_
      refine ma_code F X g_M_55_M hP hSw_1 d_M_open_49 (n' := 52) rfl (fun Hw_3 locs_w_3 Pw_3 kw_3 Sw_3 => ?_)
      have kw_3 := kpm.rf.tr kw_3
      refine yy_aload_n F d_M_open_52 (n := 53) rfl 0 rfl ?_
      refine yy_get F X.1 X.2.1 g_M_55_M Pw_3.o rfl d_M_open_53 (n := 56) rfl ?_
      refine yy_if_le_f (tgt := 60) F d_M_open_56 (n := 59) rfl (by decide) (by decide) ?_
      exact yy_vret F Sw_3 ⟨Nat.zero_le _, Nat.zero_le _⟩ rfl d_M_open_59 (mq_v (o := some e_io) (v := 0) (σ := σ) (by unfold sp_open; rw [show ym_inb x 4 = false by simp [ym_inb, h0]]; rfl) R Pw_3 kw_3 (by decide))
    · refine yy_iload_n F d_M_open_13 (n := 14) rfl 1 rfl ?_
      refine yy_iconst (v := 4) F d_M_open_14 (n := 15) rfl rfl ?_
      refine yy_ic_lt (tgt := 22) F d_M_open_15 (n := 18) rfl (by decide) (fun h4 => ?_) (fun h4 => ?_)
      · have hi4 : ym_inb x 4 = true := by simp [ym_inb, h0, show x < nI 4 from h4]
        obtain ⟨hi, ex⟩ := inb_cN (by decide) hi4
        rw [show (Value.int x) = Value.int (nI (cN x)) from congrArg Value.int ex]
        rw [show (Value.int y) = Value.int (nI (cN y)) from congrArg Value.int exy]
        have hb := I.bs hcy
        have h24 := I.ct hcy
        refine yy_aload_n F d_M_open_22 (n := 23) rfl 0 rfl ?_
        refine yy_get F X.1 X.2.1 g_M_7_M hP.o rfl d_M_open_23 (n := 26) rfl ?_
        refine yy_iload_n F d_M_open_26 (n := 27) rfl 2 rfl ?_
        refine ma_ld (j := 0) (i := (cN y)) F X hP (by decide) (show cN y < 10 by omega) d_M_open_27 (n' := 28) rfl ?_
        refine yy_tope (y := (k_kd σ (cN y))) (R.kd hcy) ?_
        refine yy_iconst (v := 5) F d_M_open_28 (n := 29) rfl rfl ?_
        refine yy_ic_ne (tgt := 36) F d_M_open_29 (n := 32) rfl (by decide) (fun h5 => ?_) (fun h5 => ?_)
        · refine yy_aload_n F d_M_open_36 (n := 37) rfl 0 rfl ?_
          refine yy_iload_n F d_M_open_37 (n := 38) rfl 2 rfl ?_
          refine yy_cri (w := (ym_n (k_stale σ (cN y)))) F hSw_1 (c_M_isStale X I R hcy) (yy_Bc F X.1 q_930 q_3) (yy_invV (nA := 1) (C := R_M) (bytes := b_M_isStale) (maxL := 4) (retY := (some .boolean)) F X.1 q_927 q_929 qs_M_isStale q_930 ⟨by decide, by decide, by decide +kernel⟩ (yy_recv F.N X.2.1 (ci := 6) rfl hP.o) rfl d_M_open_38) d_M_open_38 (n := 41) rfl (by simp [Value.category]) ⟨by decide, by decide⟩ ⟨Nat.zero_le _, Nat.zero_le _⟩ ⟨rfl, rfl⟩ hP rfl (fun _ hSw_4 => ?_)
          cases hs : k_stale σ (cN y)
          · refine yy_if_eq_t (tgt := 48) F d_M_open_41 (by decide) rfl ?_
            have hb := I.bs hcy
            refine yy_iconst (v := 0) F d_M_open_48 (n := 49) rfl rfl ?_
            refine ma_code F X g_M_55_M hP hSw_4 d_M_open_49 (n' := 52) rfl (fun Hw_5 locs_w_5 Pw_5 kw_5 Sw_5 => ?_)
            have kw_5 := kpm.rf.tr kw_5
            refine yy_aload_n F d_M_open_52 (n := 53) rfl 0 rfl ?_
            refine yy_get F X.1 X.2.1 g_M_55_M Pw_5.o rfl d_M_open_53 (n := 56) rfl ?_
            refine yy_if_le_t (tgt := 60) F d_M_open_56 (by decide) (by decide) ?_
            refine yy_aload_n F d_M_open_60 (n := 61) rfl 0 rfl ?_
            refine yy_get F X.1 X.2.1 g_M_43_M Pw_5.o rfl d_M_open_61 (n := 64) rfl ?_
            refine yy_iload_n F d_M_open_64 (n := 65) rfl 1 rfl ?_
            refine yy_iload_n F d_M_open_65 (n := 66) rfl 2 rfl ?_
            refine ma_st (j := 11) (i := (cN x)) F X Pw_5 Sw_5 (by decide) (show cN x < 4 by omega) d_M_open_66 (n' := 67) rfl (fun Hw_6 locs_w_6 Pw_6 kw_6 Sw_6 => ?_)
            have kw_6 := kw_5.tr kw_6
            refine yy_aload_n F d_M_open_67 (n := 68) rfl 0 rfl ?_
            refine yy_get F X.1 X.2.1 g_M_46_M Pw_6.o rfl d_M_open_68 (n := 71) rfl ?_
            refine yy_iload_n F d_M_open_71 (n := 72) rfl 1 rfl ?_
            refine yy_iconst (v := 0) F d_M_open_72 (n := 73) rfl rfl ?_
            refine yy_tope (y := (nI 0)) rfl ?_
            refine ma_st (j := 12) (i := (cN x)) F X Pw_6 Sw_6 (by decide) (show cN x < 4 by omega) d_M_open_73 (n' := 74) rfl (fun Hw_7 locs_w_7 Pw_7 kw_7 Sw_7 => ?_)
            have kw_7 := kw_6.tr kw_7
            refine yy_aload_n F d_M_open_74 (n := 75) rfl 0 rfl ?_
            refine yy_get F X.1 X.2.1 g_M_49_M Pw_7.o rfl d_M_open_75 (n := 78) rfl ?_
            refine yy_iload_n F d_M_open_78 (n := 79) rfl 1 rfl ?_
            refine yy_iconst (v := (-1)) F d_M_open_79 (n := 80) rfl rfl ?_
            refine ma_st (j := 13) (i := (cN x)) F X Pw_7 Sw_7 (by decide) (show cN x < 4 by omega) d_M_open_80 (n' := 81) rfl (fun Hw_8 locs_w_8 Pw_8 kw_8 Sw_8 => ?_)
            have kw_8 := kw_7.tr kw_8
            refine yy_aload_n F d_M_open_81 (n := 82) rfl 0 rfl ?_
            refine yy_get F X.1 X.2.1 g_M_52_M Pw_8.o rfl d_M_open_82 (n := 85) rfl ?_
            refine yy_iload_n F d_M_open_85 (n := 86) rfl 1 rfl ?_
            refine yy_aload_n F d_M_open_86 (n := 87) rfl 0 rfl ?_
            refine yy_get F X.1 X.2.1 g_M_28_M Pw_8.o rfl d_M_open_87 (n := 90) rfl ?_
            refine yy_aload_n F d_M_open_90 (n := 91) rfl 0 rfl ?_
            refine yy_get F X.1 X.2.1 g_M_16_M Pw_8.o rfl d_M_open_91 (n := 94) rfl ?_
            refine yy_iload_n F d_M_open_94 (n := 95) rfl 2 rfl ?_
            refine ma_ld (j := 2) (i := (cN y)) F X Pw_8 (by decide) (show cN y < 10 by omega) d_M_open_95 (n' := 96) rfl ?_
            refine yy_tope (y := (nI (k_bs σ (cN y)))) (R.bs hcy) ?_
            refine ma_ld (j := 6) (i := (k_bs σ (cN y))) F X Pw_8 (by decide) (show k_bs σ (cN y) < 10 by omega) d_M_open_96 (n' := 97) rfl ?_
            refine yy_tope (y := (nI (s_ch (k_B σ (cN y))))) (R.ch I hcy) ?_
            refine ma_st (j := 14) (i := (cN x)) F X Pw_8 Sw_8 (by decide) (show cN x < 4 by omega) d_M_open_97 (n' := 98) rfl (fun Hw_9 locs_w_9 Pw_9 kw_9 Sw_9 => ?_)
            have kw_9 := kw_8.tr kw_9
            have R2 : mr (m_set (m_set (m_set (m_set s 11 (cN x) (nI (cN y))) 12 (cN x) (nI 0)) 13 (cN x) (-1)) 14 (cN x) (nI (s_ch (k_B σ (cN y))))) (k_setW σ (cN x) (some (cN y), 0, -1, s_ch (k_B σ (cN y)))) := by
              refine R.setW rfl (fun j hj => ?_) (fun j i' h => (m_set_x _ _ _ h).trans ((m_set_x _ _ _ h).trans ((m_set_x _ _ _ h).trans (m_set_x _ _ _ h)))) ⟨?_, ?_, ?_, ?_⟩
              · rw [m_set_o _ _ (by omega), m_set_o _ _ (by omega), m_set_o _ _ (by omega), m_set_o _ _ (by omega)]
              · show upd _ (cN x) _ (cN x) = _
                exact upd_s _ _ _
              · show upd _ (cN x) _ (cN x) = _
                exact upd_s _ _ _
              · show upd _ (cN x) _ (cN x) = _
                exact upd_s _ _ _
              · show upd _ (cN x) _ (cN x) = _
                exact upd_s _ _ _
            exact yy_vret F Sw_9 ⟨Nat.zero_le _, Nat.zero_le _⟩ rfl d_M_open_98 (mq_v (o := none) (v := 0) (σ := (k_setW σ (cN x) (some (cN y), 0, -1, s_ch (k_B σ (cN y))))) (by unfold sp_open; unfold ch_con; rw [hi4, hin, show (!decide (k_kd σ (cN y) = 5)) = true by simp [h5], hs]; rfl) R2 Pw_9 kw_9 (by decide))
          · refine yy_if_eq_f (tgt := 48) F d_M_open_41 (n := 44) rfl (by decide) (by decide) ?_
            refine yy_iconst (v := 3) F d_M_open_44 (n := 45) rfl rfl ?_
            refine yy_goto (tgt := 49) F d_M_open_45 (by decide) ?_
            refine ma_code F X g_M_55_M hP hSw_4 d_M_open_49 (n' := 52) rfl (fun Hw_10 locs_w_10 Pw_10 kw_10 Sw_10 => ?_)
            have kw_10 := kpm.rf.tr kw_10
            refine yy_aload_n F d_M_open_52 (n := 53) rfl 0 rfl ?_
            refine yy_get F X.1 X.2.1 g_M_55_M Pw_10.o rfl d_M_open_53 (n := 56) rfl ?_
            refine yy_if_le_f (tgt := 60) F d_M_open_56 (n := 59) rfl (by decide) (by decide) ?_
            exact yy_vret F Sw_10 ⟨Nat.zero_le _, Nat.zero_le _⟩ rfl d_M_open_59 (mq_v (o := some e_rt) (v := 0) (σ := σ) (by unfold sp_open; unfold ch_con; rw [hi4, hin, show (!decide (k_kd σ (cN y) = 5)) = true by simp [h5], hs]; rfl) R Pw_10 kw_10 (by decide))
        · refine yy_iconst (v := 2) F d_M_open_32 (n := 33) rfl rfl ?_
          refine yy_goto (tgt := 49) F d_M_open_33 (by decide) ?_
          refine ma_code F X g_M_55_M hP hSw_1 d_M_open_49 (n' := 52) rfl (fun Hw_11 locs_w_11 Pw_11 kw_11 Sw_11 => ?_)
          have kw_11 := kpm.rf.tr kw_11
          refine yy_aload_n F d_M_open_52 (n := 53) rfl 0 rfl ?_
          refine yy_get F X.1 X.2.1 g_M_55_M Pw_11.o rfl d_M_open_53 (n := 56) rfl ?_
          refine yy_if_le_f (tgt := 60) F d_M_open_56 (n := 59) rfl (by decide) (by decide) ?_
          exact yy_vret F Sw_11 ⟨Nat.zero_le _, Nat.zero_le _⟩ rfl d_M_open_59 (mq_v (o := some e_uo) (v := 0) (σ := σ) (by unfold sp_open; unfold ch_con; rw [hi4, hin, show (!decide (k_kd σ (cN y) = 5)) = false by simp [h5]]; rfl) R Pw_11 kw_11 (by decide))
      · refine yy_iconst (v := 1) F d_M_open_18 (n := 19) rfl rfl ?_
        refine yy_goto (tgt := 49) F d_M_open_19 (by decide) ?_
        refine ma_code F X g_M_55_M hP hSw_1 d_M_open_49 (n' := 52) rfl (fun Hw_12 locs_w_12 Pw_12 kw_12 Sw_12 => ?_)
        have kw_12 := kpm.rf.tr kw_12
        refine yy_aload_n F d_M_open_52 (n := 53) rfl 0 rfl ?_
        refine yy_get F X.1 X.2.1 g_M_55_M Pw_12.o rfl d_M_open_53 (n := 56) rfl ?_
        refine yy_if_le_f (tgt := 60) F d_M_open_56 (n := 59) rfl (by decide) (by decide) ?_
        exact yy_vret F Sw_12 ⟨Nat.zero_le _, Nat.zero_le _⟩ rfl d_M_open_59 (mq_v (o := some e_io) (v := 0) (σ := σ) (by unfold sp_open; rw [show ym_inb x 4 = false by simp [ym_inb, show ¬ x < nI 4 from h4]]; rfl) R Pw_12 kw_12 (by decide))
set_option maxRecDepth 100000 in
set_option maxHeartbeats 4000000 in
theorem c_M_next {l : Launch} {z : State} {a0 : Array Value} {D : va_G} {ca : kca} (X : kcx l z a0 D ca) {a n : Nat} {cd : Int32} {s : ms} {σ : ks} {t : Nat} (I : iv t σ) (R : mr s σ) {x e : Int32} : yy_M l z y_M_next (.code y_M_next b_M_next 5 (some .int)) ({ frames := 2, cells := 0, slots := 0, locals := 45 }) [.ref a, .int x, .int e] (mo_at D ca z a n cd s) (mqi D ca z a n [e_io, e_uo, e_ns, e_rt] (sp_next σ x e)) := by
  refine yy_body (plainFor_of_name (by decide)) (Nat.le_of_ble_eq_true rfl) (fun b H F hS hP hH hnm => ?_)
  have h10 := I.m10
  refine yy_aload_n F d_M_next_0 (n := 1) rfl 0 rfl ?_
  refine yy_aload_n F d_M_next_1 (n := 2) rfl 0 rfl ?_
  refine yy_iload_n F d_M_next_2 (n := 3) rfl 1 rfl ?_
  refine yy_cri (w := (ym_n (decide (ch_wk σ x = none)))) F hS (c_M_isOpen (x := x) X I R) (yy_Bc F X.1 q_1091 q_3) (yy_invV (nA := 1) (C := R_M) (bytes := b_M_isOpen) (maxL := 2) (retY := (some .boolean)) F X.1 q_1088 q_1090 qs_M_isOpen q_1091 ⟨by decide, by decide, by decide +kernel⟩ (yy_recv F.N X.2.1 (ci := 6) rfl hP.o) rfl d_M_next_3) d_M_next_3 (n := 6) rfl (by simp [Value.category]) ⟨by decide, by decide⟩ ⟨Nat.zero_le _, Nat.zero_le _⟩ ⟨rfl, rfl⟩ hP rfl (fun _ hSw_1 => ?_)
  cases hop : decide (ch_wk σ x = none)
  · refine yy_if_ne_f (tgt := 13) F d_M_next_6 (n := 9) rfl (by decide) rfl ?_
    have hE := of_decide_eq_false hop
    cases hE9 : ch_wk σ x with
    | none => exact absurd hE9 hE
    | some E =>
      have hEE := (ch_wk_some hE9).2
      subst hEE
      refine yy_iconst (v := 1) F d_M_next_9 (n := 10) rfl rfl ?_
      refine yy_goto (tgt := 47) F d_M_next_10 (by decide) ?_
      refine ma_code F X g_M_55_M hP hSw_1 d_M_next_47 (n' := 50) rfl (fun Hw_2 locs_w_2 Pw_2 kw_2 Sw_2 => ?_)
      have kw_2 := kpm.rf.tr kw_2
      refine yy_aload_n F d_M_next_50 (n := 51) rfl 0 rfl ?_
      refine yy_get F X.1 X.2.1 g_M_55_M Pw_2.o rfl d_M_next_51 (n := 54) rfl ?_
      refine yy_if_le_f (tgt := 59) F d_M_next_54 (n := 57) rfl (by decide) (by decide) ?_
      refine yy_iconst (v := 0) F d_M_next_57 (n := 58) rfl rfl ?_
      exact yy_iret F Sw_2 ⟨Nat.zero_le _, Nat.zero_le _⟩ rfl d_M_next_58 (mq_i (o := some e_io) (v := 0) (σ := σ) (by unfold sp_next; rw [hE9]; rfl) R Pw_2 kw_2 (by decide) (fun h => by cases h))
  · refine yy_if_ne_t (tgt := 13) F d_M_next_6 (by decide) (by decide) ?_
    have hE := of_decide_eq_true hop
    obtain ⟨hi, ex, hov, hc⟩ := ch_wk_none I hE
    have hb := I.bs hc
    have h24 := I.ct hc
    rw [show (Value.int x) = Value.int (nI (cN x)) from congrArg Value.int ex]
    have h50 := ((I.2.2.2.2 _ hi).2 _ hov).2.1
    have h5 := k_nh5 I hc h50
    have hb := I.bs hc
    refine yy_iload_n F d_M_next_13 (n := 14) rfl 2 rfl ?_
    refine yy_if_ne (tgt := 34) F d_M_next_14 (n := 17) rfl (by decide) (fun he => ?_) (fun he => ?_)
    · have hd : (!decide (e = 0) || k_isl (k_kd σ (k_ov σ (cN x)))) = true := by simp [he]
      refine yy_aload_n F d_M_next_34 (n := 35) rfl 0 rfl ?_
      refine yy_iload_n F d_M_next_35 (n := 36) rfl 1 rfl ?_
      refine yy_cri (w := (ym_n (k_lost σ (cN x) (k_ov σ (cN x))))) F hSw_1 (c_M_isLost X I R hi hov) (yy_Bc F X.1 q_1095 q_3) (yy_invV (nA := 1) (C := R_M) (bytes := b_M_isLost) (maxL := 2) (retY := (some .boolean)) F X.1 q_1092 q_1094 qs_M_isLost q_1095 ⟨by decide, by decide, by decide +kernel⟩ (yy_recv F.N X.2.1 (ci := 6) rfl hP.o) rfl d_M_next_36) d_M_next_36 (n := 39) rfl (by simp [Value.category]) ⟨by decide, by decide⟩ ⟨Nat.zero_le _, Nat.zero_le _⟩ ⟨rfl, rfl⟩ hP rfl (fun _ hSw_3 => ?_)
      cases hlo : k_lost σ (cN x) (k_ov σ (cN x))
      · refine yy_if_eq_t (tgt := 46) F d_M_next_39 (by decide) rfl ?_
        have hend := I.end hc (k_fr_of (k_lost_no hlo).1)
        have hwk := (I.walk hi hov hlo).1
        have hnx : k_nx σ (cN x) e = nI (k_W σ (cN x)).2.1 := if_neg he
        refine yy_iconst (v := 0) F d_M_next_46 (n := 47) rfl rfl ?_
        refine ma_code F X g_M_55_M hP hSw_3 d_M_next_47 (n' := 50) rfl (fun Hw_4 locs_w_4 Pw_4 kw_4 Sw_4 => ?_)
        have kw_4 := kpm.rf.tr kw_4
        refine yy_aload_n F d_M_next_50 (n := 51) rfl 0 rfl ?_
        refine yy_get F X.1 X.2.1 g_M_55_M Pw_4.o rfl d_M_next_51 (n := 54) rfl ?_
        refine yy_if_le_t (tgt := 59) F d_M_next_54 (by decide) (by decide) ?_
        refine yy_aload_n F d_M_next_59 (n := 60) rfl 0 rfl ?_
        refine yy_get F X.1 X.2.1 g_M_43_M Pw_4.o rfl d_M_next_60 (n := 63) rfl ?_
        refine yy_iload_n F d_M_next_63 (n := 64) rfl 1 rfl ?_
        refine ma_ld (j := 11) (i := (cN x)) F X Pw_4 (by decide) (show cN x < 4 by omega) d_M_next_64 (n' := 65) rfl ?_
        refine yy_tope (y := (nI (k_ov σ (cN x)))) ((R.w1 hi hov).1) ?_
        refine yy_istore_n (lv' := [(3, .int (nI (k_ov σ (cN x)))), (0, .ref a), (1, .int (nI (cN x))), (2, .int e)]) F d_M_next_65 (n := 66) rfl (by decide) rfl ?_
        refine yy_iload_n F d_M_next_66 (n := 67) rfl 3 rfl ?_
        refine yy_if_eq_f (tgt := 79) F d_M_next_67 (n := 70) rfl (by decide) he ?_
        refine yy_aload_n F d_M_next_70 (n := 71) rfl 1 rfl ?_
        refine yy_get F X.1 X.2.1 g_M_46_M Pw_4.o rfl d_M_next_71 (n := 74) rfl ?_
        refine yy_iload_n F d_M_next_74 (n := 75) rfl 2 rfl ?_
        refine ma_ld (j := 12) (i := (cN x)) F X Pw_4 (by decide) (show cN x < 4 by omega) d_M_next_75 (n' := 76) rfl ?_
        refine yy_tope (y := (nI (k_W σ (cN x)).2.1)) ((R.w1 hi hov).2.1) ?_
        refine yy_goto (tgt := 87) F d_M_next_76 (by decide) ?_
        refine yy_tope (y := (k_nx σ (cN x) e)) hnx.symm ?_
        refine yy_istore (lv' := [(4, .int (k_nx σ (cN x) e)), (3, .int (nI (k_ov σ (cN x)))), (0, .ref a), (1, .int (nI (cN x))), (2, .int e)]) F d_M_next_87 (n := 89) rfl (by decide) rfl ?_
        refine yy_iload F d_M_next_89 (n := 91) rfl 0 rfl ?_
        refine yy_if_lt (tgt := 104) F d_M_next_91 (n := 94) rfl (by decide) (fun h0 => ?_) (fun h0 => ?_)
        · refine yy_aload_n F d_M_next_104 (n := 105) rfl 2 rfl ?_
          refine yy_iconst (v := 3) F d_M_next_105 (n := 106) rfl rfl ?_
          refine yy_ci F Sw_4 (c_M_fail (e := 3) X) (yy_Bc F X.1 q_1049 q_3) (yy_invV (nA := 1) (C := R_M) (bytes := b_M_fail) (maxL := 2) (retY := (some .int)) F X.1 q_1046 q_1048 qs_M_fail q_1049 ⟨by decide, by decide, by decide +kernel⟩ (yy_recv F.N X.2.1 (ci := 6) rfl Pw_4.o) rfl d_M_next_106) d_M_next_106 (n := 109) rfl (by simp [Value.category]) ⟨by decide, by decide⟩ ⟨Nat.zero_le _, Nat.zero_le _⟩ ⟨rfl, rfl⟩ Pw_4 (fun r_w_5 Hw_5 locs_w_5 qw_5 Sw_5 => ?_)
          obtain ⟨e_r, Pf, kf⟩ := qw_5
          have kf := kw_4.tr kf
          exact yy_iret F Sw_5 ⟨Nat.zero_le _, Nat.zero_le _⟩ rfl d_M_next_109 (mq_i (o := some e_ns) (v := 0) (σ := σ) (by unfold sp_next; rw [hE, hd, hlo, show ym_inb (k_nx σ (cN x) e) (k_size σ (k_ov σ (cN x))) = false by simp [ym_inb, h0]]; rfl) R Pf kf (by decide) (fun h => by cases h))
        · refine yy_iload F d_M_next_94 (n := 96) rfl 0 rfl ?_
          refine yy_aload_n F d_M_next_96 (n := 97) rfl 2 rfl ?_
          refine yy_iload_n F d_M_next_97 (n := 98) rfl 1 rfl ?_
          refine yy_cri (w := (nI (k_size σ (k_ov σ (cN x))))) F Sw_4 (c_M_sizeOf X I R hc) (yy_Bc F X.1 q_934 q_3) (yy_invV (nA := 1) (C := R_M) (bytes := b_M_sizeOf) (maxL := 4) (retY := (some .int)) F X.1 q_931 q_933 qs_M_sizeOf q_934 ⟨by decide, by decide, by decide +kernel⟩ (yy_recv F.N X.2.1 (ci := 6) rfl Pw_4.o) rfl d_M_next_98) d_M_next_98 (n := 101) rfl (by simp [Value.category]) ⟨by decide, by decide⟩ ⟨Nat.zero_le _, Nat.zero_le _⟩ ⟨rfl, rfl⟩ Pw_4 rfl (fun _ hSw_6 => ?_)
          refine yy_ic_lt (tgt := 110) F d_M_next_101 (n := 104) rfl (by decide) (fun h1 => ?_) (fun h1 => ?_)
          · have hp : ym_inb (k_nx σ (cN x) e) (k_size σ (k_ov σ (cN x))) = true := by simp [ym_inb, h0, h1]
            obtain ⟨hp1, hp2⟩ := inb_cN (by omega) hp
            rw [show Value.int (k_nx σ (cN x) e) = Value.int (nI (cN (k_nx σ (cN x) e))) from congrArg Value.int hp2]
            refine yy_aload_n F d_M_next_110 (n := 111) rfl 2 rfl ?_
            refine yy_get F X.1 X.2.1 g_M_49_M Pw_4.o rfl d_M_next_111 (n := 114) rfl ?_
            refine yy_iload_n F d_M_next_114 (n := 115) rfl 3 rfl ?_
            refine yy_iload F d_M_next_115 (n := 117) rfl 0 rfl ?_
            refine ma_st (j := 13) (i := (cN x)) F X Pw_4 hSw_6 (by decide) (show cN x < 4 by omega) d_M_next_117 (n' := 118) rfl (fun Hw_7 locs_w_7 Pw_7 kw_7 Sw_7 => ?_)
            have kw_7 := kw_4.tr kw_7
            refine yy_aload_n F d_M_next_118 (n := 119) rfl 2 rfl ?_
            refine yy_get F X.1 X.2.1 g_M_46_M Pw_7.o rfl d_M_next_119 (n := 122) rfl ?_
            refine yy_iload_n F d_M_next_122 (n := 123) rfl 3 rfl ?_
            refine yy_iload_n F d_M_next_123 (n := 124) rfl 4 rfl ?_
            refine yy_if_eq_f (tgt := 134) F d_M_next_124 (n := 127) rfl (by decide) he ?_
            refine yy_iload F d_M_next_127 (n := 129) rfl 0 rfl ?_
            refine yy_iconst (v := 1) F d_M_next_129 (n := 130) rfl rfl ?_
            refine yy_iadd F d_M_next_130 (n := 131) rfl ?_
            refine yy_tope (y := (nI (cN (k_nx σ (cN x) e) + 1))) (nI_1 _) ?_
            refine yy_goto (tgt := 136) F d_M_next_131 (by decide) ?_
            refine ma_st (j := 12) (i := (cN x)) F X Pw_7 Sw_7 (by decide) (show cN x < 4 by omega) d_M_next_136 (n' := 137) rfl (fun Hw_8 locs_w_8 Pw_8 kw_8 Sw_8 => ?_)
            have kw_8 := kw_7.tr kw_8
            have hpl : (if e = 0 then cN (k_nx σ (cN x) e) else cN (k_nx σ (cN x) e) + 1) = cN (k_nx σ (cN x) e) + 1 := if_neg he
            have R2 : mr (m_set (m_set s 13 (cN x) (nI (cN (k_nx σ (cN x) e)))) 12 (cN x) (nI (cN (k_nx σ (cN x) e) + 1))) (k_setW σ (cN x) ((k_W σ (cN x)).1, (if e = 0 then cN (k_nx σ (cN x) e) else cN (k_nx σ (cN x) e) + 1), nI (cN (k_nx σ (cN x) e)), (k_W σ (cN x)).2.2.2)) := by
              refine R.setW rfl (fun j hj => ?_) (fun j i' h => (m_set_x _ _ _ h).trans (m_set_x _ _ _ h)) ?_
              · rw [m_set_o _ _ (by omega), m_set_o _ _ (by omega)]
              · unfold mr_w
                rw [hov]
                refine ⟨(R.w1 hi hov).1, ?_, ?_, (R.w1 hi hov).2.2.2⟩
                · show upd _ (cN x) _ (cN x) = nI (if e = 0 then cN (k_nx σ (cN x) e) else cN (k_nx σ (cN x) e) + 1)
                  rw [upd_s, hpl]
                · show upd _ (cN x) _ (cN x) = _
                  exact upd_s _ _ _
            have I2 : iv t (k_setW σ (cN x) ((k_W σ (cN x)).1, (if e = 0 then cN (k_nx σ (cN x) e) else cN (k_nx σ (cN x) e) + 1), nI (cN (k_nx σ (cN x) e)), (k_W σ (cN x)).2.2.2)) := by
              rw [← hp2]
              exact I.goOver (e := e) hi hov hlo hp1 hp2
            refine yy_aload_n F d_M_next_137 (n := 138) rfl 2 rfl ?_
            refine yy_get F X.1 X.2.1 g_M_19_M Pw_8.o rfl d_M_next_138 (n := 141) rfl ?_
            refine yy_aload_n F d_M_next_141 (n := 142) rfl 2 rfl ?_
            refine yy_iload_n F d_M_next_142 (n := 143) rfl 1 rfl ?_
            refine yy_iload F d_M_next_143 (n := 145) rfl 0 rfl ?_
            refine yy_cri (w := (nI (24 * k_bs σ (k_ov σ (cN x)) + (k_start σ (k_ov σ (cN x)) + cN (k_nx σ (cN x) e))))) F Sw_8 (c_M_at (c := (k_ov σ (cN x))) (x := nI (cN (k_nx σ (cN x) e))) (q := k_start σ (k_ov σ (cN x)) + cN (k_nx σ (cN x) e)) X I2 R2 hc (nI_add _ _)) (yy_Bc F X.1 q_962 q_3) (yy_invV (nA := 2) (C := R_M) (bytes := b_M_at) (maxL := 3) (retY := (some .int)) F X.1 q_959 q_961 qs_M_at q_962 ⟨by decide, by decide, by decide +kernel⟩ (yy_recv F.N X.2.1 (ci := 6) rfl Pw_8.o) rfl d_M_next_145) d_M_next_145 (n := 148) rfl (by simp [Value.category]) ⟨by decide, by decide⟩ ⟨Nat.zero_le _, Nat.zero_le _⟩ ⟨rfl, rfl⟩ Pw_8 rfl (fun _ hSw_9 => ?_)
            refine ma_ld (j := 3) (i := (24 * k_bs σ (k_ov σ (cN x)) + (k_start σ (k_ov σ (cN x)) + cN (k_nx σ (cN x) e)))) F X Pw_8 (by decide) (show 24 * k_bs σ (k_ov σ (cN x)) + (k_start σ (k_ov σ (cN x)) + cN (k_nx σ (cN x) e)) < 240 by omega) d_M_next_148 (n' := 149) rfl ?_
            refine yy_tope (y := (s_nu (k_B σ (k_ov σ (cN x))) (k_start σ (k_ov σ (cN x)) + cN (k_nx σ (cN x) e)))) (R.nu I hc h5 (by omega)) ?_
            exact yy_iret F hSw_9 ⟨Nat.zero_le _, Nat.zero_le _⟩ rfl d_M_next_149 (mq_i (o := none) (v := (s_nu (k_B σ (k_ov σ (cN x))) (k_start σ (k_ov σ (cN x)) + cN (k_nx σ (cN x) e)))) (σ := (k_setW σ (cN x) ((k_W σ (cN x)).1, (if e = 0 then cN (k_nx σ (cN x) e) else cN (k_nx σ (cN x) e) + 1), nI (cN (k_nx σ (cN x) e)), (k_W σ (cN x)).2.2.2))) (by unfold sp_next; rw [hE, hd, hlo, hp]; rfl) R2 Pw_8 kw_8 (by decide) (fun _ => rfl))
          · refine yy_aload_n F d_M_next_104 (n := 105) rfl 2 rfl ?_
            refine yy_iconst (v := 3) F d_M_next_105 (n := 106) rfl rfl ?_
            refine yy_ci F hSw_6 (c_M_fail (e := 3) X) (yy_Bc F X.1 q_1049 q_3) (yy_invV (nA := 1) (C := R_M) (bytes := b_M_fail) (maxL := 2) (retY := (some .int)) F X.1 q_1046 q_1048 qs_M_fail q_1049 ⟨by decide, by decide, by decide +kernel⟩ (yy_recv F.N X.2.1 (ci := 6) rfl Pw_4.o) rfl d_M_next_106) d_M_next_106 (n := 109) rfl (by simp [Value.category]) ⟨by decide, by decide⟩ ⟨Nat.zero_le _, Nat.zero_le _⟩ ⟨rfl, rfl⟩ Pw_4 (fun r_w_10 Hw_10 locs_w_10 qw_10 Sw_10 => ?_)
            obtain ⟨e_r, Pf, kf⟩ := qw_10
            have kf := kw_4.tr kf
            exact yy_iret F Sw_10 ⟨Nat.zero_le _, Nat.zero_le _⟩ rfl d_M_next_109 (mq_i (o := some e_ns) (v := 0) (σ := σ) (by unfold sp_next; rw [hE, hd, hlo, show ym_inb (k_nx σ (cN x) e) (k_size σ (k_ov σ (cN x))) = false by simp [ym_inb, h1]]; rfl) R Pf kf (by decide) (fun h => by cases h))
      · refine yy_if_eq_f (tgt := 46) F d_M_next_39 (n := 42) rfl (by decide) (by decide) ?_
        refine yy_iconst (v := 4) F d_M_next_42 (n := 43) rfl rfl ?_
        refine yy_goto (tgt := 47) F d_M_next_43 (by decide) ?_
        refine ma_code F X g_M_55_M hP hSw_3 d_M_next_47 (n' := 50) rfl (fun Hw_11 locs_w_11 Pw_11 kw_11 Sw_11 => ?_)
        have kw_11 := kpm.rf.tr kw_11
        refine yy_aload_n F d_M_next_50 (n := 51) rfl 0 rfl ?_
        refine yy_get F X.1 X.2.1 g_M_55_M Pw_11.o rfl d_M_next_51 (n := 54) rfl ?_
        refine yy_if_le_f (tgt := 59) F d_M_next_54 (n := 57) rfl (by decide) (by decide) ?_
        refine yy_iconst (v := 0) F d_M_next_57 (n := 58) rfl rfl ?_
        exact yy_iret F Sw_11 ⟨Nat.zero_le _, Nat.zero_le _⟩ rfl d_M_next_58 (mq_i (o := some e_rt) (v := 0) (σ := σ) (by unfold sp_next; rw [hE, hd, hlo]; rfl) R Pw_11 kw_11 (by decide) (fun h => by cases h))
    · refine yy_aload_n F d_M_next_17 (n := 18) rfl 0 rfl ?_
      refine yy_aload_n F d_M_next_18 (n := 19) rfl 0 rfl ?_
      refine yy_get F X.1 X.2.1 g_M_43_M hP.o rfl d_M_next_19 (n := 22) rfl ?_
      refine yy_iload_n F d_M_next_22 (n := 23) rfl 1 rfl ?_
      refine ma_ld (j := 11) (i := (cN x)) F X hP (by decide) (show cN x < 4 by omega) d_M_next_23 (n' := 24) rfl ?_
      refine yy_tope (y := (nI (k_ov σ (cN x)))) ((R.w1 hi hov).1) ?_
      refine yy_cri (w := (ym_n (k_isl (k_kd σ (k_ov σ (cN x)))))) F hSw_1 (c_M_isList X I R hc) (yy_Bc F X.1 q_922 q_3) (yy_invV (nA := 1) (C := R_M) (bytes := b_M_isList) (maxL := 2) (retY := (some .boolean)) F X.1 q_919 q_921 qs_M_isList q_922 ⟨by decide, by decide, by decide +kernel⟩ (yy_recv F.N X.2.1 (ci := 6) rfl hP.o) rfl d_M_next_24) d_M_next_24 (n := 27) rfl (by simp [Value.category]) ⟨by decide, by decide⟩ ⟨Nat.zero_le _, Nat.zero_le _⟩ ⟨rfl, rfl⟩ hP rfl (fun _ hSw_12 => ?_)
      cases hl : k_isl (k_kd σ (k_ov σ (cN x)))
      · refine yy_if_ne_f (tgt := 34) F d_M_next_27 (n := 30) rfl (by decide) rfl ?_
        refine yy_iconst (v := 2) F d_M_next_30 (n := 31) rfl rfl ?_
        refine yy_goto (tgt := 47) F d_M_next_31 (by decide) ?_
        refine ma_code F X g_M_55_M hP hSw_12 d_M_next_47 (n' := 50) rfl (fun Hw_13 locs_w_13 Pw_13 kw_13 Sw_13 => ?_)
        have kw_13 := kpm.rf.tr kw_13
        refine yy_aload_n F d_M_next_50 (n := 51) rfl 0 rfl ?_
        refine yy_get F X.1 X.2.1 g_M_55_M Pw_13.o rfl d_M_next_51 (n := 54) rfl ?_
        refine yy_if_le_f (tgt := 59) F d_M_next_54 (n := 57) rfl (by decide) (by decide) ?_
        refine yy_iconst (v := 0) F d_M_next_57 (n := 58) rfl rfl ?_
        exact yy_iret F Sw_13 ⟨Nat.zero_le _, Nat.zero_le _⟩ rfl d_M_next_58 (mq_i (o := some e_uo) (v := 0) (σ := σ) (by unfold sp_next; rw [hE, show (!decide (e = 0) || k_isl (k_kd σ (k_ov σ (cN x)))) = false by simp [he, hl]]; rfl) R Pw_13 kw_13 (by decide) (fun h => by cases h))
      · refine yy_if_ne_t (tgt := 34) F d_M_next_27 (by decide) (by decide) ?_
        have hd : (!decide (e = 0) || k_isl (k_kd σ (k_ov σ (cN x)))) = true := by simp [hl]
        refine yy_aload_n F d_M_next_34 (n := 35) rfl 0 rfl ?_
        refine yy_iload_n F d_M_next_35 (n := 36) rfl 1 rfl ?_
        refine yy_cri (w := (ym_n (k_lost σ (cN x) (k_ov σ (cN x))))) F hSw_12 (c_M_isLost X I R hi hov) (yy_Bc F X.1 q_1095 q_3) (yy_invV (nA := 1) (C := R_M) (bytes := b_M_isLost) (maxL := 2) (retY := (some .boolean)) F X.1 q_1092 q_1094 qs_M_isLost q_1095 ⟨by decide, by decide, by decide +kernel⟩ (yy_recv F.N X.2.1 (ci := 6) rfl hP.o) rfl d_M_next_36) d_M_next_36 (n := 39) rfl (by simp [Value.category]) ⟨by decide, by decide⟩ ⟨Nat.zero_le _, Nat.zero_le _⟩ ⟨rfl, rfl⟩ hP rfl (fun _ hSw_14 => ?_)
        cases hlo : k_lost σ (cN x) (k_ov σ (cN x))
        · refine yy_if_eq_t (tgt := 46) F d_M_next_39 (by decide) rfl ?_
          have hend := I.end hc (k_fr_of (k_lost_no hlo).1)
          have hwk := (I.walk hi hov hlo).1
          have hnx : k_nx σ (cN x) e = nI (k_W σ (cN x)).2.1 - 1 := if_pos he
          refine yy_iconst (v := 0) F d_M_next_46 (n := 47) rfl rfl ?_
          refine ma_code F X g_M_55_M hP hSw_14 d_M_next_47 (n' := 50) rfl (fun Hw_15 locs_w_15 Pw_15 kw_15 Sw_15 => ?_)
          have kw_15 := kpm.rf.tr kw_15
          refine yy_aload_n F d_M_next_50 (n := 51) rfl 0 rfl ?_
          refine yy_get F X.1 X.2.1 g_M_55_M Pw_15.o rfl d_M_next_51 (n := 54) rfl ?_
          refine yy_if_le_t (tgt := 59) F d_M_next_54 (by decide) (by decide) ?_
          refine yy_aload_n F d_M_next_59 (n := 60) rfl 0 rfl ?_
          refine yy_get F X.1 X.2.1 g_M_43_M Pw_15.o rfl d_M_next_60 (n := 63) rfl ?_
          refine yy_iload_n F d_M_next_63 (n := 64) rfl 1 rfl ?_
          refine ma_ld (j := 11) (i := (cN x)) F X Pw_15 (by decide) (show cN x < 4 by omega) d_M_next_64 (n' := 65) rfl ?_
          refine yy_tope (y := (nI (k_ov σ (cN x)))) ((R.w1 hi hov).1) ?_
          refine yy_istore_n (lv' := [(3, .int (nI (k_ov σ (cN x)))), (0, .ref a), (1, .int (nI (cN x))), (2, .int e)]) F d_M_next_65 (n := 66) rfl (by decide) rfl ?_
          refine yy_iload_n F d_M_next_66 (n := 67) rfl 3 rfl ?_
          refine yy_if_eq_t (tgt := 79) F d_M_next_67 (by decide) he ?_
          refine yy_aload_n F d_M_next_79 (n := 80) rfl 1 rfl ?_
          refine yy_get F X.1 X.2.1 g_M_46_M Pw_15.o rfl d_M_next_80 (n := 83) rfl ?_
          refine yy_iload_n F d_M_next_83 (n := 84) rfl 2 rfl ?_
          refine ma_ld (j := 12) (i := (cN x)) F X Pw_15 (by decide) (show cN x < 4 by omega) d_M_next_84 (n' := 85) rfl ?_
          refine yy_tope (y := (nI (k_W σ (cN x)).2.1)) ((R.w1 hi hov).2.1) ?_
          refine yy_iconst (v := 1) F d_M_next_85 (n := 86) rfl rfl ?_
          refine yy_isub F d_M_next_86 (n := 87) rfl ?_
          refine yy_tope (y := (k_nx σ (cN x) e)) hnx.symm ?_
          refine yy_istore (lv' := [(4, .int (k_nx σ (cN x) e)), (3, .int (nI (k_ov σ (cN x)))), (0, .ref a), (1, .int (nI (cN x))), (2, .int e)]) F d_M_next_87 (n := 89) rfl (by decide) rfl ?_
          refine yy_iload F d_M_next_89 (n := 91) rfl 0 rfl ?_
          refine yy_if_lt (tgt := 104) F d_M_next_91 (n := 94) rfl (by decide) (fun h0 => ?_) (fun h0 => ?_)
          · refine yy_aload_n F d_M_next_104 (n := 105) rfl 2 rfl ?_
            refine yy_iconst (v := 3) F d_M_next_105 (n := 106) rfl rfl ?_
            refine yy_ci F Sw_15 (c_M_fail (e := 3) X) (yy_Bc F X.1 q_1049 q_3) (yy_invV (nA := 1) (C := R_M) (bytes := b_M_fail) (maxL := 2) (retY := (some .int)) F X.1 q_1046 q_1048 qs_M_fail q_1049 ⟨by decide, by decide, by decide +kernel⟩ (yy_recv F.N X.2.1 (ci := 6) rfl Pw_15.o) rfl d_M_next_106) d_M_next_106 (n := 109) rfl (by simp [Value.category]) ⟨by decide, by decide⟩ ⟨Nat.zero_le _, Nat.zero_le _⟩ ⟨rfl, rfl⟩ Pw_15 (fun r_w_16 Hw_16 locs_w_16 qw_16 Sw_16 => ?_)
            obtain ⟨e_r, Pf, kf⟩ := qw_16
            have kf := kw_15.tr kf
            exact yy_iret F Sw_16 ⟨Nat.zero_le _, Nat.zero_le _⟩ rfl d_M_next_109 (mq_i (o := some e_ns) (v := 0) (σ := σ) (by unfold sp_next; rw [hE, hd, hlo, show ym_inb (k_nx σ (cN x) e) (k_size σ (k_ov σ (cN x))) = false by simp [ym_inb, h0]]; rfl) R Pf kf (by decide) (fun h => by cases h))
          · refine yy_iload F d_M_next_94 (n := 96) rfl 0 rfl ?_
            refine yy_aload_n F d_M_next_96 (n := 97) rfl 2 rfl ?_
            refine yy_iload_n F d_M_next_97 (n := 98) rfl 1 rfl ?_
            refine yy_cri (w := (nI (k_size σ (k_ov σ (cN x))))) F Sw_15 (c_M_sizeOf X I R hc) (yy_Bc F X.1 q_934 q_3) (yy_invV (nA := 1) (C := R_M) (bytes := b_M_sizeOf) (maxL := 4) (retY := (some .int)) F X.1 q_931 q_933 qs_M_sizeOf q_934 ⟨by decide, by decide, by decide +kernel⟩ (yy_recv F.N X.2.1 (ci := 6) rfl Pw_15.o) rfl d_M_next_98) d_M_next_98 (n := 101) rfl (by simp [Value.category]) ⟨by decide, by decide⟩ ⟨Nat.zero_le _, Nat.zero_le _⟩ ⟨rfl, rfl⟩ Pw_15 rfl (fun _ hSw_17 => ?_)
            refine yy_ic_lt (tgt := 110) F d_M_next_101 (n := 104) rfl (by decide) (fun h1 => ?_) (fun h1 => ?_)
            · have hp : ym_inb (k_nx σ (cN x) e) (k_size σ (k_ov σ (cN x))) = true := by simp [ym_inb, h0, h1]
              obtain ⟨hp1, hp2⟩ := inb_cN (by omega) hp
              rw [show Value.int (k_nx σ (cN x) e) = Value.int (nI (cN (k_nx σ (cN x) e))) from congrArg Value.int hp2]
              refine yy_aload_n F d_M_next_110 (n := 111) rfl 2 rfl ?_
              refine yy_get F X.1 X.2.1 g_M_49_M Pw_15.o rfl d_M_next_111 (n := 114) rfl ?_
              refine yy_iload_n F d_M_next_114 (n := 115) rfl 3 rfl ?_
              refine yy_iload F d_M_next_115 (n := 117) rfl 0 rfl ?_
              refine ma_st (j := 13) (i := (cN x)) F X Pw_15 hSw_17 (by decide) (show cN x < 4 by omega) d_M_next_117 (n' := 118) rfl (fun Hw_18 locs_w_18 Pw_18 kw_18 Sw_18 => ?_)
              have kw_18 := kw_15.tr kw_18
              refine yy_aload_n F d_M_next_118 (n := 119) rfl 2 rfl ?_
              refine yy_get F X.1 X.2.1 g_M_46_M Pw_18.o rfl d_M_next_119 (n := 122) rfl ?_
              refine yy_iload_n F d_M_next_122 (n := 123) rfl 3 rfl ?_
              refine yy_iload_n F d_M_next_123 (n := 124) rfl 4 rfl ?_
              refine yy_if_eq_t (tgt := 134) F d_M_next_124 (by decide) he ?_
              refine yy_iload F d_M_next_134 (n := 136) rfl 0 rfl ?_
              refine ma_st (j := 12) (i := (cN x)) F X Pw_18 Sw_18 (by decide) (show cN x < 4 by omega) d_M_next_136 (n' := 137) rfl (fun Hw_19 locs_w_19 Pw_19 kw_19 Sw_19 => ?_)
              have kw_19 := kw_18.tr kw_19
              have hpl : (if e = 0 then cN (k_nx σ (cN x) e) else cN (k_nx σ (cN x) e) + 1) = cN (k_nx σ (cN x) e) := if_pos he
              have R2 : mr (m_set (m_set s 13 (cN x) (nI (cN (k_nx σ (cN x) e)))) 12 (cN x) (nI (cN (k_nx σ (cN x) e)))) (k_setW σ (cN x) ((k_W σ (cN x)).1, (if e = 0 then cN (k_nx σ (cN x) e) else cN (k_nx σ (cN x) e) + 1), nI (cN (k_nx σ (cN x) e)), (k_W σ (cN x)).2.2.2)) := by
                refine R.setW rfl (fun j hj => ?_) (fun j i' h => (m_set_x _ _ _ h).trans (m_set_x _ _ _ h)) ?_
                · rw [m_set_o _ _ (by omega), m_set_o _ _ (by omega)]
                · unfold mr_w
                  rw [hov]
                  refine ⟨(R.w1 hi hov).1, ?_, ?_, (R.w1 hi hov).2.2.2⟩
                  · show upd _ (cN x) _ (cN x) = nI (if e = 0 then cN (k_nx σ (cN x) e) else cN (k_nx σ (cN x) e) + 1)
                    rw [upd_s, hpl]
                  · show upd _ (cN x) _ (cN x) = _
                    exact upd_s _ _ _
              have I2 : iv t (k_setW σ (cN x) ((k_W σ (cN x)).1, (if e = 0 then cN (k_nx σ (cN x) e) else cN (k_nx σ (cN x) e) + 1), nI (cN (k_nx σ (cN x) e)), (k_W σ (cN x)).2.2.2)) := by
                rw [← hp2]
                exact I.goOver (e := e) hi hov hlo hp1 hp2
              refine yy_aload_n F d_M_next_137 (n := 138) rfl 2 rfl ?_
              refine yy_get F X.1 X.2.1 g_M_19_M Pw_19.o rfl d_M_next_138 (n := 141) rfl ?_
              refine yy_aload_n F d_M_next_141 (n := 142) rfl 2 rfl ?_
              refine yy_iload_n F d_M_next_142 (n := 143) rfl 1 rfl ?_
              refine yy_iload F d_M_next_143 (n := 145) rfl 0 rfl ?_
              refine yy_cri (w := (nI (24 * k_bs σ (k_ov σ (cN x)) + (k_start σ (k_ov σ (cN x)) + cN (k_nx σ (cN x) e))))) F Sw_19 (c_M_at (c := (k_ov σ (cN x))) (x := nI (cN (k_nx σ (cN x) e))) (q := k_start σ (k_ov σ (cN x)) + cN (k_nx σ (cN x) e)) X I2 R2 hc (nI_add _ _)) (yy_Bc F X.1 q_962 q_3) (yy_invV (nA := 2) (C := R_M) (bytes := b_M_at) (maxL := 3) (retY := (some .int)) F X.1 q_959 q_961 qs_M_at q_962 ⟨by decide, by decide, by decide +kernel⟩ (yy_recv F.N X.2.1 (ci := 6) rfl Pw_19.o) rfl d_M_next_145) d_M_next_145 (n := 148) rfl (by simp [Value.category]) ⟨by decide, by decide⟩ ⟨Nat.zero_le _, Nat.zero_le _⟩ ⟨rfl, rfl⟩ Pw_19 rfl (fun _ hSw_20 => ?_)
              refine ma_ld (j := 3) (i := (24 * k_bs σ (k_ov σ (cN x)) + (k_start σ (k_ov σ (cN x)) + cN (k_nx σ (cN x) e)))) F X Pw_19 (by decide) (show 24 * k_bs σ (k_ov σ (cN x)) + (k_start σ (k_ov σ (cN x)) + cN (k_nx σ (cN x) e)) < 240 by omega) d_M_next_148 (n' := 149) rfl ?_
              refine yy_tope (y := (s_nu (k_B σ (k_ov σ (cN x))) (k_start σ (k_ov σ (cN x)) + cN (k_nx σ (cN x) e)))) (R.nu I hc h5 (by omega)) ?_
              exact yy_iret F hSw_20 ⟨Nat.zero_le _, Nat.zero_le _⟩ rfl d_M_next_149 (mq_i (o := none) (v := (s_nu (k_B σ (k_ov σ (cN x))) (k_start σ (k_ov σ (cN x)) + cN (k_nx σ (cN x) e)))) (σ := (k_setW σ (cN x) ((k_W σ (cN x)).1, (if e = 0 then cN (k_nx σ (cN x) e) else cN (k_nx σ (cN x) e) + 1), nI (cN (k_nx σ (cN x) e)), (k_W σ (cN x)).2.2.2))) (by unfold sp_next; rw [hE, hd, hlo, hp]; rfl) R2 Pw_19 kw_19 (by decide) (fun _ => rfl))
            · refine yy_aload_n F d_M_next_104 (n := 105) rfl 2 rfl ?_
              refine yy_iconst (v := 3) F d_M_next_105 (n := 106) rfl rfl ?_
              refine yy_ci F hSw_17 (c_M_fail (e := 3) X) (yy_Bc F X.1 q_1049 q_3) (yy_invV (nA := 1) (C := R_M) (bytes := b_M_fail) (maxL := 2) (retY := (some .int)) F X.1 q_1046 q_1048 qs_M_fail q_1049 ⟨by decide, by decide, by decide +kernel⟩ (yy_recv F.N X.2.1 (ci := 6) rfl Pw_15.o) rfl d_M_next_106) d_M_next_106 (n := 109) rfl (by simp [Value.category]) ⟨by decide, by decide⟩ ⟨Nat.zero_le _, Nat.zero_le _⟩ ⟨rfl, rfl⟩ Pw_15 (fun r_w_21 Hw_21 locs_w_21 qw_21 Sw_21 => ?_)
              obtain ⟨e_r, Pf, kf⟩ := qw_21
              have kf := kw_15.tr kf
              exact yy_iret F Sw_21 ⟨Nat.zero_le _, Nat.zero_le _⟩ rfl d_M_next_109 (mq_i (o := some e_ns) (v := 0) (σ := σ) (by unfold sp_next; rw [hE, hd, hlo, show ym_inb (k_nx σ (cN x) e) (k_size σ (k_ov σ (cN x))) = false by simp [ym_inb, h1]]; rfl) R Pf kf (by decide) (fun h => by cases h))
        · refine yy_if_eq_f (tgt := 46) F d_M_next_39 (n := 42) rfl (by decide) (by decide) ?_
          refine yy_iconst (v := 4) F d_M_next_42 (n := 43) rfl rfl ?_
          refine yy_goto (tgt := 47) F d_M_next_43 (by decide) ?_
          refine ma_code F X g_M_55_M hP hSw_14 d_M_next_47 (n' := 50) rfl (fun Hw_22 locs_w_22 Pw_22 kw_22 Sw_22 => ?_)
          have kw_22 := kpm.rf.tr kw_22
          refine yy_aload_n F d_M_next_50 (n := 51) rfl 0 rfl ?_
          refine yy_get F X.1 X.2.1 g_M_55_M Pw_22.o rfl d_M_next_51 (n := 54) rfl ?_
          refine yy_if_le_f (tgt := 59) F d_M_next_54 (n := 57) rfl (by decide) (by decide) ?_
          refine yy_iconst (v := 0) F d_M_next_57 (n := 58) rfl rfl ?_
          exact yy_iret F Sw_22 ⟨Nat.zero_le _, Nat.zero_le _⟩ rfl d_M_next_58 (mq_i (o := some e_rt) (v := 0) (σ := σ) (by unfold sp_next; rw [hE, hd, hlo]; rfl) R Pw_22 kw_22 (by decide) (fun h => by cases h))
set_option maxRecDepth 100000 in
set_option maxHeartbeats 4000000 in
theorem c_M_erase {l : Launch} {z : State} {a0 : Array Value} {D : va_G} {ca : kca} (X : kcx l z a0 D ca) {a n : Nat} {cd : Int32} {s : ms} {σ : ks} {t : Nat} (I : iv t σ) (R : mr s σ) {x : Int32} (ht : t + 25 ≤ 100000) : yy_M l z y_M_erase (.code y_M_erase b_M_erase 3 none) ({ frames := 3, cells := 0, slots := 0, locals := 65 }) [.ref a, .int x] (mo_at D ca z a n cd s) (mqv D ca z a n [e_io, e_ia, e_rt] (sp_erase σ x)) := by
  refine yy_body (plainFor_of_name (by decide)) (Nat.le_of_ble_eq_true rfl) (fun b H F hS hP hH hnm => ?_)
  have h10 := I.m10
  cases hE : ch_wk σ x with
  | some E =>
    have hEE := (ch_wk_some hE).2
    subst hEE
    refine yy_aload_n F d_M_erase_0 (n := 1) rfl 0 rfl ?_
    refine yy_aload_n F d_M_erase_1 (n := 2) rfl 0 rfl ?_
    refine yy_iload_n F d_M_erase_2 (n := 3) rfl 1 rfl ?_
    refine yy_cri (w := 1) F hS (c_M_checkLatest (x := x) X I R) (yy_Bc F X.1 q_1107 q_3) (yy_invV (nA := 1) (C := R_M) (bytes := b_M_checkLatest) (maxL := 2) (retY := (some .int)) F X.1 q_1104 q_1106 qs_M_checkLatest q_1107 ⟨by decide, by decide, by decide +kernel⟩ (yy_recv F.N X.2.1 (ci := 6) rfl hP.o) rfl d_M_erase_3) d_M_erase_3 (n := 6) rfl (by simp [Value.category]) ⟨by decide, by decide⟩ ⟨Nat.zero_le _, Nat.zero_le _⟩ ⟨rfl, rfl⟩ hP (if_neg (by rw [hE]; intro q; cases q)) (fun _ hSw_1 => ?_)
    refine ma_code F X g_M_55_M hP hSw_1 d_M_erase_6 (n' := 9) rfl (fun Hw_2 locs_w_2 Pw_2 kw_2 Sw_2 => ?_)
    have kw_2 := kpm.rf.tr kw_2
    refine yy_aload_n F d_M_erase_9 (n := 10) rfl 0 rfl ?_
    refine yy_get F X.1 X.2.1 g_M_55_M Pw_2.o rfl d_M_erase_10 (n := 13) rfl ?_
    refine yy_if_le_f (tgt := 17) F d_M_erase_13 (n := 16) rfl (by decide) (by decide) ?_
    exact yy_vret F Sw_2 ⟨Nat.zero_le _, Nat.zero_le _⟩ rfl d_M_erase_16 (mq_v (o := some e_io) (v := 0) (σ := σ) (by unfold sp_erase; rw [hE]; rfl) R Pw_2 kw_2 (by decide))
  | none =>
    obtain ⟨hi, ex, hov, hc⟩ := ch_wk_none I hE
    have hb := I.bs hc
    have h24 := I.ct hc
    have hb := I.bs hc
    cases hlo : k_lost σ (cN x) (k_ov σ (cN x)) with
    | true =>
      refine yy_aload_n F d_M_erase_0 (n := 1) rfl 0 rfl ?_
      refine yy_aload_n F d_M_erase_1 (n := 2) rfl 0 rfl ?_
      refine yy_iload_n F d_M_erase_2 (n := 3) rfl 1 rfl ?_
      refine yy_cri (w := 3) F hS (c_M_checkLatest (x := x) X I R) (yy_Bc F X.1 q_1107 q_3) (yy_invV (nA := 1) (C := R_M) (bytes := b_M_checkLatest) (maxL := 2) (retY := (some .int)) F X.1 q_1104 q_1106 qs_M_checkLatest q_1107 ⟨by decide, by decide, by decide +kernel⟩ (yy_recv F.N X.2.1 (ci := 6) rfl hP.o) rfl d_M_erase_3) d_M_erase_3 (n := 6) rfl (by simp [Value.category]) ⟨by decide, by decide⟩ ⟨Nat.zero_le _, Nat.zero_le _⟩ ⟨rfl, rfl⟩ hP (by unfold m_ck; rw [if_pos hE, if_pos hlo]) (fun _ hSw_3 => ?_)
      refine ma_code F X g_M_55_M hP hSw_3 d_M_erase_6 (n' := 9) rfl (fun Hw_4 locs_w_4 Pw_4 kw_4 Sw_4 => ?_)
      have kw_4 := kpm.rf.tr kw_4
      refine yy_aload_n F d_M_erase_9 (n := 10) rfl 0 rfl ?_
      refine yy_get F X.1 X.2.1 g_M_55_M Pw_4.o rfl d_M_erase_10 (n := 13) rfl ?_
      refine yy_if_le_f (tgt := 17) F d_M_erase_13 (n := 16) rfl (by decide) (by decide) ?_
      exact yy_vret F Sw_4 ⟨Nat.zero_le _, Nat.zero_le _⟩ rfl d_M_erase_16 (mq_v (o := some e_rt) (v := 0) (σ := σ) (by unfold sp_erase; rw [hE, hlo]; rfl) R Pw_4 kw_4 (by decide))
    | false =>
      have hnl : ¬ k_lost σ (cN x) (k_ov σ (cN x)) = true := by rw [hlo]; decide
      by_cases hla : (k_W σ (cN x)).2.2.1 = -1
      · refine yy_aload_n F d_M_erase_0 (n := 1) rfl 0 rfl ?_
        refine yy_aload_n F d_M_erase_1 (n := 2) rfl 0 rfl ?_
        refine yy_iload_n F d_M_erase_2 (n := 3) rfl 1 rfl ?_
        refine yy_cri (w := 2) F hS (c_M_checkLatest (x := x) X I R) (yy_Bc F X.1 q_1107 q_3) (yy_invV (nA := 1) (C := R_M) (bytes := b_M_checkLatest) (maxL := 2) (retY := (some .int)) F X.1 q_1104 q_1106 qs_M_checkLatest q_1107 ⟨by decide, by decide, by decide +kernel⟩ (yy_recv F.N X.2.1 (ci := 6) rfl hP.o) rfl d_M_erase_3) d_M_erase_3 (n := 6) rfl (by simp [Value.category]) ⟨by decide, by decide⟩ ⟨Nat.zero_le _, Nat.zero_le _⟩ ⟨rfl, rfl⟩ hP (by unfold m_ck; rw [if_pos hE, if_neg hnl, if_pos hla]) (fun _ hSw_5 => ?_)
        refine ma_code F X g_M_55_M hP hSw_5 d_M_erase_6 (n' := 9) rfl (fun Hw_6 locs_w_6 Pw_6 kw_6 Sw_6 => ?_)
        have kw_6 := kpm.rf.tr kw_6
        refine yy_aload_n F d_M_erase_9 (n := 10) rfl 0 rfl ?_
        refine yy_get F X.1 X.2.1 g_M_55_M Pw_6.o rfl d_M_erase_10 (n := 13) rfl ?_
        refine yy_if_le_f (tgt := 17) F d_M_erase_13 (n := 16) rfl (by decide) (by decide) ?_
        exact yy_vret F Sw_6 ⟨Nat.zero_le _, Nat.zero_le _⟩ rfl d_M_erase_16 (mq_v (o := some e_ia) (v := 0) (σ := σ) (by unfold sp_erase; rw [hE, hlo, show (!decide ((k_W σ (cN x)).2.2.1 = -1)) = false by simp [hla]]; rfl) R Pw_6 kw_6 (by decide))
      · refine yy_aload_n F d_M_erase_0 (n := 1) rfl 0 rfl ?_
        refine yy_aload_n F d_M_erase_1 (n := 2) rfl 0 rfl ?_
        refine yy_iload_n F d_M_erase_2 (n := 3) rfl 1 rfl ?_
        refine yy_cri (w := 0) F hS (c_M_checkLatest (x := x) X I R) (yy_Bc F X.1 q_1107 q_3) (yy_invV (nA := 1) (C := R_M) (bytes := b_M_checkLatest) (maxL := 2) (retY := (some .int)) F X.1 q_1104 q_1106 qs_M_checkLatest q_1107 ⟨by decide, by decide, by decide +kernel⟩ (yy_recv F.N X.2.1 (ci := 6) rfl hP.o) rfl d_M_erase_3) d_M_erase_3 (n := 6) rfl (by simp [Value.category]) ⟨by decide, by decide⟩ ⟨Nat.zero_le _, Nat.zero_le _⟩ ⟨rfl, rfl⟩ hP (by unfold m_ck; rw [if_pos hE, if_neg hnl, if_neg hla]) (fun _ hSw_7 => ?_)
        have hs := (k_lost_no hlo).1
        have hf := k_fr_of hs
        have hend := I.end hc hf
        obtain ⟨hl1, hl2⟩ := (I.walk hi hov hlo).2 hla
        have h50 := ((I.2.2.2.2 _ hi).2 _ hov).2.1
        have h5 := k_nh5 I hc h50
        have hld : (!decide ((k_W σ (cN x)).2.2.1 = -1)) = true := by simp [hla]
        rw [show (Value.int x) = Value.int (nI (cN x)) from congrArg Value.int ex]
        refine ma_code F X g_M_55_M hP hSw_7 d_M_erase_6 (n' := 9) rfl (fun Hw_8 locs_w_8 Pw_8 kw_8 Sw_8 => ?_)
        have kw_8 := kpm.rf.tr kw_8
        refine yy_aload_n F d_M_erase_9 (n := 10) rfl 0 rfl ?_
        refine yy_get F X.1 X.2.1 g_M_55_M Pw_8.o rfl d_M_erase_10 (n := 13) rfl ?_
        refine yy_if_le_t (tgt := 17) F d_M_erase_13 (by decide) (by decide) ?_
        refine yy_aload_n F d_M_erase_17 (n := 18) rfl 0 rfl ?_
        refine yy_get F X.1 X.2.1 g_M_49_M Pw_8.o rfl d_M_erase_18 (n := 21) rfl ?_
        refine yy_iload_n F d_M_erase_21 (n := 22) rfl 1 rfl ?_
        refine ma_ld (j := 13) (i := (cN x)) F X Pw_8 (by decide) (show cN x < 4 by omega) d_M_erase_22 (n' := 23) rfl ?_
        refine yy_tope (y := ((k_W σ (cN x)).2.2.1)) ((R.w1 hi hov).2.2.1) ?_
        refine yy_tope (y := (nI (k_la σ (cN x)))) hl2 ?_
        refine yy_istore_n (lv' := [(2, .int (nI (k_la σ (cN x)))), (0, .ref a), (1, .int (nI (cN x)))]) F d_M_erase_23 (n := 24) rfl (by decide) rfl ?_
        refine yy_aload_n F d_M_erase_24 (n := 25) rfl 1 rfl ?_
        refine yy_aload_n F d_M_erase_25 (n := 26) rfl 1 rfl ?_
        refine yy_get F X.1 X.2.1 g_M_43_M Pw_8.o rfl d_M_erase_26 (n := 29) rfl ?_
        refine yy_iload_n F d_M_erase_29 (n := 30) rfl 2 rfl ?_
        refine ma_ld (j := 11) (i := (cN x)) F X Pw_8 (by decide) (show cN x < 4 by omega) d_M_erase_30 (n' := 31) rfl ?_
        refine yy_tope (y := (nI (k_ov σ (cN x)))) ((R.w1 hi hov).1) ?_
        refine yy_aload_n F d_M_erase_31 (n := 32) rfl 1 rfl ?_
        refine yy_aload_n F d_M_erase_32 (n := 33) rfl 1 rfl ?_
        refine yy_get F X.1 X.2.1 g_M_43_M Pw_8.o rfl d_M_erase_33 (n := 36) rfl ?_
        refine yy_iload_n F d_M_erase_36 (n := 37) rfl 2 rfl ?_
        refine ma_ld (j := 11) (i := (cN x)) F X Pw_8 (by decide) (show cN x < 4 by omega) d_M_erase_37 (n' := 38) rfl ?_
        refine yy_tope (y := (nI (k_ov σ (cN x)))) ((R.w1 hi hov).1) ?_
        refine yy_cri (w := (nI (k_start σ (k_ov σ (cN x))))) F Sw_8 (c_M_placeIn X I R hc) (yy_Bc F X.1 q_942 q_3) (yy_invV (nA := 1) (C := R_M) (bytes := b_M_placeIn) (maxL := 3) (retY := (some .int)) F X.1 q_939 q_941 qs_M_placeIn q_942 ⟨by decide, by decide, by decide +kernel⟩ (yy_recv F.N X.2.1 (ci := 6) rfl Pw_8.o) rfl d_M_erase_38) d_M_erase_38 (n := 41) rfl (by simp [Value.category]) ⟨by decide, by decide⟩ ⟨Nat.zero_le _, Nat.zero_le _⟩ ⟨rfl, rfl⟩ Pw_8 rfl (fun _ hSw_9 => ?_)
        refine yy_iload_n F d_M_erase_41 (n := 42) rfl 0 rfl ?_
        refine yy_iadd F d_M_erase_42 (n := 43) rfl ?_
        refine yy_tope (y := (nI (k_start σ (k_ov σ (cN x)) + k_la σ (cN x)))) (nI_add _ _) ?_
        refine yy_cv F hSw_9 (c_M_takeOut (j := (k_start σ (k_ov σ (cN x)) + k_la σ (cN x))) (nu := ym_sh (s_nu (k_B σ (k_ov σ (cN x)))) (k_start σ (k_ov σ (cN x)) + k_la σ (cN x)) (s_ct (k_B σ (k_ov σ (cN x))) - 1)) (vl := ym_sh (s_vl (k_B σ (k_ov σ (cN x)))) (k_start σ (k_ov σ (cN x)) + k_la σ (cN x)) (s_ct (k_B σ (k_ov σ (cN x))) - 1)) X I R hc (by omega) hf (fun h6 => by rw [k_size6 h6] at hl1; omega) (fun _ => sh_cg (by omega) (R.nu24 I hc h5)) (fun q => absurd q h5) (fun q => sh_cg (by omega) (R.vl24 I hc q))) (yy_Bc F X.1 q_991 q_3) (yy_invV (nA := 2) (C := R_M) (bytes := b_M_takeOut) (maxL := 5) (retY := none) F X.1 q_988 q_990 qs_M_takeOut q_991 ⟨by decide, by decide, by decide +kernel⟩ (yy_recv F.N X.2.1 (ci := 6) rfl Pw_8.o) rfl d_M_erase_43) d_M_erase_43 (n := 46) rfl (by simp [Value.category]) ⟨by decide, by decide⟩ ⟨Nat.zero_le _, Nat.zero_le _⟩ ⟨rfl, rfl⟩ Pw_8 (fun Hw_10 locs_w_10 qw_10 Sw_10 => ?_)
        obtain ⟨s2, Q2, P2, k2⟩ := qw_10
        have k2 := kw_8.tr k2
        obtain ⟨I2, hf2⟩ := I.take (q := (k_start σ (k_ov σ (cN x)) + k_la σ (cN x))) (by omega) hc hf (by omega) (fun h6 => by rw [k_size6 h6] at hl1; omega)
        obtain ⟨σ2, hσ2⟩ : ∃ σ2 : ks, σ2 = k_take σ (k_ov σ (cN x)) (k_start σ (k_ov σ (cN x)) + k_la σ (cN x)) := ⟨_, rfl⟩
        have R2 : mr s2 σ2 := by rw [hσ2]; exact Q2
        rw [← hσ2] at I2
        have hW2 : k_W σ2 (cN x) = k_W σ (cN x) := by
          rw [hσ2]
          exact congrFun (k_thru_C I hc (S_take (k_B σ (k_ov σ (cN x))) (k_start σ (k_ov σ (cN x)) + k_la σ (cN x))) (fun m => m - 1)).2.2.1 (cN x)
        have hov2 : (k_W σ2 (cN x)).1 = some (k_ov σ (cN x)) := by rw [hW2]; exact hov
        refine yy_aload_n F d_M_erase_46 (n := 47) rfl 1 rfl ?_
        refine yy_iload_n F d_M_erase_47 (n := 48) rfl 2 rfl ?_
        refine yy_iload_n F d_M_erase_48 (n := 49) rfl 0 rfl ?_
        refine yy_cv F Sw_10 (c_M_settle (p := k_la σ (cN x)) X I2 R2 hi hov2) (yy_Bc F X.1 q_1111 q_3) (yy_invV (nA := 2) (C := R_M) (bytes := b_M_settle) (maxL := 3) (retY := none) F X.1 q_1108 q_1110 qs_M_settle q_1111 ⟨by decide, by decide, by decide +kernel⟩ (yy_recv F.N X.2.1 (ci := 6) rfl P2.o) rfl d_M_erase_49) d_M_erase_49 (n := 52) rfl (by simp [Value.category]) ⟨by decide, by decide⟩ ⟨Nat.zero_le _, Nat.zero_le _⟩ ⟨rfl, rfl⟩ P2 (fun Hw_11 locs_w_11 qw_11 Sw_11 => ?_)
        obtain ⟨s3, Q3, P3, k3⟩ := qw_11
        have k3 := k2.tr k3
        rw [hσ2] at Q3
        exact yy_vret F Sw_11 ⟨Nat.zero_le _, Nat.zero_le _⟩ rfl d_M_erase_52 (mq_v (o := none) (v := 0) (σ := (k_setW (k_take σ (k_ov σ (cN x)) (k_start σ (k_ov σ (cN x)) + k_la σ (cN x))) (cN x) (some (k_ov σ (cN x)), k_la σ (cN x), -1, s_ch (k_B (k_take σ (k_ov σ (cN x)) (k_start σ (k_ov σ (cN x)) + k_la σ (cN x))) (k_ov σ (cN x)))))) (by unfold sp_erase; rw [hE, hlo, hld]; rfl) Q3 P3 k3 (by decide))
set_option maxRecDepth 100000 in
set_option maxHeartbeats 4000000 in
theorem c_M_assign {l : Launch} {z : State} {a0 : Array Value} {D : va_G} {ca : kca} (X : kcx l z a0 D ca) {a n : Nat} {cd : Int32} {s : ms} {σ : ks} {t : Nat} (I : iv t σ) (R : mr s σ) {x y : Int32} : yy_M l z y_M_assign (.code y_M_assign b_M_assign 6 (some .int)) ({ frames := 3, cells := 0, slots := 0, locals := 65 }) [.ref a, .int x, .int y] (mo_at D ca z a n cd s) (mqi D ca z a n [e_io, e_ia, e_rt] (sp_assign σ x y)) := by
  refine yy_body (plainFor_of_name (by decide)) (Nat.le_of_ble_eq_true rfl) (fun b H F hS hP hH hnm => ?_)
  have h10 := I.m10
  cases hE : ch_wk σ x with
  | some E =>
    have hEE := (ch_wk_some hE).2
    subst hEE
    refine yy_aload_n F d_M_assign_0 (n := 1) rfl 0 rfl ?_
    refine yy_aload_n F d_M_assign_1 (n := 2) rfl 0 rfl ?_
    refine yy_iload_n F d_M_assign_2 (n := 3) rfl 1 rfl ?_
    refine yy_cri (w := 1) F hS (c_M_checkLatest (x := x) X I R) (yy_Bc F X.1 q_1107 q_3) (yy_invV (nA := 1) (C := R_M) (bytes := b_M_checkLatest) (maxL := 2) (retY := (some .int)) F X.1 q_1104 q_1106 qs_M_checkLatest q_1107 ⟨by decide, by decide, by decide +kernel⟩ (yy_recv F.N X.2.1 (ci := 6) rfl hP.o) rfl d_M_assign_3) d_M_assign_3 (n := 6) rfl (by simp [Value.category]) ⟨by decide, by decide⟩ ⟨Nat.zero_le _, Nat.zero_le _⟩ ⟨rfl, rfl⟩ hP (if_neg (by rw [hE]; intro q; cases q)) (fun _ hSw_1 => ?_)
    refine ma_code F X g_M_55_M hP hSw_1 d_M_assign_6 (n' := 9) rfl (fun Hw_2 locs_w_2 Pw_2 kw_2 Sw_2 => ?_)
    have kw_2 := kpm.rf.tr kw_2
    refine yy_aload_n F d_M_assign_9 (n := 10) rfl 0 rfl ?_
    refine yy_get F X.1 X.2.1 g_M_55_M Pw_2.o rfl d_M_assign_10 (n := 13) rfl ?_
    refine yy_if_le_f (tgt := 18) F d_M_assign_13 (n := 16) rfl (by decide) (by decide) ?_
    refine yy_iconst (v := 0) F d_M_assign_16 (n := 17) rfl rfl ?_
    exact yy_iret F Sw_2 ⟨Nat.zero_le _, Nat.zero_le _⟩ rfl d_M_assign_17 (mq_i (o := some e_io) (v := 0) (σ := σ) (by unfold sp_assign; rw [hE]; rfl) R Pw_2 kw_2 (by decide) (fun h => by cases h))
  | none =>
    obtain ⟨hi, ex, hov, hc⟩ := ch_wk_none I hE
    have hb := I.bs hc
    have h24 := I.ct hc
    have hb := I.bs hc
    cases hlo : k_lost σ (cN x) (k_ov σ (cN x)) with
    | true =>
      refine yy_aload_n F d_M_assign_0 (n := 1) rfl 0 rfl ?_
      refine yy_aload_n F d_M_assign_1 (n := 2) rfl 0 rfl ?_
      refine yy_iload_n F d_M_assign_2 (n := 3) rfl 1 rfl ?_
      refine yy_cri (w := 3) F hS (c_M_checkLatest (x := x) X I R) (yy_Bc F X.1 q_1107 q_3) (yy_invV (nA := 1) (C := R_M) (bytes := b_M_checkLatest) (maxL := 2) (retY := (some .int)) F X.1 q_1104 q_1106 qs_M_checkLatest q_1107 ⟨by decide, by decide, by decide +kernel⟩ (yy_recv F.N X.2.1 (ci := 6) rfl hP.o) rfl d_M_assign_3) d_M_assign_3 (n := 6) rfl (by simp [Value.category]) ⟨by decide, by decide⟩ ⟨Nat.zero_le _, Nat.zero_le _⟩ ⟨rfl, rfl⟩ hP (by unfold m_ck; rw [if_pos hE, if_pos hlo]) (fun _ hSw_3 => ?_)
      refine ma_code F X g_M_55_M hP hSw_3 d_M_assign_6 (n' := 9) rfl (fun Hw_4 locs_w_4 Pw_4 kw_4 Sw_4 => ?_)
      have kw_4 := kpm.rf.tr kw_4
      refine yy_aload_n F d_M_assign_9 (n := 10) rfl 0 rfl ?_
      refine yy_get F X.1 X.2.1 g_M_55_M Pw_4.o rfl d_M_assign_10 (n := 13) rfl ?_
      refine yy_if_le_f (tgt := 18) F d_M_assign_13 (n := 16) rfl (by decide) (by decide) ?_
      refine yy_iconst (v := 0) F d_M_assign_16 (n := 17) rfl rfl ?_
      exact yy_iret F Sw_4 ⟨Nat.zero_le _, Nat.zero_le _⟩ rfl d_M_assign_17 (mq_i (o := some e_rt) (v := 0) (σ := σ) (by unfold sp_assign; rw [hE, hlo]; rfl) R Pw_4 kw_4 (by decide) (fun h => by cases h))
    | false =>
      have hnl : ¬ k_lost σ (cN x) (k_ov σ (cN x)) = true := by rw [hlo]; decide
      by_cases hla : (k_W σ (cN x)).2.2.1 = -1
      · refine yy_aload_n F d_M_assign_0 (n := 1) rfl 0 rfl ?_
        refine yy_aload_n F d_M_assign_1 (n := 2) rfl 0 rfl ?_
        refine yy_iload_n F d_M_assign_2 (n := 3) rfl 1 rfl ?_
        refine yy_cri (w := 2) F hS (c_M_checkLatest (x := x) X I R) (yy_Bc F X.1 q_1107 q_3) (yy_invV (nA := 1) (C := R_M) (bytes := b_M_checkLatest) (maxL := 2) (retY := (some .int)) F X.1 q_1104 q_1106 qs_M_checkLatest q_1107 ⟨by decide, by decide, by decide +kernel⟩ (yy_recv F.N X.2.1 (ci := 6) rfl hP.o) rfl d_M_assign_3) d_M_assign_3 (n := 6) rfl (by simp [Value.category]) ⟨by decide, by decide⟩ ⟨Nat.zero_le _, Nat.zero_le _⟩ ⟨rfl, rfl⟩ hP (by unfold m_ck; rw [if_pos hE, if_neg hnl, if_pos hla]) (fun _ hSw_5 => ?_)
        refine ma_code F X g_M_55_M hP hSw_5 d_M_assign_6 (n' := 9) rfl (fun Hw_6 locs_w_6 Pw_6 kw_6 Sw_6 => ?_)
        have kw_6 := kpm.rf.tr kw_6
        refine yy_aload_n F d_M_assign_9 (n := 10) rfl 0 rfl ?_
        refine yy_get F X.1 X.2.1 g_M_55_M Pw_6.o rfl d_M_assign_10 (n := 13) rfl ?_
        refine yy_if_le_f (tgt := 18) F d_M_assign_13 (n := 16) rfl (by decide) (by decide) ?_
        refine yy_iconst (v := 0) F d_M_assign_16 (n := 17) rfl rfl ?_
        exact yy_iret F Sw_6 ⟨Nat.zero_le _, Nat.zero_le _⟩ rfl d_M_assign_17 (mq_i (o := some e_ia) (v := 0) (σ := σ) (by unfold sp_assign; rw [hE, hlo, show (!decide ((k_W σ (cN x)).2.2.1 = -1)) = false by simp [hla]]; rfl) R Pw_6 kw_6 (by decide) (fun h => by cases h))
      · refine yy_aload_n F d_M_assign_0 (n := 1) rfl 0 rfl ?_
        refine yy_aload_n F d_M_assign_1 (n := 2) rfl 0 rfl ?_
        refine yy_iload_n F d_M_assign_2 (n := 3) rfl 1 rfl ?_
        refine yy_cri (w := 0) F hS (c_M_checkLatest (x := x) X I R) (yy_Bc F X.1 q_1107 q_3) (yy_invV (nA := 1) (C := R_M) (bytes := b_M_checkLatest) (maxL := 2) (retY := (some .int)) F X.1 q_1104 q_1106 qs_M_checkLatest q_1107 ⟨by decide, by decide, by decide +kernel⟩ (yy_recv F.N X.2.1 (ci := 6) rfl hP.o) rfl d_M_assign_3) d_M_assign_3 (n := 6) rfl (by simp [Value.category]) ⟨by decide, by decide⟩ ⟨Nat.zero_le _, Nat.zero_le _⟩ ⟨rfl, rfl⟩ hP (by unfold m_ck; rw [if_pos hE, if_neg hnl, if_neg hla]) (fun _ hSw_7 => ?_)
        have hs := (k_lost_no hlo).1
        have hf := k_fr_of hs
        have hend := I.end hc hf
        obtain ⟨hl1, hl2⟩ := (I.walk hi hov hlo).2 hla
        have h50 := ((I.2.2.2.2 _ hi).2 _ hov).2.1
        have h5 := k_nh5 I hc h50
        have hld : (!decide ((k_W σ (cN x)).2.2.1 = -1)) = true := by simp [hla]
        rw [show (Value.int x) = Value.int (nI (cN x)) from congrArg Value.int ex]
        refine ma_code F X g_M_55_M hP hSw_7 d_M_assign_6 (n' := 9) rfl (fun Hw_8 locs_w_8 Pw_8 kw_8 Sw_8 => ?_)
        have kw_8 := kpm.rf.tr kw_8
        refine yy_aload_n F d_M_assign_9 (n := 10) rfl 0 rfl ?_
        refine yy_get F X.1 X.2.1 g_M_55_M Pw_8.o rfl d_M_assign_10 (n := 13) rfl ?_
        refine yy_if_le_t (tgt := 18) F d_M_assign_13 (by decide) (by decide) ?_
        refine yy_aload_n F d_M_assign_18 (n := 19) rfl 0 rfl ?_
        refine yy_aload_n F d_M_assign_19 (n := 20) rfl 0 rfl ?_
        refine yy_get F X.1 X.2.1 g_M_43_M Pw_8.o rfl d_M_assign_20 (n := 23) rfl ?_
        refine yy_iload_n F d_M_assign_23 (n := 24) rfl 1 rfl ?_
        refine ma_ld (j := 11) (i := (cN x)) F X Pw_8 (by decide) (show cN x < 4 by omega) d_M_assign_24 (n' := 25) rfl ?_
        refine yy_tope (y := (nI (k_ov σ (cN x)))) ((R.w1 hi hov).1) ?_
        refine yy_aload_n F d_M_assign_25 (n := 26) rfl 0 rfl ?_
        refine yy_get F X.1 X.2.1 g_M_49_M Pw_8.o rfl d_M_assign_26 (n := 29) rfl ?_
        refine yy_iload_n F d_M_assign_29 (n := 30) rfl 1 rfl ?_
        refine ma_ld (j := 13) (i := (cN x)) F X Pw_8 (by decide) (show cN x < 4 by omega) d_M_assign_30 (n' := 31) rfl ?_
        refine yy_tope (y := ((k_W σ (cN x)).2.2.1)) ((R.w1 hi hov).2.2.1) ?_
        refine yy_tope (y := (nI (k_la σ (cN x)))) hl2 ?_
        refine yy_cri (w := (nI (24 * k_bs σ (k_ov σ (cN x)) + (k_start σ (k_ov σ (cN x)) + k_la σ (cN x))))) F Sw_8 (c_M_at (x := nI (k_la σ (cN x))) (q := (k_start σ (k_ov σ (cN x)) + k_la σ (cN x))) X I R hc (nI_add _ _)) (yy_Bc F X.1 q_962 q_3) (yy_invV (nA := 2) (C := R_M) (bytes := b_M_at) (maxL := 3) (retY := (some .int)) F X.1 q_959 q_961 qs_M_at q_962 ⟨by decide, by decide, by decide +kernel⟩ (yy_recv F.N X.2.1 (ci := 6) rfl Pw_8.o) rfl d_M_assign_31) d_M_assign_31 (n := 34) rfl (by simp [Value.category]) ⟨by decide, by decide⟩ ⟨Nat.zero_le _, Nat.zero_le _⟩ ⟨rfl, rfl⟩ Pw_8 rfl (fun _ hSw_9 => ?_)
        refine yy_istore_n (lv' := [(3, .int (nI (24 * k_bs σ (k_ov σ (cN x)) + (k_start σ (k_ov σ (cN x)) + k_la σ (cN x))))), (0, .ref a), (1, .int (nI (cN x))), (2, .int y)]) F d_M_assign_34 (n := 35) rfl (by decide) rfl ?_
        refine yy_aload_n F d_M_assign_35 (n := 36) rfl 1 rfl ?_
        refine yy_aload_n F d_M_assign_36 (n := 37) rfl 1 rfl ?_
        refine yy_get F X.1 X.2.1 g_M_43_M Pw_8.o rfl d_M_assign_37 (n := 40) rfl ?_
        refine yy_iload_n F d_M_assign_40 (n := 41) rfl 2 rfl ?_
        refine ma_ld (j := 11) (i := (cN x)) F X Pw_8 (by decide) (show cN x < 4 by omega) d_M_assign_41 (n' := 42) rfl ?_
        refine yy_tope (y := (nI (k_ov σ (cN x)))) ((R.w1 hi hov).1) ?_
        refine yy_cri (w := (ym_n (k_isl (k_kd σ (k_ov σ (cN x)))))) F hSw_9 (c_M_isList X I R hc) (yy_Bc F X.1 q_922 q_3) (yy_invV (nA := 1) (C := R_M) (bytes := b_M_isList) (maxL := 2) (retY := (some .boolean)) F X.1 q_919 q_921 qs_M_isList q_922 ⟨by decide, by decide, by decide +kernel⟩ (yy_recv F.N X.2.1 (ci := 6) rfl Pw_8.o) rfl d_M_assign_42) d_M_assign_42 (n := 45) rfl (by simp [Value.category]) ⟨by decide, by decide⟩ ⟨Nat.zero_le _, Nat.zero_le _⟩ ⟨rfl, rfl⟩ Pw_8 rfl (fun _ hSw_10 => ?_)
        cases hl : k_isl (k_kd σ (k_ov σ (cN x))) with
        | false =>
          refine yy_tope (y := 0) (rfl) ?_
          have hv : k_kb σ (k_ov σ (cN x)) = 2 ∨ k_kb σ (k_ov σ (cN x)) = 3 ∨ k_kb σ (k_ov σ (cN x)) = 4 := I.mapb hc (k_mp hl h50 (I.cc hc).1)
          refine yy_istore (lv' := [(4, .int 0), (3, .int (nI (24 * k_bs σ (k_ov σ (cN x)) + (k_start σ (k_ov σ (cN x)) + k_la σ (cN x))))), (0, .ref a), (1, .int (nI (cN x))), (2, .int y)]) F d_M_assign_45 (n := 47) rfl (by decide) rfl ?_
          refine yy_iload F d_M_assign_47 (n := 49) rfl 0 rfl ?_
          refine yy_if_eq_t (tgt := 61) F d_M_assign_49 (by decide) (by decide) ?_
          refine yy_aload_n F d_M_assign_61 (n := 62) rfl 2 rfl ?_
          refine yy_get F X.1 X.2.1 g_M_22_M Pw_8.o rfl d_M_assign_62 (n := 65) rfl ?_
          refine yy_iload_n F d_M_assign_65 (n := 66) rfl 1 rfl ?_
          refine ma_ld (j := 4) (i := (24 * k_bs σ (k_ov σ (cN x)) + (k_start σ (k_ov σ (cN x)) + k_la σ (cN x)))) F X Pw_8 (by decide) (show 24 * k_bs σ (k_ov σ (cN x)) + (k_start σ (k_ov σ (cN x)) + k_la σ (cN x)) < 240 by omega) d_M_assign_66 (n' := 67) rfl ?_
          refine yy_tope (y := (s_vl (k_B σ (k_ov σ (cN x))) (k_start σ (k_ov σ (cN x)) + k_la σ (cN x)))) (R.vl I hc hv (by omega)) ?_
          refine yy_istore (lv' := [(5, .int (s_vl (k_B σ (k_ov σ (cN x))) (k_start σ (k_ov σ (cN x)) + k_la σ (cN x)))), (4, .int 0), (3, .int (nI (24 * k_bs σ (k_ov σ (cN x)) + (k_start σ (k_ov σ (cN x)) + k_la σ (cN x))))), (0, .ref a), (1, .int (nI (cN x))), (2, .int y)]) F d_M_assign_67 (n := 69) rfl (by decide) rfl ?_
          refine yy_aload_n F d_M_assign_69 (n := 70) rfl 3 rfl ?_
          refine yy_get F X.1 X.2.1 g_M_19_M Pw_8.o rfl d_M_assign_70 (n := 73) rfl ?_
          refine yy_iload_n F d_M_assign_73 (n := 74) rfl 2 rfl ?_
          refine yy_iload F d_M_assign_74 (n := 76) rfl 1 rfl ?_
          refine yy_if_eq_t (tgt := 83) F d_M_assign_76 (by decide) (by decide) ?_
          refine yy_aload_n F d_M_assign_83 (n := 84) rfl 3 rfl ?_
          refine yy_get F X.1 X.2.1 g_M_19_M Pw_8.o rfl d_M_assign_84 (n := 87) rfl ?_
          refine yy_iload_n F d_M_assign_87 (n := 88) rfl 2 rfl ?_
          refine ma_ld (j := 3) (i := (24 * k_bs σ (k_ov σ (cN x)) + (k_start σ (k_ov σ (cN x)) + k_la σ (cN x)))) F X Pw_8 (by decide) (show 24 * k_bs σ (k_ov σ (cN x)) + (k_start σ (k_ov σ (cN x)) + k_la σ (cN x)) < 240 by omega) d_M_assign_88 (n' := 89) rfl ?_
          refine yy_tope (y := (s_nu (k_B σ (k_ov σ (cN x))) (k_start σ (k_ov σ (cN x)) + k_la σ (cN x)))) (R.nu I hc h5 (by omega)) ?_
          refine yy_tope (y := s.2 3 (24 * k_bs σ (k_ov σ (cN x)) + (k_start σ (k_ov σ (cN x)) + k_la σ (cN x)))) (R.nu I hc h5 (by omega)).symm ?_
          refine ma_st (j := 3) (i := (24 * k_bs σ (k_ov σ (cN x)) + (k_start σ (k_ov σ (cN x)) + k_la σ (cN x)))) F X Pw_8 hSw_10 (by decide) (show 24 * k_bs σ (k_ov σ (cN x)) + (k_start σ (k_ov σ (cN x)) + k_la σ (cN x)) < 240 by omega) d_M_assign_89 (n' := 90) rfl (fun Hw_11 locs_w_11 Pw_11 kw_11 Sw_11 => ?_)
          have kw_11 := kw_8.tr kw_11
          rw [m_set_id] at Pw_11
          refine yy_aload_n F d_M_assign_90 (n := 91) rfl 3 rfl ?_
          refine yy_get F X.1 X.2.1 g_M_22_M Pw_11.o rfl d_M_assign_91 (n := 94) rfl ?_
          refine yy_iload_n F d_M_assign_94 (n := 95) rfl 2 rfl ?_
          refine yy_iload F d_M_assign_95 (n := 97) rfl 1 rfl ?_
          refine yy_if_eq_t (tgt := 104) F d_M_assign_97 (by decide) (by decide) ?_
          refine yy_iload_n F d_M_assign_104 (n := 105) rfl 5 rfl ?_
          refine ma_st (j := 4) (i := (24 * k_bs σ (k_ov σ (cN x)) + (k_start σ (k_ov σ (cN x)) + k_la σ (cN x)))) F X Pw_11 Sw_11 (by decide) (show 24 * k_bs σ (k_ov σ (cN x)) + (k_start σ (k_ov σ (cN x)) + k_la σ (cN x)) < 240 by omega) d_M_assign_105 (n' := 106) rfl (fun Hw_12 locs_w_12 Pw_12 kw_12 Sw_12 => ?_)
          have kw_12 := kw_11.tr kw_12
          refine yy_iload F d_M_assign_106 (n := 108) rfl 0 rfl ?_
          have R2 : mr (m_set s 4 (24 * k_bs σ (k_ov σ (cN x)) + (k_start σ (k_ov σ (cN x)) + k_la σ (cN x))) y) (k_setS σ (k_bs σ (k_ov σ (cN x))) (S_vl (k_B σ (k_ov σ (cN x))) (k_start σ (k_ov σ (cN x)) + k_la σ (cN x)) y)) := R.vl1 hb (I.bb hc) (by omega)
          exact yy_iret F Sw_12 ⟨Nat.zero_le _, Nat.zero_le _⟩ rfl d_M_assign_108 (mq_i (o := none) (v := (s_vl (k_B σ (k_ov σ (cN x))) (k_start σ (k_ov σ (cN x)) + k_la σ (cN x)))) (σ := (k_setS σ (k_bs σ (k_ov σ (cN x))) (S_vl (k_B σ (k_ov σ (cN x))) (k_start σ (k_ov σ (cN x)) + k_la σ (cN x)) y))) (by unfold sp_assign; rw [hE, hlo, hld, hl]; rfl) R2 Pw_12 kw_12 (by decide) (fun _ => rfl))
        | true =>
          refine yy_tope (y := 1) (rfl) ?_
          refine yy_istore (lv' := [(4, .int 1), (3, .int (nI (24 * k_bs σ (k_ov σ (cN x)) + (k_start σ (k_ov σ (cN x)) + k_la σ (cN x))))), (0, .ref a), (1, .int (nI (cN x))), (2, .int y)]) F d_M_assign_45 (n := 47) rfl (by decide) rfl ?_
          refine yy_iload F d_M_assign_47 (n := 49) rfl 0 rfl ?_
          refine yy_if_eq_f (tgt := 61) F d_M_assign_49 (n := 52) rfl (by decide) (by decide) ?_
          refine yy_aload_n F d_M_assign_52 (n := 53) rfl 2 rfl ?_
          refine yy_get F X.1 X.2.1 g_M_19_M Pw_8.o rfl d_M_assign_53 (n := 56) rfl ?_
          refine yy_iload_n F d_M_assign_56 (n := 57) rfl 1 rfl ?_
          refine ma_ld (j := 3) (i := (24 * k_bs σ (k_ov σ (cN x)) + (k_start σ (k_ov σ (cN x)) + k_la σ (cN x)))) F X Pw_8 (by decide) (show 24 * k_bs σ (k_ov σ (cN x)) + (k_start σ (k_ov σ (cN x)) + k_la σ (cN x)) < 240 by omega) d_M_assign_57 (n' := 58) rfl ?_
          refine yy_tope (y := (s_nu (k_B σ (k_ov σ (cN x))) (k_start σ (k_ov σ (cN x)) + k_la σ (cN x)))) (R.nu I hc h5 (by omega)) ?_
          refine yy_goto (tgt := 67) F d_M_assign_58 (by decide) ?_
          refine yy_istore (lv' := [(5, .int (s_nu (k_B σ (k_ov σ (cN x))) (k_start σ (k_ov σ (cN x)) + k_la σ (cN x)))), (4, .int 1), (3, .int (nI (24 * k_bs σ (k_ov σ (cN x)) + (k_start σ (k_ov σ (cN x)) + k_la σ (cN x))))), (0, .ref a), (1, .int (nI (cN x))), (2, .int y)]) F d_M_assign_67 (n := 69) rfl (by decide) rfl ?_
          refine yy_aload_n F d_M_assign_69 (n := 70) rfl 3 rfl ?_
          refine yy_get F X.1 X.2.1 g_M_19_M Pw_8.o rfl d_M_assign_70 (n := 73) rfl ?_
          refine yy_iload_n F d_M_assign_73 (n := 74) rfl 2 rfl ?_
          refine yy_iload F d_M_assign_74 (n := 76) rfl 1 rfl ?_
          refine yy_if_eq_f (tgt := 83) F d_M_assign_76 (n := 79) rfl (by decide) (by decide) ?_
          refine yy_iload_n F d_M_assign_79 (n := 80) rfl 5 rfl ?_
          refine yy_goto (tgt := 89) F d_M_assign_80 (by decide) ?_
          refine ma_st (j := 3) (i := (24 * k_bs σ (k_ov σ (cN x)) + (k_start σ (k_ov σ (cN x)) + k_la σ (cN x)))) F X Pw_8 hSw_10 (by decide) (show 24 * k_bs σ (k_ov σ (cN x)) + (k_start σ (k_ov σ (cN x)) + k_la σ (cN x)) < 240 by omega) d_M_assign_89 (n' := 90) rfl (fun Hw_13 locs_w_13 Pw_13 kw_13 Sw_13 => ?_)
          have kw_13 := kw_8.tr kw_13
          refine yy_aload_n F d_M_assign_90 (n := 91) rfl 3 rfl ?_
          refine yy_get F X.1 X.2.1 g_M_22_M Pw_13.o rfl d_M_assign_91 (n := 94) rfl ?_
          refine yy_iload_n F d_M_assign_94 (n := 95) rfl 2 rfl ?_
          refine yy_iload F d_M_assign_95 (n := 97) rfl 1 rfl ?_
          refine yy_if_eq_f (tgt := 104) F d_M_assign_97 (n := 100) rfl (by decide) (by decide) ?_
          refine yy_iconst (v := 0) F d_M_assign_100 (n := 101) rfl rfl ?_
          refine yy_goto (tgt := 105) F d_M_assign_101 (by decide) ?_
          refine ma_st (j := 4) (i := (24 * k_bs σ (k_ov σ (cN x)) + (k_start σ (k_ov σ (cN x)) + k_la σ (cN x)))) F X Pw_13 Sw_13 (by decide) (show 24 * k_bs σ (k_ov σ (cN x)) + (k_start σ (k_ov σ (cN x)) + k_la σ (cN x)) < 240 by omega) d_M_assign_105 (n' := 106) rfl (fun Hw_14 locs_w_14 Pw_14 kw_14 Sw_14 => ?_)
          have kw_14 := kw_13.tr kw_14
          refine yy_iload F d_M_assign_106 (n := 108) rfl 0 rfl ?_
          have hkb := k_lb I hc hl
          have R2 : mr (m_set (m_set s 3 (24 * k_bs σ (k_ov σ (cN x)) + (k_start σ (k_ov σ (cN x)) + k_la σ (cN x))) y) 4 (24 * k_bs σ (k_ov σ (cN x)) + (k_start σ (k_ov σ (cN x)) + k_la σ (cN x))) 0) (k_setS σ (k_bs σ (k_ov σ (cN x))) (S_nu (k_B σ (k_ov σ (cN x))) (k_start σ (k_ov σ (cN x)) + k_la σ (cN x)) y)) := (R.nu1 hb (I.bb hc) h5 (by omega)).vl0 hb (I.bb hc) (k_l234 hkb) (by omega)
          exact yy_iret F Sw_14 ⟨Nat.zero_le _, Nat.zero_le _⟩ rfl d_M_assign_108 (mq_i (o := none) (v := (s_nu (k_B σ (k_ov σ (cN x))) (k_start σ (k_ov σ (cN x)) + k_la σ (cN x)))) (σ := (k_setS σ (k_bs σ (k_ov σ (cN x))) (S_nu (k_B σ (k_ov σ (cN x))) (k_start σ (k_ov σ (cN x)) + k_la σ (cN x)) y))) (by unfold sp_assign; rw [hE, hlo, hld, hl]; rfl) R2 Pw_14 kw_14 (by decide) (fun _ => rfl))
set_option maxRecDepth 100000 in
set_option maxHeartbeats 4000000 in
theorem c_M_plant {l : Launch} {z : State} {a0 : Array Value} {D : va_G} {ca : kca} (X : kcx l z a0 D ca) {a n : Nat} {cd : Int32} {s : ms} {σ : ks} {t : Nat} (I : iv t σ) (R : mr s σ) {x y : Int32} (ht : t + 25 ≤ 100000) : yy_M l z y_M_plant (.code y_M_plant b_M_plant 3 none) ({ frames := 3, cells := 0, slots := 0, locals := 74 }) [.ref a, .int x, .int y] (mo_at D ca z a n cd s) (mqv D ca z a n [e_io, e_uo, e_is, e_rt] (sp_plant σ x y)) := by
  refine yy_body (plainFor_of_name (by decide)) (Nat.le_of_ble_eq_true rfl) (fun b H F hS hP hH hnm => ?_)
  have h10 := I.m10
  refine yy_aload_n F d_M_plant_0 (n := 1) rfl 0 rfl ?_
  refine yy_aload_n F d_M_plant_1 (n := 2) rfl 0 rfl ?_
  refine yy_iload_n F d_M_plant_2 (n := 3) rfl 1 rfl ?_
  refine yy_cri (w := (ym_n (decide (ch_wk σ x = none)))) F hS (c_M_isOpen (x := x) X I R) (yy_Bc F X.1 q_1091 q_3) (yy_invV (nA := 1) (C := R_M) (bytes := b_M_isOpen) (maxL := 2) (retY := (some .boolean)) F X.1 q_1088 q_1090 qs_M_isOpen q_1091 ⟨by decide, by decide, by decide +kernel⟩ (yy_recv F.N X.2.1 (ci := 6) rfl hP.o) rfl d_M_plant_3) d_M_plant_3 (n := 6) rfl (by simp [Value.category]) ⟨by decide, by decide⟩ ⟨Nat.zero_le _, Nat.zero_le _⟩ ⟨rfl, rfl⟩ hP rfl (fun _ hSw_1 => ?_)
  cases hop : decide (ch_wk σ x = none)
  · refine yy_if_ne_f (tgt := 13) F d_M_plant_6 (n := 9) rfl (by decide) rfl ?_
    have hE := of_decide_eq_false hop
    cases hE9 : ch_wk σ x with
    | none => exact absurd hE9 hE
    | some E =>
      have hEE := (ch_wk_some hE9).2
      subst hEE
      refine yy_iconst (v := 1) F d_M_plant_9 (n := 10) rfl rfl ?_
      refine yy_goto (tgt := 68) F d_M_plant_10 (by decide) ?_
      refine ma_code F X g_M_55_M hP hSw_1 d_M_plant_68 (n' := 71) rfl (fun Hw_2 locs_w_2 Pw_2 kw_2 Sw_2 => ?_)
      have kw_2 := kpm.rf.tr kw_2
      refine yy_aload_n F d_M_plant_71 (n := 72) rfl 0 rfl ?_
      refine yy_get F X.1 X.2.1 g_M_55_M Pw_2.o rfl d_M_plant_72 (n := 75) rfl ?_
      refine yy_if_le_f (tgt := 79) F d_M_plant_75 (n := 78) rfl (by decide) (by decide) ?_
      exact yy_vret F Sw_2 ⟨Nat.zero_le _, Nat.zero_le _⟩ rfl d_M_plant_78 (mq_v (o := some e_io) (v := 0) (σ := σ) (by unfold sp_plant; rw [hE9]; rfl) R Pw_2 kw_2 (by decide))
  · refine yy_if_ne_t (tgt := 13) F d_M_plant_6 (by decide) (by decide) ?_
    have hE := of_decide_eq_true hop
    obtain ⟨hi, ex, hov, hc⟩ := ch_wk_none I hE
    have hb := I.bs hc
    have h24 := I.ct hc
    rw [show (Value.int x) = Value.int (nI (cN x)) from congrArg Value.int ex]
    have hb := I.bs hc
    refine yy_aload_n F d_M_plant_13 (n := 14) rfl 0 rfl ?_
    refine yy_aload_n F d_M_plant_14 (n := 15) rfl 0 rfl ?_
    refine yy_get F X.1 X.2.1 g_M_43_M hP.o rfl d_M_plant_15 (n := 18) rfl ?_
    refine yy_iload_n F d_M_plant_18 (n := 19) rfl 1 rfl ?_
    refine ma_ld (j := 11) (i := (cN x)) F X hP (by decide) (show cN x < 4 by omega) d_M_plant_19 (n' := 20) rfl ?_
    refine yy_tope (y := (nI (k_ov σ (cN x)))) ((R.w1 hi hov).1) ?_
    refine yy_cri (w := (ym_n (k_isl (k_kd σ (k_ov σ (cN x)))))) F hSw_1 (c_M_isList X I R hc) (yy_Bc F X.1 q_922 q_3) (yy_invV (nA := 1) (C := R_M) (bytes := b_M_isList) (maxL := 2) (retY := (some .boolean)) F X.1 q_919 q_921 qs_M_isList q_922 ⟨by decide, by decide, by decide +kernel⟩ (yy_recv F.N X.2.1 (ci := 6) rfl hP.o) rfl d_M_plant_20) d_M_plant_20 (n := 23) rfl (by simp [Value.category]) ⟨by decide, by decide⟩ ⟨Nat.zero_le _, Nat.zero_le _⟩ ⟨rfl, rfl⟩ hP rfl (fun _ hSw_3 => ?_)
    cases hl : k_isl (k_kd σ (k_ov σ (cN x)))
    · refine yy_if_ne_f (tgt := 30) F d_M_plant_23 (n := 26) rfl (by decide) rfl ?_
      refine yy_iconst (v := 2) F d_M_plant_26 (n := 27) rfl rfl ?_
      refine yy_goto (tgt := 68) F d_M_plant_27 (by decide) ?_
      refine ma_code F X g_M_55_M hP hSw_3 d_M_plant_68 (n' := 71) rfl (fun Hw_4 locs_w_4 Pw_4 kw_4 Sw_4 => ?_)
      have kw_4 := kpm.rf.tr kw_4
      refine yy_aload_n F d_M_plant_71 (n := 72) rfl 0 rfl ?_
      refine yy_get F X.1 X.2.1 g_M_55_M Pw_4.o rfl d_M_plant_72 (n := 75) rfl ?_
      refine yy_if_le_f (tgt := 79) F d_M_plant_75 (n := 78) rfl (by decide) (by decide) ?_
      exact yy_vret F Sw_4 ⟨Nat.zero_le _, Nat.zero_le _⟩ rfl d_M_plant_78 (mq_v (o := some e_uo) (v := 0) (σ := σ) (by unfold sp_plant; rw [hE, hl]; rfl) R Pw_4 kw_4 (by decide))
    · refine yy_if_ne_t (tgt := 30) F d_M_plant_23 (by decide) (by decide) ?_
      refine yy_aload_n F d_M_plant_30 (n := 31) rfl 0 rfl ?_
      refine yy_iload_n F d_M_plant_31 (n := 32) rfl 1 rfl ?_
      refine yy_cri (w := (ym_n (k_lost σ (cN x) (k_ov σ (cN x))))) F hSw_3 (c_M_isLost X I R hi hov) (yy_Bc F X.1 q_1095 q_3) (yy_invV (nA := 1) (C := R_M) (bytes := b_M_isLost) (maxL := 2) (retY := (some .boolean)) F X.1 q_1092 q_1094 qs_M_isLost q_1095 ⟨by decide, by decide, by decide +kernel⟩ (yy_recv F.N X.2.1 (ci := 6) rfl hP.o) rfl d_M_plant_32) d_M_plant_32 (n := 35) rfl (by simp [Value.category]) ⟨by decide, by decide⟩ ⟨Nat.zero_le _, Nat.zero_le _⟩ ⟨rfl, rfl⟩ hP rfl (fun _ hSw_5 => ?_)
      cases hlo : k_lost σ (cN x) (k_ov σ (cN x))
      · refine yy_if_eq_t (tgt := 42) F d_M_plant_35 (by decide) rfl ?_
        have hs := (k_lost_no hlo).1
        have hf := k_fr_of hs
        have hend := I.end hc hf
        have hwk := (I.walk hi hov hlo).1
        refine yy_aload_n F d_M_plant_42 (n := 43) rfl 0 rfl ?_
        refine yy_get F X.1 X.2.1 g_M_25_M hP.o rfl d_M_plant_43 (n := 46) rfl ?_
        refine yy_aload_n F d_M_plant_46 (n := 47) rfl 0 rfl ?_
        refine yy_get F X.1 X.2.1 g_M_16_M hP.o rfl d_M_plant_47 (n := 50) rfl ?_
        refine yy_aload_n F d_M_plant_50 (n := 51) rfl 0 rfl ?_
        refine yy_get F X.1 X.2.1 g_M_43_M hP.o rfl d_M_plant_51 (n := 54) rfl ?_
        refine yy_iload_n F d_M_plant_54 (n := 55) rfl 1 rfl ?_
        refine ma_ld (j := 11) (i := (cN x)) F X hP (by decide) (show cN x < 4 by omega) d_M_plant_55 (n' := 56) rfl ?_
        refine yy_tope (y := (nI (k_ov σ (cN x)))) ((R.w1 hi hov).1) ?_
        refine ma_ld (j := 2) (i := (k_ov σ (cN x))) F X hP (by decide) (show k_ov σ (cN x) < 10 by omega) d_M_plant_56 (n' := 57) rfl ?_
        refine yy_tope (y := (nI (k_bs σ (k_ov σ (cN x))))) (R.bs hc) ?_
        refine ma_ld (j := 5) (i := (k_bs σ (k_ov σ (cN x)))) F X hP (by decide) (show k_bs σ (k_ov σ (cN x)) < 10 by omega) d_M_plant_57 (n' := 58) rfl ?_
        refine yy_tope (y := (nI (s_ct (k_B σ (k_ov σ (cN x)))))) (R.ct I hc) ?_
        refine yy_bipush (v := 24) F d_M_plant_58 (n := 60) rfl rfl ?_
        refine yy_ic_ne (tgt := 67) F d_M_plant_60 (n := 63) rfl (by decide) (fun hfu => ?_) (fun hfu => ?_)
        · have h24b : s_ct (k_B σ (k_ov σ (cN x))) < 24 := by
            have : ¬ s_ct (k_B σ (k_ov σ (cN x))) = 24 := fun q => hfu (by rw [q]; rfl)
            omega
          obtain ⟨a1, a2⟩ := k_lbq I hc hl
          refine yy_iconst (v := 0) F d_M_plant_67 (n := 68) rfl rfl ?_
          refine ma_code F X g_M_55_M hP hSw_5 d_M_plant_68 (n' := 71) rfl (fun Hw_6 locs_w_6 Pw_6 kw_6 Sw_6 => ?_)
          have kw_6 := kpm.rf.tr kw_6
          refine yy_aload_n F d_M_plant_71 (n := 72) rfl 0 rfl ?_
          refine yy_get F X.1 X.2.1 g_M_55_M Pw_6.o rfl d_M_plant_72 (n := 75) rfl ?_
          refine yy_if_le_t (tgt := 79) F d_M_plant_75 (by decide) (by decide) ?_
          refine yy_aload_n F d_M_plant_79 (n := 80) rfl 0 rfl ?_
          refine yy_aload_n F d_M_plant_80 (n := 81) rfl 0 rfl ?_
          refine yy_get F X.1 X.2.1 g_M_43_M Pw_6.o rfl d_M_plant_81 (n := 84) rfl ?_
          refine yy_iload_n F d_M_plant_84 (n := 85) rfl 1 rfl ?_
          refine ma_ld (j := 11) (i := (cN x)) F X Pw_6 (by decide) (show cN x < 4 by omega) d_M_plant_85 (n' := 86) rfl ?_
          refine yy_tope (y := (nI (k_ov σ (cN x)))) ((R.w1 hi hov).1) ?_
          refine yy_aload_n F d_M_plant_86 (n := 87) rfl 0 rfl ?_
          refine yy_get F X.1 X.2.1 g_M_46_M Pw_6.o rfl d_M_plant_87 (n := 90) rfl ?_
          refine yy_iload_n F d_M_plant_90 (n := 91) rfl 1 rfl ?_
          refine ma_ld (j := 12) (i := (cN x)) F X Pw_6 (by decide) (show cN x < 4 by omega) d_M_plant_91 (n' := 92) rfl ?_
          refine yy_tope (y := (nI (k_W σ (cN x)).2.1)) ((R.w1 hi hov).2.1) ?_
          refine yy_iload_n F d_M_plant_92 (n := 93) rfl 2 rfl ?_
          refine yy_cv F Sw_6 (c_M_insertAt (p := (k_W σ (cN x)).2.1) (y := y) X I R hc hl (by omega) h24b) (yy_Bc F X.1 q_983 q_3) (yy_invV (nA := 3) (C := R_M) (bytes := b_M_insertAt) (maxL := 5) (retY := none) F X.1 q_980 q_982 qs_M_insertAt q_983 ⟨by decide, by decide, by decide +kernel⟩ (yy_recv F.N X.2.1 (ci := 6) rfl Pw_6.o) rfl d_M_plant_93) d_M_plant_93 (n := 96) rfl (by simp [Value.category]) ⟨by decide, by decide⟩ ⟨Nat.zero_le _, Nat.zero_le _⟩ ⟨rfl, rfl⟩ Pw_6 (fun Hw_7 locs_w_7 qw_7 Sw_7 => ?_)
          obtain ⟨s2, Q2, P2, k2⟩ := qw_7
          have k2 := kw_6.tr k2
          obtain ⟨I2, hf2⟩ := I.bring (x := y) (q := (k_start σ (k_ov σ (cN x)) + (k_W σ (cN x)).2.1)) (by omega) hc hf (by omega) h24b ⟨fun q => by rcases a1 with h | h <;> exact absurd (h.symm.trans q) (by decide), fun q => by rcases a1 with h | h <;> exact absurd (h.symm.trans q) (by decide)⟩ (fun q => by rcases a1 with h | h <;> rcases q with q | q <;> exact absurd (h.symm.trans q) (by decide))
          obtain ⟨σ2, hσ2⟩ : ∃ σ2 : ks, σ2 = k_bring σ (k_ov σ (cN x)) (k_start σ (k_ov σ (cN x)) + (k_W σ (cN x)).2.1) y := ⟨_, rfl⟩
          have R2 : mr s2 σ2 := by rw [hσ2]; exact Q2
          rw [← hσ2] at I2
          have hW2 : k_W σ2 (cN x) = k_W σ (cN x) := by
            rw [hσ2]
            exact congrFun (k_thru_C I hc (S_bring (k_kd σ (k_bs σ (k_ov σ (cN x)))) (k_B σ (k_ov σ (cN x))) (k_start σ (k_ov σ (cN x)) + (k_W σ (cN x)).2.1) y 0) (fun m => m + 1)).2.2.1 (cN x)
          have hov2 : (k_W σ2 (cN x)).1 = some (k_ov σ (cN x)) := by rw [hW2]; exact hov
          have hpl2 : s2.2 12 (cN x) = nI (k_W σ (cN x)).2.1 := by rw [← hW2]; exact (R2.w1 hi hov2).2.1
          refine yy_aload_n F d_M_plant_96 (n := 97) rfl 0 rfl ?_
          refine yy_iload_n F d_M_plant_97 (n := 98) rfl 1 rfl ?_
          refine yy_aload_n F d_M_plant_98 (n := 99) rfl 0 rfl ?_
          refine yy_get F X.1 X.2.1 g_M_46_M P2.o rfl d_M_plant_99 (n := 102) rfl ?_
          refine yy_iload_n F d_M_plant_102 (n := 103) rfl 1 rfl ?_
          refine ma_ld (j := 12) (i := (cN x)) F X P2 (by decide) (show cN x < 4 by omega) d_M_plant_103 (n' := 104) rfl ?_
          refine yy_tope (y := (nI (k_W σ (cN x)).2.1)) hpl2 ?_
          refine yy_iconst (v := 1) F d_M_plant_104 (n := 105) rfl rfl ?_
          refine yy_iadd F d_M_plant_105 (n := 106) rfl ?_
          refine yy_tope (y := (nI ((k_W σ (cN x)).2.1 + 1))) (nI_1 _) ?_
          refine yy_cv F Sw_7 (c_M_settle (p := (k_W σ (cN x)).2.1 + 1) X I2 R2 hi hov2) (yy_Bc F X.1 q_1111 q_3) (yy_invV (nA := 2) (C := R_M) (bytes := b_M_settle) (maxL := 3) (retY := none) F X.1 q_1108 q_1110 qs_M_settle q_1111 ⟨by decide, by decide, by decide +kernel⟩ (yy_recv F.N X.2.1 (ci := 6) rfl P2.o) rfl d_M_plant_106) d_M_plant_106 (n := 109) rfl (by simp [Value.category]) ⟨by decide, by decide⟩ ⟨Nat.zero_le _, Nat.zero_le _⟩ ⟨rfl, rfl⟩ P2 (fun Hw_8 locs_w_8 qw_8 Sw_8 => ?_)
          obtain ⟨s3, Q3, P3, k3⟩ := qw_8
          have k3 := k2.tr k3
          rw [hσ2] at Q3
          exact yy_vret F Sw_8 ⟨Nat.zero_le _, Nat.zero_le _⟩ rfl d_M_plant_109 (mq_v (o := none) (v := 0) (σ := (k_setW (k_bring σ (k_ov σ (cN x)) (k_start σ (k_ov σ (cN x)) + (k_W σ (cN x)).2.1) y) (cN x) (some (k_ov σ (cN x)), (k_W σ (cN x)).2.1 + 1, -1, s_ch (k_B (k_bring σ (k_ov σ (cN x)) (k_start σ (k_ov σ (cN x)) + (k_W σ (cN x)).2.1) y) (k_ov σ (cN x)))))) (by unfold sp_plant; rw [hE, hl, hlo, show (!decide (24 ≤ s_ct (k_B σ (k_ov σ (cN x))))) = true by simp [h24b]]; rfl) Q3 P3 k3 (by decide))
        · have hf9 : s_ct (k_B σ (k_ov σ (cN x))) = 24 := (nI_eq (by omega) (by omega)).mp (show nI (s_ct (k_B σ (k_ov σ (cN x)))) = nI 24 from hfu)
          refine yy_iconst (v := 3) F d_M_plant_63 (n := 64) rfl rfl ?_
          refine yy_goto (tgt := 68) F d_M_plant_64 (by decide) ?_
          refine ma_code F X g_M_55_M hP hSw_5 d_M_plant_68 (n' := 71) rfl (fun Hw_9 locs_w_9 Pw_9 kw_9 Sw_9 => ?_)
          have kw_9 := kpm.rf.tr kw_9
          refine yy_aload_n F d_M_plant_71 (n := 72) rfl 0 rfl ?_
          refine yy_get F X.1 X.2.1 g_M_55_M Pw_9.o rfl d_M_plant_72 (n := 75) rfl ?_
          refine yy_if_le_f (tgt := 79) F d_M_plant_75 (n := 78) rfl (by decide) (by decide) ?_
          exact yy_vret F Sw_9 ⟨Nat.zero_le _, Nat.zero_le _⟩ rfl d_M_plant_78 (mq_v (o := some e_is) (v := 0) (σ := σ) (by unfold sp_plant; rw [hE, hl, hlo, show (!decide (24 ≤ s_ct (k_B σ (k_ov σ (cN x))))) = false by simp [hf9]]; rfl) R Pw_9 kw_9 (by decide))
      · refine yy_if_eq_f (tgt := 42) F d_M_plant_35 (n := 38) rfl (by decide) (by decide) ?_
        refine yy_iconst (v := 4) F d_M_plant_38 (n := 39) rfl rfl ?_
        refine yy_goto (tgt := 68) F d_M_plant_39 (by decide) ?_
        refine ma_code F X g_M_55_M hP hSw_5 d_M_plant_68 (n' := 71) rfl (fun Hw_10 locs_w_10 Pw_10 kw_10 Sw_10 => ?_)
        have kw_10 := kpm.rf.tr kw_10
        refine yy_aload_n F d_M_plant_71 (n := 72) rfl 0 rfl ?_
        refine yy_get F X.1 X.2.1 g_M_55_M Pw_10.o rfl d_M_plant_72 (n := 75) rfl ?_
        refine yy_if_le_f (tgt := 79) F d_M_plant_75 (n := 78) rfl (by decide) (by decide) ?_
        exact yy_vret F Sw_10 ⟨Nat.zero_le _, Nat.zero_le _⟩ rfl d_M_plant_78 (mq_v (o := some e_rt) (v := 0) (σ := σ) (by unfold sp_plant; rw [hE, hl, hlo]; rfl) R Pw_10 kw_10 (by decide))
