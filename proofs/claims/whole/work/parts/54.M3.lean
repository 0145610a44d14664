/-! PART M3: the reference's changes -/
set_option maxRecDepth 100000 in
set_option maxHeartbeats 4000000 in
theorem c_M_changed {l : Launch} {z : State} {a0 : Array Value} {D : va_G} {ca : kca} (X : kcx l z a0 D ca) {a n : Nat} {cd : Int32} {s : ms} {σ : ks} (Wf : wf σ) (R : mr s σ) {c : Nat} (hc : c < k_m σ) {by_ : Int32} {g : Nat → Nat} (hch : k_chn σ g by_ (c + 1) c) : yy_M l z y_M_changed (.code y_M_changed b_M_changed 5 none) ({ frames := 0, cells := 0, slots := 0, locals := 0 }) [.ref a, .int (nI c), .int by_] (mo_at D ca z a n cd s) (yy_pv (fun H H1 => ∃ s1 : ms, mr s1 (k_fo g (s_ch (k_B σ c) + 1) (c + 1) c (k_setS σ (k_bs σ c) (S_ch (k_B σ c)))) ∧ mo_at D ca z a n cd s1 H1 ∧ kpm a n H H1)) := by
  refine yy_body (plainFor_of_name (by decide)) (Nat.le_of_ble_eq_true rfl) (fun b H F hS hP hH hnm => ?_)
  have h10 := Wf.1
  obtain ⟨hb, hbb⟩ := Wf.2.1 c hc
  have hcs := (R.2.2.1 _ hb hbb).1.2.1
  refine yy_aload_n F d_M_changed_0 (n := 1) rfl 0 rfl ?_
  refine yy_get F X.1 X.2.1 g_M_16_M hP.o rfl d_M_changed_1 (n := 4) rfl ?_
  refine yy_iload_n F d_M_changed_4 (n := 5) rfl 1 rfl ?_
  refine ma_ld (j := 2) (i := c) F X hP (by decide) (show c < 10 by omega) d_M_changed_5 (n' := 6) rfl ?_
  refine yy_tope (y := (nI (k_bs σ c))) (R.bs hc) ?_
  refine yy_istore_n (lv' := [(3, .int (nI (k_bs σ c))), (0, .ref a), (1, .int (nI c)), (2, .int by_)]) F d_M_changed_6 (n := 7) rfl (by decide) rfl ?_
  refine yy_aload_n F d_M_changed_7 (n := 8) rfl 1 rfl ?_
  refine yy_get F X.1 X.2.1 g_M_28_M hP.o rfl d_M_changed_8 (n := 11) rfl ?_
  refine yy_iload_n F d_M_changed_11 (n := 12) rfl 0 rfl ?_
  refine yy_dup2 F d_M_changed_12 (n := 13) rfl rfl rfl ?_
  refine ma_ld (j := 6) (i := (k_bs σ c)) F X hP (by decide) (show k_bs σ c < 10 by omega) d_M_changed_13 (n' := 14) rfl ?_
  refine yy_tope (y := (nI (s_ch (k_B σ c)))) hcs ?_
  refine yy_iconst (v := 1) F d_M_changed_14 (n := 15) rfl rfl ?_
  refine yy_iadd F d_M_changed_15 (n := 16) rfl ?_
  refine yy_tope (y := (nI (s_ch (k_B σ c) + 1))) (nI_1 _) ?_
  refine ma_st (j := 6) (i := (k_bs σ c)) F X hP hS (by decide) (show k_bs σ c < 10 by omega) d_M_changed_16 (n' := 17) rfl (fun Hw_1 locs_w_1 Pw_1 kw_1 Sw_1 => ?_)
  have kw_1 := kpm.rf.tr kw_1
  have R1 : mr (m_set s 6 (k_bs σ c) (nI (s_ch (k_B σ c) + 1))) (k_setS σ (k_bs σ c) (S_ch (k_B σ c))) := R.chg hb hbb
  refine yy_iload_n F d_M_changed_17 (n := 18) rfl 2 rfl ?_
  refine yy_istore (lv' := [(4, .int (nI c)), (3, .int (nI (k_bs σ c))), (0, .ref a), (1, .int (nI c)), (2, .int by_)]) F d_M_changed_18 (n := 20) rfl (by decide) rfl ?_
  have loop : ∀ (n0 x : Nat) (σ1 : ks) (s1 : ms) (H1 : Heap) (locs : List Loc), x < n0 → x < k_m σ → k_chn σ g by_ n0 x → (∀ y, y ≤ x → k_C σ1 y = k_C σ y) → (∀ y, k_kd σ1 y = k_kd σ y ∧ k_bs σ1 y = k_bs σ y) → s_ch (k_S σ1 (k_bs σ c)) = s_ch (k_B σ c) + 1 → σ1.1 = σ.1 → k_fo g (s_ch (k_B σ c) + 1) n0 x σ1 = k_fo g (s_ch (k_B σ c) + 1) (c + 1) c (k_setS σ (k_bs σ c) (S_ch (k_B σ c))) → mr s1 σ1 → mo_at D ca z a n cd s1 H1 → kpm a n H H1 → yy_S z H1 locs → yy_Y b H1 locs (0, 0) 20 [(4, .int (nI x)), (3, .int (nI (k_bs σ c))), (0, .ref a), (1, .int (nI c)), (2, .int by_)] [] := by
    intro n0
    induction n0 with
    | zero =>
      intro x σ1 s1 H1 locs h
      omega
    | succ n0 ih =>
      intro x σ1 s1 H1 locs hxn hx hchx hC hK hS9 hm hE Q1 P1 k1 S1
      have hx1 : x < k_m σ1 := by rw [show k_m σ1 = k_m σ from hm]; exact hx
      have hbm1 : k_bs σ c < k_m σ1 := by rw [show k_m σ1 = k_m σ from hm]; exact hb
      have hbb1 : k_bs σ1 (k_bs σ c) = k_bs σ c := by rw [(hK _).2]; exact hbb
      have hln : k_ln σ1 x = k_ln σ x := congrArg (fun q : kC => q.2.2.2.2.1) (hC x (Nat.le_refl _))
      have hof : k_of σ1 x = k_of σ x := congrArg (fun q : kC => q.2.2.1) (hC x (Nat.le_refl _))
      have hkx : s1.2 0 x = k_kd σ x := by rw [Q1.kd hx1, (hK x).1]
      refine yy_aload_n F d_M_changed_20 (n := 21) rfl 2 rfl ?_
      refine yy_get F X.1 X.2.1 g_M_7_M P1.o rfl d_M_changed_21 (n := 24) rfl ?_
      refine yy_iload F d_M_changed_24 (n := 26) rfl 0 rfl ?_
      refine ma_ld (j := 0) (i := x) F X P1 (by decide) (show x < 10 by omega) d_M_changed_26 (n' := 27) rfl ?_
      refine yy_tope (y := (k_kd σ x)) hkx ?_
      refine yy_bipush (v := 6) F d_M_changed_27 (n := 29) rfl rfl ?_
      refine yy_ic_ne (tgt := 68) F d_M_changed_29 (n := 32) rfl (by decide) (fun h6 => ?_) (fun h6 => ?_)
      · have hlast : k_fo g (s_ch (k_B σ c) + 1) (n0 + 1) x σ1 = σ1 := if_neg (by rw [(hK x).1]; exact h6)
        rw [hlast] at hE
        exact yy_vret F S1 ⟨Nat.zero_le _, Nat.zero_le _⟩ rfl d_M_changed_68 (⟨rfl, s1, by rw [← hE]; exact Q1, P1, k1⟩)
      · obtain ⟨hg, hch2⟩ := hchx h6
        have hox := Wf.2.2 x hx h6
        have h61 : k_kd σ1 x = 6 := by rw [(hK x).1]; exact h6
        have hse1 : s1.2 6 (k_bs σ c) = nI (s_ch (k_B σ c) + 1) := by rw [(Q1.2.2.1 _ hbm1 hbb1).1.2.1, hS9]
        refine yy_aload_n F d_M_changed_32 (n := 33) rfl 2 rfl ?_
        refine yy_get F X.1 X.2.1 g_M_40_M P1.o rfl d_M_changed_33 (n := 36) rfl ?_
        refine yy_iload F d_M_changed_36 (n := 38) rfl 0 rfl ?_
        refine yy_aload_n F d_M_changed_38 (n := 39) rfl 2 rfl ?_
        refine yy_get F X.1 X.2.1 g_M_28_M P1.o rfl d_M_changed_39 (n := 42) rfl ?_
        refine yy_iload_n F d_M_changed_42 (n := 43) rfl 1 rfl ?_
        refine ma_ld (j := 6) (i := (k_bs σ c)) F X P1 (by decide) (show k_bs σ c < 10 by omega) d_M_changed_43 (n' := 44) rfl ?_
        refine yy_tope (y := (nI (s_ch (k_B σ c) + 1))) hse1 ?_
        refine ma_st (j := 10) (i := x) F X P1 S1 (by decide) (show x < 10 by omega) d_M_changed_44 (n' := 45) rfl (fun Hw_2 locs_w_2 Pw_2 kw_2 Sw_2 => ?_)
        have kw_2 := k1.tr kw_2
        refine yy_aload_n F d_M_changed_45 (n := 46) rfl 2 rfl ?_
        refine yy_get F X.1 X.2.1 g_M_37_M Pw_2.o rfl d_M_changed_46 (n := 49) rfl ?_
        refine yy_iload F d_M_changed_49 (n := 51) rfl 0 rfl ?_
        refine yy_dup2 F d_M_changed_51 (n := 52) rfl rfl rfl ?_
        refine ma_ld (j := 9) (i := x) F X Pw_2 (by decide) (show x < 10 by omega) d_M_changed_52 (n' := 53) rfl ?_
        refine yy_tope (y := (nI (k_ln σ x))) (by rw [← hln]; exact Q1.ln hx1 h61) ?_
        refine yy_iload_n F d_M_changed_53 (n := 54) rfl 4 rfl ?_
        refine yy_iadd F d_M_changed_54 (n := 55) rfl ?_
        refine yy_tope (y := (nI (g (k_ln σ x)))) hg ?_
        refine ma_st (j := 9) (i := x) F X Pw_2 Sw_2 (by decide) (show x < 10 by omega) d_M_changed_55 (n' := 56) rfl (fun Hw_3 locs_w_3 Pw_3 kw_3 Sw_3 => ?_)
        have kw_3 := kw_2.tr kw_3
        have Q2 := Q1.setL hx1 h61 (g (k_ln σ x)) (s_ch (k_B σ c) + 1)
        obtain ⟨σ2, hσ2⟩ : ∃ σ2 : ks, σ2 = k_setL σ1 x (g (k_ln σ x)) (s_ch (k_B σ c) + 1) := ⟨_, rfl⟩
        rw [← hσ2] at Q2
        have hk2 : ∀ y, k_kd σ2 y = k_kd σ1 y ∧ k_bs σ2 y = k_bs σ1 y ∧ k_of σ2 y = k_of σ1 y := fun y => by rw [hσ2]; exact ⟨(k_setL_kd _ _ _ _ y).1, (k_setL_kd _ _ _ _ y).2.1, (k_setL_kd _ _ _ _ y).2.2.1⟩
        rw [show k_fo g (s_ch (k_B σ c) + 1) (n0 + 1) x σ1 = k_fo g (s_ch (k_B σ c) + 1) n0 (k_of σ x) σ2 from by rw [hσ2, ← hof, ← hln]; exact if_pos h61] at hE
        refine yy_aload_n F d_M_changed_56 (n := 57) rfl 2 rfl ?_
        refine yy_get F X.1 X.2.1 g_M_13_M Pw_3.o rfl d_M_changed_57 (n := 60) rfl ?_
        refine yy_iload F d_M_changed_60 (n := 62) rfl 0 rfl ?_
        refine ma_ld (j := 1) (i := x) F X Pw_3 (by decide) (show x < 10 by omega) d_M_changed_62 (n' := 63) rfl ?_
        refine yy_tope (y := (nI (k_of σ x))) (by rw [← hof]; exact Q1.of hx1 h61) ?_
        refine yy_istore (lv' := [(4, .int (nI (k_of σ x))), (3, .int (nI (k_bs σ c))), (0, .ref a), (1, .int (nI c)), (2, .int by_)]) F d_M_changed_63 (n := 65) rfl (by decide) rfl ?_
        refine yy_goto (tgt := 20) F d_M_changed_65 (by decide) ?_
        exact yy_sub [0, 1, 2, 3, 4] rfl (ih (k_of σ x) σ2 _ _ _ (by omega) (by omega) hch2 (fun y hy => by rw [hσ2, k_setL_o σ1 _ _ (by omega)]; exact hC y (by omega)) (fun y => by rw [(hk2 y).1, (hk2 y).2.1]; exact hK y) (by rw [hσ2]; exact hS9) (by rw [hσ2]; exact hm) hE Q2 Pw_3 kw_3 Sw_3)
  exact yy_sub [0, 1, 2, 3, 4] rfl (loop (c + 1) c (k_setS σ (k_bs σ c) (S_ch (k_B σ c))) (m_set s 6 (k_bs σ c) (nI (s_ch (k_B σ c) + 1))) _ _ (by omega) hc hch (fun _ _ => rfl) (fun _ => ⟨rfl, rfl⟩) (by rw [k_setS_s]; rfl) rfl rfl R1 Pw_1 kw_1 Sw_1)
set_option maxRecDepth 100000 in
set_option maxHeartbeats 4000000 in
theorem c_M_putIn {l : Launch} {z : State} {a0 : Array Value} {D : va_G} {ca : kca} (X : kcx l z a0 D ca) {a n : Nat} {cd : Int32} {s : ms} {σ : ks} {t : Nat} (I : iv t σ) (R : mr s σ) {c : Nat} (hc : c < k_m σ) {j : Nat} {x v : Int32} {nu vl : Nat → Int32} (hj : j ≤ s_ct (k_B σ c)) (h24 : s_ct (k_B σ c) < 24) (h5 : ¬ k_kb σ c = 5 → ∀ p, p < 24 → upd (ym_up (fun p => s.2 3 (24 * k_bs σ c + p)) j (s_ct (k_B σ c))) j x p = nu p) (h5b : k_kb σ c = 5 → hp (upd (ym_up (fun p => s.2 3 (24 * k_bs σ c + p)) j (s_ct (k_B σ c))) j x) nu (s_ct (k_B σ c) + 1)) (hv : k_kb σ c = 2 ∨ k_kb σ c = 3 ∨ k_kb σ c = 4 → ∀ p, p < 24 → upd (ym_up (fun p => s.2 4 (24 * k_bs σ c + p)) j (s_ct (k_B σ c))) j v p = vl p) : yy_M l z y_M_putIn (.code y_M_putIn b_M_putIn 7 none) ({ frames := 1, cells := 0, slots := 0, locals := 24 }) [.ref a, .int (nI c), .int (nI j), .int x, .int v] (mo_at D ca z a n cd s) (yy_pv (fun H H1 => ∃ s1 : ms, mr s1 (k_thru σ c (s_ct (k_B σ c) + 1, s_ch (k_B σ c) + 1, s_ro (k_B σ c), nu, vl) (fun m => m + 1)) ∧ mo_at D ca z a n cd s1 H1 ∧ kpm a n H H1)) := by
  refine yy_body (plainFor_of_name (by decide)) (Nat.le_of_ble_eq_true rfl) (fun b H F hS hP hH hnm => ?_)
  have h10 := I.m10
  have hb := I.bs hc
  have loop : ∀ (d : Nat) (s1 : ms) (H1 : Heap) (locs : List Loc), j + d ≤ s_ct (k_B σ c) → s1.1 = s.1 ∧ (∀ q, q ≠ 3 → q ≠ 4 → s1.2 q = s.2 q) ∧ s1.2 3 = ym_up (s.2 3) (24 * k_bs σ c + j + d) (24 * k_bs σ c + s_ct (k_B σ c)) ∧ s1.2 4 = ym_up (s.2 4) (24 * k_bs σ c + j + d) (24 * k_bs σ c + s_ct (k_B σ c)) → mo_at D ca z a n cd s1 H1 → kpm a n H H1 → yy_S z H1 locs → yy_Y b H1 locs (0, 0) 23 [(6, .int (nI (24 * k_bs σ c + j + d))), (5, .int (nI (k_bs σ c))), (0, .ref a), (1, .int (nI c)), (2, .int (nI j)), (3, .int x), (4, .int v)] [] := by
    intro d
    induction d with
    | zero =>
      intro s1 H1 locs hd A1 P1 k1 S1
      refine yy_iload F d_M_putIn_23 (n := 25) rfl 0 rfl ?_
      refine yy_bipush (v := 24) F d_M_putIn_25 (n := 27) rfl rfl ?_
      refine yy_iload F d_M_putIn_27 (n := 29) rfl 1 rfl ?_
      refine yy_imul F d_M_putIn_29 (n := 30) rfl ?_
      refine yy_tope (y := (nI (24 * (k_bs σ c)))) (pk_mul 24 _) ?_
      refine yy_iload_n F d_M_putIn_30 (n := 31) rfl 4 rfl ?_
      refine yy_iadd F d_M_putIn_31 (n := 32) rfl ?_
      refine yy_tope (y := (nI (24 * (k_bs σ c) + j))) (nI_add _ _) ?_
      refine yy_ic_le_t (tgt := 73) F d_M_putIn_32 (by decide) (nI_le (by omega) (by omega)) ?_
      refine yy_aload_n F d_M_putIn_73 (n := 74) rfl 2 rfl ?_
      refine yy_get F X.1 X.2.1 g_M_19_M P1.o rfl d_M_putIn_74 (n := 77) rfl ?_
      refine yy_bipush (v := 24) F d_M_putIn_77 (n := 79) rfl rfl ?_
      refine yy_iload F d_M_putIn_79 (n := 81) rfl 1 rfl ?_
      refine yy_imul F d_M_putIn_81 (n := 82) rfl ?_
      refine yy_tope (y := (nI (24 * (k_bs σ c)))) (pk_mul 24 _) ?_
      refine yy_iload_n F d_M_putIn_82 (n := 83) rfl 4 rfl ?_
      refine yy_iadd F d_M_putIn_83 (n := 84) rfl ?_
      refine yy_tope (y := (nI (24 * (k_bs σ c) + j))) (nI_add _ _) ?_
      refine yy_iload_n F d_M_putIn_84 (n := 85) rfl 5 rfl ?_
      refine ma_st (j := 3) (i := (24 * (k_bs σ c) + j)) F X P1 S1 (by decide) (show 24 * (k_bs σ c) + j < 240 by omega) d_M_putIn_85 (n' := 86) rfl (fun Hw_1 locs_w_1 Pw_1 kw_1 Sw_1 => ?_)
      have kw_1 := k1.tr kw_1
      refine yy_aload_n F d_M_putIn_86 (n := 87) rfl 2 rfl ?_
      refine yy_get F X.1 X.2.1 g_M_22_M Pw_1.o rfl d_M_putIn_87 (n := 90) rfl ?_
      refine yy_bipush (v := 24) F d_M_putIn_90 (n := 92) rfl rfl ?_
      refine yy_iload F d_M_putIn_92 (n := 94) rfl 1 rfl ?_
      refine yy_imul F d_M_putIn_94 (n := 95) rfl ?_
      refine yy_tope (y := (nI (24 * (k_bs σ c)))) (pk_mul 24 _) ?_
      refine yy_iload_n F d_M_putIn_95 (n := 96) rfl 4 rfl ?_
      refine yy_iadd F d_M_putIn_96 (n := 97) rfl ?_
      refine yy_tope (y := (nI (24 * (k_bs σ c) + j))) (nI_add _ _) ?_
      refine yy_iload F d_M_putIn_97 (n := 99) rfl 6 rfl ?_
      refine ma_st (j := 4) (i := (24 * (k_bs σ c) + j)) F X Pw_1 Sw_1 (by decide) (show 24 * (k_bs σ c) + j < 240 by omega) d_M_putIn_99 (n' := 100) rfl (fun Hw_2 locs_w_2 Pw_2 kw_2 Sw_2 => ?_)
      have kw_2 := kw_1.tr kw_2
      refine yy_aload_n F d_M_putIn_100 (n := 101) rfl 2 rfl ?_
      refine yy_get F X.1 X.2.1 g_M_25_M Pw_2.o rfl d_M_putIn_101 (n := 104) rfl ?_
      refine yy_iload F d_M_putIn_104 (n := 106) rfl 1 rfl ?_
      refine yy_dup2 F d_M_putIn_106 (n := 107) rfl rfl rfl ?_
      refine ma_ld (j := 5) (i := (k_bs σ c)) F X Pw_2 (by decide) (show k_bs σ c < 10 by omega) d_M_putIn_107 (n' := 108) rfl ?_
      refine yy_tope (y := (nI (s_ct (k_B σ c)))) (by rw [show (m_set (m_set s1 3 (24 * (k_bs σ c) + j) x) 4 (24 * (k_bs σ c) + j) v).2 5 = s.2 5 from A1.2.1 5 (by decide) (by decide)]; exact R.ct I hc) ?_
      refine yy_iconst (v := 1) F d_M_putIn_108 (n := 109) rfl rfl ?_
      refine yy_iadd F d_M_putIn_109 (n := 110) rfl ?_
      refine yy_tope (y := (nI (s_ct (k_B σ c) + 1))) (nI_1 _) ?_
      refine ma_st (j := 5) (i := (k_bs σ c)) F X Pw_2 Sw_2 (by decide) (show k_bs σ c < 10 by omega) d_M_putIn_110 (n' := 111) rfl (fun Hw_3 locs_w_3 Pw_3 kw_3 Sw_3 => ?_)
      have kw_3 := kw_2.tr kw_3
      obtain ⟨q, hq⟩ : ∃ q : kS, q = (s_ct (k_B σ c) + 1, s_ch (k_B σ c), s_ro (k_B σ c), nu, vl) := ⟨_, rfl⟩
      have f3 : (m_set (m_set (m_set s1 3 (24 * (k_bs σ c) + j) x) 4 (24 * (k_bs σ c) + j) v) 5 (k_bs σ c) (nI (s_ct (k_B σ c) + 1))).2 3 = upd (ym_up (s.2 3) (24 * k_bs σ c + j) (24 * k_bs σ c + s_ct (k_B σ c))) (24 * k_bs σ c + j) x := by
        show upd (s1.2 3) _ _ = _
        rw [A1.2.2.1]
        rfl
      have f4 : (m_set (m_set (m_set s1 3 (24 * (k_bs σ c) + j) x) 4 (24 * (k_bs σ c) + j) v) 5 (k_bs σ c) (nI (s_ct (k_B σ c) + 1))).2 4 = upd (ym_up (s.2 4) (24 * k_bs σ c + j) (24 * k_bs σ c + s_ct (k_B σ c))) (24 * k_bs σ c + j) v := by
        show upd (s1.2 4) _ _ = _
        rw [A1.2.2.2]
        rfl
      have f5 : (m_set (m_set (m_set s1 3 (24 * (k_bs σ c) + j) x) 4 (24 * (k_bs σ c) + j) v) 5 (k_bs σ c) (nI (s_ct (k_B σ c) + 1))).2 5 = upd (s.2 5) (k_bs σ c) (nI (s_ct (k_B σ c) + 1)) := by
        show upd (s1.2 5) _ _ = _
        rw [A1.2.1 5 (by decide) (by decide)]
      have g3 : ∀ p, (m_set (m_set (m_set s1 3 (24 * (k_bs σ c) + j) x) 4 (24 * (k_bs σ c) + j) v) 5 (k_bs σ c) (nI (s_ct (k_B σ c) + 1))).2 3 (24 * k_bs σ c + p) = upd (ym_up (fun p => s.2 3 (24 * k_bs σ c + p)) j (s_ct (k_B σ c))) j x p := fun p => by
        rw [f3, upd_in]
        exact congrFun (congrArg (fun f => upd f j x) (funext (fun p => up_in _ _ _ _ p))) p
      have g4 : ∀ p, (m_set (m_set (m_set s1 3 (24 * (k_bs σ c) + j) x) 4 (24 * (k_bs σ c) + j) v) 5 (k_bs σ c) (nI (s_ct (k_B σ c) + 1))).2 4 (24 * k_bs σ c + p) = upd (ym_up (fun p => s.2 4 (24 * k_bs σ c + p)) j (s_ct (k_B σ c))) j v p := fun p => by
        rw [f4, upd_in]
        exact congrFun (congrArg (fun f => upd f j v) (funext (fun p => up_in _ _ _ _ p))) p
      have hR := R.ss I hc
      have R2 : mr (m_set (m_set (m_set s1 3 (24 * (k_bs σ c) + j) x) 4 (24 * (k_bs σ c) + j) v) 5 (k_bs σ c) (nI (s_ct (k_B σ c) + 1))) (k_setS σ (k_bs σ c) q) := by
        refine R.setS (b := k_bs σ c) (I.bs hc) ⟨A1.1, fun q9 hq9 => ?_, fun q9 i hi hq9 => ?_, fun q9 i hi hq9 => ?_⟩ ?_
        · show up1 (up1 (up1 s1.2 3 _) 4 _) 5 _ q9 = _
          rw [up1_o _ _ (by omega), up1_o _ _ (by omega), up1_o _ _ (by omega)]
          exact A1.2.1 q9 (by omega) (by omega)
        · rcases hq9 with rfl | rfl | rfl
          · rw [f5, upd_o _ _ hi]
          · show s1.2 6 i = _
            rw [A1.2.1 6 (by decide) (by decide)]
          · show s1.2 7 i = _
            rw [A1.2.1 7 (by decide) (by decide)]
        · rcases hq9 with rfl | rfl
          · rw [f3, upd_out _ (by omega) hi, up_out _ (by omega) hi]
          · rw [f4, upd_out _ (by omega) hi, up_out _ (by omega) hi]
        · rw [hq]
          refine ⟨⟨?_, ?_, ?_⟩, fun h p hp9 => ?_, fun h => ⟨?_, ?_⟩, fun h p hp9 => ?_⟩
          · rw [f5, upd_s]
          · show s1.2 6 _ = _
            rw [A1.2.1 6 (by decide) (by decide)]
            exact hR.1.2.1
          · show s1.2 7 _ = _
            rw [A1.2.1 7 (by decide) (by decide)]
            exact hR.1.2.2
          · rw [g3]
            exact h5 h p hp9
          · show s_ct (k_B σ c) + 1 ≤ 24
            omega
          · rw [show (fun p => (m_set (m_set (m_set s1 3 (24 * (k_bs σ c) + j) x) 4 (24 * (k_bs σ c) + j) v) 5 (k_bs σ c) (nI (s_ct (k_B σ c) + 1))).2 3 (24 * k_bs σ c + p)) = _ from funext g3]
            exact h5b h
          · rw [g4]
            exact hv h p hp9
      have W2 : wf (k_setS σ (k_bs σ c) q) := I.wf
      refine yy_aload_n F d_M_putIn_111 (n := 112) rfl 2 rfl ?_
      refine yy_iload_n F d_M_putIn_112 (n := 113) rfl 3 rfl ?_
      refine yy_iconst (v := 1) F d_M_putIn_113 (n := 114) rfl rfl ?_
      refine yy_cv F Sw_3 (c_M_changed (σ := k_setS σ (k_bs σ c) q) (c := c) (g := fun m => m + 1) X W2 R2 hc (k_chn_all (fun m => nI_1 m) _ _)) (yy_Bc F X.1 q_979 q_3) (yy_invV (nA := 2) (C := R_M) (bytes := b_M_changed) (maxL := 5) (retY := none) F X.1 q_976 q_978 qs_M_changed q_979 ⟨by decide, by decide, by decide +kernel⟩ (yy_recv F.N X.2.1 (ci := 6) rfl Pw_3.o) rfl d_M_putIn_114) d_M_putIn_114 (n := 117) rfl (by simp [Value.category]) ⟨by decide, by decide⟩ ⟨Nat.zero_le _, Nat.zero_le _⟩ ⟨rfl, rfl⟩ Pw_3 (fun Hw_4 locs_w_4 qw_4 Sw_4 => ?_)
      obtain ⟨s3, Q3, P3, k3⟩ := qw_4
      have e9 : k_bs (k_setS σ (k_bs σ c) q) c = k_bs σ c := rfl
      rw [e9, k_thru_m, hq] at Q3
      exact yy_vret F Sw_4 ⟨Nat.zero_le _, Nat.zero_le _⟩ rfl d_M_putIn_117 (⟨rfl, s3, Q3, P3, kw_3.tr k3⟩)
    | succ d ih =>
      intro s1 H1 locs hd A1 P1 k1 S1
      refine yy_iload F d_M_putIn_23 (n := 25) rfl 0 rfl ?_
      refine yy_bipush (v := 24) F d_M_putIn_25 (n := 27) rfl rfl ?_
      refine yy_iload F d_M_putIn_27 (n := 29) rfl 1 rfl ?_
      refine yy_imul F d_M_putIn_29 (n := 30) rfl ?_
      refine yy_tope (y := (nI (24 * (k_bs σ c)))) (pk_mul 24 _) ?_
      refine yy_iload_n F d_M_putIn_30 (n := 31) rfl 4 rfl ?_
      refine yy_iadd F d_M_putIn_31 (n := 32) rfl ?_
      refine yy_tope (y := (nI (24 * (k_bs σ c) + j))) (nI_add _ _) ?_
      refine yy_ic_le_f (tgt := 73) F d_M_putIn_32 (n := 35) rfl (by decide) (nI_ge (by omega) (by omega)) ?_
      refine yy_aload_n F d_M_putIn_35 (n := 36) rfl 2 rfl ?_
      refine yy_get F X.1 X.2.1 g_M_19_M P1.o rfl d_M_putIn_36 (n := 39) rfl ?_
      refine yy_iload F d_M_putIn_39 (n := 41) rfl 0 rfl ?_
      refine yy_aload_n F d_M_putIn_41 (n := 42) rfl 2 rfl ?_
      refine yy_get F X.1 X.2.1 g_M_19_M P1.o rfl d_M_putIn_42 (n := 45) rfl ?_
      refine yy_iload F d_M_putIn_45 (n := 47) rfl 0 rfl ?_
      refine yy_iconst (v := 1) F d_M_putIn_47 (n := 48) rfl rfl ?_
      refine yy_isub F d_M_putIn_48 (n := 49) rfl ?_
      refine yy_tope (y := (nI (24 * k_bs σ c + j + d))) (nI_pred _) ?_
      refine ma_ld (j := 3) (i := (24 * k_bs σ c + j + d)) F X P1 (by decide) (show 24 * k_bs σ c + j + d < 240 by omega) d_M_putIn_49 (n' := 50) rfl ?_
      refine ma_st (j := 3) (i := (24 * k_bs σ c + j + (d + 1))) F X P1 S1 (by decide) (show 24 * k_bs σ c + j + (d + 1) < 240 by omega) d_M_putIn_50 (n' := 51) rfl (fun Hw_5 locs_w_5 Pw_5 kw_5 Sw_5 => ?_)
      have kw_5 := k1.tr kw_5
      refine yy_aload_n F d_M_putIn_51 (n := 52) rfl 2 rfl ?_
      refine yy_get F X.1 X.2.1 g_M_22_M Pw_5.o rfl d_M_putIn_52 (n := 55) rfl ?_
      refine yy_iload F d_M_putIn_55 (n := 57) rfl 0 rfl ?_
      refine yy_aload_n F d_M_putIn_57 (n := 58) rfl 2 rfl ?_
      refine yy_get F X.1 X.2.1 g_M_22_M Pw_5.o rfl d_M_putIn_58 (n := 61) rfl ?_
      refine yy_iload F d_M_putIn_61 (n := 63) rfl 0 rfl ?_
      refine yy_iconst (v := 1) F d_M_putIn_63 (n := 64) rfl rfl ?_
      refine yy_isub F d_M_putIn_64 (n := 65) rfl ?_
      refine yy_tope (y := (nI (24 * k_bs σ c + j + d))) (nI_pred _) ?_
      refine ma_ld (j := 4) (i := (24 * k_bs σ c + j + d)) F X Pw_5 (by decide) (show 24 * k_bs σ c + j + d < 240 by omega) d_M_putIn_65 (n' := 66) rfl ?_
      refine ma_st (j := 4) (i := (24 * k_bs σ c + j + (d + 1))) F X Pw_5 Sw_5 (by decide) (show 24 * k_bs σ c + j + (d + 1) < 240 by omega) d_M_putIn_66 (n' := 67) rfl (fun Hw_6 locs_w_6 Pw_6 kw_6 Sw_6 => ?_)
      have kw_6 := kw_5.tr kw_6
      obtain ⟨i_7, e_i_7⟩ : ∃ y : Int32, y = (nI (24 * k_bs σ c + j + (d + 1))) + (-1) := ⟨_, rfl⟩
      refine yy_iinc (v := i_7) (lv' := [(6, .int i_7), (5, .int (nI (k_bs σ c))), (0, .ref a), (1, .int (nI c)), (2, .int (nI j)), (3, .int x), (4, .int v)]) F d_M_putIn_67 (n := 70) rfl 0 rfl (by rw [e_i_7]; rfl) (by decide) rfl ?_
      refine yy_goto (tgt := 23) F d_M_putIn_70 (by decide) ?_
      have hl : nI (24 * k_bs σ c + j + (d + 1)) + (-1) = nI (24 * k_bs σ c + j + d) := pk_m1 _
      rw [show i_7 = nI (24 * k_bs σ c + j + d) by rw [e_i_7]; exact hl]
      refine yy_sub [0, 1, 2, 3, 4, 5, 6] rfl (ih (m_set (m_set s1 3 (24 * k_bs σ c + j + (d + 1)) (s1.2 3 (24 * k_bs σ c + j + d))) 4 (24 * k_bs σ c + j + (d + 1)) ((m_set s1 3 (24 * k_bs σ c + j + (d + 1)) (s1.2 3 (24 * k_bs σ c + j + d))).2 4 (24 * k_bs σ c + j + d))) _ _ (by omega) ⟨A1.1, fun q h3 h4 => ?_, ?_, ?_⟩ Pw_6 kw_6 Sw_6)
      · show up1 (up1 s1.2 3 _) 4 _ q = _
        rw [up1_o _ _ h4, up1_o _ _ h3]
        exact A1.2.1 q h3 h4
      · show upd (s1.2 3) _ (s1.2 3 _) = _
        rw [A1.2.2.1]
        exact ym_up_s (i := 24 * k_bs σ c + j + d) _ (by omega)
      · show upd (s1.2 4) _ (s1.2 4 _) = _
        rw [A1.2.2.2]
        exact ym_up_s (i := 24 * k_bs σ c + j + d) _ (by omega)
  refine yy_aload_n F d_M_putIn_0 (n := 1) rfl 0 rfl ?_
  refine yy_get F X.1 X.2.1 g_M_16_M hP.o rfl d_M_putIn_1 (n := 4) rfl ?_
  refine yy_iload_n F d_M_putIn_4 (n := 5) rfl 1 rfl ?_
  refine ma_ld (j := 2) (i := c) F X hP (by decide) (show c < 10 by omega) d_M_putIn_5 (n' := 6) rfl ?_
  refine yy_tope (y := (nI (k_bs σ c))) (R.bs hc) ?_
  refine yy_istore (lv' := [(5, .int (nI (k_bs σ c))), (0, .ref a), (1, .int (nI c)), (2, .int (nI j)), (3, .int x), (4, .int v)]) F d_M_putIn_6 (n := 8) rfl (by decide) rfl ?_
  refine yy_bipush (v := 24) F d_M_putIn_8 (n := 10) rfl rfl ?_
  refine yy_iload F d_M_putIn_10 (n := 12) rfl 0 rfl ?_
  refine yy_imul F d_M_putIn_12 (n := 13) rfl ?_
  refine yy_tope (y := (nI (24 * (k_bs σ c)))) (pk_mul 24 _) ?_
  refine yy_aload_n F d_M_putIn_13 (n := 14) rfl 1 rfl ?_
  refine yy_get F X.1 X.2.1 g_M_25_M hP.o rfl d_M_putIn_14 (n := 17) rfl ?_
  refine yy_iload F d_M_putIn_17 (n := 19) rfl 0 rfl ?_
  refine ma_ld (j := 5) (i := (k_bs σ c)) F X hP (by decide) (show k_bs σ c < 10 by omega) d_M_putIn_19 (n' := 20) rfl ?_
  refine yy_tope (y := (nI (s_ct (k_B σ c)))) (R.ct I hc) ?_
  refine yy_iadd F d_M_putIn_20 (n := 21) rfl ?_
  refine yy_tope (y := (nI (24 * (k_bs σ c) + s_ct (k_B σ c)))) (nI_add _ _) ?_
  have hz : 24 * (k_bs σ c) + s_ct (k_B σ c) = 24 * k_bs σ c + j + (s_ct (k_B σ c) - j) := by omega
  refine yy_tope (y := (nI (24 * k_bs σ c + j + (s_ct (k_B σ c) - j)))) (by rw [hz]) ?_
  refine yy_istore (lv' := [(6, .int (nI (24 * k_bs σ c + j + (s_ct (k_B σ c) - j)))), (5, .int (nI (k_bs σ c))), (0, .ref a), (1, .int (nI c)), (2, .int (nI j)), (3, .int x), (4, .int v)]) F d_M_putIn_21 (n := 23) rfl (by decide) rfl ?_
  have hz2 : 24 * k_bs σ c + j + (s_ct (k_B σ c) - j) = 24 * k_bs σ c + s_ct (k_B σ c) := by omega
  exact yy_sub [0, 1, 2, 3, 4, 5, 6] rfl (loop (s_ct (k_B σ c) - j) s H _ (by omega) ⟨rfl, fun _ _ _ => rfl, by rw [hz2, ym_up_0], by rw [hz2, ym_up_0]⟩ hP kpm.rf hS)
set_option maxRecDepth 100000 in
set_option maxHeartbeats 4000000 in
theorem c_M_takeOut {l : Launch} {z : State} {a0 : Array Value} {D : va_G} {ca : kca} (X : kcx l z a0 D ca) {a n : Nat} {cd : Int32} {s : ms} {σ : ks} {t : Nat} (I : iv t σ) (R : mr s σ) {c : Nat} (hc : c < k_m σ) {j : Nat} {nu vl : Nat → Int32} (hj : j < s_ct (k_B σ c)) (hf : k_fr σ c) (h1 : k_kd σ c = 6 → 1 ≤ k_ln σ c) (h5 : ¬ k_kb σ c = 5 → ∀ p, p < 24 → ym_sh (fun p => s.2 3 (24 * k_bs σ c + p)) j (s_ct (k_B σ c) - 1) p = nu p) (h5b : k_kb σ c = 5 → hp (ym_sh (fun p => s.2 3 (24 * k_bs σ c + p)) j (s_ct (k_B σ c) - 1)) nu (s_ct (k_B σ c) - 1)) (hv : k_kb σ c = 2 ∨ k_kb σ c = 3 ∨ k_kb σ c = 4 → ∀ p, p < 24 → ym_sh (fun p => s.2 4 (24 * k_bs σ c + p)) j (s_ct (k_B σ c) - 1) p = vl p) : yy_M l z y_M_takeOut (.code y_M_takeOut b_M_takeOut 5 none) ({ frames := 1, cells := 0, slots := 0, locals := 24 }) [.ref a, .int (nI c), .int (nI j)] (mo_at D ca z a n cd s) (yy_pv (fun H H1 => ∃ s1 : ms, mr s1 (k_thru σ c (s_ct (k_B σ c) - 1, s_ch (k_B σ c) + 1, s_ro (k_B σ c), nu, vl) (fun m => m - 1)) ∧ mo_at D ca z a n cd s1 H1 ∧ kpm a n H H1)) := by
  refine yy_body (plainFor_of_name (by decide)) (Nat.le_of_ble_eq_true rfl) (fun b H F hS hP hH hnm => ?_)
  have h10 := I.m10
  have hb := I.bs hc
  have h24 := I.ct hc
  refine yy_aload_n F d_M_takeOut_0 (n := 1) rfl 0 rfl ?_
  refine yy_get F X.1 X.2.1 g_M_16_M hP.o rfl d_M_takeOut_1 (n := 4) rfl ?_
  refine yy_iload_n F d_M_takeOut_4 (n := 5) rfl 1 rfl ?_
  refine ma_ld (j := 2) (i := c) F X hP (by decide) (show c < 10 by omega) d_M_takeOut_5 (n' := 6) rfl ?_
  refine yy_tope (y := (nI (k_bs σ c))) (R.bs hc) ?_
  refine yy_istore_n (lv' := [(3, .int (nI (k_bs σ c))), (0, .ref a), (1, .int (nI c)), (2, .int (nI j))]) F d_M_takeOut_6 (n := 7) rfl (by decide) rfl ?_
  refine yy_aload_n F d_M_takeOut_7 (n := 8) rfl 1 rfl ?_
  refine yy_get F X.1 X.2.1 g_M_25_M hP.o rfl d_M_takeOut_8 (n := 11) rfl ?_
  refine yy_iload_n F d_M_takeOut_11 (n := 12) rfl 0 rfl ?_
  refine yy_dup2 F d_M_takeOut_12 (n := 13) rfl rfl rfl ?_
  refine ma_ld (j := 5) (i := (k_bs σ c)) F X hP (by decide) (show k_bs σ c < 10 by omega) d_M_takeOut_13 (n' := 14) rfl ?_
  refine yy_tope (y := (nI (s_ct (k_B σ c)))) (R.ct I hc) ?_
  refine yy_iconst (v := 1) F d_M_takeOut_14 (n := 15) rfl rfl ?_
  refine yy_isub F d_M_takeOut_15 (n := 16) rfl ?_
  refine yy_tope (y := (nI (s_ct (k_B σ c) - 1))) (ym_sub1 (by omega)) ?_
  refine ma_st (j := 5) (i := (k_bs σ c)) F X hP hS (by decide) (show k_bs σ c < 10 by omega) d_M_takeOut_16 (n' := 17) rfl (fun Hw_1 locs_w_1 Pw_1 kw_1 Sw_1 => ?_)
  have kw_1 := kpm.rf.tr kw_1
  have c5 : (m_set s 5 (k_bs σ c) (nI (s_ct (k_B σ c) - 1))).2 5 (k_bs σ c) = nI (s_ct (k_B σ c) - 1) := by
    show upd (s.2 5) _ _ _ = _
    rw [upd_s]
  have loop : ∀ (d i : Nat) (s1 : ms) (H1 : Heap) (locs : List Loc), i + d = s_ct (k_B σ c) - 1 → j ≤ i → s1.1 = s.1 ∧ (∀ q, q ≠ 3 → q ≠ 4 → s1.2 q = (m_set s 5 (k_bs σ c) (nI (s_ct (k_B σ c) - 1))).2 q) ∧ s1.2 3 = ym_sh (s.2 3) (24 * k_bs σ c + j) (24 * k_bs σ c + i) ∧ s1.2 4 = ym_sh (s.2 4) (24 * k_bs σ c + j) (24 * k_bs σ c + i) → mo_at D ca z a n cd s1 H1 → kpm a n H H1 → yy_S z H1 locs → yy_Y b H1 locs (0, 0) 25 [(4, .int (nI (24 * k_bs σ c + i))), (3, .int (nI (k_bs σ c))), (0, .ref a), (1, .int (nI c)), (2, .int (nI j))] [] := by
    intro d
    induction d with
    | zero =>
      intro i s1 H1 locs hd hji A1 P1 k1 S1
      have d5 : s1.2 5 (k_bs σ c) = nI (s_ct (k_B σ c) - 1) := by rw [A1.2.1 5 (by decide) (by decide)]; exact c5
      refine yy_iload F d_M_takeOut_25 (n := 27) rfl 0 rfl ?_
      refine yy_bipush (v := 24) F d_M_takeOut_27 (n := 29) rfl rfl ?_
      refine yy_iload_n F d_M_takeOut_29 (n := 30) rfl 1 rfl ?_
      refine yy_imul F d_M_takeOut_30 (n := 31) rfl ?_
      refine yy_tope (y := (nI (24 * (k_bs σ c)))) (pk_mul 24 _) ?_
      refine yy_aload_n F d_M_takeOut_31 (n := 32) rfl 2 rfl ?_
      refine yy_get F X.1 X.2.1 g_M_25_M P1.o rfl d_M_takeOut_32 (n := 35) rfl ?_
      refine yy_iload_n F d_M_takeOut_35 (n := 36) rfl 1 rfl ?_
      refine ma_ld (j := 5) (i := (k_bs σ c)) F X P1 (by decide) (show k_bs σ c < 10 by omega) d_M_takeOut_36 (n' := 37) rfl ?_
      refine yy_tope (y := (nI (s_ct (k_B σ c) - 1))) d5 ?_
      refine yy_iadd F d_M_takeOut_37 (n := 38) rfl ?_
      refine yy_tope (y := (nI (24 * (k_bs σ c) + (s_ct (k_B σ c) - 1)))) (nI_add _ _) ?_
      refine yy_ic_ge_t (tgt := 79) F d_M_takeOut_38 (by decide) (nI_le (by omega) (by omega)) ?_
      refine yy_aload_n F d_M_takeOut_79 (n := 80) rfl 2 rfl ?_
      refine yy_iload_n F d_M_takeOut_80 (n := 81) rfl 3 rfl ?_
      refine yy_iconst (v := (-1)) F d_M_takeOut_81 (n := 82) rfl rfl ?_
      rw [show i = s_ct (k_B σ c) - 1 by omega] at A1
      obtain ⟨q, hq⟩ : ∃ q : kS, q = (s_ct (k_B σ c) - 1, s_ch (k_B σ c), s_ro (k_B σ c), nu, vl) := ⟨_, rfl⟩
      have g3 : ∀ p, s1.2 3 (24 * k_bs σ c + p) = ym_sh (fun p => s.2 3 (24 * k_bs σ c + p)) j (s_ct (k_B σ c) - 1) p := fun p => by
        rw [A1.2.2.1]
        exact sh_in _ _ _ _ p
      have g4 : ∀ p, s1.2 4 (24 * k_bs σ c + p) = ym_sh (fun p => s.2 4 (24 * k_bs σ c + p)) j (s_ct (k_B σ c) - 1) p := fun p => by
        rw [A1.2.2.2]
        exact sh_in _ _ _ _ p
      have hR := R.ss I hc
      have o : ∀ q9, q9 ≠ 3 → q9 ≠ 4 → q9 ≠ 5 → s1.2 q9 = s.2 q9 := fun q9 a1 a2 a3 => by
        rw [A1.2.1 q9 a1 a2]
        exact up1_o _ _ a3
      have R2 : mr s1 (k_setS σ (k_bs σ c) q) := by
        refine R.setS (b := k_bs σ c) (I.bs hc) ⟨A1.1, fun q9 hq9 => o q9 (by omega) (by omega) (by omega), fun q9 i hi hq9 => ?_, fun q9 i hi hq9 => ?_⟩ ?_
        · rcases hq9 with rfl | rfl | rfl
          · rw [A1.2.1 5 (by decide) (by decide)]
            show upd (s.2 5) _ _ i = _
            rw [upd_o _ _ hi]
          · rw [o 6 (by decide) (by decide) (by decide)]
          · rw [o 7 (by decide) (by decide) (by decide)]
        · rcases hq9 with rfl | rfl
          · rw [A1.2.2.1, sh_out _ (by omega) hi]
          · rw [A1.2.2.2, sh_out _ (by omega) hi]
        · rw [hq]
          refine ⟨⟨d5, ?_, ?_⟩, fun h p hp9 => ?_, fun h => ⟨?_, ?_⟩, fun h p hp9 => ?_⟩
          · rw [o 6 (by decide) (by decide) (by decide)]
            exact hR.1.2.1
          · rw [o 7 (by decide) (by decide) (by decide)]
            exact hR.1.2.2
          · rw [g3]
            exact h5 h p hp9
          · show s_ct (k_B σ c) - 1 ≤ 24
            omega
          · rw [show (fun p => s1.2 3 (24 * k_bs σ c + p)) = _ from funext g3]
            exact h5b h
          · rw [g4]
            exact hv h p hp9
      have W2 : wf (k_setS σ (k_bs σ c) q) := I.wf
      refine yy_cv F S1 (c_M_changed (σ := k_setS σ (k_bs σ c) q) (c := c) (g := fun m => m - 1) X W2 R2 hc ((k_chn_S σ _ _ _ _ _ _).mpr (I.chn _ _ hc hf h1))) (yy_Bc F X.1 q_979 q_3) (yy_invV (nA := 2) (C := R_M) (bytes := b_M_changed) (maxL := 5) (retY := none) F X.1 q_976 q_978 qs_M_changed q_979 ⟨by decide, by decide, by decide +kernel⟩ (yy_recv F.N X.2.1 (ci := 6) rfl P1.o) rfl d_M_takeOut_82) d_M_takeOut_82 (n := 85) rfl (by simp [Value.category]) ⟨by decide, by decide⟩ ⟨Nat.zero_le _, Nat.zero_le _⟩ ⟨rfl, rfl⟩ P1 (fun Hw_2 locs_w_2 qw_2 Sw_2 => ?_)
      obtain ⟨s3, Q3, P3, k3⟩ := qw_2
      have e9 : k_bs (k_setS σ (k_bs σ c) q) c = k_bs σ c := rfl
      rw [e9, k_thru_m, hq] at Q3
      exact yy_vret F Sw_2 ⟨Nat.zero_le _, Nat.zero_le _⟩ rfl d_M_takeOut_85 (⟨rfl, s3, Q3, P3, k1.tr k3⟩)
    | succ d ih =>
      intro i s1 H1 locs hd hji A1 P1 k1 S1
      have d5 : s1.2 5 (k_bs σ c) = nI (s_ct (k_B σ c) - 1) := by rw [A1.2.1 5 (by decide) (by decide)]; exact c5
      refine yy_iload F d_M_takeOut_25 (n := 27) rfl 0 rfl ?_
      refine yy_bipush (v := 24) F d_M_takeOut_27 (n := 29) rfl rfl ?_
      refine yy_iload_n F d_M_takeOut_29 (n := 30) rfl 1 rfl ?_
      refine yy_imul F d_M_takeOut_30 (n := 31) rfl ?_
      refine yy_tope (y := (nI (24 * (k_bs σ c)))) (pk_mul 24 _) ?_
      refine yy_aload_n F d_M_takeOut_31 (n := 32) rfl 2 rfl ?_
      refine yy_get F X.1 X.2.1 g_M_25_M P1.o rfl d_M_takeOut_32 (n := 35) rfl ?_
      refine yy_iload_n F d_M_takeOut_35 (n := 36) rfl 1 rfl ?_
      refine ma_ld (j := 5) (i := (k_bs σ c)) F X P1 (by decide) (show k_bs σ c < 10 by omega) d_M_takeOut_36 (n' := 37) rfl ?_
      refine yy_tope (y := (nI (s_ct (k_B σ c) - 1))) d5 ?_
      refine yy_iadd F d_M_takeOut_37 (n := 38) rfl ?_
      refine yy_tope (y := (nI (24 * (k_bs σ c) + (s_ct (k_B σ c) - 1)))) (nI_add _ _) ?_
      refine yy_ic_ge_f (tgt := 79) F d_M_takeOut_38 (n := 41) rfl (by decide) (nI_ge (by omega) (by omega)) ?_
      refine yy_aload_n F d_M_takeOut_41 (n := 42) rfl 2 rfl ?_
      refine yy_get F X.1 X.2.1 g_M_19_M P1.o rfl d_M_takeOut_42 (n := 45) rfl ?_
      refine yy_iload F d_M_takeOut_45 (n := 47) rfl 0 rfl ?_
      refine yy_aload_n F d_M_takeOut_47 (n := 48) rfl 2 rfl ?_
      refine yy_get F X.1 X.2.1 g_M_19_M P1.o rfl d_M_takeOut_48 (n := 51) rfl ?_
      refine yy_iload F d_M_takeOut_51 (n := 53) rfl 0 rfl ?_
      refine yy_iconst (v := 1) F d_M_takeOut_53 (n := 54) rfl rfl ?_
      refine yy_iadd F d_M_takeOut_54 (n := 55) rfl ?_
      refine yy_tope (y := (nI (24 * k_bs σ c + i + 1))) (nI_1 _) ?_
      refine ma_ld (j := 3) (i := (24 * k_bs σ c + i + 1)) F X P1 (by decide) (show 24 * k_bs σ c + i + 1 < 240 by omega) d_M_takeOut_55 (n' := 56) rfl ?_
      refine ma_st (j := 3) (i := (24 * k_bs σ c + i)) F X P1 S1 (by decide) (show 24 * k_bs σ c + i < 240 by omega) d_M_takeOut_56 (n' := 57) rfl (fun Hw_3 locs_w_3 Pw_3 kw_3 Sw_3 => ?_)
      have kw_3 := k1.tr kw_3
      refine yy_aload_n F d_M_takeOut_57 (n := 58) rfl 2 rfl ?_
      refine yy_get F X.1 X.2.1 g_M_22_M Pw_3.o rfl d_M_takeOut_58 (n := 61) rfl ?_
      refine yy_iload F d_M_takeOut_61 (n := 63) rfl 0 rfl ?_
      refine yy_aload_n F d_M_takeOut_63 (n := 64) rfl 2 rfl ?_
      refine yy_get F X.1 X.2.1 g_M_22_M Pw_3.o rfl d_M_takeOut_64 (n := 67) rfl ?_
      refine yy_iload F d_M_takeOut_67 (n := 69) rfl 0 rfl ?_
      refine yy_iconst (v := 1) F d_M_takeOut_69 (n := 70) rfl rfl ?_
      refine yy_iadd F d_M_takeOut_70 (n := 71) rfl ?_
      refine yy_tope (y := (nI (24 * k_bs σ c + i + 1))) (nI_1 _) ?_
      refine ma_ld (j := 4) (i := (24 * k_bs σ c + i + 1)) F X Pw_3 (by decide) (show 24 * k_bs σ c + i + 1 < 240 by omega) d_M_takeOut_71 (n' := 72) rfl ?_
      refine ma_st (j := 4) (i := (24 * k_bs σ c + i)) F X Pw_3 Sw_3 (by decide) (show 24 * k_bs σ c + i < 240 by omega) d_M_takeOut_72 (n' := 73) rfl (fun Hw_4 locs_w_4 Pw_4 kw_4 Sw_4 => ?_)
      have kw_4 := kw_3.tr kw_4
      refine yy_iinc (v := nI ((24 * k_bs σ c + i) + 1)) (lv' := [(4, .int (nI ((24 * k_bs σ c + i) + 1))), (3, .int (nI (k_bs σ c))), (0, .ref a), (1, .int (nI c)), (2, .int (nI j))]) F d_M_takeOut_73 (n := 76) rfl 0 rfl (nI_1 _) (by decide) rfl ?_
      refine yy_goto (tgt := 25) F d_M_takeOut_76 (by decide) ?_
      refine yy_sub [0, 1, 2, 3, 4] rfl (ih (i + 1) (m_set (m_set s1 3 (24 * k_bs σ c + i) (s1.2 3 (24 * k_bs σ c + i + 1))) 4 (24 * k_bs σ c + i) ((m_set s1 3 (24 * k_bs σ c + i) (s1.2 3 (24 * k_bs σ c + i + 1))).2 4 (24 * k_bs σ c + i + 1))) _ _ (by omega) (by omega) ⟨A1.1, fun q h3 h4 => ?_, ?_, ?_⟩ Pw_4 kw_4 Sw_4)
      · show up1 (up1 s1.2 3 _) 4 _ q = _
        rw [up1_o _ _ h4, up1_o _ _ h3]
        exact A1.2.1 q h3 h4
      · show upd (s1.2 3) _ (s1.2 3 _) = _
        rw [A1.2.2.1]
        exact ym_sh_s _ (by omega)
      · show upd (s1.2 4) _ (s1.2 4 _) = _
        rw [A1.2.2.2]
        exact ym_sh_s _ (by omega)
  refine yy_bipush (v := 24) F d_M_takeOut_17 (n := 19) rfl rfl ?_
  refine yy_iload_n F d_M_takeOut_19 (n := 20) rfl 0 rfl ?_
  refine yy_imul F d_M_takeOut_20 (n := 21) rfl ?_
  refine yy_tope (y := (nI (24 * (k_bs σ c)))) (pk_mul 24 _) ?_
  refine yy_iload_n F d_M_takeOut_21 (n := 22) rfl 3 rfl ?_
  refine yy_iadd F d_M_takeOut_22 (n := 23) rfl ?_
  refine yy_tope (y := (nI (24 * (k_bs σ c) + j))) (nI_add _ _) ?_
  refine yy_istore (lv' := [(4, .int (nI (24 * (k_bs σ c) + j))), (3, .int (nI (k_bs σ c))), (0, .ref a), (1, .int (nI c)), (2, .int (nI j))]) F d_M_takeOut_23 (n := 25) rfl (by decide) rfl ?_
  exact yy_sub [0, 1, 2, 3, 4] rfl (loop (s_ct (k_B σ c) - 1 - j) j (m_set s 5 (k_bs σ c) (nI (s_ct (k_B σ c) - 1))) _ _ (by omega) (Nat.le_refl _) ⟨rfl, fun _ _ _ => rfl, by rw [ym_sh_0]; rfl, by rw [ym_sh_0]; rfl⟩ Pw_1 kw_1 Sw_1)
