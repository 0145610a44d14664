/-! PART S4: what comes into a store -/
/-- a ROW that has no room left gets half of it more -/
def ym_row (kd rm : Int32) (n : Nat) : Int32 := if kd = 0 ∧ ¬ nI n < rm then rm + rm / 2 else rm
/-- a TABLE or RECENT has twice as many buckets, if more than three quarters are used -/
def ym_bkt (kd rm : Int32) (n : Nat) : Int32 := if (kd = 2 ∨ kd = 3) ∧ rm * 3 < nI n * 4 then rm * 2 else rm
set_option maxRecDepth 100000 in
set_option maxHeartbeats 4000000 in
/-- brings a number with a value in at a place -/
theorem c_S_bringIn {l : Launch} {z : State} {a0 : Array Value} {D : va_G} {ca : kca} (X : kcx l z a0 D ca) {a na va n : Nat} {kd rm ch : Int32} {nf vf : Nat → Int32} (hn : n ≤ 24) (ok : st_ok z a na va) {j : Nat} {x v : Int32} (hj : j ≤ n) (h24 : n < 24) : yy_M l z y_S_bringIn (.code y_S_bringIn b_S_bringIn 5 none) ({ frames := 1, cells := 0, slots := 0, locals := 20 }) [.ref a, .int (nI j), .int x, .int v] (fun H => st_at D ca H a na va kd rm ch n nf vf) (yy_pv (fun H H1 => st_at D ca H1 a na va kd (ym_row kd rm n) (ch + 1) (n + 1) (upd (ym_up nf j n) j x) (upd (ym_up vf j n) j v) ∧ kp [a, na, va] H H1)) := by
  refine yy_body (plainFor_of_name (by decide)) (Nat.le_of_ble_eq_true rfl) (fun b H F hS hP hH hnm => ?_)
  have hk0 : kp [a, na, va] H H := kp.rf
  have tail : ∀ (r : Int32) (H1 : Heap) (locs : List Loc), r = ym_row kd rm n → st_at D ca H1 a na va kd r ch n nf vf → kp [a, na, va] H H1 → yy_S z H1 locs → yy_Y b H1 locs (0, 0) 53 [(0, .ref a), (1, .int (nI j)), (2, .int x), (3, .int v)] [] := by
    intro r H0 locs0 hr P0 k0 S0
    subst hr
    have loop : ∀ (d : Nat) (H1 : Heap) (locs : List Loc), j + d ≤ n → st_at D ca H1 a na va kd (ym_row kd rm n) ch n (ym_up nf (j + d) n) (ym_up vf (j + d) n) → kp [a, na, va] H H1 → yy_S z H1 locs → yy_Y b H1 locs (0, 0) 59 [(4, .int (nI (j + d))), (0, .ref a), (1, .int (nI j)), (2, .int x), (3, .int v)] [] := by
      intro d
      induction d with
      | zero =>
        intro H1 locs hd P1 k1 S1
        refine yy_iload F d_S_bringIn_59 (n := 61) rfl 0 rfl ?_
        refine yy_iload_n F d_S_bringIn_61 (n := 62) rfl 2 rfl ?_
        refine yy_ic_le_t (tgt := 103) F d_S_bringIn_62 (by decide) (nI_le (by omega) (by omega)) ?_
        refine yy_aload_n F d_S_bringIn_103 (n := 104) rfl 1 rfl ?_
        refine yy_get F X.1 X.2.1 g_S_9_S P1.1 rfl d_S_bringIn_104 (n := 107) rfl ?_
        refine yy_iload_n F d_S_bringIn_107 (n := 108) rfl 2 rfl ?_
        refine yy_iload_n F d_S_bringIn_108 (n := 109) rfl 3 rfl ?_
        refine sr_num F X  S1 ok P1 k1 (i := j) (by omega) d_S_bringIn_109 (n' := 110) rfl (fun Hw_1 locs_w_1 Pw_1 kw_1 Sw_1 => ?_)
        refine yy_aload_n F d_S_bringIn_110 (n := 111) rfl 1 rfl ?_
        refine yy_get F X.1 X.2.1 g_S_15_S Pw_1.1 rfl d_S_bringIn_111 (n := 114) rfl ?_
        refine yy_iload_n F d_S_bringIn_114 (n := 115) rfl 2 rfl ?_
        refine yy_iload_n F d_S_bringIn_115 (n := 116) rfl 4 rfl ?_
        refine sr_val F X  Sw_1 ok Pw_1 kw_1 (i := j) (by omega) d_S_bringIn_116 (n' := 117) rfl (fun Hw_2 locs_w_2 Pw_2 kw_2 Sw_2 => ?_)
        refine yy_aload_n F d_S_bringIn_117 (n := 118) rfl 1 rfl ?_
        refine yy_dup F d_S_bringIn_118 (n := 119) rfl rfl ?_
        refine yy_get F X.1 X.2.1 g_S_18_S Pw_2.1 rfl d_S_bringIn_119 (n := 122) rfl ?_
        refine yy_iconst (v := 1) F d_S_bringIn_122 (n := 123) rfl rfl ?_
        refine yy_iadd F d_S_bringIn_123 (n := 124) rfl ?_
        refine sr_cnt F X g_S_18_S Sw_2 ok Pw_2 kw_2 (n + 1) (nI_1 _) d_S_bringIn_124 (n' := 127) rfl (fun Hw_3 locs_w_3 Pw_3 kw_3 Sw_3 => ?_)
        refine yy_aload_n F d_S_bringIn_127 (n := 128) rfl 1 rfl ?_
        refine yy_dup F d_S_bringIn_128 (n := 129) rfl rfl ?_
        refine yy_get F X.1 X.2.1 g_S_25_S Pw_3.1 rfl d_S_bringIn_129 (n := 132) rfl ?_
        refine yy_iconst (v := 1) F d_S_bringIn_132 (n := 133) rfl rfl ?_
        refine yy_iadd F d_S_bringIn_133 (n := 134) rfl ?_
        refine sr_chg F X g_S_25_S Sw_3 ok Pw_3 kw_3 d_S_bringIn_134 (n' := 137) rfl (fun Hw_4 locs_w_4 Pw_4 kw_4 Sw_4 => ?_)
        exact yy_vret F Sw_4 ⟨Nat.zero_le _, Nat.zero_le _⟩ rfl d_S_bringIn_137 (⟨rfl, Pw_4, kw_4⟩)
      | succ d ih =>
        intro H1 locs hd P1 k1 S1
        show yy_Y b H1 locs (0, 0) 59 [(4, .int (nI (j + d + 1))), (0, .ref a), (1, .int (nI j)), (2, .int x), (3, .int v)] []
        refine yy_iload F d_S_bringIn_59 (n := 61) rfl 0 rfl ?_
        refine yy_iload_n F d_S_bringIn_61 (n := 62) rfl 2 rfl ?_
        refine yy_ic_le_f (tgt := 103) F d_S_bringIn_62 (n := 65) rfl (by decide) (nI_ge (by omega) (by omega)) ?_
        refine yy_aload_n F d_S_bringIn_65 (n := 66) rfl 1 rfl ?_
        refine yy_get F X.1 X.2.1 g_S_9_S P1.1 rfl d_S_bringIn_66 (n := 69) rfl ?_
        refine yy_iload F d_S_bringIn_69 (n := 71) rfl 0 rfl ?_
        refine yy_aload_n F d_S_bringIn_71 (n := 72) rfl 1 rfl ?_
        refine yy_get F X.1 X.2.1 g_S_9_S P1.1 rfl d_S_bringIn_72 (n := 75) rfl ?_
        refine yy_iload F d_S_bringIn_75 (n := 77) rfl 0 rfl ?_
        refine yy_iconst (v := 1) F d_S_bringIn_77 (n := 78) rfl rfl ?_
        refine yy_isub F d_S_bringIn_78 (n := 79) rfl ?_
        refine yy_tope (y := (nI (j + d))) (nI_pred _) ?_
        refine sr_ald (i := (j + d)) F X P1.2.1 (by decide) (by omega) d_S_bringIn_79 (n' := 80) rfl ?_
        refine sr_num F X  S1 ok P1 k1 (i := j + d + 1) (by omega) d_S_bringIn_80 (n' := 81) rfl (fun Hw_5 locs_w_5 Pw_5 kw_5 Sw_5 => ?_)
        refine yy_aload_n F d_S_bringIn_81 (n := 82) rfl 1 rfl ?_
        refine yy_get F X.1 X.2.1 g_S_15_S Pw_5.1 rfl d_S_bringIn_82 (n := 85) rfl ?_
        refine yy_iload F d_S_bringIn_85 (n := 87) rfl 0 rfl ?_
        refine yy_aload_n F d_S_bringIn_87 (n := 88) rfl 1 rfl ?_
        refine yy_get F X.1 X.2.1 g_S_15_S Pw_5.1 rfl d_S_bringIn_88 (n := 91) rfl ?_
        refine yy_iload F d_S_bringIn_91 (n := 93) rfl 0 rfl ?_
        refine yy_iconst (v := 1) F d_S_bringIn_93 (n := 94) rfl rfl ?_
        refine yy_isub F d_S_bringIn_94 (n := 95) rfl ?_
        refine yy_tope (y := (nI (j + d))) (nI_pred _) ?_
        refine sr_ald (i := (j + d)) F X Pw_5.2.2 (by decide) (by omega) d_S_bringIn_95 (n' := 96) rfl ?_
        refine sr_val F X  Sw_5 ok Pw_5 kw_5 (i := j + d + 1) (by omega) d_S_bringIn_96 (n' := 97) rfl (fun Hw_6 locs_w_6 Pw_6 kw_6 Sw_6 => ?_)
        refine yy_iinc (v := nI (j + d)) (lv' := [(4, .int (nI (j + d))), (0, .ref a), (1, .int (nI j)), (2, .int x), (3, .int v)]) F d_S_bringIn_97 (n := 100) rfl 0 rfl (pk_m1 _) (by decide) rfl ?_
        refine yy_goto (tgt := 59) F d_S_bringIn_100 (by decide) ?_
        exact yy_sub [0, 1, 2, 3, 4] rfl (ih _ _ (by omega) (by rw [← ym_up_s nf (show j + d + 1 ≤ n by omega), ← ym_up_s vf (show j + d + 1 ≤ n by omega)]; exact Pw_6) kw_6 Sw_6)
    refine yy_aload_n F d_S_bringIn_53 (n := 54) rfl 0 rfl ?_
    refine yy_get F X.1 X.2.1 g_S_18_S P0.1 rfl d_S_bringIn_54 (n := 57) rfl ?_
    refine yy_istore (lv' := [(4, .int (nI n)), (0, .ref a), (1, .int (nI j)), (2, .int x), (3, .int v)]) F d_S_bringIn_57 (n := 59) rfl (by decide) rfl ?_
    have h9 := loop (n - j) H0 locs0 (by omega) (by rw [show j + (n - j) = n by omega, ym_up_0, ym_up_0]; exact P0) k0 S0
    rw [show j + (n - j) = n by omega] at h9
    exact h9
  refine yy_aload_n F d_S_bringIn_0 (n := 1) rfl 0 rfl ?_
  refine yy_cri (w := 0) F hS (c_S_isFull X hn) (yy_Bc F X.1 q_498 q_11) (yy_invV (nA := 0) (C := R_S) (bytes := b_S_isFull) (maxL := 1) (retY := (some .boolean)) F X.1 q_512 q_496 q_497 q_498 ⟨by decide, by decide, by decide +kernel⟩ (yy_recv F.N X.2.1 (ci := 0) rfl hP.1) rfl d_S_bringIn_1) d_S_bringIn_1 (n := 4) rfl (by simp [Value.category]) ⟨by decide, by decide⟩ ⟨Nat.le_refl _, Nat.le_refl _⟩ ⟨rfl, rfl⟩ hP (ym_nf (decide_eq_false (by omega))) (fun _ hS_7 => ?_)
  refine yy_if_ne_f (tgt := 19) F d_S_bringIn_4 (n := 7) rfl (by decide) rfl ?_
  refine yy_iload_n F d_S_bringIn_7 (n := 8) rfl 1 rfl ?_
  refine yy_if_lt_f (tgt := 19) F d_S_bringIn_8 (n := 11) rfl (by decide) (nI_pos (by omega)) ?_
  refine yy_iload_n F d_S_bringIn_11 (n := 12) rfl 1 rfl ?_
  refine yy_aload_n F d_S_bringIn_12 (n := 13) rfl 0 rfl ?_
  refine yy_get F X.1 X.2.1 g_S_18_S hP.1 rfl d_S_bringIn_13 (n := 16) rfl ?_
  refine yy_ic_le_t (tgt := 20) F d_S_bringIn_16 (by decide) (nI_le hj (by omega)) ?_
  refine yy_aload_n F d_S_bringIn_20 (n := 21) rfl 0 rfl ?_
  refine yy_get F X.1 X.2.1 g_S_28_S hP.1 rfl d_S_bringIn_21 (n := 24) rfl ?_
  refine yy_if_ne (tgt := 53) F d_S_bringIn_24 (n := 27) rfl (by decide) (fun h1 => ?_) (fun h1 => ?_)
  · exact tail rm H _ (by unfold ym_row; rw [if_neg (fun q => h1 q.1)]) hP hk0 hS_7
  · refine yy_aload_n F d_S_bringIn_27 (n := 28) rfl 0 rfl ?_
    refine yy_get F X.1 X.2.1 g_S_18_S hP.1 rfl d_S_bringIn_28 (n := 31) rfl ?_
    refine yy_aload_n F d_S_bringIn_31 (n := 32) rfl 0 rfl ?_
    refine yy_get F X.1 X.2.1 g_S_22_S hP.1 rfl d_S_bringIn_32 (n := 35) rfl ?_
    refine yy_ic_lt (tgt := 53) F d_S_bringIn_35 (n := 38) rfl (by decide) (fun h2 => ?_) (fun h2 => ?_)
    · exact tail rm H _ (by unfold ym_row; rw [if_neg (fun q => q.2 h2)]) hP hk0 hS_7
    · refine yy_aload_n F d_S_bringIn_38 (n := 39) rfl 0 rfl ?_
      refine yy_dup F d_S_bringIn_39 (n := 40) rfl rfl ?_
      refine yy_get F X.1 X.2.1 g_S_22_S hP.1 rfl d_S_bringIn_40 (n := 43) rfl ?_
      refine yy_aload_n F d_S_bringIn_43 (n := 44) rfl 0 rfl ?_
      refine yy_get F X.1 X.2.1 g_S_22_S hP.1 rfl d_S_bringIn_44 (n := 47) rfl ?_
      refine yy_iconst (v := 2) F d_S_bringIn_47 (n := 48) rfl rfl ?_
      refine yy_idiv F d_S_bringIn_48 (n := 49) rfl (by decide) ?_
      refine yy_iadd F d_S_bringIn_49 (n := 50) rfl ?_
      refine sr_room F X g_S_22_S hS_7 ok hP hk0 d_S_bringIn_50 (n' := 53) rfl (fun Hw_8 locs_w_8 Pw_8 kw_8 Sw_8 => ?_)
      exact tail (rm + rm / 2) _ _ (by unfold ym_row; rw [if_pos ⟨h1, h2⟩]) Pw_8 kw_8 Sw_8
set_option maxRecDepth 100000 in
set_option maxHeartbeats 4000000 in
/-- a key of no RECENT, or not there, or the last: nothing changes -/
theorem c_S_noteUse_no {l : Launch} {z : State} {a0 : Array Value} {D : va_G} {ca : kca} (X : kcx l z a0 D ca) {a na va n : Nat} {kd rm ch : Int32} {nf vf : Nat → Int32} (hn : n ≤ 24) (ok : st_ok z a na va) {key : Int32} (hno : kd = 3 → ym_find nf key n = -1 ∨ ym_find nf key n = nI n - 1) : yy_M l z y_S_noteUse (.code y_S_noteUse b_S_noteUse 4 none) ({ frames := 1, cells := 0, slots := 0, locals := 22 }) [.ref a, .int key] (fun H => st_at D ca H a na va kd rm ch n nf vf) (yy_pv (fun H H1 => st_at D ca H1 a na va kd rm ch n nf vf ∧ kp [a, na, va] H H1)) := by
  refine yy_body (plainFor_of_name (by decide)) (Nat.le_of_ble_eq_true rfl) (fun b H F hS hP hH hnm => ?_)
  have hk0 : kp [a, na, va] H H := kp.rf
  refine yy_aload_n F d_S_noteUse_0 (n := 1) rfl 0 rfl ?_
  refine yy_iload_n F d_S_noteUse_1 (n := 2) rfl 1 rfl ?_
  refine yy_cri (w := (ym_find nf key n)) F hS (c_S_placeOf (key := key) X hn) (yy_Bc F X.1 q_619 q_11) (yy_invV (nA := 1) (C := R_S) (bytes := b_S_placeOf) (maxL := 3) (retY := (some .int)) F X.1 q_624 q_617 q_618 q_619 ⟨by decide, by decide, by decide +kernel⟩ (yy_recv F.N X.2.1 (ci := 0) rfl hP.1) rfl d_S_noteUse_2) d_S_noteUse_2 (n := 5) rfl (by simp [Value.category]) ⟨by decide, by decide⟩ ⟨Nat.le_refl _, Nat.le_refl _⟩ ⟨rfl, rfl⟩ hP rfl (fun _ hS_1 => ?_)
  refine yy_istore_n (lv' := [(2, .int (ym_find nf key n)), (0, .ref a), (1, .int key)]) F d_S_noteUse_5 (n := 6) rfl (by decide) rfl ?_
  refine yy_aload_n F d_S_noteUse_6 (n := 7) rfl 1 rfl ?_
  refine yy_get F X.1 X.2.1 g_S_28_S hP.1 rfl d_S_noteUse_7 (n := 10) rfl ?_
  refine yy_iconst (v := 3) F d_S_noteUse_10 (n := 11) rfl rfl ?_
  refine yy_ic_ne (tgt := 29) F d_S_noteUse_11 (n := 14) rfl (by decide) (fun h1 => ?_) (fun h1 => ?_)
  · exact yy_vret F hS_1 ⟨Nat.zero_le _, Nat.zero_le _⟩ rfl d_S_noteUse_29 (⟨rfl, hP, hk0⟩)
  · refine yy_iload_n F d_S_noteUse_14 (n := 15) rfl 0 rfl ?_
    refine yy_iconst (v := (-1)) F d_S_noteUse_15 (n := 16) rfl rfl ?_
    refine yy_ic_eq (tgt := 29) F d_S_noteUse_16 (n := 19) rfl (by decide) (fun h2 => ?_) (fun h2 => ?_)
    · exact yy_vret F hS_1 ⟨Nat.zero_le _, Nat.zero_le _⟩ rfl d_S_noteUse_29 (⟨rfl, hP, hk0⟩)
    · refine yy_iload_n F d_S_noteUse_19 (n := 20) rfl 0 rfl ?_
      refine yy_aload_n F d_S_noteUse_20 (n := 21) rfl 1 rfl ?_
      refine yy_get F X.1 X.2.1 g_S_18_S hP.1 rfl d_S_noteUse_21 (n := 24) rfl ?_
      refine yy_iconst (v := 1) F d_S_noteUse_24 (n := 25) rfl rfl ?_
      refine yy_isub F d_S_noteUse_25 (n := 26) rfl ?_
      refine yy_ic_ne (tgt := 30) F d_S_noteUse_26 (n := 29) rfl (by decide) (fun h3 => ?_) (fun h3 => ?_)
      · exact absurd ((hno h1).resolve_left h2) h3
      · exact yy_vret F hS_1 ⟨Nat.zero_le _, Nat.zero_le _⟩ rfl d_S_noteUse_29 (⟨rfl, hP, hk0⟩)
set_option maxRecDepth 100000 in
set_option maxHeartbeats 4000000 in
/-- a key of a RECENT that is not the last becomes it -/
theorem c_S_noteUse {l : Launch} {z : State} {a0 : Array Value} {D : va_G} {ca : kca} (X : kcx l z a0 D ca) {a na va n : Nat} {kd rm ch : Int32} {nf vf : Nat → Int32} (hn : n ≤ 24) (ok : st_ok z a na va) {key : Int32} {j : Nat} (hkd : kd = 3) (hf : ym_find nf key n = nI j) (hj : j + 1 < n) : yy_M l z y_S_noteUse (.code y_S_noteUse b_S_noteUse 4 none) ({ frames := 1, cells := 0, slots := 0, locals := 22 }) [.ref a, .int key] (fun H => st_at D ca H a na va kd rm ch n nf vf) (yy_pv (fun H H1 => st_at D ca H1 a na va kd rm (ch + 1) n (upd (ym_sh nf j (n - 1)) (n - 1) key) (upd (ym_sh vf j (n - 1)) (n - 1) (vf j)) ∧ kp [a, na, va] H H1)) := by
  refine yy_body (plainFor_of_name (by decide)) (Nat.le_of_ble_eq_true rfl) (fun b H F hS hP hH hnm => ?_)
  have hk0 : kp [a, na, va] H H := kp.rf
  refine yy_aload_n F d_S_noteUse_0 (n := 1) rfl 0 rfl ?_
  refine yy_iload_n F d_S_noteUse_1 (n := 2) rfl 1 rfl ?_
  refine yy_cri (w := (nI j)) F hS (c_S_placeOf (key := key) X hn) (yy_Bc F X.1 q_619 q_11) (yy_invV (nA := 1) (C := R_S) (bytes := b_S_placeOf) (maxL := 3) (retY := (some .int)) F X.1 q_624 q_617 q_618 q_619 ⟨by decide, by decide, by decide +kernel⟩ (yy_recv F.N X.2.1 (ci := 0) rfl hP.1) rfl d_S_noteUse_2) d_S_noteUse_2 (n := 5) rfl (by simp [Value.category]) ⟨by decide, by decide⟩ ⟨Nat.le_refl _, Nat.le_refl _⟩ ⟨rfl, rfl⟩ hP hf (fun _ hS_1 => ?_)
  refine yy_istore_n (lv' := [(2, .int (nI j)), (0, .ref a), (1, .int key)]) F d_S_noteUse_5 (n := 6) rfl (by decide) rfl ?_
  refine yy_aload_n F d_S_noteUse_6 (n := 7) rfl 1 rfl ?_
  refine yy_get F X.1 X.2.1 g_S_28_S hP.1 rfl d_S_noteUse_7 (n := 10) rfl ?_
  refine yy_iconst (v := 3) F d_S_noteUse_10 (n := 11) rfl rfl ?_
  refine yy_ic_ne_f (tgt := 29) F d_S_noteUse_11 (n := 14) rfl (by decide) hkd ?_
  refine yy_iload_n F d_S_noteUse_14 (n := 15) rfl 0 rfl ?_
  refine yy_iconst (v := (-1)) F d_S_noteUse_15 (n := 16) rfl rfl ?_
  refine yy_ic_eq_f (tgt := 29) F d_S_noteUse_16 (n := 19) rfl (by decide) (ym_nm1 (by omega)) ?_
  refine yy_iload_n F d_S_noteUse_19 (n := 20) rfl 0 rfl ?_
  refine yy_aload_n F d_S_noteUse_20 (n := 21) rfl 1 rfl ?_
  refine yy_get F X.1 X.2.1 g_S_18_S hP.1 rfl d_S_noteUse_21 (n := 24) rfl ?_
  refine yy_iconst (v := 1) F d_S_noteUse_24 (n := 25) rfl rfl ?_
  refine yy_isub F d_S_noteUse_25 (n := 26) rfl ?_
  refine yy_tope (y := (nI (n - 1))) (ym_sub1 (by omega)) ?_
  refine yy_ic_ne_t (tgt := 30) F d_S_noteUse_26 (by decide) (fun q => by have := (nI_eq (by omega) (by omega)).mp q; omega) ?_
  refine yy_aload_n F d_S_noteUse_30 (n := 31) rfl 1 rfl ?_
  refine yy_get F X.1 X.2.1 g_S_15_S hP.1 rfl d_S_noteUse_31 (n := 34) rfl ?_
  refine yy_iload_n F d_S_noteUse_34 (n := 35) rfl 0 rfl ?_
  refine sr_ald (i := j) F X hP.2.2 (by decide) (by omega) d_S_noteUse_35 (n' := 36) rfl ?_
  refine yy_istore_n (lv' := [(3, .int (vf j)), (2, .int (nI j)), (0, .ref a), (1, .int key)]) F d_S_noteUse_36 (n := 37) rfl (by decide) rfl ?_
  refine yy_aload_n F d_S_noteUse_37 (n := 38) rfl 2 rfl ?_
  refine yy_iload_n F d_S_noteUse_38 (n := 39) rfl 1 rfl ?_
  refine yy_cv F hS_1 (c_S_closeGap X hn ok (show j < n by omega)) (yy_Bc F X.1 q_543 q_11) (yy_invV (nA := 1) (C := R_S) (bytes := b_S_closeGap) (maxL := 3) (retY := none) F X.1 q_540 q_542 qs_S_closeGap q_543 ⟨by decide, by decide, by decide +kernel⟩ (yy_recv F.N X.2.1 (ci := 0) rfl hP.1) rfl d_S_noteUse_39) d_S_noteUse_39 (n := 42) rfl (by simp [Value.category]) ⟨by decide, by decide⟩ ⟨Nat.le_refl _, Nat.le_refl _⟩ ⟨rfl, rfl⟩ hP (fun Hw_2 locs_w_2 qw_2 Sw_2 => ?_)
  obtain ⟨Pw_2, kw_2⟩ := qw_2
  have kw_2 := hk0.tr kw_2
  refine yy_aload_n F d_S_noteUse_42 (n := 43) rfl 2 rfl ?_
  refine yy_get F X.1 X.2.1 g_S_9_S Pw_2.1 rfl d_S_noteUse_43 (n := 46) rfl ?_
  refine yy_aload_n F d_S_noteUse_46 (n := 47) rfl 2 rfl ?_
  refine yy_get F X.1 X.2.1 g_S_18_S Pw_2.1 rfl d_S_noteUse_47 (n := 50) rfl ?_
  refine yy_iconst (v := 1) F d_S_noteUse_50 (n := 51) rfl rfl ?_
  refine yy_isub F d_S_noteUse_51 (n := 52) rfl ?_
  refine yy_tope (y := (nI (n - 1))) (ym_sub1 (by omega)) ?_
  refine yy_iload_n F d_S_noteUse_52 (n := 53) rfl 3 rfl ?_
  refine sr_num F X  Sw_2 ok Pw_2 kw_2 (i := n - 1) (by omega) d_S_noteUse_53 (n' := 54) rfl (fun Hw_3 locs_w_3 Pw_3 kw_3 Sw_3 => ?_)
  refine yy_aload_n F d_S_noteUse_54 (n := 55) rfl 2 rfl ?_
  refine yy_get F X.1 X.2.1 g_S_15_S Pw_3.1 rfl d_S_noteUse_55 (n := 58) rfl ?_
  refine yy_aload_n F d_S_noteUse_58 (n := 59) rfl 2 rfl ?_
  refine yy_get F X.1 X.2.1 g_S_18_S Pw_3.1 rfl d_S_noteUse_59 (n := 62) rfl ?_
  refine yy_iconst (v := 1) F d_S_noteUse_62 (n := 63) rfl rfl ?_
  refine yy_isub F d_S_noteUse_63 (n := 64) rfl ?_
  refine yy_tope (y := (nI (n - 1))) (ym_sub1 (by omega)) ?_
  refine yy_iload_n F d_S_noteUse_64 (n := 65) rfl 0 rfl ?_
  refine sr_val F X  Sw_3 ok Pw_3 kw_3 (i := n - 1) (by omega) d_S_noteUse_65 (n' := 66) rfl (fun Hw_4 locs_w_4 Pw_4 kw_4 Sw_4 => ?_)
  refine yy_aload_n F d_S_noteUse_66 (n := 67) rfl 2 rfl ?_
  refine yy_dup F d_S_noteUse_67 (n := 68) rfl rfl ?_
  refine yy_get F X.1 X.2.1 g_S_25_S Pw_4.1 rfl d_S_noteUse_68 (n := 71) rfl ?_
  refine yy_iconst (v := 1) F d_S_noteUse_71 (n := 72) rfl rfl ?_
  refine yy_iadd F d_S_noteUse_72 (n := 73) rfl ?_
  refine sr_chg F X g_S_25_S Sw_4 ok Pw_4 kw_4 d_S_noteUse_73 (n' := 76) rfl (fun Hw_5 locs_w_5 Pw_5 kw_5 Sw_5 => ?_)
  exact yy_vret F Sw_5 ⟨Nat.zero_le _, Nat.zero_le _⟩ rfl d_S_noteUse_76 (⟨rfl, Pw_5, kw_5⟩)
