/-! PART N1: constructors -/
set_option maxRecDepth 100000 in
set_option maxHeartbeats 4000000 in
theorem c_S_init {l : Launch} {z : State} {a0 : Array Value} {D : va_G} {ca : kca} (X : kcx l z a0 D ca) {a : Nat} (ha : z.heap.size ≤ a) {kd : Int32} : yy_M l z y_S_init (.code y_S_init b_S_init 2 none) ({ frames := 1, cells := 2, slots := 48, locals := 14 }) [.ref a, .int kd] (fun H => va_at D kcl (a, .inr (0, [.int 0, .null, .null, .int 0, .int 0, .int 0])) H) (yy_pv (fun H H1 => st_at D ca H1 a H.size (H.size + 1) kd 4 0 0 (fun _ => 0) (fun _ => 0) ∧ H1.size = H.size + 2 ∧ ∀ q, q < H.size → q ≠ a → H1[q]? = H[q]?)) := by
  refine yy_body (plainFor_of_name (by decide)) (Nat.le_of_ble_eq_true rfl) (fun b H F hS hP hH hnm => ?_)
  have lta : a < H.size := va_at.lt hP
  refine yy_aload_n F d_S_init_0 (n := 1) rfl 0 rfl ?_
  refine yy_obj0 F X.1 q_174 q_24 q_25 ⟨by decide, by decide⟩ d_S_init_1 (n := 4) rfl ?_
  refine yy_aload_n F d_S_init_4 (n := 5) rfl 0 rfl ?_
  refine yy_bipush (v := 24) F d_S_init_5 (n := 7) rfl rfl ?_
  refine yy_newi F X.1 X.2.1 0 rfl q_198 hS (by decide) (N := 24) rfl (by decide) ⟨by decide, by decide⟩ d_S_init_7 (n := 9) rfl (fun Hn_1 On_1 zn_1 on_1 Sn_1 => ?_)
  have O_2 : va_at D kcl (a, .inr (0, [.int 0, .null, .null, .int 0, .int 0, .int 0])) Hn_1 := va_at.kept hP (on_1 _ (va_at.lt hP))
  refine yy_putF F X.1 X.2.1 g_S_9_S gt_S (fun C T N h => by cases h; exact ⟨rfl, rfl⟩) (hnm _ rfl) (fun C T N h => by cases h; exact q_176) Sn_1 ha O_2 rfl rfl (Nat.le_of_ble_eq_true rfl) d_S_init_9 (n := 12) rfl (fun Hp_3 locs_p_3 Op_3 ep_3 fp_3 Sp_3 => ?_)
  have O_4 : va_at D kcl (H.size, .inl (ca.1, 24, .inl (fun _ => 0))) Hp_3 := va_at.kept On_1 (fp_3 _ (by omega))
  have Op_3 : va_at D kcl (a, .inr (0, [.int 0, .ref H.size, .null, .int 0, .int 0, .int 0])) Hp_3 := Op_3
  refine yy_aload_n F d_S_init_12 (n := 13) rfl 0 rfl ?_
  refine yy_bipush (v := 24) F d_S_init_13 (n := 15) rfl rfl ?_
  refine yy_newi F X.1 X.2.1 0 rfl q_198 Sp_3 (by decide) (N := 24) rfl (by decide) ⟨by decide, by decide⟩ d_S_init_15 (n := 17) rfl (fun Hn_5 On_5 zn_5 on_5 Sn_5 => ?_)
  have O_6 : va_at D kcl (H.size, .inl (ca.1, 24, .inl (fun _ => 0))) Hn_5 := va_at.kept O_4 (on_5 _ (va_at.lt O_4))
  have O_7 : va_at D kcl (a, .inr (0, [.int 0, .ref H.size, .null, .int 0, .int 0, .int 0])) Hn_5 := va_at.kept Op_3 (on_5 _ (va_at.lt Op_3))
  have hn2 : Hp_3.size = H.size + 1 := by omega
  refine yy_putF F X.1 X.2.1 g_S_15_S gt_S (fun C T N h => by cases h; exact ⟨rfl, rfl⟩) (hnm _ rfl) (fun C T N h => by cases h; exact q_177) Sn_5 ha O_7 rfl rfl (Nat.le_of_ble_eq_true rfl) d_S_init_17 (n := 20) rfl (fun Hp_8 locs_p_8 Op_8 ep_8 fp_8 Sp_8 => ?_)
  have O_9 : va_at D kcl (H.size, .inl (ca.1, 24, .inl (fun _ => 0))) Hp_8 := va_at.kept O_6 (fp_8 _ (by omega))
  have O_10 : va_at D kcl (Hp_3.size, .inl (ca.1, 24, .inl (fun _ => 0))) Hp_8 := va_at.kept On_5 (fp_8 _ (by omega))
  have Op_8 : va_at D kcl (a, .inr (0, [.int 0, .ref H.size, .ref Hp_3.size, .int 0, .int 0, .int 0])) Hp_8 := Op_8
  refine yy_aload_n F d_S_init_20 (n := 21) rfl 0 rfl ?_
  refine yy_iconst (v := 0) F d_S_init_21 (n := 22) rfl rfl ?_
  refine yy_put F X.1 X.2.1 g_S_18_S gt_S (fun C T N h => by cases h; rfl) Sp_8 ha Op_8 rfl rfl (Nat.le_of_ble_eq_true rfl) d_S_init_22 (n := 25) rfl (fun Hp_11 locs_p_11 Op_11 ep_11 fp_11 Sp_11 => ?_)
  have O_12 : va_at D kcl (H.size, .inl (ca.1, 24, .inl (fun _ => 0))) Hp_11 := va_at.kept O_9 (fp_11 _ (by omega))
  have O_13 : va_at D kcl (Hp_3.size, .inl (ca.1, 24, .inl (fun _ => 0))) Hp_11 := va_at.kept O_10 (fp_11 _ (by omega))
  have Op_11 : va_at D kcl (a, .inr (0, [.int 0, .ref H.size, .ref Hp_3.size, .int 0, .int 0, .int 0])) Hp_11 := Op_11
  refine yy_aload_n F d_S_init_25 (n := 26) rfl 0 rfl ?_
  refine yy_iconst (v := 4) F d_S_init_26 (n := 27) rfl rfl ?_
  refine yy_put F X.1 X.2.1 g_S_22_S gt_S (fun C T N h => by cases h; rfl) Sp_11 ha Op_11 rfl rfl (Nat.le_of_ble_eq_true rfl) d_S_init_27 (n := 30) rfl (fun Hp_14 locs_p_14 Op_14 ep_14 fp_14 Sp_14 => ?_)
  have O_15 : va_at D kcl (H.size, .inl (ca.1, 24, .inl (fun _ => 0))) Hp_14 := va_at.kept O_12 (fp_14 _ (by omega))
  have O_16 : va_at D kcl (Hp_3.size, .inl (ca.1, 24, .inl (fun _ => 0))) Hp_14 := va_at.kept O_13 (fp_14 _ (by omega))
  have Op_14 : va_at D kcl (a, .inr (0, [.int 0, .ref H.size, .ref Hp_3.size, .int 0, .int 4, .int 0])) Hp_14 := Op_14
  refine yy_aload_n F d_S_init_30 (n := 31) rfl 0 rfl ?_
  refine yy_iconst (v := 0) F d_S_init_31 (n := 32) rfl rfl ?_
  refine yy_put F X.1 X.2.1 g_S_25_S gt_S (fun C T N h => by cases h; rfl) Sp_14 ha Op_14 rfl rfl (Nat.le_of_ble_eq_true rfl) d_S_init_32 (n := 35) rfl (fun Hp_17 locs_p_17 Op_17 ep_17 fp_17 Sp_17 => ?_)
  have O_18 : va_at D kcl (H.size, .inl (ca.1, 24, .inl (fun _ => 0))) Hp_17 := va_at.kept O_15 (fp_17 _ (by omega))
  have O_19 : va_at D kcl (Hp_3.size, .inl (ca.1, 24, .inl (fun _ => 0))) Hp_17 := va_at.kept O_16 (fp_17 _ (by omega))
  have Op_17 : va_at D kcl (a, .inr (0, [.int 0, .ref H.size, .ref Hp_3.size, .int 0, .int 4, .int 0])) Hp_17 := Op_17
  refine yy_aload_n F d_S_init_35 (n := 36) rfl 0 rfl ?_
  refine yy_iload_n F d_S_init_36 (n := 37) rfl 1 rfl ?_
  refine yy_putF F X.1 X.2.1 g_S_28_S gt_S (fun C T N h => by cases h; exact ⟨rfl, rfl⟩) (hnm _ rfl) (fun C T N h => by cases h; exact q_175) Sp_17 ha Op_17 rfl rfl (Nat.le_of_ble_eq_true rfl) d_S_init_37 (n := 40) rfl (fun Hp_20 locs_p_20 Op_20 ep_20 fp_20 Sp_20 => ?_)
  have O_21 : va_at D kcl (H.size, .inl (ca.1, 24, .inl (fun _ => 0))) Hp_20 := va_at.kept O_18 (fp_20 _ (by omega))
  have O_22 : va_at D kcl (Hp_3.size, .inl (ca.1, 24, .inl (fun _ => 0))) Hp_20 := va_at.kept O_19 (fp_20 _ (by omega))
  have Op_20 : va_at D kcl (a, .inr (0, [.int kd, .ref H.size, .ref Hp_3.size, .int 0, .int 4, .int 0])) Hp_20 := Op_20
  exact yy_vret F Sp_20 ⟨by decide, by decide⟩ rfl d_S_init_40 (⟨rfl, ⟨(by rw [← hn2]; exact Op_20), O_21, (by rw [← hn2]; exact O_22)⟩, by omega, fun q hq hna => (fp_20 q (by omega)).trans ((fp_17 q (by omega)).trans ((fp_14 q (by omega)).trans ((fp_11 q (by omega)).trans ((fp_8 q (by omega)).trans ((on_5 q (by omega)).trans ((fp_3 q (by omega)).trans (on_1 q (by omega))))))))⟩)
set_option maxRecDepth 100000 in
set_option maxHeartbeats 4000000 in
theorem c_C_init_G {l : Launch} {z : State} {a0 : Array Value} {D : va_G} {ca : kca} (X : kcx l z a0 D ca) {a : Nat} (ha : z.heap.size ≤ a) {kd : Int32} {s : Nat} : yy_M l z y_C_init (.code y_C_init b_C_init 3 none) ({ frames := 1, cells := 0, slots := 0, locals := 14 }) [.ref a, .int kd, .ref s] (fun H => va_at D kcl (a, .inr (1, [.int 0, .null])) H) (yy_pv (fun H H1 => va_at D kcl (a, .inr (1, [.int kd, .ref s])) H1 ∧ kp [a] H H1)) := by
  refine yy_body (plainFor_of_name (by decide)) (Nat.le_of_ble_eq_true rfl) (fun b H F hS hP hH hnm => ?_)
  refine yy_aload_n F d_C_init_0 (n := 1) rfl 0 rfl ?_
  refine yy_obj0 F X.1 q_202 q_24 q_25 ⟨by decide, by decide⟩ d_C_init_1 (n := 4) rfl ?_
  refine yy_aload_n F d_C_init_4 (n := 5) rfl 0 rfl ?_
  refine yy_iload_n F d_C_init_5 (n := 6) rfl 1 rfl ?_
  refine yy_putF F X.1 X.2.1 g_C_9_G gt_G (fun C T N h => by cases h; exact ⟨rfl, rfl⟩) (hnm _ rfl) (fun C T N h => by cases h; exact q_203) hS ha hP rfl rfl (Nat.le_of_ble_eq_true rfl) d_C_init_6 (n := 9) rfl (fun Hp_1 locs_p_1 Op_1 ep_1 fp_1 Sp_1 => ?_)
  have Op_1 : va_at D kcl (a, .inr (1, [.int kd, .null])) Hp_1 := Op_1
  refine yy_aload_n F d_C_init_9 (n := 10) rfl 0 rfl ?_
  refine yy_aload_n F d_C_init_10 (n := 11) rfl 2 rfl ?_
  refine yy_putF F X.1 X.2.1 g_C_15_G gt_G (fun C T N h => by cases h; exact ⟨rfl, rfl⟩) (hnm _ rfl) (fun C T N h => by cases h; exact q_205) Sp_1 ha Op_1 rfl rfl (Nat.le_of_ble_eq_true rfl) d_C_init_11 (n := 14) rfl (fun Hp_2 locs_p_2 Op_2 ep_2 fp_2 Sp_2 => ?_)
  have Op_2 : va_at D kcl (a, .inr (1, [.int kd, .ref s])) Hp_2 := Op_2
  exact yy_vret F Sp_2 ⟨Nat.zero_le _, Nat.zero_le _⟩ rfl d_C_init_14 (⟨rfl, Op_2, by omega, fun q hq => (fp_2 q (by simpa using hq)).trans (fp_1 q (by simpa using hq))⟩)
set_option maxRecDepth 100000 in
set_option maxHeartbeats 4000000 in
theorem c_C_init_P {l : Launch} {z : State} {a0 : Array Value} {D : va_G} {ca : kca} (X : kcx l z a0 D ca) {a : Nat} (ha : z.heap.size ≤ a) {kd : Int32} {s : Nat} : yy_M l z y_C_init (.code y_C_init b_C_init 3 none) ({ frames := 1, cells := 0, slots := 0, locals := 14 }) [.ref a, .int kd, .ref s] (fun H => va_at D kcl (a, .inr (2, [.int 0, .null, .null, .int 0, .int 0, .int 0])) H) (yy_pv (fun H H1 => va_at D kcl (a, .inr (2, [.int kd, .ref s, .null, .int 0, .int 0, .int 0])) H1 ∧ kp [a] H H1)) := by
  refine yy_body (plainFor_of_name (by decide)) (Nat.le_of_ble_eq_true rfl) (fun b H F hS hP hH hnm => ?_)
  refine yy_aload_n F d_C_init_0 (n := 1) rfl 0 rfl ?_
  refine yy_obj0 F X.1 q_202 q_24 q_25 ⟨by decide, by decide⟩ d_C_init_1 (n := 4) rfl ?_
  refine yy_aload_n F d_C_init_4 (n := 5) rfl 0 rfl ?_
  refine yy_iload_n F d_C_init_5 (n := 6) rfl 1 rfl ?_
  refine yy_putF F X.1 X.2.1 g_C_9_P gt_P (fun C T N h => by cases h; exact ⟨rfl, rfl⟩) (hnm _ rfl) (fun C T N h => by cases h; exact q_203) hS ha hP rfl rfl (Nat.le_of_ble_eq_true rfl) d_C_init_6 (n := 9) rfl (fun Hp_1 locs_p_1 Op_1 ep_1 fp_1 Sp_1 => ?_)
  have Op_1 : va_at D kcl (a, .inr (2, [.int kd, .null, .null, .int 0, .int 0, .int 0])) Hp_1 := Op_1
  refine yy_aload_n F d_C_init_9 (n := 10) rfl 0 rfl ?_
  refine yy_aload_n F d_C_init_10 (n := 11) rfl 2 rfl ?_
  refine yy_putF F X.1 X.2.1 g_C_15_P gt_P (fun C T N h => by cases h; exact ⟨rfl, rfl⟩) (hnm _ rfl) (fun C T N h => by cases h; exact q_205) Sp_1 ha Op_1 rfl rfl (Nat.le_of_ble_eq_true rfl) d_C_init_11 (n := 14) rfl (fun Hp_2 locs_p_2 Op_2 ep_2 fp_2 Sp_2 => ?_)
  have Op_2 : va_at D kcl (a, .inr (2, [.int kd, .ref s, .null, .int 0, .int 0, .int 0])) Hp_2 := Op_2
  exact yy_vret F Sp_2 ⟨Nat.zero_le _, Nat.zero_le _⟩ rfl d_C_init_14 (⟨rfl, Op_2, by omega, fun q hq => (fp_2 q (by simpa using hq)).trans (fp_1 q (by simpa using hq))⟩)
set_option maxRecDepth 100000 in
set_option maxHeartbeats 4000000 in
theorem c_C_init_R {l : Launch} {z : State} {a0 : Array Value} {D : va_G} {ca : kca} (X : kcx l z a0 D ca) {a : Nat} (ha : z.heap.size ≤ a) {kd : Int32} {s : Nat} : yy_M l z y_C_init (.code y_C_init b_C_init 3 none) ({ frames := 1, cells := 0, slots := 0, locals := 14 }) [.ref a, .int kd, .ref s] (fun H => va_at D kcl (a, .inr (3, [.int 0, .null, .int 0, .int 0])) H) (yy_pv (fun H H1 => va_at D kcl (a, .inr (3, [.int kd, .ref s, .int 0, .int 0])) H1 ∧ kp [a] H H1)) := by
  refine yy_body (plainFor_of_name (by decide)) (Nat.le_of_ble_eq_true rfl) (fun b H F hS hP hH hnm => ?_)
  refine yy_aload_n F d_C_init_0 (n := 1) rfl 0 rfl ?_
  refine yy_obj0 F X.1 q_202 q_24 q_25 ⟨by decide, by decide⟩ d_C_init_1 (n := 4) rfl ?_
  refine yy_aload_n F d_C_init_4 (n := 5) rfl 0 rfl ?_
  refine yy_iload_n F d_C_init_5 (n := 6) rfl 1 rfl ?_
  refine yy_putF F X.1 X.2.1 g_C_9_R gt_R (fun C T N h => by cases h; exact ⟨rfl, rfl⟩) (hnm _ rfl) (fun C T N h => by cases h; exact q_203) hS ha hP rfl rfl (Nat.le_of_ble_eq_true rfl) d_C_init_6 (n := 9) rfl (fun Hp_1 locs_p_1 Op_1 ep_1 fp_1 Sp_1 => ?_)
  have Op_1 : va_at D kcl (a, .inr (3, [.int kd, .null, .int 0, .int 0])) Hp_1 := Op_1
  refine yy_aload_n F d_C_init_9 (n := 10) rfl 0 rfl ?_
  refine yy_aload_n F d_C_init_10 (n := 11) rfl 2 rfl ?_
  refine yy_putF F X.1 X.2.1 g_C_15_R gt_R (fun C T N h => by cases h; exact ⟨rfl, rfl⟩) (hnm _ rfl) (fun C T N h => by cases h; exact q_205) Sp_1 ha Op_1 rfl rfl (Nat.le_of_ble_eq_true rfl) d_C_init_11 (n := 14) rfl (fun Hp_2 locs_p_2 Op_2 ep_2 fp_2 Sp_2 => ?_)
  have Op_2 : va_at D kcl (a, .inr (3, [.int kd, .ref s, .int 0, .int 0])) Hp_2 := Op_2
  exact yy_vret F Sp_2 ⟨Nat.zero_le _, Nat.zero_le _⟩ rfl d_C_init_14 (⟨rfl, Op_2, by omega, fun q hq => (fp_2 q (by simpa using hq)).trans (fp_1 q (by simpa using hq))⟩)
set_option maxRecDepth 100000 in
set_option maxHeartbeats 4000000 in
theorem c_G_init {l : Launch} {z : State} {a0 : Array Value} {D : va_G} {ca : kca} (X : kcx l z a0 D ca) {a : Nat} (ha : z.heap.size ≤ a) {kd : Int32} : yy_M l z y_G_init (.code y_G_init b_G_init 2 none) ({ frames := 2, cells := 3, slots := 54, locals := 36 }) [.ref a, .int kd] (fun H => va_at D kcl (a, .inr (1, [.int 0, .null])) H) (yy_pv (fun H H1 => va_at D kcl (a, .inr (1, [.int kd, .ref H.size])) H1 ∧ st_at D ca H1 H.size (H.size + 1) (H.size + 2) kd 4 0 0 (fun _ => 0) (fun _ => 0) ∧ H1.size = H.size + 3 ∧ ∀ q, q < H.size → q ≠ a → H1[q]? = H[q]?)) := by
  refine yy_body (plainFor_of_name (by decide)) (Nat.le_of_ble_eq_true rfl) (fun b H F hS hP hH hnm => ?_)
  have lta : a < H.size := va_at.lt hP
  have hzs : z.heap.size ≤ H.size := hS.1
  refine yy_aload_n F d_G_init_0 (n := 1) rfl 0 rfl ?_
  refine yy_iload_n F d_G_init_1 (n := 2) rfl 1 rfl ?_
  refine yy_new F X.1 X.2.1 (ci := 0) (ty := ty_S) (fs := [.int 0, .null, .null, .int 0, .int 0, .int 0]) rfl us_S tk_S q_169 q_170 q_11 hS (by decide) ⟨by decide, by decide⟩ d_G_init_2 (n := 5) rfl (fun Hn_1 On_1 zn_1 on_1 Sn_1 => ?_)
  have O_2 : va_at D kcl (a, .inr (1, [.int 0, .null])) Hn_1 := va_at.kept hP (on_1 _ (va_at.lt hP))
  refine yy_dup F d_G_init_5 (n := 6) rfl rfl ?_
  refine yy_iload_n F d_G_init_6 (n := 7) rfl 1 rfl ?_
  refine yy_callv F Sn_1 (c_S_init (a := H.size) (kd := kd) X hzs) (yy_Bc F X.1 q_173 q_11) (yy_invI (nA := 1) F X.1 rfl (Or.inl q_171) q_172 q_173 ⟨by decide, by decide, by decide +kernel⟩ rfl d_G_init_7) d_G_init_7 (n := 10) rfl (by simp [Value.category]) ⟨by decide, by decide⟩ ⟨by decide, by decide⟩ On_1 (fun Hc_3 locs_c_3 qc_3 Sc_3 => ?_)
  obtain ⟨T1, y1, x1⟩ := qc_3
  have A1 : va_at D kcl (a, .inr (1, [.int 0, .null])) Hc_3 := va_at.kept O_2 (x1 a (by omega) (by omega))
  refine yy_callv F Sc_3 (c_C_init_G (a := a) (kd := kd) (s := H.size) X ha) (yy_Bc F X.1 q_201 q_9) (yy_invI (nA := 2) F X.1 rfl (Or.inl q_199) q_200 q_201 ⟨by decide, by decide, by decide +kernel⟩ rfl d_G_init_10) d_G_init_10 (n := 13) rfl (by simp [Value.category]) ⟨by decide, by decide⟩ ⟨by decide, by decide⟩ A1 (fun Hc_4 locs_c_4 qc_4 Sc_4 => ?_)
  obtain ⟨A2, k2⟩ := qc_4
  have zz1 : Hn_1.size = H.size + 1 := zn_1
  rw [zz1] at T1 y1
  have n0 : ∀ q : Nat, q ≠ a → q ∉ [a] := fun q h => by simpa using h
  exact yy_vret F Sc_4 ⟨by decide, by decide⟩ rfl d_G_init_13 (⟨rfl, A2, ⟨va_at.kept T1.1 (k2.2 _ (n0 _ (by show H.size ≠ a; omega))), va_at.kept T1.2.1 (k2.2 _ (n0 _ (by show H.size + 1 ≠ a; omega))), va_at.kept T1.2.2 (k2.2 _ (n0 _ (by show H.size + 1 + 1 ≠ a; omega)))⟩, by rw [k2.1]; omega, fun q hq hna => (k2.2 q (n0 q hna)).trans ((x1 q (by omega) (by omega)).trans (on_1 q hq))⟩)
set_option maxRecDepth 100000 in
set_option maxHeartbeats 4000000 in
theorem c_P_init0 {l : Launch} {z : State} {a0 : Array Value} {D : va_G} {ca : kca} (X : kcx l z a0 D ca) {a : Nat} (ha : z.heap.size ≤ a) {st cn : Int32} {sa na va n : Nat} {kd rm ch : Int32} {nf vf : Nat → Int32} : yy_M l z y_P_init (.code y_P_init b_P_init 5 none) ({ frames := 2, cells := 0, slots := 0, locals := 36 }) [.ref a, .ref sa, .null, .int st, .int cn] (fun H => va_at D kcl (a, .inr (2, [.int 0, .null, .null, .int 0, .int 0, .int 0])) H ∧ st_at D ca H sa na va kd rm ch n nf vf ∧ sa ≠ a) (yy_pv (fun H H1 => va_at D kcl (a, .inr (2, [.int 6, .ref sa, va_rf none, .int st, .int cn, .int ch])) H1 ∧ kp [a] H H1)) := by
  refine yy_body (plainFor_of_name (by decide)) (Nat.le_of_ble_eq_true rfl) (fun b H F hS hP hH hnm => ?_)
  obtain ⟨O0, T0, hsa⟩ := hP
  refine yy_aload_n F d_P_init_0 (n := 1) rfl 0 rfl ?_
  refine yy_bipush (v := 6) F d_P_init_1 (n := 3) rfl rfl ?_
  refine yy_aload_n F d_P_init_3 (n := 4) rfl 1 rfl ?_
  refine yy_callv F hS (c_C_init_P (a := a) (kd := 6) (s := sa) X ha) (yy_Bc F X.1 q_201 q_9) (yy_invI (nA := 2) F X.1 rfl (Or.inl q_377) q_200 q_201 ⟨by decide, by decide, by decide +kernel⟩ rfl d_P_init_4) d_P_init_4 (n := 7) rfl (by simp [Value.category]) ⟨by decide, by decide⟩ ⟨by decide, by decide⟩ O0 (fun Hc_1 locs_c_1 qc_1 Sc_1 => ?_)
  obtain ⟨A1, k1⟩ := qc_1
  have n0 : ∀ q : Nat, q ≠ a → q ∉ [a] := fun q h => by simpa using h
  have T1 := va_at.kept T0.1 (k1.2 _ (n0 _ hsa))
  refine yy_aload_n F d_P_init_7 (n := 8) rfl 0 rfl ?_
  refine yy_aload_nN F d_P_init_8 (n := 9) rfl 2 rfl ?_
  refine yy_putF F X.1 X.2.1 g_P_9_P gt_P (fun C T N h => by cases h; exact ⟨rfl, rfl⟩) (hnm _ rfl) (fun C T N h => by cases h; exact q_378) Sc_1 ha A1 rfl rfl (Nat.le_of_ble_eq_true rfl) d_P_init_9 (n := 12) rfl (fun Hp_2 locs_p_2 Op_2 ep_2 fp_2 Sp_2 => ?_)
  have O_3 : va_at D kcl (sa, .inr (0, [.int kd, .ref na, .ref va, .int (nI n), .int rm, .int ch])) Hp_2 := va_at.kept T1 (fp_2 _ (hsa))
  have Op_2 : va_at D kcl (a, .inr (2, [.int 6, .ref sa, .null, .int 0, .int 0, .int 0])) Hp_2 := Op_2
  refine yy_aload_n F d_P_init_12 (n := 13) rfl 0 rfl ?_
  refine yy_iload_n F d_P_init_13 (n := 14) rfl 3 rfl ?_
  refine yy_putF F X.1 X.2.1 g_P_15_P gt_P (fun C T N h => by cases h; exact ⟨rfl, rfl⟩) (hnm _ rfl) (fun C T N h => by cases h; exact q_379) Sp_2 ha Op_2 rfl rfl (Nat.le_of_ble_eq_true rfl) d_P_init_14 (n := 17) rfl (fun Hp_4 locs_p_4 Op_4 ep_4 fp_4 Sp_4 => ?_)
  have O_5 : va_at D kcl (sa, .inr (0, [.int kd, .ref na, .ref va, .int (nI n), .int rm, .int ch])) Hp_4 := va_at.kept O_3 (fp_4 _ (hsa))
  have Op_4 : va_at D kcl (a, .inr (2, [.int 6, .ref sa, .null, .int st, .int 0, .int 0])) Hp_4 := Op_4
  refine yy_aload_n F d_P_init_17 (n := 18) rfl 0 rfl ?_
  refine yy_iload F d_P_init_18 (n := 20) rfl 4 rfl ?_
  refine yy_put F X.1 X.2.1 g_P_19_P gt_P (fun C T N h => by cases h; rfl) Sp_4 ha Op_4 rfl rfl (Nat.le_of_ble_eq_true rfl) d_P_init_20 (n := 23) rfl (fun Hp_6 locs_p_6 Op_6 ep_6 fp_6 Sp_6 => ?_)
  have O_7 : va_at D kcl (sa, .inr (0, [.int kd, .ref na, .ref va, .int (nI n), .int rm, .int ch])) Hp_6 := va_at.kept O_5 (fp_6 _ (hsa))
  have Op_6 : va_at D kcl (a, .inr (2, [.int 6, .ref sa, .null, .int st, .int cn, .int 0])) Hp_6 := Op_6
  refine yy_aload_n F d_P_init_23 (n := 24) rfl 0 rfl ?_
  refine yy_aload_n F d_P_init_24 (n := 25) rfl 1 rfl ?_
  refine yy_get F X.1 X.2.1 g_P_22_S O_7 rfl d_P_init_25 (n := 28) rfl ?_
  refine yy_put F X.1 X.2.1 g_P_27_P gt_P (fun C T N h => by cases h; rfl) Sp_6 ha Op_6 rfl rfl (Nat.le_of_ble_eq_true rfl) d_P_init_28 (n := 31) rfl (fun Hp_8 locs_p_8 Op_8 ep_8 fp_8 Sp_8 => ?_)
  have O_9 : va_at D kcl (sa, .inr (0, [.int kd, .ref na, .ref va, .int (nI n), .int rm, .int ch])) Hp_8 := va_at.kept O_7 (fp_8 _ (hsa))
  have Op_8 : va_at D kcl (a, .inr (2, [.int 6, .ref sa, .null, .int st, .int cn, .int ch])) Hp_8 := Op_8
  exact yy_vret F Sp_8 ⟨by decide, by decide⟩ rfl d_P_init_31 (⟨rfl, Op_8, by have := k1.1; omega, fun q hq => (fp_8 q (by simpa using hq)).trans ((fp_6 q (by simpa using hq)).trans ((fp_4 q (by simpa using hq)).trans ((fp_2 q (by simpa using hq)).trans (k1.2 q hq))))⟩)
set_option maxRecDepth 100000 in
set_option maxHeartbeats 4000000 in
theorem c_P_init1 {l : Launch} {z : State} {a0 : Array Value} {D : va_G} {ca : kca} (X : kcx l z a0 D ca) {a : Nat} (ha : z.heap.size ≤ a) {p : Nat} {st cn : Int32} {sa na va n : Nat} {kd rm ch : Int32} {nf vf : Nat → Int32} : yy_M l z y_P_init (.code y_P_init b_P_init 5 none) ({ frames := 2, cells := 0, slots := 0, locals := 36 }) [.ref a, .ref sa, .ref p, .int st, .int cn] (fun H => va_at D kcl (a, .inr (2, [.int 0, .null, .null, .int 0, .int 0, .int 0])) H ∧ st_at D ca H sa na va kd rm ch n nf vf ∧ sa ≠ a) (yy_pv (fun H H1 => va_at D kcl (a, .inr (2, [.int 6, .ref sa, va_rf (some p), .int st, .int cn, .int ch])) H1 ∧ kp [a] H H1)) := by
  refine yy_body (plainFor_of_name (by decide)) (Nat.le_of_ble_eq_true rfl) (fun b H F hS hP hH hnm => ?_)
  obtain ⟨O0, T0, hsa⟩ := hP
  refine yy_aload_n F d_P_init_0 (n := 1) rfl 0 rfl ?_
  refine yy_bipush (v := 6) F d_P_init_1 (n := 3) rfl rfl ?_
  refine yy_aload_n F d_P_init_3 (n := 4) rfl 1 rfl ?_
  refine yy_callv F hS (c_C_init_P (a := a) (kd := 6) (s := sa) X ha) (yy_Bc F X.1 q_201 q_9) (yy_invI (nA := 2) F X.1 rfl (Or.inl q_377) q_200 q_201 ⟨by decide, by decide, by decide +kernel⟩ rfl d_P_init_4) d_P_init_4 (n := 7) rfl (by simp [Value.category]) ⟨by decide, by decide⟩ ⟨by decide, by decide⟩ O0 (fun Hc_1 locs_c_1 qc_1 Sc_1 => ?_)
  obtain ⟨A1, k1⟩ := qc_1
  have n0 : ∀ q : Nat, q ≠ a → q ∉ [a] := fun q h => by simpa using h
  have T1 := va_at.kept T0.1 (k1.2 _ (n0 _ hsa))
  refine yy_aload_n F d_P_init_7 (n := 8) rfl 0 rfl ?_
  refine yy_aload_n F d_P_init_8 (n := 9) rfl 2 rfl ?_
  refine yy_putF F X.1 X.2.1 g_P_9_P gt_P (fun C T N h => by cases h; exact ⟨rfl, rfl⟩) (hnm _ rfl) (fun C T N h => by cases h; exact q_378) Sc_1 ha A1 rfl rfl (Nat.le_of_ble_eq_true rfl) d_P_init_9 (n := 12) rfl (fun Hp_2 locs_p_2 Op_2 ep_2 fp_2 Sp_2 => ?_)
  have O_3 : va_at D kcl (sa, .inr (0, [.int kd, .ref na, .ref va, .int (nI n), .int rm, .int ch])) Hp_2 := va_at.kept T1 (fp_2 _ (hsa))
  have Op_2 : va_at D kcl (a, .inr (2, [.int 6, .ref sa, .ref p, .int 0, .int 0, .int 0])) Hp_2 := Op_2
  refine yy_aload_n F d_P_init_12 (n := 13) rfl 0 rfl ?_
  refine yy_iload_n F d_P_init_13 (n := 14) rfl 3 rfl ?_
  refine yy_putF F X.1 X.2.1 g_P_15_P gt_P (fun C T N h => by cases h; exact ⟨rfl, rfl⟩) (hnm _ rfl) (fun C T N h => by cases h; exact q_379) Sp_2 ha Op_2 rfl rfl (Nat.le_of_ble_eq_true rfl) d_P_init_14 (n := 17) rfl (fun Hp_4 locs_p_4 Op_4 ep_4 fp_4 Sp_4 => ?_)
  have O_5 : va_at D kcl (sa, .inr (0, [.int kd, .ref na, .ref va, .int (nI n), .int rm, .int ch])) Hp_4 := va_at.kept O_3 (fp_4 _ (hsa))
  have Op_4 : va_at D kcl (a, .inr (2, [.int 6, .ref sa, .ref p, .int st, .int 0, .int 0])) Hp_4 := Op_4
  refine yy_aload_n F d_P_init_17 (n := 18) rfl 0 rfl ?_
  refine yy_iload F d_P_init_18 (n := 20) rfl 4 rfl ?_
  refine yy_put F X.1 X.2.1 g_P_19_P gt_P (fun C T N h => by cases h; rfl) Sp_4 ha Op_4 rfl rfl (Nat.le_of_ble_eq_true rfl) d_P_init_20 (n := 23) rfl (fun Hp_6 locs_p_6 Op_6 ep_6 fp_6 Sp_6 => ?_)
  have O_7 : va_at D kcl (sa, .inr (0, [.int kd, .ref na, .ref va, .int (nI n), .int rm, .int ch])) Hp_6 := va_at.kept O_5 (fp_6 _ (hsa))
  have Op_6 : va_at D kcl (a, .inr (2, [.int 6, .ref sa, .ref p, .int st, .int cn, .int 0])) Hp_6 := Op_6
  refine yy_aload_n F d_P_init_23 (n := 24) rfl 0 rfl ?_
  refine yy_aload_n F d_P_init_24 (n := 25) rfl 1 rfl ?_
  refine yy_get F X.1 X.2.1 g_P_22_S O_7 rfl d_P_init_25 (n := 28) rfl ?_
  refine yy_put F X.1 X.2.1 g_P_27_P gt_P (fun C T N h => by cases h; rfl) Sp_6 ha Op_6 rfl rfl (Nat.le_of_ble_eq_true rfl) d_P_init_28 (n := 31) rfl (fun Hp_8 locs_p_8 Op_8 ep_8 fp_8 Sp_8 => ?_)
  have O_9 : va_at D kcl (sa, .inr (0, [.int kd, .ref na, .ref va, .int (nI n), .int rm, .int ch])) Hp_8 := va_at.kept O_7 (fp_8 _ (hsa))
  have Op_8 : va_at D kcl (a, .inr (2, [.int 6, .ref sa, .ref p, .int st, .int cn, .int ch])) Hp_8 := Op_8
  exact yy_vret F Sp_8 ⟨by decide, by decide⟩ rfl d_P_init_31 (⟨rfl, Op_8, by have := k1.1; omega, fun q hq => (fp_8 q (by simpa using hq)).trans ((fp_6 q (by simpa using hq)).trans ((fp_4 q (by simpa using hq)).trans ((fp_2 q (by simpa using hq)).trans (k1.2 q hq))))⟩)
set_option maxRecDepth 100000 in
set_option maxHeartbeats 4000000 in
theorem c_R_init {l : Launch} {z : State} {a0 : Array Value} {D : va_G} {ca : kca} (X : kcx l z a0 D ca) {a : Nat} (ha : z.heap.size ≤ a) {lo hi : Int32} {sa : Nat} : yy_M l z y_R_init (.code y_R_init b_R_init 4 none) ({ frames := 2, cells := 0, slots := 0, locals := 36 }) [.ref a, .ref sa, .int lo, .int hi] (fun H => va_at D kcl (a, .inr (3, [.int 0, .null, .int 0, .int 0])) H) (yy_pv (fun H H1 => va_at D kcl (a, .inr (3, [.int 7, .ref sa, .int lo, .int hi])) H1 ∧ kp [a] H H1)) := by
  refine yy_body (plainFor_of_name (by decide)) (Nat.le_of_ble_eq_true rfl) (fun b H F hS hP hH hnm => ?_)
  refine yy_aload_n F d_R_init_0 (n := 1) rfl 0 rfl ?_
  refine yy_bipush (v := 7) F d_R_init_1 (n := 3) rfl rfl ?_
  refine yy_aload_n F d_R_init_3 (n := 4) rfl 1 rfl ?_
  refine yy_callv F hS (c_C_init_R (a := a) (kd := 7) (s := sa) X ha) (yy_Bc F X.1 q_201 q_9) (yy_invI (nA := 2) F X.1 rfl (Or.inl q_347) q_200 q_201 ⟨by decide, by decide, by decide +kernel⟩ rfl d_R_init_4) d_R_init_4 (n := 7) rfl (by simp [Value.category]) ⟨by decide, by decide⟩ ⟨by decide, by decide⟩ hP (fun Hc_1 locs_c_1 qc_1 Sc_1 => ?_)
  obtain ⟨A1, k1⟩ := qc_1
  refine yy_aload_n F d_R_init_7 (n := 8) rfl 0 rfl ?_
  refine yy_iload_n F d_R_init_8 (n := 9) rfl 2 rfl ?_
  refine yy_putF F X.1 X.2.1 g_R_9_R gt_R (fun C T N h => by cases h; exact ⟨rfl, rfl⟩) (hnm _ rfl) (fun C T N h => by cases h; exact q_348) Sc_1 ha A1 rfl rfl (Nat.le_of_ble_eq_true rfl) d_R_init_9 (n := 12) rfl (fun Hp_2 locs_p_2 Op_2 ep_2 fp_2 Sp_2 => ?_)
  have Op_2 : va_at D kcl (a, .inr (3, [.int 7, .ref sa, .int lo, .int 0])) Hp_2 := Op_2
  refine yy_aload_n F d_R_init_12 (n := 13) rfl 0 rfl ?_
  refine yy_iload_n F d_R_init_13 (n := 14) rfl 3 rfl ?_
  refine yy_putF F X.1 X.2.1 g_R_15_R gt_R (fun C T N h => by cases h; exact ⟨rfl, rfl⟩) (hnm _ rfl) (fun C T N h => by cases h; exact q_350) Sp_2 ha Op_2 rfl rfl (Nat.le_of_ble_eq_true rfl) d_R_init_14 (n := 17) rfl (fun Hp_3 locs_p_3 Op_3 ep_3 fp_3 Sp_3 => ?_)
  have Op_3 : va_at D kcl (a, .inr (3, [.int 7, .ref sa, .int lo, .int hi])) Hp_3 := Op_3
  exact yy_vret F Sp_3 ⟨by decide, by decide⟩ rfl d_R_init_17 (⟨rfl, Op_3, by have := k1.1; omega, fun q hq => (fp_3 q (by simpa using hq)).trans ((fp_2 q (by simpa using hq)).trans (k1.2 q hq))⟩)
set_option maxRecDepth 100000 in
set_option maxHeartbeats 4000000 in
theorem c_W_init {l : Launch} {z : State} {a0 : Array Value} {D : va_G} {ca : kca} (X : kcx l z a0 D ca) {a : Nat} (ha : z.heap.size ≤ a)  : yy_M l z y_W_init (.code y_W_init b_W_init 1 none) ({ frames := 1, cells := 0, slots := 0, locals := 14 }) [.ref a] (fun H => va_at D kcl (a, .inr (4, [.null, .int 0, .int 0, .int 0])) H) (yy_pv (fun H H1 => va_at D kcl (a, .inr (4, [.null, .int 0, .int (-1), .int 0])) H1 ∧ kp [a] H H1)) := by
  refine yy_body (plainFor_of_name (by decide)) (Nat.le_of_ble_eq_true rfl) (fun b H F hS hP hH hnm => ?_)
  refine yy_aload_n F d_W_init_0 (n := 1) rfl 0 rfl ?_
  refine yy_obj0 F X.1 q_34 q_24 q_25 ⟨by decide, by decide⟩ d_W_init_1 (n := 4) rfl ?_
  refine yy_aload_n F d_W_init_4 (n := 5) rfl 0 rfl ?_
  refine yy_null F d_W_init_5 (n := 6) rfl ?_
  refine yy_put F X.1 X.2.1 g_W_9_W gt_W (fun C T N h => by cases h; rfl) hS ha hP rfl rfl (Nat.le_of_ble_eq_true rfl) d_W_init_6 (n := 9) rfl (fun Hp_1 locs_p_1 Op_1 ep_1 fp_1 Sp_1 => ?_)
  have Op_1 : va_at D kcl (a, .inr (4, [.null, .int 0, .int 0, .int 0])) Hp_1 := Op_1
  refine yy_aload_n F d_W_init_9 (n := 10) rfl 0 rfl ?_
  refine yy_iconst (v := 0) F d_W_init_10 (n := 11) rfl rfl ?_
  refine yy_put F X.1 X.2.1 g_W_15_W gt_W (fun C T N h => by cases h; rfl) Sp_1 ha Op_1 rfl rfl (Nat.le_of_ble_eq_true rfl) d_W_init_11 (n := 14) rfl (fun Hp_2 locs_p_2 Op_2 ep_2 fp_2 Sp_2 => ?_)
  have Op_2 : va_at D kcl (a, .inr (4, [.null, .int 0, .int 0, .int 0])) Hp_2 := Op_2
  refine yy_aload_n F d_W_init_14 (n := 15) rfl 0 rfl ?_
  refine yy_iconst (v := (-1)) F d_W_init_15 (n := 16) rfl rfl ?_
  refine yy_put F X.1 X.2.1 g_W_19_W gt_W (fun C T N h => by cases h; rfl) Sp_2 ha Op_2 rfl rfl (Nat.le_of_ble_eq_true rfl) d_W_init_16 (n := 19) rfl (fun Hp_3 locs_p_3 Op_3 ep_3 fp_3 Sp_3 => ?_)
  have Op_3 : va_at D kcl (a, .inr (4, [.null, .int 0, .int (-1), .int 0])) Hp_3 := Op_3
  refine yy_aload_n F d_W_init_19 (n := 20) rfl 0 rfl ?_
  refine yy_iconst (v := 0) F d_W_init_20 (n := 21) rfl rfl ?_
  refine yy_put F X.1 X.2.1 g_W_22_W gt_W (fun C T N h => by cases h; rfl) Sp_3 ha Op_3 rfl rfl (Nat.le_of_ble_eq_true rfl) d_W_init_21 (n := 24) rfl (fun Hp_4 locs_p_4 Op_4 ep_4 fp_4 Sp_4 => ?_)
  have Op_4 : va_at D kcl (a, .inr (4, [.null, .int 0, .int (-1), .int 0])) Hp_4 := Op_4
  exact yy_vret F Sp_4 ⟨Nat.zero_le _, Nat.zero_le _⟩ rfl d_W_init_24 (⟨rfl, Op_4, by omega, fun q hq => (fp_4 q (by simpa using hq)).trans ((fp_3 q (by simpa using hq)).trans ((fp_2 q (by simpa using hq)).trans (fp_1 q (by simpa using hq))))⟩)
