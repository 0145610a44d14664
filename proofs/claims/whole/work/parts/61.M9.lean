/-! PART M9: a new reference -/
def ms0 : ms := (0, fun j => if j = 11 then upd (upd (upd (upd (fun _ => 0) 0 (-1)) 1 (-1)) 2 (-1)) 3 (-1) else fun _ => 0)
theorem ms0_mr : mr ms0 ks0 := mr_0 rfl (fun i hi => by
  show upd (upd (upd (upd (fun _ => 0) 0 (-1)) 1 (-1)) 2 (-1)) 3 (-1) i = -1
  rcases i with _ | _ | _ | _ | i
  · rfl
  · rfl
  · rfl
  · rfl
  · omega) (fun i => ⟨rfl, rfl⟩)
set_option maxRecDepth 100000 in
set_option maxHeartbeats 4000000 in
theorem c_M_init {l : Launch} {z : State} {a0 : Array Value} {D : va_G} {ca : kca} (X : kcx l z a0 D ca) {a : Nat} (ha : z.heap.size ≤ a)  : yy_M l z y_M_init (.code y_M_init b_M_init 1 none) ({ frames := 1, cells := 15, slots := 586, locals := 14 }) [.ref a] (fun H => va_at D kcl (a, .inr (6, [.int 0, .int 0, .null, .null, .null, .null, .null, .null, .null, .null, .null, .null, .null, .null, .null, .null, .null])) H) (yy_pv (fun H H1 => mo_at D ca z a H.size 0 ms0 H1 ∧ H1.size = H.size + 15 ∧ ∀ q, q < H.size → q ≠ a → H1[q]? = H[q]?)) := by
  refine yy_body (plainFor_of_name (by decide)) (Nat.le_of_ble_eq_true rfl) (fun b H F hS hP hH hnm => ?_)
  have lta : a < H.size := va_at.lt hP
  have hzs : z.heap.size ≤ H.size := hS.1
  refine yy_aload_n F d_M_init_0 (n := 1) rfl 0 rfl ?_
  refine yy_obj0 F X.1 q_846 q_24 q_25 ⟨by decide, by decide⟩ d_M_init_1 (n := 4) rfl ?_
  refine yy_aload_n F d_M_init_4 (n := 5) rfl 0 rfl ?_
  refine yy_bipush (v := 10) F d_M_init_5 (n := 7) rfl rfl ?_
  refine yy_newi F X.1 X.2.1 0 rfl q_198 hS (by decide) (N := 10) rfl (by decide) ⟨by decide, by decide⟩ d_M_init_7 (n := 9) rfl (fun Hn_1 On_1 zn_1 on_1 Sn_1 => ?_)
  have O_2 : va_at D kcl (a, .inr (6, [.int 0, .int 0, .null, .null, .null, .null, .null, .null, .null, .null, .null, .null, .null, .null, .null, .null, .null])) Hn_1 := va_at.kept hP (on_1 _ (va_at.lt hP))
  have hn0 : H.size = H.size + 0 := by omega
  refine yy_putF F X.1 X.2.1 g_M_7_M gt_M (fun C T N h => by cases h; exact ⟨rfl, rfl⟩) (hnm _ rfl) (fun C T N h => by cases h; exact q_849) Sn_1 ha O_2 rfl rfl (Nat.le_of_ble_eq_true rfl) d_M_init_9 (n := 12) rfl (fun Hp_3 locs_p_3 Op_3 ep_3 fp_3 Sp_3 => ?_)
  have O_4 : va_at D kcl (H.size, .inl (ca.1, 10, .inl (fun _ => 0))) Hp_3 := va_at.kept On_1 (fp_3 _ (by omega))
  have Op_3 : va_at D kcl (a, .inr (6, [.int 0, .int 0, .ref H.size, .null, .null, .null, .null, .null, .null, .null, .null, .null, .null, .null, .null, .null, .null])) Hp_3 := Op_3
  refine yy_aload_n F d_M_init_12 (n := 13) rfl 0 rfl ?_
  refine yy_bipush (v := 10) F d_M_init_13 (n := 15) rfl rfl ?_
  refine yy_newi F X.1 X.2.1 0 rfl q_198 Sp_3 (by decide) (N := 10) rfl (by decide) ⟨by decide, by decide⟩ d_M_init_15 (n := 17) rfl (fun Hn_5 On_5 zn_5 on_5 Sn_5 => ?_)
  have O_6 : va_at D kcl (H.size, .inl (ca.1, 10, .inl (fun _ => 0))) Hn_5 := va_at.kept O_4 (on_5 _ (va_at.lt O_4))
  have O_7 : va_at D kcl (a, .inr (6, [.int 0, .int 0, .ref H.size, .null, .null, .null, .null, .null, .null, .null, .null, .null, .null, .null, .null, .null, .null])) Hn_5 := va_at.kept Op_3 (on_5 _ (va_at.lt Op_3))
  have hn1 : Hp_3.size = H.size + 1 := by omega
  refine yy_putF F X.1 X.2.1 g_M_13_M gt_M (fun C T N h => by cases h; exact ⟨rfl, rfl⟩) (hnm _ rfl) (fun C T N h => by cases h; exact q_850) Sn_5 ha O_7 rfl rfl (Nat.le_of_ble_eq_true rfl) d_M_init_17 (n := 20) rfl (fun Hp_8 locs_p_8 Op_8 ep_8 fp_8 Sp_8 => ?_)
  have O_9 : va_at D kcl (H.size, .inl (ca.1, 10, .inl (fun _ => 0))) Hp_8 := va_at.kept O_6 (fp_8 _ (by omega))
  have O_10 : va_at D kcl (Hp_3.size, .inl (ca.1, 10, .inl (fun _ => 0))) Hp_8 := va_at.kept On_5 (fp_8 _ (by omega))
  have Op_8 : va_at D kcl (a, .inr (6, [.int 0, .int 0, .ref H.size, .ref Hp_3.size, .null, .null, .null, .null, .null, .null, .null, .null, .null, .null, .null, .null, .null])) Hp_8 := Op_8
  refine yy_aload_n F d_M_init_20 (n := 21) rfl 0 rfl ?_
  refine yy_bipush (v := 10) F d_M_init_21 (n := 23) rfl rfl ?_
  refine yy_newi F X.1 X.2.1 0 rfl q_198 Sp_8 (by decide) (N := 10) rfl (by decide) ⟨by decide, by decide⟩ d_M_init_23 (n := 25) rfl (fun Hn_11 On_11 zn_11 on_11 Sn_11 => ?_)
  have O_12 : va_at D kcl (H.size, .inl (ca.1, 10, .inl (fun _ => 0))) Hn_11 := va_at.kept O_9 (on_11 _ (va_at.lt O_9))
  have O_13 : va_at D kcl (Hp_3.size, .inl (ca.1, 10, .inl (fun _ => 0))) Hn_11 := va_at.kept O_10 (on_11 _ (va_at.lt O_10))
  have O_14 : va_at D kcl (a, .inr (6, [.int 0, .int 0, .ref H.size, .ref Hp_3.size, .null, .null, .null, .null, .null, .null, .null, .null, .null, .null, .null, .null, .null])) Hn_11 := va_at.kept Op_8 (on_11 _ (va_at.lt Op_8))
  have hn2 : Hp_8.size = H.size + 2 := by omega
  refine yy_putF F X.1 X.2.1 g_M_16_M gt_M (fun C T N h => by cases h; exact ⟨rfl, rfl⟩) (hnm _ rfl) (fun C T N h => by cases h; exact q_851) Sn_11 ha O_14 rfl rfl (Nat.le_of_ble_eq_true rfl) d_M_init_25 (n := 28) rfl (fun Hp_15 locs_p_15 Op_15 ep_15 fp_15 Sp_15 => ?_)
  have O_16 : va_at D kcl (H.size, .inl (ca.1, 10, .inl (fun _ => 0))) Hp_15 := va_at.kept O_12 (fp_15 _ (by omega))
  have O_17 : va_at D kcl (Hp_3.size, .inl (ca.1, 10, .inl (fun _ => 0))) Hp_15 := va_at.kept O_13 (fp_15 _ (by omega))
  have O_18 : va_at D kcl (Hp_8.size, .inl (ca.1, 10, .inl (fun _ => 0))) Hp_15 := va_at.kept On_11 (fp_15 _ (by omega))
  have Op_15 : va_at D kcl (a, .inr (6, [.int 0, .int 0, .ref H.size, .ref Hp_3.size, .ref Hp_8.size, .null, .null, .null, .null, .null, .null, .null, .null, .null, .null, .null, .null])) Hp_15 := Op_15
  refine yy_aload_n F d_M_init_28 (n := 29) rfl 0 rfl ?_
  refine yy_sipush (v := 240) F d_M_init_29 (n := 32) rfl rfl ?_
  refine yy_newi F X.1 X.2.1 0 rfl q_198 Sp_15 (by decide) (N := 240) rfl (by decide) ⟨by decide, by decide⟩ d_M_init_32 (n := 34) rfl (fun Hn_19 On_19 zn_19 on_19 Sn_19 => ?_)
  have O_20 : va_at D kcl (H.size, .inl (ca.1, 10, .inl (fun _ => 0))) Hn_19 := va_at.kept O_16 (on_19 _ (va_at.lt O_16))
  have O_21 : va_at D kcl (Hp_3.size, .inl (ca.1, 10, .inl (fun _ => 0))) Hn_19 := va_at.kept O_17 (on_19 _ (va_at.lt O_17))
  have O_22 : va_at D kcl (Hp_8.size, .inl (ca.1, 10, .inl (fun _ => 0))) Hn_19 := va_at.kept O_18 (on_19 _ (va_at.lt O_18))
  have O_23 : va_at D kcl (a, .inr (6, [.int 0, .int 0, .ref H.size, .ref Hp_3.size, .ref Hp_8.size, .null, .null, .null, .null, .null, .null, .null, .null, .null, .null, .null, .null])) Hn_19 := va_at.kept Op_15 (on_19 _ (va_at.lt Op_15))
  have hn3 : Hp_15.size = H.size + 3 := by omega
  refine yy_putF F X.1 X.2.1 g_M_19_M gt_M (fun C T N h => by cases h; exact ⟨rfl, rfl⟩) (hnm _ rfl) (fun C T N h => by cases h; exact q_852) Sn_19 ha O_23 rfl rfl (Nat.le_of_ble_eq_true rfl) d_M_init_34 (n := 37) rfl (fun Hp_24 locs_p_24 Op_24 ep_24 fp_24 Sp_24 => ?_)
  have O_25 : va_at D kcl (H.size, .inl (ca.1, 10, .inl (fun _ => 0))) Hp_24 := va_at.kept O_20 (fp_24 _ (by omega))
  have O_26 : va_at D kcl (Hp_3.size, .inl (ca.1, 10, .inl (fun _ => 0))) Hp_24 := va_at.kept O_21 (fp_24 _ (by omega))
  have O_27 : va_at D kcl (Hp_8.size, .inl (ca.1, 10, .inl (fun _ => 0))) Hp_24 := va_at.kept O_22 (fp_24 _ (by omega))
  have O_28 : va_at D kcl (Hp_15.size, .inl (ca.1, 240, .inl (fun _ => 0))) Hp_24 := va_at.kept On_19 (fp_24 _ (by omega))
  have Op_24 : va_at D kcl (a, .inr (6, [.int 0, .int 0, .ref H.size, .ref Hp_3.size, .ref Hp_8.size, .ref Hp_15.size, .null, .null, .null, .null, .null, .null, .null, .null, .null, .null, .null])) Hp_24 := Op_24
  refine yy_aload_n F d_M_init_37 (n := 38) rfl 0 rfl ?_
  refine yy_sipush (v := 240) F d_M_init_38 (n := 41) rfl rfl ?_
  refine yy_newi F X.1 X.2.1 0 rfl q_198 Sp_24 (by decide) (N := 240) rfl (by decide) ⟨by decide, by decide⟩ d_M_init_41 (n := 43) rfl (fun Hn_29 On_29 zn_29 on_29 Sn_29 => ?_)
  have O_30 : va_at D kcl (H.size, .inl (ca.1, 10, .inl (fun _ => 0))) Hn_29 := va_at.kept O_25 (on_29 _ (va_at.lt O_25))
  have O_31 : va_at D kcl (Hp_3.size, .inl (ca.1, 10, .inl (fun _ => 0))) Hn_29 := va_at.kept O_26 (on_29 _ (va_at.lt O_26))
  have O_32 : va_at D kcl (Hp_8.size, .inl (ca.1, 10, .inl (fun _ => 0))) Hn_29 := va_at.kept O_27 (on_29 _ (va_at.lt O_27))
  have O_33 : va_at D kcl (Hp_15.size, .inl (ca.1, 240, .inl (fun _ => 0))) Hn_29 := va_at.kept O_28 (on_29 _ (va_at.lt O_28))
  have O_34 : va_at D kcl (a, .inr (6, [.int 0, .int 0, .ref H.size, .ref Hp_3.size, .ref Hp_8.size, .ref Hp_15.size, .null, .null, .null, .null, .null, .null, .null, .null, .null, .null, .null])) Hn_29 := va_at.kept Op_24 (on_29 _ (va_at.lt Op_24))
  have hn4 : Hp_24.size = H.size + 4 := by omega
  refine yy_putF F X.1 X.2.1 g_M_22_M gt_M (fun C T N h => by cases h; exact ⟨rfl, rfl⟩) (hnm _ rfl) (fun C T N h => by cases h; exact q_853) Sn_29 ha O_34 rfl rfl (Nat.le_of_ble_eq_true rfl) d_M_init_43 (n := 46) rfl (fun Hp_35 locs_p_35 Op_35 ep_35 fp_35 Sp_35 => ?_)
  have O_36 : va_at D kcl (H.size, .inl (ca.1, 10, .inl (fun _ => 0))) Hp_35 := va_at.kept O_30 (fp_35 _ (by omega))
  have O_37 : va_at D kcl (Hp_3.size, .inl (ca.1, 10, .inl (fun _ => 0))) Hp_35 := va_at.kept O_31 (fp_35 _ (by omega))
  have O_38 : va_at D kcl (Hp_8.size, .inl (ca.1, 10, .inl (fun _ => 0))) Hp_35 := va_at.kept O_32 (fp_35 _ (by omega))
  have O_39 : va_at D kcl (Hp_15.size, .inl (ca.1, 240, .inl (fun _ => 0))) Hp_35 := va_at.kept O_33 (fp_35 _ (by omega))
  have O_40 : va_at D kcl (Hp_24.size, .inl (ca.1, 240, .inl (fun _ => 0))) Hp_35 := va_at.kept On_29 (fp_35 _ (by omega))
  have Op_35 : va_at D kcl (a, .inr (6, [.int 0, .int 0, .ref H.size, .ref Hp_3.size, .ref Hp_8.size, .ref Hp_15.size, .ref Hp_24.size, .null, .null, .null, .null, .null, .null, .null, .null, .null, .null])) Hp_35 := Op_35
  refine yy_aload_n F d_M_init_46 (n := 47) rfl 0 rfl ?_
  refine yy_bipush (v := 10) F d_M_init_47 (n := 49) rfl rfl ?_
  refine yy_newi F X.1 X.2.1 0 rfl q_198 Sp_35 (by decide) (N := 10) rfl (by decide) ⟨by decide, by decide⟩ d_M_init_49 (n := 51) rfl (fun Hn_41 On_41 zn_41 on_41 Sn_41 => ?_)
  have O_42 : va_at D kcl (H.size, .inl (ca.1, 10, .inl (fun _ => 0))) Hn_41 := va_at.kept O_36 (on_41 _ (va_at.lt O_36))
  have O_43 : va_at D kcl (Hp_3.size, .inl (ca.1, 10, .inl (fun _ => 0))) Hn_41 := va_at.kept O_37 (on_41 _ (va_at.lt O_37))
  have O_44 : va_at D kcl (Hp_8.size, .inl (ca.1, 10, .inl (fun _ => 0))) Hn_41 := va_at.kept O_38 (on_41 _ (va_at.lt O_38))
  have O_45 : va_at D kcl (Hp_15.size, .inl (ca.1, 240, .inl (fun _ => 0))) Hn_41 := va_at.kept O_39 (on_41 _ (va_at.lt O_39))
  have O_46 : va_at D kcl (Hp_24.size, .inl (ca.1, 240, .inl (fun _ => 0))) Hn_41 := va_at.kept O_40 (on_41 _ (va_at.lt O_40))
  have O_47 : va_at D kcl (a, .inr (6, [.int 0, .int 0, .ref H.size, .ref Hp_3.size, .ref Hp_8.size, .ref Hp_15.size, .ref Hp_24.size, .null, .null, .null, .null, .null, .null, .null, .null, .null, .null])) Hn_41 := va_at.kept Op_35 (on_41 _ (va_at.lt Op_35))
  have hn5 : Hp_35.size = H.size + 5 := by omega
  refine yy_putF F X.1 X.2.1 g_M_25_M gt_M (fun C T N h => by cases h; exact ⟨rfl, rfl⟩) (hnm _ rfl) (fun C T N h => by cases h; exact q_854) Sn_41 ha O_47 rfl rfl (Nat.le_of_ble_eq_true rfl) d_M_init_51 (n := 54) rfl (fun Hp_48 locs_p_48 Op_48 ep_48 fp_48 Sp_48 => ?_)
  have O_49 : va_at D kcl (H.size, .inl (ca.1, 10, .inl (fun _ => 0))) Hp_48 := va_at.kept O_42 (fp_48 _ (by omega))
  have O_50 : va_at D kcl (Hp_3.size, .inl (ca.1, 10, .inl (fun _ => 0))) Hp_48 := va_at.kept O_43 (fp_48 _ (by omega))
  have O_51 : va_at D kcl (Hp_8.size, .inl (ca.1, 10, .inl (fun _ => 0))) Hp_48 := va_at.kept O_44 (fp_48 _ (by omega))
  have O_52 : va_at D kcl (Hp_15.size, .inl (ca.1, 240, .inl (fun _ => 0))) Hp_48 := va_at.kept O_45 (fp_48 _ (by omega))
  have O_53 : va_at D kcl (Hp_24.size, .inl (ca.1, 240, .inl (fun _ => 0))) Hp_48 := va_at.kept O_46 (fp_48 _ (by omega))
  have O_54 : va_at D kcl (Hp_35.size, .inl (ca.1, 10, .inl (fun _ => 0))) Hp_48 := va_at.kept On_41 (fp_48 _ (by omega))
  have Op_48 : va_at D kcl (a, .inr (6, [.int 0, .int 0, .ref H.size, .ref Hp_3.size, .ref Hp_8.size, .ref Hp_15.size, .ref Hp_24.size, .ref Hp_35.size, .null, .null, .null, .null, .null, .null, .null, .null, .null])) Hp_48 := Op_48
  refine yy_aload_n F d_M_init_54 (n := 55) rfl 0 rfl ?_
  refine yy_bipush (v := 10) F d_M_init_55 (n := 57) rfl rfl ?_
  refine yy_newi F X.1 X.2.1 0 rfl q_198 Sp_48 (by decide) (N := 10) rfl (by decide) ⟨by decide, by decide⟩ d_M_init_57 (n := 59) rfl (fun Hn_55 On_55 zn_55 on_55 Sn_55 => ?_)
  have O_56 : va_at D kcl (H.size, .inl (ca.1, 10, .inl (fun _ => 0))) Hn_55 := va_at.kept O_49 (on_55 _ (va_at.lt O_49))
  have O_57 : va_at D kcl (Hp_3.size, .inl (ca.1, 10, .inl (fun _ => 0))) Hn_55 := va_at.kept O_50 (on_55 _ (va_at.lt O_50))
  have O_58 : va_at D kcl (Hp_8.size, .inl (ca.1, 10, .inl (fun _ => 0))) Hn_55 := va_at.kept O_51 (on_55 _ (va_at.lt O_51))
  have O_59 : va_at D kcl (Hp_15.size, .inl (ca.1, 240, .inl (fun _ => 0))) Hn_55 := va_at.kept O_52 (on_55 _ (va_at.lt O_52))
  have O_60 : va_at D kcl (Hp_24.size, .inl (ca.1, 240, .inl (fun _ => 0))) Hn_55 := va_at.kept O_53 (on_55 _ (va_at.lt O_53))
  have O_61 : va_at D kcl (Hp_35.size, .inl (ca.1, 10, .inl (fun _ => 0))) Hn_55 := va_at.kept O_54 (on_55 _ (va_at.lt O_54))
  have O_62 : va_at D kcl (a, .inr (6, [.int 0, .int 0, .ref H.size, .ref Hp_3.size, .ref Hp_8.size, .ref Hp_15.size, .ref Hp_24.size, .ref Hp_35.size, .null, .null, .null, .null, .null, .null, .null, .null, .null])) Hn_55 := va_at.kept Op_48 (on_55 _ (va_at.lt Op_48))
  have hn6 : Hp_48.size = H.size + 6 := by omega
  refine yy_putF F X.1 X.2.1 g_M_28_M gt_M (fun C T N h => by cases h; exact ⟨rfl, rfl⟩) (hnm _ rfl) (fun C T N h => by cases h; exact q_855) Sn_55 ha O_62 rfl rfl (Nat.le_of_ble_eq_true rfl) d_M_init_59 (n := 62) rfl (fun Hp_63 locs_p_63 Op_63 ep_63 fp_63 Sp_63 => ?_)
  have O_64 : va_at D kcl (H.size, .inl (ca.1, 10, .inl (fun _ => 0))) Hp_63 := va_at.kept O_56 (fp_63 _ (by omega))
  have O_65 : va_at D kcl (Hp_3.size, .inl (ca.1, 10, .inl (fun _ => 0))) Hp_63 := va_at.kept O_57 (fp_63 _ (by omega))
  have O_66 : va_at D kcl (Hp_8.size, .inl (ca.1, 10, .inl (fun _ => 0))) Hp_63 := va_at.kept O_58 (fp_63 _ (by omega))
  have O_67 : va_at D kcl (Hp_15.size, .inl (ca.1, 240, .inl (fun _ => 0))) Hp_63 := va_at.kept O_59 (fp_63 _ (by omega))
  have O_68 : va_at D kcl (Hp_24.size, .inl (ca.1, 240, .inl (fun _ => 0))) Hp_63 := va_at.kept O_60 (fp_63 _ (by omega))
  have O_69 : va_at D kcl (Hp_35.size, .inl (ca.1, 10, .inl (fun _ => 0))) Hp_63 := va_at.kept O_61 (fp_63 _ (by omega))
  have O_70 : va_at D kcl (Hp_48.size, .inl (ca.1, 10, .inl (fun _ => 0))) Hp_63 := va_at.kept On_55 (fp_63 _ (by omega))
  have Op_63 : va_at D kcl (a, .inr (6, [.int 0, .int 0, .ref H.size, .ref Hp_3.size, .ref Hp_8.size, .ref Hp_15.size, .ref Hp_24.size, .ref Hp_35.size, .ref Hp_48.size, .null, .null, .null, .null, .null, .null, .null, .null])) Hp_63 := Op_63
  refine yy_aload_n F d_M_init_62 (n := 63) rfl 0 rfl ?_
  refine yy_bipush (v := 10) F d_M_init_63 (n := 65) rfl rfl ?_
  refine yy_newi F X.1 X.2.1 0 rfl q_198 Sp_63 (by decide) (N := 10) rfl (by decide) ⟨by decide, by decide⟩ d_M_init_65 (n := 67) rfl (fun Hn_71 On_71 zn_71 on_71 Sn_71 => ?_)
  have O_72 : va_at D kcl (H.size, .inl (ca.1, 10, .inl (fun _ => 0))) Hn_71 := va_at.kept O_64 (on_71 _ (va_at.lt O_64))
  have O_73 : va_at D kcl (Hp_3.size, .inl (ca.1, 10, .inl (fun _ => 0))) Hn_71 := va_at.kept O_65 (on_71 _ (va_at.lt O_65))
  have O_74 : va_at D kcl (Hp_8.size, .inl (ca.1, 10, .inl (fun _ => 0))) Hn_71 := va_at.kept O_66 (on_71 _ (va_at.lt O_66))
  have O_75 : va_at D kcl (Hp_15.size, .inl (ca.1, 240, .inl (fun _ => 0))) Hn_71 := va_at.kept O_67 (on_71 _ (va_at.lt O_67))
  have O_76 : va_at D kcl (Hp_24.size, .inl (ca.1, 240, .inl (fun _ => 0))) Hn_71 := va_at.kept O_68 (on_71 _ (va_at.lt O_68))
  have O_77 : va_at D kcl (Hp_35.size, .inl (ca.1, 10, .inl (fun _ => 0))) Hn_71 := va_at.kept O_69 (on_71 _ (va_at.lt O_69))
  have O_78 : va_at D kcl (Hp_48.size, .inl (ca.1, 10, .inl (fun _ => 0))) Hn_71 := va_at.kept O_70 (on_71 _ (va_at.lt O_70))
  have O_79 : va_at D kcl (a, .inr (6, [.int 0, .int 0, .ref H.size, .ref Hp_3.size, .ref Hp_8.size, .ref Hp_15.size, .ref Hp_24.size, .ref Hp_35.size, .ref Hp_48.size, .null, .null, .null, .null, .null, .null, .null, .null])) Hn_71 := va_at.kept Op_63 (on_71 _ (va_at.lt Op_63))
  have hn7 : Hp_63.size = H.size + 7 := by omega
  refine yy_putF F X.1 X.2.1 g_M_31_M gt_M (fun C T N h => by cases h; exact ⟨rfl, rfl⟩) (hnm _ rfl) (fun C T N h => by cases h; exact q_856) Sn_71 ha O_79 rfl rfl (Nat.le_of_ble_eq_true rfl) d_M_init_67 (n := 70) rfl (fun Hp_80 locs_p_80 Op_80 ep_80 fp_80 Sp_80 => ?_)
  have O_81 : va_at D kcl (H.size, .inl (ca.1, 10, .inl (fun _ => 0))) Hp_80 := va_at.kept O_72 (fp_80 _ (by omega))
  have O_82 : va_at D kcl (Hp_3.size, .inl (ca.1, 10, .inl (fun _ => 0))) Hp_80 := va_at.kept O_73 (fp_80 _ (by omega))
  have O_83 : va_at D kcl (Hp_8.size, .inl (ca.1, 10, .inl (fun _ => 0))) Hp_80 := va_at.kept O_74 (fp_80 _ (by omega))
  have O_84 : va_at D kcl (Hp_15.size, .inl (ca.1, 240, .inl (fun _ => 0))) Hp_80 := va_at.kept O_75 (fp_80 _ (by omega))
  have O_85 : va_at D kcl (Hp_24.size, .inl (ca.1, 240, .inl (fun _ => 0))) Hp_80 := va_at.kept O_76 (fp_80 _ (by omega))
  have O_86 : va_at D kcl (Hp_35.size, .inl (ca.1, 10, .inl (fun _ => 0))) Hp_80 := va_at.kept O_77 (fp_80 _ (by omega))
  have O_87 : va_at D kcl (Hp_48.size, .inl (ca.1, 10, .inl (fun _ => 0))) Hp_80 := va_at.kept O_78 (fp_80 _ (by omega))
  have O_88 : va_at D kcl (Hp_63.size, .inl (ca.1, 10, .inl (fun _ => 0))) Hp_80 := va_at.kept On_71 (fp_80 _ (by omega))
  have Op_80 : va_at D kcl (a, .inr (6, [.int 0, .int 0, .ref H.size, .ref Hp_3.size, .ref Hp_8.size, .ref Hp_15.size, .ref Hp_24.size, .ref Hp_35.size, .ref Hp_48.size, .ref Hp_63.size, .null, .null, .null, .null, .null, .null, .null])) Hp_80 := Op_80
  refine yy_aload_n F d_M_init_70 (n := 71) rfl 0 rfl ?_
  refine yy_bipush (v := 10) F d_M_init_71 (n := 73) rfl rfl ?_
  refine yy_newi F X.1 X.2.1 0 rfl q_198 Sp_80 (by decide) (N := 10) rfl (by decide) ⟨by decide, by decide⟩ d_M_init_73 (n := 75) rfl (fun Hn_89 On_89 zn_89 on_89 Sn_89 => ?_)
  have O_90 : va_at D kcl (H.size, .inl (ca.1, 10, .inl (fun _ => 0))) Hn_89 := va_at.kept O_81 (on_89 _ (va_at.lt O_81))
  have O_91 : va_at D kcl (Hp_3.size, .inl (ca.1, 10, .inl (fun _ => 0))) Hn_89 := va_at.kept O_82 (on_89 _ (va_at.lt O_82))
  have O_92 : va_at D kcl (Hp_8.size, .inl (ca.1, 10, .inl (fun _ => 0))) Hn_89 := va_at.kept O_83 (on_89 _ (va_at.lt O_83))
  have O_93 : va_at D kcl (Hp_15.size, .inl (ca.1, 240, .inl (fun _ => 0))) Hn_89 := va_at.kept O_84 (on_89 _ (va_at.lt O_84))
  have O_94 : va_at D kcl (Hp_24.size, .inl (ca.1, 240, .inl (fun _ => 0))) Hn_89 := va_at.kept O_85 (on_89 _ (va_at.lt O_85))
  have O_95 : va_at D kcl (Hp_35.size, .inl (ca.1, 10, .inl (fun _ => 0))) Hn_89 := va_at.kept O_86 (on_89 _ (va_at.lt O_86))
  have O_96 : va_at D kcl (Hp_48.size, .inl (ca.1, 10, .inl (fun _ => 0))) Hn_89 := va_at.kept O_87 (on_89 _ (va_at.lt O_87))
  have O_97 : va_at D kcl (Hp_63.size, .inl (ca.1, 10, .inl (fun _ => 0))) Hn_89 := va_at.kept O_88 (on_89 _ (va_at.lt O_88))
  have O_98 : va_at D kcl (a, .inr (6, [.int 0, .int 0, .ref H.size, .ref Hp_3.size, .ref Hp_8.size, .ref Hp_15.size, .ref Hp_24.size, .ref Hp_35.size, .ref Hp_48.size, .ref Hp_63.size, .null, .null, .null, .null, .null, .null, .null])) Hn_89 := va_at.kept Op_80 (on_89 _ (va_at.lt Op_80))
  have hn8 : Hp_80.size = H.size + 8 := by omega
  refine yy_putF F X.1 X.2.1 g_M_34_M gt_M (fun C T N h => by cases h; exact ⟨rfl, rfl⟩) (hnm _ rfl) (fun C T N h => by cases h; exact q_857) Sn_89 ha O_98 rfl rfl (Nat.le_of_ble_eq_true rfl) d_M_init_75 (n := 78) rfl (fun Hp_99 locs_p_99 Op_99 ep_99 fp_99 Sp_99 => ?_)
  have O_100 : va_at D kcl (H.size, .inl (ca.1, 10, .inl (fun _ => 0))) Hp_99 := va_at.kept O_90 (fp_99 _ (by omega))
  have O_101 : va_at D kcl (Hp_3.size, .inl (ca.1, 10, .inl (fun _ => 0))) Hp_99 := va_at.kept O_91 (fp_99 _ (by omega))
  have O_102 : va_at D kcl (Hp_8.size, .inl (ca.1, 10, .inl (fun _ => 0))) Hp_99 := va_at.kept O_92 (fp_99 _ (by omega))
  have O_103 : va_at D kcl (Hp_15.size, .inl (ca.1, 240, .inl (fun _ => 0))) Hp_99 := va_at.kept O_93 (fp_99 _ (by omega))
  have O_104 : va_at D kcl (Hp_24.size, .inl (ca.1, 240, .inl (fun _ => 0))) Hp_99 := va_at.kept O_94 (fp_99 _ (by omega))
  have O_105 : va_at D kcl (Hp_35.size, .inl (ca.1, 10, .inl (fun _ => 0))) Hp_99 := va_at.kept O_95 (fp_99 _ (by omega))
  have O_106 : va_at D kcl (Hp_48.size, .inl (ca.1, 10, .inl (fun _ => 0))) Hp_99 := va_at.kept O_96 (fp_99 _ (by omega))
  have O_107 : va_at D kcl (Hp_63.size, .inl (ca.1, 10, .inl (fun _ => 0))) Hp_99 := va_at.kept O_97 (fp_99 _ (by omega))
  have O_108 : va_at D kcl (Hp_80.size, .inl (ca.1, 10, .inl (fun _ => 0))) Hp_99 := va_at.kept On_89 (fp_99 _ (by omega))
  have Op_99 : va_at D kcl (a, .inr (6, [.int 0, .int 0, .ref H.size, .ref Hp_3.size, .ref Hp_8.size, .ref Hp_15.size, .ref Hp_24.size, .ref Hp_35.size, .ref Hp_48.size, .ref Hp_63.size, .ref Hp_80.size, .null, .null, .null, .null, .null, .null])) Hp_99 := Op_99
  refine yy_aload_n F d_M_init_78 (n := 79) rfl 0 rfl ?_
  refine yy_bipush (v := 10) F d_M_init_79 (n := 81) rfl rfl ?_
  refine yy_newi F X.1 X.2.1 0 rfl q_198 Sp_99 (by decide) (N := 10) rfl (by decide) ⟨by decide, by decide⟩ d_M_init_81 (n := 83) rfl (fun Hn_109 On_109 zn_109 on_109 Sn_109 => ?_)
  have O_110 : va_at D kcl (H.size, .inl (ca.1, 10, .inl (fun _ => 0))) Hn_109 := va_at.kept O_100 (on_109 _ (va_at.lt O_100))
  have O_111 : va_at D kcl (Hp_3.size, .inl (ca.1, 10, .inl (fun _ => 0))) Hn_109 := va_at.kept O_101 (on_109 _ (va_at.lt O_101))
  have O_112 : va_at D kcl (Hp_8.size, .inl (ca.1, 10, .inl (fun _ => 0))) Hn_109 := va_at.kept O_102 (on_109 _ (va_at.lt O_102))
  have O_113 : va_at D kcl (Hp_15.size, .inl (ca.1, 240, .inl (fun _ => 0))) Hn_109 := va_at.kept O_103 (on_109 _ (va_at.lt O_103))
  have O_114 : va_at D kcl (Hp_24.size, .inl (ca.1, 240, .inl (fun _ => 0))) Hn_109 := va_at.kept O_104 (on_109 _ (va_at.lt O_104))
  have O_115 : va_at D kcl (Hp_35.size, .inl (ca.1, 10, .inl (fun _ => 0))) Hn_109 := va_at.kept O_105 (on_109 _ (va_at.lt O_105))
  have O_116 : va_at D kcl (Hp_48.size, .inl (ca.1, 10, .inl (fun _ => 0))) Hn_109 := va_at.kept O_106 (on_109 _ (va_at.lt O_106))
  have O_117 : va_at D kcl (Hp_63.size, .inl (ca.1, 10, .inl (fun _ => 0))) Hn_109 := va_at.kept O_107 (on_109 _ (va_at.lt O_107))
  have O_118 : va_at D kcl (Hp_80.size, .inl (ca.1, 10, .inl (fun _ => 0))) Hn_109 := va_at.kept O_108 (on_109 _ (va_at.lt O_108))
  have O_119 : va_at D kcl (a, .inr (6, [.int 0, .int 0, .ref H.size, .ref Hp_3.size, .ref Hp_8.size, .ref Hp_15.size, .ref Hp_24.size, .ref Hp_35.size, .ref Hp_48.size, .ref Hp_63.size, .ref Hp_80.size, .null, .null, .null, .null, .null, .null])) Hn_109 := va_at.kept Op_99 (on_109 _ (va_at.lt Op_99))
  have hn9 : Hp_99.size = H.size + 9 := by omega
  refine yy_putF F X.1 X.2.1 g_M_37_M gt_M (fun C T N h => by cases h; exact ⟨rfl, rfl⟩) (hnm _ rfl) (fun C T N h => by cases h; exact q_858) Sn_109 ha O_119 rfl rfl (Nat.le_of_ble_eq_true rfl) d_M_init_83 (n := 86) rfl (fun Hp_120 locs_p_120 Op_120 ep_120 fp_120 Sp_120 => ?_)
  have O_121 : va_at D kcl (H.size, .inl (ca.1, 10, .inl (fun _ => 0))) Hp_120 := va_at.kept O_110 (fp_120 _ (by omega))
  have O_122 : va_at D kcl (Hp_3.size, .inl (ca.1, 10, .inl (fun _ => 0))) Hp_120 := va_at.kept O_111 (fp_120 _ (by omega))
  have O_123 : va_at D kcl (Hp_8.size, .inl (ca.1, 10, .inl (fun _ => 0))) Hp_120 := va_at.kept O_112 (fp_120 _ (by omega))
  have O_124 : va_at D kcl (Hp_15.size, .inl (ca.1, 240, .inl (fun _ => 0))) Hp_120 := va_at.kept O_113 (fp_120 _ (by omega))
  have O_125 : va_at D kcl (Hp_24.size, .inl (ca.1, 240, .inl (fun _ => 0))) Hp_120 := va_at.kept O_114 (fp_120 _ (by omega))
  have O_126 : va_at D kcl (Hp_35.size, .inl (ca.1, 10, .inl (fun _ => 0))) Hp_120 := va_at.kept O_115 (fp_120 _ (by omega))
  have O_127 : va_at D kcl (Hp_48.size, .inl (ca.1, 10, .inl (fun _ => 0))) Hp_120 := va_at.kept O_116 (fp_120 _ (by omega))
  have O_128 : va_at D kcl (Hp_63.size, .inl (ca.1, 10, .inl (fun _ => 0))) Hp_120 := va_at.kept O_117 (fp_120 _ (by omega))
  have O_129 : va_at D kcl (Hp_80.size, .inl (ca.1, 10, .inl (fun _ => 0))) Hp_120 := va_at.kept O_118 (fp_120 _ (by omega))
  have O_130 : va_at D kcl (Hp_99.size, .inl (ca.1, 10, .inl (fun _ => 0))) Hp_120 := va_at.kept On_109 (fp_120 _ (by omega))
  have Op_120 : va_at D kcl (a, .inr (6, [.int 0, .int 0, .ref H.size, .ref Hp_3.size, .ref Hp_8.size, .ref Hp_15.size, .ref Hp_24.size, .ref Hp_35.size, .ref Hp_48.size, .ref Hp_63.size, .ref Hp_80.size, .ref Hp_99.size, .null, .null, .null, .null, .null])) Hp_120 := Op_120
  refine yy_aload_n F d_M_init_86 (n := 87) rfl 0 rfl ?_
  refine yy_bipush (v := 10) F d_M_init_87 (n := 89) rfl rfl ?_
  refine yy_newi F X.1 X.2.1 0 rfl q_198 Sp_120 (by decide) (N := 10) rfl (by decide) ⟨by decide, by decide⟩ d_M_init_89 (n := 91) rfl (fun Hn_131 On_131 zn_131 on_131 Sn_131 => ?_)
  have O_132 : va_at D kcl (H.size, .inl (ca.1, 10, .inl (fun _ => 0))) Hn_131 := va_at.kept O_121 (on_131 _ (va_at.lt O_121))
  have O_133 : va_at D kcl (Hp_3.size, .inl (ca.1, 10, .inl (fun _ => 0))) Hn_131 := va_at.kept O_122 (on_131 _ (va_at.lt O_122))
  have O_134 : va_at D kcl (Hp_8.size, .inl (ca.1, 10, .inl (fun _ => 0))) Hn_131 := va_at.kept O_123 (on_131 _ (va_at.lt O_123))
  have O_135 : va_at D kcl (Hp_15.size, .inl (ca.1, 240, .inl (fun _ => 0))) Hn_131 := va_at.kept O_124 (on_131 _ (va_at.lt O_124))
  have O_136 : va_at D kcl (Hp_24.size, .inl (ca.1, 240, .inl (fun _ => 0))) Hn_131 := va_at.kept O_125 (on_131 _ (va_at.lt O_125))
  have O_137 : va_at D kcl (Hp_35.size, .inl (ca.1, 10, .inl (fun _ => 0))) Hn_131 := va_at.kept O_126 (on_131 _ (va_at.lt O_126))
  have O_138 : va_at D kcl (Hp_48.size, .inl (ca.1, 10, .inl (fun _ => 0))) Hn_131 := va_at.kept O_127 (on_131 _ (va_at.lt O_127))
  have O_139 : va_at D kcl (Hp_63.size, .inl (ca.1, 10, .inl (fun _ => 0))) Hn_131 := va_at.kept O_128 (on_131 _ (va_at.lt O_128))
  have O_140 : va_at D kcl (Hp_80.size, .inl (ca.1, 10, .inl (fun _ => 0))) Hn_131 := va_at.kept O_129 (on_131 _ (va_at.lt O_129))
  have O_141 : va_at D kcl (Hp_99.size, .inl (ca.1, 10, .inl (fun _ => 0))) Hn_131 := va_at.kept O_130 (on_131 _ (va_at.lt O_130))
  have O_142 : va_at D kcl (a, .inr (6, [.int 0, .int 0, .ref H.size, .ref Hp_3.size, .ref Hp_8.size, .ref Hp_15.size, .ref Hp_24.size, .ref Hp_35.size, .ref Hp_48.size, .ref Hp_63.size, .ref Hp_80.size, .ref Hp_99.size, .null, .null, .null, .null, .null])) Hn_131 := va_at.kept Op_120 (on_131 _ (va_at.lt Op_120))
  have hn10 : Hp_120.size = H.size + 10 := by omega
  refine yy_putF F X.1 X.2.1 g_M_40_M gt_M (fun C T N h => by cases h; exact ⟨rfl, rfl⟩) (hnm _ rfl) (fun C T N h => by cases h; exact q_859) Sn_131 ha O_142 rfl rfl (Nat.le_of_ble_eq_true rfl) d_M_init_91 (n := 94) rfl (fun Hp_143 locs_p_143 Op_143 ep_143 fp_143 Sp_143 => ?_)
  have O_144 : va_at D kcl (H.size, .inl (ca.1, 10, .inl (fun _ => 0))) Hp_143 := va_at.kept O_132 (fp_143 _ (by omega))
  have O_145 : va_at D kcl (Hp_3.size, .inl (ca.1, 10, .inl (fun _ => 0))) Hp_143 := va_at.kept O_133 (fp_143 _ (by omega))
  have O_146 : va_at D kcl (Hp_8.size, .inl (ca.1, 10, .inl (fun _ => 0))) Hp_143 := va_at.kept O_134 (fp_143 _ (by omega))
  have O_147 : va_at D kcl (Hp_15.size, .inl (ca.1, 240, .inl (fun _ => 0))) Hp_143 := va_at.kept O_135 (fp_143 _ (by omega))
  have O_148 : va_at D kcl (Hp_24.size, .inl (ca.1, 240, .inl (fun _ => 0))) Hp_143 := va_at.kept O_136 (fp_143 _ (by omega))
  have O_149 : va_at D kcl (Hp_35.size, .inl (ca.1, 10, .inl (fun _ => 0))) Hp_143 := va_at.kept O_137 (fp_143 _ (by omega))
  have O_150 : va_at D kcl (Hp_48.size, .inl (ca.1, 10, .inl (fun _ => 0))) Hp_143 := va_at.kept O_138 (fp_143 _ (by omega))
  have O_151 : va_at D kcl (Hp_63.size, .inl (ca.1, 10, .inl (fun _ => 0))) Hp_143 := va_at.kept O_139 (fp_143 _ (by omega))
  have O_152 : va_at D kcl (Hp_80.size, .inl (ca.1, 10, .inl (fun _ => 0))) Hp_143 := va_at.kept O_140 (fp_143 _ (by omega))
  have O_153 : va_at D kcl (Hp_99.size, .inl (ca.1, 10, .inl (fun _ => 0))) Hp_143 := va_at.kept O_141 (fp_143 _ (by omega))
  have O_154 : va_at D kcl (Hp_120.size, .inl (ca.1, 10, .inl (fun _ => 0))) Hp_143 := va_at.kept On_131 (fp_143 _ (by omega))
  have Op_143 : va_at D kcl (a, .inr (6, [.int 0, .int 0, .ref H.size, .ref Hp_3.size, .ref Hp_8.size, .ref Hp_15.size, .ref Hp_24.size, .ref Hp_35.size, .ref Hp_48.size, .ref Hp_63.size, .ref Hp_80.size, .ref Hp_99.size, .ref Hp_120.size, .null, .null, .null, .null])) Hp_143 := Op_143
  refine yy_aload_n F d_M_init_94 (n := 95) rfl 0 rfl ?_
  refine yy_iconst (v := 4) F d_M_init_95 (n := 96) rfl rfl ?_
  refine yy_newi F X.1 X.2.1 0 rfl q_198 Sp_143 (by decide) (N := 4) rfl (by decide) ⟨by decide, by decide⟩ d_M_init_96 (n := 98) rfl (fun Hn_155 On_155 zn_155 on_155 Sn_155 => ?_)
  have O_156 : va_at D kcl (H.size, .inl (ca.1, 10, .inl (fun _ => 0))) Hn_155 := va_at.kept O_144 (on_155 _ (va_at.lt O_144))
  have O_157 : va_at D kcl (Hp_3.size, .inl (ca.1, 10, .inl (fun _ => 0))) Hn_155 := va_at.kept O_145 (on_155 _ (va_at.lt O_145))
  have O_158 : va_at D kcl (Hp_8.size, .inl (ca.1, 10, .inl (fun _ => 0))) Hn_155 := va_at.kept O_146 (on_155 _ (va_at.lt O_146))
  have O_159 : va_at D kcl (Hp_15.size, .inl (ca.1, 240, .inl (fun _ => 0))) Hn_155 := va_at.kept O_147 (on_155 _ (va_at.lt O_147))
  have O_160 : va_at D kcl (Hp_24.size, .inl (ca.1, 240, .inl (fun _ => 0))) Hn_155 := va_at.kept O_148 (on_155 _ (va_at.lt O_148))
  have O_161 : va_at D kcl (Hp_35.size, .inl (ca.1, 10, .inl (fun _ => 0))) Hn_155 := va_at.kept O_149 (on_155 _ (va_at.lt O_149))
  have O_162 : va_at D kcl (Hp_48.size, .inl (ca.1, 10, .inl (fun _ => 0))) Hn_155 := va_at.kept O_150 (on_155 _ (va_at.lt O_150))
  have O_163 : va_at D kcl (Hp_63.size, .inl (ca.1, 10, .inl (fun _ => 0))) Hn_155 := va_at.kept O_151 (on_155 _ (va_at.lt O_151))
  have O_164 : va_at D kcl (Hp_80.size, .inl (ca.1, 10, .inl (fun _ => 0))) Hn_155 := va_at.kept O_152 (on_155 _ (va_at.lt O_152))
  have O_165 : va_at D kcl (Hp_99.size, .inl (ca.1, 10, .inl (fun _ => 0))) Hn_155 := va_at.kept O_153 (on_155 _ (va_at.lt O_153))
  have O_166 : va_at D kcl (Hp_120.size, .inl (ca.1, 10, .inl (fun _ => 0))) Hn_155 := va_at.kept O_154 (on_155 _ (va_at.lt O_154))
  have O_167 : va_at D kcl (a, .inr (6, [.int 0, .int 0, .ref H.size, .ref Hp_3.size, .ref Hp_8.size, .ref Hp_15.size, .ref Hp_24.size, .ref Hp_35.size, .ref Hp_48.size, .ref Hp_63.size, .ref Hp_80.size, .ref Hp_99.size, .ref Hp_120.size, .null, .null, .null, .null])) Hn_155 := va_at.kept Op_143 (on_155 _ (va_at.lt Op_143))
  have hn11 : Hp_143.size = H.size + 11 := by omega
  refine yy_dup F d_M_init_98 (n := 99) rfl rfl ?_
  refine yy_iconst (v := 0) F d_M_init_99 (n := 100) rfl rfl ?_
  refine yy_iconst (v := (-1)) F d_M_init_100 (n := 101) rfl rfl ?_
  refine yy_iast F X.2.1 0 rfl Sn_155 (by omega) On_155 (vp_in_nI (n := 0) (by decide) (by decide)) d_M_init_101 (n := 102) rfl (fun Hq_168 locs_q_168 Oq_168 eq_168 fq_168 Sq_168 => ?_)
  have O_169 : va_at D kcl (H.size, .inl (ca.1, 10, .inl (fun _ => 0))) Hq_168 := va_at.kept O_156 (fq_168 _ (by omega))
  have O_170 : va_at D kcl (Hp_3.size, .inl (ca.1, 10, .inl (fun _ => 0))) Hq_168 := va_at.kept O_157 (fq_168 _ (by omega))
  have O_171 : va_at D kcl (Hp_8.size, .inl (ca.1, 10, .inl (fun _ => 0))) Hq_168 := va_at.kept O_158 (fq_168 _ (by omega))
  have O_172 : va_at D kcl (Hp_15.size, .inl (ca.1, 240, .inl (fun _ => 0))) Hq_168 := va_at.kept O_159 (fq_168 _ (by omega))
  have O_173 : va_at D kcl (Hp_24.size, .inl (ca.1, 240, .inl (fun _ => 0))) Hq_168 := va_at.kept O_160 (fq_168 _ (by omega))
  have O_174 : va_at D kcl (Hp_35.size, .inl (ca.1, 10, .inl (fun _ => 0))) Hq_168 := va_at.kept O_161 (fq_168 _ (by omega))
  have O_175 : va_at D kcl (Hp_48.size, .inl (ca.1, 10, .inl (fun _ => 0))) Hq_168 := va_at.kept O_162 (fq_168 _ (by omega))
  have O_176 : va_at D kcl (Hp_63.size, .inl (ca.1, 10, .inl (fun _ => 0))) Hq_168 := va_at.kept O_163 (fq_168 _ (by omega))
  have O_177 : va_at D kcl (Hp_80.size, .inl (ca.1, 10, .inl (fun _ => 0))) Hq_168 := va_at.kept O_164 (fq_168 _ (by omega))
  have O_178 : va_at D kcl (Hp_99.size, .inl (ca.1, 10, .inl (fun _ => 0))) Hq_168 := va_at.kept O_165 (fq_168 _ (by omega))
  have O_179 : va_at D kcl (Hp_120.size, .inl (ca.1, 10, .inl (fun _ => 0))) Hq_168 := va_at.kept O_166 (fq_168 _ (by omega))
  have O_180 : va_at D kcl (a, .inr (6, [.int 0, .int 0, .ref H.size, .ref Hp_3.size, .ref Hp_8.size, .ref Hp_15.size, .ref Hp_24.size, .ref Hp_35.size, .ref Hp_48.size, .ref Hp_63.size, .ref Hp_80.size, .ref Hp_99.size, .ref Hp_120.size, .null, .null, .null, .null])) Hq_168 := va_at.kept O_167 (fq_168 _ (by omega))
  have Oq_168 : va_at D kcl (Hp_143.size, .inl (ca.1, 4, .inl (upd (fun _ => 0) 0 (-1)))) Hq_168 := Oq_168
  refine yy_dup F d_M_init_102 (n := 103) rfl rfl ?_
  refine yy_iconst (v := 1) F d_M_init_103 (n := 104) rfl rfl ?_
  refine yy_iconst (v := (-1)) F d_M_init_104 (n := 105) rfl rfl ?_
  refine yy_iast F X.2.1 0 rfl Sq_168 (by omega) Oq_168 (vp_in_nI (n := 1) (by decide) (by decide)) d_M_init_105 (n := 106) rfl (fun Hq_181 locs_q_181 Oq_181 eq_181 fq_181 Sq_181 => ?_)
  have O_182 : va_at D kcl (H.size, .inl (ca.1, 10, .inl (fun _ => 0))) Hq_181 := va_at.kept O_169 (fq_181 _ (by omega))
  have O_183 : va_at D kcl (Hp_3.size, .inl (ca.1, 10, .inl (fun _ => 0))) Hq_181 := va_at.kept O_170 (fq_181 _ (by omega))
  have O_184 : va_at D kcl (Hp_8.size, .inl (ca.1, 10, .inl (fun _ => 0))) Hq_181 := va_at.kept O_171 (fq_181 _ (by omega))
  have O_185 : va_at D kcl (Hp_15.size, .inl (ca.1, 240, .inl (fun _ => 0))) Hq_181 := va_at.kept O_172 (fq_181 _ (by omega))
  have O_186 : va_at D kcl (Hp_24.size, .inl (ca.1, 240, .inl (fun _ => 0))) Hq_181 := va_at.kept O_173 (fq_181 _ (by omega))
  have O_187 : va_at D kcl (Hp_35.size, .inl (ca.1, 10, .inl (fun _ => 0))) Hq_181 := va_at.kept O_174 (fq_181 _ (by omega))
  have O_188 : va_at D kcl (Hp_48.size, .inl (ca.1, 10, .inl (fun _ => 0))) Hq_181 := va_at.kept O_175 (fq_181 _ (by omega))
  have O_189 : va_at D kcl (Hp_63.size, .inl (ca.1, 10, .inl (fun _ => 0))) Hq_181 := va_at.kept O_176 (fq_181 _ (by omega))
  have O_190 : va_at D kcl (Hp_80.size, .inl (ca.1, 10, .inl (fun _ => 0))) Hq_181 := va_at.kept O_177 (fq_181 _ (by omega))
  have O_191 : va_at D kcl (Hp_99.size, .inl (ca.1, 10, .inl (fun _ => 0))) Hq_181 := va_at.kept O_178 (fq_181 _ (by omega))
  have O_192 : va_at D kcl (Hp_120.size, .inl (ca.1, 10, .inl (fun _ => 0))) Hq_181 := va_at.kept O_179 (fq_181 _ (by omega))
  have O_193 : va_at D kcl (a, .inr (6, [.int 0, .int 0, .ref H.size, .ref Hp_3.size, .ref Hp_8.size, .ref Hp_15.size, .ref Hp_24.size, .ref Hp_35.size, .ref Hp_48.size, .ref Hp_63.size, .ref Hp_80.size, .ref Hp_99.size, .ref Hp_120.size, .null, .null, .null, .null])) Hq_181 := va_at.kept O_180 (fq_181 _ (by omega))
  have Oq_181 : va_at D kcl (Hp_143.size, .inl (ca.1, 4, .inl (upd (upd (fun _ => 0) 0 (-1)) 1 (-1)))) Hq_181 := Oq_181
  refine yy_dup F d_M_init_106 (n := 107) rfl rfl ?_
  refine yy_iconst (v := 2) F d_M_init_107 (n := 108) rfl rfl ?_
  refine yy_iconst (v := (-1)) F d_M_init_108 (n := 109) rfl rfl ?_
  refine yy_iast F X.2.1 0 rfl Sq_181 (by omega) Oq_181 (vp_in_nI (n := 2) (by decide) (by decide)) d_M_init_109 (n := 110) rfl (fun Hq_194 locs_q_194 Oq_194 eq_194 fq_194 Sq_194 => ?_)
  have O_195 : va_at D kcl (H.size, .inl (ca.1, 10, .inl (fun _ => 0))) Hq_194 := va_at.kept O_182 (fq_194 _ (by omega))
  have O_196 : va_at D kcl (Hp_3.size, .inl (ca.1, 10, .inl (fun _ => 0))) Hq_194 := va_at.kept O_183 (fq_194 _ (by omega))
  have O_197 : va_at D kcl (Hp_8.size, .inl (ca.1, 10, .inl (fun _ => 0))) Hq_194 := va_at.kept O_184 (fq_194 _ (by omega))
  have O_198 : va_at D kcl (Hp_15.size, .inl (ca.1, 240, .inl (fun _ => 0))) Hq_194 := va_at.kept O_185 (fq_194 _ (by omega))
  have O_199 : va_at D kcl (Hp_24.size, .inl (ca.1, 240, .inl (fun _ => 0))) Hq_194 := va_at.kept O_186 (fq_194 _ (by omega))
  have O_200 : va_at D kcl (Hp_35.size, .inl (ca.1, 10, .inl (fun _ => 0))) Hq_194 := va_at.kept O_187 (fq_194 _ (by omega))
  have O_201 : va_at D kcl (Hp_48.size, .inl (ca.1, 10, .inl (fun _ => 0))) Hq_194 := va_at.kept O_188 (fq_194 _ (by omega))
  have O_202 : va_at D kcl (Hp_63.size, .inl (ca.1, 10, .inl (fun _ => 0))) Hq_194 := va_at.kept O_189 (fq_194 _ (by omega))
  have O_203 : va_at D kcl (Hp_80.size, .inl (ca.1, 10, .inl (fun _ => 0))) Hq_194 := va_at.kept O_190 (fq_194 _ (by omega))
  have O_204 : va_at D kcl (Hp_99.size, .inl (ca.1, 10, .inl (fun _ => 0))) Hq_194 := va_at.kept O_191 (fq_194 _ (by omega))
  have O_205 : va_at D kcl (Hp_120.size, .inl (ca.1, 10, .inl (fun _ => 0))) Hq_194 := va_at.kept O_192 (fq_194 _ (by omega))
  have O_206 : va_at D kcl (a, .inr (6, [.int 0, .int 0, .ref H.size, .ref Hp_3.size, .ref Hp_8.size, .ref Hp_15.size, .ref Hp_24.size, .ref Hp_35.size, .ref Hp_48.size, .ref Hp_63.size, .ref Hp_80.size, .ref Hp_99.size, .ref Hp_120.size, .null, .null, .null, .null])) Hq_194 := va_at.kept O_193 (fq_194 _ (by omega))
  have Oq_194 : va_at D kcl (Hp_143.size, .inl (ca.1, 4, .inl (upd (upd (upd (fun _ => 0) 0 (-1)) 1 (-1)) 2 (-1)))) Hq_194 := Oq_194
  refine yy_dup F d_M_init_110 (n := 111) rfl rfl ?_
  refine yy_iconst (v := 3) F d_M_init_111 (n := 112) rfl rfl ?_
  refine yy_iconst (v := (-1)) F d_M_init_112 (n := 113) rfl rfl ?_
  refine yy_iast F X.2.1 0 rfl Sq_194 (by omega) Oq_194 (vp_in_nI (n := 3) (by decide) (by decide)) d_M_init_113 (n := 114) rfl (fun Hq_207 locs_q_207 Oq_207 eq_207 fq_207 Sq_207 => ?_)
  have O_208 : va_at D kcl (H.size, .inl (ca.1, 10, .inl (fun _ => 0))) Hq_207 := va_at.kept O_195 (fq_207 _ (by omega))
  have O_209 : va_at D kcl (Hp_3.size, .inl (ca.1, 10, .inl (fun _ => 0))) Hq_207 := va_at.kept O_196 (fq_207 _ (by omega))
  have O_210 : va_at D kcl (Hp_8.size, .inl (ca.1, 10, .inl (fun _ => 0))) Hq_207 := va_at.kept O_197 (fq_207 _ (by omega))
  have O_211 : va_at D kcl (Hp_15.size, .inl (ca.1, 240, .inl (fun _ => 0))) Hq_207 := va_at.kept O_198 (fq_207 _ (by omega))
  have O_212 : va_at D kcl (Hp_24.size, .inl (ca.1, 240, .inl (fun _ => 0))) Hq_207 := va_at.kept O_199 (fq_207 _ (by omega))
  have O_213 : va_at D kcl (Hp_35.size, .inl (ca.1, 10, .inl (fun _ => 0))) Hq_207 := va_at.kept O_200 (fq_207 _ (by omega))
  have O_214 : va_at D kcl (Hp_48.size, .inl (ca.1, 10, .inl (fun _ => 0))) Hq_207 := va_at.kept O_201 (fq_207 _ (by omega))
  have O_215 : va_at D kcl (Hp_63.size, .inl (ca.1, 10, .inl (fun _ => 0))) Hq_207 := va_at.kept O_202 (fq_207 _ (by omega))
  have O_216 : va_at D kcl (Hp_80.size, .inl (ca.1, 10, .inl (fun _ => 0))) Hq_207 := va_at.kept O_203 (fq_207 _ (by omega))
  have O_217 : va_at D kcl (Hp_99.size, .inl (ca.1, 10, .inl (fun _ => 0))) Hq_207 := va_at.kept O_204 (fq_207 _ (by omega))
  have O_218 : va_at D kcl (Hp_120.size, .inl (ca.1, 10, .inl (fun _ => 0))) Hq_207 := va_at.kept O_205 (fq_207 _ (by omega))
  have O_219 : va_at D kcl (a, .inr (6, [.int 0, .int 0, .ref H.size, .ref Hp_3.size, .ref Hp_8.size, .ref Hp_15.size, .ref Hp_24.size, .ref Hp_35.size, .ref Hp_48.size, .ref Hp_63.size, .ref Hp_80.size, .ref Hp_99.size, .ref Hp_120.size, .null, .null, .null, .null])) Hq_207 := va_at.kept O_206 (fq_207 _ (by omega))
  have Oq_207 : va_at D kcl (Hp_143.size, .inl (ca.1, 4, .inl (upd (upd (upd (upd (fun _ => 0) 0 (-1)) 1 (-1)) 2 (-1)) 3 (-1)))) Hq_207 := Oq_207
  refine yy_putF F X.1 X.2.1 g_M_43_M gt_M (fun C T N h => by cases h; exact ⟨rfl, rfl⟩) (hnm _ rfl) (fun C T N h => by cases h; exact q_860) Sq_207 ha O_219 rfl rfl (Nat.le_of_ble_eq_true rfl) d_M_init_114 (n := 117) rfl (fun Hp_220 locs_p_220 Op_220 ep_220 fp_220 Sp_220 => ?_)
  have O_221 : va_at D kcl (H.size, .inl (ca.1, 10, .inl (fun _ => 0))) Hp_220 := va_at.kept O_208 (fp_220 _ (by omega))
  have O_222 : va_at D kcl (Hp_3.size, .inl (ca.1, 10, .inl (fun _ => 0))) Hp_220 := va_at.kept O_209 (fp_220 _ (by omega))
  have O_223 : va_at D kcl (Hp_8.size, .inl (ca.1, 10, .inl (fun _ => 0))) Hp_220 := va_at.kept O_210 (fp_220 _ (by omega))
  have O_224 : va_at D kcl (Hp_15.size, .inl (ca.1, 240, .inl (fun _ => 0))) Hp_220 := va_at.kept O_211 (fp_220 _ (by omega))
  have O_225 : va_at D kcl (Hp_24.size, .inl (ca.1, 240, .inl (fun _ => 0))) Hp_220 := va_at.kept O_212 (fp_220 _ (by omega))
  have O_226 : va_at D kcl (Hp_35.size, .inl (ca.1, 10, .inl (fun _ => 0))) Hp_220 := va_at.kept O_213 (fp_220 _ (by omega))
  have O_227 : va_at D kcl (Hp_48.size, .inl (ca.1, 10, .inl (fun _ => 0))) Hp_220 := va_at.kept O_214 (fp_220 _ (by omega))
  have O_228 : va_at D kcl (Hp_63.size, .inl (ca.1, 10, .inl (fun _ => 0))) Hp_220 := va_at.kept O_215 (fp_220 _ (by omega))
  have O_229 : va_at D kcl (Hp_80.size, .inl (ca.1, 10, .inl (fun _ => 0))) Hp_220 := va_at.kept O_216 (fp_220 _ (by omega))
  have O_230 : va_at D kcl (Hp_99.size, .inl (ca.1, 10, .inl (fun _ => 0))) Hp_220 := va_at.kept O_217 (fp_220 _ (by omega))
  have O_231 : va_at D kcl (Hp_120.size, .inl (ca.1, 10, .inl (fun _ => 0))) Hp_220 := va_at.kept O_218 (fp_220 _ (by omega))
  have O_232 : va_at D kcl (Hp_143.size, .inl (ca.1, 4, .inl (upd (upd (upd (upd (fun _ => 0) 0 (-1)) 1 (-1)) 2 (-1)) 3 (-1)))) Hp_220 := va_at.kept Oq_207 (fp_220 _ (by omega))
  have Op_220 : va_at D kcl (a, .inr (6, [.int 0, .int 0, .ref H.size, .ref Hp_3.size, .ref Hp_8.size, .ref Hp_15.size, .ref Hp_24.size, .ref Hp_35.size, .ref Hp_48.size, .ref Hp_63.size, .ref Hp_80.size, .ref Hp_99.size, .ref Hp_120.size, .ref Hp_143.size, .null, .null, .null])) Hp_220 := Op_220
  refine yy_aload_n F d_M_init_117 (n := 118) rfl 0 rfl ?_
  refine yy_iconst (v := 4) F d_M_init_118 (n := 119) rfl rfl ?_
  refine yy_newi F X.1 X.2.1 0 rfl q_198 Sp_220 (by decide) (N := 4) rfl (by decide) ⟨by decide, by decide⟩ d_M_init_119 (n := 121) rfl (fun Hn_233 On_233 zn_233 on_233 Sn_233 => ?_)
  have O_234 : va_at D kcl (H.size, .inl (ca.1, 10, .inl (fun _ => 0))) Hn_233 := va_at.kept O_221 (on_233 _ (va_at.lt O_221))
  have O_235 : va_at D kcl (Hp_3.size, .inl (ca.1, 10, .inl (fun _ => 0))) Hn_233 := va_at.kept O_222 (on_233 _ (va_at.lt O_222))
  have O_236 : va_at D kcl (Hp_8.size, .inl (ca.1, 10, .inl (fun _ => 0))) Hn_233 := va_at.kept O_223 (on_233 _ (va_at.lt O_223))
  have O_237 : va_at D kcl (Hp_15.size, .inl (ca.1, 240, .inl (fun _ => 0))) Hn_233 := va_at.kept O_224 (on_233 _ (va_at.lt O_224))
  have O_238 : va_at D kcl (Hp_24.size, .inl (ca.1, 240, .inl (fun _ => 0))) Hn_233 := va_at.kept O_225 (on_233 _ (va_at.lt O_225))
  have O_239 : va_at D kcl (Hp_35.size, .inl (ca.1, 10, .inl (fun _ => 0))) Hn_233 := va_at.kept O_226 (on_233 _ (va_at.lt O_226))
  have O_240 : va_at D kcl (Hp_48.size, .inl (ca.1, 10, .inl (fun _ => 0))) Hn_233 := va_at.kept O_227 (on_233 _ (va_at.lt O_227))
  have O_241 : va_at D kcl (Hp_63.size, .inl (ca.1, 10, .inl (fun _ => 0))) Hn_233 := va_at.kept O_228 (on_233 _ (va_at.lt O_228))
  have O_242 : va_at D kcl (Hp_80.size, .inl (ca.1, 10, .inl (fun _ => 0))) Hn_233 := va_at.kept O_229 (on_233 _ (va_at.lt O_229))
  have O_243 : va_at D kcl (Hp_99.size, .inl (ca.1, 10, .inl (fun _ => 0))) Hn_233 := va_at.kept O_230 (on_233 _ (va_at.lt O_230))
  have O_244 : va_at D kcl (Hp_120.size, .inl (ca.1, 10, .inl (fun _ => 0))) Hn_233 := va_at.kept O_231 (on_233 _ (va_at.lt O_231))
  have O_245 : va_at D kcl (Hp_143.size, .inl (ca.1, 4, .inl (upd (upd (upd (upd (fun _ => 0) 0 (-1)) 1 (-1)) 2 (-1)) 3 (-1)))) Hn_233 := va_at.kept O_232 (on_233 _ (va_at.lt O_232))
  have O_246 : va_at D kcl (a, .inr (6, [.int 0, .int 0, .ref H.size, .ref Hp_3.size, .ref Hp_8.size, .ref Hp_15.size, .ref Hp_24.size, .ref Hp_35.size, .ref Hp_48.size, .ref Hp_63.size, .ref Hp_80.size, .ref Hp_99.size, .ref Hp_120.size, .ref Hp_143.size, .null, .null, .null])) Hn_233 := va_at.kept Op_220 (on_233 _ (va_at.lt Op_220))
  have hn12 : Hp_220.size = H.size + 12 := by omega
  refine yy_putF F X.1 X.2.1 g_M_46_M gt_M (fun C T N h => by cases h; exact ⟨rfl, rfl⟩) (hnm _ rfl) (fun C T N h => by cases h; exact q_861) Sn_233 ha O_246 rfl rfl (Nat.le_of_ble_eq_true rfl) d_M_init_121 (n := 124) rfl (fun Hp_247 locs_p_247 Op_247 ep_247 fp_247 Sp_247 => ?_)
  have O_248 : va_at D kcl (H.size, .inl (ca.1, 10, .inl (fun _ => 0))) Hp_247 := va_at.kept O_234 (fp_247 _ (by omega))
  have O_249 : va_at D kcl (Hp_3.size, .inl (ca.1, 10, .inl (fun _ => 0))) Hp_247 := va_at.kept O_235 (fp_247 _ (by omega))
  have O_250 : va_at D kcl (Hp_8.size, .inl (ca.1, 10, .inl (fun _ => 0))) Hp_247 := va_at.kept O_236 (fp_247 _ (by omega))
  have O_251 : va_at D kcl (Hp_15.size, .inl (ca.1, 240, .inl (fun _ => 0))) Hp_247 := va_at.kept O_237 (fp_247 _ (by omega))
  have O_252 : va_at D kcl (Hp_24.size, .inl (ca.1, 240, .inl (fun _ => 0))) Hp_247 := va_at.kept O_238 (fp_247 _ (by omega))
  have O_253 : va_at D kcl (Hp_35.size, .inl (ca.1, 10, .inl (fun _ => 0))) Hp_247 := va_at.kept O_239 (fp_247 _ (by omega))
  have O_254 : va_at D kcl (Hp_48.size, .inl (ca.1, 10, .inl (fun _ => 0))) Hp_247 := va_at.kept O_240 (fp_247 _ (by omega))
  have O_255 : va_at D kcl (Hp_63.size, .inl (ca.1, 10, .inl (fun _ => 0))) Hp_247 := va_at.kept O_241 (fp_247 _ (by omega))
  have O_256 : va_at D kcl (Hp_80.size, .inl (ca.1, 10, .inl (fun _ => 0))) Hp_247 := va_at.kept O_242 (fp_247 _ (by omega))
  have O_257 : va_at D kcl (Hp_99.size, .inl (ca.1, 10, .inl (fun _ => 0))) Hp_247 := va_at.kept O_243 (fp_247 _ (by omega))
  have O_258 : va_at D kcl (Hp_120.size, .inl (ca.1, 10, .inl (fun _ => 0))) Hp_247 := va_at.kept O_244 (fp_247 _ (by omega))
  have O_259 : va_at D kcl (Hp_143.size, .inl (ca.1, 4, .inl (upd (upd (upd (upd (fun _ => 0) 0 (-1)) 1 (-1)) 2 (-1)) 3 (-1)))) Hp_247 := va_at.kept O_245 (fp_247 _ (by omega))
  have O_260 : va_at D kcl (Hp_220.size, .inl (ca.1, 4, .inl (fun _ => 0))) Hp_247 := va_at.kept On_233 (fp_247 _ (by omega))
  have Op_247 : va_at D kcl (a, .inr (6, [.int 0, .int 0, .ref H.size, .ref Hp_3.size, .ref Hp_8.size, .ref Hp_15.size, .ref Hp_24.size, .ref Hp_35.size, .ref Hp_48.size, .ref Hp_63.size, .ref Hp_80.size, .ref Hp_99.size, .ref Hp_120.size, .ref Hp_143.size, .ref Hp_220.size, .null, .null])) Hp_247 := Op_247
  refine yy_aload_n F d_M_init_124 (n := 125) rfl 0 rfl ?_
  refine yy_iconst (v := 4) F d_M_init_125 (n := 126) rfl rfl ?_
  refine yy_newi F X.1 X.2.1 0 rfl q_198 Sp_247 (by decide) (N := 4) rfl (by decide) ⟨by decide, by decide⟩ d_M_init_126 (n := 128) rfl (fun Hn_261 On_261 zn_261 on_261 Sn_261 => ?_)
  have O_262 : va_at D kcl (H.size, .inl (ca.1, 10, .inl (fun _ => 0))) Hn_261 := va_at.kept O_248 (on_261 _ (va_at.lt O_248))
  have O_263 : va_at D kcl (Hp_3.size, .inl (ca.1, 10, .inl (fun _ => 0))) Hn_261 := va_at.kept O_249 (on_261 _ (va_at.lt O_249))
  have O_264 : va_at D kcl (Hp_8.size, .inl (ca.1, 10, .inl (fun _ => 0))) Hn_261 := va_at.kept O_250 (on_261 _ (va_at.lt O_250))
  have O_265 : va_at D kcl (Hp_15.size, .inl (ca.1, 240, .inl (fun _ => 0))) Hn_261 := va_at.kept O_251 (on_261 _ (va_at.lt O_251))
  have O_266 : va_at D kcl (Hp_24.size, .inl (ca.1, 240, .inl (fun _ => 0))) Hn_261 := va_at.kept O_252 (on_261 _ (va_at.lt O_252))
  have O_267 : va_at D kcl (Hp_35.size, .inl (ca.1, 10, .inl (fun _ => 0))) Hn_261 := va_at.kept O_253 (on_261 _ (va_at.lt O_253))
  have O_268 : va_at D kcl (Hp_48.size, .inl (ca.1, 10, .inl (fun _ => 0))) Hn_261 := va_at.kept O_254 (on_261 _ (va_at.lt O_254))
  have O_269 : va_at D kcl (Hp_63.size, .inl (ca.1, 10, .inl (fun _ => 0))) Hn_261 := va_at.kept O_255 (on_261 _ (va_at.lt O_255))
  have O_270 : va_at D kcl (Hp_80.size, .inl (ca.1, 10, .inl (fun _ => 0))) Hn_261 := va_at.kept O_256 (on_261 _ (va_at.lt O_256))
  have O_271 : va_at D kcl (Hp_99.size, .inl (ca.1, 10, .inl (fun _ => 0))) Hn_261 := va_at.kept O_257 (on_261 _ (va_at.lt O_257))
  have O_272 : va_at D kcl (Hp_120.size, .inl (ca.1, 10, .inl (fun _ => 0))) Hn_261 := va_at.kept O_258 (on_261 _ (va_at.lt O_258))
  have O_273 : va_at D kcl (Hp_143.size, .inl (ca.1, 4, .inl (upd (upd (upd (upd (fun _ => 0) 0 (-1)) 1 (-1)) 2 (-1)) 3 (-1)))) Hn_261 := va_at.kept O_259 (on_261 _ (va_at.lt O_259))
  have O_274 : va_at D kcl (Hp_220.size, .inl (ca.1, 4, .inl (fun _ => 0))) Hn_261 := va_at.kept O_260 (on_261 _ (va_at.lt O_260))
  have O_275 : va_at D kcl (a, .inr (6, [.int 0, .int 0, .ref H.size, .ref Hp_3.size, .ref Hp_8.size, .ref Hp_15.size, .ref Hp_24.size, .ref Hp_35.size, .ref Hp_48.size, .ref Hp_63.size, .ref Hp_80.size, .ref Hp_99.size, .ref Hp_120.size, .ref Hp_143.size, .ref Hp_220.size, .null, .null])) Hn_261 := va_at.kept Op_247 (on_261 _ (va_at.lt Op_247))
  have hn13 : Hp_247.size = H.size + 13 := by omega
  refine yy_putF F X.1 X.2.1 g_M_49_M gt_M (fun C T N h => by cases h; exact ⟨rfl, rfl⟩) (hnm _ rfl) (fun C T N h => by cases h; exact q_862) Sn_261 ha O_275 rfl rfl (Nat.le_of_ble_eq_true rfl) d_M_init_128 (n := 131) rfl (fun Hp_276 locs_p_276 Op_276 ep_276 fp_276 Sp_276 => ?_)
  have O_277 : va_at D kcl (H.size, .inl (ca.1, 10, .inl (fun _ => 0))) Hp_276 := va_at.kept O_262 (fp_276 _ (by omega))
  have O_278 : va_at D kcl (Hp_3.size, .inl (ca.1, 10, .inl (fun _ => 0))) Hp_276 := va_at.kept O_263 (fp_276 _ (by omega))
  have O_279 : va_at D kcl (Hp_8.size, .inl (ca.1, 10, .inl (fun _ => 0))) Hp_276 := va_at.kept O_264 (fp_276 _ (by omega))
  have O_280 : va_at D kcl (Hp_15.size, .inl (ca.1, 240, .inl (fun _ => 0))) Hp_276 := va_at.kept O_265 (fp_276 _ (by omega))
  have O_281 : va_at D kcl (Hp_24.size, .inl (ca.1, 240, .inl (fun _ => 0))) Hp_276 := va_at.kept O_266 (fp_276 _ (by omega))
  have O_282 : va_at D kcl (Hp_35.size, .inl (ca.1, 10, .inl (fun _ => 0))) Hp_276 := va_at.kept O_267 (fp_276 _ (by omega))
  have O_283 : va_at D kcl (Hp_48.size, .inl (ca.1, 10, .inl (fun _ => 0))) Hp_276 := va_at.kept O_268 (fp_276 _ (by omega))
  have O_284 : va_at D kcl (Hp_63.size, .inl (ca.1, 10, .inl (fun _ => 0))) Hp_276 := va_at.kept O_269 (fp_276 _ (by omega))
  have O_285 : va_at D kcl (Hp_80.size, .inl (ca.1, 10, .inl (fun _ => 0))) Hp_276 := va_at.kept O_270 (fp_276 _ (by omega))
  have O_286 : va_at D kcl (Hp_99.size, .inl (ca.1, 10, .inl (fun _ => 0))) Hp_276 := va_at.kept O_271 (fp_276 _ (by omega))
  have O_287 : va_at D kcl (Hp_120.size, .inl (ca.1, 10, .inl (fun _ => 0))) Hp_276 := va_at.kept O_272 (fp_276 _ (by omega))
  have O_288 : va_at D kcl (Hp_143.size, .inl (ca.1, 4, .inl (upd (upd (upd (upd (fun _ => 0) 0 (-1)) 1 (-1)) 2 (-1)) 3 (-1)))) Hp_276 := va_at.kept O_273 (fp_276 _ (by omega))
  have O_289 : va_at D kcl (Hp_220.size, .inl (ca.1, 4, .inl (fun _ => 0))) Hp_276 := va_at.kept O_274 (fp_276 _ (by omega))
  have O_290 : va_at D kcl (Hp_247.size, .inl (ca.1, 4, .inl (fun _ => 0))) Hp_276 := va_at.kept On_261 (fp_276 _ (by omega))
  have Op_276 : va_at D kcl (a, .inr (6, [.int 0, .int 0, .ref H.size, .ref Hp_3.size, .ref Hp_8.size, .ref Hp_15.size, .ref Hp_24.size, .ref Hp_35.size, .ref Hp_48.size, .ref Hp_63.size, .ref Hp_80.size, .ref Hp_99.size, .ref Hp_120.size, .ref Hp_143.size, .ref Hp_220.size, .ref Hp_247.size, .null])) Hp_276 := Op_276
  refine yy_aload_n F d_M_init_131 (n := 132) rfl 0 rfl ?_
  refine yy_iconst (v := 4) F d_M_init_132 (n := 133) rfl rfl ?_
  refine yy_newi F X.1 X.2.1 0 rfl q_198 Sp_276 (by decide) (N := 4) rfl (by decide) ⟨by decide, by decide⟩ d_M_init_133 (n := 135) rfl (fun Hn_291 On_291 zn_291 on_291 Sn_291 => ?_)
  have O_292 : va_at D kcl (H.size, .inl (ca.1, 10, .inl (fun _ => 0))) Hn_291 := va_at.kept O_277 (on_291 _ (va_at.lt O_277))
  have O_293 : va_at D kcl (Hp_3.size, .inl (ca.1, 10, .inl (fun _ => 0))) Hn_291 := va_at.kept O_278 (on_291 _ (va_at.lt O_278))
  have O_294 : va_at D kcl (Hp_8.size, .inl (ca.1, 10, .inl (fun _ => 0))) Hn_291 := va_at.kept O_279 (on_291 _ (va_at.lt O_279))
  have O_295 : va_at D kcl (Hp_15.size, .inl (ca.1, 240, .inl (fun _ => 0))) Hn_291 := va_at.kept O_280 (on_291 _ (va_at.lt O_280))
  have O_296 : va_at D kcl (Hp_24.size, .inl (ca.1, 240, .inl (fun _ => 0))) Hn_291 := va_at.kept O_281 (on_291 _ (va_at.lt O_281))
  have O_297 : va_at D kcl (Hp_35.size, .inl (ca.1, 10, .inl (fun _ => 0))) Hn_291 := va_at.kept O_282 (on_291 _ (va_at.lt O_282))
  have O_298 : va_at D kcl (Hp_48.size, .inl (ca.1, 10, .inl (fun _ => 0))) Hn_291 := va_at.kept O_283 (on_291 _ (va_at.lt O_283))
  have O_299 : va_at D kcl (Hp_63.size, .inl (ca.1, 10, .inl (fun _ => 0))) Hn_291 := va_at.kept O_284 (on_291 _ (va_at.lt O_284))
  have O_300 : va_at D kcl (Hp_80.size, .inl (ca.1, 10, .inl (fun _ => 0))) Hn_291 := va_at.kept O_285 (on_291 _ (va_at.lt O_285))
  have O_301 : va_at D kcl (Hp_99.size, .inl (ca.1, 10, .inl (fun _ => 0))) Hn_291 := va_at.kept O_286 (on_291 _ (va_at.lt O_286))
  have O_302 : va_at D kcl (Hp_120.size, .inl (ca.1, 10, .inl (fun _ => 0))) Hn_291 := va_at.kept O_287 (on_291 _ (va_at.lt O_287))
  have O_303 : va_at D kcl (Hp_143.size, .inl (ca.1, 4, .inl (upd (upd (upd (upd (fun _ => 0) 0 (-1)) 1 (-1)) 2 (-1)) 3 (-1)))) Hn_291 := va_at.kept O_288 (on_291 _ (va_at.lt O_288))
  have O_304 : va_at D kcl (Hp_220.size, .inl (ca.1, 4, .inl (fun _ => 0))) Hn_291 := va_at.kept O_289 (on_291 _ (va_at.lt O_289))
  have O_305 : va_at D kcl (Hp_247.size, .inl (ca.1, 4, .inl (fun _ => 0))) Hn_291 := va_at.kept O_290 (on_291 _ (va_at.lt O_290))
  have O_306 : va_at D kcl (a, .inr (6, [.int 0, .int 0, .ref H.size, .ref Hp_3.size, .ref Hp_8.size, .ref Hp_15.size, .ref Hp_24.size, .ref Hp_35.size, .ref Hp_48.size, .ref Hp_63.size, .ref Hp_80.size, .ref Hp_99.size, .ref Hp_120.size, .ref Hp_143.size, .ref Hp_220.size, .ref Hp_247.size, .null])) Hn_291 := va_at.kept Op_276 (on_291 _ (va_at.lt Op_276))
  have hn14 : Hp_276.size = H.size + 14 := by omega
  refine yy_putF F X.1 X.2.1 g_M_52_M gt_M (fun C T N h => by cases h; exact ⟨rfl, rfl⟩) (hnm _ rfl) (fun C T N h => by cases h; exact q_863) Sn_291 ha O_306 rfl rfl (Nat.le_of_ble_eq_true rfl) d_M_init_135 (n := 138) rfl (fun Hp_307 locs_p_307 Op_307 ep_307 fp_307 Sp_307 => ?_)
  have O_308 : va_at D kcl (H.size, .inl (ca.1, 10, .inl (fun _ => 0))) Hp_307 := va_at.kept O_292 (fp_307 _ (by omega))
  have O_309 : va_at D kcl (Hp_3.size, .inl (ca.1, 10, .inl (fun _ => 0))) Hp_307 := va_at.kept O_293 (fp_307 _ (by omega))
  have O_310 : va_at D kcl (Hp_8.size, .inl (ca.1, 10, .inl (fun _ => 0))) Hp_307 := va_at.kept O_294 (fp_307 _ (by omega))
  have O_311 : va_at D kcl (Hp_15.size, .inl (ca.1, 240, .inl (fun _ => 0))) Hp_307 := va_at.kept O_295 (fp_307 _ (by omega))
  have O_312 : va_at D kcl (Hp_24.size, .inl (ca.1, 240, .inl (fun _ => 0))) Hp_307 := va_at.kept O_296 (fp_307 _ (by omega))
  have O_313 : va_at D kcl (Hp_35.size, .inl (ca.1, 10, .inl (fun _ => 0))) Hp_307 := va_at.kept O_297 (fp_307 _ (by omega))
  have O_314 : va_at D kcl (Hp_48.size, .inl (ca.1, 10, .inl (fun _ => 0))) Hp_307 := va_at.kept O_298 (fp_307 _ (by omega))
  have O_315 : va_at D kcl (Hp_63.size, .inl (ca.1, 10, .inl (fun _ => 0))) Hp_307 := va_at.kept O_299 (fp_307 _ (by omega))
  have O_316 : va_at D kcl (Hp_80.size, .inl (ca.1, 10, .inl (fun _ => 0))) Hp_307 := va_at.kept O_300 (fp_307 _ (by omega))
  have O_317 : va_at D kcl (Hp_99.size, .inl (ca.1, 10, .inl (fun _ => 0))) Hp_307 := va_at.kept O_301 (fp_307 _ (by omega))
  have O_318 : va_at D kcl (Hp_120.size, .inl (ca.1, 10, .inl (fun _ => 0))) Hp_307 := va_at.kept O_302 (fp_307 _ (by omega))
  have O_319 : va_at D kcl (Hp_143.size, .inl (ca.1, 4, .inl (upd (upd (upd (upd (fun _ => 0) 0 (-1)) 1 (-1)) 2 (-1)) 3 (-1)))) Hp_307 := va_at.kept O_303 (fp_307 _ (by omega))
  have O_320 : va_at D kcl (Hp_220.size, .inl (ca.1, 4, .inl (fun _ => 0))) Hp_307 := va_at.kept O_304 (fp_307 _ (by omega))
  have O_321 : va_at D kcl (Hp_247.size, .inl (ca.1, 4, .inl (fun _ => 0))) Hp_307 := va_at.kept O_305 (fp_307 _ (by omega))
  have O_322 : va_at D kcl (Hp_276.size, .inl (ca.1, 4, .inl (fun _ => 0))) Hp_307 := va_at.kept On_291 (fp_307 _ (by omega))
  have Op_307 : va_at D kcl (a, .inr (6, [.int 0, .int 0, .ref H.size, .ref Hp_3.size, .ref Hp_8.size, .ref Hp_15.size, .ref Hp_24.size, .ref Hp_35.size, .ref Hp_48.size, .ref Hp_63.size, .ref Hp_80.size, .ref Hp_99.size, .ref Hp_120.size, .ref Hp_143.size, .ref Hp_220.size, .ref Hp_247.size, .ref Hp_276.size])) Hp_307 := Op_307
  have K9 : va_at D kcl (a, .inr (6, m_fl H.size 0 ms0)) Hp_307 := by
    have h9 := Op_307
    rw [hn1, hn2, hn3, hn4, hn5, hn6, hn7, hn8, hn9, hn10, hn11, hn12, hn13, hn14] at h9
    exact h9
  have W90 : va_at D kcl (H.size + 0, .inl (ca.1, m_len 0, .inl (ms0.2 0))) Hp_307 := O_308
  have W91 : va_at D kcl (H.size + 1, .inl (ca.1, m_len 1, .inl (ms0.2 1))) Hp_307 := by rw [← hn1]; exact O_309
  have W92 : va_at D kcl (H.size + 2, .inl (ca.1, m_len 2, .inl (ms0.2 2))) Hp_307 := by rw [← hn2]; exact O_310
  have W93 : va_at D kcl (H.size + 3, .inl (ca.1, m_len 3, .inl (ms0.2 3))) Hp_307 := by rw [← hn3]; exact O_311
  have W94 : va_at D kcl (H.size + 4, .inl (ca.1, m_len 4, .inl (ms0.2 4))) Hp_307 := by rw [← hn4]; exact O_312
  have W95 : va_at D kcl (H.size + 5, .inl (ca.1, m_len 5, .inl (ms0.2 5))) Hp_307 := by rw [← hn5]; exact O_313
  have W96 : va_at D kcl (H.size + 6, .inl (ca.1, m_len 6, .inl (ms0.2 6))) Hp_307 := by rw [← hn6]; exact O_314
  have W97 : va_at D kcl (H.size + 7, .inl (ca.1, m_len 7, .inl (ms0.2 7))) Hp_307 := by rw [← hn7]; exact O_315
  have W98 : va_at D kcl (H.size + 8, .inl (ca.1, m_len 8, .inl (ms0.2 8))) Hp_307 := by rw [← hn8]; exact O_316
  have W99 : va_at D kcl (H.size + 9, .inl (ca.1, m_len 9, .inl (ms0.2 9))) Hp_307 := by rw [← hn9]; exact O_317
  have W910 : va_at D kcl (H.size + 10, .inl (ca.1, m_len 10, .inl (ms0.2 10))) Hp_307 := by rw [← hn10]; exact O_318
  have W911 : va_at D kcl (H.size + 11, .inl (ca.1, m_len 11, .inl (ms0.2 11))) Hp_307 := by rw [← hn11]; exact O_319
  have W912 : va_at D kcl (H.size + 12, .inl (ca.1, m_len 12, .inl (ms0.2 12))) Hp_307 := by rw [← hn12]; exact O_320
  have W913 : va_at D kcl (H.size + 13, .inl (ca.1, m_len 13, .inl (ms0.2 13))) Hp_307 := by rw [← hn13]; exact O_321
  have W914 : va_at D kcl (H.size + 14, .inl (ca.1, m_len 14, .inl (ms0.2 14))) Hp_307 := by rw [← hn14]; exact O_322
  have hrow : ∀ j, j < 15 → va_at D kcl (H.size + j, .inl (ca.1, m_len j, .inl (ms0.2 j))) Hp_307 := by
    intro j h
    rcases j with _ | _ | _ | _ | _ | _ | _ | _ | _ | _ | _ | _ | _ | _ | _ | j
    · exact W90
    · exact W91
    · exact W92
    · exact W93
    · exact W94
    · exact W95
    · exact W96
    · exact W97
    · exact W98
    · exact W99
    · exact W910
    · exact W911
    · exact W912
    · exact W913
    · exact W914
    · omega
  exact yy_vret F Sp_307 ⟨by decide, by decide⟩ rfl d_M_init_138 (⟨rfl, ⟨⟨ha, lta⟩, K9, hrow⟩, by omega, fun q hq hna => (fp_307 q (by omega)).trans ((on_291 q (by omega)).trans ((fp_276 q (by omega)).trans ((on_261 q (by omega)).trans ((fp_247 q (by omega)).trans ((on_233 q (by omega)).trans ((fp_220 q (by omega)).trans ((fq_207 q (by omega)).trans ((fq_194 q (by omega)).trans ((fq_181 q (by omega)).trans ((fq_168 q (by omega)).trans ((on_155 q (by omega)).trans ((fp_143 q (by omega)).trans ((on_131 q (by omega)).trans ((fp_120 q (by omega)).trans ((on_109 q (by omega)).trans ((fp_99 q (by omega)).trans ((on_89 q (by omega)).trans ((fp_80 q (by omega)).trans ((on_71 q (by omega)).trans ((fp_63 q (by omega)).trans ((on_55 q (by omega)).trans ((fp_48 q (by omega)).trans ((on_41 q (by omega)).trans ((fp_35 q (by omega)).trans ((on_29 q (by omega)).trans ((fp_24 q (by omega)).trans ((on_19 q (by omega)).trans ((fp_15 q (by omega)).trans ((on_11 q (by omega)).trans ((fp_8 q (by omega)).trans ((on_5 q (by omega)).trans ((fp_3 q (by omega)).trans (on_1 q (by omega))))))))))))))))))))))))))))))))))⟩)
