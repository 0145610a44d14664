/-! PART K6: a new kit -/
def kA0 (a n : Nat) : kA := (a, n, n + 1, (fun _ => 0), (fun _ => 0), (fun _ => 0), (fun _ => 0), (fun i => n + 2 + i), fun q => if q = a then 1 else if q = n then 2 else if q = n + 1 then 3 else if n + 2 ≤ q ∧ q < n + 6 then 2 + q - n else 0)
def ks0 : ks := (0, (fun _ => (0, 0, 0, 0, 0, 0, 0, 0)), (fun _ => (0, 0, 4, (fun _ => 0), (fun _ => 0))), (fun _ => (none, 0, -1, 0)))
theorem ck0 {D : va_G} {ca : kca} {z : State} {a n : Nat} {H1 : Heap} {g : Nat → Option Nat} (hz : z.heap.size ≤ a) (hzn : z.heap.size ≤ n) (han : a < n) (hsz : H1.size = n + 6) (hk : va_at D kcl (a, .inr (5, [.ref n, .ref (n + 1), .int 0])) H1) (hka : va_at D kcl (n, .inl (ca.2.1, 10, .inr (.inr (.inr (.inr (fun _ => none)))))) H1)
    (hwa : va_at D kcl (n + 1, .inl (ca.2.2.1, 4, .inr (.inr (.inr (.inr g))))) H1) (hg : ∀ i, g i = if i < 4 then some (n + 2 + i) else none) (hw : ∀ i, i < 4 → va_at D kcl (n + 2 + i, .inr (4, [.null, .int 0, .int (-1), .int 0])) H1) : ck_at D ca z (kA0 a n) ks0 H1 := by
  have eg : g = fun i => if i < 4 then some (n + 2 + i) else none := funext hg
  rw [eg] at hwa
  refine ⟨⟨?_, ?_, ?_, fun i hi => ?_, fun c hc => absurd hc (Nat.not_lt_zero _), fun c hc => absurd hc (Nat.not_lt_zero _), fun q hq => ?_, Nat.zero_le _, fun c hc => absurd hc (Nat.not_lt_zero _)⟩, hk, ?_, hwa, fun i hi => hw i hi, fun c hc => absurd hc (Nat.not_lt_zero _), fun c hc => absurd hc (Nat.not_lt_zero _)⟩
  · show (if a = a then 1 else _) = 1
    rw [if_pos rfl]
  · show (if n = a then 1 else if n = n then 2 else _) = 2
    rw [if_neg (by omega), if_pos rfl]
  · show (if n + 1 = a then 1 else if n + 1 = n then 2 else if n + 1 = n + 1 then 3 else _) = 3
    rw [if_neg (by omega), if_neg (by omega), if_pos rfl]
  · show (if n + 2 + i = a then 1 else if n + 2 + i = n then 2 else if n + 2 + i = n + 1 then 3 else if n + 2 ≤ n + 2 + i ∧ n + 2 + i < n + 6 then 2 + (n + 2 + i) - n else 0) = 4 + i
    rw [if_neg (by omega), if_neg (by omega), if_neg (by omega), if_pos (by omega)]
    omega
  · by_cases h1 : q = a
    · omega
    · by_cases h2 : q < n
      · exfalso
        apply hq
        show (if q = a then 1 else if q = n then 2 else if q = n + 1 then 3 else if n + 2 ≤ q ∧ q < n + 6 then 2 + q - n else 0) = 0
        rw [if_neg h1, if_neg (by omega), if_neg (by omega), if_neg (by omega)]
      · refine ⟨by omega, ?_⟩
        apply Nat.lt_of_not_le
        intro h9
        apply hq
        show (if q = a then 1 else if q = n then 2 else if q = n + 1 then 3 else if n + 2 ≤ q ∧ q < n + 6 then 2 + q - n else 0) = 0
        rw [if_neg h1, if_neg (by omega), if_neg (by omega), if_neg (by omega)]
  · have e : k_row (kA0 a n) ks0 = fun _ => none := by
      funext q
      exact if_neg (Nat.not_lt_zero _)
    rw [e]
    exact hka
set_option maxRecDepth 100000 in
set_option maxHeartbeats 4000000 in
theorem c_K_init {l : Launch} {z : State} {a0 : Array Value} {D : va_G} {ca : kca} (X : kcx l z a0 D ca) {a : Nat} (ha : z.heap.size ≤ a)  : yy_M l z y_K_init (.code y_K_init b_K_init 2 none) ({ frames := 2, cells := 6, slots := 30, locals := 34 }) [.ref a] (fun H => va_at D kcl (a, .inr (5, [.null, .null, .int 0])) H) (yy_pv (fun H H1 => ck_at D ca z (kA0 a H.size) ks0 H1 ∧ H1.size = H.size + 6 ∧ ∀ q, q < H.size → q ≠ a → H1[q]? = H[q]?)) := by
  refine yy_body (plainFor_of_name (by decide)) (Nat.le_of_ble_eq_true rfl) (fun b H F hS hP hH hnm => ?_)
  have lta : a < H.size := va_at.lt hP
  have hzs : z.heap.size ≤ H.size := hS.1
  refine yy_aload_n F d_K_init_0 (n := 1) rfl 0 rfl ?_
  refine yy_obj0 F X.1 q_23 q_24 q_25 ⟨by decide, by decide⟩ d_K_init_1 (n := 4) rfl ?_
  refine yy_aload_n F d_K_init_4 (n := 5) rfl 0 rfl ?_
  refine yy_bipush (v := 10) F d_K_init_5 (n := 7) rfl rfl ?_
  refine yy_newq F X.1 X.2.1 1 rfl q_26 q_27 hS (by decide) (N := 10) rfl (by decide) ⟨by decide, by decide⟩ d_K_init_7 (n := 10) rfl (fun Hn_1 On_1 zn_1 on_1 Sn_1 => ?_)
  have O_2 : va_at D kcl (a, .inr (5, [.null, .null, .int 0])) Hn_1 := va_at.kept hP (on_1 _ (va_at.lt hP))
  refine yy_putF F X.1 X.2.1 g_K_11_K gt_K (fun C T N h => by cases h; exact ⟨rfl, rfl⟩) (hnm _ rfl) (fun C T N h => by cases h; exact q_51) Sn_1 ha O_2 rfl rfl (Nat.le_of_ble_eq_true rfl) d_K_init_10 (n := 13) rfl (fun Hp_3 locs_p_3 Op_3 ep_3 fp_3 Sp_3 => ?_)
  have O_4 : va_at D kcl (H.size, .inl (ca.2.1, 10, .inr (.inr (.inr (.inr (fun _ => none)))))) Hp_3 := va_at.kept On_1 (fp_3 _ (by omega))
  have Op_3 : va_at D kcl (a, .inr (5, [.ref H.size, .null, .int 0])) Hp_3 := Op_3
  refine yy_aload_n F d_K_init_13 (n := 14) rfl 0 rfl ?_
  refine yy_iconst (v := 4) F d_K_init_14 (n := 15) rfl rfl ?_
  refine yy_newq F X.1 X.2.1 2 rfl q_28 q_29 Sp_3 (by decide) (N := 4) rfl (by decide) ⟨by decide, by decide⟩ d_K_init_15 (n := 18) rfl (fun Hn_5 On_5 zn_5 on_5 Sn_5 => ?_)
  have O_6 : va_at D kcl (H.size, .inl (ca.2.1, 10, .inr (.inr (.inr (.inr (fun _ => none)))))) Hn_5 := va_at.kept O_4 (on_5 _ (va_at.lt O_4))
  have O_7 : va_at D kcl (a, .inr (5, [.ref H.size, .null, .int 0])) Hn_5 := va_at.kept Op_3 (on_5 _ (va_at.lt Op_3))
  have hwa : Hp_3.size = H.size + 1 := by omega
  refine yy_putF F X.1 X.2.1 g_K_17_K gt_K (fun C T N h => by cases h; exact ⟨rfl, rfl⟩) (hnm _ rfl) (fun C T N h => by cases h; exact q_52) Sn_5 ha O_7 rfl rfl (Nat.le_of_ble_eq_true rfl) d_K_init_18 (n := 21) rfl (fun Hp_8 locs_p_8 Op_8 ep_8 fp_8 Sp_8 => ?_)
  have O_9 : va_at D kcl (H.size, .inl (ca.2.1, 10, .inr (.inr (.inr (.inr (fun _ => none)))))) Hp_8 := va_at.kept O_6 (fp_8 _ (by omega))
  have O_10 : va_at D kcl (Hp_3.size, .inl (ca.2.2.1, 4, .inr (.inr (.inr (.inr (fun _ => none)))))) Hp_8 := va_at.kept On_5 (fp_8 _ (by omega))
  have Op_8 : va_at D kcl (a, .inr (5, [.ref H.size, .ref Hp_3.size, .int 0])) Hp_8 := Op_8
  refine yy_aload_n F d_K_init_21 (n := 22) rfl 0 rfl ?_
  refine yy_iconst (v := 0) F d_K_init_22 (n := 23) rfl rfl ?_
  refine yy_put F X.1 X.2.1 g_K_21_K gt_K (fun C T N h => by cases h; rfl) Sp_8 ha Op_8 rfl rfl (Nat.le_of_ble_eq_true rfl) d_K_init_23 (n := 26) rfl (fun Hp_11 locs_p_11 Op_11 ep_11 fp_11 Sp_11 => ?_)
  have O_12 : va_at D kcl (H.size, .inl (ca.2.1, 10, .inr (.inr (.inr (.inr (fun _ => none)))))) Hp_11 := va_at.kept O_9 (fp_11 _ (by omega))
  have O_13 : va_at D kcl (Hp_3.size, .inl (ca.2.2.1, 4, .inr (.inr (.inr (.inr (fun _ => none)))))) Hp_11 := va_at.kept O_10 (fp_11 _ (by omega))
  have Op_11 : va_at D kcl (a, .inr (5, [.ref H.size, .ref Hp_3.size, .int 0])) Hp_11 := Op_11
  refine yy_iconst (v := 0) F d_K_init_26 (n := 27) rfl rfl ?_
  refine yy_tope (y := (nI 0)) rfl ?_
  refine yy_istore_n (lv' := [(1, .int (nI 0)), (0, .ref a)]) F d_K_init_27 (n := 28) rfl (by decide) rfl ?_
  refine yy_iload_n F d_K_init_28 (n := 29) rfl 0 rfl ?_
  refine yy_aload_n F d_K_init_29 (n := 30) rfl 1 rfl ?_
  refine yy_get F X.1 X.2.1 g_K_17_K Op_11 rfl d_K_init_30 (n := 33) rfl ?_
  refine yy_alen F X.2.1 2 rfl O_13 (x := 4) rfl d_K_init_33 (n := 34) rfl ?_
  refine yy_ic_ge_f (tgt := 56) F d_K_init_34 (n := 37) rfl (by decide) (by decide) ?_
  refine yy_aload_n F d_K_init_37 (n := 38) rfl 1 rfl ?_
  refine yy_get F X.1 X.2.1 g_K_17_K Op_11 rfl d_K_init_38 (n := 41) rfl ?_
  refine yy_iload_n F d_K_init_41 (n := 42) rfl 0 rfl ?_
  refine yy_new F X.1 X.2.1 (ci := 4) (ty := ty_W) (fs := [.null, .int 0, .int 0, .int 0]) rfl us_W tk_W q_28 q_30 q_2 Sp_11 (by decide) ⟨by decide, by decide⟩ d_K_init_42 (n := 45) rfl (fun Hn_14 On_14 zn_14 on_14 Sn_14 => ?_)
  have O_15 : va_at D kcl (H.size, .inl (ca.2.1, 10, .inr (.inr (.inr (.inr (fun _ => none)))))) Hn_14 := va_at.kept O_12 (on_14 _ (va_at.lt O_12))
  have O_16 : va_at D kcl (Hp_3.size, .inl (ca.2.2.1, 4, .inr (.inr (.inr (.inr (fun _ => none)))))) Hn_14 := va_at.kept O_13 (on_14 _ (va_at.lt O_13))
  have O_17 : va_at D kcl (a, .inr (5, [.ref H.size, .ref Hp_3.size, .int 0])) Hn_14 := va_at.kept Op_11 (on_14 _ (va_at.lt Op_11))
  have hw0 : Hp_11.size = H.size + 2 := by omega
  refine yy_dup F d_K_init_45 (n := 46) rfl rfl ?_
  refine yy_callv F Sn_14 (c_W_init (a := Hp_11.size) X (by omega)) (yy_Bc F X.1 q_33 q_2) (yy_invI (nA := 0) F X.1 rfl (Or.inr ⟨_, q_31⟩) q_32 q_33 ⟨by decide, by decide, by decide +kernel⟩ rfl d_K_init_46) d_K_init_46 (n := 49) rfl (by simp [Value.category]) ⟨by decide, by decide⟩ ⟨by decide, by decide⟩ On_14 (fun Hc_18 locs_c_18 qc_18 Sc_18 => ?_)
  obtain ⟨W0, k0⟩ := qc_18
  have s0 := k0.1
  have m0 : ∀ q : Nat, q ≠ Hp_11.size → Hc_18[q]? = Hn_14[q]? := fun q h => k0.2 q (by simpa using h)
  have O_19 : va_at D kcl (H.size, .inl (ca.2.1, 10, .inr (.inr (.inr (.inr (fun _ => none)))))) Hc_18 := va_at.kept O_15 (m0 _ (by omega))
  have O_20 : va_at D kcl (Hp_3.size, .inl (ca.2.2.1, 4, .inr (.inr (.inr (.inr (fun _ => none)))))) Hc_18 := va_at.kept O_16 (m0 _ (by omega))
  have O_21 : va_at D kcl (a, .inr (5, [.ref H.size, .ref Hp_3.size, .int 0])) Hc_18 := va_at.kept O_17 (m0 _ (by omega))
  refine yy_aast (a0 := a0) F X.2.1 2 rfl Sc_18 (by omega) O_20 (ci := 4) (r := (R_W, T_W, 4)) rfl (Or.inl rfl) W0 (vp_in_nI (by decide) (by decide)) d_K_init_49 (n := 50) rfl (fun Hq_22 locs_q_22 Oq_22 eq_22 fq_22 Sq_22 => ?_)
  have O_23 : va_at D kcl (H.size, .inl (ca.2.1, 10, .inr (.inr (.inr (.inr (fun _ => none)))))) Hq_22 := va_at.kept O_19 (fq_22 _ (by omega))
  have O_24 : va_at D kcl (a, .inr (5, [.ref H.size, .ref Hp_3.size, .int 0])) Hq_22 := va_at.kept O_21 (fq_22 _ (by omega))
  have O_25 : va_at D kcl (Hp_11.size, .inr (4, [.null, .int 0, .int (-1), .int 0])) Hq_22 := va_at.kept W0 (fq_22 _ (by omega))
  have Oq_22 : va_at D kcl (Hp_3.size, .inl (ca.2.2.1, 4, .inr (.inr (.inr (.inr (va_up (fun _ => none) 0 (some Hp_11.size))))))) Hq_22 := by
    have h9 := Oq_22
    rw [nI_clamp (by decide)] at h9
    exact h9
  refine yy_iinc (v := nI (0 + 1)) (lv' := [(1, .int (nI (0 + 1))), (0, .ref a)]) F d_K_init_50 (n := 53) rfl 0 rfl (nI_1 _) (by decide) rfl ?_
  refine yy_goto (tgt := 28) F d_K_init_53 (by decide) ?_
  refine yy_iload_n F d_K_init_28 (n := 29) rfl 0 rfl ?_
  refine yy_aload_n F d_K_init_29 (n := 30) rfl 1 rfl ?_
  refine yy_get F X.1 X.2.1 g_K_17_K O_24 rfl d_K_init_30 (n := 33) rfl ?_
  refine yy_alen F X.2.1 2 rfl Oq_22 (x := 4) rfl d_K_init_33 (n := 34) rfl ?_
  refine yy_ic_ge_f (tgt := 56) F d_K_init_34 (n := 37) rfl (by decide) (by decide) ?_
  refine yy_aload_n F d_K_init_37 (n := 38) rfl 1 rfl ?_
  refine yy_get F X.1 X.2.1 g_K_17_K O_24 rfl d_K_init_38 (n := 41) rfl ?_
  refine yy_iload_n F d_K_init_41 (n := 42) rfl 0 rfl ?_
  refine yy_new F X.1 X.2.1 (ci := 4) (ty := ty_W) (fs := [.null, .int 0, .int 0, .int 0]) rfl us_W tk_W q_28 q_30 q_2 Sq_22 (by decide) ⟨by decide, by decide⟩ d_K_init_42 (n := 45) rfl (fun Hn_26 On_26 zn_26 on_26 Sn_26 => ?_)
  have O_27 : va_at D kcl (H.size, .inl (ca.2.1, 10, .inr (.inr (.inr (.inr (fun _ => none)))))) Hn_26 := va_at.kept O_23 (on_26 _ (va_at.lt O_23))
  have O_28 : va_at D kcl (a, .inr (5, [.ref H.size, .ref Hp_3.size, .int 0])) Hn_26 := va_at.kept O_24 (on_26 _ (va_at.lt O_24))
  have O_29 : va_at D kcl (Hp_11.size, .inr (4, [.null, .int 0, .int (-1), .int 0])) Hn_26 := va_at.kept O_25 (on_26 _ (va_at.lt O_25))
  have O_30 : va_at D kcl (Hp_3.size, .inl (ca.2.2.1, 4, .inr (.inr (.inr (.inr (va_up (fun _ => none) 0 (some Hp_11.size))))))) Hn_26 := va_at.kept Oq_22 (on_26 _ (va_at.lt Oq_22))
  have hw1 : Hq_22.size = H.size + 3 := by omega
  refine yy_dup F d_K_init_45 (n := 46) rfl rfl ?_
  refine yy_callv F Sn_26 (c_W_init (a := Hq_22.size) X (by omega)) (yy_Bc F X.1 q_33 q_2) (yy_invI (nA := 0) F X.1 rfl (Or.inr ⟨_, q_31⟩) q_32 q_33 ⟨by decide, by decide, by decide +kernel⟩ rfl d_K_init_46) d_K_init_46 (n := 49) rfl (by simp [Value.category]) ⟨by decide, by decide⟩ ⟨by decide, by decide⟩ On_26 (fun Hc_31 locs_c_31 qc_31 Sc_31 => ?_)
  obtain ⟨W1, k1⟩ := qc_31
  have s1 := k1.1
  have m1 : ∀ q : Nat, q ≠ Hq_22.size → Hc_31[q]? = Hn_26[q]? := fun q h => k1.2 q (by simpa using h)
  have O_32 : va_at D kcl (H.size, .inl (ca.2.1, 10, .inr (.inr (.inr (.inr (fun _ => none)))))) Hc_31 := va_at.kept O_27 (m1 _ (by omega))
  have O_33 : va_at D kcl (a, .inr (5, [.ref H.size, .ref Hp_3.size, .int 0])) Hc_31 := va_at.kept O_28 (m1 _ (by omega))
  have O_34 : va_at D kcl (Hp_11.size, .inr (4, [.null, .int 0, .int (-1), .int 0])) Hc_31 := va_at.kept O_29 (m1 _ (by omega))
  have O_35 : va_at D kcl (Hp_3.size, .inl (ca.2.2.1, 4, .inr (.inr (.inr (.inr (va_up (fun _ => none) 0 (some Hp_11.size))))))) Hc_31 := va_at.kept O_30 (m1 _ (by omega))
  refine yy_aast (a0 := a0) F X.2.1 2 rfl Sc_31 (by omega) O_35 (ci := 4) (r := (R_W, T_W, 4)) rfl (Or.inl rfl) W1 (vp_in_nI (by decide) (by decide)) d_K_init_49 (n := 50) rfl (fun Hq_36 locs_q_36 Oq_36 eq_36 fq_36 Sq_36 => ?_)
  have O_37 : va_at D kcl (H.size, .inl (ca.2.1, 10, .inr (.inr (.inr (.inr (fun _ => none)))))) Hq_36 := va_at.kept O_32 (fq_36 _ (by omega))
  have O_38 : va_at D kcl (a, .inr (5, [.ref H.size, .ref Hp_3.size, .int 0])) Hq_36 := va_at.kept O_33 (fq_36 _ (by omega))
  have O_39 : va_at D kcl (Hp_11.size, .inr (4, [.null, .int 0, .int (-1), .int 0])) Hq_36 := va_at.kept O_34 (fq_36 _ (by omega))
  have O_40 : va_at D kcl (Hq_22.size, .inr (4, [.null, .int 0, .int (-1), .int 0])) Hq_36 := va_at.kept W1 (fq_36 _ (by omega))
  have Oq_36 : va_at D kcl (Hp_3.size, .inl (ca.2.2.1, 4, .inr (.inr (.inr (.inr (va_up (va_up (fun _ => none) 0 (some Hp_11.size)) 1 (some Hq_22.size))))))) Hq_36 := by
    have h9 := Oq_36
    rw [nI_clamp (by decide)] at h9
    exact h9
  refine yy_iinc (v := nI ((0 + 1) + 1)) (lv' := [(1, .int (nI ((0 + 1) + 1))), (0, .ref a)]) F d_K_init_50 (n := 53) rfl 0 rfl (nI_1 _) (by decide) rfl ?_
  refine yy_goto (tgt := 28) F d_K_init_53 (by decide) ?_
  refine yy_iload_n F d_K_init_28 (n := 29) rfl 0 rfl ?_
  refine yy_aload_n F d_K_init_29 (n := 30) rfl 1 rfl ?_
  refine yy_get F X.1 X.2.1 g_K_17_K O_38 rfl d_K_init_30 (n := 33) rfl ?_
  refine yy_alen F X.2.1 2 rfl Oq_36 (x := 4) rfl d_K_init_33 (n := 34) rfl ?_
  refine yy_ic_ge_f (tgt := 56) F d_K_init_34 (n := 37) rfl (by decide) (by decide) ?_
  refine yy_aload_n F d_K_init_37 (n := 38) rfl 1 rfl ?_
  refine yy_get F X.1 X.2.1 g_K_17_K O_38 rfl d_K_init_38 (n := 41) rfl ?_
  refine yy_iload_n F d_K_init_41 (n := 42) rfl 0 rfl ?_
  refine yy_new F X.1 X.2.1 (ci := 4) (ty := ty_W) (fs := [.null, .int 0, .int 0, .int 0]) rfl us_W tk_W q_28 q_30 q_2 Sq_36 (by decide) ⟨by decide, by decide⟩ d_K_init_42 (n := 45) rfl (fun Hn_41 On_41 zn_41 on_41 Sn_41 => ?_)
  have O_42 : va_at D kcl (H.size, .inl (ca.2.1, 10, .inr (.inr (.inr (.inr (fun _ => none)))))) Hn_41 := va_at.kept O_37 (on_41 _ (va_at.lt O_37))
  have O_43 : va_at D kcl (a, .inr (5, [.ref H.size, .ref Hp_3.size, .int 0])) Hn_41 := va_at.kept O_38 (on_41 _ (va_at.lt O_38))
  have O_44 : va_at D kcl (Hp_11.size, .inr (4, [.null, .int 0, .int (-1), .int 0])) Hn_41 := va_at.kept O_39 (on_41 _ (va_at.lt O_39))
  have O_45 : va_at D kcl (Hq_22.size, .inr (4, [.null, .int 0, .int (-1), .int 0])) Hn_41 := va_at.kept O_40 (on_41 _ (va_at.lt O_40))
  have O_46 : va_at D kcl (Hp_3.size, .inl (ca.2.2.1, 4, .inr (.inr (.inr (.inr (va_up (va_up (fun _ => none) 0 (some Hp_11.size)) 1 (some Hq_22.size))))))) Hn_41 := va_at.kept Oq_36 (on_41 _ (va_at.lt Oq_36))
  have hw2 : Hq_36.size = H.size + 4 := by omega
  refine yy_dup F d_K_init_45 (n := 46) rfl rfl ?_
  refine yy_callv F Sn_41 (c_W_init (a := Hq_36.size) X (by omega)) (yy_Bc F X.1 q_33 q_2) (yy_invI (nA := 0) F X.1 rfl (Or.inr ⟨_, q_31⟩) q_32 q_33 ⟨by decide, by decide, by decide +kernel⟩ rfl d_K_init_46) d_K_init_46 (n := 49) rfl (by simp [Value.category]) ⟨by decide, by decide⟩ ⟨by decide, by decide⟩ On_41 (fun Hc_47 locs_c_47 qc_47 Sc_47 => ?_)
  obtain ⟨W2, k2⟩ := qc_47
  have s2 := k2.1
  have m2 : ∀ q : Nat, q ≠ Hq_36.size → Hc_47[q]? = Hn_41[q]? := fun q h => k2.2 q (by simpa using h)
  have O_48 : va_at D kcl (H.size, .inl (ca.2.1, 10, .inr (.inr (.inr (.inr (fun _ => none)))))) Hc_47 := va_at.kept O_42 (m2 _ (by omega))
  have O_49 : va_at D kcl (a, .inr (5, [.ref H.size, .ref Hp_3.size, .int 0])) Hc_47 := va_at.kept O_43 (m2 _ (by omega))
  have O_50 : va_at D kcl (Hp_11.size, .inr (4, [.null, .int 0, .int (-1), .int 0])) Hc_47 := va_at.kept O_44 (m2 _ (by omega))
  have O_51 : va_at D kcl (Hq_22.size, .inr (4, [.null, .int 0, .int (-1), .int 0])) Hc_47 := va_at.kept O_45 (m2 _ (by omega))
  have O_52 : va_at D kcl (Hp_3.size, .inl (ca.2.2.1, 4, .inr (.inr (.inr (.inr (va_up (va_up (fun _ => none) 0 (some Hp_11.size)) 1 (some Hq_22.size))))))) Hc_47 := va_at.kept O_46 (m2 _ (by omega))
  refine yy_aast (a0 := a0) F X.2.1 2 rfl Sc_47 (by omega) O_52 (ci := 4) (r := (R_W, T_W, 4)) rfl (Or.inl rfl) W2 (vp_in_nI (by decide) (by decide)) d_K_init_49 (n := 50) rfl (fun Hq_53 locs_q_53 Oq_53 eq_53 fq_53 Sq_53 => ?_)
  have O_54 : va_at D kcl (H.size, .inl (ca.2.1, 10, .inr (.inr (.inr (.inr (fun _ => none)))))) Hq_53 := va_at.kept O_48 (fq_53 _ (by omega))
  have O_55 : va_at D kcl (a, .inr (5, [.ref H.size, .ref Hp_3.size, .int 0])) Hq_53 := va_at.kept O_49 (fq_53 _ (by omega))
  have O_56 : va_at D kcl (Hp_11.size, .inr (4, [.null, .int 0, .int (-1), .int 0])) Hq_53 := va_at.kept O_50 (fq_53 _ (by omega))
  have O_57 : va_at D kcl (Hq_22.size, .inr (4, [.null, .int 0, .int (-1), .int 0])) Hq_53 := va_at.kept O_51 (fq_53 _ (by omega))
  have O_58 : va_at D kcl (Hq_36.size, .inr (4, [.null, .int 0, .int (-1), .int 0])) Hq_53 := va_at.kept W2 (fq_53 _ (by omega))
  have Oq_53 : va_at D kcl (Hp_3.size, .inl (ca.2.2.1, 4, .inr (.inr (.inr (.inr (va_up (va_up (va_up (fun _ => none) 0 (some Hp_11.size)) 1 (some Hq_22.size)) 2 (some Hq_36.size))))))) Hq_53 := by
    have h9 := Oq_53
    rw [nI_clamp (by decide)] at h9
    exact h9
  refine yy_iinc (v := nI (((0 + 1) + 1) + 1)) (lv' := [(1, .int (nI (((0 + 1) + 1) + 1))), (0, .ref a)]) F d_K_init_50 (n := 53) rfl 0 rfl (nI_1 _) (by decide) rfl ?_
  refine yy_goto (tgt := 28) F d_K_init_53 (by decide) ?_
  refine yy_iload_n F d_K_init_28 (n := 29) rfl 0 rfl ?_
  refine yy_aload_n F d_K_init_29 (n := 30) rfl 1 rfl ?_
  refine yy_get F X.1 X.2.1 g_K_17_K O_55 rfl d_K_init_30 (n := 33) rfl ?_
  refine yy_alen F X.2.1 2 rfl Oq_53 (x := 4) rfl d_K_init_33 (n := 34) rfl ?_
  refine yy_ic_ge_f (tgt := 56) F d_K_init_34 (n := 37) rfl (by decide) (by decide) ?_
  refine yy_aload_n F d_K_init_37 (n := 38) rfl 1 rfl ?_
  refine yy_get F X.1 X.2.1 g_K_17_K O_55 rfl d_K_init_38 (n := 41) rfl ?_
  refine yy_iload_n F d_K_init_41 (n := 42) rfl 0 rfl ?_
  refine yy_new F X.1 X.2.1 (ci := 4) (ty := ty_W) (fs := [.null, .int 0, .int 0, .int 0]) rfl us_W tk_W q_28 q_30 q_2 Sq_53 (by decide) ⟨by decide, by decide⟩ d_K_init_42 (n := 45) rfl (fun Hn_59 On_59 zn_59 on_59 Sn_59 => ?_)
  have O_60 : va_at D kcl (H.size, .inl (ca.2.1, 10, .inr (.inr (.inr (.inr (fun _ => none)))))) Hn_59 := va_at.kept O_54 (on_59 _ (va_at.lt O_54))
  have O_61 : va_at D kcl (a, .inr (5, [.ref H.size, .ref Hp_3.size, .int 0])) Hn_59 := va_at.kept O_55 (on_59 _ (va_at.lt O_55))
  have O_62 : va_at D kcl (Hp_11.size, .inr (4, [.null, .int 0, .int (-1), .int 0])) Hn_59 := va_at.kept O_56 (on_59 _ (va_at.lt O_56))
  have O_63 : va_at D kcl (Hq_22.size, .inr (4, [.null, .int 0, .int (-1), .int 0])) Hn_59 := va_at.kept O_57 (on_59 _ (va_at.lt O_57))
  have O_64 : va_at D kcl (Hq_36.size, .inr (4, [.null, .int 0, .int (-1), .int 0])) Hn_59 := va_at.kept O_58 (on_59 _ (va_at.lt O_58))
  have O_65 : va_at D kcl (Hp_3.size, .inl (ca.2.2.1, 4, .inr (.inr (.inr (.inr (va_up (va_up (va_up (fun _ => none) 0 (some Hp_11.size)) 1 (some Hq_22.size)) 2 (some Hq_36.size))))))) Hn_59 := va_at.kept Oq_53 (on_59 _ (va_at.lt Oq_53))
  have hw3 : Hq_53.size = H.size + 5 := by omega
  refine yy_dup F d_K_init_45 (n := 46) rfl rfl ?_
  refine yy_callv F Sn_59 (c_W_init (a := Hq_53.size) X (by omega)) (yy_Bc F X.1 q_33 q_2) (yy_invI (nA := 0) F X.1 rfl (Or.inr ⟨_, q_31⟩) q_32 q_33 ⟨by decide, by decide, by decide +kernel⟩ rfl d_K_init_46) d_K_init_46 (n := 49) rfl (by simp [Value.category]) ⟨by decide, by decide⟩ ⟨by decide, by decide⟩ On_59 (fun Hc_66 locs_c_66 qc_66 Sc_66 => ?_)
  obtain ⟨W3, k3⟩ := qc_66
  have s3 := k3.1
  have m3 : ∀ q : Nat, q ≠ Hq_53.size → Hc_66[q]? = Hn_59[q]? := fun q h => k3.2 q (by simpa using h)
  have O_67 : va_at D kcl (H.size, .inl (ca.2.1, 10, .inr (.inr (.inr (.inr (fun _ => none)))))) Hc_66 := va_at.kept O_60 (m3 _ (by omega))
  have O_68 : va_at D kcl (a, .inr (5, [.ref H.size, .ref Hp_3.size, .int 0])) Hc_66 := va_at.kept O_61 (m3 _ (by omega))
  have O_69 : va_at D kcl (Hp_11.size, .inr (4, [.null, .int 0, .int (-1), .int 0])) Hc_66 := va_at.kept O_62 (m3 _ (by omega))
  have O_70 : va_at D kcl (Hq_22.size, .inr (4, [.null, .int 0, .int (-1), .int 0])) Hc_66 := va_at.kept O_63 (m3 _ (by omega))
  have O_71 : va_at D kcl (Hq_36.size, .inr (4, [.null, .int 0, .int (-1), .int 0])) Hc_66 := va_at.kept O_64 (m3 _ (by omega))
  have O_72 : va_at D kcl (Hp_3.size, .inl (ca.2.2.1, 4, .inr (.inr (.inr (.inr (va_up (va_up (va_up (fun _ => none) 0 (some Hp_11.size)) 1 (some Hq_22.size)) 2 (some Hq_36.size))))))) Hc_66 := va_at.kept O_65 (m3 _ (by omega))
  refine yy_aast (a0 := a0) F X.2.1 2 rfl Sc_66 (by omega) O_72 (ci := 4) (r := (R_W, T_W, 4)) rfl (Or.inl rfl) W3 (vp_in_nI (by decide) (by decide)) d_K_init_49 (n := 50) rfl (fun Hq_73 locs_q_73 Oq_73 eq_73 fq_73 Sq_73 => ?_)
  have O_74 : va_at D kcl (H.size, .inl (ca.2.1, 10, .inr (.inr (.inr (.inr (fun _ => none)))))) Hq_73 := va_at.kept O_67 (fq_73 _ (by omega))
  have O_75 : va_at D kcl (a, .inr (5, [.ref H.size, .ref Hp_3.size, .int 0])) Hq_73 := va_at.kept O_68 (fq_73 _ (by omega))
  have O_76 : va_at D kcl (Hp_11.size, .inr (4, [.null, .int 0, .int (-1), .int 0])) Hq_73 := va_at.kept O_69 (fq_73 _ (by omega))
  have O_77 : va_at D kcl (Hq_22.size, .inr (4, [.null, .int 0, .int (-1), .int 0])) Hq_73 := va_at.kept O_70 (fq_73 _ (by omega))
  have O_78 : va_at D kcl (Hq_36.size, .inr (4, [.null, .int 0, .int (-1), .int 0])) Hq_73 := va_at.kept O_71 (fq_73 _ (by omega))
  have O_79 : va_at D kcl (Hq_53.size, .inr (4, [.null, .int 0, .int (-1), .int 0])) Hq_73 := va_at.kept W3 (fq_73 _ (by omega))
  have Oq_73 : va_at D kcl (Hp_3.size, .inl (ca.2.2.1, 4, .inr (.inr (.inr (.inr (va_up (va_up (va_up (va_up (fun _ => none) 0 (some Hp_11.size)) 1 (some Hq_22.size)) 2 (some Hq_36.size)) 3 (some Hq_53.size))))))) Hq_73 := by
    have h9 := Oq_73
    rw [nI_clamp (by decide)] at h9
    exact h9
  refine yy_iinc (v := nI ((((0 + 1) + 1) + 1) + 1)) (lv' := [(1, .int (nI ((((0 + 1) + 1) + 1) + 1))), (0, .ref a)]) F d_K_init_50 (n := 53) rfl 0 rfl (nI_1 _) (by decide) rfl ?_
  refine yy_goto (tgt := 28) F d_K_init_53 (by decide) ?_
  refine yy_iload_n F d_K_init_28 (n := 29) rfl 0 rfl ?_
  refine yy_aload_n F d_K_init_29 (n := 30) rfl 1 rfl ?_
  refine yy_get F X.1 X.2.1 g_K_17_K O_75 rfl d_K_init_30 (n := 33) rfl ?_
  refine yy_alen F X.2.1 2 rfl Oq_73 (x := 4) rfl d_K_init_33 (n := 34) rfl ?_
  refine yy_ic_ge_t (tgt := 56) F d_K_init_34 (by decide) (by decide) ?_
  have K9 : va_at D kcl (a, .inr (5, [.ref H.size, .ref (H.size + 1), .int 0])) Hq_73 := by rw [← hwa]; exact O_75
  have R9 : va_at D kcl (H.size + 1, .inl (ca.2.2.1, 4, .inr (.inr (.inr (.inr (va_up (va_up (va_up (va_up (fun _ => none) 0 (some Hp_11.size)) 1 (some Hq_22.size)) 2 (some Hq_36.size)) 3 (some Hq_53.size))))))) Hq_73 := by rw [← hwa]; exact Oq_73
  have W90 : va_at D kcl (H.size + 2, .inr (4, [.null, .int 0, .int (-1), .int 0])) Hq_73 := by rw [← hw0]; exact O_76
  have W91 : va_at D kcl (H.size + 3, .inr (4, [.null, .int 0, .int (-1), .int 0])) Hq_73 := by rw [← hw1]; exact O_77
  have W92 : va_at D kcl (H.size + 4, .inr (4, [.null, .int 0, .int (-1), .int 0])) Hq_73 := by rw [← hw2]; exact O_78
  have W93 : va_at D kcl (H.size + 5, .inr (4, [.null, .int 0, .int (-1), .int 0])) Hq_73 := by rw [← hw3]; exact O_79
  have hg : ∀ i, (va_up (va_up (va_up (va_up (fun _ => none) 0 (some Hp_11.size)) 1 (some Hq_22.size)) 2 (some Hq_36.size)) 3 (some Hq_53.size)) i = if i < 4 then some (H.size + 2 + i) else none := by
    intro i
    by_cases h : i < 4
    · rw [if_pos h]
      rcases i with _ | _ | _ | _ | i
      · simp [va_up, hw0]
      · simp [va_up, hw1]
      · simp [va_up, hw2]
      · simp [va_up, hw3]
      · omega
    · rw [if_neg h]
      simp only [va_up, if_neg (show ¬ i = 3 by omega), if_neg (show ¬ i = 2 by omega), if_neg (show ¬ i = 1 by omega), if_neg (show ¬ i = 0 by omega)]
  have hwk : ∀ i, i < 4 → va_at D kcl (H.size + 2 + i, .inr (4, [.null, .int 0, .int (-1), .int 0])) Hq_73 := by
    intro i h
    rcases i with _ | _ | _ | _ | i
    · exact W90
    · exact W91
    · exact W92
    · exact W93
    · omega
  exact yy_vret F Sq_73 ⟨by decide, by decide⟩ rfl d_K_init_56 (⟨rfl, ck0 ha hzs lta (by omega) K9 O_74 R9 hg hwk, by omega, fun q hq hna => (fq_73 q (by omega)).trans ((m3 q (by omega)).trans ((on_59 q (by omega)).trans ((fq_53 q (by omega)).trans ((m2 q (by omega)).trans ((on_41 q (by omega)).trans ((fq_36 q (by omega)).trans ((m1 q (by omega)).trans ((on_26 q (by omega)).trans ((fq_22 q (by omega)).trans ((m0 q (by omega)).trans ((on_14 q (by omega)).trans ((fp_11 q (by omega)).trans ((fp_8 q (by omega)).trans ((on_5 q (by omega)).trans ((fp_3 q (by omega)).trans (on_1 q (by omega)))))))))))))))))⟩)
