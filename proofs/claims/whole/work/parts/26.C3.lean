/-! PART C3: changes through a container -/
set_option maxRecDepth 100000 in
set_option maxHeartbeats 4000000 in
theorem c_C_changeNumber {l : Launch} {z : State} {a0 : Array Value} {D : va_G} {ca : kca} (X : kcx l z a0 D ca) {A : kA} {σ : ks} {t c : Nat} (I : iv t σ) (hc : c < k_m σ) {x y : Int32} {q : Nat} (hq : nI (k_start σ c) + x = nI q) (hq2 : q < s_ct (k_B σ c)) : yy_M l z y_C_changeNumber (.code y_C_changeNumber b_C_changeNumber 4 (some .int)) ({ frames := 3, cells := 0, slots := 0, locals := 65 }) [.ref (a_ad A c), .int x, .int y] (ck_at D ca z A σ) (yy_pi (fun r H H1 => r = s_nu (k_B σ c) q ∧ ck_at D ca z A (k_setS σ (k_bs σ c) (S_nu (k_B σ c) q y)) H1 ∧ kpA A H H1)) := by
  refine yy_body (plainFor_of_name (by decide)) (Nat.le_of_ble_eq_true rfl) (fun b H F hS hP hH hnm => ?_)
  refine yy_aload_n F d_C_changeNumber_0 (n := 1) rfl 0 rfl ?_
  refine yy_iload_n F d_C_changeNumber_1 (n := 2) rfl 1 rfl ?_
  refine yy_cri (w := (s_nu (k_B σ c) q)) F hS (c_C_numberAt (A := A) (σ := σ) (c := c) X I hc hq hq2) (yy_Bc F X.1 q_452 q_9) (yy_invC (nA := 1) (x := y_C_numberAt) F X hP hc q_476 q_448 (k_dec X q_447 q_452) (k_sel q_451 q_449 q_450 σ c) q_447 ⟨by decide, by decide, by decide +kernel⟩ rfl d_C_changeNumber_2) d_C_changeNumber_2 (n := 5) rfl (by simp [Value.category]) ⟨by decide, by decide⟩ ⟨Nat.zero_le _, Nat.zero_le _⟩ ⟨rfl, rfl⟩ hP rfl (fun _ hS_1 => ?_)
  refine yy_istore_n (lv' := [(3, .int (s_nu (k_B σ c) q)), (0, .ref (a_ad A c)), (1, .int x), (2, .int y)]) F d_C_changeNumber_5 (n := 6) rfl (by decide) rfl ?_
  refine yy_aload_n F d_C_changeNumber_6 (n := 7) rfl 1 rfl ?_
  refine cr_store F X g_C_15_G g_C_15_P g_C_15_R hP hc d_C_changeNumber_7 (n := 10) rfl ?_
  refine yy_aload_n F d_C_changeNumber_10 (n := 11) rfl 1 rfl ?_
  refine vd_start F X I hc hP hS_1 q_453 ⟨by decide, by decide⟩ (by simp [Value.category]) d_C_changeNumber_11 (n := 14) rfl ⟨Nat.le_refl _, Nat.le_refl _⟩ (fun _ hS_2 => ?_)
  refine yy_iload_n F d_C_changeNumber_14 (n := 15) rfl 2 rfl ?_
  refine yy_iadd F d_C_changeNumber_15 (n := 16) rfl ?_
  refine yy_iload_n F d_C_changeNumber_16 (n := 17) rfl 3 rfl ?_
  refine yy_sec (y := nI q) hq ?_
  refine yy_cv F hS_2 (c_S_setNumber (j := q) (x := y) X (I.ct hc) (hP.sok hc) hq2) (yy_Bc F X.1 q_480 q_11) (yy_invV (nA := 2) (C := R_S) (bytes := b_S_setNumber) (maxL := 3) (retY := none) F X.1 q_477 q_478 q_479 q_480 ⟨by decide, by decide, by decide +kernel⟩ (yy_recv F.N X.2.1 (ci := 0) rfl (hP.sc hc).1) rfl d_C_changeNumber_17) d_C_changeNumber_17 (n := 20) rfl (by simp [Value.category]) ⟨by decide, by decide⟩ ⟨Nat.zero_le _, Nat.zero_le _⟩ ⟨rfl, rfl⟩ (hP.sc hc) (fun Hw_3 locs_w_3 qw_3 Sw_3 => ?_)
  obtain ⟨Qw_3, zw_3⟩ := qw_3
  have Rw_3 : sk_at D ca Hw_3 A (k_kd σ (k_bs σ c)) (k_bs σ c) (S_nu (k_B σ c) q y) := Qw_3
  obtain ⟨Pw_3, kw_3⟩ := hP.putS (hP.ok.bs hc).1 (hP.ok.bs hc).2 Rw_3 zw_3
  have kw_3 := kpA.rf.tr kw_3
  refine yy_iload_n F d_C_changeNumber_20 (n := 21) rfl 0 rfl ?_
  exact yy_iret F Sw_3 ⟨Nat.zero_le _, Nat.zero_le _⟩ rfl d_C_changeNumber_21 (⟨_, rfl, rfl, Pw_3, kw_3⟩)
set_option maxRecDepth 100000 in
set_option maxHeartbeats 4000000 in
theorem c_C_changeValue {l : Launch} {z : State} {a0 : Array Value} {D : va_G} {ca : kca} (X : kcx l z a0 D ca) {A : kA} {σ : ks} {t c : Nat} (I : iv t σ) (hc : c < k_m σ) {x y : Int32} {q : Nat} (hq : nI (k_start σ c) + x = nI q) (hq2 : q < s_ct (k_B σ c)) : yy_M l z y_C_changeValue (.code y_C_changeValue b_C_changeValue 4 (some .int)) ({ frames := 3, cells := 0, slots := 0, locals := 65 }) [.ref (a_ad A c), .int x, .int y] (ck_at D ca z A σ) (yy_pi (fun r H H1 => r = s_vl (k_B σ c) q ∧ ck_at D ca z A (k_setS σ (k_bs σ c) (S_vl (k_B σ c) q y)) H1 ∧ kpA A H H1)) := by
  refine yy_body (plainFor_of_name (by decide)) (Nat.le_of_ble_eq_true rfl) (fun b H F hS hP hH hnm => ?_)
  refine yy_aload_n F d_C_changeValue_0 (n := 1) rfl 0 rfl ?_
  refine yy_iload_n F d_C_changeValue_1 (n := 2) rfl 1 rfl ?_
  refine yy_cri (w := (s_vl (k_B σ c) q)) F hS (c_C_valueAt (A := A) (σ := σ) (c := c) X I hc hq hq2) (yy_Bc F X.1 q_653 q_9) (yy_invC (nA := 1) (x := y_C_valueAt) F X hP hc q_758 q_649 (k_dec X q_648 q_653) (k_sel q_652 q_650 q_651 σ c) q_648 ⟨by decide, by decide, by decide +kernel⟩ rfl d_C_changeValue_2) d_C_changeValue_2 (n := 5) rfl (by simp [Value.category]) ⟨by decide, by decide⟩ ⟨Nat.zero_le _, Nat.zero_le _⟩ ⟨rfl, rfl⟩ hP rfl (fun _ hS_1 => ?_)
  refine yy_istore_n (lv' := [(3, .int (s_vl (k_B σ c) q)), (0, .ref (a_ad A c)), (1, .int x), (2, .int y)]) F d_C_changeValue_5 (n := 6) rfl (by decide) rfl ?_
  refine yy_aload_n F d_C_changeValue_6 (n := 7) rfl 1 rfl ?_
  refine cr_store F X g_C_15_G g_C_15_P g_C_15_R hP hc d_C_changeValue_7 (n := 10) rfl ?_
  refine yy_aload_n F d_C_changeValue_10 (n := 11) rfl 1 rfl ?_
  refine vd_start F X I hc hP hS_1 q_453 ⟨by decide, by decide⟩ (by simp [Value.category]) d_C_changeValue_11 (n := 14) rfl ⟨Nat.le_refl _, Nat.le_refl _⟩ (fun _ hS_2 => ?_)
  refine yy_iload_n F d_C_changeValue_14 (n := 15) rfl 2 rfl ?_
  refine yy_iadd F d_C_changeValue_15 (n := 16) rfl ?_
  refine yy_iload_n F d_C_changeValue_16 (n := 17) rfl 3 rfl ?_
  refine yy_sec (y := nI q) hq ?_
  refine yy_cv F hS_2 (c_S_setValue (j := q) (x := y) X (I.ct hc) (hP.sok hc) hq2) (yy_Bc F X.1 q_635 q_11) (yy_invV (nA := 2) (C := R_S) (bytes := b_S_setValue) (maxL := 3) (retY := none) F X.1 q_833 q_633 q_634 q_635 ⟨by decide, by decide, by decide +kernel⟩ (yy_recv F.N X.2.1 (ci := 0) rfl (hP.sc hc).1) rfl d_C_changeValue_17) d_C_changeValue_17 (n := 20) rfl (by simp [Value.category]) ⟨by decide, by decide⟩ ⟨Nat.zero_le _, Nat.zero_le _⟩ ⟨rfl, rfl⟩ (hP.sc hc) (fun Hw_3 locs_w_3 qw_3 Sw_3 => ?_)
  obtain ⟨Qw_3, zw_3⟩ := qw_3
  have Rw_3 : sk_at D ca Hw_3 A (k_kd σ (k_bs σ c)) (k_bs σ c) (S_vl (k_B σ c) q y) := Qw_3
  obtain ⟨Pw_3, kw_3⟩ := hP.putS (hP.ok.bs hc).1 (hP.ok.bs hc).2 Rw_3 zw_3
  have kw_3 := kpA.rf.tr kw_3
  refine yy_iload_n F d_C_changeValue_20 (n := 21) rfl 0 rfl ?_
  exact yy_iret F Sw_3 ⟨Nat.zero_le _, Nat.zero_le _⟩ rfl d_C_changeValue_21 (⟨_, rfl, rfl, Pw_3, kw_3⟩)
set_option maxRecDepth 100000 in
set_option maxHeartbeats 4000000 in
theorem c_C_follow {l : Launch} {z : State} {a0 : Array Value} {D : va_G} {ca : kca} (X : kcx l z a0 D ca) {A : kA} {σ : ks} {c : Nat} (hc : c < k_m σ) {more : Int32}  : yy_M l z y_C_follow (.code y_C_follow b_C_follow 2 none) ({ frames := 0, cells := 0, slots := 0, locals := 0 }) [.ref (a_ad A c), .int more] (ck_at D ca z A σ) (yy_rv) := by
  refine yy_body (plainFor_of_name (by decide)) (Nat.le_of_ble_eq_true rfl) (fun b H F hS hP hH hnm => ?_)
  exact yy_vret F hS ⟨Nat.zero_le _, Nat.zero_le _⟩ rfl d_C_follow_0 (⟨rfl, rfl⟩)
set_option maxRecDepth 100000 in
set_option maxHeartbeats 4000000 in
theorem c_P_follow {l : Launch} {z : State} {a0 : Array Value} {D : va_G} {ca : kca} (X : kcx l z a0 D ca) {A : kA} {σ : ks} {c : Nat} (hc : c < k_m σ) {more : Int32} {g : Nat → Nat} (h6 : k_kd σ c = 6) (hw : ∀ x, x < k_m σ → k_kd σ x = 6 → k_of σ x < x) (hch : k_chn σ g more (c + 1) c) : yy_M l z y_P_follow (.code y_P_follow b_P_follow 3 none) ({ frames := 0, cells := 0, slots := 0, locals := 0 }) [.ref (a_ad A c), .int more] (ck_at D ca z A σ) (yy_pv (fun H H1 => ck_at D ca z A (k_fo g (s_ch (k_B σ c)) (c + 1) c σ) H1 ∧ kpA A H H1)) := by
  refine yy_body (plainFor_of_name (by decide)) (Nat.le_of_ble_eq_true rfl) (fun b H F hS hP hH hnm => ?_)
  have loop : ∀ (n x : Nat) (σ1 : ks) (H1 : Heap) (locs : List Loc), x < n → x < k_m σ → k_kd σ x = 6 → k_chn σ g more n x → (∀ y, y ≤ x → k_C σ1 y = k_C σ y) → (∀ y, k_kd σ1 y = k_kd σ y ∧ k_bs σ1 y = k_bs σ y) → σ1.2.2.1 = σ.2.2.1 → σ1.1 = σ.1 → k_fo g (s_ch (k_B σ c)) n x σ1 = k_fo g (s_ch (k_B σ c)) (c + 1) c σ → ck_at D ca z A σ1 H1 → kpA A H H1 → yy_S z H1 locs → yy_Y b H1 locs (0, 0) 2 [(2, .ref (a_ad A x)), (0, .ref (a_ad A c)), (1, .int more)] [] := by
    intro n
    induction n with
    | zero =>
      intro x σ1 H1 locs hn
      exact absurd hn (by omega)
    | succ n ih =>
      intro x σ1 H1 locs hxn hx h6x hchx hC hK hS9 hm hE P1 k1 S1
      have hx1 : x < k_m σ1 := by rw [show k_m σ1 = k_m σ from hm]; exact hx
      have hc1 : c < k_m σ1 := by rw [show k_m σ1 = k_m σ from hm]; exact hc
      have h61 : k_kd σ1 x = 6 := by rw [(hK x).1]; exact h6x
      have h6c : k_kd σ1 c = 6 := by rw [(hK c).1]; exact h6
      have hln : k_ln σ1 x = k_ln σ x := congrArg (fun q : kC => q.2.2.2.2.1) (hC x (Nat.le_refl _))
      have hof : k_of σ1 x = k_of σ x := congrArg (fun q : kC => q.2.2.1) (hC x (Nat.le_refl _))
      have hB : k_B σ1 c = k_B σ c := by unfold k_B; rw [hS9, (hK c).2]
      obtain ⟨hg, hch2⟩ := hchx h6x
      refine yy_aload_n F d_P_follow_2 (n := 3) rfl 0 rfl ?_
      refine yy_ifnull_f F d_P_follow_3 (n := 6) rfl ?_
      refine yy_aload_n F d_P_follow_6 (n := 7) rfl 0 rfl ?_
      refine yy_dup F d_P_follow_7 (n := 8) rfl rfl ?_
      refine yy_get F X.1 X.2.1 g_P_19_P (P1.c6 hx1 h61) rfl d_P_follow_8 (n := 11) rfl ?_
      refine yy_iload_n F d_P_follow_11 (n := 12) rfl 2 rfl ?_
      refine yy_iadd F d_P_follow_12 (n := 13) rfl ?_
      refine cr_ln F X g_P_19_P P1 hx1 h61 S1 (m := (g (k_ln σ1 x))) (by rw [hln]; exact hg) d_P_follow_13 (n := 16) rfl (fun Hw_1 locs_w_1 Pw_1 kw_1 Sw_1 => ?_)
      have kw_1 := k1.tr kw_1
      obtain ⟨σ2, hσ2⟩ : ∃ σ2 : ks, σ2 = k_setL σ1 x (g (k_ln σ1 x)) (k_se σ1 x) := ⟨_, rfl⟩
      rw [← hσ2] at Pw_1
      have hk2 : ∀ y, k_kd σ2 y = k_kd σ1 y ∧ k_bs σ2 y = k_bs σ1 y := fun y => by rw [hσ2]; exact ⟨(k_setL_kd _ _ _ _ y).1, (k_setL_kd _ _ _ _ y).2.1⟩
      have hx2 : x < k_m σ2 := by rw [hσ2]; exact hx1
      have hc2 : c < k_m σ2 := by rw [hσ2]; exact hc1
      have h62 : k_kd σ2 x = 6 := by rw [(hk2 x).1]; exact h61
      have h6c2 : k_kd σ2 c = 6 := by rw [(hk2 c).1]; exact h6c
      have hB2 : k_B σ2 c = k_B σ c := by rw [← hB]; unfold k_B; rw [(hk2 c).2, hσ2]; rfl
      refine yy_aload_n F d_P_follow_16 (n := 17) rfl 0 rfl ?_
      refine yy_aload_n F d_P_follow_17 (n := 18) rfl 1 rfl ?_
      refine yy_get F X.1 X.2.1 g_P_30_P (Pw_1.c6 hc2 h6c2) rfl d_P_follow_18 (n := 21) rfl ?_
      refine yy_get F X.1 X.2.1 g_P_22_S (Pw_1.sc hc2).1 rfl d_P_follow_21 (n := 24) rfl ?_
      refine cr_se F X g_P_27_P Pw_1 hx2 h62 Sw_1 (m := (s_ch (k_B σ c))) (by rw [hB2]) d_P_follow_24 (n := 27) rfl (fun Hw_2 locs_w_2 Pw_2 kw_2 Sw_2 => ?_)
      have kw_2 := kw_1.tr kw_2
      rw [show k_setL σ2 x (k_ln σ2 x) (s_ch (k_B σ c)) = k_setL σ1 x (g (k_ln σ1 x)) (s_ch (k_B σ c)) by rw [hσ2, k_setL2, (k_setL_ln σ1 x _ _).1]] at Pw_2
      obtain ⟨σ3, hσ3⟩ : ∃ σ3 : ks, σ3 = k_setL σ1 x (g (k_ln σ1 x)) (s_ch (k_B σ c)) := ⟨_, rfl⟩
      rw [← hσ3] at Pw_2
      have hk3 : ∀ y, k_kd σ3 y = k_kd σ1 y ∧ k_bs σ3 y = k_bs σ1 y ∧ k_of σ3 y = k_of σ1 y := fun y => by rw [hσ3]; exact ⟨(k_setL_kd _ _ _ _ y).1, (k_setL_kd _ _ _ _ y).2.1, (k_setL_kd _ _ _ _ y).2.2.1⟩
      have hx3 : x < k_m σ3 := by rw [hσ3]; exact hx1
      have h63 : k_kd σ3 x = 6 := by rw [(hk3 x).1]; exact h61
      rw [show k_fo g (s_ch (k_B σ c)) (n + 1) x σ1 = k_fo g (s_ch (k_B σ c)) n (k_of σ x) σ3 from by rw [hσ3, ← hof]; exact if_pos h61] at hE
      have hox := hw x hx h6x
      refine yy_aload_n F d_P_follow_27 (n := 28) rfl 0 rfl ?_
      refine yy_get F X.1 X.2.1 g_P_9_P (Pw_2.c6 hx3 h63) rfl d_P_follow_28 (n := 31) rfl ?_
      have hab : k_ab A σ3 x = if k_kd σ (k_of σ x) = 6 then some (a_ad A (k_of σ x)) else none := by unfold k_ab; rw [(hk3 x).2.2, hof, (hk3 _).1, (hK _).1]
      rw [hab]
      by_cases h6o : k_kd σ (k_of σ x) = 6
      · rw [if_pos h6o]
        refine yy_astore_n (lv' := [(2, .ref (a_ad A (k_of σ x))), (0, .ref (a_ad A c)), (1, .int more)]) F d_P_follow_31 (n := 32) rfl (by decide) rfl ?_
        refine yy_goto (tgt := 2) F d_P_follow_32 (by decide) ?_
        exact yy_sub [0, 1, 2] rfl (ih (k_of σ x) σ3 _ _ (by omega) (by omega) h6o hch2 (fun y hy => by rw [hσ3, k_setL_o σ1 _ _ (by omega)]; exact hC y (by omega)) (fun y => by rw [(hk3 y).1, (hk3 y).2.1]; exact hK y) (by rw [hσ3]; exact hS9) (by rw [hσ3]; exact hm) hE Pw_2 kw_2 Sw_2)
      · rw [if_neg h6o]
        refine yy_astore_nN (lv' := [(2, .null), (0, .ref (a_ad A c)), (1, .int more)]) F d_P_follow_31 (n := 32) rfl (by decide) rfl ?_
        refine yy_goto (tgt := 2) F d_P_follow_32 (by decide) ?_
        refine yy_aload_nN F d_P_follow_2 (n := 3) rfl 0 rfl ?_
        refine yy_ifnull_t (tgt := 35) F d_P_follow_3 (by decide) ?_
        have hlast : k_fo g (s_ch (k_B σ c)) n (k_of σ x) σ3 = σ3 := by
          cases n with
          | zero => rfl
          | succ n => exact if_neg (by rw [(hk3 _).1, (hK _).1]; exact h6o)
        rw [hlast] at hE
        exact yy_vret F Sw_2 ⟨Nat.zero_le _, Nat.zero_le _⟩ rfl d_P_follow_35 (⟨rfl, by rw [← hE]; exact Pw_2, kw_2⟩)
  refine yy_aload_n F d_P_follow_0 (n := 1) rfl 0 rfl ?_
  refine yy_astore_n (lv' := [(2, .ref (a_ad A c)), (0, .ref (a_ad A c)), (1, .int more)]) F d_P_follow_1 (n := 2) rfl (by decide) rfl ?_
  exact yy_sub [0, 1, 2] rfl (loop (c + 1) c σ H _ (by omega) hc h6 hch (fun _ _ => rfl) (fun _ => ⟨rfl, rfl⟩) rfl rfl rfl hP kpA.rf hS)
theorem vd_follow {l : Launch} {z : State} {a0 : Array Value} {D : va_G} {ca : kca} {rm : Room} {cc : ByteArray} {nL : Nat} {own : String} {ret : Option FieldType} {hh : List (Nat × Nat × Nat × Nat)} {Post : yy_R → Heap → Prop} {b : yy_T} {H : Heap} {locs : List Loc} {k : Nat × Nat} {pc n idx : Nat} {lv : List (Nat × Value)} {rest : List Value} {A : kA} {σ : ks} {c : Nat} {more : Int32} {g : Nat → Nat} (F : yy_A l z b rm cc nL own ret hh Post) (X : kcx l z a0 D ca) (hc : c < k_m σ) (P : ck_at D ca z A σ H) (hS : yy_S z H locs) (hl : Cond.methodLink own idx y_C_follow ∈ lw_tbl) (hw : (∀ x, x < k_m σ → k_kd σ x = 6 → k_of σ x < x) ∧ k_chn σ g more (c + 1) c) (hR : 1 ≤ rm.frames ∧ 22 ≤ rm.locals) (hW8 : (rest.map fun v => v.category).sum ≤ 8) (d : decode cc pc = .ok (.invokevirtual idx, 3)) (hn : pc + 3 = n) (hf : k.1 ≤ rm.cells ∧ k.2 ≤ rm.slots)
    (kk : ∀ (H1 : Heap) (locs1 : List Loc), ck_at D ca z A (k_fo g (s_ch (k_B σ c)) (c + 1) c σ) H1 → kpA A H H1 → yy_S z H1 locs1 → yy_Y b H1 locs1 k n lv rest) : yy_Y b H locs k pc lv (.int more :: .ref (a_ad A c) :: rest) := by
  by_cases h6 : k_kd σ c = 6
  · exact yy_cv F hS (c_P_follow (A := A) (σ := σ) (c := c) (more := more) (g := g) X hc h6 hw.1 hw.2) (yy_Bc F X.1 q_518 q_16) (yy_invC (nA := 1) (x := y_C_follow) F X P hc hl q_515 (k_dec X q_514 q_521) (by rw [k_cls6 h6]; exact q_516) q_517 ⟨by decide, by decide, by decide +kernel⟩ rfl d) d hn hW8 (by constructor <;> simp <;> omega) hf ⟨rfl, rfl⟩ P (fun H1 locs1 h1 h2 => kk H1 locs1 h1.1 h1.2 h2)
  · have hE : k_fo g (s_ch (k_B σ c)) (c + 1) c σ = σ := if_neg h6
    rw [hE] at kk
    have hse : Cond.selects (k_cls σ c) y_C_follow y_C_follow ∈ lw_tbl := by
      unfold k_cls
      rw [if_neg h6]
      split
      · exact q_519
      · exact q_520
    exact yy_crv F hS (c_C_follow (A := A) (σ := σ) (c := c) (more := more) X hc) (yy_Bc F X.1 q_521 q_9) (yy_invC (nA := 1) (x := y_C_follow) F X P hc hl q_515 (k_dec X q_514 q_521) hse q_514 ⟨by decide, by decide, by decide +kernel⟩ rfl d) d hn hW8 (by constructor <;> simp <;> omega) hf ⟨rfl, rfl⟩ P (fun locs1 h2 => kk H locs1 P kpA.rf h2)
