/-! PART S5: keys that are put -/
/-- where a new key comes in -/
def ym_pl (kd : Int32) (nf : Nat → Int32) (key : Int32) (n : Nat) : Nat := if kd = 4 then ym_cnt (ym_bel nf key 0) n else n
theorem ym_pl_le (kd : Int32) (nf : Nat → Int32) (key : Int32) (n : Nat) : ym_pl kd nf key n ≤ n := by
  unfold ym_pl
  split
  · exact ym_cnt_le _ _
  · exact Nat.le_refl _
/-- a row with one more -/
def ym_ad (f : Nat → Int32) (j n : Nat) (x : Int32) : Nat → Int32 := upd (ym_up f j n) j x
set_option maxRecDepth 100000 in
set_option maxHeartbeats 4000000 in
/-- a new key comes in -/
theorem c_S_bringKeyIn {l : Launch} {z : State} {a0 : Array Value} {D : va_G} {ca : kca} (X : kcx l z a0 D ca) {a na va n : Nat} {kd rm ch : Int32} {nf vf : Nat → Int32} (hn : n ≤ 24) (ok : st_ok z a na va) {key v : Int32} (hkz : ¬ kd = 0) (h24 : n < 24) (hno : kd = 3 → n + 1 < 7) : yy_M l z y_S_bringKeyIn (.code y_S_bringKeyIn b_S_bringKeyIn 3 none) ({ frames := 2, cells := 0, slots := 0, locals := 44 }) [.ref a, .int key, .int v] (fun H => st_at D ca H a na va kd rm ch n nf vf) (yy_pv (fun H H1 => st_at D ca H1 a na va kd (ym_bkt kd rm (n + 1)) (ch + 1) (n + 1) (ym_ad nf (ym_pl kd nf key n) n key) (ym_ad vf (ym_pl kd nf key n) n v) ∧ kp [a, na, va] H H1)) := by
  refine yy_body (plainFor_of_name (by decide)) (Nat.le_of_ble_eq_true rfl) (fun b H F hS hP hH hnm => ?_)
  have hk0 : kp [a, na, va] H H := kp.rf
  have end_ : ∀ (H1 : Heap) (locs : List Loc), st_at D ca H1 a na va kd (ym_bkt kd rm (n + 1)) (ch + 1) (n + 1) (ym_ad nf (ym_pl kd nf key n) n key) (ym_ad vf (ym_pl kd nf key n) n v) → kp [a, na, va] H H1 → yy_S z H1 locs → yy_Y b H1 locs (0, 0) 68 [(0, .ref a), (1, .int key), (2, .int v)] [] := by
    intro H1 locs P1 k1 S1
    refine yy_aload_n F d_S_bringKeyIn_68 (n := 69) rfl 0 rfl ?_
    refine yy_get F X.1 X.2.1 g_S_28_S P1.1 rfl d_S_bringKeyIn_69 (n := 72) rfl ?_
    refine yy_iconst (v := 3) F d_S_bringKeyIn_72 (n := 73) rfl rfl ?_
    refine yy_ic_ne (tgt := 90) F d_S_bringKeyIn_73 (n := 76) rfl (by decide) (fun h1 => ?_) (fun h1 => ?_)
    · exact yy_vret F S1 ⟨Nat.zero_le _, Nat.zero_le _⟩ rfl d_S_bringKeyIn_90 (⟨rfl, P1, k1⟩)
    · refine yy_aload_n F d_S_bringKeyIn_76 (n := 77) rfl 0 rfl ?_
      refine yy_get F X.1 X.2.1 g_S_18_S P1.1 rfl d_S_bringKeyIn_77 (n := 80) rfl ?_
      refine yy_bipush (v := 7) F d_S_bringKeyIn_80 (n := 82) rfl rfl ?_
      refine yy_ic_lt_t (tgt := 90) F d_S_bringKeyIn_82 (by decide) ((ym_lt (k := 7) rfl (by omega)).mpr (hno h1)) ?_
      exact yy_vret F S1 ⟨Nat.zero_le _, Nat.zero_le _⟩ rfl d_S_bringKeyIn_90 (⟨rfl, P1, k1⟩)
  have mid : ∀ (H1 : Heap) (locs : List Loc), st_at D ca H1 a na va kd rm (ch + 1) (n + 1) (ym_ad nf (ym_pl kd nf key n) n key) (ym_ad vf (ym_pl kd nf key n) n v) → kp [a, na, va] H H1 → yy_S z H1 locs → yy_Y b H1 locs (0, 0) 27 [(0, .ref a), (1, .int key), (2, .int v)] [] := by
    intro H1 locs P1 k1 S1
    have look : (kd = 2 ∨ kd = 3) → yy_Y b H1 locs (0, 0) 43 [(0, .ref a), (1, .int key), (2, .int v)] [] := by
      intro h23
      refine yy_aload_n F d_S_bringKeyIn_43 (n := 44) rfl 0 rfl ?_
      refine yy_get F X.1 X.2.1 g_S_18_S P1.1 rfl d_S_bringKeyIn_44 (n := 47) rfl ?_
      refine yy_iconst (v := 4) F d_S_bringKeyIn_47 (n := 48) rfl rfl ?_
      refine yy_imul F d_S_bringKeyIn_48 (n := 49) rfl ?_
      refine yy_aload_n F d_S_bringKeyIn_49 (n := 50) rfl 0 rfl ?_
      refine yy_get F X.1 X.2.1 g_S_22_S P1.1 rfl d_S_bringKeyIn_50 (n := 53) rfl ?_
      refine yy_iconst (v := 3) F d_S_bringKeyIn_53 (n := 54) rfl rfl ?_
      refine yy_imul F d_S_bringKeyIn_54 (n := 55) rfl ?_
      refine yy_ic_le (tgt := 68) F d_S_bringKeyIn_55 (n := 58) rfl (by decide) (fun h2 => ?_) (fun h2 => ?_)
      · exact end_ H1 _ (by rw [show ym_bkt kd rm (n + 1) = rm from if_neg (fun q => absurd q.2 (Int32.not_lt.mpr h2))]; exact P1) k1 S1
      · refine yy_aload_n F d_S_bringKeyIn_58 (n := 59) rfl 0 rfl ?_
        refine yy_dup F d_S_bringKeyIn_59 (n := 60) rfl rfl ?_
        refine yy_get F X.1 X.2.1 g_S_22_S P1.1 rfl d_S_bringKeyIn_60 (n := 63) rfl ?_
        refine yy_iconst (v := 2) F d_S_bringKeyIn_63 (n := 64) rfl rfl ?_
        refine yy_imul F d_S_bringKeyIn_64 (n := 65) rfl ?_
        refine sr_room F X g_S_22_S S1 ok P1 k1 d_S_bringKeyIn_65 (n' := 68) rfl (fun Hw_1 locs_w_1 Pw_1 kw_1 Sw_1 => ?_)
        exact end_ _ _ (by rw [show ym_bkt kd rm (n + 1) = rm * 2 from if_pos ⟨h23, Int32.not_le.mp h2⟩]; exact Pw_1) kw_1 Sw_1
    refine yy_aload_n F d_S_bringKeyIn_27 (n := 28) rfl 0 rfl ?_
    refine yy_get F X.1 X.2.1 g_S_28_S P1.1 rfl d_S_bringKeyIn_28 (n := 31) rfl ?_
    refine yy_iconst (v := 2) F d_S_bringKeyIn_31 (n := 32) rfl rfl ?_
    refine yy_ic_eq (tgt := 43) F d_S_bringKeyIn_32 (n := 35) rfl (by decide) (fun h1 => ?_) (fun h1 => ?_)
    · exact look (Or.inl h1)
    · refine yy_aload_n F d_S_bringKeyIn_35 (n := 36) rfl 0 rfl ?_
      refine yy_get F X.1 X.2.1 g_S_28_S P1.1 rfl d_S_bringKeyIn_36 (n := 39) rfl ?_
      refine yy_iconst (v := 3) F d_S_bringKeyIn_39 (n := 40) rfl rfl ?_
      refine yy_ic_ne (tgt := 68) F d_S_bringKeyIn_40 (n := 43) rfl (by decide) (fun h2 => ?_) (fun h2 => ?_)
      · exact end_ H1 _ (by rw [show ym_bkt kd rm (n + 1) = rm from if_neg (fun q => q.1.elim h1 h2)]; exact P1) k1 S1
      · exact look (Or.inr h2)
  have bring : ∀ (j : Nat) (locs : List Loc), j = ym_pl kd nf key n → yy_S z H locs → yy_Y b H locs (0, 0) 22 [(0, .ref a), (1, .int key), (2, .int v)] [.int (nI j), .ref a] := by
    intro j locs hj S1
    refine yy_iload_n F d_S_bringKeyIn_22 (n := 23) rfl 1 rfl ?_
    refine yy_iload_n F d_S_bringKeyIn_23 (n := 24) rfl 2 rfl ?_
    refine yy_cv F S1 (c_S_bringIn (j := j) (x := key) (v := v) X hn ok (by rw [hj]; exact ym_pl_le _ _ _ _) h24) (yy_Bc F X.1 q_511 q_11) (yy_invV (nA := 3) (C := R_S) (bytes := b_S_bringIn) (maxL := 5) (retY := none) F X.1 q_630 q_509 q_510 q_511 ⟨by decide, by decide, by decide +kernel⟩ (yy_recv F.N X.2.1 (ci := 0) rfl hP.1) rfl d_S_bringKeyIn_24) d_S_bringKeyIn_24 (n := 27) rfl (by simp [Value.category]) ⟨by decide, by decide⟩ ⟨Nat.le_refl _, Nat.le_refl _⟩ ⟨rfl, rfl⟩ hP (fun Hw_2 locs_w_2 qw_2 Sw_2 => ?_)
    obtain ⟨Pw_2, kw_2⟩ := qw_2
    have kw_2 := hk0.tr kw_2
    rw [show ym_row kd rm n = rm from if_neg (fun q => hkz q.1), hj] at Pw_2
    exact mid _ _ Pw_2 kw_2 Sw_2
  refine yy_aload_n F d_S_bringKeyIn_0 (n := 1) rfl 0 rfl ?_
  refine yy_aload_n F d_S_bringKeyIn_1 (n := 2) rfl 0 rfl ?_
  refine yy_get F X.1 X.2.1 g_S_28_S hP.1 rfl d_S_bringKeyIn_2 (n := 5) rfl ?_
  refine yy_iconst (v := 4) F d_S_bringKeyIn_5 (n := 6) rfl rfl ?_
  refine yy_ic_ne (tgt := 18) F d_S_bringKeyIn_6 (n := 9) rfl (by decide) (fun h4 => ?_) (fun h4 => ?_)
  · refine yy_aload_n F d_S_bringKeyIn_18 (n := 19) rfl 0 rfl ?_
    refine yy_get F X.1 X.2.1 g_S_18_S hP.1 rfl d_S_bringKeyIn_19 (n := 22) rfl ?_
    exact bring n _ (if_neg h4).symm hS
  · refine yy_aload_n F d_S_bringKeyIn_9 (n := 10) rfl 0 rfl ?_
    refine yy_iload_n F d_S_bringKeyIn_10 (n := 11) rfl 1 rfl ?_
    refine yy_iconst (v := 0) F d_S_bringKeyIn_11 (n := 12) rfl rfl ?_
    refine yy_cri (w := (nI (ym_cnt (ym_bel nf key 0) n))) F hS (c_S_placesBefore (x := key) (e := 0) X hn) (yy_Bc F X.1 q_324 q_11) (yy_invV (nA := 2) (C := R_S) (bytes := b_S_placesBefore) (maxL := 5) (retY := (some .int)) F X.1 q_629 q_322 q_323 q_324 ⟨by decide, by decide, by decide +kernel⟩ (yy_recv F.N X.2.1 (ci := 0) rfl hP.1) rfl d_S_bringKeyIn_12) d_S_bringKeyIn_12 (n := 15) rfl (by simp [Value.category]) ⟨by decide, by decide⟩ ⟨Nat.le_refl _, Nat.le_refl _⟩ ⟨rfl, rfl⟩ hP rfl (fun _ hS_3 => ?_)
    refine yy_goto (tgt := 22) F d_S_bringKeyIn_15 (by decide) ?_
    exact bring _ _ (if_pos h4).symm hS_3
set_option maxRecDepth 100000 in
set_option maxHeartbeats 4000000 in
/-- a new key comes into a RECENT, and the first one goes -/
theorem c_S_bringKeyIn_t {l : Launch} {z : State} {a0 : Array Value} {D : va_G} {ca : kca} (X : kcx l z a0 D ca) {a na va n : Nat} {kd rm ch : Int32} {nf vf : Nat → Int32} (hn : n ≤ 24) (ok : st_ok z a na va) {key v : Int32} (hkz : ¬ kd = 0) (h24 : n < 24) (hkd : kd = 3) (h7 : 7 ≤ n + 1) : yy_M l z y_S_bringKeyIn (.code y_S_bringKeyIn b_S_bringKeyIn 3 none) ({ frames := 2, cells := 0, slots := 0, locals := 44 }) [.ref a, .int key, .int v] (fun H => st_at D ca H a na va kd rm ch n nf vf) (yy_pv (fun H H1 => st_at D ca H1 a na va kd (ym_bkt kd rm (n + 1)) (ch + 1 + 1) (n + 1 - 1) (ym_sh (ym_ad nf (ym_pl kd nf key n) n key) 0 (n + 1 - 1)) (ym_sh (ym_ad vf (ym_pl kd nf key n) n v) 0 (n + 1 - 1)) ∧ kp [a, na, va] H H1)) := by
  refine yy_body (plainFor_of_name (by decide)) (Nat.le_of_ble_eq_true rfl) (fun b H F hS hP hH hnm => ?_)
  have hk0 : kp [a, na, va] H H := kp.rf
  have end_ : ∀ (H1 : Heap) (locs : List Loc), st_at D ca H1 a na va kd (ym_bkt kd rm (n + 1)) (ch + 1) (n + 1) (ym_ad nf (ym_pl kd nf key n) n key) (ym_ad vf (ym_pl kd nf key n) n v) → kp [a, na, va] H H1 → yy_S z H1 locs → yy_Y b H1 locs (0, 0) 68 [(0, .ref a), (1, .int key), (2, .int v)] [] := by
    intro H1 locs P1 k1 S1
    refine yy_aload_n F d_S_bringKeyIn_68 (n := 69) rfl 0 rfl ?_
    refine yy_get F X.1 X.2.1 g_S_28_S P1.1 rfl d_S_bringKeyIn_69 (n := 72) rfl ?_
    refine yy_iconst (v := 3) F d_S_bringKeyIn_72 (n := 73) rfl rfl ?_
    refine yy_ic_ne_f (tgt := 90) F d_S_bringKeyIn_73 (n := 76) rfl (by decide) hkd ?_
    refine yy_aload_n F d_S_bringKeyIn_76 (n := 77) rfl 0 rfl ?_
    refine yy_get F X.1 X.2.1 g_S_18_S P1.1 rfl d_S_bringKeyIn_77 (n := 80) rfl ?_
    refine yy_bipush (v := 7) F d_S_bringKeyIn_80 (n := 82) rfl rfl ?_
    refine yy_ic_lt_f (tgt := 90) F d_S_bringKeyIn_82 (n := 85) rfl (by decide) (fun q => by have := (ym_lt (k := 7) rfl (by omega)).mp q; omega) ?_
    refine yy_aload_n F d_S_bringKeyIn_85 (n := 86) rfl 0 rfl ?_
    refine yy_iconst (v := 0) F d_S_bringKeyIn_86 (n := 87) rfl rfl ?_
    refine yy_cv F S1 (c_S_takeOut (j := 0) X (show n + 1 ≤ 24 by omega) ok (by omega)) (yy_Bc F X.1 q_539 q_11) (yy_invV (nA := 1) (C := R_S) (bytes := b_S_takeOut) (maxL := 2) (retY := none) F X.1 q_631 q_537 q_538 q_539 ⟨by decide, by decide, by decide +kernel⟩ (yy_recv F.N X.2.1 (ci := 0) rfl P1.1) rfl d_S_bringKeyIn_87) d_S_bringKeyIn_87 (n := 90) rfl (by simp [Value.category]) ⟨by decide, by decide⟩ ⟨Nat.le_refl _, Nat.le_refl _⟩ ⟨rfl, rfl⟩ P1 (fun Hw_1 locs_w_1 qw_1 Sw_1 => ?_)
    obtain ⟨Pw_1, kw_1⟩ := qw_1
    have kw_1 := k1.tr kw_1
    exact yy_vret F Sw_1 ⟨Nat.zero_le _, Nat.zero_le _⟩ rfl d_S_bringKeyIn_90 (⟨rfl, Pw_1, kw_1⟩)
  have mid : ∀ (H1 : Heap) (locs : List Loc), st_at D ca H1 a na va kd rm (ch + 1) (n + 1) (ym_ad nf (ym_pl kd nf key n) n key) (ym_ad vf (ym_pl kd nf key n) n v) → kp [a, na, va] H H1 → yy_S z H1 locs → yy_Y b H1 locs (0, 0) 27 [(0, .ref a), (1, .int key), (2, .int v)] [] := by
    intro H1 locs P1 k1 S1
    have look : (kd = 2 ∨ kd = 3) → yy_Y b H1 locs (0, 0) 43 [(0, .ref a), (1, .int key), (2, .int v)] [] := by
      intro h23
      refine yy_aload_n F d_S_bringKeyIn_43 (n := 44) rfl 0 rfl ?_
      refine yy_get F X.1 X.2.1 g_S_18_S P1.1 rfl d_S_bringKeyIn_44 (n := 47) rfl ?_
      refine yy_iconst (v := 4) F d_S_bringKeyIn_47 (n := 48) rfl rfl ?_
      refine yy_imul F d_S_bringKeyIn_48 (n := 49) rfl ?_
      refine yy_aload_n F d_S_bringKeyIn_49 (n := 50) rfl 0 rfl ?_
      refine yy_get F X.1 X.2.1 g_S_22_S P1.1 rfl d_S_bringKeyIn_50 (n := 53) rfl ?_
      refine yy_iconst (v := 3) F d_S_bringKeyIn_53 (n := 54) rfl rfl ?_
      refine yy_imul F d_S_bringKeyIn_54 (n := 55) rfl ?_
      refine yy_ic_le (tgt := 68) F d_S_bringKeyIn_55 (n := 58) rfl (by decide) (fun h2 => ?_) (fun h2 => ?_)
      · exact end_ H1 _ (by rw [show ym_bkt kd rm (n + 1) = rm from if_neg (fun q => absurd q.2 (Int32.not_lt.mpr h2))]; exact P1) k1 S1
      · refine yy_aload_n F d_S_bringKeyIn_58 (n := 59) rfl 0 rfl ?_
        refine yy_dup F d_S_bringKeyIn_59 (n := 60) rfl rfl ?_
        refine yy_get F X.1 X.2.1 g_S_22_S P1.1 rfl d_S_bringKeyIn_60 (n := 63) rfl ?_
        refine yy_iconst (v := 2) F d_S_bringKeyIn_63 (n := 64) rfl rfl ?_
        refine yy_imul F d_S_bringKeyIn_64 (n := 65) rfl ?_
        refine sr_room F X g_S_22_S S1 ok P1 k1 d_S_bringKeyIn_65 (n' := 68) rfl (fun Hw_2 locs_w_2 Pw_2 kw_2 Sw_2 => ?_)
        exact end_ _ _ (by rw [show ym_bkt kd rm (n + 1) = rm * 2 from if_pos ⟨h23, Int32.not_le.mp h2⟩]; exact Pw_2) kw_2 Sw_2
    refine yy_aload_n F d_S_bringKeyIn_27 (n := 28) rfl 0 rfl ?_
    refine yy_get F X.1 X.2.1 g_S_28_S P1.1 rfl d_S_bringKeyIn_28 (n := 31) rfl ?_
    refine yy_iconst (v := 2) F d_S_bringKeyIn_31 (n := 32) rfl rfl ?_
    refine yy_ic_eq (tgt := 43) F d_S_bringKeyIn_32 (n := 35) rfl (by decide) (fun h1 => ?_) (fun h1 => ?_)
    · exact look (Or.inl h1)
    · refine yy_aload_n F d_S_bringKeyIn_35 (n := 36) rfl 0 rfl ?_
      refine yy_get F X.1 X.2.1 g_S_28_S P1.1 rfl d_S_bringKeyIn_36 (n := 39) rfl ?_
      refine yy_iconst (v := 3) F d_S_bringKeyIn_39 (n := 40) rfl rfl ?_
      refine yy_ic_ne (tgt := 68) F d_S_bringKeyIn_40 (n := 43) rfl (by decide) (fun h2 => ?_) (fun h2 => ?_)
      · exact end_ H1 _ (by rw [show ym_bkt kd rm (n + 1) = rm from if_neg (fun q => q.1.elim h1 h2)]; exact P1) k1 S1
      · exact look (Or.inr h2)
  have bring : ∀ (j : Nat) (locs : List Loc), j = ym_pl kd nf key n → yy_S z H locs → yy_Y b H locs (0, 0) 22 [(0, .ref a), (1, .int key), (2, .int v)] [.int (nI j), .ref a] := by
    intro j locs hj S1
    refine yy_iload_n F d_S_bringKeyIn_22 (n := 23) rfl 1 rfl ?_
    refine yy_iload_n F d_S_bringKeyIn_23 (n := 24) rfl 2 rfl ?_
    refine yy_cv F S1 (c_S_bringIn (j := j) (x := key) (v := v) X hn ok (by rw [hj]; exact ym_pl_le _ _ _ _) h24) (yy_Bc F X.1 q_511 q_11) (yy_invV (nA := 3) (C := R_S) (bytes := b_S_bringIn) (maxL := 5) (retY := none) F X.1 q_630 q_509 q_510 q_511 ⟨by decide, by decide, by decide +kernel⟩ (yy_recv F.N X.2.1 (ci := 0) rfl hP.1) rfl d_S_bringKeyIn_24) d_S_bringKeyIn_24 (n := 27) rfl (by simp [Value.category]) ⟨by decide, by decide⟩ ⟨Nat.le_refl _, Nat.le_refl _⟩ ⟨rfl, rfl⟩ hP (fun Hw_3 locs_w_3 qw_3 Sw_3 => ?_)
    obtain ⟨Pw_3, kw_3⟩ := qw_3
    have kw_3 := hk0.tr kw_3
    rw [show ym_row kd rm n = rm from if_neg (fun q => hkz q.1), hj] at Pw_3
    exact mid _ _ Pw_3 kw_3 Sw_3
  refine yy_aload_n F d_S_bringKeyIn_0 (n := 1) rfl 0 rfl ?_
  refine yy_aload_n F d_S_bringKeyIn_1 (n := 2) rfl 0 rfl ?_
  refine yy_get F X.1 X.2.1 g_S_28_S hP.1 rfl d_S_bringKeyIn_2 (n := 5) rfl ?_
  refine yy_iconst (v := 4) F d_S_bringKeyIn_5 (n := 6) rfl rfl ?_
  refine yy_ic_ne (tgt := 18) F d_S_bringKeyIn_6 (n := 9) rfl (by decide) (fun h4 => ?_) (fun h4 => ?_)
  · refine yy_aload_n F d_S_bringKeyIn_18 (n := 19) rfl 0 rfl ?_
    refine yy_get F X.1 X.2.1 g_S_18_S hP.1 rfl d_S_bringKeyIn_19 (n := 22) rfl ?_
    exact bring n _ (if_neg h4).symm hS
  · refine yy_aload_n F d_S_bringKeyIn_9 (n := 10) rfl 0 rfl ?_
    refine yy_iload_n F d_S_bringKeyIn_10 (n := 11) rfl 1 rfl ?_
    refine yy_iconst (v := 0) F d_S_bringKeyIn_11 (n := 12) rfl rfl ?_
    refine yy_cri (w := (nI (ym_cnt (ym_bel nf key 0) n))) F hS (c_S_placesBefore (x := key) (e := 0) X hn) (yy_Bc F X.1 q_324 q_11) (yy_invV (nA := 2) (C := R_S) (bytes := b_S_placesBefore) (maxL := 5) (retY := (some .int)) F X.1 q_629 q_322 q_323 q_324 ⟨by decide, by decide, by decide +kernel⟩ (yy_recv F.N X.2.1 (ci := 0) rfl hP.1) rfl d_S_bringKeyIn_12) d_S_bringKeyIn_12 (n := 15) rfl (by simp [Value.category]) ⟨by decide, by decide⟩ ⟨Nat.le_refl _, Nat.le_refl _⟩ ⟨rfl, rfl⟩ hP rfl (fun _ hS_4 => ?_)
    refine yy_goto (tgt := 22) F d_S_bringKeyIn_15 (by decide) ?_
    exact bring _ _ (if_pos h4).symm hS_4
set_option maxRecDepth 100000 in
set_option maxHeartbeats 4000000 in
/-- a new key -/
theorem c_S_putKey_new {l : Launch} {z : State} {a0 : Array Value} {D : va_G} {ca : kca} (X : kcx l z a0 D ca) {a na va n : Nat} {kd rm ch : Int32} {nf vf : Nat → Int32} (hn : n ≤ 24) (ok : st_ok z a na va) {key v : Int32} (hf : ym_find nf key n = -1) (hkz : ¬ kd = 0) (h24 : n < 24) (hno : kd = 3 → n + 1 < 7) : yy_M l z y_S_putKey (.code y_S_putKey b_S_putKey 4 none) ({ frames := 3, cells := 0, slots := 0, locals := 66 }) [.ref a, .int key, .int v] (fun H => st_at D ca H a na va kd rm ch n nf vf) (yy_pv (fun H H1 => st_at D ca H1 a na va kd (ym_bkt kd rm (n + 1)) (ch + 1) (n + 1) (ym_ad nf (ym_pl kd nf key n) n key) (ym_ad vf (ym_pl kd nf key n) n v) ∧ kp [a, na, va] H H1)) := by
  refine yy_body (plainFor_of_name (by decide)) (Nat.le_of_ble_eq_true rfl) (fun b H F hS hP hH hnm => ?_)
  have hk0 : kp [a, na, va] H H := kp.rf
  refine yy_aload_n F d_S_putKey_0 (n := 1) rfl 0 rfl ?_
  refine yy_iload_n F d_S_putKey_1 (n := 2) rfl 1 rfl ?_
  refine yy_cri (w := (-1)) F hS (c_S_placeOf (key := key) X hn) (yy_Bc F X.1 q_619 q_11) (yy_invV (nA := 1) (C := R_S) (bytes := b_S_placeOf) (maxL := 3) (retY := (some .int)) F X.1 q_624 q_617 q_618 q_619 ⟨by decide, by decide, by decide +kernel⟩ (yy_recv F.N X.2.1 (ci := 0) rfl hP.1) rfl d_S_putKey_2) d_S_putKey_2 (n := 5) rfl (by simp [Value.category]) ⟨by decide, by decide⟩ ⟨Nat.le_refl _, Nat.le_refl _⟩ ⟨rfl, rfl⟩ hP hf (fun _ hS_1 => ?_)
  refine yy_istore_n (lv' := [(3, .int (-1)), (0, .ref a), (1, .int key), (2, .int v)]) F d_S_putKey_5 (n := 6) rfl (by decide) rfl ?_
  refine yy_iload_n F d_S_putKey_6 (n := 7) rfl 0 rfl ?_
  refine yy_iconst (v := (-1)) F d_S_putKey_7 (n := 8) rfl rfl ?_
  refine yy_ic_ne_f (tgt := 20) F d_S_putKey_8 (n := 11) rfl (by decide) rfl ?_
  refine yy_aload_n F d_S_putKey_11 (n := 12) rfl 1 rfl ?_
  refine yy_iload_n F d_S_putKey_12 (n := 13) rfl 2 rfl ?_
  refine yy_iload_n F d_S_putKey_13 (n := 14) rfl 3 rfl ?_
  refine yy_cv F hS_1 (c_S_bringKeyIn X hn ok hkz h24 hno) (yy_Bc F X.1 q_628 q_11) (yy_invV (nA := 2) (C := R_S) (bytes := b_S_bringKeyIn) (maxL := 3) (retY := none) F X.1 q_625 q_627 qs_S_bringKeyIn q_628 ⟨by decide, by decide, by decide +kernel⟩ (yy_recv F.N X.2.1 (ci := 0) rfl hP.1) rfl d_S_putKey_14) d_S_putKey_14 (n := 17) rfl (by simp [Value.category]) ⟨by decide, by decide⟩ ⟨Nat.le_refl _, Nat.le_refl _⟩ ⟨rfl, rfl⟩ hP (fun Hw_2 locs_w_2 qw_2 Sw_2 => ?_)
  obtain ⟨Pw_2, kw_2⟩ := qw_2
  have kw_2 := hk0.tr kw_2
  refine yy_goto (tgt := 31) F d_S_putKey_17 (by decide) ?_
  exact yy_vret F Sw_2 ⟨Nat.zero_le _, Nat.zero_le _⟩ rfl d_S_putKey_31 (⟨rfl, Pw_2, kw_2⟩)
set_option maxRecDepth 100000 in
set_option maxHeartbeats 4000000 in
/-- a new key of a RECENT that is one too many -/
theorem c_S_putKey_newt {l : Launch} {z : State} {a0 : Array Value} {D : va_G} {ca : kca} (X : kcx l z a0 D ca) {a na va n : Nat} {kd rm ch : Int32} {nf vf : Nat → Int32} (hn : n ≤ 24) (ok : st_ok z a na va) {key v : Int32} (hf : ym_find nf key n = -1) (hkz : ¬ kd = 0) (h24 : n < 24) (hkd : kd = 3) (h7 : 7 ≤ n + 1) : yy_M l z y_S_putKey (.code y_S_putKey b_S_putKey 4 none) ({ frames := 3, cells := 0, slots := 0, locals := 66 }) [.ref a, .int key, .int v] (fun H => st_at D ca H a na va kd rm ch n nf vf) (yy_pv (fun H H1 => st_at D ca H1 a na va kd (ym_bkt kd rm (n + 1)) (ch + 1 + 1) (n + 1 - 1) (ym_sh (ym_ad nf (ym_pl kd nf key n) n key) 0 (n + 1 - 1)) (ym_sh (ym_ad vf (ym_pl kd nf key n) n v) 0 (n + 1 - 1)) ∧ kp [a, na, va] H H1)) := by
  refine yy_body (plainFor_of_name (by decide)) (Nat.le_of_ble_eq_true rfl) (fun b H F hS hP hH hnm => ?_)
  have hk0 : kp [a, na, va] H H := kp.rf
  refine yy_aload_n F d_S_putKey_0 (n := 1) rfl 0 rfl ?_
  refine yy_iload_n F d_S_putKey_1 (n := 2) rfl 1 rfl ?_
  refine yy_cri (w := (-1)) F hS (c_S_placeOf (key := key) X hn) (yy_Bc F X.1 q_619 q_11) (yy_invV (nA := 1) (C := R_S) (bytes := b_S_placeOf) (maxL := 3) (retY := (some .int)) F X.1 q_624 q_617 q_618 q_619 ⟨by decide, by decide, by decide +kernel⟩ (yy_recv F.N X.2.1 (ci := 0) rfl hP.1) rfl d_S_putKey_2) d_S_putKey_2 (n := 5) rfl (by simp [Value.category]) ⟨by decide, by decide⟩ ⟨Nat.le_refl _, Nat.le_refl _⟩ ⟨rfl, rfl⟩ hP hf (fun _ hS_1 => ?_)
  refine yy_istore_n (lv' := [(3, .int (-1)), (0, .ref a), (1, .int key), (2, .int v)]) F d_S_putKey_5 (n := 6) rfl (by decide) rfl ?_
  refine yy_iload_n F d_S_putKey_6 (n := 7) rfl 0 rfl ?_
  refine yy_iconst (v := (-1)) F d_S_putKey_7 (n := 8) rfl rfl ?_
  refine yy_ic_ne_f (tgt := 20) F d_S_putKey_8 (n := 11) rfl (by decide) rfl ?_
  refine yy_aload_n F d_S_putKey_11 (n := 12) rfl 1 rfl ?_
  refine yy_iload_n F d_S_putKey_12 (n := 13) rfl 2 rfl ?_
  refine yy_iload_n F d_S_putKey_13 (n := 14) rfl 3 rfl ?_
  refine yy_cv F hS_1 (c_S_bringKeyIn_t X hn ok hkz h24 hkd h7) (yy_Bc F X.1 q_628 q_11) (yy_invV (nA := 2) (C := R_S) (bytes := b_S_bringKeyIn) (maxL := 3) (retY := none) F X.1 q_625 q_627 qs_S_bringKeyIn q_628 ⟨by decide, by decide, by decide +kernel⟩ (yy_recv F.N X.2.1 (ci := 0) rfl hP.1) rfl d_S_putKey_14) d_S_putKey_14 (n := 17) rfl (by simp [Value.category]) ⟨by decide, by decide⟩ ⟨Nat.le_refl _, Nat.le_refl _⟩ ⟨rfl, rfl⟩ hP (fun Hw_2 locs_w_2 qw_2 Sw_2 => ?_)
  obtain ⟨Pw_2, kw_2⟩ := qw_2
  have kw_2 := hk0.tr kw_2
  refine yy_goto (tgt := 31) F d_S_putKey_17 (by decide) ?_
  exact yy_vret F Sw_2 ⟨Nat.zero_le _, Nat.zero_le _⟩ rfl d_S_putKey_31 (⟨rfl, Pw_2, kw_2⟩)
set_option maxRecDepth 100000 in
set_option maxHeartbeats 4000000 in
/-- a key that is there, and stays where it is -/
theorem c_S_putKey_old {l : Launch} {z : State} {a0 : Array Value} {D : va_G} {ca : kca} (X : kcx l z a0 D ca) {a na va n : Nat} {kd rm ch : Int32} {nf vf : Nat → Int32} (hn : n ≤ 24) (ok : st_ok z a na va) {key v : Int32} {j : Nat} (hf : ym_find nf key n = nI j) (hj : j < n) (hl : kd = 3 → j + 1 = n) : yy_M l z y_S_putKey (.code y_S_putKey b_S_putKey 4 none) ({ frames := 3, cells := 0, slots := 0, locals := 66 }) [.ref a, .int key, .int v] (fun H => st_at D ca H a na va kd rm ch n nf vf) (yy_pv (fun H H1 => st_at D ca H1 a na va kd rm ch n nf (upd vf j v) ∧ kp [a, na, va] H H1)) := by
  refine yy_body (plainFor_of_name (by decide)) (Nat.le_of_ble_eq_true rfl) (fun b H F hS hP hH hnm => ?_)
  have hk0 : kp [a, na, va] H H := kp.rf
  refine yy_aload_n F d_S_putKey_0 (n := 1) rfl 0 rfl ?_
  refine yy_iload_n F d_S_putKey_1 (n := 2) rfl 1 rfl ?_
  refine yy_cri (w := (nI j)) F hS (c_S_placeOf (key := key) X hn) (yy_Bc F X.1 q_619 q_11) (yy_invV (nA := 1) (C := R_S) (bytes := b_S_placeOf) (maxL := 3) (retY := (some .int)) F X.1 q_624 q_617 q_618 q_619 ⟨by decide, by decide, by decide +kernel⟩ (yy_recv F.N X.2.1 (ci := 0) rfl hP.1) rfl d_S_putKey_2) d_S_putKey_2 (n := 5) rfl (by simp [Value.category]) ⟨by decide, by decide⟩ ⟨Nat.le_refl _, Nat.le_refl _⟩ ⟨rfl, rfl⟩ hP hf (fun _ hS_1 => ?_)
  refine yy_istore_n (lv' := [(3, .int (nI j)), (0, .ref a), (1, .int key), (2, .int v)]) F d_S_putKey_5 (n := 6) rfl (by decide) rfl ?_
  refine yy_iload_n F d_S_putKey_6 (n := 7) rfl 0 rfl ?_
  refine yy_iconst (v := (-1)) F d_S_putKey_7 (n := 8) rfl rfl ?_
  refine yy_ic_ne_t (tgt := 20) F d_S_putKey_8 (by decide) (ym_nm1 (by omega)) ?_
  refine yy_aload_n F d_S_putKey_20 (n := 21) rfl 1 rfl ?_
  refine yy_iload_n F d_S_putKey_21 (n := 22) rfl 0 rfl ?_
  refine yy_iload_n F d_S_putKey_22 (n := 23) rfl 3 rfl ?_
  refine yy_cv F hS_1 (c_S_setValue (j := j) (x := v) X hn ok (by omega)) (yy_Bc F X.1 q_635 q_11) (yy_invV (nA := 2) (C := R_S) (bytes := b_S_setValue) (maxL := 3) (retY := none) F X.1 q_632 q_633 q_634 q_635 ⟨by decide, by decide, by decide +kernel⟩ (yy_recv F.N X.2.1 (ci := 0) rfl hP.1) rfl d_S_putKey_23) d_S_putKey_23 (n := 26) rfl (by simp [Value.category]) ⟨by decide, by decide⟩ ⟨Nat.le_refl _, Nat.le_refl _⟩ ⟨rfl, rfl⟩ hP (fun Hw_2 locs_w_2 qw_2 Sw_2 => ?_)
  obtain ⟨Pw_2, kw_2⟩ := qw_2
  have kw_2 := hk0.tr kw_2
  refine yy_aload_n F d_S_putKey_26 (n := 27) rfl 1 rfl ?_
  refine yy_iload_n F d_S_putKey_27 (n := 28) rfl 2 rfl ?_
  refine yy_cv F Sw_2 (c_S_noteUse_no (key := key) X hn ok (fun h3 => Or.inr (by rw [hf, ym_sub1 (by omega)]; exact congrArg nI (by have := hl h3; omega)))) (yy_Bc F X.1 q_639 q_11) (yy_invV (nA := 1) (C := R_S) (bytes := b_S_noteUse) (maxL := 4) (retY := none) F X.1 q_636 q_637 q_638 q_639 ⟨by decide, by decide, by decide +kernel⟩ (yy_recv F.N X.2.1 (ci := 0) rfl Pw_2.1) rfl d_S_putKey_28) d_S_putKey_28 (n := 31) rfl (by simp [Value.category]) ⟨by decide, by decide⟩ ⟨Nat.le_refl _, Nat.le_refl _⟩ ⟨rfl, rfl⟩ Pw_2 (fun Hw_3 locs_w_3 qw_3 Sw_3 => ?_)
  obtain ⟨Pw_3, kw_3⟩ := qw_3
  have kw_3 := kw_2.tr kw_3
  exact yy_vret F Sw_3 ⟨Nat.zero_le _, Nat.zero_le _⟩ rfl d_S_putKey_31 (⟨rfl, Pw_3, kw_3⟩)
set_option maxRecDepth 100000 in
set_option maxHeartbeats 4000000 in
/-- a key of a RECENT that becomes the last -/
theorem c_S_putKey_mv {l : Launch} {z : State} {a0 : Array Value} {D : va_G} {ca : kca} (X : kcx l z a0 D ca) {a na va n : Nat} {kd rm ch : Int32} {nf vf : Nat → Int32} (hn : n ≤ 24) (ok : st_ok z a na va) {key v : Int32} {j : Nat} (hkd : kd = 3) (hf : ym_find nf key n = nI j) (hj : j + 1 < n) : yy_M l z y_S_putKey (.code y_S_putKey b_S_putKey 4 none) ({ frames := 3, cells := 0, slots := 0, locals := 66 }) [.ref a, .int key, .int v] (fun H => st_at D ca H a na va kd rm ch n nf vf) (yy_pv (fun H H1 => st_at D ca H1 a na va kd rm (ch + 1) n (upd (ym_sh nf j (n - 1)) (n - 1) key) (upd (ym_sh (upd vf j v) j (n - 1)) (n - 1) (upd vf j v j)) ∧ kp [a, na, va] H H1)) := by
  refine yy_body (plainFor_of_name (by decide)) (Nat.le_of_ble_eq_true rfl) (fun b H F hS hP hH hnm => ?_)
  have hk0 : kp [a, na, va] H H := kp.rf
  refine yy_aload_n F d_S_putKey_0 (n := 1) rfl 0 rfl ?_
  refine yy_iload_n F d_S_putKey_1 (n := 2) rfl 1 rfl ?_
  refine yy_cri (w := (nI j)) F hS (c_S_placeOf (key := key) X hn) (yy_Bc F X.1 q_619 q_11) (yy_invV (nA := 1) (C := R_S) (bytes := b_S_placeOf) (maxL := 3) (retY := (some .int)) F X.1 q_624 q_617 q_618 q_619 ⟨by decide, by decide, by decide +kernel⟩ (yy_recv F.N X.2.1 (ci := 0) rfl hP.1) rfl d_S_putKey_2) d_S_putKey_2 (n := 5) rfl (by simp [Value.category]) ⟨by decide, by decide⟩ ⟨Nat.le_refl _, Nat.le_refl _⟩ ⟨rfl, rfl⟩ hP hf (fun _ hS_1 => ?_)
  refine yy_istore_n (lv' := [(3, .int (nI j)), (0, .ref a), (1, .int key), (2, .int v)]) F d_S_putKey_5 (n := 6) rfl (by decide) rfl ?_
  refine yy_iload_n F d_S_putKey_6 (n := 7) rfl 0 rfl ?_
  refine yy_iconst (v := (-1)) F d_S_putKey_7 (n := 8) rfl rfl ?_
  refine yy_ic_ne_t (tgt := 20) F d_S_putKey_8 (by decide) (ym_nm1 (by omega)) ?_
  refine yy_aload_n F d_S_putKey_20 (n := 21) rfl 1 rfl ?_
  refine yy_iload_n F d_S_putKey_21 (n := 22) rfl 0 rfl ?_
  refine yy_iload_n F d_S_putKey_22 (n := 23) rfl 3 rfl ?_
  refine yy_cv F hS_1 (c_S_setValue (j := j) (x := v) X hn ok (by omega)) (yy_Bc F X.1 q_635 q_11) (yy_invV (nA := 2) (C := R_S) (bytes := b_S_setValue) (maxL := 3) (retY := none) F X.1 q_632 q_633 q_634 q_635 ⟨by decide, by decide, by decide +kernel⟩ (yy_recv F.N X.2.1 (ci := 0) rfl hP.1) rfl d_S_putKey_23) d_S_putKey_23 (n := 26) rfl (by simp [Value.category]) ⟨by decide, by decide⟩ ⟨Nat.le_refl _, Nat.le_refl _⟩ ⟨rfl, rfl⟩ hP (fun Hw_2 locs_w_2 qw_2 Sw_2 => ?_)
  obtain ⟨Pw_2, kw_2⟩ := qw_2
  have kw_2 := hk0.tr kw_2
  refine yy_aload_n F d_S_putKey_26 (n := 27) rfl 1 rfl ?_
  refine yy_iload_n F d_S_putKey_27 (n := 28) rfl 2 rfl ?_
  refine yy_cv F Sw_2 (c_S_noteUse (key := key) X hn ok hkd hf hj) (yy_Bc F X.1 q_639 q_11) (yy_invV (nA := 1) (C := R_S) (bytes := b_S_noteUse) (maxL := 4) (retY := none) F X.1 q_636 q_637 q_638 q_639 ⟨by decide, by decide, by decide +kernel⟩ (yy_recv F.N X.2.1 (ci := 0) rfl Pw_2.1) rfl d_S_putKey_28) d_S_putKey_28 (n := 31) rfl (by simp [Value.category]) ⟨by decide, by decide⟩ ⟨Nat.le_refl _, Nat.le_refl _⟩ ⟨rfl, rfl⟩ Pw_2 (fun Hw_3 locs_w_3 qw_3 Sw_3 => ?_)
  obtain ⟨Pw_3, kw_3⟩ := qw_3
  have kw_3 := kw_2.tr kw_3
  exact yy_vret F Sw_3 ⟨Nat.zero_le _, Nat.zero_le _⟩ rfl d_S_putKey_31 (⟨rfl, Pw_3, kw_3⟩)
