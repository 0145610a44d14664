/-! PART S6: numbers modulo, buckets, sorting -/
def ym_fm (x y : Int32) : Int32 := if x ^^^ y < 0 ∧ ¬ x - x / y * y = 0 then x - x / y * y + y else x - x / y * y
def ym_cb (x y how : Int32) : Bool := if how = 0 then decide (x < y) else if how = 1 then decide (y < x) else decide (ym_fm x 10 < ym_fm y 10)
def ym_mx (x y : Int32) : Int32 := if x < y then y else x
def ym_mn (x y : Int32) : Int32 := if y < x then y else x
/-- a key's bucket -/
def ym_bk (key rm : Int32) : Int32 := (key ^^^ (key.toUInt32 >>> ((16 : Int32).toUInt32 &&& Int32.toUInt32 31)).toInt32) &&& (rm - 1)
/-- one number moves to its place among those before it -/
def ym_i1 (x : Int32) (f0 : Nat) (how : Int32) : Nat → (Nat → Int32) → (Nat → Int32)
  | 0, g => upd g 0 x
  | p + 1, g => if f0 ≤ p ∧ ym_cb x (g p) how = true then ym_i1 x f0 how p (upd g (p + 1) (g p)) else upd g (p + 1) x
/-- d numbers from i on do so, one after the other -/
def ym_so (f0 : Nat) (how : Int32) : Nat → Nat → (Nat → Int32) → (Nat → Int32)
  | 0, _, g => g
  | d + 1, i, g => ym_so f0 how d (i + 1) (ym_i1 (g i) f0 how i g)
theorem ym_na {f : Nat → Int32} {i n : Nat} (h : i < n) (hn : n ≤ 24) : (if ym_inb (nI i) n then f (nI i).toNatClampNeg else 0) = f i := by
  rw [ym_inb_t (ym_in.of h (by omega)), nI_clamp (by omega)]
  rfl
set_option maxRecDepth 100000 in
set_option maxHeartbeats 4000000 in
theorem c_X_max {l : Launch} {z : State} {a0 : Array Value} {D : va_G} {ca : kca} (X : kcx l z a0 D ca) {x y : Int32} : yy_M l z y_X_max (.code y_X_max b_X_max 2 (some .int)) ({ frames := 0, cells := 0, slots := 0, locals := 0 }) [.int x, .int y] (fun _ => True) (yy_ri (ym_mx x y)) := by
  refine yy_body (by decide +kernel) (Nat.le_of_ble_eq_true rfl) (fun b H F hS hP hH hnm => ?_)
  refine yy_iload_n F d_X_max_0 (n := 1) rfl 0 rfl ?_
  refine yy_iload_n F d_X_max_1 (n := 2) rfl 1 rfl ?_
  refine yy_ic_lt (tgt := 9) F d_X_max_2 (n := 5) rfl (by decide) (fun h => ?_) (fun h => ?_)
  · refine yy_iload_n F d_X_max_9 (n := 10) rfl 1 rfl ?_
    exact yy_iret F hS ⟨Nat.zero_le _, Nat.zero_le _⟩ rfl d_X_max_10 (⟨_, rfl, (if_pos h).symm, rfl⟩)
  · refine yy_iload_n F d_X_max_5 (n := 6) rfl 0 rfl ?_
    refine yy_goto (tgt := 10) F d_X_max_6 (by decide) ?_
    exact yy_iret F hS ⟨Nat.zero_le _, Nat.zero_le _⟩ rfl d_X_max_10 (⟨_, rfl, (if_neg h).symm, rfl⟩)
set_option maxRecDepth 100000 in
set_option maxHeartbeats 4000000 in
theorem c_X_min {l : Launch} {z : State} {a0 : Array Value} {D : va_G} {ca : kca} (X : kcx l z a0 D ca) {x y : Int32} : yy_M l z y_X_min (.code y_X_min b_X_min 2 (some .int)) ({ frames := 0, cells := 0, slots := 0, locals := 0 }) [.int x, .int y] (fun _ => True) (yy_ri (ym_mn x y)) := by
  refine yy_body (by decide +kernel) (Nat.le_of_ble_eq_true rfl) (fun b H F hS hP hH hnm => ?_)
  refine yy_iload_n F d_X_min_0 (n := 1) rfl 0 rfl ?_
  refine yy_iload_n F d_X_min_1 (n := 2) rfl 1 rfl ?_
  refine yy_ic_gt (tgt := 9) F d_X_min_2 (n := 5) rfl (by decide) (fun h => ?_) (fun h => ?_)
  · refine yy_iload_n F d_X_min_9 (n := 10) rfl 1 rfl ?_
    exact yy_iret F hS ⟨Nat.zero_le _, Nat.zero_le _⟩ rfl d_X_min_10 (⟨_, rfl, (if_pos h).symm, rfl⟩)
  · refine yy_iload_n F d_X_min_5 (n := 6) rfl 0 rfl ?_
    refine yy_goto (tgt := 10) F d_X_min_6 (by decide) ?_
    exact yy_iret F hS ⟨Nat.zero_le _, Nat.zero_le _⟩ rfl d_X_min_10 (⟨_, rfl, (if_neg h).symm, rfl⟩)
set_option maxRecDepth 100000 in
set_option maxHeartbeats 4000000 in
theorem c_X_floorMod {l : Launch} {z : State} {a0 : Array Value} {D : va_G} {ca : kca} (X : kcx l z a0 D ca) {x y : Int32} (hy : ¬ y = 0) : yy_M l z y_X_floorMod (.code y_X_floorMod b_X_floorMod 3 (some .int)) ({ frames := 0, cells := 0, slots := 0, locals := 0 }) [.int x, .int y] (fun _ => True) (yy_ri (ym_fm x y)) := by
  refine yy_body (by decide +kernel) (Nat.le_of_ble_eq_true rfl) (fun b H F hS hP hH hnm => ?_)
  refine yy_iload_n F d_X_floorMod_0 (n := 1) rfl 0 rfl ?_
  refine yy_iload_n F d_X_floorMod_1 (n := 2) rfl 1 rfl ?_
  refine yy_irem F d_X_floorMod_2 (n := 3) rfl hy ?_
  refine yy_istore_n (lv' := [(2, .int (x - x / y * y)), (0, .int x), (1, .int y)]) F d_X_floorMod_3 (n := 4) rfl (by decide) rfl ?_
  refine yy_iload_n F d_X_floorMod_4 (n := 5) rfl 1 rfl ?_
  refine yy_iload_n F d_X_floorMod_5 (n := 6) rfl 2 rfl ?_
  refine yy_ixor F d_X_floorMod_6 (n := 7) rfl ?_
  refine yy_if_ge (tgt := 18) F d_X_floorMod_7 (n := 10) rfl (by decide) (fun h1 => ?_) (fun h1 => ?_)
  · refine yy_iload_n F d_X_floorMod_18 (n := 19) rfl 0 rfl ?_
    exact yy_iret F hS ⟨Nat.zero_le _, Nat.zero_le _⟩ rfl d_X_floorMod_19 (⟨_, rfl, (if_neg (fun q => absurd q.1 (Int32.not_lt.mpr h1))).symm, rfl⟩)
  · refine yy_iload_n F d_X_floorMod_10 (n := 11) rfl 0 rfl ?_
    refine yy_if_eq (tgt := 18) F d_X_floorMod_11 (n := 14) rfl (by decide) (fun h2 => ?_) (fun h2 => ?_)
    · refine yy_iload_n F d_X_floorMod_18 (n := 19) rfl 0 rfl ?_
      exact yy_iret F hS ⟨Nat.zero_le _, Nat.zero_le _⟩ rfl d_X_floorMod_19 (⟨_, rfl, (if_neg (fun q => q.2 h2)).symm, rfl⟩)
    · refine yy_iload_n F d_X_floorMod_14 (n := 15) rfl 0 rfl ?_
      refine yy_iload_n F d_X_floorMod_15 (n := 16) rfl 2 rfl ?_
      refine yy_iadd F d_X_floorMod_16 (n := 17) rfl ?_
      exact yy_iret F hS ⟨Nat.zero_le _, Nat.zero_le _⟩ rfl d_X_floorMod_17 (⟨_, rfl, (if_pos ⟨Int32.not_le.mp h1, h2⟩).symm, rfl⟩)
set_option maxRecDepth 100000 in
set_option maxHeartbeats 4000000 in
/-- the bucket of a key -/
theorem c_S_bucketOf {l : Launch} {z : State} {a0 : Array Value} {D : va_G} {ca : kca} (X : kcx l z a0 D ca) {a na va n : Nat} {kd rm ch : Int32} {nf vf : Nat → Int32} (hn : n ≤ 24) {key : Int32} : yy_M l z y_S_bucketOf (.code y_S_bucketOf b_S_bucketOf 2 (some .int)) ({ frames := 0, cells := 0, slots := 0, locals := 0 }) [.ref a, .int key] (fun H => st_at D ca H a na va kd rm ch n nf vf) (yy_ri (ym_bk key rm)) := by
  refine yy_body (plainFor_of_name (by decide)) (Nat.le_of_ble_eq_true rfl) (fun b H F hS hP hH hnm => ?_)
  refine yy_iload_n F d_S_bucketOf_0 (n := 1) rfl 1 rfl ?_
  refine yy_iload_n F d_S_bucketOf_1 (n := 2) rfl 1 rfl ?_
  refine yy_bipush (v := 16) F d_S_bucketOf_2 (n := 4) rfl rfl ?_
  refine yy_iushr F d_S_bucketOf_4 (n := 5) rfl rfl ?_
  refine yy_ixor F d_S_bucketOf_5 (n := 6) rfl ?_
  refine yy_aload_n F d_S_bucketOf_6 (n := 7) rfl 0 rfl ?_
  refine yy_get F X.1 X.2.1 g_S_22_S hP.1 rfl d_S_bucketOf_7 (n := 10) rfl ?_
  refine yy_iconst (v := 1) F d_S_bucketOf_10 (n := 11) rfl rfl ?_
  refine yy_isub F d_S_bucketOf_11 (n := 12) rfl ?_
  refine yy_iand F d_S_bucketOf_12 (n := 13) rfl ?_
  exact yy_iret F hS ⟨Nat.zero_le _, Nat.zero_le _⟩ rfl d_S_bucketOf_13 (⟨_, rfl, rfl, rfl⟩)
set_option maxRecDepth 100000 in
set_option maxHeartbeats 4000000 in
/-- how many keys lie in the bucket of one -/
theorem c_S_countInBucketOf {l : Launch} {z : State} {a0 : Array Value} {D : va_G} {ca : kca} (X : kcx l z a0 D ca) {a na va n : Nat} {kd rm ch : Int32} {nf vf : Nat → Int32} (hn : n ≤ 24) {key : Int32} : yy_M l z y_S_countInBucketOf (.code y_S_countInBucketOf b_S_countInBucketOf 4 (some .int)) ({ frames := 1, cells := 0, slots := 0, locals := 21 }) [.ref a, .int key] (fun H => st_at D ca H a na va kd rm ch n nf vf) (yy_ri (nI (ym_cnt (fun i => decide (ym_bk (nf i) rm = ym_bk key rm)) n))) := by
  refine yy_body (plainFor_of_name (by decide)) (Nat.le_of_ble_eq_true rfl) (fun b H F hS hP hH hnm => ?_)
  have loop : ∀ (d i : Nat) (locs : List Loc), i + d = n → yy_S z H locs → yy_Y b H locs (0, 0) 4 [(3, .int (nI i)), (2, .int (nI (ym_cnt (fun i => decide (ym_bk (nf i) rm = ym_bk key rm)) i))), (0, .ref a), (1, .int key)] [] := by
    intro d
    induction d with
    | zero =>
      intro i locs hi S1
      refine yy_iload_n F d_S_countInBucketOf_4 (n := 5) rfl 0 rfl ?_
      refine yy_aload_n F d_S_countInBucketOf_5 (n := 6) rfl 2 rfl ?_
      refine yy_get F X.1 X.2.1 g_S_18_S hP.1 rfl d_S_countInBucketOf_6 (n := 9) rfl ?_
      refine yy_ic_ge_t (tgt := 39) F d_S_countInBucketOf_9 (by decide) (nI_le (by omega) (by omega)) ?_
      refine yy_iload_n F d_S_countInBucketOf_39 (n := 40) rfl 1 rfl ?_
      exact yy_iret F S1 ⟨Nat.zero_le _, Nat.zero_le _⟩ rfl d_S_countInBucketOf_40 (⟨_, rfl, by rw [show i = n by omega], rfl⟩)
    | succ d ih =>
      intro i locs hi S1
      refine yy_iload_n F d_S_countInBucketOf_4 (n := 5) rfl 0 rfl ?_
      refine yy_aload_n F d_S_countInBucketOf_5 (n := 6) rfl 2 rfl ?_
      refine yy_get F X.1 X.2.1 g_S_18_S hP.1 rfl d_S_countInBucketOf_6 (n := 9) rfl ?_
      refine yy_ic_ge_f (tgt := 39) F d_S_countInBucketOf_9 (n := 12) rfl (by decide) (nI_ge (by omega) (by omega)) ?_
      refine yy_aload_n F d_S_countInBucketOf_12 (n := 13) rfl 2 rfl ?_
      refine yy_aload_n F d_S_countInBucketOf_13 (n := 14) rfl 2 rfl ?_
      refine yy_get F X.1 X.2.1 g_S_9_S hP.1 rfl d_S_countInBucketOf_14 (n := 17) rfl ?_
      refine yy_iload_n F d_S_countInBucketOf_17 (n := 18) rfl 0 rfl ?_
      refine sr_ald (i := i) F X hP.2.1 (by decide) (by omega) d_S_countInBucketOf_18 (n' := 19) rfl ?_
      refine yy_cri (w := (ym_bk (nf i) rm)) F S1 (c_S_bucketOf (key := nf i) X hn) (yy_Bc F X.1 q_719 q_11) (yy_invV (nA := 1) (C := R_S) (bytes := b_S_bucketOf) (maxL := 2) (retY := (some .int)) F X.1 q_716 q_718 qs_S_bucketOf q_719 ⟨by decide, by decide, by decide +kernel⟩ (yy_recv F.N X.2.1 (ci := 0) rfl hP.1) rfl d_S_countInBucketOf_19) d_S_countInBucketOf_19 (n := 22) rfl (by simp [Value.category]) ⟨by decide, by decide⟩ ⟨Nat.le_refl _, Nat.le_refl _⟩ ⟨rfl, rfl⟩ hP rfl (fun _ hS_1 => ?_)
      refine yy_aload_n F d_S_countInBucketOf_22 (n := 23) rfl 2 rfl ?_
      refine yy_iload_n F d_S_countInBucketOf_23 (n := 24) rfl 3 rfl ?_
      refine yy_cri (w := (ym_bk key rm)) F hS_1 (c_S_bucketOf (key := key) X hn) (yy_Bc F X.1 q_719 q_11) (yy_invV (nA := 1) (C := R_S) (bytes := b_S_bucketOf) (maxL := 2) (retY := (some .int)) F X.1 q_716 q_718 qs_S_bucketOf q_719 ⟨by decide, by decide, by decide +kernel⟩ (yy_recv F.N X.2.1 (ci := 0) rfl hP.1) rfl d_S_countInBucketOf_24) d_S_countInBucketOf_24 (n := 27) rfl (by simp [Value.category]) ⟨by decide, by decide⟩ ⟨Nat.le_refl _, Nat.le_refl _⟩ ⟨rfl, rfl⟩ hP rfl (fun _ hS_2 => ?_)
      have hs : ∀ c : Bool, decide (ym_bk (nf i) rm = ym_bk key rm) = c → ym_cnt (fun i => decide (ym_bk (nf i) rm = ym_bk key rm)) (i + 1) = ym_cnt (fun i => decide (ym_bk (nf i) rm = ym_bk key rm)) i + (if c then 1 else 0) := fun c h => by rw [← h]; rfl
      refine yy_ic_ne (tgt := 33) F d_S_countInBucketOf_27 (n := 30) rfl (by decide) (fun h1 => ?_) (fun h1 => ?_)
      · refine yy_iinc (v := nI (i + 1)) (lv' := [(3, .int (nI (i + 1))), (2, .int (nI (ym_cnt (fun i => decide (ym_bk (nf i) rm = ym_bk key rm)) i))), (0, .ref a), (1, .int key)]) F d_S_countInBucketOf_33 (n := 36) rfl 0 rfl (nI_1 _) (by decide) rfl ?_
        refine yy_goto (tgt := 4) F d_S_countInBucketOf_36 (by decide) ?_
        have h9 := ih (i + 1) _ (by omega) hS_2
        rw [hs false (decide_eq_false h1)] at h9
        exact yy_sub [0, 1, 2, 3] rfl h9
      · refine yy_iinc (v := nI ((ym_cnt (fun i => decide (ym_bk (nf i) rm = ym_bk key rm)) i) + 1)) (lv' := [(2, .int (nI ((ym_cnt (fun i => decide (ym_bk (nf i) rm = ym_bk key rm)) i) + 1))), (3, .int (nI i)), (0, .ref a), (1, .int key)]) F d_S_countInBucketOf_30 (n := 33) rfl 1 rfl (nI_1 _) (by decide) rfl ?_
        refine yy_iinc (v := nI (i + 1)) (lv' := [(3, .int (nI (i + 1))), (2, .int (nI ((ym_cnt (fun i => decide (ym_bk (nf i) rm = ym_bk key rm)) i) + 1))), (0, .ref a), (1, .int key)]) F d_S_countInBucketOf_33 (n := 36) rfl 1 rfl (nI_1 _) (by decide) rfl ?_
        refine yy_goto (tgt := 4) F d_S_countInBucketOf_36 (by decide) ?_
        have h9 := ih (i + 1) _ (by omega) hS_2
        rw [hs true (decide_eq_true h1)] at h9
        exact yy_sub [0, 1, 2, 3] rfl h9
  refine yy_iconst (v := 0) F d_S_countInBucketOf_0 (n := 1) rfl rfl ?_
  refine yy_istore_n (lv' := [(2, .int 0), (0, .ref a), (1, .int key)]) F d_S_countInBucketOf_1 (n := 2) rfl (by decide) rfl ?_
  refine yy_iconst (v := 0) F d_S_countInBucketOf_2 (n := 3) rfl rfl ?_
  refine yy_istore_n (lv' := [(3, .int 0), (2, .int 0), (0, .ref a), (1, .int key)]) F d_S_countInBucketOf_3 (n := 4) rfl (by decide) rfl ?_
  exact loop n 0 _ (by omega) hS
set_option maxRecDepth 100000 in
set_option maxHeartbeats 4000000 in
/-- whether one number comes before another -/
theorem c_S_comesBefore {l : Launch} {z : State} {a0 : Array Value} {D : va_G} {ca : kca} (X : kcx l z a0 D ca) {x y how : Int32} : yy_M l z y_S_comesBefore (.code y_S_comesBefore b_S_comesBefore 3 (some .boolean)) ({ frames := 1, cells := 0, slots := 0, locals := 22 }) [.int x, .int y, .int how] (fun _ => True) (yy_ri (ym_n (ym_cb x y how))) := by
  refine yy_body (plainFor_of_name (by decide)) (Nat.le_of_ble_eq_true rfl) (fun b H F hS hP hH hnm => ?_)
  refine yy_iload_n F d_S_comesBefore_0 (n := 1) rfl 2 rfl ?_
  refine yy_if_ne (tgt := 15) F d_S_comesBefore_1 (n := 4) rfl (by decide) (fun h0 => ?_) (fun h0 => ?_)
  · refine yy_iload_n F d_S_comesBefore_15 (n := 16) rfl 2 rfl ?_
    refine yy_iconst (v := 1) F d_S_comesBefore_16 (n := 17) rfl rfl ?_
    refine yy_ic_ne (tgt := 31) F d_S_comesBefore_17 (n := 20) rfl (by decide) (fun h1 => ?_) (fun h1 => ?_)
    · refine yy_iload_n F d_S_comesBefore_31 (n := 32) rfl 0 rfl ?_
      refine yy_bipush (v := 10) F d_S_comesBefore_32 (n := 34) rfl rfl ?_
      refine yy_cri (w := (ym_fm x 10)) F hS (c_X_floorMod (x := x) (y := 10) X (by decide)) (yy_Bc F X.1 q_568 q_14) (yy_invS (nA := 2) (bytes := b_X_floorMod) (maxL := 3) (retY := (some .int)) F X.1 q_566 q_567 q_14 q_568 ⟨by decide, by decide, by decide +kernel⟩ rfl d_S_comesBefore_34) d_S_comesBefore_34 (n := 37) rfl (by simp [Value.category]) ⟨by decide, by decide⟩ ⟨Nat.le_refl _, Nat.le_refl _⟩ ⟨rfl, rfl⟩ trivial rfl (fun _ hS_1 => ?_)
      refine yy_iload_n F d_S_comesBefore_37 (n := 38) rfl 1 rfl ?_
      refine yy_bipush (v := 10) F d_S_comesBefore_38 (n := 40) rfl rfl ?_
      refine yy_cri (w := (ym_fm y 10)) F hS_1 (c_X_floorMod (x := y) (y := 10) X (by decide)) (yy_Bc F X.1 q_568 q_14) (yy_invS (nA := 2) (bytes := b_X_floorMod) (maxL := 3) (retY := (some .int)) F X.1 q_566 q_567 q_14 q_568 ⟨by decide, by decide, by decide +kernel⟩ rfl d_S_comesBefore_40) d_S_comesBefore_40 (n := 43) rfl (by simp [Value.category]) ⟨by decide, by decide⟩ ⟨Nat.le_refl _, Nat.le_refl _⟩ ⟨rfl, rfl⟩ trivial rfl (fun _ hS_2 => ?_)
      refine yy_ic_ge (tgt := 50) F d_S_comesBefore_43 (n := 46) rfl (by decide) (fun h2 => ?_) (fun h2 => ?_)
      · refine yy_iconst (v := 0) F d_S_comesBefore_50 (n := 51) rfl rfl ?_
        exact yy_zret F hS_2 ⟨Nat.zero_le _, Nat.zero_le _⟩ rfl rfl d_S_comesBefore_51 (⟨_, rfl, (ym_nf (by unfold ym_cb; rw [if_neg h0, if_neg h1]; exact decide_eq_false (Int32.not_lt.mpr h2))).symm, rfl⟩)
      · refine yy_iconst (v := 1) F d_S_comesBefore_46 (n := 47) rfl rfl ?_
        refine yy_goto (tgt := 51) F d_S_comesBefore_47 (by decide) ?_
        exact yy_zret F hS_2 ⟨Nat.zero_le _, Nat.zero_le _⟩ rfl rfl d_S_comesBefore_51 (⟨_, rfl, (ym_nt (by unfold ym_cb; rw [if_neg h0, if_neg h1]; exact decide_eq_true (Int32.not_le.mp h2))).symm, rfl⟩)
    · refine yy_iload_n F d_S_comesBefore_20 (n := 21) rfl 0 rfl ?_
      refine yy_iload_n F d_S_comesBefore_21 (n := 22) rfl 1 rfl ?_
      refine yy_ic_le (tgt := 29) F d_S_comesBefore_22 (n := 25) rfl (by decide) (fun h2 => ?_) (fun h2 => ?_)
      · refine yy_iconst (v := 0) F d_S_comesBefore_29 (n := 30) rfl rfl ?_
        exact yy_zret F hS ⟨Nat.zero_le _, Nat.zero_le _⟩ rfl rfl d_S_comesBefore_30 (⟨_, rfl, (ym_nf (by unfold ym_cb; rw [if_neg h0, if_pos h1]; exact decide_eq_false (Int32.not_lt.mpr h2))).symm, rfl⟩)
      · refine yy_iconst (v := 1) F d_S_comesBefore_25 (n := 26) rfl rfl ?_
        refine yy_goto (tgt := 30) F d_S_comesBefore_26 (by decide) ?_
        exact yy_zret F hS ⟨Nat.zero_le _, Nat.zero_le _⟩ rfl rfl d_S_comesBefore_30 (⟨_, rfl, (ym_nt (by unfold ym_cb; rw [if_neg h0, if_pos h1]; exact decide_eq_true (Int32.not_le.mp h2))).symm, rfl⟩)
  · refine yy_iload_n F d_S_comesBefore_4 (n := 5) rfl 0 rfl ?_
    refine yy_iload_n F d_S_comesBefore_5 (n := 6) rfl 1 rfl ?_
    refine yy_ic_ge (tgt := 13) F d_S_comesBefore_6 (n := 9) rfl (by decide) (fun h2 => ?_) (fun h2 => ?_)
    · refine yy_iconst (v := 0) F d_S_comesBefore_13 (n := 14) rfl rfl ?_
      exact yy_zret F hS ⟨Nat.zero_le _, Nat.zero_le _⟩ rfl rfl d_S_comesBefore_14 (⟨_, rfl, (ym_nf (by unfold ym_cb; rw [if_pos h0]; exact decide_eq_false (Int32.not_lt.mpr h2))).symm, rfl⟩)
    · refine yy_iconst (v := 1) F d_S_comesBefore_9 (n := 10) rfl rfl ?_
      refine yy_goto (tgt := 14) F d_S_comesBefore_10 (by decide) ?_
      exact yy_zret F hS ⟨Nat.zero_le _, Nat.zero_le _⟩ rfl rfl d_S_comesBefore_14 (⟨_, rfl, (ym_nt (by unfold ym_cb; rw [if_pos h0]; exact decide_eq_true (Int32.not_le.mp h2))).symm, rfl⟩)
set_option maxRecDepth 100000 in
set_option maxHeartbeats 4000000 in
/-- sorts the places f0 .. t0 - 1 -/
theorem c_S_arrange {l : Launch} {z : State} {a0 : Array Value} {D : va_G} {ca : kca} (X : kcx l z a0 D ca) {a na va n : Nat} {kd rm ch : Int32} {nf vf : Nat → Int32} (hn : n ≤ 24) (ok : st_ok z a na va) {f0 t0 : Nat} {how : Int32} (hf : f0 ≤ 24) (ht : t0 ≤ n) : yy_M l z y_S_arrange (.code y_S_arrange b_S_arrange 7 none) ({ frames := 2, cells := 0, slots := 0, locals := 44 }) [.ref a, .int (nI f0), .int (nI t0), .int how] (fun H => st_at D ca H a na va kd rm ch n nf vf) (yy_pv (fun H H1 => st_at D ca H1 a na va kd rm (ch + 1) n (ym_so f0 how (t0 - (f0 + 1)) (f0 + 1) nf) vf ∧ kp [a, na, va] H H1)) := by
  refine yy_body (plainFor_of_name (by decide)) (Nat.le_of_ble_eq_true rfl) (fun b H F hS hP hH hnm => ?_)
  have hk0 : kp [a, na, va] H H := kp.rf
  have inner : ∀ (pl i : Nat) (x : Int32) (g : Nat → Int32) (H1 : Heap) (locs : List Loc), pl < n → st_at D ca H1 a na va kd rm ch n g vf → kp [a, na, va] H H1 → yy_S z H1 locs → (∀ (H2 : Heap) (locs2 : List Loc), st_at D ca H2 a na va kd rm ch n (ym_i1 x f0 how pl g) vf → kp [a, na, va] H H2 → yy_S z H2 locs2 → yy_Y b H2 locs2 (0, 0) 74 [(4, .int (nI i)), (0, .ref a), (1, .int (nI f0)), (2, .int (nI t0)), (3, .int how)] []) → yy_Y b H1 locs (0, 0) 23 [(6, .int (nI pl)), (5, .int x), (4, .int (nI i)), (0, .ref a), (1, .int (nI f0)), (2, .int (nI t0)), (3, .int how)] [] := by
    intro pl
    induction pl with
    | zero =>
      intro i x g H1 locs hp P1 k1 S1 cont
      refine yy_iload F d_S_arrange_23 (n := 25) rfl 0 rfl ?_
      refine yy_iload_n F d_S_arrange_25 (n := 26) rfl 4 rfl ?_
      refine yy_ic_le_t (tgt := 66) F d_S_arrange_26 (by decide) (nI_le (Nat.zero_le _) (by omega)) ?_
      refine yy_aload_n F d_S_arrange_66 (n := 67) rfl 3 rfl ?_
      refine yy_iload F d_S_arrange_67 (n := 69) rfl 0 rfl ?_
      refine yy_iload F d_S_arrange_69 (n := 71) rfl 1 rfl ?_
      refine yy_cv F S1 (c_S_setNumber (j := 0) (x := x) X hn ok (by omega)) (yy_Bc F X.1 q_480 q_11) (yy_invV (nA := 2) (C := R_S) (bytes := b_S_setNumber) (maxL := 3) (retY := none) F X.1 q_569 q_478 q_479 q_480 ⟨by decide, by decide, by decide +kernel⟩ (yy_recv F.N X.2.1 (ci := 0) rfl P1.1) rfl d_S_arrange_71) d_S_arrange_71 (n := 74) rfl (by simp [Value.category]) ⟨by decide, by decide⟩ ⟨Nat.le_refl _, Nat.le_refl _⟩ ⟨rfl, rfl⟩ P1 (fun Hw_1 locs_w_1 qw_1 Sw_1 => ?_)
      obtain ⟨Pw_1, kw_1⟩ := qw_1
      have kw_1 := k1.tr kw_1
      exact yy_sub [2, 3, 4, 5, 6] rfl (cont _ _ (by skip; exact Pw_1) kw_1 Sw_1)
    | succ p ih =>
      intro i x g H1 locs hp P1 k1 S1 cont
      refine yy_iload F d_S_arrange_23 (n := 25) rfl 0 rfl ?_
      refine yy_iload_n F d_S_arrange_25 (n := 26) rfl 4 rfl ?_
      refine yy_ic_le (tgt := 66) F d_S_arrange_26 (n := 29) rfl (by decide) (fun h1 => ?_) (fun h1 => ?_)
      · refine yy_aload_n F d_S_arrange_66 (n := 67) rfl 3 rfl ?_
        refine yy_iload F d_S_arrange_67 (n := 69) rfl 0 rfl ?_
        refine yy_iload F d_S_arrange_69 (n := 71) rfl 1 rfl ?_
        refine yy_cv F S1 (c_S_setNumber (j := p + 1) (x := x) X hn ok (by omega)) (yy_Bc F X.1 q_480 q_11) (yy_invV (nA := 2) (C := R_S) (bytes := b_S_setNumber) (maxL := 3) (retY := none) F X.1 q_569 q_478 q_479 q_480 ⟨by decide, by decide, by decide +kernel⟩ (yy_recv F.N X.2.1 (ci := 0) rfl P1.1) rfl d_S_arrange_71) d_S_arrange_71 (n := 74) rfl (by simp [Value.category]) ⟨by decide, by decide⟩ ⟨Nat.le_refl _, Nat.le_refl _⟩ ⟨rfl, rfl⟩ P1 (fun Hw_2 locs_w_2 qw_2 Sw_2 => ?_)
        obtain ⟨Pw_2, kw_2⟩ := qw_2
        have kw_2 := k1.tr kw_2
        exact yy_sub [2, 3, 4, 5, 6] rfl (cont _ _ (by rw [show ym_i1 x f0 how (p + 1) g = upd g (p + 1) x from if_neg (fun q => by have := (nI_leI (by omega) (by omega)).mp h1; omega)]; exact Pw_2) kw_2 Sw_2)
      · refine yy_iload F d_S_arrange_29 (n := 31) rfl 1 rfl ?_
        refine yy_aload_n F d_S_arrange_31 (n := 32) rfl 3 rfl ?_
        refine yy_iload F d_S_arrange_32 (n := 34) rfl 0 rfl ?_
        refine yy_iconst (v := 1) F d_S_arrange_34 (n := 35) rfl rfl ?_
        refine yy_isub F d_S_arrange_35 (n := 36) rfl ?_
        refine yy_tope (y := (nI p)) (nI_pred _) ?_
        refine yy_cri (w := (g p)) F S1 (c_S_numberAt (p := nI p) X hn) (yy_Bc F X.1 q_457 q_11) (yy_invV (nA := 1) (C := R_S) (bytes := b_S_numberAt) (maxL := 2) (retY := (some .int)) F X.1 q_562 q_455 q_456 q_457 ⟨by decide, by decide, by decide +kernel⟩ (yy_recv F.N X.2.1 (ci := 0) rfl P1.1) rfl d_S_arrange_36) d_S_arrange_36 (n := 39) rfl (by simp [Value.category]) ⟨by decide, by decide⟩ ⟨Nat.le_refl _, Nat.le_refl _⟩ ⟨rfl, rfl⟩ P1 (ym_na (by omega) hn) (fun _ hS_3 => ?_)
        refine yy_iload_n F d_S_arrange_39 (n := 40) rfl 6 rfl ?_
        refine yy_cri (w := (ym_n (ym_cb x (g p) how))) F hS_3 (c_S_comesBefore (x := x) (y := g p) (how := how) X) (yy_Bc F X.1 q_565 q_11) (yy_invS (nA := 3) (bytes := b_S_comesBefore) (maxL := 3) (retY := (some .boolean)) F X.1 q_563 q_564 q_11 q_565 ⟨by decide, by decide, by decide +kernel⟩ rfl d_S_arrange_40) d_S_arrange_40 (n := 43) rfl (by simp [Value.category]) ⟨by decide, by decide⟩ ⟨Nat.le_refl _, Nat.le_refl _⟩ ⟨rfl, rfl⟩ trivial rfl (fun _ hS_4 => ?_)
        have hfp : f0 ≤ p := by have := mt (nI_leI (show p + 1 < 2 ^ 31 by omega) (show f0 < 2 ^ 31 by omega)).mpr h1; omega
        by_cases hc : ym_cb x (g p) how = true
        · refine yy_tope (y := 1) (ym_nt hc) ?_
          refine yy_if_eq_f (tgt := 66) F d_S_arrange_43 (n := 46) rfl (by decide) (by decide) ?_
          refine yy_aload_n F d_S_arrange_46 (n := 47) rfl 3 rfl ?_
          refine yy_iload F d_S_arrange_47 (n := 49) rfl 0 rfl ?_
          refine yy_aload_n F d_S_arrange_49 (n := 50) rfl 3 rfl ?_
          refine yy_iload F d_S_arrange_50 (n := 52) rfl 0 rfl ?_
          refine yy_iconst (v := 1) F d_S_arrange_52 (n := 53) rfl rfl ?_
          refine yy_isub F d_S_arrange_53 (n := 54) rfl ?_
          refine yy_tope (y := (nI p)) (nI_pred _) ?_
          refine yy_cri (w := (g p)) F hS_4 (c_S_numberAt (p := nI p) X hn) (yy_Bc F X.1 q_457 q_11) (yy_invV (nA := 1) (C := R_S) (bytes := b_S_numberAt) (maxL := 2) (retY := (some .int)) F X.1 q_562 q_455 q_456 q_457 ⟨by decide, by decide, by decide +kernel⟩ (yy_recv F.N X.2.1 (ci := 0) rfl P1.1) rfl d_S_arrange_54) d_S_arrange_54 (n := 57) rfl (by simp [Value.category]) ⟨by decide, by decide⟩ ⟨Nat.le_refl _, Nat.le_refl _⟩ ⟨rfl, rfl⟩ P1 (ym_na (by omega) hn) (fun _ hS_5 => ?_)
          refine yy_cv F hS_5 (c_S_setNumber (j := p + 1) (x := g p) X hn ok (by omega)) (yy_Bc F X.1 q_480 q_11) (yy_invV (nA := 2) (C := R_S) (bytes := b_S_setNumber) (maxL := 3) (retY := none) F X.1 q_569 q_478 q_479 q_480 ⟨by decide, by decide, by decide +kernel⟩ (yy_recv F.N X.2.1 (ci := 0) rfl P1.1) rfl d_S_arrange_57) d_S_arrange_57 (n := 60) rfl (by simp [Value.category]) ⟨by decide, by decide⟩ ⟨Nat.le_refl _, Nat.le_refl _⟩ ⟨rfl, rfl⟩ P1 (fun Hw_6 locs_w_6 qw_6 Sw_6 => ?_)
          obtain ⟨Pw_6, kw_6⟩ := qw_6
          have kw_6 := k1.tr kw_6
          refine yy_iinc (v := nI p) (lv' := [(6, .int (nI p)), (5, .int x), (4, .int (nI i)), (0, .ref a), (1, .int (nI f0)), (2, .int (nI t0)), (3, .int how)]) F d_S_arrange_60 (n := 63) rfl 0 rfl (pk_m1 _) (by decide) rfl ?_
          refine yy_goto (tgt := 23) F d_S_arrange_63 (by decide) ?_
          refine yy_sub [0, 1, 2, 3, 4, 5, 6] rfl (ih i x _ _ _ (by omega) Pw_6 kw_6 Sw_6 (fun H2 locs2 P2 k2 S2 => cont H2 locs2 ?_ k2 S2))
          rw [show ym_i1 x f0 how (p + 1) g = ym_i1 x f0 how p (upd g (p + 1) (g p)) from if_pos ⟨hfp, hc⟩]
          exact P2
        · refine yy_tope (y := 0) (ym_nf (by simpa using hc)) ?_
          refine yy_if_eq_t (tgt := 66) F d_S_arrange_43 (by decide) rfl ?_
          refine yy_aload_n F d_S_arrange_66 (n := 67) rfl 3 rfl ?_
          refine yy_iload F d_S_arrange_67 (n := 69) rfl 0 rfl ?_
          refine yy_iload F d_S_arrange_69 (n := 71) rfl 1 rfl ?_
          refine yy_cv F hS_4 (c_S_setNumber (j := p + 1) (x := x) X hn ok (by omega)) (yy_Bc F X.1 q_480 q_11) (yy_invV (nA := 2) (C := R_S) (bytes := b_S_setNumber) (maxL := 3) (retY := none) F X.1 q_569 q_478 q_479 q_480 ⟨by decide, by decide, by decide +kernel⟩ (yy_recv F.N X.2.1 (ci := 0) rfl P1.1) rfl d_S_arrange_71) d_S_arrange_71 (n := 74) rfl (by simp [Value.category]) ⟨by decide, by decide⟩ ⟨Nat.le_refl _, Nat.le_refl _⟩ ⟨rfl, rfl⟩ P1 (fun Hw_7 locs_w_7 qw_7 Sw_7 => ?_)
          obtain ⟨Pw_7, kw_7⟩ := qw_7
          have kw_7 := k1.tr kw_7
          exact yy_sub [2, 3, 4, 5, 6] rfl (cont _ _ (by rw [show ym_i1 x f0 how (p + 1) g = upd g (p + 1) x from if_neg (fun q => hc q.2)]; exact Pw_7) kw_7 Sw_7)
  have outer : ∀ (d i : Nat) (g : Nat → Int32) (H1 : Heap) (locs : List Loc), t0 - i = d → i ≤ 25 → ym_so f0 how d i g = ym_so f0 how (t0 - (f0 + 1)) (f0 + 1) nf → st_at D ca H1 a na va kd rm ch n g vf → kp [a, na, va] H H1 → yy_S z H1 locs → yy_Y b H1 locs (0, 0) 5 [(4, .int (nI i)), (0, .ref a), (1, .int (nI f0)), (2, .int (nI t0)), (3, .int how)] [] := by
    intro d
    induction d with
    | zero =>
      intro i g H1 locs hd hi he P1 k1 S1
      refine yy_iload F d_S_arrange_5 (n := 7) rfl 0 rfl ?_
      refine yy_iload_n F d_S_arrange_7 (n := 8) rfl 3 rfl ?_
      refine yy_ic_ge_t (tgt := 80) F d_S_arrange_8 (by decide) (nI_le (by omega) (by omega)) ?_
      refine yy_aload_n F d_S_arrange_80 (n := 81) rfl 1 rfl ?_
      refine yy_dup F d_S_arrange_81 (n := 82) rfl rfl ?_
      refine yy_get F X.1 X.2.1 g_S_25_S P1.1 rfl d_S_arrange_82 (n := 85) rfl ?_
      refine yy_iconst (v := 1) F d_S_arrange_85 (n := 86) rfl rfl ?_
      refine yy_iadd F d_S_arrange_86 (n := 87) rfl ?_
      refine sr_chg F X g_S_25_S S1 ok P1 k1 d_S_arrange_87 (n' := 90) rfl (fun Hw_8 locs_w_8 Pw_8 kw_8 Sw_8 => ?_)
      exact yy_vret F Sw_8 ⟨Nat.zero_le _, Nat.zero_le _⟩ rfl d_S_arrange_90 (⟨rfl, by rw [← he]; exact Pw_8, kw_8⟩)
    | succ d ih =>
      intro i g H1 locs hd hi he P1 k1 S1
      refine yy_iload F d_S_arrange_5 (n := 7) rfl 0 rfl ?_
      refine yy_iload_n F d_S_arrange_7 (n := 8) rfl 3 rfl ?_
      refine yy_ic_ge_f (tgt := 80) F d_S_arrange_8 (n := 11) rfl (by decide) (nI_ge (by omega) (by omega)) ?_
      refine yy_aload_n F d_S_arrange_11 (n := 12) rfl 1 rfl ?_
      refine yy_iload F d_S_arrange_12 (n := 14) rfl 0 rfl ?_
      refine yy_cri (w := (g i)) F S1 (c_S_numberAt (p := nI i) X hn) (yy_Bc F X.1 q_457 q_11) (yy_invV (nA := 1) (C := R_S) (bytes := b_S_numberAt) (maxL := 2) (retY := (some .int)) F X.1 q_562 q_455 q_456 q_457 ⟨by decide, by decide, by decide +kernel⟩ (yy_recv F.N X.2.1 (ci := 0) rfl P1.1) rfl d_S_arrange_14) d_S_arrange_14 (n := 17) rfl (by simp [Value.category]) ⟨by decide, by decide⟩ ⟨Nat.le_refl _, Nat.le_refl _⟩ ⟨rfl, rfl⟩ P1 (ym_na (by omega) hn) (fun _ hS_9 => ?_)
      refine yy_istore (lv' := [(5, .int (g i)), (4, .int (nI i)), (0, .ref a), (1, .int (nI f0)), (2, .int (nI t0)), (3, .int how)]) F d_S_arrange_17 (n := 19) rfl (by decide) rfl ?_
      refine yy_iload F d_S_arrange_19 (n := 21) rfl 1 rfl ?_
      refine yy_istore (lv' := [(6, .int (nI i)), (5, .int (g i)), (4, .int (nI i)), (0, .ref a), (1, .int (nI f0)), (2, .int (nI t0)), (3, .int how)]) F d_S_arrange_21 (n := 23) rfl (by decide) rfl ?_
      refine yy_sub [0, 1, 2, 3, 4, 5, 6] rfl (inner i i (g i) g H1 _ (by omega) P1 k1 hS_9 (fun H2 locs2 P2 k2 S2 => ?_))
      refine yy_iinc (v := nI (i + 1)) (lv' := [(4, .int (nI (i + 1))), (0, .ref a), (1, .int (nI f0)), (2, .int (nI t0)), (3, .int how)]) F d_S_arrange_74 (n := 77) rfl 0 rfl (nI_1 _) (by decide) rfl ?_
      refine yy_goto (tgt := 5) F d_S_arrange_77 (by decide) ?_
      exact yy_sub [0, 1, 2, 3, 4] rfl (ih (i + 1) _ H2 locs2 (by omega) (by omega) he P2 k2 S2)
  refine yy_iload_n F d_S_arrange_0 (n := 1) rfl 1 rfl ?_
  refine yy_iconst (v := 1) F d_S_arrange_1 (n := 2) rfl rfl ?_
  refine yy_iadd F d_S_arrange_2 (n := 3) rfl ?_
  refine yy_tope (y := (nI (f0 + 1))) (nI_1 _) ?_
  refine yy_istore (lv' := [(4, .int (nI (f0 + 1))), (0, .ref a), (1, .int (nI f0)), (2, .int (nI t0)), (3, .int how)]) F d_S_arrange_3 (n := 5) rfl (by decide) rfl ?_
  exact outer _ (f0 + 1) nf H _ rfl (by omega) rfl hP hk0 hS
