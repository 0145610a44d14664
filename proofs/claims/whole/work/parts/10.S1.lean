/-! PART S1: what a store answers: isFull, isHeld, numberAt, valueAt -/
set_option maxRecDepth 100000 in
set_option maxHeartbeats 4000000 in
/-- whether the rows are full -/
theorem c_S_isFull {l : Launch} {z : State} {a0 : Array Value} {D : va_G} {ca : kca} (X : kcx l z a0 D ca) {a na va n : Nat} {kd rm ch : Int32} {nf vf : Nat → Int32} (hn : n ≤ 24)  : yy_M l z y_S_isFull (.code y_S_isFull b_S_isFull 1 (some .boolean)) ({ frames := 0, cells := 0, slots := 0, locals := 0 }) [.ref a] (fun H => st_at D ca H a na va kd rm ch n nf vf) (yy_ri (ym_n (decide (24 ≤ n)))) := by
  refine yy_body (plainFor_of_name (by decide)) (Nat.le_of_ble_eq_true rfl) (fun b H F hS hP hH hnm => ?_)
  obtain ⟨hO, hN, hV⟩ := id hP
  refine yy_aload_n F d_S_isFull_0 (n := 1) rfl 0 rfl ?_
  refine yy_get F X.1 X.2.1 g_S_18_S hO rfl d_S_isFull_1 (n := 4) rfl ?_
  refine yy_aload_n F d_S_isFull_4 (n := 5) rfl 0 rfl ?_
  refine yy_get F X.1 X.2.1 g_S_9_S hO rfl d_S_isFull_5 (n := 8) rfl ?_
  refine yy_alen F X.2.1 0 rfl hN (x := 24) rfl d_S_isFull_8 (n := 9) rfl ?_
  refine yy_ic_lt (tgt := 16) F d_S_isFull_9 (n := 12) rfl (by decide) (fun h => ?_) (fun h => ?_)
  · refine yy_iconst (v := 0) F d_S_isFull_16 (n := 17) rfl rfl ?_
    exact yy_zret F hS ⟨Nat.zero_le _, Nat.zero_le _⟩ rfl rfl d_S_isFull_17 (⟨0, rfl, (ym_nf (decide_eq_false (fun q => by have := (ym_lt (k := 24) rfl (by omega)).mp h; omega))).symm, rfl⟩)
  · refine yy_iconst (v := 1) F d_S_isFull_12 (n := 13) rfl rfl ?_
    refine yy_goto (tgt := 17) F d_S_isFull_13 (by decide) ?_
    exact yy_zret F hS ⟨Nat.zero_le _, Nat.zero_le _⟩ rfl rfl d_S_isFull_17 (⟨1, rfl, (ym_nt (decide_eq_true (by have := mt (ym_lt (k := 24) rfl (by omega)).mpr h; omega))).symm, rfl⟩)
set_option maxRecDepth 100000 in
set_option maxHeartbeats 4000000 in
/-- whether a place is one of the held -/
theorem c_S_isHeld {l : Launch} {z : State} {a0 : Array Value} {D : va_G} {ca : kca} (X : kcx l z a0 D ca) {a na va n : Nat} {kd rm ch : Int32} {nf vf : Nat → Int32} (hn : n ≤ 24) {p : Int32} : yy_M l z y_S_isHeld (.code y_S_isHeld b_S_isHeld 2 (some .boolean)) ({ frames := 0, cells := 0, slots := 0, locals := 0 }) [.ref a, .int p] (fun H => st_at D ca H a na va kd rm ch n nf vf) (yy_ri (ym_n (ym_inb p n))) := by
  refine yy_body (plainFor_of_name (by decide)) (Nat.le_of_ble_eq_true rfl) (fun b H F hS hP hH hnm => ?_)
  obtain ⟨hO, hN, hV⟩ := id hP
  refine yy_iload_n F d_S_isHeld_0 (n := 1) rfl 1 rfl ?_
  refine yy_if_lt (tgt := 16) F d_S_isHeld_1 (n := 4) rfl (by decide) (fun h => ?_) (fun h => ?_)
  · refine yy_iconst (v := 0) F d_S_isHeld_16 (n := 17) rfl rfl ?_
    exact yy_zret F hS ⟨Nat.zero_le _, Nat.zero_le _⟩ rfl rfl d_S_isHeld_17 (⟨0, rfl, (ym_nf (ym_inb_f (fun q => q.1 h))).symm, rfl⟩)
  · refine yy_iload_n F d_S_isHeld_4 (n := 5) rfl 1 rfl ?_
    refine yy_aload_n F d_S_isHeld_5 (n := 6) rfl 0 rfl ?_
    refine yy_get F X.1 X.2.1 g_S_18_S hO rfl d_S_isHeld_6 (n := 9) rfl ?_
    refine yy_ic_ge (tgt := 16) F d_S_isHeld_9 (n := 12) rfl (by decide) (fun h2 => ?_) (fun h2 => ?_)
    · refine yy_iconst (v := 0) F d_S_isHeld_16 (n := 17) rfl rfl ?_
      exact yy_zret F hS ⟨Nat.zero_le _, Nat.zero_le _⟩ rfl rfl d_S_isHeld_17 (⟨0, rfl, (ym_nf (ym_inb_f (fun q => absurd q.2 (Int32.not_lt.mpr h2)))).symm, rfl⟩)
    · refine yy_iconst (v := 1) F d_S_isHeld_12 (n := 13) rfl rfl ?_
      refine yy_goto (tgt := 17) F d_S_isHeld_13 (by decide) ?_
      exact yy_zret F hS ⟨Nat.zero_le _, Nat.zero_le _⟩ rfl rfl d_S_isHeld_17 (⟨1, rfl, (ym_nt (ym_inb_t ⟨h, Int32.not_le.mp h2⟩)).symm, rfl⟩)
set_option maxRecDepth 100000 in
set_option maxHeartbeats 4000000 in
/-- the number at a held place, else 0 -/
theorem c_S_numberAt {l : Launch} {z : State} {a0 : Array Value} {D : va_G} {ca : kca} (X : kcx l z a0 D ca) {a na va n : Nat} {kd rm ch : Int32} {nf vf : Nat → Int32} (hn : n ≤ 24) {p : Int32} : yy_M l z y_S_numberAt (.code y_S_numberAt b_S_numberAt 2 (some .int)) ({ frames := 1, cells := 0, slots := 0, locals := 21 }) [.ref a, .int p] (fun H => st_at D ca H a na va kd rm ch n nf vf) (yy_ri (if ym_inb p n then nf p.toNatClampNeg else 0)) := by
  refine yy_body (plainFor_of_name (by decide)) (Nat.le_of_ble_eq_true rfl) (fun b H F hS hP hH hnm => ?_)
  obtain ⟨hO, hN, hV⟩ := id hP
  by_cases hp : ym_in p n
  · refine yy_aload_n F d_S_numberAt_0 (n := 1) rfl 0 rfl ?_
    refine yy_iload_n F d_S_numberAt_1 (n := 2) rfl 1 rfl ?_
    refine yy_cri (w := 1) F hS (c_S_isHeld (p := p) X hn) (yy_Bc F X.1 q_461 q_11) (yy_invV (nA := 1) (C := R_S) (bytes := b_S_isHeld) (maxL := 2) (retY := (some .boolean)) F X.1 q_458 q_459 q_460 q_461 ⟨by decide, by decide, by decide +kernel⟩ (yy_recv F.N X.2.1 (ci := 0) rfl hO) rfl d_S_numberAt_2) d_S_numberAt_2 (n := 5) rfl (by simp [Value.category]) ⟨by decide, by decide⟩ ⟨Nat.le_refl _, Nat.le_refl _⟩ ⟨rfl, rfl⟩ hP (ym_nt (ym_inb_t hp)) (fun _ hS_1 => ?_)
    refine yy_if_eq_f (tgt := 17) F d_S_numberAt_5 (n := 8) rfl (by decide) (by decide) ?_
    refine yy_aload_n F d_S_numberAt_8 (n := 9) rfl 0 rfl ?_
    refine yy_get F X.1 X.2.1 g_S_9_S hO rfl d_S_numberAt_9 (n := 12) rfl ?_
    refine yy_iload_n F d_S_numberAt_12 (n := 13) rfl 1 rfl ?_
    refine yy_iald F X.2.1 0 rfl hN (hp.vp hn (by decide)) d_S_numberAt_13 (n := 14) rfl ?_
    refine yy_goto (tgt := 18) F d_S_numberAt_14 (by decide) ?_
    exact yy_iret F hS_1 ⟨Nat.zero_le _, Nat.zero_le _⟩ rfl d_S_numberAt_18 (⟨_, rfl, by rw [ym_inb_t hp]; rfl, rfl⟩)
  · refine yy_aload_n F d_S_numberAt_0 (n := 1) rfl 0 rfl ?_
    refine yy_iload_n F d_S_numberAt_1 (n := 2) rfl 1 rfl ?_
    refine yy_cri (w := 0) F hS (c_S_isHeld (p := p) X hn) (yy_Bc F X.1 q_461 q_11) (yy_invV (nA := 1) (C := R_S) (bytes := b_S_isHeld) (maxL := 2) (retY := (some .boolean)) F X.1 q_458 q_459 q_460 q_461 ⟨by decide, by decide, by decide +kernel⟩ (yy_recv F.N X.2.1 (ci := 0) rfl hO) rfl d_S_numberAt_2) d_S_numberAt_2 (n := 5) rfl (by simp [Value.category]) ⟨by decide, by decide⟩ ⟨Nat.le_refl _, Nat.le_refl _⟩ ⟨rfl, rfl⟩ hP (ym_nf (ym_inb_f hp)) (fun _ hS_2 => ?_)
    refine yy_if_eq_t (tgt := 17) F d_S_numberAt_5 (by decide) rfl ?_
    refine yy_iconst (v := 0) F d_S_numberAt_17 (n := 18) rfl rfl ?_
    exact yy_iret F hS_2 ⟨Nat.zero_le _, Nat.zero_le _⟩ rfl d_S_numberAt_18 (⟨_, rfl, by rw [ym_inb_f hp]; rfl, rfl⟩)
set_option maxRecDepth 100000 in
set_option maxHeartbeats 4000000 in
/-- the number at a held place, else 0 -/
theorem c_S_valueAt {l : Launch} {z : State} {a0 : Array Value} {D : va_G} {ca : kca} (X : kcx l z a0 D ca) {a na va n : Nat} {kd rm ch : Int32} {nf vf : Nat → Int32} (hn : n ≤ 24) {p : Int32} : yy_M l z y_S_valueAt (.code y_S_valueAt b_S_valueAt 2 (some .int)) ({ frames := 1, cells := 0, slots := 0, locals := 21 }) [.ref a, .int p] (fun H => st_at D ca H a na va kd rm ch n nf vf) (yy_ri (if ym_inb p n then vf p.toNatClampNeg else 0)) := by
  refine yy_body (plainFor_of_name (by decide)) (Nat.le_of_ble_eq_true rfl) (fun b H F hS hP hH hnm => ?_)
  obtain ⟨hO, hN, hV⟩ := id hP
  by_cases hp : ym_in p n
  · refine yy_aload_n F d_S_valueAt_0 (n := 1) rfl 0 rfl ?_
    refine yy_iload_n F d_S_valueAt_1 (n := 2) rfl 1 rfl ?_
    refine yy_cri (w := 1) F hS (c_S_isHeld (p := p) X hn) (yy_Bc F X.1 q_461 q_11) (yy_invV (nA := 1) (C := R_S) (bytes := b_S_isHeld) (maxL := 2) (retY := (some .boolean)) F X.1 q_458 q_459 q_460 q_461 ⟨by decide, by decide, by decide +kernel⟩ (yy_recv F.N X.2.1 (ci := 0) rfl hO) rfl d_S_valueAt_2) d_S_valueAt_2 (n := 5) rfl (by simp [Value.category]) ⟨by decide, by decide⟩ ⟨Nat.le_refl _, Nat.le_refl _⟩ ⟨rfl, rfl⟩ hP (ym_nt (ym_inb_t hp)) (fun _ hS_1 => ?_)
    refine yy_if_eq_f (tgt := 17) F d_S_valueAt_5 (n := 8) rfl (by decide) (by decide) ?_
    refine yy_aload_n F d_S_valueAt_8 (n := 9) rfl 0 rfl ?_
    refine yy_get F X.1 X.2.1 g_S_15_S hO rfl d_S_valueAt_9 (n := 12) rfl ?_
    refine yy_iload_n F d_S_valueAt_12 (n := 13) rfl 1 rfl ?_
    refine yy_iald F X.2.1 0 rfl hV (hp.vp hn (by decide)) d_S_valueAt_13 (n := 14) rfl ?_
    refine yy_goto (tgt := 18) F d_S_valueAt_14 (by decide) ?_
    exact yy_iret F hS_1 ⟨Nat.zero_le _, Nat.zero_le _⟩ rfl d_S_valueAt_18 (⟨_, rfl, by rw [ym_inb_t hp]; rfl, rfl⟩)
  · refine yy_aload_n F d_S_valueAt_0 (n := 1) rfl 0 rfl ?_
    refine yy_iload_n F d_S_valueAt_1 (n := 2) rfl 1 rfl ?_
    refine yy_cri (w := 0) F hS (c_S_isHeld (p := p) X hn) (yy_Bc F X.1 q_461 q_11) (yy_invV (nA := 1) (C := R_S) (bytes := b_S_isHeld) (maxL := 2) (retY := (some .boolean)) F X.1 q_458 q_459 q_460 q_461 ⟨by decide, by decide, by decide +kernel⟩ (yy_recv F.N X.2.1 (ci := 0) rfl hO) rfl d_S_valueAt_2) d_S_valueAt_2 (n := 5) rfl (by simp [Value.category]) ⟨by decide, by decide⟩ ⟨Nat.le_refl _, Nat.le_refl _⟩ ⟨rfl, rfl⟩ hP (ym_nf (ym_inb_f hp)) (fun _ hS_2 => ?_)
    refine yy_if_eq_t (tgt := 17) F d_S_valueAt_5 (by decide) rfl ?_
    refine yy_iconst (v := 0) F d_S_valueAt_17 (n := 18) rfl rfl ?_
    exact yy_iret F hS_2 ⟨Nat.zero_le _, Nat.zero_le _⟩ rfl d_S_valueAt_18 (⟨_, rfl, by rw [ym_inb_f hp]; rfl, rfl⟩)
