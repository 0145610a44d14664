/-! PART M2: the reference's checks and searches -/
theorem f_pos_of {f : Nat → Int32} {key : Int32} {p : Nat} (h1 : ∀ i, i < p → ¬ f i = key) (h2 : f p = key) : ∀ d i : Nat, i ≤ p → p < i + d → f_pos f key d i = some p
  | 0, i, a, b => by omega
  | d + 1, i, a, b => by
    unfold f_pos
    by_cases e : i = p
    · subst e
      rw [if_pos h2]
    · rw [if_neg (h1 i (by omega))]
      exact f_pos_of h1 h2 d (i + 1) (by omega) (by omega)
theorem f_pos_no {f : Nat → Int32} {key : Int32} : ∀ d i : Nat, (∀ q, i ≤ q → q < i + d → ¬ f q = key) → f_pos f key d i = none
  | 0, _, _ => rfl
  | d + 1, i, h => by
    unfold f_pos
    rw [if_neg (h i (by omega) (by omega))]
    exact f_pos_no d (i + 1) (fun q a b => h q (by omega) (by omega))
theorem ym_rem {x y : Int32} (hy : ¬ y < 1) : (x - x / y * y).toInt = x.toInt.tmod y.toInt := by
  have hy1 : 1 ≤ y.toInt := by
    have h := Int32.not_lt.mp hy
    rw [Int32.le_iff_toInt_le] at h
    exact h
  have bx1 := Int32.le_toInt x
  have bx2 := Int32.toInt_lt x
  have by2 := Int32.toInt_lt y
  have hd : (x / y).toInt = x.toInt.tdiv y.toInt := Int32.toInt_div_of_ne_right x y (by
    intro q
    rw [q] at hy1
    exact absurd hy1 (by decide))
  have hm := Int.tmod_add_mul_tdiv x.toInt y.toInt
  have hc : y.toInt * x.toInt.tdiv y.toInt = x.toInt.tdiv y.toInt * y.toInt := Int.mul_comm _ _
  have hlt : (x.toInt.tmod y.toInt).natAbs < y.toInt.natAbs := by
    rw [Int.natAbs_tmod]
    exact Nat.mod_lt _ (by omega)
  have hle : (x.toInt.tmod y.toInt).natAbs ≤ x.toInt.natAbs := by
    rw [Int.natAbs_tmod]
    exact Nat.mod_le _ _
  have hs : 0 ≤ x.toInt → 0 ≤ x.toInt.tmod y.toInt := fun h => Int.tmod_nonneg _ h
  have hs2 : x.toInt ≤ 0 → x.toInt.tmod y.toInt ≤ 0 := fun h => by
    have h9 := Int.tmod_nonneg y.toInt (show 0 ≤ -x.toInt by omega)
    rw [Int.neg_tmod] at h9
    omega
  have hp1 : -2 ^ 31 ≤ x.toInt.tdiv y.toInt * y.toInt ∧ x.toInt.tdiv y.toInt * y.toInt < 2 ^ 31 := by
    rcases Int.le_total 0 x.toInt with h | h
    · have := hs h
      omega
    · have := hs2 h
      omega
  have e1 : (x / y * y).toInt = x.toInt.tdiv y.toInt * y.toInt := by
    rw [Int32.toInt_mul, hd]
    exact Int.bmod_eq_of_le (by omega) (by omega)
  rw [Int32.toInt_sub, e1, show x.toInt - x.toInt.tdiv y.toInt * y.toInt = x.toInt.tmod y.toInt by omega]
  exact Int.bmod_eq_of_le (by omega) (by omega)
theorem ym_fm_mod {x y : Int32} (hy : ¬ y < 1) : ym_fm x y = if x - x / y * y < 0 then x - x / y * y + y else x - x / y * y := by
  have hr := ym_rem (x := x) hy
  have hy1 : 1 ≤ y.toInt := by
    have h := Int32.not_lt.mp hy
    rw [Int32.le_iff_toInt_le] at h
    exact h
  have hs : 0 ≤ x.toInt → 0 ≤ x.toInt.tmod y.toInt := fun h => Int.tmod_nonneg _ h
  have hs2 : x.toInt ≤ 0 → x.toInt.tmod y.toInt ≤ 0 := fun h => by
    have h9 := Int.tmod_nonneg y.toInt (show 0 ≤ -x.toInt by omega)
    rw [Int.neg_tmod] at h9
    omega
  have hx : x ^^^ y < 0 ↔ x.toInt < 0 := by
    have m1 : (x ^^^ y).toBitVec.msb = (x.toBitVec.msb ^^ y.toBitVec.msb) := by
      rw [Int32.toBitVec_xor, BitVec.msb_xor]
    rw [BitVec.msb_eq_toInt, BitVec.msb_eq_toInt, BitVec.msb_eq_toInt] at m1
    have m1' : decide ((x ^^^ y).toInt < 0) = (decide (x.toInt < 0) ^^ decide (y.toInt < 0)) := m1
    rw [decide_eq_false (show ¬ y.toInt < 0 by omega), Bool.xor_false] at m1'
    rw [Int32.lt_iff_toInt_lt]
    exact decide_eq_decide.mp m1'
  have hiff : (x ^^^ y < 0 ∧ ¬ x - x / y * y = 0) ↔ x - x / y * y < 0 := by
    rw [hx, Int32.lt_iff_toInt_lt, hr, ← Int32.toInt_inj, hr]
    show (x.toInt < 0 ∧ ¬ x.toInt.tmod y.toInt = 0) ↔ x.toInt.tmod y.toInt < 0
    constructor
    · intro h
      have := hs2 (by omega)
      omega
    · intro h
      refine ⟨?_, by omega⟩
      apply Int.lt_of_not_ge
      intro q
      have := hs q
      omega
  unfold ym_fm
  by_cases h : x - x / y * y < 0
  · rw [if_pos h, if_pos (hiff.mpr h)]
  · rw [if_neg h, if_neg (fun q => h (hiff.mp q))]
set_option maxRecDepth 100000 in
set_option maxHeartbeats 4000000 in
theorem c_M_isLost {l : Launch} {z : State} {a0 : Array Value} {D : va_G} {ca : kca} (X : kcx l z a0 D ca) {a n : Nat} {cd : Int32} {s : ms} {σ : ks} {t : Nat} (I : iv t σ) (R : mr s σ) {i c : Nat} (hi : i < 4) (hov : (k_W σ i).1 = some c) : yy_M l z y_M_isLost (.code y_M_isLost b_M_isLost 2 (some .boolean)) ({ frames := 1, cells := 0, slots := 0, locals := 23 }) [.ref a, .int (nI i)] (mo_at D ca z a n cd s) (yy_ri (ym_n (k_lost σ i c))) := by
  refine yy_body (plainFor_of_name (by decide)) (Nat.le_of_ble_eq_true rfl) (fun b H F hS hP hH hnm => ?_)
  have h10 := I.m10
  have hw9 := (I.2.2.2.2 i hi).2 c hov
  have hc := hw9.1
  have hkn := hw9.2.2.1
  have hch := I.ch hc
  have hq : nI (k_W σ i).2.2.2 = nI (s_ch (k_B σ c)) ↔ (k_W σ i).2.2.2 = s_ch (k_B σ c) := nI_eq (by omega) (by omega)
  have hb := I.bs hc
  have h24 := I.ct hc
  refine yy_aload_n F d_M_isLost_0 (n := 1) rfl 0 rfl ?_
  refine yy_aload_n F d_M_isLost_1 (n := 2) rfl 0 rfl ?_
  refine yy_get F X.1 X.2.1 g_M_43_M hP.o rfl d_M_isLost_2 (n := 5) rfl ?_
  refine yy_iload_n F d_M_isLost_5 (n := 6) rfl 1 rfl ?_
  refine ma_ld (j := 11) (i := i) F X hP (by decide) (show i < 4 by omega) d_M_isLost_6 (n' := 7) rfl ?_
  refine yy_tope (y := (nI c)) ((R.w1 hi hov).1) ?_
  refine yy_cri (w := (ym_n (k_stale σ c))) F hS (c_M_isStale X I R hc) (yy_Bc F X.1 q_930 q_3) (yy_invV (nA := 1) (C := R_M) (bytes := b_M_isStale) (maxL := 4) (retY := (some .boolean)) F X.1 q_927 q_929 qs_M_isStale q_930 ⟨by decide, by decide, by decide +kernel⟩ (yy_recv F.N X.2.1 (ci := 6) rfl hP.o) rfl d_M_isLost_7) d_M_isLost_7 (n := 10) rfl (by simp [Value.category]) ⟨by decide, by decide⟩ ⟨Nat.zero_le _, Nat.zero_le _⟩ ⟨rfl, rfl⟩ hP rfl (fun _ hSw_1 => ?_)
  cases hb1 : k_stale σ c
  · refine yy_if_ne_f (tgt := 38) F d_M_isLost_10 (n := 13) rfl (by decide) rfl ?_
    refine yy_aload_n F d_M_isLost_13 (n := 14) rfl 0 rfl ?_
    refine yy_get F X.1 X.2.1 g_M_52_M hP.o rfl d_M_isLost_14 (n := 17) rfl ?_
    refine yy_iload_n F d_M_isLost_17 (n := 18) rfl 1 rfl ?_
    refine ma_ld (j := 14) (i := i) F X hP (by decide) (show i < 4 by omega) d_M_isLost_18 (n' := 19) rfl ?_
    refine yy_tope (y := (nI (k_W σ i).2.2.2)) ((R.w1 hi hov).2.2.2) ?_
    refine yy_aload_n F d_M_isLost_19 (n := 20) rfl 0 rfl ?_
    refine yy_get F X.1 X.2.1 g_M_28_M hP.o rfl d_M_isLost_20 (n := 23) rfl ?_
    refine yy_aload_n F d_M_isLost_23 (n := 24) rfl 0 rfl ?_
    refine yy_get F X.1 X.2.1 g_M_16_M hP.o rfl d_M_isLost_24 (n := 27) rfl ?_
    refine yy_aload_n F d_M_isLost_27 (n := 28) rfl 0 rfl ?_
    refine yy_get F X.1 X.2.1 g_M_43_M hP.o rfl d_M_isLost_28 (n := 31) rfl ?_
    refine yy_iload_n F d_M_isLost_31 (n := 32) rfl 1 rfl ?_
    refine ma_ld (j := 11) (i := i) F X hP (by decide) (show i < 4 by omega) d_M_isLost_32 (n' := 33) rfl ?_
    refine yy_tope (y := (nI c)) ((R.w1 hi hov).1) ?_
    refine ma_ld (j := 2) (i := c) F X hP (by decide) (show c < 10 by omega) d_M_isLost_33 (n' := 34) rfl ?_
    refine yy_tope (y := (nI (k_bs σ c))) (R.bs hc) ?_
    refine ma_ld (j := 6) (i := (k_bs σ c)) F X hP (by decide) (show k_bs σ c < 10 by omega) d_M_isLost_34 (n' := 35) rfl ?_
    refine yy_tope (y := (nI (s_ch (k_B σ c)))) (R.ch I hc) ?_
    refine yy_ic_eq (tgt := 42) F d_M_isLost_35 (n := 38) rfl (by decide) (fun h1 => ?_) (fun h1 => ?_)
    · refine yy_iconst (v := 0) F d_M_isLost_42 (n := 43) rfl rfl ?_
      exact yy_zret F hSw_1 ⟨Nat.zero_le _, Nat.zero_le _⟩ rfl rfl d_M_isLost_43 (⟨_, rfl, by simp [k_lost, hb1, ym_n, hq.mp h1], rfl⟩)
    · refine yy_iconst (v := 1) F d_M_isLost_38 (n := 39) rfl rfl ?_
      refine yy_goto (tgt := 43) F d_M_isLost_39 (by decide) ?_
      exact yy_zret F hSw_1 ⟨Nat.zero_le _, Nat.zero_le _⟩ rfl rfl d_M_isLost_43 (⟨_, rfl, by simp [k_lost, hb1, ym_n, mt hq.mpr h1], rfl⟩)
  · refine yy_if_ne_t (tgt := 38) F d_M_isLost_10 (by decide) (by decide) ?_
    refine yy_iconst (v := 1) F d_M_isLost_38 (n := 39) rfl rfl ?_
    refine yy_goto (tgt := 43) F d_M_isLost_39 (by decide) ?_
    exact yy_zret F hSw_1 ⟨Nat.zero_le _, Nat.zero_le _⟩ rfl rfl d_M_isLost_43 (⟨_, rfl, by simp [k_lost, hb1, ym_n], rfl⟩)
/-- the number of what is thrown, among those that a call may throw -/
def c_of : List String → Option String → Int32
  | _, none => 0
  | [], some _ => 0
  | E' :: l, some E => if E = E' then 1 else 1 + c_of l (some E)
def m_cl (σ : ks) (x e : Int32) : Int32 := match ch_fl σ x with | none => 0 | some E => if E = e_io then 1 else if E = e_uo then 2 else e
set_option maxRecDepth 100000 in
set_option maxHeartbeats 4000000 in
theorem c_M_checkList {l : Launch} {z : State} {a0 : Array Value} {D : va_G} {ca : kca} (X : kcx l z a0 D ca) {a n : Nat} {cd : Int32} {s : ms} {σ : ks} {t : Nat} (I : iv t σ) (R : mr s σ) {x e : Int32} : yy_M l z y_M_checkList (.code y_M_checkList b_M_checkList 3 (some .int)) ({ frames := 1, cells := 0, slots := 0, locals := 23 }) [.ref a, .int x, .int e] (mo_at D ca z a n cd s) (yy_ri (m_cl σ x e)) := by
  refine yy_body (plainFor_of_name (by decide)) (Nat.le_of_ble_eq_true rfl) (fun b H F hS hP hH hnm => ?_)
  have h10 := I.m10
  refine yy_aload_n F d_M_checkList_0 (n := 1) rfl 0 rfl ?_
  refine yy_iload_n F d_M_checkList_1 (n := 2) rfl 1 rfl ?_
  refine yy_cri (w := (ym_n (ym_inb x (k_m σ)))) F hS (c_M_isThere (x := x) X I R) (yy_Bc F X.1 q_918 q_3) (yy_invV (nA := 1) (C := R_M) (bytes := b_M_isThere) (maxL := 2) (retY := (some .boolean)) F X.1 q_915 q_917 qs_M_isThere q_918 ⟨by decide, by decide, by decide +kernel⟩ (yy_recv F.N X.2.1 (ci := 6) rfl hP.o) rfl d_M_checkList_2) d_M_checkList_2 (n := 5) rfl (by simp [Value.category]) ⟨by decide, by decide⟩ ⟨Nat.zero_le _, Nat.zero_le _⟩ ⟨rfl, rfl⟩ hP rfl (fun _ hSw_1 => ?_)
  cases hin : ym_inb x (k_m σ)
  · refine yy_if_ne_f (tgt := 12) F d_M_checkList_5 (n := 8) rfl (by decide) rfl ?_
    refine yy_iconst (v := 1) F d_M_checkList_8 (n := 9) rfl rfl ?_
    refine yy_goto (tgt := 37) F d_M_checkList_9 (by decide) ?_
    exact yy_iret F hSw_1 ⟨Nat.zero_le _, Nat.zero_le _⟩ rfl d_M_checkList_37 (⟨_, rfl, by unfold m_cl ch_fl; rw [hin]; rfl, rfl⟩)
  · refine yy_if_ne_t (tgt := 12) F d_M_checkList_5 (by decide) (by decide) ?_
    obtain ⟨hc, ex⟩ := inb_cN (by omega) hin
    rw [show (Value.int x) = Value.int (nI (cN x)) from congrArg Value.int ex]
    refine yy_aload_n F d_M_checkList_12 (n := 13) rfl 0 rfl ?_
    refine yy_iload_n F d_M_checkList_13 (n := 14) rfl 1 rfl ?_
    refine yy_cri (w := (ym_n (k_isl (k_kd σ (cN x))))) F hSw_1 (c_M_isList (c := cN x) X I R hc) (yy_Bc F X.1 q_922 q_3) (yy_invV (nA := 1) (C := R_M) (bytes := b_M_isList) (maxL := 2) (retY := (some .boolean)) F X.1 q_919 q_921 qs_M_isList q_922 ⟨by decide, by decide, by decide +kernel⟩ (yy_recv F.N X.2.1 (ci := 6) rfl hP.o) rfl d_M_checkList_14) d_M_checkList_14 (n := 17) rfl (by simp [Value.category]) ⟨by decide, by decide⟩ ⟨Nat.zero_le _, Nat.zero_le _⟩ ⟨rfl, rfl⟩ hP rfl (fun _ hSw_2 => ?_)
    cases hl : k_isl (k_kd σ (cN x))
    · refine yy_if_ne_f (tgt := 24) F d_M_checkList_17 (n := 20) rfl (by decide) rfl ?_
      refine yy_iconst (v := 2) F d_M_checkList_20 (n := 21) rfl rfl ?_
      refine yy_goto (tgt := 37) F d_M_checkList_21 (by decide) ?_
      exact yy_iret F hSw_2 ⟨Nat.zero_le _, Nat.zero_le _⟩ rfl d_M_checkList_37 (⟨_, rfl, by unfold m_cl ch_fl; rw [hin, hl]; rfl, rfl⟩)
    · refine yy_if_ne_t (tgt := 24) F d_M_checkList_17 (by decide) (by decide) ?_
      refine yy_aload_n F d_M_checkList_24 (n := 25) rfl 0 rfl ?_
      refine yy_iload_n F d_M_checkList_25 (n := 26) rfl 1 rfl ?_
      refine yy_cri (w := (ym_n (k_stale σ (cN x)))) F hSw_2 (c_M_isStale (c := cN x) X I R hc) (yy_Bc F X.1 q_930 q_3) (yy_invV (nA := 1) (C := R_M) (bytes := b_M_isStale) (maxL := 4) (retY := (some .boolean)) F X.1 q_927 q_929 qs_M_isStale q_930 ⟨by decide, by decide, by decide +kernel⟩ (yy_recv F.N X.2.1 (ci := 6) rfl hP.o) rfl d_M_checkList_26) d_M_checkList_26 (n := 29) rfl (by simp [Value.category]) ⟨by decide, by decide⟩ ⟨Nat.zero_le _, Nat.zero_le _⟩ ⟨rfl, rfl⟩ hP rfl (fun _ hSw_3 => ?_)
      cases hs : k_stale σ (cN x)
      · refine yy_if_eq_t (tgt := 36) F d_M_checkList_29 (by decide) rfl ?_
        refine yy_iconst (v := 0) F d_M_checkList_36 (n := 37) rfl rfl ?_
        exact yy_iret F hSw_3 ⟨Nat.zero_le _, Nat.zero_le _⟩ rfl d_M_checkList_37 (⟨_, rfl, by unfold m_cl ch_fl; rw [hin, hl, hs]; rfl, rfl⟩)
      · refine yy_if_eq_f (tgt := 36) F d_M_checkList_29 (n := 32) rfl (by decide) (by decide) ?_
        refine yy_iload_n F d_M_checkList_32 (n := 33) rfl 2 rfl ?_
        refine yy_goto (tgt := 37) F d_M_checkList_33 (by decide) ?_
        exact yy_iret F hSw_3 ⟨Nat.zero_le _, Nat.zero_le _⟩ rfl d_M_checkList_37 (⟨_, rfl, by unfold m_cl ch_fl; rw [hin, hl, hs]; rfl, rfl⟩)
set_option maxRecDepth 100000 in
set_option maxHeartbeats 4000000 in
theorem c_M_checkMap {l : Launch} {z : State} {a0 : Array Value} {D : va_G} {ca : kca} (X : kcx l z a0 D ca) {a n : Nat} {cd : Int32} {s : ms} {σ : ks} {t : Nat} (I : iv t σ) (R : mr s σ) {x : Int32} : yy_M l z y_M_checkMap (.code y_M_checkMap b_M_checkMap 2 (some .int)) ({ frames := 2, cells := 0, slots := 0, locals := 42 }) [.ref a, .int x] (mo_at D ca z a n cd s) (yy_ri (c_of [e_io, e_uo] (ch_map σ x))) := by
  refine yy_body (plainFor_of_name (by decide)) (Nat.le_of_ble_eq_true rfl) (fun b H F hS hP hH hnm => ?_)
  have h10 := I.m10
  refine yy_aload_n F d_M_checkMap_0 (n := 1) rfl 0 rfl ?_
  refine yy_iload_n F d_M_checkMap_1 (n := 2) rfl 1 rfl ?_
  refine yy_cri (w := (ym_n (ym_inb x (k_m σ)))) F hS (c_M_isThere (x := x) X I R) (yy_Bc F X.1 q_918 q_3) (yy_invV (nA := 1) (C := R_M) (bytes := b_M_isThere) (maxL := 2) (retY := (some .boolean)) F X.1 q_915 q_917 qs_M_isThere q_918 ⟨by decide, by decide, by decide +kernel⟩ (yy_recv F.N X.2.1 (ci := 6) rfl hP.o) rfl d_M_checkMap_2) d_M_checkMap_2 (n := 5) rfl (by simp [Value.category]) ⟨by decide, by decide⟩ ⟨Nat.zero_le _, Nat.zero_le _⟩ ⟨rfl, rfl⟩ hP rfl (fun _ hSw_1 => ?_)
  cases hin : ym_inb x (k_m σ)
  · refine yy_if_ne_f (tgt := 12) F d_M_checkMap_5 (n := 8) rfl (by decide) rfl ?_
    refine yy_iconst (v := 1) F d_M_checkMap_8 (n := 9) rfl rfl ?_
    refine yy_goto (tgt := 25) F d_M_checkMap_9 (by decide) ?_
    exact yy_iret F hSw_1 ⟨Nat.zero_le _, Nat.zero_le _⟩ rfl d_M_checkMap_25 (⟨_, rfl, by unfold ch_map; rw [hin]; rfl, rfl⟩)
  · refine yy_if_ne_t (tgt := 12) F d_M_checkMap_5 (by decide) (by decide) ?_
    obtain ⟨hc, ex⟩ := inb_cN (by omega) hin
    rw [show (Value.int x) = Value.int (nI (cN x)) from congrArg Value.int ex]
    refine yy_aload_n F d_M_checkMap_12 (n := 13) rfl 0 rfl ?_
    refine yy_iload_n F d_M_checkMap_13 (n := 14) rfl 1 rfl ?_
    refine yy_cri (w := (ym_n (k_ism (k_kd σ (cN x))))) F hSw_1 (c_M_isMap (c := cN x) X I R hc) (yy_Bc F X.1 q_1017 q_3) (yy_invV (nA := 1) (C := R_M) (bytes := b_M_isMap) (maxL := 2) (retY := (some .boolean)) F X.1 q_1014 q_1016 qs_M_isMap q_1017 ⟨by decide, by decide, by decide +kernel⟩ (yy_recv F.N X.2.1 (ci := 6) rfl hP.o) rfl d_M_checkMap_14) d_M_checkMap_14 (n := 17) rfl (by simp [Value.category]) ⟨by decide, by decide⟩ ⟨Nat.zero_le _, Nat.zero_le _⟩ ⟨rfl, rfl⟩ hP rfl (fun _ hSw_2 => ?_)
    cases hl : k_ism (k_kd σ (cN x))
    · refine yy_if_eq_t (tgt := 24) F d_M_checkMap_17 (by decide) rfl ?_
      refine yy_iconst (v := 2) F d_M_checkMap_24 (n := 25) rfl rfl ?_
      exact yy_iret F hSw_2 ⟨Nat.zero_le _, Nat.zero_le _⟩ rfl d_M_checkMap_25 (⟨_, rfl, by unfold ch_map; rw [hin, hl]; rfl, rfl⟩)
    · refine yy_if_eq_f (tgt := 24) F d_M_checkMap_17 (n := 20) rfl (by decide) (by decide) ?_
      refine yy_iconst (v := 0) F d_M_checkMap_20 (n := 21) rfl rfl ?_
      refine yy_goto (tgt := 25) F d_M_checkMap_21 (by decide) ?_
      exact yy_iret F hSw_2 ⟨Nat.zero_le _, Nat.zero_le _⟩ rfl d_M_checkMap_25 (⟨_, rfl, by unfold ch_map; rw [hin, hl]; rfl, rfl⟩)
set_option maxRecDepth 100000 in
set_option maxHeartbeats 4000000 in
theorem c_M_find {l : Launch} {z : State} {a0 : Array Value} {D : va_G} {ca : kca} (X : kcx l z a0 D ca) {a n : Nat} {cd : Int32} {s : ms} {σ : ks} {t : Nat} (I : iv t σ) (R : mr s σ) {c : Nat} (hc : c < k_m σ) {key : Int32} (h5 : ¬ k_kb σ c = 5) : yy_M l z y_M_find (.code y_M_find b_M_find 5 (some .int)) ({ frames := 1, cells := 0, slots := 0, locals := 22 }) [.ref a, .int (nI c), .int key] (mo_at D ca z a n cd s) (yy_ri (o_n (k_at σ c key))) := by
  refine yy_body (plainFor_of_name (by decide)) (Nat.le_of_ble_eq_true rfl) (fun b H F hS hP hH hnm => ?_)
  have h10 := I.m10
  have hb := I.bs hc
  have h24 := I.ct hc
  have loop : ∀ (d p : Nat) (locs : List Loc), p + d = s_ct (k_B σ c) → (∀ i, i < p → ¬ s_nu (k_B σ c) i = key) → yy_S z H locs → yy_Y b H locs (0, 0) 10 [(4, .int (nI p)), (3, .int (nI (k_bs σ c))), (0, .ref a), (1, .int (nI c)), (2, .int key)] [] := by
    intro d
    induction d with
    | zero =>
      intro p locs hd ha S1
      have hno : k_at σ c key = none := by
        unfold k_at
        split
        · exact f_pos_no _ _ (fun q a b => ha q (by omega))
        · rfl
      refine yy_iload F d_M_find_10 (n := 12) rfl 0 rfl ?_
      refine yy_aload_n F d_M_find_12 (n := 13) rfl 2 rfl ?_
      refine yy_get F X.1 X.2.1 g_M_25_M hP.o rfl d_M_find_13 (n := 16) rfl ?_
      refine yy_iload_n F d_M_find_16 (n := 17) rfl 1 rfl ?_
      refine ma_ld (j := 5) (i := (k_bs σ c)) F X hP (by decide) (show k_bs σ c < 10 by omega) d_M_find_17 (n' := 18) rfl ?_
      refine yy_tope (y := (nI (s_ct (k_B σ c)))) (R.ct I hc) ?_
      refine yy_ic_ge_t (tgt := 43) F d_M_find_18 (by decide) (nI_le (by omega) (by omega)) ?_
      refine yy_iload F d_M_find_43 (n := 45) rfl 0 rfl ?_
      refine yy_aload_n F d_M_find_45 (n := 46) rfl 2 rfl ?_
      refine yy_get F X.1 X.2.1 g_M_25_M hP.o rfl d_M_find_46 (n := 49) rfl ?_
      refine yy_iload_n F d_M_find_49 (n := 50) rfl 1 rfl ?_
      refine ma_ld (j := 5) (i := (k_bs σ c)) F X hP (by decide) (show k_bs σ c < 10 by omega) d_M_find_50 (n' := 51) rfl ?_
      refine yy_tope (y := (nI (s_ct (k_B σ c)))) (R.ct I hc) ?_
      refine yy_ic_ge_t (tgt := 68) F d_M_find_51 (by decide) (nI_le (by omega) (by omega)) ?_
      refine yy_iconst (v := (-1)) F d_M_find_68 (n := 69) rfl rfl ?_
      exact yy_iret F S1 ⟨Nat.zero_le _, Nat.zero_le _⟩ rfl d_M_find_69 (⟨_, rfl, by rw [hno]; rfl, rfl⟩)
    | succ d ih =>
      intro p locs hd ha S1
      refine yy_iload F d_M_find_10 (n := 12) rfl 0 rfl ?_
      refine yy_aload_n F d_M_find_12 (n := 13) rfl 2 rfl ?_
      refine yy_get F X.1 X.2.1 g_M_25_M hP.o rfl d_M_find_13 (n := 16) rfl ?_
      refine yy_iload_n F d_M_find_16 (n := 17) rfl 1 rfl ?_
      refine ma_ld (j := 5) (i := (k_bs σ c)) F X hP (by decide) (show k_bs σ c < 10 by omega) d_M_find_17 (n' := 18) rfl ?_
      refine yy_tope (y := (nI (s_ct (k_B σ c)))) (R.ct I hc) ?_
      refine yy_ic_ge_f (tgt := 43) F d_M_find_18 (n := 21) rfl (by decide) (nI_ge (by omega) (by omega)) ?_
      refine yy_aload_n F d_M_find_21 (n := 22) rfl 2 rfl ?_
      refine yy_get F X.1 X.2.1 g_M_19_M hP.o rfl d_M_find_22 (n := 25) rfl ?_
      refine yy_bipush (v := 24) F d_M_find_25 (n := 27) rfl rfl ?_
      refine yy_iload_n F d_M_find_27 (n := 28) rfl 1 rfl ?_
      refine yy_imul F d_M_find_28 (n := 29) rfl ?_
      refine yy_tope (y := (nI (24 * (k_bs σ c)))) (pk_mul 24 _) ?_
      refine yy_iload F d_M_find_29 (n := 31) rfl 0 rfl ?_
      refine yy_iadd F d_M_find_31 (n := 32) rfl ?_
      refine yy_tope (y := (nI (24 * (k_bs σ c) + p))) (nI_add _ _) ?_
      refine ma_ld (j := 3) (i := (24 * (k_bs σ c) + p)) F X hP (by decide) (show 24 * (k_bs σ c) + p < 240 by omega) d_M_find_32 (n' := 33) rfl ?_
      refine yy_tope (y := (s_nu (k_B σ c) p)) (R.nu I hc h5 (by omega)) ?_
      refine yy_iload_n F d_M_find_33 (n := 34) rfl 4 rfl ?_
      refine yy_ic_eq (tgt := 43) F d_M_find_34 (n := 37) rfl (by decide) (fun h8 => ?_) (fun h8 => ?_)
      · have hfp : f_pos (s_nu (k_B σ c)) key (s_ct (k_B σ c)) 0 = some p := f_pos_of ha h8 _ 0 (Nat.zero_le _) (by omega)
        refine yy_iload F d_M_find_43 (n := 45) rfl 0 rfl ?_
        refine yy_aload_n F d_M_find_45 (n := 46) rfl 2 rfl ?_
        refine yy_get F X.1 X.2.1 g_M_25_M hP.o rfl d_M_find_46 (n := 49) rfl ?_
        refine yy_iload_n F d_M_find_49 (n := 50) rfl 1 rfl ?_
        refine ma_ld (j := 5) (i := (k_bs σ c)) F X hP (by decide) (show k_bs σ c < 10 by omega) d_M_find_50 (n' := 51) rfl ?_
        refine yy_tope (y := (nI (s_ct (k_B σ c)))) (R.ct I hc) ?_
        refine yy_ic_ge_f (tgt := 68) F d_M_find_51 (n := 54) rfl (by decide) (nI_ge (by omega) (by omega)) ?_
        refine yy_aload_n F d_M_find_54 (n := 55) rfl 2 rfl ?_
        refine yy_iload_n F d_M_find_55 (n := 56) rfl 3 rfl ?_
        refine yy_iload_n F d_M_find_56 (n := 57) rfl 4 rfl ?_
        refine yy_cri (w := (ym_n (k_cov σ c key))) F S1 (c_M_isIn (key := key) X I R hc) (yy_Bc F X.1 q_938 q_3) (yy_invV (nA := 2) (C := R_M) (bytes := b_M_isIn) (maxL := 3) (retY := (some .boolean)) F X.1 q_935 q_937 qs_M_isIn q_938 ⟨by decide, by decide, by decide +kernel⟩ (yy_recv F.N X.2.1 (ci := 6) rfl hP.o) rfl d_M_find_57) d_M_find_57 (n := 60) rfl (by simp [Value.category]) ⟨by decide, by decide⟩ ⟨Nat.zero_le _, Nat.zero_le _⟩ ⟨rfl, rfl⟩ hP rfl (fun _ hSw_1 => ?_)
        cases hcv : k_cov σ c key
        · refine yy_if_eq_t (tgt := 68) F d_M_find_60 (by decide) rfl ?_
          refine yy_iconst (v := (-1)) F d_M_find_68 (n := 69) rfl rfl ?_
          exact yy_iret F hSw_1 ⟨Nat.zero_le _, Nat.zero_le _⟩ rfl d_M_find_69 (⟨_, rfl, by unfold k_at; rw [if_neg (by rw [hcv]; decide)]; rfl, rfl⟩)
        · refine yy_if_eq_f (tgt := 68) F d_M_find_60 (n := 63) rfl (by decide) (by decide) ?_
          refine yy_iload F d_M_find_63 (n := 65) rfl 0 rfl ?_
          refine yy_goto (tgt := 69) F d_M_find_65 (by decide) ?_
          exact yy_iret F hSw_1 ⟨Nat.zero_le _, Nat.zero_le _⟩ rfl d_M_find_69 (⟨_, rfl, by unfold k_at; rw [if_pos hcv, hfp]; rfl, rfl⟩)
      · refine yy_iinc (v := nI (p + 1)) (lv' := [(4, .int (nI (p + 1))), (3, .int (nI (k_bs σ c))), (0, .ref a), (1, .int (nI c)), (2, .int key)]) F d_M_find_37 (n := 40) rfl 0 rfl (nI_1 _) (by decide) rfl ?_
        refine yy_goto (tgt := 10) F d_M_find_40 (by decide) ?_
        exact yy_sub [0, 1, 2, 3, 4] rfl (ih (p + 1) _ (by omega) (fun i hi => by
          by_cases hip : i = p
          · subst hip
            exact h8
          · exact ha i (by omega)) S1)
  refine yy_aload_n F d_M_find_0 (n := 1) rfl 0 rfl ?_
  refine yy_get F X.1 X.2.1 g_M_16_M hP.o rfl d_M_find_1 (n := 4) rfl ?_
  refine yy_iload_n F d_M_find_4 (n := 5) rfl 1 rfl ?_
  refine ma_ld (j := 2) (i := c) F X hP (by decide) (show c < 10 by omega) d_M_find_5 (n' := 6) rfl ?_
  refine yy_tope (y := (nI (k_bs σ c))) (R.bs hc) ?_
  refine yy_istore_n (lv' := [(3, .int (nI (k_bs σ c))), (0, .ref a), (1, .int (nI c)), (2, .int key)]) F d_M_find_6 (n := 7) rfl (by decide) rfl ?_
  refine yy_iconst (v := 0) F d_M_find_7 (n := 8) rfl rfl ?_
  refine yy_tope (y := (nI 0)) rfl ?_
  refine yy_istore (lv' := [(4, .int (nI 0)), (3, .int (nI (k_bs σ c))), (0, .ref a), (1, .int (nI c)), (2, .int key)]) F d_M_find_8 (n := 10) rfl (by decide) rfl ?_
  exact yy_sub [0, 1, 2, 3, 4] rfl (loop _ 0 _ (Nat.zero_add _) (fun i hi => by omega) hS)
set_option maxRecDepth 100000 in
set_option maxHeartbeats 4000000 in
theorem c_M_modulo {l : Launch} {z : State} {a0 : Array Value} {D : va_G} {ca : kca} (X : kcx l z a0 D ca) {x y : Int32} (hy : ¬ y < 1) : yy_M l z y_M_modulo (.code y_M_modulo b_M_modulo 3 (some .int)) ({ frames := 0, cells := 0, slots := 0, locals := 0 }) [.int x, .int y] (fun _ => True) (yy_ri (ym_fm x y)) := by
  refine yy_body (plainFor_of_name (by decide)) (Nat.le_of_ble_eq_true rfl) (fun b H F hS hP hH hnm => ?_)
  have hy0 : ¬ y = 0 := fun h => hy (by rw [h]; decide)
  refine yy_iload_n F d_M_modulo_0 (n := 1) rfl 0 rfl ?_
  refine yy_iload_n F d_M_modulo_1 (n := 2) rfl 1 rfl ?_
  refine yy_irem F d_M_modulo_2 (n := 3) rfl hy0 ?_
  refine yy_istore_n (lv' := [(2, .int (x - x / y * y)), (0, .int x), (1, .int y)]) F d_M_modulo_3 (n := 4) rfl (by decide) rfl ?_
  refine yy_iload_n F d_M_modulo_4 (n := 5) rfl 0 rfl ?_
  refine yy_if_ge (tgt := 14) F d_M_modulo_5 (n := 8) rfl (by decide) (fun h1 => ?_) (fun h1 => ?_)
  · refine yy_iload_n F d_M_modulo_14 (n := 15) rfl 0 rfl ?_
    exact yy_iret F hS ⟨Nat.zero_le _, Nat.zero_le _⟩ rfl d_M_modulo_15 (⟨_, rfl, by rw [ym_fm_mod hy, if_neg (Int32.not_lt.mpr h1)], rfl⟩)
  · refine yy_iload_n F d_M_modulo_8 (n := 9) rfl 0 rfl ?_
    refine yy_iload_n F d_M_modulo_9 (n := 10) rfl 2 rfl ?_
    refine yy_iadd F d_M_modulo_10 (n := 11) rfl ?_
    refine yy_goto (tgt := 15) F d_M_modulo_11 (by decide) ?_
    exact yy_iret F hS ⟨Nat.zero_le _, Nat.zero_le _⟩ rfl d_M_modulo_15 (⟨_, rfl, by rw [ym_fm_mod hy, if_pos (Int32.not_le.mp h1)], rfl⟩)
set_option maxRecDepth 100000 in
set_option maxHeartbeats 4000000 in
theorem c_M_isBefore {l : Launch} {z : State} {a0 : Array Value} {D : va_G} {ca : kca} (X : kcx l z a0 D ca) {x y how : Int32} : yy_M l z y_M_isBefore (.code y_M_isBefore b_M_isBefore 3 (some .boolean)) ({ frames := 1, cells := 0, slots := 0, locals := 22 }) [.int x, .int y, .int how] (fun _ => True) (yy_ri (ym_n (ym_cb x y how))) := by
  refine yy_body (plainFor_of_name (by decide)) (Nat.le_of_ble_eq_true rfl) (fun b H F hS hP hH hnm => ?_)
  refine yy_iload_n F d_M_isBefore_0 (n := 1) rfl 2 rfl ?_
  refine yy_if_ne (tgt := 17) F d_M_isBefore_1 (n := 4) rfl (by decide) (fun h0 => ?_) (fun h0 => ?_)
  · refine yy_iload_n F d_M_isBefore_17 (n := 18) rfl 2 rfl ?_
    refine yy_iconst (v := 1) F d_M_isBefore_18 (n := 19) rfl rfl ?_
    refine yy_ic_ne (tgt := 35) F d_M_isBefore_19 (n := 22) rfl (by decide) (fun h1 => ?_) (fun h1 => ?_)
    · refine yy_iload_n F d_M_isBefore_35 (n := 36) rfl 0 rfl ?_
      refine yy_bipush (v := 10) F d_M_isBefore_36 (n := 38) rfl rfl ?_
      refine yy_cri (w := (ym_fm x 10)) F hS (c_M_modulo (x := x) (y := 10) X (by decide)) (yy_Bc F X.1 q_1001 q_3) (yy_invS (nA := 2) (bytes := b_M_modulo) (maxL := 3) (retY := (some .int)) F X.1 q_999 q_1000 q_3 q_1001 ⟨by decide, by decide, by decide +kernel⟩ rfl d_M_isBefore_38) d_M_isBefore_38 (n := 41) rfl (by simp [Value.category]) ⟨by decide, by decide⟩ ⟨Nat.zero_le _, Nat.zero_le _⟩ ⟨rfl, rfl⟩ trivial rfl (fun _ hSw_1 => ?_)
      refine yy_iload_n F d_M_isBefore_41 (n := 42) rfl 1 rfl ?_
      refine yy_bipush (v := 10) F d_M_isBefore_42 (n := 44) rfl rfl ?_
      refine yy_cri (w := (ym_fm y 10)) F hSw_1 (c_M_modulo (x := y) (y := 10) X (by decide)) (yy_Bc F X.1 q_1001 q_3) (yy_invS (nA := 2) (bytes := b_M_modulo) (maxL := 3) (retY := (some .int)) F X.1 q_999 q_1000 q_3 q_1001 ⟨by decide, by decide, by decide +kernel⟩ rfl d_M_isBefore_44) d_M_isBefore_44 (n := 47) rfl (by simp [Value.category]) ⟨by decide, by decide⟩ ⟨Nat.zero_le _, Nat.zero_le _⟩ ⟨rfl, rfl⟩ trivial rfl (fun _ hSw_2 => ?_)
      refine yy_ic_ge (tgt := 54) F d_M_isBefore_47 (n := 50) rfl (by decide) (fun h2 => ?_) (fun h2 => ?_)
      · refine yy_iconst (v := 0) F d_M_isBefore_54 (n := 55) rfl rfl ?_
        exact yy_zret F hSw_2 ⟨Nat.zero_le _, Nat.zero_le _⟩ rfl rfl d_M_isBefore_55 (⟨_, rfl, (ym_nf (by unfold ym_cb; rw [if_neg h0, if_neg h1]; exact decide_eq_false (Int32.not_lt.mpr h2))).symm, rfl⟩)
      · refine yy_iconst (v := 1) F d_M_isBefore_50 (n := 51) rfl rfl ?_
        refine yy_goto (tgt := 55) F d_M_isBefore_51 (by decide) ?_
        exact yy_zret F hSw_2 ⟨Nat.zero_le _, Nat.zero_le _⟩ rfl rfl d_M_isBefore_55 (⟨_, rfl, (ym_nt (by unfold ym_cb; rw [if_neg h0, if_neg h1]; exact decide_eq_true (Int32.not_le.mp h2))).symm, rfl⟩)
    · refine yy_iload_n F d_M_isBefore_22 (n := 23) rfl 0 rfl ?_
      refine yy_iload_n F d_M_isBefore_23 (n := 24) rfl 1 rfl ?_
      refine yy_ic_le (tgt := 31) F d_M_isBefore_24 (n := 27) rfl (by decide) (fun h2 => ?_) (fun h2 => ?_)
      · refine yy_iconst (v := 0) F d_M_isBefore_31 (n := 32) rfl rfl ?_
        refine yy_goto (tgt := 55) F d_M_isBefore_32 (by decide) ?_
        exact yy_zret F hS ⟨Nat.zero_le _, Nat.zero_le _⟩ rfl rfl d_M_isBefore_55 (⟨_, rfl, (ym_nf (by unfold ym_cb; rw [if_neg h0, if_pos h1]; exact decide_eq_false (Int32.not_lt.mpr h2))).symm, rfl⟩)
      · refine yy_iconst (v := 1) F d_M_isBefore_27 (n := 28) rfl rfl ?_
        refine yy_goto (tgt := 55) F d_M_isBefore_28 (by decide) ?_
        exact yy_zret F hS ⟨Nat.zero_le _, Nat.zero_le _⟩ rfl rfl d_M_isBefore_55 (⟨_, rfl, (ym_nt (by unfold ym_cb; rw [if_neg h0, if_pos h1]; exact decide_eq_true (Int32.not_le.mp h2))).symm, rfl⟩)
  · refine yy_iload_n F d_M_isBefore_4 (n := 5) rfl 0 rfl ?_
    refine yy_iload_n F d_M_isBefore_5 (n := 6) rfl 1 rfl ?_
    refine yy_ic_ge (tgt := 13) F d_M_isBefore_6 (n := 9) rfl (by decide) (fun h2 => ?_) (fun h2 => ?_)
    · refine yy_iconst (v := 0) F d_M_isBefore_13 (n := 14) rfl rfl ?_
      refine yy_goto (tgt := 55) F d_M_isBefore_14 (by decide) ?_
      exact yy_zret F hS ⟨Nat.zero_le _, Nat.zero_le _⟩ rfl rfl d_M_isBefore_55 (⟨_, rfl, (ym_nf (by unfold ym_cb; rw [if_pos h0]; exact decide_eq_false (Int32.not_lt.mpr h2))).symm, rfl⟩)
    · refine yy_iconst (v := 1) F d_M_isBefore_9 (n := 10) rfl rfl ?_
      refine yy_goto (tgt := 55) F d_M_isBefore_10 (by decide) ?_
      exact yy_zret F hS ⟨Nat.zero_le _, Nat.zero_le _⟩ rfl rfl d_M_isBefore_55 (⟨_, rfl, (ym_nt (by unfold ym_cb; rw [if_pos h0]; exact decide_eq_true (Int32.not_le.mp h2))).symm, rfl⟩)
def m_fit (k key how : Int32) : Bool := if how = 0 then decide (k < key) else if how = 1 then decide (k ≤ key) else if how = 2 then decide (key ≤ k) else decide (key < k)
def m_spr (x : Int32) : Int32 := x ^^^ (x.toUInt32 >>> ((16 : Int32).toUInt32 &&& Int32.toUInt32 31)).toInt32
set_option maxRecDepth 100000 in
set_option maxHeartbeats 4000000 in
theorem c_M_fits {l : Launch} {z : State} {a0 : Array Value} {D : va_G} {ca : kca} (X : kcx l z a0 D ca) {x y how : Int32} : yy_M l z y_M_fits (.code y_M_fits b_M_fits 3 (some .boolean)) ({ frames := 0, cells := 0, slots := 0, locals := 0 }) [.int x, .int y, .int how] (fun _ => True) (yy_ri (ym_n (m_fit x y how))) := by
  refine yy_body (plainFor_of_name (by decide)) (Nat.le_of_ble_eq_true rfl) (fun b H F hS hP hH hnm => ?_)
  refine yy_iload_n F d_M_fits_0 (n := 1) rfl 2 rfl ?_
  refine yy_if_ne (tgt := 17) F d_M_fits_1 (n := 4) rfl (by decide) (fun hb_1 => ?_) (fun hb_1 => ?_)
  · refine yy_iload_n F d_M_fits_17 (n := 18) rfl 2 rfl ?_
    refine yy_iconst (v := 1) F d_M_fits_18 (n := 19) rfl rfl ?_
    refine yy_ic_ne (tgt := 35) F d_M_fits_19 (n := 22) rfl (by decide) (fun hb_2 => ?_) (fun hb_2 => ?_)
    · refine yy_iload_n F d_M_fits_35 (n := 36) rfl 2 rfl ?_
      refine yy_iconst (v := 2) F d_M_fits_36 (n := 37) rfl rfl ?_
      refine yy_ic_ne (tgt := 53) F d_M_fits_37 (n := 40) rfl (by decide) (fun hb_3 => ?_) (fun hb_3 => ?_)
      · refine yy_iload_n F d_M_fits_53 (n := 54) rfl 0 rfl ?_
        refine yy_iload_n F d_M_fits_54 (n := 55) rfl 1 rfl ?_
        refine yy_ic_le (tgt := 62) F d_M_fits_55 (n := 58) rfl (by decide) (fun hb_4 => ?_) (fun hb_4 => ?_)
        · refine yy_iconst (v := 0) F d_M_fits_62 (n := 63) rfl rfl ?_
          exact yy_zret F hS ⟨Nat.zero_le _, Nat.zero_le _⟩ rfl rfl d_M_fits_63 (⟨_, rfl, by unfold m_fit; simp [ym_n, hb_1, hb_2, hb_3, hb_4, Int32.not_lt, Int32.not_le] <;> simp_all [Int32.not_lt, Int32.not_le], rfl⟩)
        · refine yy_iconst (v := 1) F d_M_fits_58 (n := 59) rfl rfl ?_
          refine yy_goto (tgt := 63) F d_M_fits_59 (by decide) ?_
          exact yy_zret F hS ⟨Nat.zero_le _, Nat.zero_le _⟩ rfl rfl d_M_fits_63 (⟨_, rfl, by unfold m_fit; simp [ym_n, hb_1, hb_2, hb_3, hb_4, Int32.not_lt, Int32.not_le] <;> simp_all [Int32.not_lt, Int32.not_le], rfl⟩)
      · refine yy_iload_n F d_M_fits_40 (n := 41) rfl 0 rfl ?_
        refine yy_iload_n F d_M_fits_41 (n := 42) rfl 1 rfl ?_
        refine yy_ic_lt (tgt := 49) F d_M_fits_42 (n := 45) rfl (by decide) (fun hb_5 => ?_) (fun hb_5 => ?_)
        · refine yy_iconst (v := 0) F d_M_fits_49 (n := 50) rfl rfl ?_
          refine yy_goto (tgt := 63) F d_M_fits_50 (by decide) ?_
          exact yy_zret F hS ⟨Nat.zero_le _, Nat.zero_le _⟩ rfl rfl d_M_fits_63 (⟨_, rfl, by unfold m_fit; simp [ym_n, hb_1, hb_2, hb_3, hb_5, Int32.not_lt, Int32.not_le] <;> simp_all [Int32.not_lt, Int32.not_le], rfl⟩)
        · refine yy_iconst (v := 1) F d_M_fits_45 (n := 46) rfl rfl ?_
          refine yy_goto (tgt := 63) F d_M_fits_46 (by decide) ?_
          exact yy_zret F hS ⟨Nat.zero_le _, Nat.zero_le _⟩ rfl rfl d_M_fits_63 (⟨_, rfl, by unfold m_fit; simp [ym_n, hb_1, hb_2, hb_3, hb_5, Int32.not_lt, Int32.not_le] <;> simp_all [Int32.not_lt, Int32.not_le], rfl⟩)
    · refine yy_iload_n F d_M_fits_22 (n := 23) rfl 0 rfl ?_
      refine yy_iload_n F d_M_fits_23 (n := 24) rfl 1 rfl ?_
      refine yy_ic_gt (tgt := 31) F d_M_fits_24 (n := 27) rfl (by decide) (fun hb_6 => ?_) (fun hb_6 => ?_)
      · refine yy_iconst (v := 0) F d_M_fits_31 (n := 32) rfl rfl ?_
        refine yy_goto (tgt := 63) F d_M_fits_32 (by decide) ?_
        exact yy_zret F hS ⟨Nat.zero_le _, Nat.zero_le _⟩ rfl rfl d_M_fits_63 (⟨_, rfl, by unfold m_fit; simp [ym_n, hb_1, hb_2, hb_6, Int32.not_lt, Int32.not_le] <;> simp_all [Int32.not_lt, Int32.not_le], rfl⟩)
      · refine yy_iconst (v := 1) F d_M_fits_27 (n := 28) rfl rfl ?_
        refine yy_goto (tgt := 63) F d_M_fits_28 (by decide) ?_
        exact yy_zret F hS ⟨Nat.zero_le _, Nat.zero_le _⟩ rfl rfl d_M_fits_63 (⟨_, rfl, by unfold m_fit; simp [ym_n, hb_1, hb_2, hb_6, Int32.not_lt, Int32.not_le] <;> simp_all [Int32.not_lt, Int32.not_le], rfl⟩)
  · refine yy_iload_n F d_M_fits_4 (n := 5) rfl 0 rfl ?_
    refine yy_iload_n F d_M_fits_5 (n := 6) rfl 1 rfl ?_
    refine yy_ic_ge (tgt := 13) F d_M_fits_6 (n := 9) rfl (by decide) (fun hb_7 => ?_) (fun hb_7 => ?_)
    · refine yy_iconst (v := 0) F d_M_fits_13 (n := 14) rfl rfl ?_
      refine yy_goto (tgt := 63) F d_M_fits_14 (by decide) ?_
      exact yy_zret F hS ⟨Nat.zero_le _, Nat.zero_le _⟩ rfl rfl d_M_fits_63 (⟨_, rfl, by unfold m_fit; simp [ym_n, hb_1, hb_7, Int32.not_lt, Int32.not_le] <;> simp_all [Int32.not_lt, Int32.not_le], rfl⟩)
    · refine yy_iconst (v := 1) F d_M_fits_9 (n := 10) rfl rfl ?_
      refine yy_goto (tgt := 63) F d_M_fits_10 (by decide) ?_
      exact yy_zret F hS ⟨Nat.zero_le _, Nat.zero_le _⟩ rfl rfl d_M_fits_63 (⟨_, rfl, by unfold m_fit; simp [ym_n, hb_1, hb_7, Int32.not_lt, Int32.not_le] <;> simp_all [Int32.not_lt, Int32.not_le], rfl⟩)
set_option maxRecDepth 100000 in
set_option maxHeartbeats 4000000 in
theorem c_M_spread {l : Launch} {z : State} {a0 : Array Value} {D : va_G} {ca : kca} (X : kcx l z a0 D ca) {x : Int32} : yy_M l z y_M_spread (.code y_M_spread b_M_spread 1 (some .int)) ({ frames := 0, cells := 0, slots := 0, locals := 0 }) [.int x] (fun _ => True) (yy_ri (m_spr x)) := by
  refine yy_body (plainFor_of_name (by decide)) (Nat.le_of_ble_eq_true rfl) (fun b H F hS hP hH hnm => ?_)
  refine yy_iload_n F d_M_spread_0 (n := 1) rfl 0 rfl ?_
  refine yy_iload_n F d_M_spread_1 (n := 2) rfl 0 rfl ?_
  refine yy_bipush (v := 16) F d_M_spread_2 (n := 4) rfl rfl ?_
  refine yy_iushr F d_M_spread_4 (n := 5) rfl rfl ?_
  refine yy_ixor F d_M_spread_5 (n := 6) rfl ?_
  exact yy_iret F hS ⟨Nat.zero_le _, Nat.zero_le _⟩ rfl d_M_spread_6 (⟨_, rfl, rfl, rfl⟩)
def m_ck (σ : ks) (x : Int32) : Int32 := if ch_wk σ x = none then (if k_lost σ (cN x) (k_ov σ (cN x)) = true then 3 else if (k_W σ (cN x)).2.2.1 = -1 then 2 else 0) else 1
set_option maxRecDepth 100000 in
set_option maxHeartbeats 4000000 in
theorem c_M_checkLatest {l : Launch} {z : State} {a0 : Array Value} {D : va_G} {ca : kca} (X : kcx l z a0 D ca) {a n : Nat} {cd : Int32} {s : ms} {σ : ks} {t : Nat} (I : iv t σ) (R : mr s σ) {x : Int32} : yy_M l z y_M_checkLatest (.code y_M_checkLatest b_M_checkLatest 2 (some .int)) ({ frames := 2, cells := 0, slots := 0, locals := 44 }) [.ref a, .int x] (mo_at D ca z a n cd s) (yy_ri (m_ck σ x)) := by
  refine yy_body (plainFor_of_name (by decide)) (Nat.le_of_ble_eq_true rfl) (fun b H F hS hP hH hnm => ?_)
  have h10 := I.m10
  refine yy_aload_n F d_M_checkLatest_0 (n := 1) rfl 0 rfl ?_
  refine yy_iload_n F d_M_checkLatest_1 (n := 2) rfl 1 rfl ?_
  refine yy_cri (w := (ym_n (decide (ch_wk σ x = none)))) F hS (c_M_isOpen (x := x) X I R) (yy_Bc F X.1 q_1091 q_3) (yy_invV (nA := 1) (C := R_M) (bytes := b_M_isOpen) (maxL := 2) (retY := (some .boolean)) F X.1 q_1088 q_1090 qs_M_isOpen q_1091 ⟨by decide, by decide, by decide +kernel⟩ (yy_recv F.N X.2.1 (ci := 6) rfl hP.o) rfl d_M_checkLatest_2) d_M_checkLatest_2 (n := 5) rfl (by simp [Value.category]) ⟨by decide, by decide⟩ ⟨Nat.zero_le _, Nat.zero_le _⟩ ⟨rfl, rfl⟩ hP rfl (fun _ hSw_1 => ?_)
  cases hop : decide (ch_wk σ x = none)
  · refine yy_if_ne_f (tgt := 12) F d_M_checkLatest_5 (n := 8) rfl (by decide) rfl ?_
    have hE := of_decide_eq_false hop
    refine yy_iconst (v := 1) F d_M_checkLatest_8 (n := 9) rfl rfl ?_
    refine yy_goto (tgt := 39) F d_M_checkLatest_9 (by decide) ?_
    exact yy_iret F hSw_1 ⟨Nat.zero_le _, Nat.zero_le _⟩ rfl d_M_checkLatest_39 (⟨_, rfl, by unfold m_ck; rw [if_neg hE], rfl⟩)
  · refine yy_if_ne_t (tgt := 12) F d_M_checkLatest_5 (by decide) (by decide) ?_
    have hE := of_decide_eq_true hop
    obtain ⟨hi, ex, hov, hc⟩ := ch_wk_none I hE
    have hb := I.bs hc
    have h24 := I.ct hc
    rw [show (Value.int x) = Value.int (nI (cN x)) from congrArg Value.int ex]
    refine yy_aload_n F d_M_checkLatest_12 (n := 13) rfl 0 rfl ?_
    refine yy_iload_n F d_M_checkLatest_13 (n := 14) rfl 1 rfl ?_
    refine yy_cri (w := (ym_n (k_lost σ (cN x) (k_ov σ (cN x))))) F hSw_1 (c_M_isLost X I R hi hov) (yy_Bc F X.1 q_1095 q_3) (yy_invV (nA := 1) (C := R_M) (bytes := b_M_isLost) (maxL := 2) (retY := (some .boolean)) F X.1 q_1092 q_1094 qs_M_isLost q_1095 ⟨by decide, by decide, by decide +kernel⟩ (yy_recv F.N X.2.1 (ci := 6) rfl hP.o) rfl d_M_checkLatest_14) d_M_checkLatest_14 (n := 17) rfl (by simp [Value.category]) ⟨by decide, by decide⟩ ⟨Nat.zero_le _, Nat.zero_le _⟩ ⟨rfl, rfl⟩ hP rfl (fun _ hSw_2 => ?_)
    cases hl : k_lost σ (cN x) (k_ov σ (cN x))
    · refine yy_if_eq_t (tgt := 24) F d_M_checkLatest_17 (by decide) rfl ?_
      refine yy_aload_n F d_M_checkLatest_24 (n := 25) rfl 0 rfl ?_
      refine yy_get F X.1 X.2.1 g_M_49_M hP.o rfl d_M_checkLatest_25 (n := 28) rfl ?_
      refine yy_iload_n F d_M_checkLatest_28 (n := 29) rfl 1 rfl ?_
      refine ma_ld (j := 13) (i := (cN x)) F X hP (by decide) (show cN x < 4 by omega) d_M_checkLatest_29 (n' := 30) rfl ?_
      refine yy_tope (y := ((k_W σ (cN x)).2.2.1)) ((R.w1 hi hov).2.2.1) ?_
      refine yy_iconst (v := (-1)) F d_M_checkLatest_30 (n := 31) rfl rfl ?_
      refine yy_ic_ne (tgt := 38) F d_M_checkLatest_31 (n := 34) rfl (by decide) (fun h1 => ?_) (fun h1 => ?_)
      · refine yy_iconst (v := 0) F d_M_checkLatest_38 (n := 39) rfl rfl ?_
        exact yy_iret F hSw_2 ⟨Nat.zero_le _, Nat.zero_le _⟩ rfl d_M_checkLatest_39 (⟨_, rfl, by unfold m_ck; rw [if_pos hE, hl, if_neg h1]; rfl, rfl⟩)
      · refine yy_iconst (v := 2) F d_M_checkLatest_34 (n := 35) rfl rfl ?_
        refine yy_goto (tgt := 39) F d_M_checkLatest_35 (by decide) ?_
        exact yy_iret F hSw_2 ⟨Nat.zero_le _, Nat.zero_le _⟩ rfl d_M_checkLatest_39 (⟨_, rfl, by unfold m_ck; rw [if_pos hE, hl, if_pos h1]; rfl, rfl⟩)
    · refine yy_if_eq_f (tgt := 24) F d_M_checkLatest_17 (n := 20) rfl (by decide) (by decide) ?_
      refine yy_iconst (v := 3) F d_M_checkLatest_20 (n := 21) rfl rfl ?_
      refine yy_goto (tgt := 39) F d_M_checkLatest_21 (by decide) ?_
      exact yy_iret F hSw_2 ⟨Nat.zero_le _, Nat.zero_le _⟩ rfl d_M_checkLatest_39 (⟨_, rfl, by unfold m_ck; rw [if_pos hE, hl]; rfl, rfl⟩)
