/-! PART L3: the law's loop, its start, and the claim -/
theorem l_in.mono {D : va_G} {ca : kca} {z : State} {K a n ou : Nat} {A : kA} {σ : ks} {t t1 : Nat} {s : ms} {cd : Int32} {g : Nat → Int64} {H : Heap} (Z : l_in D ca z K a n ou A σ t s cd g H) (h : t ≤ t1) (h1 : t1 ≤ 100000) : l_in D ca z K a n ou A σ t1 s cd g H := ⟨Z.1.mono h h1, Z.2⟩
theorem l_gt {L i : Nat} (hL : L ≤ 2048) (hi : i ≤ 4096) : Int32.ofNat L - 4 < nI i ↔ L < i + 4 := by
  have e : (Int32.ofNat L - 4).toInt = (L : Int) - 4 := by
    rw [Int32.toInt_sub, show (Int32.ofNat L).toInt = (L : Int) from nI_toInt (by omega), show (4 : Int32).toInt = 4 from rfl]
    exact Int.bmod_eq_of_le (by omega) (by omega)
  rw [Int32.lt_iff_toInt_lt, e, nI_toInt (by omega)]
  omega
set_option maxRecDepth 100000 in
set_option maxHeartbeats 4000000 in
theorem l_loop {b : yy_T} {l : Launch} {z : State} {a0 : Array Value} {D : va_G} {ca : kca} (X : kcx l z a0 D ca) (F : yy_A l z b room_1 code 7 R_L (some .boolean) [] (fun r _ => r = .inl (some (.int 1)))) {sc L : Nat} {xs : Nat → Int32} (hX : va_X sc L xs z z.heap) (hsc : sc < z.heap.size) (hL : L ≤ 2048) {K a n ou : Nat} : ∀ (d i t : Nat) (A : kA) (σ : ks) (s : ms) (cd : Int32) (g : Nat → Int64) (H : Heap) (locs : List Loc) (k : Nat × Nat), L ≤ i + 4 * d + 3 → i ≤ 2048 → d ≤ 512 → t + 25 * d ≤ 20000 → k.1 + 4 * d ≤ 10000 → k.2 + 56 * d ≤ 100000 → l_in D ca z K a n ou A σ t s cd g H → yy_S z H locs → yy_Y b H locs k 23 [(4, .int (nI i)), (3, .ref ou), (2, .ref a), (1, .ref K), (0, .ref sc)] [] := by
  intro d
  induction d with
  | zero =>
    intro i t A σ s cd g H locs k hd hi2 hd5 ht hk1 hk2 Z hS
    refine yy_iload F d_L_law_23 (n := 25) rfl 0 rfl ?_
    refine yy_aload_n F d_L_law_25 (n := 26) rfl 4 rfl ?_
    refine yy_slen F hX hsc hS d_L_law_26 (n := 27) rfl ?_
    refine yy_iconst (v := 4) F d_L_law_27 (n := 28) rfl rfl ?_
    refine yy_isub F d_L_law_28 (n := 29) rfl ?_
    refine yy_ic_gt_t (tgt := 1807) F d_L_law_29 (by decide) ((l_gt hL (by omega)).mpr (by omega)) ?_
    refine yy_iconst (v := 1) F d_L_law_1807 (n := 1808) rfl rfl ?_
    exact yy_zret F hS ⟨show k.1 ≤ 601024 by omega, show k.2 ≤ 7293034 by omega⟩ rfl rfl d_L_law_1808 rfl
  | succ d ih =>
    intro i t A σ s cd g H locs k hd hi2 hd5 ht hk1 hk2 Z hS
    refine yy_iload F d_L_law_23 (n := 25) rfl 0 rfl ?_
    refine yy_aload_n F d_L_law_25 (n := 26) rfl 4 rfl ?_
    refine yy_slen F hX hsc hS d_L_law_26 (n := 27) rfl ?_
    refine yy_iconst (v := 4) F d_L_law_27 (n := 28) rfl rfl ?_
    refine yy_isub F d_L_law_28 (n := 29) rfl ?_
    refine yy_ic_gt (tgt := 1807) F d_L_law_29 (n := 32) rfl (by decide) (fun hx => ?_) (fun hx => ?_)
    · refine yy_iconst (v := 1) F d_L_law_1807 (n := 1808) rfl rfl ?_
      exact yy_zret F hS ⟨show k.1 ≤ 601024 by omega, show k.2 ≤ 7293034 by omega⟩ rfl rfl d_L_law_1808 rfl
    · have hx2 : i + 4 ≤ L := by
        have h9 := mt (l_gt hL (show i ≤ 4096 by omega)).mpr hx
        omega
      have again : ∀ (A1 : kA) (σ1 : ks) (s1 : ms) (cd1 : Int32) (g1 : Nat → Int64) (H1 : Heap) (locs1 : List Loc) (k1 : Nat × Nat), l_in D ca z K a n ou A1 σ1 (t + 25) s1 cd1 g1 H1 → yy_S z H1 locs1 → k1.1 ≤ k.1 + 4 → k1.2 ≤ k.2 + 56 → yy_Y b H1 locs1 k1 1801 [(4, .int (nI i)), (3, .ref ou), (2, .ref a), (1, .ref K), (0, .ref sc)] [] := by
        intro A1 σ1 s1 cd1 g1 H1 locs1 k1 Z1 S1 q1 q2
        refine yy_iinc (v := nI (i + 4)) (lv' := [(4, .int (nI (i + 4))), (3, .ref ou), (2, .ref a), (1, .ref K), (0, .ref sc)]) F d_L_law_1801 (n := 1804) rfl 0 rfl (nI_add i 4) (by decide) rfl ?_
        refine yy_goto (tgt := 23) F d_L_law_1804 (by decide) ?_
        exact ih (i + 4) (t + 25) A1 σ1 s1 cd1 g1 H1 locs1 k1 (by omega) (by omega) (by omega) (by omega) (by omega) (by omega) Z1 S1
      refine yy_aload_n F d_L_law_32 (n := 33) rfl 4 rfl ?_
      refine yy_iload F d_L_law_33 (n := 35) rfl 0 rfl ?_
      refine yy_sld F hX hsc hS (vp_in_nI (n := i) (by omega) (by omega)) d_L_law_35 (n := 36) rfl ?_
      refine yy_tope (y := (xs i)) (nI_xld (by omega) hL) ?_
      refine yy_bipush (v := 31) F d_L_law_36 (n := 38) rfl rfl ?_
      refine yy_iand F d_L_law_38 (n := 39) rfl ?_
      by_cases h0 : (xs i) &&& 31 = 0
      · rw [h0]
        exact yy_tabI F d_L_law_39 (off := 113) (tgt := 152) (by decide) (by decide) rfl (by decide) (cs_create X F hX hsc hx2 hL Z (by omega) hS ⟨show k.1 + 4 ≤ 601024 by omega, show k.2 + 56 ≤ 7293034 by omega⟩ ⟨by decide, by decide⟩ again)
      by_cases h1 : (xs i) &&& 31 = 1
      · rw [h1]
        exact yy_tabI F d_L_law_39 (off := 169) (tgt := 208) (by decide) (by decide) rfl (by decide) (cs_view X F hX hsc hx2 hL Z (by omega) hS ⟨show k.1 + 4 ≤ 601024 by omega, show k.2 + 56 ≤ 7293034 by omega⟩ ⟨by decide, by decide⟩ again)
      by_cases h2 : (xs i) &&& 31 = 2
      · rw [h2]
        exact yy_tabI F d_L_law_39 (off := 249) (tgt := 288) (by decide) (by decide) rfl (by decide) (cs_kind X F hX hsc hx2 hL Z (by omega) hS ⟨show k.1 + 4 ≤ 601024 by omega, show k.2 + 56 ≤ 7293034 by omega⟩ ⟨by decide, by decide⟩ again)
      by_cases h3 : (xs i) &&& 31 = 3
      · rw [h3]
        exact yy_tabI F d_L_law_39 (off := 305) (tgt := 344) (by decide) (by decide) rfl (by decide) (cs_size X F hX hsc hx2 hL Z (by omega) hS ⟨show k.1 + 4 ≤ 601024 by omega, show k.2 + 56 ≤ 7293034 by omega⟩ ⟨by decide, by decide⟩ again)
      by_cases h4 : (xs i) &&& 31 = 4
      · rw [h4]
        exact yy_tabI F d_L_law_39 (off := 361) (tgt := 400) (by decide) (by decide) rfl (by decide) (cs_get X F hX hsc hx2 hL Z (by omega) hS ⟨show k.1 + 4 ≤ 601024 by omega, show k.2 + 56 ≤ 7293034 by omega⟩ ⟨by decide, by decide⟩ again)
      by_cases h5 : (xs i) &&& 31 = 5
      · rw [h5]
        exact yy_tabI F d_L_law_39 (off := 429) (tgt := 468) (by decide) (by decide) rfl (by decide) (cs_set X F hX hsc hx2 hL Z (by omega) hS ⟨show k.1 + 4 ≤ 601024 by omega, show k.2 + 56 ≤ 7293034 by omega⟩ ⟨by decide, by decide⟩ again)
      by_cases h6 : (xs i) &&& 31 = 6
      · rw [h6]
        exact yy_tabI F d_L_law_39 (off := 509) (tgt := 548) (by decide) (by decide) rfl (by decide) (cs_insert X F hX hsc hx2 hL Z (by omega) hS ⟨show k.1 + 4 ≤ 601024 by omega, show k.2 + 56 ≤ 7293034 by omega⟩ ⟨by decide, by decide⟩ again)
      by_cases h7 : (xs i) &&& 31 = 7
      · rw [h7]
        exact yy_tabI F d_L_law_39 (off := 569) (tgt := 608) (by decide) (by decide) rfl (by decide) (cs_remove X F hX hsc hx2 hL Z (by omega) hS ⟨show k.1 + 4 ≤ 601024 by omega, show k.2 + 56 ≤ 7293034 by omega⟩ ⟨by decide, by decide⟩ again)
      by_cases h8 : (xs i) &&& 31 = 8
      · rw [h8]
        exact yy_tabI F d_L_law_39 (off := 637) (tgt := 676) (by decide) (by decide) rfl (by decide) (cs_sort X F hX hsc hx2 hL Z (by omega) hS ⟨show k.1 + 4 ≤ 601024 by omega, show k.2 + 56 ≤ 7293034 by omega⟩ ⟨by decide, by decide⟩ again)
      by_cases h9 : (xs i) &&& 31 = 9
      · rw [h9]
        exact yy_tabI F d_L_law_39 (off := 685) (tgt := 724) (by decide) (by decide) rfl (by decide) (cs_put X F hX hsc hx2 hL Z (by omega) hS ⟨show k.1 + 4 ≤ 601024 by omega, show k.2 + 56 ≤ 7293034 by omega⟩ ⟨by decide, by decide⟩ again)
      by_cases h10 : (xs i) &&& 31 = 10
      · rw [h10]
        exact yy_tabI F d_L_law_39 (off := 772) (tgt := 811) (by decide) (by decide) rfl (by decide) (cs_merge X F hX hsc hx2 hL Z (by omega) hS ⟨show k.1 + 4 ≤ 601024 by omega, show k.2 + 56 ≤ 7293034 by omega⟩ ⟨by decide, by decide⟩ again)
      by_cases h11 : (xs i) &&& 31 = 11
      · rw [h11]
        exact yy_tabI F d_L_law_39 (off := 852) (tgt := 891) (by decide) (by decide) rfl (by decide) (cs_has X F hX hsc hx2 hL Z (by omega) hS ⟨show k.1 + 4 ≤ 601024 by omega, show k.2 + 56 ≤ 7293034 by omega⟩ ⟨by decide, by decide⟩ again)
      by_cases h12 : (xs i) &&& 31 = 12
      · rw [h12]
        exact yy_tabI F d_L_law_39 (off := 927) (tgt := 966) (by decide) (by decide) rfl (by decide) (cs_value X F hX hsc hx2 hL Z (by omega) hS ⟨show k.1 + 4 ≤ 601024 by omega, show k.2 + 56 ≤ 7293034 by omega⟩ ⟨by decide, by decide⟩ again)
      by_cases h13 : (xs i) &&& 31 = 13
      · rw [h13]
        exact yy_tabI F d_L_law_39 (off := 995) (tgt := 1034) (by decide) (by decide) rfl (by decide) (cs_drop X F hX hsc hx2 hL Z (by omega) hS ⟨show k.1 + 4 ≤ 601024 by omega, show k.2 + 56 ≤ 7293034 by omega⟩ ⟨by decide, by decide⟩ again)
      by_cases h14 : (xs i) &&& 31 = 14
      · rw [h14]
        exact yy_tabI F d_L_law_39 (off := 1063) (tgt := 1102) (by decide) (by decide) rfl (by decide) (cs_near X F hX hsc hx2 hL Z (by omega) hS ⟨show k.1 + 4 ≤ 601024 by omega, show k.2 + 56 ≤ 7293034 by omega⟩ ⟨by decide, by decide⟩ again)
      by_cases h15 : (xs i) &&& 31 = 15
      · rw [h15]
        exact yy_tabI F d_L_law_39 (off := 1143) (tgt := 1182) (by decide) (by decide) rfl (by decide) (cs_room X F hX hsc hx2 hL Z (by omega) hS ⟨show k.1 + 4 ≤ 601024 by omega, show k.2 + 56 ≤ 7293034 by omega⟩ ⟨by decide, by decide⟩ again)
      by_cases h16 : (xs i) &&& 31 = 16
      · rw [h16]
        exact yy_tabI F d_L_law_39 (off := 1199) (tgt := 1238) (by decide) (by decide) rfl (by decide) (cs_bucket X F hX hsc hx2 hL Z (by omega) hS ⟨show k.1 + 4 ≤ 601024 by omega, show k.2 + 56 ≤ 7293034 by omega⟩ ⟨by decide, by decide⟩ again)
      by_cases h17 : (xs i) &&& 31 = 17
      · rw [h17]
        exact yy_tabI F d_L_law_39 (off := 1267) (tgt := 1306) (by decide) (by decide) rfl (by decide) (cs_sift X F hX hsc hx2 hL Z (by omega) hS ⟨show k.1 + 4 ≤ 601024 by omega, show k.2 + 56 ≤ 7293034 by omega⟩ ⟨by decide, by decide⟩ again)
      by_cases h18 : (xs i) &&& 31 = 18
      · rw [h18]
        exact yy_tabI F d_L_law_39 (off := 1347) (tgt := 1386) (by decide) (by decide) rfl (by decide) (cs_same X F hX hsc hx2 hL Z (by omega) hS ⟨show k.1 + 4 ≤ 601024 by omega, show k.2 + 56 ≤ 7293034 by omega⟩ ⟨by decide, by decide⟩ again)
      by_cases h19 : (xs i) &&& 31 = 19
      · rw [h19]
        exact yy_tabI F d_L_law_39 (off := 1422) (tgt := 1461) (by decide) (by decide) rfl (by decide) (cs_open X F hX hsc hx2 hL Z (by omega) hS ⟨show k.1 + 4 ≤ 601024 by omega, show k.2 + 56 ≤ 7293034 by omega⟩ ⟨by decide, by decide⟩ again)
      by_cases h20 : (xs i) &&& 31 = 20
      · rw [h20]
        exact yy_tabI F d_L_law_39 (off := 1470) (tgt := 1509) (by decide) (by decide) rfl (by decide) (cs_next X F hX hsc hx2 hL Z (by omega) hS ⟨show k.1 + 4 ≤ 601024 by omega, show k.2 + 56 ≤ 7293034 by omega⟩ ⟨by decide, by decide⟩ again)
      by_cases h21 : (xs i) &&& 31 = 21
      · rw [h21]
        exact yy_tabI F d_L_law_39 (off := 1554) (tgt := 1593) (by decide) (by decide) rfl (by decide) (cs_left X F hX hsc hx2 hL Z (by omega) hS ⟨show k.1 + 4 ≤ 601024 by omega, show k.2 + 56 ≤ 7293034 by omega⟩ ⟨by decide, by decide⟩ again)
      by_cases h22 : (xs i) &&& 31 = 22
      · rw [h22]
        exact yy_tabI F d_L_law_39 (off := 1610) (tgt := 1649) (by decide) (by decide) rfl (by decide) (cs_erase X F hX hsc hx2 hL Z (by omega) hS ⟨show k.1 + 4 ≤ 601024 by omega, show k.2 + 56 ≤ 7293034 by omega⟩ ⟨by decide, by decide⟩ again)
      by_cases h23 : (xs i) &&& 31 = 23
      · rw [h23]
        exact yy_tabI F d_L_law_39 (off := 1646) (tgt := 1685) (by decide) (by decide) rfl (by decide) (cs_assign X F hX hsc hx2 hL Z (by omega) hS ⟨show k.1 + 4 ≤ 601024 by omega, show k.2 + 56 ≤ 7293034 by omega⟩ ⟨by decide, by decide⟩ again)
      by_cases h24 : (xs i) &&& 31 = 24
      · rw [h24]
        exact yy_tabI F d_L_law_39 (off := 1714) (tgt := 1753) (by decide) (by decide) rfl (by decide) (cs_plant X F hX hsc hx2 hL Z (by omega) hS ⟨show k.1 + 4 ≤ 601024 by omega, show k.2 + 56 ≤ 7293034 by omega⟩ ⟨by decide, by decide⟩ again)
      have e0 := lv_neT (a := 0) h0 rfl
      have e1 := lv_neT (a := 1) h1 rfl
      have e2 := lv_neT (a := 2) h2 rfl
      have e3 := lv_neT (a := 3) h3 rfl
      have e4 := lv_neT (a := 4) h4 rfl
      have e5 := lv_neT (a := 5) h5 rfl
      have e6 := lv_neT (a := 6) h6 rfl
      have e7 := lv_neT (a := 7) h7 rfl
      have e8 := lv_neT (a := 8) h8 rfl
      have e9 := lv_neT (a := 9) h9 rfl
      have e10 := lv_neT (a := 10) h10 rfl
      have e11 := lv_neT (a := 11) h11 rfl
      have e12 := lv_neT (a := 12) h12 rfl
      have e13 := lv_neT (a := 13) h13 rfl
      have e14 := lv_neT (a := 14) h14 rfl
      have e15 := lv_neT (a := 15) h15 rfl
      have e16 := lv_neT (a := 16) h16 rfl
      have e17 := lv_neT (a := 17) h17 rfl
      have e18 := lv_neT (a := 18) h18 rfl
      have e19 := lv_neT (a := 19) h19 rfl
      have e20 := lv_neT (a := 20) h20 rfl
      have e21 := lv_neT (a := 21) h21 rfl
      have e22 := lv_neT (a := 22) h22 rfl
      have e23 := lv_neT (a := 23) h23 rfl
      have e24 := lv_neT (a := 24) h24 rfl
      exact yy_tabO F d_L_law_39 (tgt := 1801) (by omega) (by decide) (again A σ s cd g H locs k (Z.mono (by omega) (by omega)) hS (by omega) (by omega))
theorem l_known {s : State} {a0 : Array Value} (hts : ∀ w ∈ lw_tbl, w.before a0 s = true) : ∃ (D : va_G) (ca : kca), va_K D kcl (ktys ca) s := by
  obtain ⟨c0, f0, h0⟩ := u_known (ws := lw_tbl) (T := T_S) (N := 6) hts (fun w hw => (us_S w hw).1) (hts _ q_170)
  obtain ⟨c1, f1, h1⟩ := u_known (ws := lw_tbl) (T := T_G) (N := 2) hts (fun w hw => (us_G w hw).1) (hts _ q_165)
  obtain ⟨c2, f2, h2⟩ := u_known (ws := lw_tbl) (T := T_P) (N := 6) hts (fun w hw => (us_P w hw).1) (hts _ q_363)
  obtain ⟨c3, f3, h3⟩ := u_known (ws := lw_tbl) (T := T_R) (N := 4) hts (fun w hw => (us_R w hw).1) (hts _ q_339)
  obtain ⟨c4, f4, h4⟩ := u_known (ws := lw_tbl) (T := T_W) (N := 4) hts (fun w hw => (us_W w hw).1) (hts _ q_30)
  obtain ⟨c5, f5, h5⟩ := u_known (ws := lw_tbl) (T := T_K) (N := 3) hts (fun w hw => (us_K w hw).1) (hts _ q_19)
  obtain ⟨c6, f6, h6⟩ := u_known (ws := lw_tbl) (T := T_M) (N := 17) hts (fun w hw => (us_M w hw).1) (hts _ q_842)
  obtain ⟨a1, k1, p1, g1, g2, g3⟩ := Cond.arrayClass_spec (hts _ q_198)
  obtain ⟨p2, a2, k2, e1, -, e2, e3, e4⟩ := Cond.arrayOver_spec (hts _ q_27)
  obtain ⟨p3, a3, k3, r1, -, r2, r3, r4⟩ := Cond.arrayOver_spec (hts _ q_29)
  obtain ⟨a4, k4, p4, m1, m2, m3⟩ := Cond.arrayClass_spec (hts _ q_1120)
  refine ⟨(fun c => match c with | 0 => c0 | 1 => c1 | 2 => c2 | 3 => c3 | 4 => c4 | 5 => c5 | _ => c6, fun c => match c with | 0 => f0 | 1 => f1 | 2 => f2 | 3 => f3 | 4 => f4 | 5 => f5 | _ => f6), (a1, a2, a3, a4), fun c q hq => ?_, fun k q hq => ?_⟩
  · rcases c with _ | _ | _ | _ | _ | _ | _ | c
    · cases hq
      exact h0
    · cases hq
      exact h1
    · cases hq
      exact h2
    · cases hq
      exact h3
    · cases hq
      exact h4
    · cases hq
      exact h5
    · cases hq
      exact h6
    · cases hq
  · rcases k with _ | _ | _ | _ | k
    · cases hq
      exact ⟨fun N z => ⟨(fun k h => by cases h), k1, g2, p1, g3⟩, g1⟩
    · cases hq
      exact ⟨fun N z => ⟨(fun k h => by cases h), k2, e2, p2, e3⟩, k2, p2, e2, e3, e1, e4⟩
    · cases hq
      exact ⟨fun N z => ⟨(fun k h => by cases h), k3, r2, p3, r3⟩, k3, p3, r2, r3, r1, r4⟩
    · cases hq
      exact ⟨fun N z => ⟨(fun k h => by cases h), k4, m2, p4, m3⟩, m1⟩
    · cases hq
set_option maxRecDepth 100000 in
set_option maxHeartbeats 4000000 in
theorem l_start {b : yy_T} {l : Launch} {z : State} {a0 : Array Value} {D : va_G} {ca : kca} (X : kcx l z a0 D ca) (F : yy_A l z b room_1 code 7 R_L (some .boolean) [] (fun r _ => r = .inl (some (.int 1)))) {sc L : Nat} {xs : Nat → Int32} (hX : va_X sc L xs z z.heap) (hsc : sc < z.heap.size) (hL : L ≤ 2048) (H : Heap) (hS : yy_S z H []) : yy_Y b H [] (0, 0) 0 [(0, .ref sc)] [] := by
  have hzs : z.heap.size ≤ H.size := hS.1
  refine yy_new F X.1 X.2.1 (ci := 5) (ty := ty_K) (fs := [.null, .null, .int 0]) rfl us_K tk_K q_18 q_19 q_1 hS (by decide) ⟨by decide, by decide⟩ d_L_law_0 (n := 3) rfl (fun Hn_1 On_1 zn_1 on_1 Sn_1 => ?_)
  refine yy_dup F d_L_law_3 (n := 4) rfl rfl ?_
  refine yy_callv F Sn_1 (c_K_init (a := H.size) X hzs) (yy_Bc F X.1 q_22 q_1) (yy_invI (nA := 0) F X.1 rfl (Or.inl q_20) q_21 q_22 ⟨by decide, by decide, by decide +kernel⟩ rfl d_L_law_4) d_L_law_4 (n := 7) rfl (by simp [Value.category]) ⟨by decide, by decide⟩ ⟨by decide, by decide⟩ On_1 (fun Hc_2 locs_c_2 qc_2 Sc_2 => ?_)
  obtain ⟨P1, z1, x1⟩ := qc_2
  have y0 : Hn_1.size = H.size + 1 := zn_1
  refine yy_astore_n (lv' := [(1, .ref H.size), (0, .ref sc)]) F d_L_law_7 (n := 8) rfl (by decide) rfl ?_
  refine yy_new F X.1 X.2.1 (ci := 6) (ty := ty_M) (fs := [.int 0, .int 0, .null, .null, .null, .null, .null, .null, .null, .null, .null, .null, .null, .null, .null, .null, .null]) rfl us_M tk_M q_841 q_842 q_3 Sc_2 (by decide) ⟨by decide, by decide⟩ d_L_law_8 (n := 11) rfl (fun Hn_3 On_3 zn_3 on_3 Sn_3 => ?_)
  have y2 : Hn_3.size = Hc_2.size + 1 := zn_3
  have P2 := P1.ext (H1 := Hn_3) ⟨by omega, on_3⟩
  refine yy_dup F d_L_law_11 (n := 12) rfl rfl ?_
  refine yy_callv F Sn_3 (c_M_init (a := Hc_2.size) X (by omega)) (yy_Bc F X.1 q_845 q_3) (yy_invI (nA := 0) F X.1 rfl (Or.inl q_843) q_844 q_845 ⟨by decide, by decide, by decide +kernel⟩ rfl d_L_law_12) d_L_law_12 (n := 15) rfl (by simp [Value.category]) ⟨by decide, by decide⟩ ⟨by decide, by decide⟩ On_3 (fun Hc_4 locs_c_4 qc_4 Sc_4 => ?_)
  obtain ⟨M3, z3, x3⟩ := qc_4
  have own0 : ∀ q, Hc_2.size ≤ q → a_ow (kA0 H.size Hn_1.size) q = 0 := fun q hq => by
    apply Classical.byContradiction
    intro h9
    have := (P1.ok.2.2.2.2.2.2.1 q h9).2
    omega
  have P3 : ck_at D ca z (kA0 H.size Hn_1.size) ks0 Hc_4 := P2.only (fun q hq => x3 q (by
    have := (P1.ok.2.2.2.2.2.2.1 q hq).2
    omega) (by
    have := (P1.ok.2.2.2.2.2.2.1 q hq).2
    omega)) (by omega)
  refine yy_astore_n (lv' := [(2, .ref Hc_2.size), (1, .ref H.size), (0, .ref sc)]) F d_L_law_15 (n := 16) rfl (by decide) rfl ?_
  refine yy_iconst (v := 1) F d_L_law_16 (n := 17) rfl rfl ?_
  refine yy_newl F X.1 X.2.1 3 rfl q_1120 Sc_4 (by decide) (N := 1) rfl (by decide) ⟨by decide, by decide⟩ d_L_law_17 (n := 19) rfl (fun H4 O4 z4 x4 S4 => ?_)
  refine yy_astore_n (lv' := [(3, .ref Hc_4.size), (2, .ref Hc_2.size), (1, .ref H.size), (0, .ref sc)]) F d_L_law_19 (n := 20) rfl (by decide) rfl ?_
  refine yy_iconst (v := 0) F d_L_law_20 (n := 21) rfl rfl ?_
  refine yy_tope (y := (nI 0)) rfl ?_
  refine yy_istore (lv' := [(4, .int (nI 0)), (3, .ref Hc_4.size), (2, .ref Hc_2.size), (1, .ref H.size), (0, .ref sc)]) F d_L_law_21 (n := 23) rfl (by decide) rfl ?_
  have P4 := P3.ext (H1 := H4) ⟨by omega, x4⟩
  have M4 : mo_at D ca z Hc_2.size Hn_3.size 0 ms0 H4 := M3.only (x4 _ (va_at.lt M3.o)) (fun j hj => x4 _ (va_at.lt (M3.r hj)))
  have Z : l_in D ca z H.size Hc_2.size Hn_3.size Hc_4.size (kA0 H.size Hn_1.size) ks0 0 ms0 0 (fun _ => 0) H4 := ⟨ks0_iv, P4, ms0_mr, M4, O4, rfl, ⟨own0 _ (by omega), fun j hj => own0 _ (by omega), own0 _ (by omega)⟩, by omega, by omega, Or.inr (by omega)⟩
  exact yy_sub [0, 1, 2, 3, 4] rfl (l_loop X F hX hsc hL 512 0 0 _ ks0 ms0 0 _ H4 _ _ (by omega) (by omega) (by omega) (by omega) (by decide) (by decide) Z S4)
/-! THE CLAIM OUT OF ONE WALK OF THE LAW'S BODY. Your part is whole_start (and what it stands on); all else here is the same for every law, but numbers. -/
def R_law : String := "ContainerKitLaw"
def lw_P (b : Addr) (xs : List Int32) (args : Array Value) (s : State) : Prop := args = #[.ref b] ∧ s.IntsAt b xs ∧ xs.length ≤ 2048 ∧ (Jvm.Cond.and given_1 narrow_1).before args s = true
def lw_Q (_ : Array Value) (s : State) (o : Outcome) (t : State) : Prop := o = .returned (some (.int 1)) ∧ Framed s o t [] 601024 7293034
def lw_Z (below : List Frame) (a : Array Value) (s : State) : State → Prop := fun t => ∃ o, t.status = .running ∧ Ended t below o ∧ lw_Q a s o t
/-- the law's own end, with 1 on the stack, nothing written that was there before, its room as the claim has it -/
theorem lw_ret {p : Program} {l : Launch} {e : Env} {s : State} {m : MethodId} {below : List Frame} {meth : Method} {c : Code} {b : Nat} (hx : p.tables.exec = Jvm.exec) (hb : c.code = code) (hr : meth.sig.returnType = ret) (hlocks : meth.locks = false) {pc : Nat} {H : Heap} {ls : Array Slot} (hdg : decode code pc = .ok (.ireturn, 1)) : W p l e room_1 s m #[Value.ref b] below meth c H [] 601024 7293034 (lw_Z below #[Value.ref b] s) (F0 m pc ls [.int 1]) := by
  intro T hT X
  obtain ⟨fs, hret, hrun, hended, hW, hframe⟩ := X.leave (v := some (.int 1)) (hlocks := hlocks) (fun h => by rw [hr] at h; cases h)
  have hmeth' : T.vm.method? m = some meth := X.method'
  refine ⟨T.setFrames fs, ?_, .returned (some (.int 1)), hrun, hended, rfl, ⟨_, rfl⟩, hW, hframe⟩
  jvm_step X.here [X.here.top, hx, hb, hdg, hmeth', hr, ret, narrow_b1]
  (try refine ⟨rfl, ?_⟩); (try refine ⟨rfl, ?_⟩)
  first | (intro acts; rw [hret _ acts rfl rfl rfl]) | rw [hret _ _ rfl rfl rfl]
  exact Steps.refl _
/-- what holds at the law's entry: the machine, the code, the tables' words (any of lw_tbl by 'hts w (by decide +kernel)'), the script of L ints xs at the cell b, what the Statement gives of the start (any of its parts by flat_of_before) -/
def lw_At (p : Program) (s : State) (m : MethodId) (meth : Method) (c : Code) (b L : Nat) (xs : Nat → Int32) : Prop :=
  p.tables.exec = Jvm.exec ∧ c.code = code ∧ meth.sig.returnType = ret ∧ c.maxLocals = 7 ∧ s.vm.findClass R_law = some m.cls ∧ (∀ w ∈ lw_tbl, w.before #[Value.ref b] s = true) ∧ va_X b L xs s s.heap ∧ b < s.heap.size ∧ meth.locks = false ∧ (Jvm.Cond.and given_1 narrow_1).before #[Value.ref b] s = true
theorem l_flags {l : Launch} (h : l.flags = flags0) : l.stackTraces = false := by
  unfold Launch.stackTraces
  rw [h]
  decide +kernel
theorem l_frame {s U : State} {L : List Loc} {k n : Nat} (h : s.sameButNew U L k n) (hL : ∀ q ∈ L, s.heap.size ≤ q.base) : s.sameButNew U [] k n := by
  obtain ⟨e1, h2, h3, h4, h5, h6⟩ := h
  refine ⟨e1, h2, h3, h4, h5, fun a c9 h9 => ?_⟩
  obtain ⟨c', g1, g2, g3, g4⟩ := h6 a c9 h9
  have ha : a < s.heap.size := (Array.getElem?_eq_some_iff.mp h9).1
  exact ⟨c', g1, g2, g3, fun i _ => g4 i (fun hm => by have h8 := hL _ hm; exact absurd ha (Nat.not_lt.mpr h8))⟩
theorem whole_start {p : Program} {e : Env} {s : State} {m : MethodId} {below : List Frame} {meth : Method} {c : Code} (l : Launch) {b L : Nat} {xs : Nat → Int32} (hst : l.stackTraces = false) (htab : c.exceptionTable.toList = tableOf []) (hL : L ≤ 2048) (C0 : lw_At p s m meth c b L xs) : W p l e room_1 s m #[Value.ref b] below meth c s.heap [] 0 0 (lw_Z below #[Value.ref b] s) (entryFrame m ([Value.ref b] : List Value).toArray 7) := by
  obtain ⟨hx, hb, hr, hml, hown, hts, hX, hbl, hlk, hgv⟩ := C0
  obtain ⟨D, ca, hK⟩ := l_known hts
  have X : kcx l s #[Value.ref b] D ca := ⟨hts, hK, hgv, hst⟩
  have N0 : yy_N s s := ⟨State.WarmedH.refl s, Nat.le_refl _, fun _ _ => rfl⟩
  have key := l_start (b := (p, l, e, room_1, s, m, #[Value.ref b], below, meth, c, 7, yy_Q s room_1 below (fun r _ => r = .inl (some (.int 1))) s)) X ⟨rfl, rfl, hx, hb, hml, rfl, hown, N0, hlk, hr, htab, rfl⟩ hX hbl hL s.heap N0.S
  have hl := lv_entry [Value.ref b] (n := 7) (Nat.le_of_ble_eq_true rfl)
  intro T hT XT
  obtain ⟨t, a1, o, b1, b2, r, Lc, b3, b4, b5, b6, b7⟩ := key _ hl T hT XT
  refine ⟨t, ?_, o, b1, b2, ?_, ?_⟩
  · rw [lg_entry_eq]
    exact a1
  · rw [b4] at b3
    exact b3
  · rw [b4] at b3
    exact ⟨⟨_, b3⟩, b5, l_frame b6 b7⟩
set_option maxHeartbeats 4000000 in
theorem lw_walk (l : Launch) (hst : l.stackTraces = false) (b : Addr) (xs : List Int32) : MetFree l x (headSpec (Jvm.Cond.code x code maxLocals ret :: tables_1) room_1) (lw_P b xs) (fun _ _ _ _ _ => True) lw_Q := by
  refine MetFree.of_bodyS (code := code) (maxLocals := maxLocals) (ret := ret) (by decide) ?_ ?_
  · intro args s m h hn
    obtain ⟨meth, c, h1, h2, h3, h4, h5, h6, -, -⟩ := Cond.code_spec hn (atoms_spec (ws := Jvm.Cond.code x code maxLocals ret :: tables_1) h _ List.mem_cons_self)
    exact ⟨meth, c, h1, h2, h3, h4, h5, h6⟩
  · intro p e s m args below meth c s₁ B hml0 hP _
    obtain ⟨rfl, hx, hbd, hgv⟩ := hP
    obtain ⟨scr, harrAt, hlist, hof, hsmall⟩ := hx
    obtain ⟨hcb, hkn, -, -⟩ := State.arrayAt?_spec harrAt
    have hown : s.vm.findClass R_law = some m.cls := findClass_of_methodNamed B.named
    have hts0 : ∀ c ∈ (Jvm.Cond.code x code maxLocals ret :: tables_1), c.before #[Value.ref b] s = true := atoms_spec (ws := Jvm.Cond.code x code maxLocals ret :: tables_1) B.pre
    have hts : ∀ w ∈ lw_tbl, w.before #[Value.ref b] s = true := k2_hts_sels lw_privs (fun w hw => hts0 w (List.mem_cons_of_mem _ hw)) lw_privs_ok
    have hml : c.maxLocals = 7 := B.maxLocals_eq (hts0 _ List.mem_cons_self)
    have ht : c.exceptionTable.toList = tableOf [] := by
      obtain ⟨meth9, c9, h1, h2, -, -, -, -, h7, -⟩ := Cond.code_spec B.named (hts0 _ List.mem_cons_self)
      cases Option.some.inj (h1.symm.trans B.method)
      cases Option.some.inj (h2.symm.trans (Stand.of_body B).code)
      rw [Array.isEmpty_iff.mp h7]
      rfl
    have X₀ : Stand p l e room_1 s m #[Value.ref b] below meth c s₁ [] 0 0 := Stand.of_body B
    have hh0 : s₁.heap = s.heap := by rw [B.state]; rfl
    have hsz : scr.slots.size = xs.length := by rw [← Array.length_toList, hlist, List.length_map]
    have hval : ∀ j : Nat, j < xs.length → scr.slots[j]? = some (.int (xs.getD j 0)) := fun j hj => by
      rw [← Array.getElem?_toList, hlist]
      simp [hj]
    have hbl : b < s.heap.size := (Array.getElem?_eq_some_iff.mp hcb).1
    have hX : va_X b xs.length (fun j => xs.getD j 0) s s.heap := ⟨scr, hcb, hof, hkn, hsz, hval⟩
    have K : W p l e room_1 s m #[Value.ref b] below meth c s₁.heap [] 0 0 (lw_Z below #[Value.ref b] s) (entryFrame m ([Value.ref b] : List Value).toArray 7) := by
      rw [hh0]
      exact whole_start l hst ht hbd ⟨B.exec, B.bytes, B.returns, hml, hown, hts, hX, hbl, B.notSynchronized, hgv⟩
    obtain ⟨t, a1, o, b1, b2, b3⟩ := K s₁ rfl X₀
    exact ⟨t, o, a1, b1, b2, b3⟩
theorem lw_pre_spec {args : Array Value} {s : State} (h : (Jvm.Cond.and given_1 narrow_1).before args s = true) (hr : rest_1_c.before args s = true) : ∃ (b : Addr) (xs : List Int32), lw_P b xs args s := by
  have hs := flat_of_before _ h
  have hq := flat_of_before _ hr
  have hc : (Cond.count 1).before args s = true := hs _ (by decide +kernel)
  have harr : (Cond.arrayOf (.arg 0) .int).before args s = true := hs _ (by decide +kernel)
  have hle : (Cond.le (.length (.arg 0)) (.int 2048)).before args s = true := hs _ (by decide +kernel)
  have hlen : (Cond.isInt (.length (.arg 0))).before args s = true := hq _ (by decide +kernel)
  have hall : (Cond.all (.arg 0) (.isInt (.elem (.arg 0) (.index 0)))).before args s = true := hq _ (by decide +kernel)
  obtain ⟨b, xs, hb, hx⟩ := State.ints_of_pre rfl harr hlen hall
  have hsm : xs.length < 2 ^ 31 := hx.choose_spec.2.2.2
  have hev : (Term.length (.arg 0)).eval args s none [] s = some (.int xs.length.toInt32) := hx.length_eval hb
  have hv := Cond.le_ints hev (show (Term.int 2048).eval args s none [] s = some (.int 2048) from rfl)
  have hd : xs.length.toInt32 ≤ 2048 := by
    simpa [Cond.before, Cond.holds, hv] using hle
  have hN : xs.length ≤ 2048 := (Int32.ofNat_le_ofNat hsm (by decide)).mp (show Int32.ofNat xs.length ≤ Int32.ofNat 2048 from hd)
  exact ⟨b, xs, Cond.one_arg hc (show args[0]? = some (.ref b) from hb), hx, hN, h⟩
theorem lw_comes (l : Launch) (hst : l.stackTraces = false) : Comes l x (Jvm.Cond.code x code maxLocals ret :: tables_1) room_1 (fun tb e args s => Calls_1 tb e args s ∧ rest_1 tb e args s ∧ Pre_1 tb e args s)
    (fun _ _ args s o t => lw_Q args s o t) := by
  intro p e ha hc hk s m args below hf hfit hheap happ hpre
  obtain ⟨b, xs, hP⟩ := lw_pre_spec hpre.2.2 hpre.2.1
  obtain ⟨k, o, h1, h2, h3, hQ⟩ := lw_walk l hst b xs p e ha hc hk s m args below hf ((Spec.applies_iff_loose hf).mp happ).1 hP trivial
  exact ⟨k, o, h1, h2, h3, hQ⟩
theorem lw_frame {s t : State} {o : Outcome} {args : Array Value} (h : Framed s o t [] 601024 7293034) :
    Framed s o t (fieldLocs frame_1_writes args s ++ arrayLocs frame_1_arrays args s ++ staticLocs frame_1_statics s) 601024 7293034 := h
theorem lw_limb (L : Cond) (hL : ∀ (args : Array Value) (s t : State), L.after args s (.returned (some (.int 1))) t = true) :
    ArmFor flags0 classFile x code maxLocals ret World_1 tables_1 room_1 Calls_1 rest_1 Pre_1
      (fun tb e a s o t => postC L tb e a s o t ∧ Framed s o t (fieldLocs frame_1_writes a s ++ arrayLocs frame_1_arrays a s ++ staticLocs frame_1_statics s) 601024 7293034) := by
  intro l hw1 hw2 hw3 p e ha hc hk s m args below hf hfit hheap happ hpre
  have hst : l.stackTraces = false := l_flags hw1
  obtain ⟨k, o, h1, h2, h3, rfl, hF⟩ := lw_comes l hst p e ha hc hk s m args below hf hfit hheap happ hpre
  exact ⟨k, _, h1, h2, h3, hL args s _, lw_frame hF⟩
theorem i_vc : Claimed_1_1 ∧ Claimed_1_2 := ⟨lw_limb limb_1_1 (fun args s t => by simp [limb_1_1, Cond.after, Cond.holds, Cond.value]), lw_limb limb_1_2 (fun args s t => Cond.after_iff.mpr (by
  first | (rw [show limb_1_2 = Cond.eq .result (.int 1) from rfl, Cond.eq_ints (x := 1) (y := 1) rfl rfl]; simp; done) | (simp [limb_1_2, Cond.value, Term.eval]; done)))⟩

