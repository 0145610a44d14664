/-! PART L2: each case of the law's switch-/
set_option maxRecDepth 100000 in
set_option maxHeartbeats 4000000 in
theorem cs_create {b : yy_T} {rm : Room} {Post : yy_R → Heap → Prop} {l : Launch} {z : State} {a0 : Array Value} {D : va_G} {ca : kca} (X : kcx l z a0 D ca) (F : yy_A l z b rm code 7 R_L (some .boolean) [] Post) {sc L i : Nat} {xs : Nat → Int32} (hX : va_X sc L xs z z.heap) (hsc : sc < z.heap.size) (hi : i + 4 ≤ L) (hL : L ≤ 2048) {K a n ou : Nat} {A : kA} {σ : ks} {t : Nat} {s : ms} {cd : Int32} {g : Nat → Int64} {H : Heap} {locs : List Loc} {k : Nat × Nat} (Z : l_in D ca z K a n ou A σ t s cd g H) (ht : t + 25 ≤ 100000) (hS : yy_S z H locs) (hk : k.1 + 4 ≤ rm.cells ∧ k.2 + 56 ≤ rm.slots) (hfr : 11 ≤ rm.frames ∧ 300 ≤ rm.locals)
    (kk : ∀ (A1 : kA) (σ1 : ks) (s1 : ms) (cd1 : Int32) (g1 : Nat → Int64) (H1 : Heap) (locs1 : List Loc) (k1 : Nat × Nat), l_in D ca z K a n ou A1 σ1 (t + 25) s1 cd1 g1 H1 → yy_S z H1 locs1 → k1.1 ≤ k.1 + 4 → k1.2 ≤ k.2 + 56 → yy_Y b H1 locs1 k1 1801 [(4, .int (nI i)), (3, .ref ou), (2, .ref a), (1, .ref K), (0, .ref sc)] []) : yy_Y b H locs k 152 [(4, .int (nI i)), (3, .ref ou), (2, .ref a), (1, .ref K), (0, .ref sc)] [] := by
  have Z0 := Z
  obtain ⟨I, P, R, M, O, hK, hown, hoz, hoa, hon⟩ := Z
  subst hK
  refine yy_aload_n F d_L_law_152 (n := 153) rfl 3 rfl ?_
  refine yy_aload_n F d_L_law_153 (n := 154) rfl 4 rfl ?_
  refine yy_iload F d_L_law_154 (n := 156) rfl 0 rfl ?_
  refine yy_iconst (v := 1) F d_L_law_156 (n := 157) rfl rfl ?_
  refine yy_iadd F d_L_law_157 (n := 158) rfl ?_
  refine yy_tope (y := (nI (i + 1))) (nI_add i 1) ?_
  refine yy_sld F hX hsc hS (vp_in_nI (n := (i + 1)) (by omega) (by omega)) d_L_law_158 (n := 159) rfl ?_
  refine yy_tope (y := (xs (i + 1))) (nI_xld (by omega) hL) ?_
  refine yy_aload_n F d_L_law_159 (n := 160) rfl 1 rfl ?_
  refine yy_calli F hS (c_L_create (A := A) (σ := σ) (x := xs (i + 1)) X I ht hown.2.2 hoz) (yy_Bw F X.1 q_63 q_0) (yy_invSW (nA := 3) F X.1 q_61 q_62 q_0 q_63 ⟨by decide, by decide, by decide +kernel⟩ rfl d_L_law_160) d_L_law_160 (n := 163) rfl (by simp [Value.category]) ⟨show 8 + 1 ≤ rm.frames by omega, show 8 + (4 + 11) + 123 ≤ rm.locals by omega⟩ ⟨show k.1 + 4 ≤ rm.cells by omega, show k.2 + 56 ≤ rm.slots by omega⟩ ⟨P, O⟩ (fun v1 H1 locs1 q1 S1 => ?_)
  obtain ⟨hv1, ⟨A1, P1, hx1⟩, ⟨g1, O1, hg1⟩, hs1, hf1⟩ := q1
  obtain ⟨M1, hK1, hown1⟩ := l_mid Z0 P1 hx1 O1 hs1 hf1
  refine yy_tope (y := (c_of [e_ia, e_is] (sp_create σ (xs (i + 1))).1)) hv1 ?_
  refine yy_istore (lv' := [(5, .int (c_of [e_ia, e_is] (sp_create σ (xs (i + 1))).1)), (4, .int (nI i)), (3, .ref ou), (2, .ref a), (1, .ref (a_k A)), (0, .ref sc)]) F d_L_law_163 (n := 165) rfl (by decide) rfl ?_
  refine yy_aload_n F d_L_law_165 (n := 166) rfl 3 rfl ?_
  refine yy_aload_n F d_L_law_166 (n := 167) rfl 5 rfl ?_
  refine yy_iload F d_L_law_167 (n := 169) rfl 1 rfl ?_
  refine yy_iconst (v := 1) F d_L_law_169 (n := 170) rfl rfl ?_
  refine yy_iadd F d_L_law_170 (n := 171) rfl ?_
  refine yy_tope (y := (nI (i + 1))) (nI_add i 1) ?_
  refine yy_sld F hX hsc S1 (vp_in_nI (n := (i + 1)) (by omega) (by omega)) d_L_law_171 (n := 172) rfl ?_
  refine yy_tope (y := (xs (i + 1))) (nI_xld (by omega) hL) ?_
  refine yy_calli F S1 (c_M_create (σ := σ) (x := xs (i + 1)) X I R) (yy_Bc F X.1 q_906 q_3) (yy_invV (nA := 1) (C := R_M) (bytes := b_M_create) (maxL := 2) (retY := (some .int)) F X.1 q_903 q_904 q_905 q_906 ⟨by decide, by decide, by decide +kernel⟩ (yy_recv F.N X.2.1 (ci := 6) rfl M1.o) rfl d_L_law_172) d_L_law_172 (n := 175) rfl (by simp [Value.category]) ⟨show 1 + 1 ≤ rm.frames by omega, show 8 + (2 + 11) + 23 ≤ rm.locals by omega⟩ ⟨show k.1 + 4 + 0 ≤ rm.cells by omega, show k.2 + 56 + 0 ≤ rm.slots by omega⟩ M1 (fun v2 H2 locs2 q2 S2 => ?_)
  obtain ⟨⟨⟨s2, R2, M2⟩, k2⟩, hv2⟩ := q2
  have I2 := iv_create I ht (xs (i + 1))
  have Z2 := l_fin I2 P1 R2 M1 M2 O1 hK1 hown1 ⟨hoz, hoa, hon⟩ k2
  have O2 := Z2.2.2.2.2.1
  refine yy_istore (lv' := [(6, .int v2), (5, .int (c_of [e_ia, e_is] (sp_create σ (xs (i + 1))).1)), (4, .int (nI i)), (3, .ref ou), (2, .ref a), (1, .ref (a_k A)), (0, .ref sc)]) F d_L_law_175 (n := 177) rfl (by decide) rfl ?_
  refine yy_aload_n F d_L_law_177 (n := 178) rfl 4 rfl ?_
  refine yy_cri (w := c_of [e_ia, e_is] (sp_create σ (xs (i + 1))).1) F S2 (c_M_thrown X I2 R2) (yy_Bc F X.1 q_902 q_3) (yy_invV (nA := 0) (C := R_M) (bytes := b_M_thrown) (maxL := 1) (retY := (some .int)) F X.1 q_899 q_900 q_901 q_902 ⟨by decide, by decide, by decide +kernel⟩ (yy_recv F.N X.2.1 (ci := 6) rfl M2.o) rfl d_L_law_178) d_L_law_178 (n := 181) rfl (by simp [Value.category]) ⟨show 0 + 1 ≤ rm.frames by omega, show 8 + (1 + 11) + 0 ≤ rm.locals by omega⟩ ⟨show k.1 + 4 + 0 + 0 ≤ rm.cells by omega, show k.2 + 56 + 0 + 0 ≤ rm.slots by omega⟩ ⟨rfl, rfl⟩ M2 rfl (fun locs3 S3 => ?_)
  refine yy_iload F d_L_law_181 (n := 183) rfl 1 rfl ?_
  refine yy_ic_eq_t (tgt := 188) F d_L_law_183 (by decide) rfl ?_
  refine yy_iload F d_L_law_188 (n := 190) rfl 1 rfl ?_
  cases hr : (sp_create σ (xs (i + 1))).1 with
  | some E =>
    have hp9 := m_pos (ex_create_ σ (xs (i + 1)) E hr) (by decide)
    refine yy_if_ne_t (tgt := 205) F d_L_law_190 (by decide) hp9.2 ?_
    refine yy_goto (tgt := 1801) F d_L_law_205 (by decide) ?_
    exact yy_sub [2, 3, 4, 5, 6] rfl (kk A1 (sp_create σ (xs (i + 1))).2.2 s2 _ g1 H2 _ _ Z2 S3 (by show k.1 + 4 + 0 ≤ k.1 + 4; omega) (by show k.2 + 56 + 0 ≤ k.2 + 56; omega))
  | none =>
    have hg9 := hg1 hr
    have hv9 := hv2 hr
    refine yy_if_ne_f (tgt := 205) F d_L_law_190 (n := 193) rfl (by decide) rfl ?_
    refine yy_aload_n F d_L_law_193 (n := 194) rfl 3 rfl ?_
    refine yy_iconst (v := 0) F d_L_law_194 (n := 195) rfl rfl ?_
    refine yy_lald F X.2.1 3 rfl O2 (i := 0) (vp_in_nI (n := 0) (by decide) (by decide)) d_L_law_195 (n := 196) rfl ?_
    refine yy_iload F d_L_law_196 (n := 198) rfl 0 rfl ?_
    refine yy_i2l F d_L_law_198 (n := 199) rfl rfl ?_
    refine yy_lcmp F d_L_law_199 (n := 200) rfl ?_
    refine yy_tope (y := 0) (by rw [show g1 (0 : Int32).toNatClampNeg = v2.toInt64 by rw [hv9]; exact hg9]; exact lg_cmp0 _) ?_
    refine yy_if_eq_t (tgt := 205) F d_L_law_200 (by decide) rfl ?_
    refine yy_goto (tgt := 1801) F d_L_law_205 (by decide) ?_
    exact yy_sub [2, 3, 4, 5, 6] rfl (kk A1 (sp_create σ (xs (i + 1))).2.2 s2 _ g1 H2 _ _ Z2 S3 (by show k.1 + 4 + 0 ≤ k.1 + 4; omega) (by show k.2 + 56 + 0 ≤ k.2 + 56; omega))
set_option maxRecDepth 100000 in
set_option maxHeartbeats 4000000 in
theorem cs_view {b : yy_T} {rm : Room} {Post : yy_R → Heap → Prop} {l : Launch} {z : State} {a0 : Array Value} {D : va_G} {ca : kca} (X : kcx l z a0 D ca) (F : yy_A l z b rm code 7 R_L (some .boolean) [] Post) {sc L i : Nat} {xs : Nat → Int32} (hX : va_X sc L xs z z.heap) (hsc : sc < z.heap.size) (hi : i + 4 ≤ L) (hL : L ≤ 2048) {K a n ou : Nat} {A : kA} {σ : ks} {t : Nat} {s : ms} {cd : Int32} {g : Nat → Int64} {H : Heap} {locs : List Loc} {k : Nat × Nat} (Z : l_in D ca z K a n ou A σ t s cd g H) (ht : t + 25 ≤ 100000) (hS : yy_S z H locs) (hk : k.1 + 4 ≤ rm.cells ∧ k.2 + 56 ≤ rm.slots) (hfr : 11 ≤ rm.frames ∧ 300 ≤ rm.locals)
    (kk : ∀ (A1 : kA) (σ1 : ks) (s1 : ms) (cd1 : Int32) (g1 : Nat → Int64) (H1 : Heap) (locs1 : List Loc) (k1 : Nat × Nat), l_in D ca z K a n ou A1 σ1 (t + 25) s1 cd1 g1 H1 → yy_S z H1 locs1 → k1.1 ≤ k.1 + 4 → k1.2 ≤ k.2 + 56 → yy_Y b H1 locs1 k1 1801 [(4, .int (nI i)), (3, .ref ou), (2, .ref a), (1, .ref K), (0, .ref sc)] []) : yy_Y b H locs k 208 [(4, .int (nI i)), (3, .ref ou), (2, .ref a), (1, .ref K), (0, .ref sc)] [] := by
  have Z0 := Z
  obtain ⟨I, P, R, M, O, hK, hown, hoz, hoa, hon⟩ := Z
  subst hK
  refine yy_aload_n F d_L_law_208 (n := 209) rfl 3 rfl ?_
  refine yy_aload_n F d_L_law_209 (n := 210) rfl 4 rfl ?_
  refine yy_iload F d_L_law_210 (n := 212) rfl 0 rfl ?_
  refine yy_iconst (v := 1) F d_L_law_212 (n := 213) rfl rfl ?_
  refine yy_iadd F d_L_law_213 (n := 214) rfl ?_
  refine yy_tope (y := (nI (i + 1))) (nI_add i 1) ?_
  refine yy_sld F hX hsc hS (vp_in_nI (n := (i + 1)) (by omega) (by omega)) d_L_law_214 (n := 215) rfl ?_
  refine yy_tope (y := (xs (i + 1))) (nI_xld (by omega) hL) ?_
  refine yy_aload_n F d_L_law_215 (n := 216) rfl 4 rfl ?_
  refine yy_iload F d_L_law_216 (n := 218) rfl 0 rfl ?_
  refine yy_iconst (v := 2) F d_L_law_218 (n := 219) rfl rfl ?_
  refine yy_iadd F d_L_law_219 (n := 220) rfl ?_
  refine yy_tope (y := (nI (i + 2))) (nI_add i 2) ?_
  refine yy_sld F hX hsc hS (vp_in_nI (n := (i + 2)) (by omega) (by omega)) d_L_law_220 (n := 221) rfl ?_
  refine yy_tope (y := (xs (i + 2))) (nI_xld (by omega) hL) ?_
  refine yy_aload_n F d_L_law_221 (n := 222) rfl 4 rfl ?_
  refine yy_iload F d_L_law_222 (n := 224) rfl 0 rfl ?_
  refine yy_iconst (v := 3) F d_L_law_224 (n := 225) rfl rfl ?_
  refine yy_iadd F d_L_law_225 (n := 226) rfl ?_
  refine yy_tope (y := (nI (i + 3))) (nI_add i 3) ?_
  refine yy_sld F hX hsc hS (vp_in_nI (n := (i + 3)) (by omega) (by omega)) d_L_law_226 (n := 227) rfl ?_
  refine yy_tope (y := (xs (i + 3))) (nI_xld (by omega) hL) ?_
  refine yy_aload_n F d_L_law_227 (n := 228) rfl 1 rfl ?_
  refine yy_calli F hS (c_L_view (A := A) (σ := σ) (o := xs (i + 1)) (x := xs (i + 2)) (y := xs (i + 3)) X I ht hown.2.2 hoz) (yy_Bw F X.1 q_226 q_0) (yy_invSW (nA := 5) F X.1 q_224 q_225 q_0 q_226 ⟨by decide, by decide, by decide +kernel⟩ rfl d_L_law_228) d_L_law_228 (n := 231) rfl (by simp [Value.category]) ⟨show 8 + 1 ≤ rm.frames by omega, show 8 + (6 + 11) + 127 ≤ rm.locals by omega⟩ ⟨show k.1 + 1 ≤ rm.cells by omega, show k.2 + 6 ≤ rm.slots by omega⟩ ⟨P, O⟩ (fun v1 H1 locs1 q1 S1 => ?_)
  obtain ⟨hv1, ⟨A1, P1, hx1⟩, ⟨g1, O1, hg1⟩, hs1, hf1⟩ := q1
  obtain ⟨M1, hK1, hown1⟩ := l_mid Z0 P1 hx1 O1 hs1 hf1
  refine yy_tope (y := (c_of [e_io, e_uo, e_ia, e_is, e_rt] (sp_view σ (xs (i + 1)) (xs (i + 2)) (xs (i + 3))).1)) hv1 ?_
  refine yy_istore (lv' := [(5, .int (c_of [e_io, e_uo, e_ia, e_is, e_rt] (sp_view σ (xs (i + 1)) (xs (i + 2)) (xs (i + 3))).1)), (4, .int (nI i)), (3, .ref ou), (2, .ref a), (1, .ref (a_k A)), (0, .ref sc)]) F d_L_law_231 (n := 233) rfl (by decide) rfl ?_
  refine yy_aload_n F d_L_law_233 (n := 234) rfl 3 rfl ?_
  refine yy_aload_n F d_L_law_234 (n := 235) rfl 5 rfl ?_
  refine yy_iload F d_L_law_235 (n := 237) rfl 1 rfl ?_
  refine yy_iconst (v := 1) F d_L_law_237 (n := 238) rfl rfl ?_
  refine yy_iadd F d_L_law_238 (n := 239) rfl ?_
  refine yy_tope (y := (nI (i + 1))) (nI_add i 1) ?_
  refine yy_sld F hX hsc S1 (vp_in_nI (n := (i + 1)) (by omega) (by omega)) d_L_law_239 (n := 240) rfl ?_
  refine yy_tope (y := (xs (i + 1))) (nI_xld (by omega) hL) ?_
  refine yy_aload_n F d_L_law_240 (n := 241) rfl 5 rfl ?_
  refine yy_iload F d_L_law_241 (n := 243) rfl 1 rfl ?_
  refine yy_iconst (v := 2) F d_L_law_243 (n := 244) rfl rfl ?_
  refine yy_iadd F d_L_law_244 (n := 245) rfl ?_
  refine yy_tope (y := (nI (i + 2))) (nI_add i 2) ?_
  refine yy_sld F hX hsc S1 (vp_in_nI (n := (i + 2)) (by omega) (by omega)) d_L_law_245 (n := 246) rfl ?_
  refine yy_tope (y := (xs (i + 2))) (nI_xld (by omega) hL) ?_
  refine yy_aload_n F d_L_law_246 (n := 247) rfl 5 rfl ?_
  refine yy_iload F d_L_law_247 (n := 249) rfl 1 rfl ?_
  refine yy_iconst (v := 3) F d_L_law_249 (n := 250) rfl rfl ?_
  refine yy_iadd F d_L_law_250 (n := 251) rfl ?_
  refine yy_tope (y := (nI (i + 3))) (nI_add i 3) ?_
  refine yy_sld F hX hsc S1 (vp_in_nI (n := (i + 3)) (by omega) (by omega)) d_L_law_251 (n := 252) rfl ?_
  refine yy_tope (y := (xs (i + 3))) (nI_xld (by omega) hL) ?_
  refine yy_calli F S1 (c_M_view (σ := σ) (o := xs (i + 1)) (x := xs (i + 2)) (y := xs (i + 3)) X I R) (yy_Bc F X.1 q_914 q_3) (yy_invV (nA := 3) (C := R_M) (bytes := b_M_view) (maxL := 8) (retY := (some .int)) F X.1 q_911 q_912 q_913 q_914 ⟨by decide, by decide, by decide +kernel⟩ (yy_recv F.N X.2.1 (ci := 6) rfl M1.o) rfl d_L_law_252) d_L_law_252 (n := 255) rfl (by simp [Value.category]) ⟨show 2 + 1 ≤ rm.frames by omega, show 8 + (8 + 11) + 45 ≤ rm.locals by omega⟩ ⟨show k.1 + 1 + 0 ≤ rm.cells by omega, show k.2 + 6 + 0 ≤ rm.slots by omega⟩ M1 (fun v2 H2 locs2 q2 S2 => ?_)
  obtain ⟨⟨⟨s2, R2, M2⟩, k2⟩, hv2⟩ := q2
  have I2 := iv_view I ht (xs (i + 2)) (xs (i + 3)) (xs (i + 1))
  have Z2 := l_fin I2 P1 R2 M1 M2 O1 hK1 hown1 ⟨hoz, hoa, hon⟩ k2
  have O2 := Z2.2.2.2.2.1
  refine yy_istore (lv' := [(6, .int v2), (5, .int (c_of [e_io, e_uo, e_ia, e_is, e_rt] (sp_view σ (xs (i + 1)) (xs (i + 2)) (xs (i + 3))).1)), (4, .int (nI i)), (3, .ref ou), (2, .ref a), (1, .ref (a_k A)), (0, .ref sc)]) F d_L_law_255 (n := 257) rfl (by decide) rfl ?_
  refine yy_aload_n F d_L_law_257 (n := 258) rfl 4 rfl ?_
  refine yy_cri (w := c_of [e_io, e_uo, e_ia, e_is, e_rt] (sp_view σ (xs (i + 1)) (xs (i + 2)) (xs (i + 3))).1) F S2 (c_M_thrown X I2 R2) (yy_Bc F X.1 q_902 q_3) (yy_invV (nA := 0) (C := R_M) (bytes := b_M_thrown) (maxL := 1) (retY := (some .int)) F X.1 q_899 q_900 q_901 q_902 ⟨by decide, by decide, by decide +kernel⟩ (yy_recv F.N X.2.1 (ci := 6) rfl M2.o) rfl d_L_law_258) d_L_law_258 (n := 261) rfl (by simp [Value.category]) ⟨show 0 + 1 ≤ rm.frames by omega, show 8 + (1 + 11) + 0 ≤ rm.locals by omega⟩ ⟨show k.1 + 1 + 0 + 0 ≤ rm.cells by omega, show k.2 + 6 + 0 + 0 ≤ rm.slots by omega⟩ ⟨rfl, rfl⟩ M2 rfl (fun locs3 S3 => ?_)
  refine yy_iload F d_L_law_261 (n := 263) rfl 1 rfl ?_
  refine yy_ic_eq_t (tgt := 268) F d_L_law_263 (by decide) rfl ?_
  refine yy_iload F d_L_law_268 (n := 270) rfl 1 rfl ?_
  cases hr : (sp_view σ (xs (i + 1)) (xs (i + 2)) (xs (i + 3))).1 with
  | some E =>
    have hp9 := m_pos (ex_view_ σ (xs (i + 1)) (xs (i + 2)) (xs (i + 3)) E hr) (by decide)
    refine yy_if_ne_t (tgt := 285) F d_L_law_270 (by decide) hp9.2 ?_
    refine yy_goto (tgt := 1801) F d_L_law_285 (by decide) ?_
    exact yy_sub [2, 3, 4, 5, 6] rfl (kk A1 (sp_view σ (xs (i + 1)) (xs (i + 2)) (xs (i + 3))).2.2 s2 _ g1 H2 _ _ Z2 S3 (by show k.1 + 1 + 0 ≤ k.1 + 4; omega) (by show k.2 + 6 + 0 ≤ k.2 + 56; omega))
  | none =>
    have hg9 := hg1 hr
    have hv9 := hv2 hr
    refine yy_if_ne_f (tgt := 285) F d_L_law_270 (n := 273) rfl (by decide) rfl ?_
    refine yy_aload_n F d_L_law_273 (n := 274) rfl 3 rfl ?_
    refine yy_iconst (v := 0) F d_L_law_274 (n := 275) rfl rfl ?_
    refine yy_lald F X.2.1 3 rfl O2 (i := 0) (vp_in_nI (n := 0) (by decide) (by decide)) d_L_law_275 (n := 276) rfl ?_
    refine yy_iload F d_L_law_276 (n := 278) rfl 0 rfl ?_
    refine yy_i2l F d_L_law_278 (n := 279) rfl rfl ?_
    refine yy_lcmp F d_L_law_279 (n := 280) rfl ?_
    refine yy_tope (y := 0) (by rw [show g1 (0 : Int32).toNatClampNeg = v2.toInt64 by rw [hv9]; exact hg9]; exact lg_cmp0 _) ?_
    refine yy_if_eq_t (tgt := 285) F d_L_law_280 (by decide) rfl ?_
    refine yy_goto (tgt := 1801) F d_L_law_285 (by decide) ?_
    exact yy_sub [2, 3, 4, 5, 6] rfl (kk A1 (sp_view σ (xs (i + 1)) (xs (i + 2)) (xs (i + 3))).2.2 s2 _ g1 H2 _ _ Z2 S3 (by show k.1 + 1 + 0 ≤ k.1 + 4; omega) (by show k.2 + 6 + 0 ≤ k.2 + 56; omega))
set_option maxRecDepth 100000 in
set_option maxHeartbeats 4000000 in
theorem cs_kind {b : yy_T} {rm : Room} {Post : yy_R → Heap → Prop} {l : Launch} {z : State} {a0 : Array Value} {D : va_G} {ca : kca} (X : kcx l z a0 D ca) (F : yy_A l z b rm code 7 R_L (some .boolean) [] Post) {sc L i : Nat} {xs : Nat → Int32} (hX : va_X sc L xs z z.heap) (hsc : sc < z.heap.size) (hi : i + 4 ≤ L) (hL : L ≤ 2048) {K a n ou : Nat} {A : kA} {σ : ks} {t : Nat} {s : ms} {cd : Int32} {g : Nat → Int64} {H : Heap} {locs : List Loc} {k : Nat × Nat} (Z : l_in D ca z K a n ou A σ t s cd g H) (ht : t + 25 ≤ 100000) (hS : yy_S z H locs) (hk : k.1 + 4 ≤ rm.cells ∧ k.2 + 56 ≤ rm.slots) (hfr : 11 ≤ rm.frames ∧ 300 ≤ rm.locals)
    (kk : ∀ (A1 : kA) (σ1 : ks) (s1 : ms) (cd1 : Int32) (g1 : Nat → Int64) (H1 : Heap) (locs1 : List Loc) (k1 : Nat × Nat), l_in D ca z K a n ou A1 σ1 (t + 25) s1 cd1 g1 H1 → yy_S z H1 locs1 → k1.1 ≤ k.1 + 4 → k1.2 ≤ k.2 + 56 → yy_Y b H1 locs1 k1 1801 [(4, .int (nI i)), (3, .ref ou), (2, .ref a), (1, .ref K), (0, .ref sc)] []) : yy_Y b H locs k 288 [(4, .int (nI i)), (3, .ref ou), (2, .ref a), (1, .ref K), (0, .ref sc)] [] := by
  have Z0 := Z
  obtain ⟨I, P, R, M, O, hK, hown, hoz, hoa, hon⟩ := Z
  subst hK
  refine yy_aload_n F d_L_law_288 (n := 289) rfl 3 rfl ?_
  refine yy_aload_n F d_L_law_289 (n := 290) rfl 4 rfl ?_
  refine yy_iload F d_L_law_290 (n := 292) rfl 0 rfl ?_
  refine yy_iconst (v := 1) F d_L_law_292 (n := 293) rfl rfl ?_
  refine yy_iadd F d_L_law_293 (n := 294) rfl ?_
  refine yy_tope (y := (nI (i + 1))) (nI_add i 1) ?_
  refine yy_sld F hX hsc hS (vp_in_nI (n := (i + 1)) (by omega) (by omega)) d_L_law_294 (n := 295) rfl ?_
  refine yy_tope (y := (xs (i + 1))) (nI_xld (by omega) hL) ?_
  refine yy_aload_n F d_L_law_295 (n := 296) rfl 1 rfl ?_
  refine yy_calli F hS (c_L_kind (A := A) (σ := σ) (x := xs (i + 1)) X I ht hown.2.2 hoz) (yy_Bw F X.1 q_395 q_0) (yy_invSW (nA := 3) F X.1 q_393 q_394 q_0 q_395 ⟨by decide, by decide, by decide +kernel⟩ rfl d_L_law_296) d_L_law_296 (n := 299) rfl (by simp [Value.category]) ⟨show 8 + 1 ≤ rm.frames by omega, show 8 + (4 + 11) + 124 ≤ rm.locals by omega⟩ ⟨show k.1 + 1 ≤ rm.cells by omega, show k.2 + 6 ≤ rm.slots by omega⟩ ⟨P, O⟩ (fun v1 H1 locs1 q1 S1 => ?_)
  obtain ⟨hv1, ⟨A1, P1, hx1⟩, ⟨g1, O1, hg1⟩, hs1, hf1⟩ := q1
  obtain ⟨M1, hK1, hown1⟩ := l_mid Z0 P1 hx1 O1 hs1 hf1
  refine yy_tope (y := (c_of [e_io] (sp_kind σ (xs (i + 1))).1)) hv1 ?_
  refine yy_istore (lv' := [(5, .int (c_of [e_io] (sp_kind σ (xs (i + 1))).1)), (4, .int (nI i)), (3, .ref ou), (2, .ref a), (1, .ref (a_k A)), (0, .ref sc)]) F d_L_law_299 (n := 301) rfl (by decide) rfl ?_
  refine yy_aload_n F d_L_law_301 (n := 302) rfl 3 rfl ?_
  refine yy_aload_n F d_L_law_302 (n := 303) rfl 5 rfl ?_
  refine yy_iload F d_L_law_303 (n := 305) rfl 1 rfl ?_
  refine yy_iconst (v := 1) F d_L_law_305 (n := 306) rfl rfl ?_
  refine yy_iadd F d_L_law_306 (n := 307) rfl ?_
  refine yy_tope (y := (nI (i + 1))) (nI_add i 1) ?_
  refine yy_sld F hX hsc S1 (vp_in_nI (n := (i + 1)) (by omega) (by omega)) d_L_law_307 (n := 308) rfl ?_
  refine yy_tope (y := (xs (i + 1))) (nI_xld (by omega) hL) ?_
  refine yy_calli F S1 (c_M_kind (σ := σ) (x := xs (i + 1)) X I R) (yy_Bc F X.1 q_946 q_3) (yy_invV (nA := 1) (C := R_M) (bytes := b_M_kind) (maxL := 2) (retY := (some .int)) F X.1 q_943 q_944 q_945 q_946 ⟨by decide, by decide, by decide +kernel⟩ (yy_recv F.N X.2.1 (ci := 6) rfl M1.o) rfl d_L_law_308) d_L_law_308 (n := 311) rfl (by simp [Value.category]) ⟨show 1 + 1 ≤ rm.frames by omega, show 8 + (2 + 11) + 21 ≤ rm.locals by omega⟩ ⟨show k.1 + 1 + 0 ≤ rm.cells by omega, show k.2 + 6 + 0 ≤ rm.slots by omega⟩ M1 (fun v2 H2 locs2 q2 S2 => ?_)
  obtain ⟨⟨⟨s2, R2, M2⟩, k2⟩, hv2⟩ := q2
  have I2 := iv_kind I ht (xs (i + 1))
  have Z2 := l_fin I2 P1 R2 M1 M2 O1 hK1 hown1 ⟨hoz, hoa, hon⟩ k2
  have O2 := Z2.2.2.2.2.1
  refine yy_istore (lv' := [(6, .int v2), (5, .int (c_of [e_io] (sp_kind σ (xs (i + 1))).1)), (4, .int (nI i)), (3, .ref ou), (2, .ref a), (1, .ref (a_k A)), (0, .ref sc)]) F d_L_law_311 (n := 313) rfl (by decide) rfl ?_
  refine yy_aload_n F d_L_law_313 (n := 314) rfl 4 rfl ?_
  refine yy_cri (w := c_of [e_io] (sp_kind σ (xs (i + 1))).1) F S2 (c_M_thrown X I2 R2) (yy_Bc F X.1 q_902 q_3) (yy_invV (nA := 0) (C := R_M) (bytes := b_M_thrown) (maxL := 1) (retY := (some .int)) F X.1 q_899 q_900 q_901 q_902 ⟨by decide, by decide, by decide +kernel⟩ (yy_recv F.N X.2.1 (ci := 6) rfl M2.o) rfl d_L_law_314) d_L_law_314 (n := 317) rfl (by simp [Value.category]) ⟨show 0 + 1 ≤ rm.frames by omega, show 8 + (1 + 11) + 0 ≤ rm.locals by omega⟩ ⟨show k.1 + 1 + 0 + 0 ≤ rm.cells by omega, show k.2 + 6 + 0 + 0 ≤ rm.slots by omega⟩ ⟨rfl, rfl⟩ M2 rfl (fun locs3 S3 => ?_)
  refine yy_iload F d_L_law_317 (n := 319) rfl 1 rfl ?_
  refine yy_ic_eq_t (tgt := 324) F d_L_law_319 (by decide) rfl ?_
  refine yy_iload F d_L_law_324 (n := 326) rfl 1 rfl ?_
  cases hr : (sp_kind σ (xs (i + 1))).1 with
  | some E =>
    have hp9 := m_pos (ex_kind_ σ (xs (i + 1)) E hr) (by decide)
    refine yy_if_ne_t (tgt := 341) F d_L_law_326 (by decide) hp9.2 ?_
    refine yy_goto (tgt := 1801) F d_L_law_341 (by decide) ?_
    exact yy_sub [2, 3, 4, 5, 6] rfl (kk A1 (sp_kind σ (xs (i + 1))).2.2 s2 _ g1 H2 _ _ Z2 S3 (by show k.1 + 1 + 0 ≤ k.1 + 4; omega) (by show k.2 + 6 + 0 ≤ k.2 + 56; omega))
  | none =>
    have hg9 := hg1 hr
    have hv9 := hv2 hr
    refine yy_if_ne_f (tgt := 341) F d_L_law_326 (n := 329) rfl (by decide) rfl ?_
    refine yy_aload_n F d_L_law_329 (n := 330) rfl 3 rfl ?_
    refine yy_iconst (v := 0) F d_L_law_330 (n := 331) rfl rfl ?_
    refine yy_lald F X.2.1 3 rfl O2 (i := 0) (vp_in_nI (n := 0) (by decide) (by decide)) d_L_law_331 (n := 332) rfl ?_
    refine yy_iload F d_L_law_332 (n := 334) rfl 0 rfl ?_
    refine yy_i2l F d_L_law_334 (n := 335) rfl rfl ?_
    refine yy_lcmp F d_L_law_335 (n := 336) rfl ?_
    refine yy_tope (y := 0) (by rw [show g1 (0 : Int32).toNatClampNeg = v2.toInt64 by rw [hv9]; exact hg9]; exact lg_cmp0 _) ?_
    refine yy_if_eq_t (tgt := 341) F d_L_law_336 (by decide) rfl ?_
    refine yy_goto (tgt := 1801) F d_L_law_341 (by decide) ?_
    exact yy_sub [2, 3, 4, 5, 6] rfl (kk A1 (sp_kind σ (xs (i + 1))).2.2 s2 _ g1 H2 _ _ Z2 S3 (by show k.1 + 1 + 0 ≤ k.1 + 4; omega) (by show k.2 + 6 + 0 ≤ k.2 + 56; omega))
set_option maxRecDepth 100000 in
set_option maxHeartbeats 4000000 in
theorem cs_size {b : yy_T} {rm : Room} {Post : yy_R → Heap → Prop} {l : Launch} {z : State} {a0 : Array Value} {D : va_G} {ca : kca} (X : kcx l z a0 D ca) (F : yy_A l z b rm code 7 R_L (some .boolean) [] Post) {sc L i : Nat} {xs : Nat → Int32} (hX : va_X sc L xs z z.heap) (hsc : sc < z.heap.size) (hi : i + 4 ≤ L) (hL : L ≤ 2048) {K a n ou : Nat} {A : kA} {σ : ks} {t : Nat} {s : ms} {cd : Int32} {g : Nat → Int64} {H : Heap} {locs : List Loc} {k : Nat × Nat} (Z : l_in D ca z K a n ou A σ t s cd g H) (ht : t + 25 ≤ 100000) (hS : yy_S z H locs) (hk : k.1 + 4 ≤ rm.cells ∧ k.2 + 56 ≤ rm.slots) (hfr : 11 ≤ rm.frames ∧ 300 ≤ rm.locals)
    (kk : ∀ (A1 : kA) (σ1 : ks) (s1 : ms) (cd1 : Int32) (g1 : Nat → Int64) (H1 : Heap) (locs1 : List Loc) (k1 : Nat × Nat), l_in D ca z K a n ou A1 σ1 (t + 25) s1 cd1 g1 H1 → yy_S z H1 locs1 → k1.1 ≤ k.1 + 4 → k1.2 ≤ k.2 + 56 → yy_Y b H1 locs1 k1 1801 [(4, .int (nI i)), (3, .ref ou), (2, .ref a), (1, .ref K), (0, .ref sc)] []) : yy_Y b H locs k 344 [(4, .int (nI i)), (3, .ref ou), (2, .ref a), (1, .ref K), (0, .ref sc)] [] := by
  have Z0 := Z
  obtain ⟨I, P, R, M, O, hK, hown, hoz, hoa, hon⟩ := Z
  subst hK
  refine yy_aload_n F d_L_law_344 (n := 345) rfl 3 rfl ?_
  refine yy_aload_n F d_L_law_345 (n := 346) rfl 4 rfl ?_
  refine yy_iload F d_L_law_346 (n := 348) rfl 0 rfl ?_
  refine yy_iconst (v := 1) F d_L_law_348 (n := 349) rfl rfl ?_
  refine yy_iadd F d_L_law_349 (n := 350) rfl ?_
  refine yy_tope (y := (nI (i + 1))) (nI_add i 1) ?_
  refine yy_sld F hX hsc hS (vp_in_nI (n := (i + 1)) (by omega) (by omega)) d_L_law_350 (n := 351) rfl ?_
  refine yy_tope (y := (xs (i + 1))) (nI_xld (by omega) hL) ?_
  refine yy_aload_n F d_L_law_351 (n := 352) rfl 1 rfl ?_
  refine yy_calli F hS (c_L_size (A := A) (σ := σ) (x := xs (i + 1)) X I ht hown.2.2 hoz) (yy_Bw F X.1 q_402 q_0) (yy_invSW (nA := 3) F X.1 q_400 q_401 q_0 q_402 ⟨by decide, by decide, by decide +kernel⟩ rfl d_L_law_352) d_L_law_352 (n := 355) rfl (by simp [Value.category]) ⟨show 8 + 1 ≤ rm.frames by omega, show 8 + (4 + 11) + 125 ≤ rm.locals by omega⟩ ⟨show k.1 + 1 ≤ rm.cells by omega, show k.2 + 6 ≤ rm.slots by omega⟩ ⟨P, O⟩ (fun v1 H1 locs1 q1 S1 => ?_)
  obtain ⟨hv1, ⟨A1, P1, hx1⟩, ⟨g1, O1, hg1⟩, hs1, hf1⟩ := q1
  obtain ⟨M1, hK1, hown1⟩ := l_mid Z0 P1 hx1 O1 hs1 hf1
  refine yy_tope (y := (c_of [e_io, e_rt] (sp_size σ (xs (i + 1))).1)) hv1 ?_
  refine yy_istore (lv' := [(5, .int (c_of [e_io, e_rt] (sp_size σ (xs (i + 1))).1)), (4, .int (nI i)), (3, .ref ou), (2, .ref a), (1, .ref (a_k A)), (0, .ref sc)]) F d_L_law_355 (n := 357) rfl (by decide) rfl ?_
  refine yy_aload_n F d_L_law_357 (n := 358) rfl 3 rfl ?_
  refine yy_aload_n F d_L_law_358 (n := 359) rfl 5 rfl ?_
  refine yy_iload F d_L_law_359 (n := 361) rfl 1 rfl ?_
  refine yy_iconst (v := 1) F d_L_law_361 (n := 362) rfl rfl ?_
  refine yy_iadd F d_L_law_362 (n := 363) rfl ?_
  refine yy_tope (y := (nI (i + 1))) (nI_add i 1) ?_
  refine yy_sld F hX hsc S1 (vp_in_nI (n := (i + 1)) (by omega) (by omega)) d_L_law_363 (n := 364) rfl ?_
  refine yy_tope (y := (xs (i + 1))) (nI_xld (by omega) hL) ?_
  refine yy_calli F S1 (c_M_size (σ := σ) (x := xs (i + 1)) X I R) (yy_Bc F X.1 q_950 q_3) (yy_invV (nA := 1) (C := R_M) (bytes := b_M_size) (maxL := 2) (retY := (some .int)) F X.1 q_947 q_948 q_949 q_950 ⟨by decide, by decide, by decide +kernel⟩ (yy_recv F.N X.2.1 (ci := 6) rfl M1.o) rfl d_L_law_364) d_L_law_364 (n := 367) rfl (by simp [Value.category]) ⟨show 2 + 1 ≤ rm.frames by omega, show 8 + (2 + 11) + 45 ≤ rm.locals by omega⟩ ⟨show k.1 + 1 + 0 ≤ rm.cells by omega, show k.2 + 6 + 0 ≤ rm.slots by omega⟩ M1 (fun v2 H2 locs2 q2 S2 => ?_)
  obtain ⟨⟨⟨s2, R2, M2⟩, k2⟩, hv2⟩ := q2
  have I2 := iv_size I ht (xs (i + 1))
  have Z2 := l_fin I2 P1 R2 M1 M2 O1 hK1 hown1 ⟨hoz, hoa, hon⟩ k2
  have O2 := Z2.2.2.2.2.1
  refine yy_istore (lv' := [(6, .int v2), (5, .int (c_of [e_io, e_rt] (sp_size σ (xs (i + 1))).1)), (4, .int (nI i)), (3, .ref ou), (2, .ref a), (1, .ref (a_k A)), (0, .ref sc)]) F d_L_law_367 (n := 369) rfl (by decide) rfl ?_
  refine yy_aload_n F d_L_law_369 (n := 370) rfl 4 rfl ?_
  refine yy_cri (w := c_of [e_io, e_rt] (sp_size σ (xs (i + 1))).1) F S2 (c_M_thrown X I2 R2) (yy_Bc F X.1 q_902 q_3) (yy_invV (nA := 0) (C := R_M) (bytes := b_M_thrown) (maxL := 1) (retY := (some .int)) F X.1 q_899 q_900 q_901 q_902 ⟨by decide, by decide, by decide +kernel⟩ (yy_recv F.N X.2.1 (ci := 6) rfl M2.o) rfl d_L_law_370) d_L_law_370 (n := 373) rfl (by simp [Value.category]) ⟨show 0 + 1 ≤ rm.frames by omega, show 8 + (1 + 11) + 0 ≤ rm.locals by omega⟩ ⟨show k.1 + 1 + 0 + 0 ≤ rm.cells by omega, show k.2 + 6 + 0 + 0 ≤ rm.slots by omega⟩ ⟨rfl, rfl⟩ M2 rfl (fun locs3 S3 => ?_)
  refine yy_iload F d_L_law_373 (n := 375) rfl 1 rfl ?_
  refine yy_ic_eq_t (tgt := 380) F d_L_law_375 (by decide) rfl ?_
  refine yy_iload F d_L_law_380 (n := 382) rfl 1 rfl ?_
  cases hr : (sp_size σ (xs (i + 1))).1 with
  | some E =>
    have hp9 := m_pos (ex_size_ σ (xs (i + 1)) E hr) (by decide)
    refine yy_if_ne_t (tgt := 397) F d_L_law_382 (by decide) hp9.2 ?_
    refine yy_goto (tgt := 1801) F d_L_law_397 (by decide) ?_
    exact yy_sub [2, 3, 4, 5, 6] rfl (kk A1 (sp_size σ (xs (i + 1))).2.2 s2 _ g1 H2 _ _ Z2 S3 (by show k.1 + 1 + 0 ≤ k.1 + 4; omega) (by show k.2 + 6 + 0 ≤ k.2 + 56; omega))
  | none =>
    have hg9 := hg1 hr
    have hv9 := hv2 hr
    refine yy_if_ne_f (tgt := 397) F d_L_law_382 (n := 385) rfl (by decide) rfl ?_
    refine yy_aload_n F d_L_law_385 (n := 386) rfl 3 rfl ?_
    refine yy_iconst (v := 0) F d_L_law_386 (n := 387) rfl rfl ?_
    refine yy_lald F X.2.1 3 rfl O2 (i := 0) (vp_in_nI (n := 0) (by decide) (by decide)) d_L_law_387 (n := 388) rfl ?_
    refine yy_iload F d_L_law_388 (n := 390) rfl 0 rfl ?_
    refine yy_i2l F d_L_law_390 (n := 391) rfl rfl ?_
    refine yy_lcmp F d_L_law_391 (n := 392) rfl ?_
    refine yy_tope (y := 0) (by rw [show g1 (0 : Int32).toNatClampNeg = v2.toInt64 by rw [hv9]; exact hg9]; exact lg_cmp0 _) ?_
    refine yy_if_eq_t (tgt := 397) F d_L_law_392 (by decide) rfl ?_
    refine yy_goto (tgt := 1801) F d_L_law_397 (by decide) ?_
    exact yy_sub [2, 3, 4, 5, 6] rfl (kk A1 (sp_size σ (xs (i + 1))).2.2 s2 _ g1 H2 _ _ Z2 S3 (by show k.1 + 1 + 0 ≤ k.1 + 4; omega) (by show k.2 + 6 + 0 ≤ k.2 + 56; omega))
set_option maxRecDepth 100000 in
set_option maxHeartbeats 4000000 in
theorem cs_get {b : yy_T} {rm : Room} {Post : yy_R → Heap → Prop} {l : Launch} {z : State} {a0 : Array Value} {D : va_G} {ca : kca} (X : kcx l z a0 D ca) (F : yy_A l z b rm code 7 R_L (some .boolean) [] Post) {sc L i : Nat} {xs : Nat → Int32} (hX : va_X sc L xs z z.heap) (hsc : sc < z.heap.size) (hi : i + 4 ≤ L) (hL : L ≤ 2048) {K a n ou : Nat} {A : kA} {σ : ks} {t : Nat} {s : ms} {cd : Int32} {g : Nat → Int64} {H : Heap} {locs : List Loc} {k : Nat × Nat} (Z : l_in D ca z K a n ou A σ t s cd g H) (ht : t + 25 ≤ 100000) (hS : yy_S z H locs) (hk : k.1 + 4 ≤ rm.cells ∧ k.2 + 56 ≤ rm.slots) (hfr : 11 ≤ rm.frames ∧ 300 ≤ rm.locals)
    (kk : ∀ (A1 : kA) (σ1 : ks) (s1 : ms) (cd1 : Int32) (g1 : Nat → Int64) (H1 : Heap) (locs1 : List Loc) (k1 : Nat × Nat), l_in D ca z K a n ou A1 σ1 (t + 25) s1 cd1 g1 H1 → yy_S z H1 locs1 → k1.1 ≤ k.1 + 4 → k1.2 ≤ k.2 + 56 → yy_Y b H1 locs1 k1 1801 [(4, .int (nI i)), (3, .ref ou), (2, .ref a), (1, .ref K), (0, .ref sc)] []) : yy_Y b H locs k 400 [(4, .int (nI i)), (3, .ref ou), (2, .ref a), (1, .ref K), (0, .ref sc)] [] := by
  have Z0 := Z
  obtain ⟨I, P, R, M, O, hK, hown, hoz, hoa, hon⟩ := Z
  subst hK
  refine yy_aload_n F d_L_law_400 (n := 401) rfl 3 rfl ?_
  refine yy_aload_n F d_L_law_401 (n := 402) rfl 4 rfl ?_
  refine yy_iload F d_L_law_402 (n := 404) rfl 0 rfl ?_
  refine yy_iconst (v := 1) F d_L_law_404 (n := 405) rfl rfl ?_
  refine yy_iadd F d_L_law_405 (n := 406) rfl ?_
  refine yy_tope (y := (nI (i + 1))) (nI_add i 1) ?_
  refine yy_sld F hX hsc hS (vp_in_nI (n := (i + 1)) (by omega) (by omega)) d_L_law_406 (n := 407) rfl ?_
  refine yy_tope (y := (xs (i + 1))) (nI_xld (by omega) hL) ?_
  refine yy_aload_n F d_L_law_407 (n := 408) rfl 4 rfl ?_
  refine yy_iload F d_L_law_408 (n := 410) rfl 0 rfl ?_
  refine yy_iconst (v := 2) F d_L_law_410 (n := 411) rfl rfl ?_
  refine yy_iadd F d_L_law_411 (n := 412) rfl ?_
  refine yy_tope (y := (nI (i + 2))) (nI_add i 2) ?_
  refine yy_sld F hX hsc hS (vp_in_nI (n := (i + 2)) (by omega) (by omega)) d_L_law_412 (n := 413) rfl ?_
  refine yy_tope (y := (xs (i + 2))) (nI_xld (by omega) hL) ?_
  refine yy_aload_n F d_L_law_413 (n := 414) rfl 1 rfl ?_
  refine yy_calli F hS (c_L_get (A := A) (σ := σ) (x := xs (i + 1)) (p := xs (i + 2)) X I ht hown.2.2 hoz) (yy_Bw F X.1 q_409 q_0) (yy_invSW (nA := 4) F X.1 q_407 q_408 q_0 q_409 ⟨by decide, by decide, by decide +kernel⟩ rfl d_L_law_414) d_L_law_414 (n := 417) rfl (by simp [Value.category]) ⟨show 9 + 1 ≤ rm.frames by omega, show 8 + (5 + 11) + 148 ≤ rm.locals by omega⟩ ⟨show k.1 + 1 ≤ rm.cells by omega, show k.2 + 6 ≤ rm.slots by omega⟩ ⟨P, O⟩ (fun v1 H1 locs1 q1 S1 => ?_)
  obtain ⟨hv1, ⟨A1, P1, hx1⟩, ⟨g1, O1, hg1⟩, hs1, hf1⟩ := q1
  obtain ⟨M1, hK1, hown1⟩ := l_mid Z0 P1 hx1 O1 hs1 hf1
  refine yy_tope (y := (c_of [e_io, e_uo, e_ns, e_rt] (sp_get σ (xs (i + 1)) (xs (i + 2))).1)) hv1 ?_
  refine yy_istore (lv' := [(5, .int (c_of [e_io, e_uo, e_ns, e_rt] (sp_get σ (xs (i + 1)) (xs (i + 2))).1)), (4, .int (nI i)), (3, .ref ou), (2, .ref a), (1, .ref (a_k A)), (0, .ref sc)]) F d_L_law_417 (n := 419) rfl (by decide) rfl ?_
  refine yy_aload_n F d_L_law_419 (n := 420) rfl 3 rfl ?_
  refine yy_aload_n F d_L_law_420 (n := 421) rfl 5 rfl ?_
  refine yy_iload F d_L_law_421 (n := 423) rfl 1 rfl ?_
  refine yy_iconst (v := 1) F d_L_law_423 (n := 424) rfl rfl ?_
  refine yy_iadd F d_L_law_424 (n := 425) rfl ?_
  refine yy_tope (y := (nI (i + 1))) (nI_add i 1) ?_
  refine yy_sld F hX hsc S1 (vp_in_nI (n := (i + 1)) (by omega) (by omega)) d_L_law_425 (n := 426) rfl ?_
  refine yy_tope (y := (xs (i + 1))) (nI_xld (by omega) hL) ?_
  refine yy_aload_n F d_L_law_426 (n := 427) rfl 5 rfl ?_
  refine yy_iload F d_L_law_427 (n := 429) rfl 1 rfl ?_
  refine yy_iconst (v := 2) F d_L_law_429 (n := 430) rfl rfl ?_
  refine yy_iadd F d_L_law_430 (n := 431) rfl ?_
  refine yy_tope (y := (nI (i + 2))) (nI_add i 2) ?_
  refine yy_sld F hX hsc S1 (vp_in_nI (n := (i + 2)) (by omega) (by omega)) d_L_law_431 (n := 432) rfl ?_
  refine yy_tope (y := (xs (i + 2))) (nI_xld (by omega) hL) ?_
  refine yy_calli F S1 (c_M_get (σ := σ) (x := xs (i + 1)) (p := xs (i + 2)) X I R) (yy_Bc F X.1 q_954 q_3) (yy_invV (nA := 2) (C := R_M) (bytes := b_M_get) (maxL := 3) (retY := (some .int)) F X.1 q_951 q_952 q_953 q_954 ⟨by decide, by decide, by decide +kernel⟩ (yy_recv F.N X.2.1 (ci := 6) rfl M1.o) rfl d_L_law_432) d_L_law_432 (n := 435) rfl (by simp [Value.category]) ⟨show 2 + 1 ≤ rm.frames by omega, show 8 + (3 + 11) + 45 ≤ rm.locals by omega⟩ ⟨show k.1 + 1 + 0 ≤ rm.cells by omega, show k.2 + 6 + 0 ≤ rm.slots by omega⟩ M1 (fun v2 H2 locs2 q2 S2 => ?_)
  obtain ⟨⟨⟨s2, R2, M2⟩, k2⟩, hv2⟩ := q2
  have I2 := iv_get I ht (xs (i + 1)) (xs (i + 2))
  have Z2 := l_fin I2 P1 R2 M1 M2 O1 hK1 hown1 ⟨hoz, hoa, hon⟩ k2
  have O2 := Z2.2.2.2.2.1
  refine yy_istore (lv' := [(6, .int v2), (5, .int (c_of [e_io, e_uo, e_ns, e_rt] (sp_get σ (xs (i + 1)) (xs (i + 2))).1)), (4, .int (nI i)), (3, .ref ou), (2, .ref a), (1, .ref (a_k A)), (0, .ref sc)]) F d_L_law_435 (n := 437) rfl (by decide) rfl ?_
  refine yy_aload_n F d_L_law_437 (n := 438) rfl 4 rfl ?_
  refine yy_cri (w := c_of [e_io, e_uo, e_ns, e_rt] (sp_get σ (xs (i + 1)) (xs (i + 2))).1) F S2 (c_M_thrown X I2 R2) (yy_Bc F X.1 q_902 q_3) (yy_invV (nA := 0) (C := R_M) (bytes := b_M_thrown) (maxL := 1) (retY := (some .int)) F X.1 q_899 q_900 q_901 q_902 ⟨by decide, by decide, by decide +kernel⟩ (yy_recv F.N X.2.1 (ci := 6) rfl M2.o) rfl d_L_law_438) d_L_law_438 (n := 441) rfl (by simp [Value.category]) ⟨show 0 + 1 ≤ rm.frames by omega, show 8 + (1 + 11) + 0 ≤ rm.locals by omega⟩ ⟨show k.1 + 1 + 0 + 0 ≤ rm.cells by omega, show k.2 + 6 + 0 + 0 ≤ rm.slots by omega⟩ ⟨rfl, rfl⟩ M2 rfl (fun locs3 S3 => ?_)
  refine yy_iload F d_L_law_441 (n := 443) rfl 1 rfl ?_
  refine yy_ic_eq_t (tgt := 448) F d_L_law_443 (by decide) rfl ?_
  refine yy_iload F d_L_law_448 (n := 450) rfl 1 rfl ?_
  cases hr : (sp_get σ (xs (i + 1)) (xs (i + 2))).1 with
  | some E =>
    have hp9 := m_pos (ex_get_ σ (xs (i + 1)) (xs (i + 2)) E hr) (by decide)
    refine yy_if_ne_t (tgt := 465) F d_L_law_450 (by decide) hp9.2 ?_
    refine yy_goto (tgt := 1801) F d_L_law_465 (by decide) ?_
    exact yy_sub [2, 3, 4, 5, 6] rfl (kk A1 (sp_get σ (xs (i + 1)) (xs (i + 2))).2.2 s2 _ g1 H2 _ _ Z2 S3 (by show k.1 + 1 + 0 ≤ k.1 + 4; omega) (by show k.2 + 6 + 0 ≤ k.2 + 56; omega))
  | none =>
    have hg9 := hg1 hr
    have hv9 := hv2 hr
    refine yy_if_ne_f (tgt := 465) F d_L_law_450 (n := 453) rfl (by decide) rfl ?_
    refine yy_aload_n F d_L_law_453 (n := 454) rfl 3 rfl ?_
    refine yy_iconst (v := 0) F d_L_law_454 (n := 455) rfl rfl ?_
    refine yy_lald F X.2.1 3 rfl O2 (i := 0) (vp_in_nI (n := 0) (by decide) (by decide)) d_L_law_455 (n := 456) rfl ?_
    refine yy_iload F d_L_law_456 (n := 458) rfl 0 rfl ?_
    refine yy_i2l F d_L_law_458 (n := 459) rfl rfl ?_
    refine yy_lcmp F d_L_law_459 (n := 460) rfl ?_
    refine yy_tope (y := 0) (by rw [show g1 (0 : Int32).toNatClampNeg = v2.toInt64 by rw [hv9]; exact hg9]; exact lg_cmp0 _) ?_
    refine yy_if_eq_t (tgt := 465) F d_L_law_460 (by decide) rfl ?_
    refine yy_goto (tgt := 1801) F d_L_law_465 (by decide) ?_
    exact yy_sub [2, 3, 4, 5, 6] rfl (kk A1 (sp_get σ (xs (i + 1)) (xs (i + 2))).2.2 s2 _ g1 H2 _ _ Z2 S3 (by show k.1 + 1 + 0 ≤ k.1 + 4; omega) (by show k.2 + 6 + 0 ≤ k.2 + 56; omega))
set_option maxRecDepth 100000 in
set_option maxHeartbeats 4000000 in
theorem cs_set {b : yy_T} {rm : Room} {Post : yy_R → Heap → Prop} {l : Launch} {z : State} {a0 : Array Value} {D : va_G} {ca : kca} (X : kcx l z a0 D ca) (F : yy_A l z b rm code 7 R_L (some .boolean) [] Post) {sc L i : Nat} {xs : Nat → Int32} (hX : va_X sc L xs z z.heap) (hsc : sc < z.heap.size) (hi : i + 4 ≤ L) (hL : L ≤ 2048) {K a n ou : Nat} {A : kA} {σ : ks} {t : Nat} {s : ms} {cd : Int32} {g : Nat → Int64} {H : Heap} {locs : List Loc} {k : Nat × Nat} (Z : l_in D ca z K a n ou A σ t s cd g H) (ht : t + 25 ≤ 100000) (hS : yy_S z H locs) (hk : k.1 + 4 ≤ rm.cells ∧ k.2 + 56 ≤ rm.slots) (hfr : 11 ≤ rm.frames ∧ 300 ≤ rm.locals)
    (kk : ∀ (A1 : kA) (σ1 : ks) (s1 : ms) (cd1 : Int32) (g1 : Nat → Int64) (H1 : Heap) (locs1 : List Loc) (k1 : Nat × Nat), l_in D ca z K a n ou A1 σ1 (t + 25) s1 cd1 g1 H1 → yy_S z H1 locs1 → k1.1 ≤ k.1 + 4 → k1.2 ≤ k.2 + 56 → yy_Y b H1 locs1 k1 1801 [(4, .int (nI i)), (3, .ref ou), (2, .ref a), (1, .ref K), (0, .ref sc)] []) : yy_Y b H locs k 468 [(4, .int (nI i)), (3, .ref ou), (2, .ref a), (1, .ref K), (0, .ref sc)] [] := by
  have Z0 := Z
  obtain ⟨I, P, R, M, O, hK, hown, hoz, hoa, hon⟩ := Z
  subst hK
  refine yy_aload_n F d_L_law_468 (n := 469) rfl 3 rfl ?_
  refine yy_aload_n F d_L_law_469 (n := 470) rfl 4 rfl ?_
  refine yy_iload F d_L_law_470 (n := 472) rfl 0 rfl ?_
  refine yy_iconst (v := 1) F d_L_law_472 (n := 473) rfl rfl ?_
  refine yy_iadd F d_L_law_473 (n := 474) rfl ?_
  refine yy_tope (y := (nI (i + 1))) (nI_add i 1) ?_
  refine yy_sld F hX hsc hS (vp_in_nI (n := (i + 1)) (by omega) (by omega)) d_L_law_474 (n := 475) rfl ?_
  refine yy_tope (y := (xs (i + 1))) (nI_xld (by omega) hL) ?_
  refine yy_aload_n F d_L_law_475 (n := 476) rfl 4 rfl ?_
  refine yy_iload F d_L_law_476 (n := 478) rfl 0 rfl ?_
  refine yy_iconst (v := 2) F d_L_law_478 (n := 479) rfl rfl ?_
  refine yy_iadd F d_L_law_479 (n := 480) rfl ?_
  refine yy_tope (y := (nI (i + 2))) (nI_add i 2) ?_
  refine yy_sld F hX hsc hS (vp_in_nI (n := (i + 2)) (by omega) (by omega)) d_L_law_480 (n := 481) rfl ?_
  refine yy_tope (y := (xs (i + 2))) (nI_xld (by omega) hL) ?_
  refine yy_aload_n F d_L_law_481 (n := 482) rfl 4 rfl ?_
  refine yy_iload F d_L_law_482 (n := 484) rfl 0 rfl ?_
  refine yy_iconst (v := 3) F d_L_law_484 (n := 485) rfl rfl ?_
  refine yy_iadd F d_L_law_485 (n := 486) rfl ?_
  refine yy_tope (y := (nI (i + 3))) (nI_add i 3) ?_
  refine yy_sld F hX hsc hS (vp_in_nI (n := (i + 3)) (by omega) (by omega)) d_L_law_486 (n := 487) rfl ?_
  refine yy_tope (y := (xs (i + 3))) (nI_xld (by omega) hL) ?_
  refine yy_aload_n F d_L_law_487 (n := 488) rfl 1 rfl ?_
  refine yy_calli F hS (c_L_set (A := A) (σ := σ) (x := xs (i + 1)) (p := xs (i + 2)) (y := xs (i + 3)) X I ht hown.2.2 hoz) (yy_Bw F X.1 q_464 q_0) (yy_invSW (nA := 5) F X.1 q_462 q_463 q_0 q_464 ⟨by decide, by decide, by decide +kernel⟩ rfl d_L_law_488) d_L_law_488 (n := 491) rfl (by simp [Value.category]) ⟨show 9 + 1 ≤ rm.frames by omega, show 8 + (6 + 11) + 149 ≤ rm.locals by omega⟩ ⟨show k.1 + 1 ≤ rm.cells by omega, show k.2 + 6 ≤ rm.slots by omega⟩ ⟨P, O⟩ (fun v1 H1 locs1 q1 S1 => ?_)
  obtain ⟨hv1, ⟨A1, P1, hx1⟩, ⟨g1, O1, hg1⟩, hs1, hf1⟩ := q1
  obtain ⟨M1, hK1, hown1⟩ := l_mid Z0 P1 hx1 O1 hs1 hf1
  refine yy_tope (y := (c_of [e_io, e_uo, e_ns, e_rt] (sp_set σ (xs (i + 1)) (xs (i + 2)) (xs (i + 3))).1)) hv1 ?_
  refine yy_istore (lv' := [(5, .int (c_of [e_io, e_uo, e_ns, e_rt] (sp_set σ (xs (i + 1)) (xs (i + 2)) (xs (i + 3))).1)), (4, .int (nI i)), (3, .ref ou), (2, .ref a), (1, .ref (a_k A)), (0, .ref sc)]) F d_L_law_491 (n := 493) rfl (by decide) rfl ?_
  refine yy_aload_n F d_L_law_493 (n := 494) rfl 3 rfl ?_
  refine yy_aload_n F d_L_law_494 (n := 495) rfl 5 rfl ?_
  refine yy_iload F d_L_law_495 (n := 497) rfl 1 rfl ?_
  refine yy_iconst (v := 1) F d_L_law_497 (n := 498) rfl rfl ?_
  refine yy_iadd F d_L_law_498 (n := 499) rfl ?_
  refine yy_tope (y := (nI (i + 1))) (nI_add i 1) ?_
  refine yy_sld F hX hsc S1 (vp_in_nI (n := (i + 1)) (by omega) (by omega)) d_L_law_499 (n := 500) rfl ?_
  refine yy_tope (y := (xs (i + 1))) (nI_xld (by omega) hL) ?_
  refine yy_aload_n F d_L_law_500 (n := 501) rfl 5 rfl ?_
  refine yy_iload F d_L_law_501 (n := 503) rfl 1 rfl ?_
  refine yy_iconst (v := 2) F d_L_law_503 (n := 504) rfl rfl ?_
  refine yy_iadd F d_L_law_504 (n := 505) rfl ?_
  refine yy_tope (y := (nI (i + 2))) (nI_add i 2) ?_
  refine yy_sld F hX hsc S1 (vp_in_nI (n := (i + 2)) (by omega) (by omega)) d_L_law_505 (n := 506) rfl ?_
  refine yy_tope (y := (xs (i + 2))) (nI_xld (by omega) hL) ?_
  refine yy_aload_n F d_L_law_506 (n := 507) rfl 5 rfl ?_
  refine yy_iload F d_L_law_507 (n := 509) rfl 1 rfl ?_
  refine yy_iconst (v := 3) F d_L_law_509 (n := 510) rfl rfl ?_
  refine yy_iadd F d_L_law_510 (n := 511) rfl ?_
  refine yy_tope (y := (nI (i + 3))) (nI_add i 3) ?_
  refine yy_sld F hX hsc S1 (vp_in_nI (n := (i + 3)) (by omega) (by omega)) d_L_law_511 (n := 512) rfl ?_
  refine yy_tope (y := (xs (i + 3))) (nI_xld (by omega) hL) ?_
  refine yy_calli F S1 (c_M_set (σ := σ) (x := xs (i + 1)) (p := xs (i + 2)) (v := xs (i + 3)) X I R) (yy_Bc F X.1 q_966 q_3) (yy_invV (nA := 3) (C := R_M) (bytes := b_M_set) (maxL := 5) (retY := (some .int)) F X.1 q_963 q_964 q_965 q_966 ⟨by decide, by decide, by decide +kernel⟩ (yy_recv F.N X.2.1 (ci := 6) rfl M1.o) rfl d_L_law_512) d_L_law_512 (n := 515) rfl (by simp [Value.category]) ⟨show 3 + 1 ≤ rm.frames by omega, show 8 + (5 + 11) + 67 ≤ rm.locals by omega⟩ ⟨show k.1 + 1 + 0 ≤ rm.cells by omega, show k.2 + 6 + 0 ≤ rm.slots by omega⟩ M1 (fun v2 H2 locs2 q2 S2 => ?_)
  obtain ⟨⟨⟨s2, R2, M2⟩, k2⟩, hv2⟩ := q2
  have I2 := iv_set I ht (xs (i + 1)) (xs (i + 2)) (xs (i + 3))
  have Z2 := l_fin I2 P1 R2 M1 M2 O1 hK1 hown1 ⟨hoz, hoa, hon⟩ k2
  have O2 := Z2.2.2.2.2.1
  refine yy_istore (lv' := [(6, .int v2), (5, .int (c_of [e_io, e_uo, e_ns, e_rt] (sp_set σ (xs (i + 1)) (xs (i + 2)) (xs (i + 3))).1)), (4, .int (nI i)), (3, .ref ou), (2, .ref a), (1, .ref (a_k A)), (0, .ref sc)]) F d_L_law_515 (n := 517) rfl (by decide) rfl ?_
  refine yy_aload_n F d_L_law_517 (n := 518) rfl 4 rfl ?_
  refine yy_cri (w := c_of [e_io, e_uo, e_ns, e_rt] (sp_set σ (xs (i + 1)) (xs (i + 2)) (xs (i + 3))).1) F S2 (c_M_thrown X I2 R2) (yy_Bc F X.1 q_902 q_3) (yy_invV (nA := 0) (C := R_M) (bytes := b_M_thrown) (maxL := 1) (retY := (some .int)) F X.1 q_899 q_900 q_901 q_902 ⟨by decide, by decide, by decide +kernel⟩ (yy_recv F.N X.2.1 (ci := 6) rfl M2.o) rfl d_L_law_518) d_L_law_518 (n := 521) rfl (by simp [Value.category]) ⟨show 0 + 1 ≤ rm.frames by omega, show 8 + (1 + 11) + 0 ≤ rm.locals by omega⟩ ⟨show k.1 + 1 + 0 + 0 ≤ rm.cells by omega, show k.2 + 6 + 0 + 0 ≤ rm.slots by omega⟩ ⟨rfl, rfl⟩ M2 rfl (fun locs3 S3 => ?_)
  refine yy_iload F d_L_law_521 (n := 523) rfl 1 rfl ?_
  refine yy_ic_eq_t (tgt := 528) F d_L_law_523 (by decide) rfl ?_
  refine yy_iload F d_L_law_528 (n := 530) rfl 1 rfl ?_
  cases hr : (sp_set σ (xs (i + 1)) (xs (i + 2)) (xs (i + 3))).1 with
  | some E =>
    have hp9 := m_pos (ex_set_ σ (xs (i + 1)) (xs (i + 2)) (xs (i + 3)) E hr) (by decide)
    refine yy_if_ne_t (tgt := 545) F d_L_law_530 (by decide) hp9.2 ?_
    refine yy_goto (tgt := 1801) F d_L_law_545 (by decide) ?_
    exact yy_sub [2, 3, 4, 5, 6] rfl (kk A1 (sp_set σ (xs (i + 1)) (xs (i + 2)) (xs (i + 3))).2.2 s2 _ g1 H2 _ _ Z2 S3 (by show k.1 + 1 + 0 ≤ k.1 + 4; omega) (by show k.2 + 6 + 0 ≤ k.2 + 56; omega))
  | none =>
    have hg9 := hg1 hr
    have hv9 := hv2 hr
    refine yy_if_ne_f (tgt := 545) F d_L_law_530 (n := 533) rfl (by decide) rfl ?_
    refine yy_aload_n F d_L_law_533 (n := 534) rfl 3 rfl ?_
    refine yy_iconst (v := 0) F d_L_law_534 (n := 535) rfl rfl ?_
    refine yy_lald F X.2.1 3 rfl O2 (i := 0) (vp_in_nI (n := 0) (by decide) (by decide)) d_L_law_535 (n := 536) rfl ?_
    refine yy_iload F d_L_law_536 (n := 538) rfl 0 rfl ?_
    refine yy_i2l F d_L_law_538 (n := 539) rfl rfl ?_
    refine yy_lcmp F d_L_law_539 (n := 540) rfl ?_
    refine yy_tope (y := 0) (by rw [show g1 (0 : Int32).toNatClampNeg = v2.toInt64 by rw [hv9]; exact hg9]; exact lg_cmp0 _) ?_
    refine yy_if_eq_t (tgt := 545) F d_L_law_540 (by decide) rfl ?_
    refine yy_goto (tgt := 1801) F d_L_law_545 (by decide) ?_
    exact yy_sub [2, 3, 4, 5, 6] rfl (kk A1 (sp_set σ (xs (i + 1)) (xs (i + 2)) (xs (i + 3))).2.2 s2 _ g1 H2 _ _ Z2 S3 (by show k.1 + 1 + 0 ≤ k.1 + 4; omega) (by show k.2 + 6 + 0 ≤ k.2 + 56; omega))
set_option maxRecDepth 100000 in
set_option maxHeartbeats 4000000 in
theorem cs_insert {b : yy_T} {rm : Room} {Post : yy_R → Heap → Prop} {l : Launch} {z : State} {a0 : Array Value} {D : va_G} {ca : kca} (X : kcx l z a0 D ca) (F : yy_A l z b rm code 7 R_L (some .boolean) [] Post) {sc L i : Nat} {xs : Nat → Int32} (hX : va_X sc L xs z z.heap) (hsc : sc < z.heap.size) (hi : i + 4 ≤ L) (hL : L ≤ 2048) {K a n ou : Nat} {A : kA} {σ : ks} {t : Nat} {s : ms} {cd : Int32} {g : Nat → Int64} {H : Heap} {locs : List Loc} {k : Nat × Nat} (Z : l_in D ca z K a n ou A σ t s cd g H) (ht : t + 25 ≤ 100000) (hS : yy_S z H locs) (hk : k.1 + 4 ≤ rm.cells ∧ k.2 + 56 ≤ rm.slots) (hfr : 11 ≤ rm.frames ∧ 300 ≤ rm.locals)
    (kk : ∀ (A1 : kA) (σ1 : ks) (s1 : ms) (cd1 : Int32) (g1 : Nat → Int64) (H1 : Heap) (locs1 : List Loc) (k1 : Nat × Nat), l_in D ca z K a n ou A1 σ1 (t + 25) s1 cd1 g1 H1 → yy_S z H1 locs1 → k1.1 ≤ k.1 + 4 → k1.2 ≤ k.2 + 56 → yy_Y b H1 locs1 k1 1801 [(4, .int (nI i)), (3, .ref ou), (2, .ref a), (1, .ref K), (0, .ref sc)] []) : yy_Y b H locs k 548 [(4, .int (nI i)), (3, .ref ou), (2, .ref a), (1, .ref K), (0, .ref sc)] [] := by
  have Z0 := Z
  obtain ⟨I, P, R, M, O, hK, hown, hoz, hoa, hon⟩ := Z
  subst hK
  refine yy_aload_n F d_L_law_548 (n := 549) rfl 3 rfl ?_
  refine yy_aload_n F d_L_law_549 (n := 550) rfl 4 rfl ?_
  refine yy_iload F d_L_law_550 (n := 552) rfl 0 rfl ?_
  refine yy_iconst (v := 1) F d_L_law_552 (n := 553) rfl rfl ?_
  refine yy_iadd F d_L_law_553 (n := 554) rfl ?_
  refine yy_tope (y := (nI (i + 1))) (nI_add i 1) ?_
  refine yy_sld F hX hsc hS (vp_in_nI (n := (i + 1)) (by omega) (by omega)) d_L_law_554 (n := 555) rfl ?_
  refine yy_tope (y := (xs (i + 1))) (nI_xld (by omega) hL) ?_
  refine yy_aload_n F d_L_law_555 (n := 556) rfl 4 rfl ?_
  refine yy_iload F d_L_law_556 (n := 558) rfl 0 rfl ?_
  refine yy_iconst (v := 2) F d_L_law_558 (n := 559) rfl rfl ?_
  refine yy_iadd F d_L_law_559 (n := 560) rfl ?_
  refine yy_tope (y := (nI (i + 2))) (nI_add i 2) ?_
  refine yy_sld F hX hsc hS (vp_in_nI (n := (i + 2)) (by omega) (by omega)) d_L_law_560 (n := 561) rfl ?_
  refine yy_tope (y := (xs (i + 2))) (nI_xld (by omega) hL) ?_
  refine yy_aload_n F d_L_law_561 (n := 562) rfl 4 rfl ?_
  refine yy_iload F d_L_law_562 (n := 564) rfl 0 rfl ?_
  refine yy_iconst (v := 3) F d_L_law_564 (n := 565) rfl rfl ?_
  refine yy_iadd F d_L_law_565 (n := 566) rfl ?_
  refine yy_tope (y := (nI (i + 3))) (nI_add i 3) ?_
  refine yy_sld F hX hsc hS (vp_in_nI (n := (i + 3)) (by omega) (by omega)) d_L_law_566 (n := 567) rfl ?_
  refine yy_tope (y := (xs (i + 3))) (nI_xld (by omega) hL) ?_
  refine yy_calli F hS (c_L_insert (A := A) (σ := σ) (x := xs (i + 1)) (p := xs (i + 2)) (y := xs (i + 3)) X I ht hown.2.2 hoz) (yy_Bw F X.1 q_483 q_0) (yy_invSW (nA := 4) F X.1 q_481 q_482 q_0 q_483 ⟨by decide, by decide, by decide +kernel⟩ rfl d_L_law_567) d_L_law_567 (n := 570) rfl (by simp [Value.category]) ⟨show 9 + 1 ≤ rm.frames by omega, show 8 + (5 + 11) + 150 ≤ rm.locals by omega⟩ ⟨show k.1 + 1 ≤ rm.cells by omega, show k.2 + 6 ≤ rm.slots by omega⟩ ⟨P, O⟩ (fun v1 H1 locs1 q1 S1 => ?_)
  obtain ⟨hv1, ⟨A1, P1, hx1⟩, ⟨g1, O1, hg1⟩, hs1, hf1⟩ := q1
  obtain ⟨M1, hK1, hown1⟩ := l_mid Z0 P1 hx1 O1 hs1 hf1
  refine yy_tope (y := (c_of [e_io, e_uo, e_ns, e_is, e_rt] (sp_insert σ (xs (i + 1)) (xs (i + 2)) (xs (i + 3))).1)) hv1 ?_
  refine yy_istore (lv' := [(5, .int (c_of [e_io, e_uo, e_ns, e_is, e_rt] (sp_insert σ (xs (i + 1)) (xs (i + 2)) (xs (i + 3))).1)), (4, .int (nI i)), (3, .ref ou), (2, .ref a), (1, .ref (a_k A)), (0, .ref sc)]) F d_L_law_570 (n := 572) rfl (by decide) rfl ?_
  refine yy_aload_n F d_L_law_572 (n := 573) rfl 3 rfl ?_
  refine yy_aload_n F d_L_law_573 (n := 574) rfl 5 rfl ?_
  refine yy_iload F d_L_law_574 (n := 576) rfl 1 rfl ?_
  refine yy_iconst (v := 1) F d_L_law_576 (n := 577) rfl rfl ?_
  refine yy_iadd F d_L_law_577 (n := 578) rfl ?_
  refine yy_tope (y := (nI (i + 1))) (nI_add i 1) ?_
  refine yy_sld F hX hsc S1 (vp_in_nI (n := (i + 1)) (by omega) (by omega)) d_L_law_578 (n := 579) rfl ?_
  refine yy_tope (y := (xs (i + 1))) (nI_xld (by omega) hL) ?_
  refine yy_aload_n F d_L_law_579 (n := 580) rfl 5 rfl ?_
  refine yy_iload F d_L_law_580 (n := 582) rfl 1 rfl ?_
  refine yy_iconst (v := 2) F d_L_law_582 (n := 583) rfl rfl ?_
  refine yy_iadd F d_L_law_583 (n := 584) rfl ?_
  refine yy_tope (y := (nI (i + 2))) (nI_add i 2) ?_
  refine yy_sld F hX hsc S1 (vp_in_nI (n := (i + 2)) (by omega) (by omega)) d_L_law_584 (n := 585) rfl ?_
  refine yy_tope (y := (xs (i + 2))) (nI_xld (by omega) hL) ?_
  refine yy_aload_n F d_L_law_585 (n := 586) rfl 5 rfl ?_
  refine yy_iload F d_L_law_586 (n := 588) rfl 1 rfl ?_
  refine yy_iconst (v := 3) F d_L_law_588 (n := 589) rfl rfl ?_
  refine yy_iadd F d_L_law_589 (n := 590) rfl ?_
  refine yy_tope (y := (nI (i + 3))) (nI_add i 3) ?_
  refine yy_sld F hX hsc S1 (vp_in_nI (n := (i + 3)) (by omega) (by omega)) d_L_law_590 (n := 591) rfl ?_
  refine yy_tope (y := (xs (i + 3))) (nI_xld (by omega) hL) ?_
  refine yy_callv F S1 (c_M_insert (σ := σ) (x := xs (i + 1)) (p := xs (i + 2)) (v := xs (i + 3)) X I R) (yy_Bc F X.1 q_971 q_3) (yy_invV (nA := 3) (C := R_M) (bytes := b_M_insert) (maxL := 5) (retY := none) F X.1 q_968 q_969 q_970 q_971 ⟨by decide, by decide, by decide +kernel⟩ (yy_recv F.N X.2.1 (ci := 6) rfl M1.o) rfl d_L_law_591) d_L_law_591 (n := 594) rfl (by simp [Value.category]) ⟨show 3 + 1 ≤ rm.frames by omega, show 8 + (5 + 11) + 74 ≤ rm.locals by omega⟩ ⟨show k.1 + 1 + 0 ≤ rm.cells by omega, show k.2 + 6 + 0 ≤ rm.slots by omega⟩ M1 (fun H2 locs2 q2 S2 => ?_)
  obtain ⟨⟨s2, R2, M2⟩, k2⟩ := q2
  have I2 := iv_insert I ht (xs (i + 1)) (xs (i + 2)) (xs (i + 3))
  have Z2 := l_fin I2 P1 R2 M1 M2 O1 hK1 hown1 ⟨hoz, hoa, hon⟩ k2
  have O2 := Z2.2.2.2.2.1
  refine yy_aload_n F d_L_law_594 (n := 595) rfl 3 rfl ?_
  refine yy_cri (w := c_of [e_io, e_uo, e_ns, e_is, e_rt] (sp_insert σ (xs (i + 1)) (xs (i + 2)) (xs (i + 3))).1) F S2 (c_M_thrown X I2 R2) (yy_Bc F X.1 q_902 q_3) (yy_invV (nA := 0) (C := R_M) (bytes := b_M_thrown) (maxL := 1) (retY := (some .int)) F X.1 q_899 q_900 q_901 q_902 ⟨by decide, by decide, by decide +kernel⟩ (yy_recv F.N X.2.1 (ci := 6) rfl M2.o) rfl d_L_law_595) d_L_law_595 (n := 598) rfl (by simp [Value.category]) ⟨show 0 + 1 ≤ rm.frames by omega, show 8 + (1 + 11) + 0 ≤ rm.locals by omega⟩ ⟨show k.1 + 1 + 0 + 0 ≤ rm.cells by omega, show k.2 + 6 + 0 + 0 ≤ rm.slots by omega⟩ ⟨rfl, rfl⟩ M2 rfl (fun locs3 S3 => ?_)
  refine yy_iload F d_L_law_598 (n := 600) rfl 0 rfl ?_
  refine yy_ic_eq_t (tgt := 605) F d_L_law_600 (by decide) rfl ?_
  refine yy_goto (tgt := 1801) F d_L_law_605 (by decide) ?_
  exact yy_sub [1, 2, 3, 4, 5] rfl (kk A1 (sp_insert σ (xs (i + 1)) (xs (i + 2)) (xs (i + 3))).2.2 s2 _ g1 H2 _ _ Z2 S3 (by show k.1 + 1 + 0 ≤ k.1 + 4; omega) (by show k.2 + 6 + 0 ≤ k.2 + 56; omega))
set_option maxRecDepth 100000 in
set_option maxHeartbeats 4000000 in
theorem cs_remove {b : yy_T} {rm : Room} {Post : yy_R → Heap → Prop} {l : Launch} {z : State} {a0 : Array Value} {D : va_G} {ca : kca} (X : kcx l z a0 D ca) (F : yy_A l z b rm code 7 R_L (some .boolean) [] Post) {sc L i : Nat} {xs : Nat → Int32} (hX : va_X sc L xs z z.heap) (hsc : sc < z.heap.size) (hi : i + 4 ≤ L) (hL : L ≤ 2048) {K a n ou : Nat} {A : kA} {σ : ks} {t : Nat} {s : ms} {cd : Int32} {g : Nat → Int64} {H : Heap} {locs : List Loc} {k : Nat × Nat} (Z : l_in D ca z K a n ou A σ t s cd g H) (ht : t + 25 ≤ 100000) (hS : yy_S z H locs) (hk : k.1 + 4 ≤ rm.cells ∧ k.2 + 56 ≤ rm.slots) (hfr : 11 ≤ rm.frames ∧ 300 ≤ rm.locals)
    (kk : ∀ (A1 : kA) (σ1 : ks) (s1 : ms) (cd1 : Int32) (g1 : Nat → Int64) (H1 : Heap) (locs1 : List Loc) (k1 : Nat × Nat), l_in D ca z K a n ou A1 σ1 (t + 25) s1 cd1 g1 H1 → yy_S z H1 locs1 → k1.1 ≤ k.1 + 4 → k1.2 ≤ k.2 + 56 → yy_Y b H1 locs1 k1 1801 [(4, .int (nI i)), (3, .ref ou), (2, .ref a), (1, .ref K), (0, .ref sc)] []) : yy_Y b H locs k 608 [(4, .int (nI i)), (3, .ref ou), (2, .ref a), (1, .ref K), (0, .ref sc)] [] := by
  have Z0 := Z
  obtain ⟨I, P, R, M, O, hK, hown, hoz, hoa, hon⟩ := Z
  subst hK
  refine yy_aload_n F d_L_law_608 (n := 609) rfl 3 rfl ?_
  refine yy_aload_n F d_L_law_609 (n := 610) rfl 4 rfl ?_
  refine yy_iload F d_L_law_610 (n := 612) rfl 0 rfl ?_
  refine yy_iconst (v := 1) F d_L_law_612 (n := 613) rfl rfl ?_
  refine yy_iadd F d_L_law_613 (n := 614) rfl ?_
  refine yy_tope (y := (nI (i + 1))) (nI_add i 1) ?_
  refine yy_sld F hX hsc hS (vp_in_nI (n := (i + 1)) (by omega) (by omega)) d_L_law_614 (n := 615) rfl ?_
  refine yy_tope (y := (xs (i + 1))) (nI_xld (by omega) hL) ?_
  refine yy_aload_n F d_L_law_615 (n := 616) rfl 4 rfl ?_
  refine yy_iload F d_L_law_616 (n := 618) rfl 0 rfl ?_
  refine yy_iconst (v := 2) F d_L_law_618 (n := 619) rfl rfl ?_
  refine yy_iadd F d_L_law_619 (n := 620) rfl ?_
  refine yy_tope (y := (nI (i + 2))) (nI_add i 2) ?_
  refine yy_sld F hX hsc hS (vp_in_nI (n := (i + 2)) (by omega) (by omega)) d_L_law_620 (n := 621) rfl ?_
  refine yy_tope (y := (xs (i + 2))) (nI_xld (by omega) hL) ?_
  refine yy_aload_n F d_L_law_621 (n := 622) rfl 1 rfl ?_
  refine yy_calli F hS (c_L_remove (A := A) (σ := σ) (x := xs (i + 1)) (p := xs (i + 2)) X I ht hown.2.2 hoz) (yy_Bw F X.1 q_524 q_0) (yy_invSW (nA := 4) F X.1 q_522 q_523 q_0 q_524 ⟨by decide, by decide, by decide +kernel⟩ rfl d_L_law_622) d_L_law_622 (n := 625) rfl (by simp [Value.category]) ⟨show 9 + 1 ≤ rm.frames by omega, show 8 + (5 + 11) + 149 ≤ rm.locals by omega⟩ ⟨show k.1 + 1 ≤ rm.cells by omega, show k.2 + 6 ≤ rm.slots by omega⟩ ⟨P, O⟩ (fun v1 H1 locs1 q1 S1 => ?_)
  obtain ⟨hv1, ⟨A1, P1, hx1⟩, ⟨g1, O1, hg1⟩, hs1, hf1⟩ := q1
  obtain ⟨M1, hK1, hown1⟩ := l_mid Z0 P1 hx1 O1 hs1 hf1
  refine yy_tope (y := (c_of [e_io, e_uo, e_ns, e_rt] (sp_remove σ (xs (i + 1)) (xs (i + 2))).1)) hv1 ?_
  refine yy_istore (lv' := [(5, .int (c_of [e_io, e_uo, e_ns, e_rt] (sp_remove σ (xs (i + 1)) (xs (i + 2))).1)), (4, .int (nI i)), (3, .ref ou), (2, .ref a), (1, .ref (a_k A)), (0, .ref sc)]) F d_L_law_625 (n := 627) rfl (by decide) rfl ?_
  refine yy_aload_n F d_L_law_627 (n := 628) rfl 3 rfl ?_
  refine yy_aload_n F d_L_law_628 (n := 629) rfl 5 rfl ?_
  refine yy_iload F d_L_law_629 (n := 631) rfl 1 rfl ?_
  refine yy_iconst (v := 1) F d_L_law_631 (n := 632) rfl rfl ?_
  refine yy_iadd F d_L_law_632 (n := 633) rfl ?_
  refine yy_tope (y := (nI (i + 1))) (nI_add i 1) ?_
  refine yy_sld F hX hsc S1 (vp_in_nI (n := (i + 1)) (by omega) (by omega)) d_L_law_633 (n := 634) rfl ?_
  refine yy_tope (y := (xs (i + 1))) (nI_xld (by omega) hL) ?_
  refine yy_aload_n F d_L_law_634 (n := 635) rfl 5 rfl ?_
  refine yy_iload F d_L_law_635 (n := 637) rfl 1 rfl ?_
  refine yy_iconst (v := 2) F d_L_law_637 (n := 638) rfl rfl ?_
  refine yy_iadd F d_L_law_638 (n := 639) rfl ?_
  refine yy_tope (y := (nI (i + 2))) (nI_add i 2) ?_
  refine yy_sld F hX hsc S1 (vp_in_nI (n := (i + 2)) (by omega) (by omega)) d_L_law_639 (n := 640) rfl ?_
  refine yy_tope (y := (xs (i + 2))) (nI_xld (by omega) hL) ?_
  refine yy_calli F S1 (c_M_remove (σ := σ) (x := xs (i + 1)) (p := xs (i + 2)) X I R) (yy_Bc F X.1 q_987 q_3) (yy_invV (nA := 2) (C := R_M) (bytes := b_M_remove) (maxL := 6) (retY := (some .int)) F X.1 q_984 q_985 q_986 q_987 ⟨by decide, by decide, by decide +kernel⟩ (yy_recv F.N X.2.1 (ci := 6) rfl M1.o) rfl d_L_law_640) d_L_law_640 (n := 643) rfl (by simp [Value.category]) ⟨show 2 + 1 ≤ rm.frames by omega, show 8 + (6 + 11) + 48 ≤ rm.locals by omega⟩ ⟨show k.1 + 1 + 0 ≤ rm.cells by omega, show k.2 + 6 + 0 ≤ rm.slots by omega⟩ M1 (fun v2 H2 locs2 q2 S2 => ?_)
  obtain ⟨⟨⟨s2, R2, M2⟩, k2⟩, hv2⟩ := q2
  have I2 := iv_remove I ht (xs (i + 1)) (xs (i + 2))
  have Z2 := l_fin I2 P1 R2 M1 M2 O1 hK1 hown1 ⟨hoz, hoa, hon⟩ k2
  have O2 := Z2.2.2.2.2.1
  refine yy_istore (lv' := [(6, .int v2), (5, .int (c_of [e_io, e_uo, e_ns, e_rt] (sp_remove σ (xs (i + 1)) (xs (i + 2))).1)), (4, .int (nI i)), (3, .ref ou), (2, .ref a), (1, .ref (a_k A)), (0, .ref sc)]) F d_L_law_643 (n := 645) rfl (by decide) rfl ?_
  refine yy_aload_n F d_L_law_645 (n := 646) rfl 4 rfl ?_
  refine yy_cri (w := c_of [e_io, e_uo, e_ns, e_rt] (sp_remove σ (xs (i + 1)) (xs (i + 2))).1) F S2 (c_M_thrown X I2 R2) (yy_Bc F X.1 q_902 q_3) (yy_invV (nA := 0) (C := R_M) (bytes := b_M_thrown) (maxL := 1) (retY := (some .int)) F X.1 q_899 q_900 q_901 q_902 ⟨by decide, by decide, by decide +kernel⟩ (yy_recv F.N X.2.1 (ci := 6) rfl M2.o) rfl d_L_law_646) d_L_law_646 (n := 649) rfl (by simp [Value.category]) ⟨show 0 + 1 ≤ rm.frames by omega, show 8 + (1 + 11) + 0 ≤ rm.locals by omega⟩ ⟨show k.1 + 1 + 0 + 0 ≤ rm.cells by omega, show k.2 + 6 + 0 + 0 ≤ rm.slots by omega⟩ ⟨rfl, rfl⟩ M2 rfl (fun locs3 S3 => ?_)
  refine yy_iload F d_L_law_649 (n := 651) rfl 1 rfl ?_
  refine yy_ic_eq_t (tgt := 656) F d_L_law_651 (by decide) rfl ?_
  refine yy_iload F d_L_law_656 (n := 658) rfl 1 rfl ?_
  cases hr : (sp_remove σ (xs (i + 1)) (xs (i + 2))).1 with
  | some E =>
    have hp9 := m_pos (ex_remove_ σ (xs (i + 1)) (xs (i + 2)) E hr) (by decide)
    refine yy_if_ne_t (tgt := 673) F d_L_law_658 (by decide) hp9.2 ?_
    refine yy_goto (tgt := 1801) F d_L_law_673 (by decide) ?_
    exact yy_sub [2, 3, 4, 5, 6] rfl (kk A1 (sp_remove σ (xs (i + 1)) (xs (i + 2))).2.2 s2 _ g1 H2 _ _ Z2 S3 (by show k.1 + 1 + 0 ≤ k.1 + 4; omega) (by show k.2 + 6 + 0 ≤ k.2 + 56; omega))
  | none =>
    have hg9 := hg1 hr
    have hv9 := hv2 hr
    refine yy_if_ne_f (tgt := 673) F d_L_law_658 (n := 661) rfl (by decide) rfl ?_
    refine yy_aload_n F d_L_law_661 (n := 662) rfl 3 rfl ?_
    refine yy_iconst (v := 0) F d_L_law_662 (n := 663) rfl rfl ?_
    refine yy_lald F X.2.1 3 rfl O2 (i := 0) (vp_in_nI (n := 0) (by decide) (by decide)) d_L_law_663 (n := 664) rfl ?_
    refine yy_iload F d_L_law_664 (n := 666) rfl 0 rfl ?_
    refine yy_i2l F d_L_law_666 (n := 667) rfl rfl ?_
    refine yy_lcmp F d_L_law_667 (n := 668) rfl ?_
    refine yy_tope (y := 0) (by rw [show g1 (0 : Int32).toNatClampNeg = v2.toInt64 by rw [hv9]; exact hg9]; exact lg_cmp0 _) ?_
    refine yy_if_eq_t (tgt := 673) F d_L_law_668 (by decide) rfl ?_
    refine yy_goto (tgt := 1801) F d_L_law_673 (by decide) ?_
    exact yy_sub [2, 3, 4, 5, 6] rfl (kk A1 (sp_remove σ (xs (i + 1)) (xs (i + 2))).2.2 s2 _ g1 H2 _ _ Z2 S3 (by show k.1 + 1 + 0 ≤ k.1 + 4; omega) (by show k.2 + 6 + 0 ≤ k.2 + 56; omega))
set_option maxRecDepth 100000 in
set_option maxHeartbeats 4000000 in
theorem cs_sort {b : yy_T} {rm : Room} {Post : yy_R → Heap → Prop} {l : Launch} {z : State} {a0 : Array Value} {D : va_G} {ca : kca} (X : kcx l z a0 D ca) (F : yy_A l z b rm code 7 R_L (some .boolean) [] Post) {sc L i : Nat} {xs : Nat → Int32} (hX : va_X sc L xs z z.heap) (hsc : sc < z.heap.size) (hi : i + 4 ≤ L) (hL : L ≤ 2048) {K a n ou : Nat} {A : kA} {σ : ks} {t : Nat} {s : ms} {cd : Int32} {g : Nat → Int64} {H : Heap} {locs : List Loc} {k : Nat × Nat} (Z : l_in D ca z K a n ou A σ t s cd g H) (ht : t + 25 ≤ 100000) (hS : yy_S z H locs) (hk : k.1 + 4 ≤ rm.cells ∧ k.2 + 56 ≤ rm.slots) (hfr : 11 ≤ rm.frames ∧ 300 ≤ rm.locals)
    (kk : ∀ (A1 : kA) (σ1 : ks) (s1 : ms) (cd1 : Int32) (g1 : Nat → Int64) (H1 : Heap) (locs1 : List Loc) (k1 : Nat × Nat), l_in D ca z K a n ou A1 σ1 (t + 25) s1 cd1 g1 H1 → yy_S z H1 locs1 → k1.1 ≤ k.1 + 4 → k1.2 ≤ k.2 + 56 → yy_Y b H1 locs1 k1 1801 [(4, .int (nI i)), (3, .ref ou), (2, .ref a), (1, .ref K), (0, .ref sc)] []) : yy_Y b H locs k 676 [(4, .int (nI i)), (3, .ref ou), (2, .ref a), (1, .ref K), (0, .ref sc)] [] := by
  have Z0 := Z
  obtain ⟨I, P, R, M, O, hK, hown, hoz, hoa, hon⟩ := Z
  subst hK
  refine yy_aload_n F d_L_law_676 (n := 677) rfl 3 rfl ?_
  refine yy_aload_n F d_L_law_677 (n := 678) rfl 4 rfl ?_
  refine yy_iload F d_L_law_678 (n := 680) rfl 0 rfl ?_
  refine yy_iconst (v := 1) F d_L_law_680 (n := 681) rfl rfl ?_
  refine yy_iadd F d_L_law_681 (n := 682) rfl ?_
  refine yy_tope (y := (nI (i + 1))) (nI_add i 1) ?_
  refine yy_sld F hX hsc hS (vp_in_nI (n := (i + 1)) (by omega) (by omega)) d_L_law_682 (n := 683) rfl ?_
  refine yy_tope (y := (xs (i + 1))) (nI_xld (by omega) hL) ?_
  refine yy_aload_n F d_L_law_683 (n := 684) rfl 4 rfl ?_
  refine yy_iload F d_L_law_684 (n := 686) rfl 0 rfl ?_
  refine yy_iconst (v := 2) F d_L_law_686 (n := 687) rfl rfl ?_
  refine yy_iadd F d_L_law_687 (n := 688) rfl ?_
  refine yy_tope (y := (nI (i + 2))) (nI_add i 2) ?_
  refine yy_sld F hX hsc hS (vp_in_nI (n := (i + 2)) (by omega) (by omega)) d_L_law_688 (n := 689) rfl ?_
  refine yy_tope (y := (xs (i + 2))) (nI_xld (by omega) hL) ?_
  refine yy_calli F hS (c_L_sort (A := A) (σ := σ) (x := xs (i + 1)) (how := xs (i + 2)) X I ht hown.2.2 hoz) (yy_Bw F X.1 q_546 q_0) (yy_invSW (nA := 3) F X.1 q_544 q_545 q_0 q_546 ⟨by decide, by decide, by decide +kernel⟩ rfl d_L_law_689) d_L_law_689 (n := 692) rfl (by simp [Value.category]) ⟨show 9 + 1 ≤ rm.frames by omega, show 8 + (4 + 11) + 148 ≤ rm.locals by omega⟩ ⟨show k.1 + 1 ≤ rm.cells by omega, show k.2 + 6 ≤ rm.slots by omega⟩ ⟨P, O⟩ (fun v1 H1 locs1 q1 S1 => ?_)
  obtain ⟨hv1, ⟨A1, P1, hx1⟩, ⟨g1, O1, hg1⟩, hs1, hf1⟩ := q1
  obtain ⟨M1, hK1, hown1⟩ := l_mid Z0 P1 hx1 O1 hs1 hf1
  refine yy_tope (y := (c_of [e_io, e_uo, e_ia, e_rt] (sp_sort σ (xs (i + 1)) (xs (i + 2))).1)) hv1 ?_
  refine yy_istore (lv' := [(5, .int (c_of [e_io, e_uo, e_ia, e_rt] (sp_sort σ (xs (i + 1)) (xs (i + 2))).1)), (4, .int (nI i)), (3, .ref ou), (2, .ref a), (1, .ref (a_k A)), (0, .ref sc)]) F d_L_law_692 (n := 694) rfl (by decide) rfl ?_
  refine yy_aload_n F d_L_law_694 (n := 695) rfl 3 rfl ?_
  refine yy_aload_n F d_L_law_695 (n := 696) rfl 5 rfl ?_
  refine yy_iload F d_L_law_696 (n := 698) rfl 1 rfl ?_
  refine yy_iconst (v := 1) F d_L_law_698 (n := 699) rfl rfl ?_
  refine yy_iadd F d_L_law_699 (n := 700) rfl ?_
  refine yy_tope (y := (nI (i + 1))) (nI_add i 1) ?_
  refine yy_sld F hX hsc S1 (vp_in_nI (n := (i + 1)) (by omega) (by omega)) d_L_law_700 (n := 701) rfl ?_
  refine yy_tope (y := (xs (i + 1))) (nI_xld (by omega) hL) ?_
  refine yy_aload_n F d_L_law_701 (n := 702) rfl 5 rfl ?_
  refine yy_iload F d_L_law_702 (n := 704) rfl 1 rfl ?_
  refine yy_iconst (v := 2) F d_L_law_704 (n := 705) rfl rfl ?_
  refine yy_iadd F d_L_law_705 (n := 706) rfl ?_
  refine yy_tope (y := (nI (i + 2))) (nI_add i 2) ?_
  refine yy_sld F hX hsc S1 (vp_in_nI (n := (i + 2)) (by omega) (by omega)) d_L_law_706 (n := 707) rfl ?_
  refine yy_tope (y := (xs (i + 2))) (nI_xld (by omega) hL) ?_
  refine yy_callv F S1 (c_M_sort (σ := σ) (x := xs (i + 1)) (how := xs (i + 2)) X I R) (yy_Bc F X.1 q_995 q_3) (yy_invV (nA := 2) (C := R_M) (bytes := b_M_sort) (maxL := 7) (retY := none) F X.1 q_992 q_993 q_994 q_995 ⟨by decide, by decide, by decide +kernel⟩ (yy_recv F.N X.2.1 (ci := 6) rfl M1.o) rfl d_L_law_707) d_L_law_707 (n := 710) rfl (by simp [Value.category]) ⟨show 2 + 1 ≤ rm.frames by omega, show 8 + (7 + 11) + 45 ≤ rm.locals by omega⟩ ⟨show k.1 + 1 + 0 ≤ rm.cells by omega, show k.2 + 6 + 0 ≤ rm.slots by omega⟩ M1 (fun H2 locs2 q2 S2 => ?_)
  obtain ⟨⟨s2, R2, M2⟩, k2⟩ := q2
  have I2 := iv_sort I ht (xs (i + 1)) (xs (i + 2))
  have Z2 := l_fin I2 P1 R2 M1 M2 O1 hK1 hown1 ⟨hoz, hoa, hon⟩ k2
  have O2 := Z2.2.2.2.2.1
  refine yy_aload_n F d_L_law_710 (n := 711) rfl 3 rfl ?_
  refine yy_cri (w := c_of [e_io, e_uo, e_ia, e_rt] (sp_sort σ (xs (i + 1)) (xs (i + 2))).1) F S2 (c_M_thrown X I2 R2) (yy_Bc F X.1 q_902 q_3) (yy_invV (nA := 0) (C := R_M) (bytes := b_M_thrown) (maxL := 1) (retY := (some .int)) F X.1 q_899 q_900 q_901 q_902 ⟨by decide, by decide, by decide +kernel⟩ (yy_recv F.N X.2.1 (ci := 6) rfl M2.o) rfl d_L_law_711) d_L_law_711 (n := 714) rfl (by simp [Value.category]) ⟨show 0 + 1 ≤ rm.frames by omega, show 8 + (1 + 11) + 0 ≤ rm.locals by omega⟩ ⟨show k.1 + 1 + 0 + 0 ≤ rm.cells by omega, show k.2 + 6 + 0 + 0 ≤ rm.slots by omega⟩ ⟨rfl, rfl⟩ M2 rfl (fun locs3 S3 => ?_)
  refine yy_iload F d_L_law_714 (n := 716) rfl 0 rfl ?_
  refine yy_ic_eq_t (tgt := 721) F d_L_law_716 (by decide) rfl ?_
  refine yy_goto (tgt := 1801) F d_L_law_721 (by decide) ?_
  exact yy_sub [1, 2, 3, 4, 5] rfl (kk A1 (sp_sort σ (xs (i + 1)) (xs (i + 2))).2.2 s2 _ g1 H2 _ _ Z2 S3 (by show k.1 + 1 + 0 ≤ k.1 + 4; omega) (by show k.2 + 6 + 0 ≤ k.2 + 56; omega))
set_option maxRecDepth 100000 in
set_option maxHeartbeats 4000000 in
theorem cs_put {b : yy_T} {rm : Room} {Post : yy_R → Heap → Prop} {l : Launch} {z : State} {a0 : Array Value} {D : va_G} {ca : kca} (X : kcx l z a0 D ca) (F : yy_A l z b rm code 7 R_L (some .boolean) [] Post) {sc L i : Nat} {xs : Nat → Int32} (hX : va_X sc L xs z z.heap) (hsc : sc < z.heap.size) (hi : i + 4 ≤ L) (hL : L ≤ 2048) {K a n ou : Nat} {A : kA} {σ : ks} {t : Nat} {s : ms} {cd : Int32} {g : Nat → Int64} {H : Heap} {locs : List Loc} {k : Nat × Nat} (Z : l_in D ca z K a n ou A σ t s cd g H) (ht : t + 25 ≤ 100000) (hS : yy_S z H locs) (hk : k.1 + 4 ≤ rm.cells ∧ k.2 + 56 ≤ rm.slots) (hfr : 11 ≤ rm.frames ∧ 300 ≤ rm.locals)
    (kk : ∀ (A1 : kA) (σ1 : ks) (s1 : ms) (cd1 : Int32) (g1 : Nat → Int64) (H1 : Heap) (locs1 : List Loc) (k1 : Nat × Nat), l_in D ca z K a n ou A1 σ1 (t + 25) s1 cd1 g1 H1 → yy_S z H1 locs1 → k1.1 ≤ k.1 + 4 → k1.2 ≤ k.2 + 56 → yy_Y b H1 locs1 k1 1801 [(4, .int (nI i)), (3, .ref ou), (2, .ref a), (1, .ref K), (0, .ref sc)] []) : yy_Y b H locs k 724 [(4, .int (nI i)), (3, .ref ou), (2, .ref a), (1, .ref K), (0, .ref sc)] [] := by
  have Z0 := Z
  obtain ⟨I, P, R, M, O, hK, hown, hoz, hoa, hon⟩ := Z
  subst hK
  refine yy_aload_n F d_L_law_724 (n := 725) rfl 3 rfl ?_
  refine yy_aload_n F d_L_law_725 (n := 726) rfl 4 rfl ?_
  refine yy_iload F d_L_law_726 (n := 728) rfl 0 rfl ?_
  refine yy_iconst (v := 1) F d_L_law_728 (n := 729) rfl rfl ?_
  refine yy_iadd F d_L_law_729 (n := 730) rfl ?_
  refine yy_tope (y := (nI (i + 1))) (nI_add i 1) ?_
  refine yy_sld F hX hsc hS (vp_in_nI (n := (i + 1)) (by omega) (by omega)) d_L_law_730 (n := 731) rfl ?_
  refine yy_tope (y := (xs (i + 1))) (nI_xld (by omega) hL) ?_
  refine yy_aload_n F d_L_law_731 (n := 732) rfl 4 rfl ?_
  refine yy_iload F d_L_law_732 (n := 734) rfl 0 rfl ?_
  refine yy_iconst (v := 2) F d_L_law_734 (n := 735) rfl rfl ?_
  refine yy_iadd F d_L_law_735 (n := 736) rfl ?_
  refine yy_tope (y := (nI (i + 2))) (nI_add i 2) ?_
  refine yy_sld F hX hsc hS (vp_in_nI (n := (i + 2)) (by omega) (by omega)) d_L_law_736 (n := 737) rfl ?_
  refine yy_tope (y := (xs (i + 2))) (nI_xld (by omega) hL) ?_
  refine yy_aload_n F d_L_law_737 (n := 738) rfl 4 rfl ?_
  refine yy_iload F d_L_law_738 (n := 740) rfl 0 rfl ?_
  refine yy_iconst (v := 3) F d_L_law_740 (n := 741) rfl rfl ?_
  refine yy_iadd F d_L_law_741 (n := 742) rfl ?_
  refine yy_tope (y := (nI (i + 3))) (nI_add i 3) ?_
  refine yy_sld F hX hsc hS (vp_in_nI (n := (i + 3)) (by omega) (by omega)) d_L_law_742 (n := 743) rfl ?_
  refine yy_tope (y := (xs (i + 3))) (nI_xld (by omega) hL) ?_
  refine yy_aload_n F d_L_law_743 (n := 744) rfl 1 rfl ?_
  refine yy_calli F hS (c_L_put (A := A) (σ := σ) (x := xs (i + 1)) (key := xs (i + 2)) (v := xs (i + 3)) X I ht hown.2.2 hoz) (yy_Bw F X.1 q_572 q_0) (yy_invSW (nA := 5) F X.1 q_570 q_571 q_0 q_572 ⟨by decide, by decide, by decide +kernel⟩ rfl d_L_law_744) d_L_law_744 (n := 747) rfl (by simp [Value.category]) ⟨show 9 + 1 ≤ rm.frames by omega, show 8 + (6 + 11) + 150 ≤ rm.locals by omega⟩ ⟨show k.1 + 1 ≤ rm.cells by omega, show k.2 + 6 ≤ rm.slots by omega⟩ ⟨P, O⟩ (fun v1 H1 locs1 q1 S1 => ?_)
  obtain ⟨hv1, ⟨A1, P1, hx1⟩, ⟨g1, O1, hg1⟩, hs1, hf1⟩ := q1
  obtain ⟨M1, hK1, hown1⟩ := l_mid Z0 P1 hx1 O1 hs1 hf1
  refine yy_tope (y := (c_of [e_io, e_uo, e_ia, e_is] (sp_put σ (xs (i + 1)) (xs (i + 2)) (xs (i + 3))).1)) hv1 ?_
  refine yy_istore (lv' := [(5, .int (c_of [e_io, e_uo, e_ia, e_is] (sp_put σ (xs (i + 1)) (xs (i + 2)) (xs (i + 3))).1)), (4, .int (nI i)), (3, .ref ou), (2, .ref a), (1, .ref (a_k A)), (0, .ref sc)]) F d_L_law_747 (n := 749) rfl (by decide) rfl ?_
  refine yy_aload_n F d_L_law_749 (n := 750) rfl 3 rfl ?_
  refine yy_aload_n F d_L_law_750 (n := 751) rfl 5 rfl ?_
  refine yy_iload F d_L_law_751 (n := 753) rfl 1 rfl ?_
  refine yy_iconst (v := 1) F d_L_law_753 (n := 754) rfl rfl ?_
  refine yy_iadd F d_L_law_754 (n := 755) rfl ?_
  refine yy_tope (y := (nI (i + 1))) (nI_add i 1) ?_
  refine yy_sld F hX hsc S1 (vp_in_nI (n := (i + 1)) (by omega) (by omega)) d_L_law_755 (n := 756) rfl ?_
  refine yy_tope (y := (xs (i + 1))) (nI_xld (by omega) hL) ?_
  refine yy_aload_n F d_L_law_756 (n := 757) rfl 5 rfl ?_
  refine yy_iload F d_L_law_757 (n := 759) rfl 1 rfl ?_
  refine yy_iconst (v := 2) F d_L_law_759 (n := 760) rfl rfl ?_
  refine yy_iadd F d_L_law_760 (n := 761) rfl ?_
  refine yy_tope (y := (nI (i + 2))) (nI_add i 2) ?_
  refine yy_sld F hX hsc S1 (vp_in_nI (n := (i + 2)) (by omega) (by omega)) d_L_law_761 (n := 762) rfl ?_
  refine yy_tope (y := (xs (i + 2))) (nI_xld (by omega) hL) ?_
  refine yy_aload_n F d_L_law_762 (n := 763) rfl 5 rfl ?_
  refine yy_iload F d_L_law_763 (n := 765) rfl 1 rfl ?_
  refine yy_iconst (v := 3) F d_L_law_765 (n := 766) rfl rfl ?_
  refine yy_iadd F d_L_law_766 (n := 767) rfl ?_
  refine yy_tope (y := (nI (i + 3))) (nI_add i 3) ?_
  refine yy_sld F hX hsc S1 (vp_in_nI (n := (i + 3)) (by omega) (by omega)) d_L_law_767 (n := 768) rfl ?_
  refine yy_tope (y := (xs (i + 3))) (nI_xld (by omega) hL) ?_
  refine yy_calli F S1 (c_M_put (σ := σ) (x := xs (i + 1)) (key := xs (i + 2)) (v := xs (i + 3)) X I R ht) (yy_Bc F X.1 q_1005 q_3) (yy_invV (nA := 3) (C := R_M) (bytes := b_M_put) (maxL := 5) (retY := (some .boolean)) F X.1 q_1002 q_1003 q_1004 q_1005 ⟨by decide, by decide, by decide +kernel⟩ (yy_recv F.N X.2.1 (ci := 6) rfl M1.o) rfl d_L_law_768) d_L_law_768 (n := 771) rfl (by simp [Value.category]) ⟨show 4 + 1 ≤ rm.frames by omega, show 8 + (5 + 11) + 86 ≤ rm.locals by omega⟩ ⟨show k.1 + 1 + 0 ≤ rm.cells by omega, show k.2 + 6 + 0 ≤ rm.slots by omega⟩ M1 (fun v2 H2 locs2 q2 S2 => ?_)
  obtain ⟨⟨⟨s2, R2, M2⟩, k2⟩, hv2⟩ := q2
  have I2 := iv_put I ht (xs (i + 1)) (xs (i + 3)) (xs (i + 2))
  have Z2 := l_fin I2 P1 R2 M1 M2 O1 hK1 hown1 ⟨hoz, hoa, hon⟩ k2
  have O2 := Z2.2.2.2.2.1
  refine yy_istore (lv' := [(6, .int v2), (5, .int (c_of [e_io, e_uo, e_ia, e_is] (sp_put σ (xs (i + 1)) (xs (i + 2)) (xs (i + 3))).1)), (4, .int (nI i)), (3, .ref ou), (2, .ref a), (1, .ref (a_k A)), (0, .ref sc)]) F d_L_law_771 (n := 773) rfl (by decide) rfl ?_
  refine yy_aload_n F d_L_law_773 (n := 774) rfl 4 rfl ?_
  refine yy_cri (w := c_of [e_io, e_uo, e_ia, e_is] (sp_put σ (xs (i + 1)) (xs (i + 2)) (xs (i + 3))).1) F S2 (c_M_thrown X I2 R2) (yy_Bc F X.1 q_902 q_3) (yy_invV (nA := 0) (C := R_M) (bytes := b_M_thrown) (maxL := 1) (retY := (some .int)) F X.1 q_899 q_900 q_901 q_902 ⟨by decide, by decide, by decide +kernel⟩ (yy_recv F.N X.2.1 (ci := 6) rfl M2.o) rfl d_L_law_774) d_L_law_774 (n := 777) rfl (by simp [Value.category]) ⟨show 0 + 1 ≤ rm.frames by omega, show 8 + (1 + 11) + 0 ≤ rm.locals by omega⟩ ⟨show k.1 + 1 + 0 + 0 ≤ rm.cells by omega, show k.2 + 6 + 0 + 0 ≤ rm.slots by omega⟩ ⟨rfl, rfl⟩ M2 rfl (fun locs3 S3 => ?_)
  refine yy_iload F d_L_law_777 (n := 779) rfl 1 rfl ?_
  refine yy_ic_eq_t (tgt := 784) F d_L_law_779 (by decide) rfl ?_
  refine yy_iload F d_L_law_784 (n := 786) rfl 1 rfl ?_
  cases hr : (sp_put σ (xs (i + 1)) (xs (i + 2)) (xs (i + 3))).1 with
  | some E =>
    have hp9 := m_pos (ex_put_ σ (xs (i + 1)) (xs (i + 2)) (xs (i + 3)) E hr) (by decide)
    refine yy_if_ne_t (tgt := 808) F d_L_law_786 (by decide) hp9.2 ?_
    refine yy_goto (tgt := 1801) F d_L_law_808 (by decide) ?_
    exact yy_sub [2, 3, 4, 5, 6] rfl (kk A1 (sp_put σ (xs (i + 1)) (xs (i + 2)) (xs (i + 3))).2.2 s2 _ g1 H2 _ _ Z2 S3 (by show k.1 + 1 + 0 ≤ k.1 + 4; omega) (by show k.2 + 6 + 0 ≤ k.2 + 56; omega))
  | none =>
    have hg9 := hg1 hr
    have hv9 := hv2 hr
    refine yy_if_ne_f (tgt := 808) F d_L_law_786 (n := 789) rfl (by decide) rfl ?_
    refine yy_aload_n F d_L_law_789 (n := 790) rfl 3 rfl ?_
    refine yy_iconst (v := 0) F d_L_law_790 (n := 791) rfl rfl ?_
    refine yy_lald F X.2.1 3 rfl O2 (i := 0) (vp_in_nI (n := 0) (by decide) (by decide)) d_L_law_791 (n := 792) rfl ?_
    refine yy_iload F d_L_law_792 (n := 794) rfl 0 rfl ?_
    refine yy_if_eq (tgt := 801) F d_L_law_794 (n := 797) rfl (by decide) (fun hb => ?_) (fun hb => ?_)
    · refine yy_lconst (v := 0) F d_L_law_801 (n := 802) rfl rfl ?_
      refine yy_lcmp F d_L_law_802 (n := 803) rfl ?_
      refine yy_tope (y := 0) (by rw [show g1 (0 : Int32).toNatClampNeg = 0 from hg9.trans (if_pos (hv9 ▸ hb))]; exact lg_cmp0 _) ?_
      refine yy_if_eq_t (tgt := 808) F d_L_law_803 (by decide) rfl ?_
      refine yy_goto (tgt := 1801) F d_L_law_808 (by decide) ?_
      exact yy_sub [2, 3, 4, 5, 6] rfl (kk A1 (sp_put σ (xs (i + 1)) (xs (i + 2)) (xs (i + 3))).2.2 s2 _ g1 H2 _ _ Z2 S3 (by show k.1 + 1 + 0 ≤ k.1 + 4; omega) (by show k.2 + 6 + 0 ≤ k.2 + 56; omega))
    · refine yy_lconst (v := 1) F d_L_law_797 (n := 798) rfl rfl ?_
      refine yy_goto (tgt := 802) F d_L_law_798 (by decide) ?_
      refine yy_lcmp F d_L_law_802 (n := 803) rfl ?_
      refine yy_tope (y := 0) (by rw [show g1 (0 : Int32).toNatClampNeg = 1 from hg9.trans (if_neg (hv9 ▸ hb))]; exact lg_cmp0 _) ?_
      refine yy_if_eq_t (tgt := 808) F d_L_law_803 (by decide) rfl ?_
      refine yy_goto (tgt := 1801) F d_L_law_808 (by decide) ?_
      exact yy_sub [2, 3, 4, 5, 6] rfl (kk A1 (sp_put σ (xs (i + 1)) (xs (i + 2)) (xs (i + 3))).2.2 s2 _ g1 H2 _ _ Z2 S3 (by show k.1 + 1 + 0 ≤ k.1 + 4; omega) (by show k.2 + 6 + 0 ≤ k.2 + 56; omega))
set_option maxRecDepth 100000 in
set_option maxHeartbeats 4000000 in
theorem cs_merge {b : yy_T} {rm : Room} {Post : yy_R → Heap → Prop} {l : Launch} {z : State} {a0 : Array Value} {D : va_G} {ca : kca} (X : kcx l z a0 D ca) (F : yy_A l z b rm code 7 R_L (some .boolean) [] Post) {sc L i : Nat} {xs : Nat → Int32} (hX : va_X sc L xs z z.heap) (hsc : sc < z.heap.size) (hi : i + 4 ≤ L) (hL : L ≤ 2048) {K a n ou : Nat} {A : kA} {σ : ks} {t : Nat} {s : ms} {cd : Int32} {g : Nat → Int64} {H : Heap} {locs : List Loc} {k : Nat × Nat} (Z : l_in D ca z K a n ou A σ t s cd g H) (ht : t + 25 ≤ 100000) (hS : yy_S z H locs) (hk : k.1 + 4 ≤ rm.cells ∧ k.2 + 56 ≤ rm.slots) (hfr : 11 ≤ rm.frames ∧ 300 ≤ rm.locals)
    (kk : ∀ (A1 : kA) (σ1 : ks) (s1 : ms) (cd1 : Int32) (g1 : Nat → Int64) (H1 : Heap) (locs1 : List Loc) (k1 : Nat × Nat), l_in D ca z K a n ou A1 σ1 (t + 25) s1 cd1 g1 H1 → yy_S z H1 locs1 → k1.1 ≤ k.1 + 4 → k1.2 ≤ k.2 + 56 → yy_Y b H1 locs1 k1 1801 [(4, .int (nI i)), (3, .ref ou), (2, .ref a), (1, .ref K), (0, .ref sc)] []) : yy_Y b H locs k 811 [(4, .int (nI i)), (3, .ref ou), (2, .ref a), (1, .ref K), (0, .ref sc)] [] := by
  have Z0 := Z
  obtain ⟨I, P, R, M, O, hK, hown, hoz, hoa, hon⟩ := Z
  subst hK
  refine yy_aload_n F d_L_law_811 (n := 812) rfl 3 rfl ?_
  refine yy_aload_n F d_L_law_812 (n := 813) rfl 4 rfl ?_
  refine yy_iload F d_L_law_813 (n := 815) rfl 0 rfl ?_
  refine yy_iconst (v := 1) F d_L_law_815 (n := 816) rfl rfl ?_
  refine yy_iadd F d_L_law_816 (n := 817) rfl ?_
  refine yy_tope (y := (nI (i + 1))) (nI_add i 1) ?_
  refine yy_sld F hX hsc hS (vp_in_nI (n := (i + 1)) (by omega) (by omega)) d_L_law_817 (n := 818) rfl ?_
  refine yy_tope (y := (xs (i + 1))) (nI_xld (by omega) hL) ?_
  refine yy_aload_n F d_L_law_818 (n := 819) rfl 4 rfl ?_
  refine yy_iload F d_L_law_819 (n := 821) rfl 0 rfl ?_
  refine yy_iconst (v := 2) F d_L_law_821 (n := 822) rfl rfl ?_
  refine yy_iadd F d_L_law_822 (n := 823) rfl ?_
  refine yy_tope (y := (nI (i + 2))) (nI_add i 2) ?_
  refine yy_sld F hX hsc hS (vp_in_nI (n := (i + 2)) (by omega) (by omega)) d_L_law_823 (n := 824) rfl ?_
  refine yy_tope (y := (xs (i + 2))) (nI_xld (by omega) hL) ?_
  refine yy_aload_n F d_L_law_824 (n := 825) rfl 4 rfl ?_
  refine yy_iload F d_L_law_825 (n := 827) rfl 0 rfl ?_
  refine yy_iconst (v := 3) F d_L_law_827 (n := 828) rfl rfl ?_
  refine yy_iadd F d_L_law_828 (n := 829) rfl ?_
  refine yy_tope (y := (nI (i + 3))) (nI_add i 3) ?_
  refine yy_sld F hX hsc hS (vp_in_nI (n := (i + 3)) (by omega) (by omega)) d_L_law_829 (n := 830) rfl ?_
  refine yy_tope (y := (xs (i + 3))) (nI_xld (by omega) hL) ?_
  refine yy_aload_n F d_L_law_830 (n := 831) rfl 1 rfl ?_
  refine yy_calli F hS (c_L_merge (A := A) (σ := σ) (x := xs (i + 1)) (key := xs (i + 2)) (v := xs (i + 3)) X I ht hown.2.2 hoz) (yy_Bw F X.1 q_642 q_0) (yy_invSW (nA := 5) F X.1 q_640 q_641 q_0 q_642 ⟨by decide, by decide, by decide +kernel⟩ rfl d_L_law_831) d_L_law_831 (n := 834) rfl (by simp [Value.category]) ⟨show 9 + 1 ≤ rm.frames by omega, show 8 + (6 + 11) + 151 ≤ rm.locals by omega⟩ ⟨show k.1 + 1 ≤ rm.cells by omega, show k.2 + 6 ≤ rm.slots by omega⟩ ⟨P, O⟩ (fun v1 H1 locs1 q1 S1 => ?_)
  obtain ⟨hv1, ⟨A1, P1, hx1⟩, ⟨g1, O1, hg1⟩, hs1, hf1⟩ := q1
  obtain ⟨M1, hK1, hown1⟩ := l_mid Z0 P1 hx1 O1 hs1 hf1
  refine yy_tope (y := (c_of [e_io, e_uo, e_ia, e_is] (sp_merge σ (xs (i + 1)) (xs (i + 2)) (xs (i + 3))).1)) hv1 ?_
  refine yy_istore (lv' := [(5, .int (c_of [e_io, e_uo, e_ia, e_is] (sp_merge σ (xs (i + 1)) (xs (i + 2)) (xs (i + 3))).1)), (4, .int (nI i)), (3, .ref ou), (2, .ref a), (1, .ref (a_k A)), (0, .ref sc)]) F d_L_law_834 (n := 836) rfl (by decide) rfl ?_
  refine yy_aload_n F d_L_law_836 (n := 837) rfl 3 rfl ?_
  refine yy_aload_n F d_L_law_837 (n := 838) rfl 5 rfl ?_
  refine yy_iload F d_L_law_838 (n := 840) rfl 1 rfl ?_
  refine yy_iconst (v := 1) F d_L_law_840 (n := 841) rfl rfl ?_
  refine yy_iadd F d_L_law_841 (n := 842) rfl ?_
  refine yy_tope (y := (nI (i + 1))) (nI_add i 1) ?_
  refine yy_sld F hX hsc S1 (vp_in_nI (n := (i + 1)) (by omega) (by omega)) d_L_law_842 (n := 843) rfl ?_
  refine yy_tope (y := (xs (i + 1))) (nI_xld (by omega) hL) ?_
  refine yy_aload_n F d_L_law_843 (n := 844) rfl 5 rfl ?_
  refine yy_iload F d_L_law_844 (n := 846) rfl 1 rfl ?_
  refine yy_iconst (v := 2) F d_L_law_846 (n := 847) rfl rfl ?_
  refine yy_iadd F d_L_law_847 (n := 848) rfl ?_
  refine yy_tope (y := (nI (i + 2))) (nI_add i 2) ?_
  refine yy_sld F hX hsc S1 (vp_in_nI (n := (i + 2)) (by omega) (by omega)) d_L_law_848 (n := 849) rfl ?_
  refine yy_tope (y := (xs (i + 2))) (nI_xld (by omega) hL) ?_
  refine yy_aload_n F d_L_law_849 (n := 850) rfl 5 rfl ?_
  refine yy_iload F d_L_law_850 (n := 852) rfl 1 rfl ?_
  refine yy_iconst (v := 3) F d_L_law_852 (n := 853) rfl rfl ?_
  refine yy_iadd F d_L_law_853 (n := 854) rfl ?_
  refine yy_tope (y := (nI (i + 3))) (nI_add i 3) ?_
  refine yy_sld F hX hsc S1 (vp_in_nI (n := (i + 3)) (by omega) (by omega)) d_L_law_854 (n := 855) rfl ?_
  refine yy_tope (y := (xs (i + 3))) (nI_xld (by omega) hL) ?_
  refine yy_calli F S1 (c_M_merge (σ := σ) (x := xs (i + 1)) (key := xs (i + 2)) (v := xs (i + 3)) X I R ht) (yy_Bc F X.1 q_1037 q_3) (yy_invV (nA := 3) (C := R_M) (bytes := b_M_merge) (maxL := 6) (retY := (some .int)) F X.1 q_1034 q_1035 q_1036 q_1037 ⟨by decide, by decide, by decide +kernel⟩ (yy_recv F.N X.2.1 (ci := 6) rfl M1.o) rfl d_L_law_855) d_L_law_855 (n := 858) rfl (by simp [Value.category]) ⟨show 4 + 1 ≤ rm.frames by omega, show 8 + (6 + 11) + 86 ≤ rm.locals by omega⟩ ⟨show k.1 + 1 + 0 ≤ rm.cells by omega, show k.2 + 6 + 0 ≤ rm.slots by omega⟩ M1 (fun v2 H2 locs2 q2 S2 => ?_)
  obtain ⟨⟨⟨s2, R2, M2⟩, k2⟩, hv2⟩ := q2
  have I2 := iv_merge I ht (xs (i + 1)) (xs (i + 3)) (xs (i + 2))
  have Z2 := l_fin I2 P1 R2 M1 M2 O1 hK1 hown1 ⟨hoz, hoa, hon⟩ k2
  have O2 := Z2.2.2.2.2.1
  refine yy_istore (lv' := [(6, .int v2), (5, .int (c_of [e_io, e_uo, e_ia, e_is] (sp_merge σ (xs (i + 1)) (xs (i + 2)) (xs (i + 3))).1)), (4, .int (nI i)), (3, .ref ou), (2, .ref a), (1, .ref (a_k A)), (0, .ref sc)]) F d_L_law_858 (n := 860) rfl (by decide) rfl ?_
  refine yy_aload_n F d_L_law_860 (n := 861) rfl 4 rfl ?_
  refine yy_cri (w := c_of [e_io, e_uo, e_ia, e_is] (sp_merge σ (xs (i + 1)) (xs (i + 2)) (xs (i + 3))).1) F S2 (c_M_thrown X I2 R2) (yy_Bc F X.1 q_902 q_3) (yy_invV (nA := 0) (C := R_M) (bytes := b_M_thrown) (maxL := 1) (retY := (some .int)) F X.1 q_899 q_900 q_901 q_902 ⟨by decide, by decide, by decide +kernel⟩ (yy_recv F.N X.2.1 (ci := 6) rfl M2.o) rfl d_L_law_861) d_L_law_861 (n := 864) rfl (by simp [Value.category]) ⟨show 0 + 1 ≤ rm.frames by omega, show 8 + (1 + 11) + 0 ≤ rm.locals by omega⟩ ⟨show k.1 + 1 + 0 + 0 ≤ rm.cells by omega, show k.2 + 6 + 0 + 0 ≤ rm.slots by omega⟩ ⟨rfl, rfl⟩ M2 rfl (fun locs3 S3 => ?_)
  refine yy_iload F d_L_law_864 (n := 866) rfl 1 rfl ?_
  refine yy_ic_eq_t (tgt := 871) F d_L_law_866 (by decide) rfl ?_
  refine yy_iload F d_L_law_871 (n := 873) rfl 1 rfl ?_
  cases hr : (sp_merge σ (xs (i + 1)) (xs (i + 2)) (xs (i + 3))).1 with
  | some E =>
    have hp9 := m_pos (ex_merge_ σ (xs (i + 1)) (xs (i + 2)) (xs (i + 3)) E hr) (by decide)
    refine yy_if_ne_t (tgt := 888) F d_L_law_873 (by decide) hp9.2 ?_
    refine yy_goto (tgt := 1801) F d_L_law_888 (by decide) ?_
    exact yy_sub [2, 3, 4, 5, 6] rfl (kk A1 (sp_merge σ (xs (i + 1)) (xs (i + 2)) (xs (i + 3))).2.2 s2 _ g1 H2 _ _ Z2 S3 (by show k.1 + 1 + 0 ≤ k.1 + 4; omega) (by show k.2 + 6 + 0 ≤ k.2 + 56; omega))
  | none =>
    have hg9 := hg1 hr
    have hv9 := hv2 hr
    refine yy_if_ne_f (tgt := 888) F d_L_law_873 (n := 876) rfl (by decide) rfl ?_
    refine yy_aload_n F d_L_law_876 (n := 877) rfl 3 rfl ?_
    refine yy_iconst (v := 0) F d_L_law_877 (n := 878) rfl rfl ?_
    refine yy_lald F X.2.1 3 rfl O2 (i := 0) (vp_in_nI (n := 0) (by decide) (by decide)) d_L_law_878 (n := 879) rfl ?_
    refine yy_iload F d_L_law_879 (n := 881) rfl 0 rfl ?_
    refine yy_i2l F d_L_law_881 (n := 882) rfl rfl ?_
    refine yy_lcmp F d_L_law_882 (n := 883) rfl ?_
    refine yy_tope (y := 0) (by rw [show g1 (0 : Int32).toNatClampNeg = v2.toInt64 by rw [hv9]; exact hg9]; exact lg_cmp0 _) ?_
    refine yy_if_eq_t (tgt := 888) F d_L_law_883 (by decide) rfl ?_
    refine yy_goto (tgt := 1801) F d_L_law_888 (by decide) ?_
    exact yy_sub [2, 3, 4, 5, 6] rfl (kk A1 (sp_merge σ (xs (i + 1)) (xs (i + 2)) (xs (i + 3))).2.2 s2 _ g1 H2 _ _ Z2 S3 (by show k.1 + 1 + 0 ≤ k.1 + 4; omega) (by show k.2 + 6 + 0 ≤ k.2 + 56; omega))
set_option maxRecDepth 100000 in
set_option maxHeartbeats 4000000 in
theorem cs_has {b : yy_T} {rm : Room} {Post : yy_R → Heap → Prop} {l : Launch} {z : State} {a0 : Array Value} {D : va_G} {ca : kca} (X : kcx l z a0 D ca) (F : yy_A l z b rm code 7 R_L (some .boolean) [] Post) {sc L i : Nat} {xs : Nat → Int32} (hX : va_X sc L xs z z.heap) (hsc : sc < z.heap.size) (hi : i + 4 ≤ L) (hL : L ≤ 2048) {K a n ou : Nat} {A : kA} {σ : ks} {t : Nat} {s : ms} {cd : Int32} {g : Nat → Int64} {H : Heap} {locs : List Loc} {k : Nat × Nat} (Z : l_in D ca z K a n ou A σ t s cd g H) (ht : t + 25 ≤ 100000) (hS : yy_S z H locs) (hk : k.1 + 4 ≤ rm.cells ∧ k.2 + 56 ≤ rm.slots) (hfr : 11 ≤ rm.frames ∧ 300 ≤ rm.locals)
    (kk : ∀ (A1 : kA) (σ1 : ks) (s1 : ms) (cd1 : Int32) (g1 : Nat → Int64) (H1 : Heap) (locs1 : List Loc) (k1 : Nat × Nat), l_in D ca z K a n ou A1 σ1 (t + 25) s1 cd1 g1 H1 → yy_S z H1 locs1 → k1.1 ≤ k.1 + 4 → k1.2 ≤ k.2 + 56 → yy_Y b H1 locs1 k1 1801 [(4, .int (nI i)), (3, .ref ou), (2, .ref a), (1, .ref K), (0, .ref sc)] []) : yy_Y b H locs k 891 [(4, .int (nI i)), (3, .ref ou), (2, .ref a), (1, .ref K), (0, .ref sc)] [] := by
  have Z0 := Z
  obtain ⟨I, P, R, M, O, hK, hown, hoz, hoa, hon⟩ := Z
  subst hK
  refine yy_aload_n F d_L_law_891 (n := 892) rfl 3 rfl ?_
  refine yy_aload_n F d_L_law_892 (n := 893) rfl 4 rfl ?_
  refine yy_iload F d_L_law_893 (n := 895) rfl 0 rfl ?_
  refine yy_iconst (v := 1) F d_L_law_895 (n := 896) rfl rfl ?_
  refine yy_iadd F d_L_law_896 (n := 897) rfl ?_
  refine yy_tope (y := (nI (i + 1))) (nI_add i 1) ?_
  refine yy_sld F hX hsc hS (vp_in_nI (n := (i + 1)) (by omega) (by omega)) d_L_law_897 (n := 898) rfl ?_
  refine yy_tope (y := (xs (i + 1))) (nI_xld (by omega) hL) ?_
  refine yy_aload_n F d_L_law_898 (n := 899) rfl 4 rfl ?_
  refine yy_iload F d_L_law_899 (n := 901) rfl 0 rfl ?_
  refine yy_iconst (v := 2) F d_L_law_901 (n := 902) rfl rfl ?_
  refine yy_iadd F d_L_law_902 (n := 903) rfl ?_
  refine yy_tope (y := (nI (i + 2))) (nI_add i 2) ?_
  refine yy_sld F hX hsc hS (vp_in_nI (n := (i + 2)) (by omega) (by omega)) d_L_law_903 (n := 904) rfl ?_
  refine yy_tope (y := (xs (i + 2))) (nI_xld (by omega) hL) ?_
  refine yy_aload_n F d_L_law_904 (n := 905) rfl 1 rfl ?_
  refine yy_calli F hS (c_L_has (A := A) (σ := σ) (x := xs (i + 1)) (key := xs (i + 2)) X I ht hown.2.2 hoz) (yy_Bw F X.1 q_660 q_0) (yy_invSW (nA := 4) F X.1 q_658 q_659 q_0 q_660 ⟨by decide, by decide, by decide +kernel⟩ rfl d_L_law_905) d_L_law_905 (n := 908) rfl (by simp [Value.category]) ⟨show 9 + 1 ≤ rm.frames by omega, show 8 + (5 + 11) + 147 ≤ rm.locals by omega⟩ ⟨show k.1 + 1 ≤ rm.cells by omega, show k.2 + 6 ≤ rm.slots by omega⟩ ⟨P, O⟩ (fun v1 H1 locs1 q1 S1 => ?_)
  obtain ⟨hv1, ⟨A1, P1, hx1⟩, ⟨g1, O1, hg1⟩, hs1, hf1⟩ := q1
  obtain ⟨M1, hK1, hown1⟩ := l_mid Z0 P1 hx1 O1 hs1 hf1
  refine yy_tope (y := (c_of [e_io, e_uo] (sp_has σ (xs (i + 1)) (xs (i + 2))).1)) hv1 ?_
  refine yy_istore (lv' := [(5, .int (c_of [e_io, e_uo] (sp_has σ (xs (i + 1)) (xs (i + 2))).1)), (4, .int (nI i)), (3, .ref ou), (2, .ref a), (1, .ref (a_k A)), (0, .ref sc)]) F d_L_law_908 (n := 910) rfl (by decide) rfl ?_
  refine yy_aload_n F d_L_law_910 (n := 911) rfl 3 rfl ?_
  refine yy_aload_n F d_L_law_911 (n := 912) rfl 5 rfl ?_
  refine yy_iload F d_L_law_912 (n := 914) rfl 1 rfl ?_
  refine yy_iconst (v := 1) F d_L_law_914 (n := 915) rfl rfl ?_
  refine yy_iadd F d_L_law_915 (n := 916) rfl ?_
  refine yy_tope (y := (nI (i + 1))) (nI_add i 1) ?_
  refine yy_sld F hX hsc S1 (vp_in_nI (n := (i + 1)) (by omega) (by omega)) d_L_law_916 (n := 917) rfl ?_
  refine yy_tope (y := (xs (i + 1))) (nI_xld (by omega) hL) ?_
  refine yy_aload_n F d_L_law_917 (n := 918) rfl 5 rfl ?_
  refine yy_iload F d_L_law_918 (n := 920) rfl 1 rfl ?_
  refine yy_iconst (v := 2) F d_L_law_920 (n := 921) rfl rfl ?_
  refine yy_iadd F d_L_law_921 (n := 922) rfl ?_
  refine yy_tope (y := (nI (i + 2))) (nI_add i 2) ?_
  refine yy_sld F hX hsc S1 (vp_in_nI (n := (i + 2)) (by omega) (by omega)) d_L_law_922 (n := 923) rfl ?_
  refine yy_tope (y := (xs (i + 2))) (nI_xld (by omega) hL) ?_
  refine yy_calli F S1 (c_M_has (σ := σ) (x := xs (i + 1)) (key := xs (i + 2)) X I R) (yy_Bc F X.1 q_1041 q_3) (yy_invV (nA := 2) (C := R_M) (bytes := b_M_has) (maxL := 3) (retY := (some .boolean)) F X.1 q_1038 q_1039 q_1040 q_1041 ⟨by decide, by decide, by decide +kernel⟩ (yy_recv F.N X.2.1 (ci := 6) rfl M1.o) rfl d_L_law_923) d_L_law_923 (n := 926) rfl (by simp [Value.category]) ⟨show 3 + 1 ≤ rm.frames by omega, show 8 + (3 + 11) + 63 ≤ rm.locals by omega⟩ ⟨show k.1 + 1 + 0 ≤ rm.cells by omega, show k.2 + 6 + 0 ≤ rm.slots by omega⟩ M1 (fun v2 H2 locs2 q2 S2 => ?_)
  obtain ⟨⟨⟨s2, R2, M2⟩, k2⟩, hv2⟩ := q2
  have I2 := iv_has I ht (xs (i + 1)) (xs (i + 2))
  have Z2 := l_fin I2 P1 R2 M1 M2 O1 hK1 hown1 ⟨hoz, hoa, hon⟩ k2
  have O2 := Z2.2.2.2.2.1
  refine yy_istore (lv' := [(6, .int v2), (5, .int (c_of [e_io, e_uo] (sp_has σ (xs (i + 1)) (xs (i + 2))).1)), (4, .int (nI i)), (3, .ref ou), (2, .ref a), (1, .ref (a_k A)), (0, .ref sc)]) F d_L_law_926 (n := 928) rfl (by decide) rfl ?_
  refine yy_aload_n F d_L_law_928 (n := 929) rfl 4 rfl ?_
  refine yy_cri (w := c_of [e_io, e_uo] (sp_has σ (xs (i + 1)) (xs (i + 2))).1) F S2 (c_M_thrown X I2 R2) (yy_Bc F X.1 q_902 q_3) (yy_invV (nA := 0) (C := R_M) (bytes := b_M_thrown) (maxL := 1) (retY := (some .int)) F X.1 q_899 q_900 q_901 q_902 ⟨by decide, by decide, by decide +kernel⟩ (yy_recv F.N X.2.1 (ci := 6) rfl M2.o) rfl d_L_law_929) d_L_law_929 (n := 932) rfl (by simp [Value.category]) ⟨show 0 + 1 ≤ rm.frames by omega, show 8 + (1 + 11) + 0 ≤ rm.locals by omega⟩ ⟨show k.1 + 1 + 0 + 0 ≤ rm.cells by omega, show k.2 + 6 + 0 + 0 ≤ rm.slots by omega⟩ ⟨rfl, rfl⟩ M2 rfl (fun locs3 S3 => ?_)
  refine yy_iload F d_L_law_932 (n := 934) rfl 1 rfl ?_
  refine yy_ic_eq_t (tgt := 939) F d_L_law_934 (by decide) rfl ?_
  refine yy_iload F d_L_law_939 (n := 941) rfl 1 rfl ?_
  cases hr : (sp_has σ (xs (i + 1)) (xs (i + 2))).1 with
  | some E =>
    have hp9 := m_pos (ex_has_ σ (xs (i + 1)) (xs (i + 2)) E hr) (by decide)
    refine yy_if_ne_t (tgt := 963) F d_L_law_941 (by decide) hp9.2 ?_
    refine yy_goto (tgt := 1801) F d_L_law_963 (by decide) ?_
    exact yy_sub [2, 3, 4, 5, 6] rfl (kk A1 (sp_has σ (xs (i + 1)) (xs (i + 2))).2.2 s2 _ g1 H2 _ _ Z2 S3 (by show k.1 + 1 + 0 ≤ k.1 + 4; omega) (by show k.2 + 6 + 0 ≤ k.2 + 56; omega))
  | none =>
    have hg9 := hg1 hr
    have hv9 := hv2 hr
    refine yy_if_ne_f (tgt := 963) F d_L_law_941 (n := 944) rfl (by decide) rfl ?_
    refine yy_aload_n F d_L_law_944 (n := 945) rfl 3 rfl ?_
    refine yy_iconst (v := 0) F d_L_law_945 (n := 946) rfl rfl ?_
    refine yy_lald F X.2.1 3 rfl O2 (i := 0) (vp_in_nI (n := 0) (by decide) (by decide)) d_L_law_946 (n := 947) rfl ?_
    refine yy_iload F d_L_law_947 (n := 949) rfl 0 rfl ?_
    refine yy_if_eq (tgt := 956) F d_L_law_949 (n := 952) rfl (by decide) (fun hb => ?_) (fun hb => ?_)
    · refine yy_lconst (v := 0) F d_L_law_956 (n := 957) rfl rfl ?_
      refine yy_lcmp F d_L_law_957 (n := 958) rfl ?_
      refine yy_tope (y := 0) (by rw [show g1 (0 : Int32).toNatClampNeg = 0 from hg9.trans (if_pos (hv9 ▸ hb))]; exact lg_cmp0 _) ?_
      refine yy_if_eq_t (tgt := 963) F d_L_law_958 (by decide) rfl ?_
      refine yy_goto (tgt := 1801) F d_L_law_963 (by decide) ?_
      exact yy_sub [2, 3, 4, 5, 6] rfl (kk A1 (sp_has σ (xs (i + 1)) (xs (i + 2))).2.2 s2 _ g1 H2 _ _ Z2 S3 (by show k.1 + 1 + 0 ≤ k.1 + 4; omega) (by show k.2 + 6 + 0 ≤ k.2 + 56; omega))
    · refine yy_lconst (v := 1) F d_L_law_952 (n := 953) rfl rfl ?_
      refine yy_goto (tgt := 957) F d_L_law_953 (by decide) ?_
      refine yy_lcmp F d_L_law_957 (n := 958) rfl ?_
      refine yy_tope (y := 0) (by rw [show g1 (0 : Int32).toNatClampNeg = 1 from hg9.trans (if_neg (hv9 ▸ hb))]; exact lg_cmp0 _) ?_
      refine yy_if_eq_t (tgt := 963) F d_L_law_958 (by decide) rfl ?_
      refine yy_goto (tgt := 1801) F d_L_law_963 (by decide) ?_
      exact yy_sub [2, 3, 4, 5, 6] rfl (kk A1 (sp_has σ (xs (i + 1)) (xs (i + 2))).2.2 s2 _ g1 H2 _ _ Z2 S3 (by show k.1 + 1 + 0 ≤ k.1 + 4; omega) (by show k.2 + 6 + 0 ≤ k.2 + 56; omega))
set_option maxRecDepth 100000 in
set_option maxHeartbeats 4000000 in
theorem cs_value {b : yy_T} {rm : Room} {Post : yy_R → Heap → Prop} {l : Launch} {z : State} {a0 : Array Value} {D : va_G} {ca : kca} (X : kcx l z a0 D ca) (F : yy_A l z b rm code 7 R_L (some .boolean) [] Post) {sc L i : Nat} {xs : Nat → Int32} (hX : va_X sc L xs z z.heap) (hsc : sc < z.heap.size) (hi : i + 4 ≤ L) (hL : L ≤ 2048) {K a n ou : Nat} {A : kA} {σ : ks} {t : Nat} {s : ms} {cd : Int32} {g : Nat → Int64} {H : Heap} {locs : List Loc} {k : Nat × Nat} (Z : l_in D ca z K a n ou A σ t s cd g H) (ht : t + 25 ≤ 100000) (hS : yy_S z H locs) (hk : k.1 + 4 ≤ rm.cells ∧ k.2 + 56 ≤ rm.slots) (hfr : 11 ≤ rm.frames ∧ 300 ≤ rm.locals)
    (kk : ∀ (A1 : kA) (σ1 : ks) (s1 : ms) (cd1 : Int32) (g1 : Nat → Int64) (H1 : Heap) (locs1 : List Loc) (k1 : Nat × Nat), l_in D ca z K a n ou A1 σ1 (t + 25) s1 cd1 g1 H1 → yy_S z H1 locs1 → k1.1 ≤ k.1 + 4 → k1.2 ≤ k.2 + 56 → yy_Y b H1 locs1 k1 1801 [(4, .int (nI i)), (3, .ref ou), (2, .ref a), (1, .ref K), (0, .ref sc)] []) : yy_Y b H locs k 966 [(4, .int (nI i)), (3, .ref ou), (2, .ref a), (1, .ref K), (0, .ref sc)] [] := by
  have Z0 := Z
  obtain ⟨I, P, R, M, O, hK, hown, hoz, hoa, hon⟩ := Z
  subst hK
  refine yy_aload_n F d_L_law_966 (n := 967) rfl 3 rfl ?_
  refine yy_aload_n F d_L_law_967 (n := 968) rfl 4 rfl ?_
  refine yy_iload F d_L_law_968 (n := 970) rfl 0 rfl ?_
  refine yy_iconst (v := 1) F d_L_law_970 (n := 971) rfl rfl ?_
  refine yy_iadd F d_L_law_971 (n := 972) rfl ?_
  refine yy_tope (y := (nI (i + 1))) (nI_add i 1) ?_
  refine yy_sld F hX hsc hS (vp_in_nI (n := (i + 1)) (by omega) (by omega)) d_L_law_972 (n := 973) rfl ?_
  refine yy_tope (y := (xs (i + 1))) (nI_xld (by omega) hL) ?_
  refine yy_aload_n F d_L_law_973 (n := 974) rfl 4 rfl ?_
  refine yy_iload F d_L_law_974 (n := 976) rfl 0 rfl ?_
  refine yy_iconst (v := 2) F d_L_law_976 (n := 977) rfl rfl ?_
  refine yy_iadd F d_L_law_977 (n := 978) rfl ?_
  refine yy_tope (y := (nI (i + 2))) (nI_add i 2) ?_
  refine yy_sld F hX hsc hS (vp_in_nI (n := (i + 2)) (by omega) (by omega)) d_L_law_978 (n := 979) rfl ?_
  refine yy_tope (y := (xs (i + 2))) (nI_xld (by omega) hL) ?_
  refine yy_aload_n F d_L_law_979 (n := 980) rfl 1 rfl ?_
  refine yy_calli F hS (c_L_value (A := A) (σ := σ) (x := xs (i + 1)) (key := xs (i + 2)) X I ht hown.2.2 hoz) (yy_Bw F X.1 q_667 q_0) (yy_invSW (nA := 4) F X.1 q_665 q_666 q_0 q_667 ⟨by decide, by decide, by decide +kernel⟩ rfl d_L_law_980) d_L_law_980 (n := 983) rfl (by simp [Value.category]) ⟨show 9 + 1 ≤ rm.frames by omega, show 8 + (5 + 11) + 150 ≤ rm.locals by omega⟩ ⟨show k.1 + 1 ≤ rm.cells by omega, show k.2 + 6 ≤ rm.slots by omega⟩ ⟨P, O⟩ (fun v1 H1 locs1 q1 S1 => ?_)
  obtain ⟨hv1, ⟨A1, P1, hx1⟩, ⟨g1, O1, hg1⟩, hs1, hf1⟩ := q1
  obtain ⟨M1, hK1, hown1⟩ := l_mid Z0 P1 hx1 O1 hs1 hf1
  refine yy_tope (y := (c_of [e_io, e_uo, e_ns] (sp_value σ (xs (i + 1)) (xs (i + 2))).1)) hv1 ?_
  refine yy_istore (lv' := [(5, .int (c_of [e_io, e_uo, e_ns] (sp_value σ (xs (i + 1)) (xs (i + 2))).1)), (4, .int (nI i)), (3, .ref ou), (2, .ref a), (1, .ref (a_k A)), (0, .ref sc)]) F d_L_law_983 (n := 985) rfl (by decide) rfl ?_
  refine yy_aload_n F d_L_law_985 (n := 986) rfl 3 rfl ?_
  refine yy_aload_n F d_L_law_986 (n := 987) rfl 5 rfl ?_
  refine yy_iload F d_L_law_987 (n := 989) rfl 1 rfl ?_
  refine yy_iconst (v := 1) F d_L_law_989 (n := 990) rfl rfl ?_
  refine yy_iadd F d_L_law_990 (n := 991) rfl ?_
  refine yy_tope (y := (nI (i + 1))) (nI_add i 1) ?_
  refine yy_sld F hX hsc S1 (vp_in_nI (n := (i + 1)) (by omega) (by omega)) d_L_law_991 (n := 992) rfl ?_
  refine yy_tope (y := (xs (i + 1))) (nI_xld (by omega) hL) ?_
  refine yy_aload_n F d_L_law_992 (n := 993) rfl 5 rfl ?_
  refine yy_iload F d_L_law_993 (n := 995) rfl 1 rfl ?_
  refine yy_iconst (v := 2) F d_L_law_995 (n := 996) rfl rfl ?_
  refine yy_iadd F d_L_law_996 (n := 997) rfl ?_
  refine yy_tope (y := (nI (i + 2))) (nI_add i 2) ?_
  refine yy_sld F hX hsc S1 (vp_in_nI (n := (i + 2)) (by omega) (by omega)) d_L_law_997 (n := 998) rfl ?_
  refine yy_tope (y := (xs (i + 2))) (nI_xld (by omega) hL) ?_
  refine yy_calli F S1 (c_M_value (σ := σ) (x := xs (i + 1)) (key := xs (i + 2)) X I R) (yy_Bc F X.1 q_1045 q_3) (yy_invV (nA := 2) (C := R_M) (bytes := b_M_value) (maxL := 5) (retY := (some .int)) F X.1 q_1042 q_1043 q_1044 q_1045 ⟨by decide, by decide, by decide +kernel⟩ (yy_recv F.N X.2.1 (ci := 6) rfl M1.o) rfl d_L_law_998) d_L_law_998 (n := 1001) rfl (by simp [Value.category]) ⟨show 3 + 1 ≤ rm.frames by omega, show 8 + (5 + 11) + 63 ≤ rm.locals by omega⟩ ⟨show k.1 + 1 + 0 ≤ rm.cells by omega, show k.2 + 6 + 0 ≤ rm.slots by omega⟩ M1 (fun v2 H2 locs2 q2 S2 => ?_)
  obtain ⟨⟨⟨s2, R2, M2⟩, k2⟩, hv2⟩ := q2
  have I2 := iv_value I ht (xs (i + 1)) (xs (i + 2))
  have Z2 := l_fin I2 P1 R2 M1 M2 O1 hK1 hown1 ⟨hoz, hoa, hon⟩ k2
  have O2 := Z2.2.2.2.2.1
  refine yy_istore (lv' := [(6, .int v2), (5, .int (c_of [e_io, e_uo, e_ns] (sp_value σ (xs (i + 1)) (xs (i + 2))).1)), (4, .int (nI i)), (3, .ref ou), (2, .ref a), (1, .ref (a_k A)), (0, .ref sc)]) F d_L_law_1001 (n := 1003) rfl (by decide) rfl ?_
  refine yy_aload_n F d_L_law_1003 (n := 1004) rfl 4 rfl ?_
  refine yy_cri (w := c_of [e_io, e_uo, e_ns] (sp_value σ (xs (i + 1)) (xs (i + 2))).1) F S2 (c_M_thrown X I2 R2) (yy_Bc F X.1 q_902 q_3) (yy_invV (nA := 0) (C := R_M) (bytes := b_M_thrown) (maxL := 1) (retY := (some .int)) F X.1 q_899 q_900 q_901 q_902 ⟨by decide, by decide, by decide +kernel⟩ (yy_recv F.N X.2.1 (ci := 6) rfl M2.o) rfl d_L_law_1004) d_L_law_1004 (n := 1007) rfl (by simp [Value.category]) ⟨show 0 + 1 ≤ rm.frames by omega, show 8 + (1 + 11) + 0 ≤ rm.locals by omega⟩ ⟨show k.1 + 1 + 0 + 0 ≤ rm.cells by omega, show k.2 + 6 + 0 + 0 ≤ rm.slots by omega⟩ ⟨rfl, rfl⟩ M2 rfl (fun locs3 S3 => ?_)
  refine yy_iload F d_L_law_1007 (n := 1009) rfl 1 rfl ?_
  refine yy_ic_eq_t (tgt := 1014) F d_L_law_1009 (by decide) rfl ?_
  refine yy_iload F d_L_law_1014 (n := 1016) rfl 1 rfl ?_
  cases hr : (sp_value σ (xs (i + 1)) (xs (i + 2))).1 with
  | some E =>
    have hp9 := m_pos (ex_value_ σ (xs (i + 1)) (xs (i + 2)) E hr) (by decide)
    refine yy_if_ne_t (tgt := 1031) F d_L_law_1016 (by decide) hp9.2 ?_
    refine yy_goto (tgt := 1801) F d_L_law_1031 (by decide) ?_
    exact yy_sub [2, 3, 4, 5, 6] rfl (kk A1 (sp_value σ (xs (i + 1)) (xs (i + 2))).2.2 s2 _ g1 H2 _ _ Z2 S3 (by show k.1 + 1 + 0 ≤ k.1 + 4; omega) (by show k.2 + 6 + 0 ≤ k.2 + 56; omega))
  | none =>
    have hg9 := hg1 hr
    have hv9 := hv2 hr
    refine yy_if_ne_f (tgt := 1031) F d_L_law_1016 (n := 1019) rfl (by decide) rfl ?_
    refine yy_aload_n F d_L_law_1019 (n := 1020) rfl 3 rfl ?_
    refine yy_iconst (v := 0) F d_L_law_1020 (n := 1021) rfl rfl ?_
    refine yy_lald F X.2.1 3 rfl O2 (i := 0) (vp_in_nI (n := 0) (by decide) (by decide)) d_L_law_1021 (n := 1022) rfl ?_
    refine yy_iload F d_L_law_1022 (n := 1024) rfl 0 rfl ?_
    refine yy_i2l F d_L_law_1024 (n := 1025) rfl rfl ?_
    refine yy_lcmp F d_L_law_1025 (n := 1026) rfl ?_
    refine yy_tope (y := 0) (by rw [show g1 (0 : Int32).toNatClampNeg = v2.toInt64 by rw [hv9]; exact hg9]; exact lg_cmp0 _) ?_
    refine yy_if_eq_t (tgt := 1031) F d_L_law_1026 (by decide) rfl ?_
    refine yy_goto (tgt := 1801) F d_L_law_1031 (by decide) ?_
    exact yy_sub [2, 3, 4, 5, 6] rfl (kk A1 (sp_value σ (xs (i + 1)) (xs (i + 2))).2.2 s2 _ g1 H2 _ _ Z2 S3 (by show k.1 + 1 + 0 ≤ k.1 + 4; omega) (by show k.2 + 6 + 0 ≤ k.2 + 56; omega))
set_option maxRecDepth 100000 in
set_option maxHeartbeats 4000000 in
theorem cs_drop {b : yy_T} {rm : Room} {Post : yy_R → Heap → Prop} {l : Launch} {z : State} {a0 : Array Value} {D : va_G} {ca : kca} (X : kcx l z a0 D ca) (F : yy_A l z b rm code 7 R_L (some .boolean) [] Post) {sc L i : Nat} {xs : Nat → Int32} (hX : va_X sc L xs z z.heap) (hsc : sc < z.heap.size) (hi : i + 4 ≤ L) (hL : L ≤ 2048) {K a n ou : Nat} {A : kA} {σ : ks} {t : Nat} {s : ms} {cd : Int32} {g : Nat → Int64} {H : Heap} {locs : List Loc} {k : Nat × Nat} (Z : l_in D ca z K a n ou A σ t s cd g H) (ht : t + 25 ≤ 100000) (hS : yy_S z H locs) (hk : k.1 + 4 ≤ rm.cells ∧ k.2 + 56 ≤ rm.slots) (hfr : 11 ≤ rm.frames ∧ 300 ≤ rm.locals)
    (kk : ∀ (A1 : kA) (σ1 : ks) (s1 : ms) (cd1 : Int32) (g1 : Nat → Int64) (H1 : Heap) (locs1 : List Loc) (k1 : Nat × Nat), l_in D ca z K a n ou A1 σ1 (t + 25) s1 cd1 g1 H1 → yy_S z H1 locs1 → k1.1 ≤ k.1 + 4 → k1.2 ≤ k.2 + 56 → yy_Y b H1 locs1 k1 1801 [(4, .int (nI i)), (3, .ref ou), (2, .ref a), (1, .ref K), (0, .ref sc)] []) : yy_Y b H locs k 1034 [(4, .int (nI i)), (3, .ref ou), (2, .ref a), (1, .ref K), (0, .ref sc)] [] := by
  have Z0 := Z
  obtain ⟨I, P, R, M, O, hK, hown, hoz, hoa, hon⟩ := Z
  subst hK
  refine yy_aload_n F d_L_law_1034 (n := 1035) rfl 3 rfl ?_
  refine yy_aload_n F d_L_law_1035 (n := 1036) rfl 4 rfl ?_
  refine yy_iload F d_L_law_1036 (n := 1038) rfl 0 rfl ?_
  refine yy_iconst (v := 1) F d_L_law_1038 (n := 1039) rfl rfl ?_
  refine yy_iadd F d_L_law_1039 (n := 1040) rfl ?_
  refine yy_tope (y := (nI (i + 1))) (nI_add i 1) ?_
  refine yy_sld F hX hsc hS (vp_in_nI (n := (i + 1)) (by omega) (by omega)) d_L_law_1040 (n := 1041) rfl ?_
  refine yy_tope (y := (xs (i + 1))) (nI_xld (by omega) hL) ?_
  refine yy_aload_n F d_L_law_1041 (n := 1042) rfl 4 rfl ?_
  refine yy_iload F d_L_law_1042 (n := 1044) rfl 0 rfl ?_
  refine yy_iconst (v := 2) F d_L_law_1044 (n := 1045) rfl rfl ?_
  refine yy_iadd F d_L_law_1045 (n := 1046) rfl ?_
  refine yy_tope (y := (nI (i + 2))) (nI_add i 2) ?_
  refine yy_sld F hX hsc hS (vp_in_nI (n := (i + 2)) (by omega) (by omega)) d_L_law_1046 (n := 1047) rfl ?_
  refine yy_tope (y := (xs (i + 2))) (nI_xld (by omega) hL) ?_
  refine yy_aload_n F d_L_law_1047 (n := 1048) rfl 1 rfl ?_
  refine yy_calli F hS (c_L_drop (A := A) (σ := σ) (x := xs (i + 1)) (key := xs (i + 2)) X I ht hown.2.2 hoz) (yy_Bw F X.1 q_675 q_0) (yy_invSW (nA := 4) F X.1 q_673 q_674 q_0 q_675 ⟨by decide, by decide, by decide +kernel⟩ rfl d_L_law_1048) d_L_law_1048 (n := 1051) rfl (by simp [Value.category]) ⟨show 9 + 1 ≤ rm.frames by omega, show 8 + (5 + 11) + 150 ≤ rm.locals by omega⟩ ⟨show k.1 + 1 ≤ rm.cells by omega, show k.2 + 6 ≤ rm.slots by omega⟩ ⟨P, O⟩ (fun v1 H1 locs1 q1 S1 => ?_)
  obtain ⟨hv1, ⟨A1, P1, hx1⟩, ⟨g1, O1, hg1⟩, hs1, hf1⟩ := q1
  obtain ⟨M1, hK1, hown1⟩ := l_mid Z0 P1 hx1 O1 hs1 hf1
  refine yy_tope (y := (c_of [e_io, e_uo, e_ns] (sp_drop σ (xs (i + 1)) (xs (i + 2))).1)) hv1 ?_
  refine yy_istore (lv' := [(5, .int (c_of [e_io, e_uo, e_ns] (sp_drop σ (xs (i + 1)) (xs (i + 2))).1)), (4, .int (nI i)), (3, .ref ou), (2, .ref a), (1, .ref (a_k A)), (0, .ref sc)]) F d_L_law_1051 (n := 1053) rfl (by decide) rfl ?_
  refine yy_aload_n F d_L_law_1053 (n := 1054) rfl 3 rfl ?_
  refine yy_aload_n F d_L_law_1054 (n := 1055) rfl 5 rfl ?_
  refine yy_iload F d_L_law_1055 (n := 1057) rfl 1 rfl ?_
  refine yy_iconst (v := 1) F d_L_law_1057 (n := 1058) rfl rfl ?_
  refine yy_iadd F d_L_law_1058 (n := 1059) rfl ?_
  refine yy_tope (y := (nI (i + 1))) (nI_add i 1) ?_
  refine yy_sld F hX hsc S1 (vp_in_nI (n := (i + 1)) (by omega) (by omega)) d_L_law_1059 (n := 1060) rfl ?_
  refine yy_tope (y := (xs (i + 1))) (nI_xld (by omega) hL) ?_
  refine yy_aload_n F d_L_law_1060 (n := 1061) rfl 5 rfl ?_
  refine yy_iload F d_L_law_1061 (n := 1063) rfl 1 rfl ?_
  refine yy_iconst (v := 2) F d_L_law_1063 (n := 1064) rfl rfl ?_
  refine yy_iadd F d_L_law_1064 (n := 1065) rfl ?_
  refine yy_tope (y := (nI (i + 2))) (nI_add i 2) ?_
  refine yy_sld F hX hsc S1 (vp_in_nI (n := (i + 2)) (by omega) (by omega)) d_L_law_1065 (n := 1066) rfl ?_
  refine yy_tope (y := (xs (i + 2))) (nI_xld (by omega) hL) ?_
  refine yy_calli F S1 (c_M_drop (σ := σ) (x := xs (i + 1)) (key := xs (i + 2)) X I R) (yy_Bc F X.1 q_1053 q_3) (yy_invV (nA := 2) (C := R_M) (bytes := b_M_drop) (maxL := 5) (retY := (some .int)) F X.1 q_1050 q_1051 q_1052 q_1053 ⟨by decide, by decide, by decide +kernel⟩ (yy_recv F.N X.2.1 (ci := 6) rfl M1.o) rfl d_L_law_1066) d_L_law_1066 (n := 1069) rfl (by simp [Value.category]) ⟨show 3 + 1 ≤ rm.frames by omega, show 8 + (5 + 11) + 63 ≤ rm.locals by omega⟩ ⟨show k.1 + 1 + 0 ≤ rm.cells by omega, show k.2 + 6 + 0 ≤ rm.slots by omega⟩ M1 (fun v2 H2 locs2 q2 S2 => ?_)
  obtain ⟨⟨⟨s2, R2, M2⟩, k2⟩, hv2⟩ := q2
  have I2 := iv_drop I ht (xs (i + 1)) (xs (i + 2))
  have Z2 := l_fin I2 P1 R2 M1 M2 O1 hK1 hown1 ⟨hoz, hoa, hon⟩ k2
  have O2 := Z2.2.2.2.2.1
  refine yy_istore (lv' := [(6, .int v2), (5, .int (c_of [e_io, e_uo, e_ns] (sp_drop σ (xs (i + 1)) (xs (i + 2))).1)), (4, .int (nI i)), (3, .ref ou), (2, .ref a), (1, .ref (a_k A)), (0, .ref sc)]) F d_L_law_1069 (n := 1071) rfl (by decide) rfl ?_
  refine yy_aload_n F d_L_law_1071 (n := 1072) rfl 4 rfl ?_
  refine yy_cri (w := c_of [e_io, e_uo, e_ns] (sp_drop σ (xs (i + 1)) (xs (i + 2))).1) F S2 (c_M_thrown X I2 R2) (yy_Bc F X.1 q_902 q_3) (yy_invV (nA := 0) (C := R_M) (bytes := b_M_thrown) (maxL := 1) (retY := (some .int)) F X.1 q_899 q_900 q_901 q_902 ⟨by decide, by decide, by decide +kernel⟩ (yy_recv F.N X.2.1 (ci := 6) rfl M2.o) rfl d_L_law_1072) d_L_law_1072 (n := 1075) rfl (by simp [Value.category]) ⟨show 0 + 1 ≤ rm.frames by omega, show 8 + (1 + 11) + 0 ≤ rm.locals by omega⟩ ⟨show k.1 + 1 + 0 + 0 ≤ rm.cells by omega, show k.2 + 6 + 0 + 0 ≤ rm.slots by omega⟩ ⟨rfl, rfl⟩ M2 rfl (fun locs3 S3 => ?_)
  refine yy_iload F d_L_law_1075 (n := 1077) rfl 1 rfl ?_
  refine yy_ic_eq_t (tgt := 1082) F d_L_law_1077 (by decide) rfl ?_
  refine yy_iload F d_L_law_1082 (n := 1084) rfl 1 rfl ?_
  cases hr : (sp_drop σ (xs (i + 1)) (xs (i + 2))).1 with
  | some E =>
    have hp9 := m_pos (ex_drop_ σ (xs (i + 1)) (xs (i + 2)) E hr) (by decide)
    refine yy_if_ne_t (tgt := 1099) F d_L_law_1084 (by decide) hp9.2 ?_
    refine yy_goto (tgt := 1801) F d_L_law_1099 (by decide) ?_
    exact yy_sub [2, 3, 4, 5, 6] rfl (kk A1 (sp_drop σ (xs (i + 1)) (xs (i + 2))).2.2 s2 _ g1 H2 _ _ Z2 S3 (by show k.1 + 1 + 0 ≤ k.1 + 4; omega) (by show k.2 + 6 + 0 ≤ k.2 + 56; omega))
  | none =>
    have hg9 := hg1 hr
    have hv9 := hv2 hr
    refine yy_if_ne_f (tgt := 1099) F d_L_law_1084 (n := 1087) rfl (by decide) rfl ?_
    refine yy_aload_n F d_L_law_1087 (n := 1088) rfl 3 rfl ?_
    refine yy_iconst (v := 0) F d_L_law_1088 (n := 1089) rfl rfl ?_
    refine yy_lald F X.2.1 3 rfl O2 (i := 0) (vp_in_nI (n := 0) (by decide) (by decide)) d_L_law_1089 (n := 1090) rfl ?_
    refine yy_iload F d_L_law_1090 (n := 1092) rfl 0 rfl ?_
    refine yy_i2l F d_L_law_1092 (n := 1093) rfl rfl ?_
    refine yy_lcmp F d_L_law_1093 (n := 1094) rfl ?_
    refine yy_tope (y := 0) (by rw [show g1 (0 : Int32).toNatClampNeg = v2.toInt64 by rw [hv9]; exact hg9]; exact lg_cmp0 _) ?_
    refine yy_if_eq_t (tgt := 1099) F d_L_law_1094 (by decide) rfl ?_
    refine yy_goto (tgt := 1801) F d_L_law_1099 (by decide) ?_
    exact yy_sub [2, 3, 4, 5, 6] rfl (kk A1 (sp_drop σ (xs (i + 1)) (xs (i + 2))).2.2 s2 _ g1 H2 _ _ Z2 S3 (by show k.1 + 1 + 0 ≤ k.1 + 4; omega) (by show k.2 + 6 + 0 ≤ k.2 + 56; omega))
set_option maxRecDepth 100000 in
set_option maxHeartbeats 4000000 in
theorem cs_near {b : yy_T} {rm : Room} {Post : yy_R → Heap → Prop} {l : Launch} {z : State} {a0 : Array Value} {D : va_G} {ca : kca} (X : kcx l z a0 D ca) (F : yy_A l z b rm code 7 R_L (some .boolean) [] Post) {sc L i : Nat} {xs : Nat → Int32} (hX : va_X sc L xs z z.heap) (hsc : sc < z.heap.size) (hi : i + 4 ≤ L) (hL : L ≤ 2048) {K a n ou : Nat} {A : kA} {σ : ks} {t : Nat} {s : ms} {cd : Int32} {g : Nat → Int64} {H : Heap} {locs : List Loc} {k : Nat × Nat} (Z : l_in D ca z K a n ou A σ t s cd g H) (ht : t + 25 ≤ 100000) (hS : yy_S z H locs) (hk : k.1 + 4 ≤ rm.cells ∧ k.2 + 56 ≤ rm.slots) (hfr : 11 ≤ rm.frames ∧ 300 ≤ rm.locals)
    (kk : ∀ (A1 : kA) (σ1 : ks) (s1 : ms) (cd1 : Int32) (g1 : Nat → Int64) (H1 : Heap) (locs1 : List Loc) (k1 : Nat × Nat), l_in D ca z K a n ou A1 σ1 (t + 25) s1 cd1 g1 H1 → yy_S z H1 locs1 → k1.1 ≤ k.1 + 4 → k1.2 ≤ k.2 + 56 → yy_Y b H1 locs1 k1 1801 [(4, .int (nI i)), (3, .ref ou), (2, .ref a), (1, .ref K), (0, .ref sc)] []) : yy_Y b H locs k 1102 [(4, .int (nI i)), (3, .ref ou), (2, .ref a), (1, .ref K), (0, .ref sc)] [] := by
  have Z0 := Z
  obtain ⟨I, P, R, M, O, hK, hown, hoz, hoa, hon⟩ := Z
  subst hK
  refine yy_aload_n F d_L_law_1102 (n := 1103) rfl 3 rfl ?_
  refine yy_aload_n F d_L_law_1103 (n := 1104) rfl 4 rfl ?_
  refine yy_iload F d_L_law_1104 (n := 1106) rfl 0 rfl ?_
  refine yy_iconst (v := 1) F d_L_law_1106 (n := 1107) rfl rfl ?_
  refine yy_iadd F d_L_law_1107 (n := 1108) rfl ?_
  refine yy_tope (y := (nI (i + 1))) (nI_add i 1) ?_
  refine yy_sld F hX hsc hS (vp_in_nI (n := (i + 1)) (by omega) (by omega)) d_L_law_1108 (n := 1109) rfl ?_
  refine yy_tope (y := (xs (i + 1))) (nI_xld (by omega) hL) ?_
  refine yy_aload_n F d_L_law_1109 (n := 1110) rfl 4 rfl ?_
  refine yy_iload F d_L_law_1110 (n := 1112) rfl 0 rfl ?_
  refine yy_iconst (v := 2) F d_L_law_1112 (n := 1113) rfl rfl ?_
  refine yy_iadd F d_L_law_1113 (n := 1114) rfl ?_
  refine yy_tope (y := (nI (i + 2))) (nI_add i 2) ?_
  refine yy_sld F hX hsc hS (vp_in_nI (n := (i + 2)) (by omega) (by omega)) d_L_law_1114 (n := 1115) rfl ?_
  refine yy_tope (y := (xs (i + 2))) (nI_xld (by omega) hL) ?_
  refine yy_aload_n F d_L_law_1115 (n := 1116) rfl 4 rfl ?_
  refine yy_iload F d_L_law_1116 (n := 1118) rfl 0 rfl ?_
  refine yy_iconst (v := 3) F d_L_law_1118 (n := 1119) rfl rfl ?_
  refine yy_iadd F d_L_law_1119 (n := 1120) rfl ?_
  refine yy_tope (y := (nI (i + 3))) (nI_add i 3) ?_
  refine yy_sld F hX hsc hS (vp_in_nI (n := (i + 3)) (by omega) (by omega)) d_L_law_1120 (n := 1121) rfl ?_
  refine yy_tope (y := (xs (i + 3))) (nI_xld (by omega) hL) ?_
  refine yy_aload_n F d_L_law_1121 (n := 1122) rfl 1 rfl ?_
  refine yy_calli F hS (c_L_near (A := A) (σ := σ) (x := xs (i + 1)) (key := xs (i + 2)) (how := xs (i + 3)) X I ht hown.2.2 hoz) (yy_Bw F X.1 q_682 q_0) (yy_invSW (nA := 5) F X.1 q_680 q_681 q_0 q_682 ⟨by decide, by decide, by decide +kernel⟩ rfl d_L_law_1122) d_L_law_1122 (n := 1125) rfl (by simp [Value.category]) ⟨show 8 + 1 ≤ rm.frames by omega, show 8 + (6 + 11) + 130 ≤ rm.locals by omega⟩ ⟨show k.1 + 1 ≤ rm.cells by omega, show k.2 + 6 ≤ rm.slots by omega⟩ ⟨P, O⟩ (fun v1 H1 locs1 q1 S1 => ?_)
  obtain ⟨hv1, ⟨A1, P1, hx1⟩, ⟨g1, O1, hg1⟩, hs1, hf1⟩ := q1
  obtain ⟨M1, hK1, hown1⟩ := l_mid Z0 P1 hx1 O1 hs1 hf1
  refine yy_tope (y := (c_of [e_io, e_uo, e_ia, e_ns] (sp_near σ (xs (i + 1)) (xs (i + 2)) (xs (i + 3))).1)) hv1 ?_
  refine yy_istore (lv' := [(5, .int (c_of [e_io, e_uo, e_ia, e_ns] (sp_near σ (xs (i + 1)) (xs (i + 2)) (xs (i + 3))).1)), (4, .int (nI i)), (3, .ref ou), (2, .ref a), (1, .ref (a_k A)), (0, .ref sc)]) F d_L_law_1125 (n := 1127) rfl (by decide) rfl ?_
  refine yy_aload_n F d_L_law_1127 (n := 1128) rfl 3 rfl ?_
  refine yy_aload_n F d_L_law_1128 (n := 1129) rfl 5 rfl ?_
  refine yy_iload F d_L_law_1129 (n := 1131) rfl 1 rfl ?_
  refine yy_iconst (v := 1) F d_L_law_1131 (n := 1132) rfl rfl ?_
  refine yy_iadd F d_L_law_1132 (n := 1133) rfl ?_
  refine yy_tope (y := (nI (i + 1))) (nI_add i 1) ?_
  refine yy_sld F hX hsc S1 (vp_in_nI (n := (i + 1)) (by omega) (by omega)) d_L_law_1133 (n := 1134) rfl ?_
  refine yy_tope (y := (xs (i + 1))) (nI_xld (by omega) hL) ?_
  refine yy_aload_n F d_L_law_1134 (n := 1135) rfl 5 rfl ?_
  refine yy_iload F d_L_law_1135 (n := 1137) rfl 1 rfl ?_
  refine yy_iconst (v := 2) F d_L_law_1137 (n := 1138) rfl rfl ?_
  refine yy_iadd F d_L_law_1138 (n := 1139) rfl ?_
  refine yy_tope (y := (nI (i + 2))) (nI_add i 2) ?_
  refine yy_sld F hX hsc S1 (vp_in_nI (n := (i + 2)) (by omega) (by omega)) d_L_law_1139 (n := 1140) rfl ?_
  refine yy_tope (y := (xs (i + 2))) (nI_xld (by omega) hL) ?_
  refine yy_aload_n F d_L_law_1140 (n := 1141) rfl 5 rfl ?_
  refine yy_iload F d_L_law_1141 (n := 1143) rfl 1 rfl ?_
  refine yy_iconst (v := 3) F d_L_law_1143 (n := 1144) rfl rfl ?_
  refine yy_iadd F d_L_law_1144 (n := 1145) rfl ?_
  refine yy_tope (y := (nI (i + 3))) (nI_add i 3) ?_
  refine yy_sld F hX hsc S1 (vp_in_nI (n := (i + 3)) (by omega) (by omega)) d_L_law_1145 (n := 1146) rfl ?_
  refine yy_tope (y := (xs (i + 3))) (nI_xld (by omega) hL) ?_
  refine yy_calli F S1 (c_M_near (σ := σ) (x := xs (i + 1)) (key := xs (i + 2)) (how := xs (i + 3)) X I R) (yy_Bc F X.1 q_1057 q_3) (yy_invV (nA := 3) (C := R_M) (bytes := b_M_near) (maxL := 6) (retY := (some .int)) F X.1 q_1054 q_1055 q_1056 q_1057 ⟨by decide, by decide, by decide +kernel⟩ (yy_recv F.N X.2.1 (ci := 6) rfl M1.o) rfl d_L_law_1146) d_L_law_1146 (n := 1149) rfl (by simp [Value.category]) ⟨show 2 + 1 ≤ rm.frames by omega, show 8 + (6 + 11) + 45 ≤ rm.locals by omega⟩ ⟨show k.1 + 1 + 0 ≤ rm.cells by omega, show k.2 + 6 + 0 ≤ rm.slots by omega⟩ M1 (fun v2 H2 locs2 q2 S2 => ?_)
  obtain ⟨⟨⟨s2, R2, M2⟩, k2⟩, hv2⟩ := q2
  have I2 := iv_near I ht (xs (i + 1)) (xs (i + 3)) (xs (i + 2))
  have Z2 := l_fin I2 P1 R2 M1 M2 O1 hK1 hown1 ⟨hoz, hoa, hon⟩ k2
  have O2 := Z2.2.2.2.2.1
  refine yy_istore (lv' := [(6, .int v2), (5, .int (c_of [e_io, e_uo, e_ia, e_ns] (sp_near σ (xs (i + 1)) (xs (i + 2)) (xs (i + 3))).1)), (4, .int (nI i)), (3, .ref ou), (2, .ref a), (1, .ref (a_k A)), (0, .ref sc)]) F d_L_law_1149 (n := 1151) rfl (by decide) rfl ?_
  refine yy_aload_n F d_L_law_1151 (n := 1152) rfl 4 rfl ?_
  refine yy_cri (w := c_of [e_io, e_uo, e_ia, e_ns] (sp_near σ (xs (i + 1)) (xs (i + 2)) (xs (i + 3))).1) F S2 (c_M_thrown X I2 R2) (yy_Bc F X.1 q_902 q_3) (yy_invV (nA := 0) (C := R_M) (bytes := b_M_thrown) (maxL := 1) (retY := (some .int)) F X.1 q_899 q_900 q_901 q_902 ⟨by decide, by decide, by decide +kernel⟩ (yy_recv F.N X.2.1 (ci := 6) rfl M2.o) rfl d_L_law_1152) d_L_law_1152 (n := 1155) rfl (by simp [Value.category]) ⟨show 0 + 1 ≤ rm.frames by omega, show 8 + (1 + 11) + 0 ≤ rm.locals by omega⟩ ⟨show k.1 + 1 + 0 + 0 ≤ rm.cells by omega, show k.2 + 6 + 0 + 0 ≤ rm.slots by omega⟩ ⟨rfl, rfl⟩ M2 rfl (fun locs3 S3 => ?_)
  refine yy_iload F d_L_law_1155 (n := 1157) rfl 1 rfl ?_
  refine yy_ic_eq_t (tgt := 1162) F d_L_law_1157 (by decide) rfl ?_
  refine yy_iload F d_L_law_1162 (n := 1164) rfl 1 rfl ?_
  cases hr : (sp_near σ (xs (i + 1)) (xs (i + 2)) (xs (i + 3))).1 with
  | some E =>
    have hp9 := m_pos (ex_near_ σ (xs (i + 1)) (xs (i + 2)) (xs (i + 3)) E hr) (by decide)
    refine yy_if_ne_t (tgt := 1179) F d_L_law_1164 (by decide) hp9.2 ?_
    refine yy_goto (tgt := 1801) F d_L_law_1179 (by decide) ?_
    exact yy_sub [2, 3, 4, 5, 6] rfl (kk A1 (sp_near σ (xs (i + 1)) (xs (i + 2)) (xs (i + 3))).2.2 s2 _ g1 H2 _ _ Z2 S3 (by show k.1 + 1 + 0 ≤ k.1 + 4; omega) (by show k.2 + 6 + 0 ≤ k.2 + 56; omega))
  | none =>
    have hg9 := hg1 hr
    have hv9 := hv2 hr
    refine yy_if_ne_f (tgt := 1179) F d_L_law_1164 (n := 1167) rfl (by decide) rfl ?_
    refine yy_aload_n F d_L_law_1167 (n := 1168) rfl 3 rfl ?_
    refine yy_iconst (v := 0) F d_L_law_1168 (n := 1169) rfl rfl ?_
    refine yy_lald F X.2.1 3 rfl O2 (i := 0) (vp_in_nI (n := 0) (by decide) (by decide)) d_L_law_1169 (n := 1170) rfl ?_
    refine yy_iload F d_L_law_1170 (n := 1172) rfl 0 rfl ?_
    refine yy_i2l F d_L_law_1172 (n := 1173) rfl rfl ?_
    refine yy_lcmp F d_L_law_1173 (n := 1174) rfl ?_
    refine yy_tope (y := 0) (by rw [show g1 (0 : Int32).toNatClampNeg = v2.toInt64 by rw [hv9]; exact hg9]; exact lg_cmp0 _) ?_
    refine yy_if_eq_t (tgt := 1179) F d_L_law_1174 (by decide) rfl ?_
    refine yy_goto (tgt := 1801) F d_L_law_1179 (by decide) ?_
    exact yy_sub [2, 3, 4, 5, 6] rfl (kk A1 (sp_near σ (xs (i + 1)) (xs (i + 2)) (xs (i + 3))).2.2 s2 _ g1 H2 _ _ Z2 S3 (by show k.1 + 1 + 0 ≤ k.1 + 4; omega) (by show k.2 + 6 + 0 ≤ k.2 + 56; omega))
set_option maxRecDepth 100000 in
set_option maxHeartbeats 4000000 in
theorem cs_room {b : yy_T} {rm : Room} {Post : yy_R → Heap → Prop} {l : Launch} {z : State} {a0 : Array Value} {D : va_G} {ca : kca} (X : kcx l z a0 D ca) (F : yy_A l z b rm code 7 R_L (some .boolean) [] Post) {sc L i : Nat} {xs : Nat → Int32} (hX : va_X sc L xs z z.heap) (hsc : sc < z.heap.size) (hi : i + 4 ≤ L) (hL : L ≤ 2048) {K a n ou : Nat} {A : kA} {σ : ks} {t : Nat} {s : ms} {cd : Int32} {g : Nat → Int64} {H : Heap} {locs : List Loc} {k : Nat × Nat} (Z : l_in D ca z K a n ou A σ t s cd g H) (ht : t + 25 ≤ 100000) (hS : yy_S z H locs) (hk : k.1 + 4 ≤ rm.cells ∧ k.2 + 56 ≤ rm.slots) (hfr : 11 ≤ rm.frames ∧ 300 ≤ rm.locals)
    (kk : ∀ (A1 : kA) (σ1 : ks) (s1 : ms) (cd1 : Int32) (g1 : Nat → Int64) (H1 : Heap) (locs1 : List Loc) (k1 : Nat × Nat), l_in D ca z K a n ou A1 σ1 (t + 25) s1 cd1 g1 H1 → yy_S z H1 locs1 → k1.1 ≤ k.1 + 4 → k1.2 ≤ k.2 + 56 → yy_Y b H1 locs1 k1 1801 [(4, .int (nI i)), (3, .ref ou), (2, .ref a), (1, .ref K), (0, .ref sc)] []) : yy_Y b H locs k 1182 [(4, .int (nI i)), (3, .ref ou), (2, .ref a), (1, .ref K), (0, .ref sc)] [] := by
  have Z0 := Z
  obtain ⟨I, P, R, M, O, hK, hown, hoz, hoa, hon⟩ := Z
  subst hK
  refine yy_aload_n F d_L_law_1182 (n := 1183) rfl 3 rfl ?_
  refine yy_aload_n F d_L_law_1183 (n := 1184) rfl 4 rfl ?_
  refine yy_iload F d_L_law_1184 (n := 1186) rfl 0 rfl ?_
  refine yy_iconst (v := 1) F d_L_law_1186 (n := 1187) rfl rfl ?_
  refine yy_iadd F d_L_law_1187 (n := 1188) rfl ?_
  refine yy_tope (y := (nI (i + 1))) (nI_add i 1) ?_
  refine yy_sld F hX hsc hS (vp_in_nI (n := (i + 1)) (by omega) (by omega)) d_L_law_1188 (n := 1189) rfl ?_
  refine yy_tope (y := (xs (i + 1))) (nI_xld (by omega) hL) ?_
  refine yy_aload_n F d_L_law_1189 (n := 1190) rfl 1 rfl ?_
  refine yy_calli F hS (c_L_room (A := A) (σ := σ) (x := xs (i + 1)) X I ht hown.2.2 hoz) (yy_Bw F X.1 q_699 q_0) (yy_invSW (nA := 3) F X.1 q_697 q_698 q_0 q_699 ⟨by decide, by decide, by decide +kernel⟩ rfl d_L_law_1190) d_L_law_1190 (n := 1193) rfl (by simp [Value.category]) ⟨show 8 + 1 ≤ rm.frames by omega, show 8 + (4 + 11) + 125 ≤ rm.locals by omega⟩ ⟨show k.1 + 1 ≤ rm.cells by omega, show k.2 + 6 ≤ rm.slots by omega⟩ ⟨P, O⟩ (fun v1 H1 locs1 q1 S1 => ?_)
  obtain ⟨hv1, ⟨A1, P1, hx1⟩, ⟨g1, O1, hg1⟩, hs1, hf1⟩ := q1
  obtain ⟨M1, hK1, hown1⟩ := l_mid Z0 P1 hx1 O1 hs1 hf1
  refine yy_tope (y := (c_of [e_io, e_uo] (sp_room σ (xs (i + 1))).1)) hv1 ?_
  refine yy_istore (lv' := [(5, .int (c_of [e_io, e_uo] (sp_room σ (xs (i + 1))).1)), (4, .int (nI i)), (3, .ref ou), (2, .ref a), (1, .ref (a_k A)), (0, .ref sc)]) F d_L_law_1193 (n := 1195) rfl (by decide) rfl ?_
  refine yy_aload_n F d_L_law_1195 (n := 1196) rfl 3 rfl ?_
  refine yy_aload_n F d_L_law_1196 (n := 1197) rfl 5 rfl ?_
  refine yy_iload F d_L_law_1197 (n := 1199) rfl 1 rfl ?_
  refine yy_iconst (v := 1) F d_L_law_1199 (n := 1200) rfl rfl ?_
  refine yy_iadd F d_L_law_1200 (n := 1201) rfl ?_
  refine yy_tope (y := (nI (i + 1))) (nI_add i 1) ?_
  refine yy_sld F hX hsc S1 (vp_in_nI (n := (i + 1)) (by omega) (by omega)) d_L_law_1201 (n := 1202) rfl ?_
  refine yy_tope (y := (xs (i + 1))) (nI_xld (by omega) hL) ?_
  refine yy_calli F S1 (c_M_room (σ := σ) (x := xs (i + 1)) X I R) (yy_Bc F X.1 q_1064 q_3) (yy_invV (nA := 1) (C := R_M) (bytes := b_M_room) (maxL := 2) (retY := (some .int)) F X.1 q_1061 q_1062 q_1063 q_1064 ⟨by decide, by decide, by decide +kernel⟩ (yy_recv F.N X.2.1 (ci := 6) rfl M1.o) rfl d_L_law_1202) d_L_law_1202 (n := 1205) rfl (by simp [Value.category]) ⟨show 1 + 1 ≤ rm.frames by omega, show 8 + (2 + 11) + 21 ≤ rm.locals by omega⟩ ⟨show k.1 + 1 + 0 ≤ rm.cells by omega, show k.2 + 6 + 0 ≤ rm.slots by omega⟩ M1 (fun v2 H2 locs2 q2 S2 => ?_)
  obtain ⟨⟨⟨s2, R2, M2⟩, k2⟩, hv2⟩ := q2
  have I2 := iv_room I ht (xs (i + 1))
  have Z2 := l_fin I2 P1 R2 M1 M2 O1 hK1 hown1 ⟨hoz, hoa, hon⟩ k2
  have O2 := Z2.2.2.2.2.1
  refine yy_istore (lv' := [(6, .int v2), (5, .int (c_of [e_io, e_uo] (sp_room σ (xs (i + 1))).1)), (4, .int (nI i)), (3, .ref ou), (2, .ref a), (1, .ref (a_k A)), (0, .ref sc)]) F d_L_law_1205 (n := 1207) rfl (by decide) rfl ?_
  refine yy_aload_n F d_L_law_1207 (n := 1208) rfl 4 rfl ?_
  refine yy_cri (w := c_of [e_io, e_uo] (sp_room σ (xs (i + 1))).1) F S2 (c_M_thrown X I2 R2) (yy_Bc F X.1 q_902 q_3) (yy_invV (nA := 0) (C := R_M) (bytes := b_M_thrown) (maxL := 1) (retY := (some .int)) F X.1 q_899 q_900 q_901 q_902 ⟨by decide, by decide, by decide +kernel⟩ (yy_recv F.N X.2.1 (ci := 6) rfl M2.o) rfl d_L_law_1208) d_L_law_1208 (n := 1211) rfl (by simp [Value.category]) ⟨show 0 + 1 ≤ rm.frames by omega, show 8 + (1 + 11) + 0 ≤ rm.locals by omega⟩ ⟨show k.1 + 1 + 0 + 0 ≤ rm.cells by omega, show k.2 + 6 + 0 + 0 ≤ rm.slots by omega⟩ ⟨rfl, rfl⟩ M2 rfl (fun locs3 S3 => ?_)
  refine yy_iload F d_L_law_1211 (n := 1213) rfl 1 rfl ?_
  refine yy_ic_eq_t (tgt := 1218) F d_L_law_1213 (by decide) rfl ?_
  refine yy_iload F d_L_law_1218 (n := 1220) rfl 1 rfl ?_
  cases hr : (sp_room σ (xs (i + 1))).1 with
  | some E =>
    have hp9 := m_pos (ex_room_ σ (xs (i + 1)) E hr) (by decide)
    refine yy_if_ne_t (tgt := 1235) F d_L_law_1220 (by decide) hp9.2 ?_
    refine yy_goto (tgt := 1801) F d_L_law_1235 (by decide) ?_
    exact yy_sub [2, 3, 4, 5, 6] rfl (kk A1 (sp_room σ (xs (i + 1))).2.2 s2 _ g1 H2 _ _ Z2 S3 (by show k.1 + 1 + 0 ≤ k.1 + 4; omega) (by show k.2 + 6 + 0 ≤ k.2 + 56; omega))
  | none =>
    have hg9 := hg1 hr
    have hv9 := hv2 hr
    refine yy_if_ne_f (tgt := 1235) F d_L_law_1220 (n := 1223) rfl (by decide) rfl ?_
    refine yy_aload_n F d_L_law_1223 (n := 1224) rfl 3 rfl ?_
    refine yy_iconst (v := 0) F d_L_law_1224 (n := 1225) rfl rfl ?_
    refine yy_lald F X.2.1 3 rfl O2 (i := 0) (vp_in_nI (n := 0) (by decide) (by decide)) d_L_law_1225 (n := 1226) rfl ?_
    refine yy_iload F d_L_law_1226 (n := 1228) rfl 0 rfl ?_
    refine yy_i2l F d_L_law_1228 (n := 1229) rfl rfl ?_
    refine yy_lcmp F d_L_law_1229 (n := 1230) rfl ?_
    refine yy_tope (y := 0) (by rw [show g1 (0 : Int32).toNatClampNeg = v2.toInt64 by rw [hv9]; exact hg9]; exact lg_cmp0 _) ?_
    refine yy_if_eq_t (tgt := 1235) F d_L_law_1230 (by decide) rfl ?_
    refine yy_goto (tgt := 1801) F d_L_law_1235 (by decide) ?_
    exact yy_sub [2, 3, 4, 5, 6] rfl (kk A1 (sp_room σ (xs (i + 1))).2.2 s2 _ g1 H2 _ _ Z2 S3 (by show k.1 + 1 + 0 ≤ k.1 + 4; omega) (by show k.2 + 6 + 0 ≤ k.2 + 56; omega))
set_option maxRecDepth 100000 in
set_option maxHeartbeats 4000000 in
theorem cs_bucket {b : yy_T} {rm : Room} {Post : yy_R → Heap → Prop} {l : Launch} {z : State} {a0 : Array Value} {D : va_G} {ca : kca} (X : kcx l z a0 D ca) (F : yy_A l z b rm code 7 R_L (some .boolean) [] Post) {sc L i : Nat} {xs : Nat → Int32} (hX : va_X sc L xs z z.heap) (hsc : sc < z.heap.size) (hi : i + 4 ≤ L) (hL : L ≤ 2048) {K a n ou : Nat} {A : kA} {σ : ks} {t : Nat} {s : ms} {cd : Int32} {g : Nat → Int64} {H : Heap} {locs : List Loc} {k : Nat × Nat} (Z : l_in D ca z K a n ou A σ t s cd g H) (ht : t + 25 ≤ 100000) (hS : yy_S z H locs) (hk : k.1 + 4 ≤ rm.cells ∧ k.2 + 56 ≤ rm.slots) (hfr : 11 ≤ rm.frames ∧ 300 ≤ rm.locals)
    (kk : ∀ (A1 : kA) (σ1 : ks) (s1 : ms) (cd1 : Int32) (g1 : Nat → Int64) (H1 : Heap) (locs1 : List Loc) (k1 : Nat × Nat), l_in D ca z K a n ou A1 σ1 (t + 25) s1 cd1 g1 H1 → yy_S z H1 locs1 → k1.1 ≤ k.1 + 4 → k1.2 ≤ k.2 + 56 → yy_Y b H1 locs1 k1 1801 [(4, .int (nI i)), (3, .ref ou), (2, .ref a), (1, .ref K), (0, .ref sc)] []) : yy_Y b H locs k 1238 [(4, .int (nI i)), (3, .ref ou), (2, .ref a), (1, .ref K), (0, .ref sc)] [] := by
  have Z0 := Z
  obtain ⟨I, P, R, M, O, hK, hown, hoz, hoa, hon⟩ := Z
  subst hK
  refine yy_aload_n F d_L_law_1238 (n := 1239) rfl 3 rfl ?_
  refine yy_aload_n F d_L_law_1239 (n := 1240) rfl 4 rfl ?_
  refine yy_iload F d_L_law_1240 (n := 1242) rfl 0 rfl ?_
  refine yy_iconst (v := 1) F d_L_law_1242 (n := 1243) rfl rfl ?_
  refine yy_iadd F d_L_law_1243 (n := 1244) rfl ?_
  refine yy_tope (y := (nI (i + 1))) (nI_add i 1) ?_
  refine yy_sld F hX hsc hS (vp_in_nI (n := (i + 1)) (by omega) (by omega)) d_L_law_1244 (n := 1245) rfl ?_
  refine yy_tope (y := (xs (i + 1))) (nI_xld (by omega) hL) ?_
  refine yy_aload_n F d_L_law_1245 (n := 1246) rfl 4 rfl ?_
  refine yy_iload F d_L_law_1246 (n := 1248) rfl 0 rfl ?_
  refine yy_iconst (v := 2) F d_L_law_1248 (n := 1249) rfl rfl ?_
  refine yy_iadd F d_L_law_1249 (n := 1250) rfl ?_
  refine yy_tope (y := (nI (i + 2))) (nI_add i 2) ?_
  refine yy_sld F hX hsc hS (vp_in_nI (n := (i + 2)) (by omega) (by omega)) d_L_law_1250 (n := 1251) rfl ?_
  refine yy_tope (y := (xs (i + 2))) (nI_xld (by omega) hL) ?_
  refine yy_aload_n F d_L_law_1251 (n := 1252) rfl 1 rfl ?_
  refine yy_calli F hS (c_L_bucket (A := A) (σ := σ) (x := xs (i + 1)) (key := xs (i + 2)) X I ht hown.2.2 hoz) (yy_Bw F X.1 q_707 q_0) (yy_invSW (nA := 4) F X.1 q_705 q_706 q_0 q_707 ⟨by decide, by decide, by decide +kernel⟩ rfl d_L_law_1252) d_L_law_1252 (n := 1255) rfl (by simp [Value.category]) ⟨show 8 + 1 ≤ rm.frames by omega, show 8 + (5 + 11) + 126 ≤ rm.locals by omega⟩ ⟨show k.1 + 1 ≤ rm.cells by omega, show k.2 + 6 ≤ rm.slots by omega⟩ ⟨P, O⟩ (fun v1 H1 locs1 q1 S1 => ?_)
  obtain ⟨hv1, ⟨A1, P1, hx1⟩, ⟨g1, O1, hg1⟩, hs1, hf1⟩ := q1
  obtain ⟨M1, hK1, hown1⟩ := l_mid Z0 P1 hx1 O1 hs1 hf1
  refine yy_tope (y := (c_of [e_io, e_uo] (sp_bucket σ (xs (i + 1)) (xs (i + 2))).1)) hv1 ?_
  refine yy_istore (lv' := [(5, .int (c_of [e_io, e_uo] (sp_bucket σ (xs (i + 1)) (xs (i + 2))).1)), (4, .int (nI i)), (3, .ref ou), (2, .ref a), (1, .ref (a_k A)), (0, .ref sc)]) F d_L_law_1255 (n := 1257) rfl (by decide) rfl ?_
  refine yy_aload_n F d_L_law_1257 (n := 1258) rfl 3 rfl ?_
  refine yy_aload_n F d_L_law_1258 (n := 1259) rfl 5 rfl ?_
  refine yy_iload F d_L_law_1259 (n := 1261) rfl 1 rfl ?_
  refine yy_iconst (v := 1) F d_L_law_1261 (n := 1262) rfl rfl ?_
  refine yy_iadd F d_L_law_1262 (n := 1263) rfl ?_
  refine yy_tope (y := (nI (i + 1))) (nI_add i 1) ?_
  refine yy_sld F hX hsc S1 (vp_in_nI (n := (i + 1)) (by omega) (by omega)) d_L_law_1263 (n := 1264) rfl ?_
  refine yy_tope (y := (xs (i + 1))) (nI_xld (by omega) hL) ?_
  refine yy_aload_n F d_L_law_1264 (n := 1265) rfl 5 rfl ?_
  refine yy_iload F d_L_law_1265 (n := 1267) rfl 1 rfl ?_
  refine yy_iconst (v := 2) F d_L_law_1267 (n := 1268) rfl rfl ?_
  refine yy_iadd F d_L_law_1268 (n := 1269) rfl ?_
  refine yy_tope (y := (nI (i + 2))) (nI_add i 2) ?_
  refine yy_sld F hX hsc S1 (vp_in_nI (n := (i + 2)) (by omega) (by omega)) d_L_law_1269 (n := 1270) rfl ?_
  refine yy_tope (y := (xs (i + 2))) (nI_xld (by omega) hL) ?_
  refine yy_calli F S1 (c_M_bucket (σ := σ) (x := xs (i + 1)) (key := xs (i + 2)) X I R) (yy_Bc F X.1 q_1068 q_3) (yy_invV (nA := 2) (C := R_M) (bytes := b_M_bucket) (maxL := 5) (retY := (some .int)) F X.1 q_1065 q_1066 q_1067 q_1068 ⟨by decide, by decide, by decide +kernel⟩ (yy_recv F.N X.2.1 (ci := 6) rfl M1.o) rfl d_L_law_1270) d_L_law_1270 (n := 1273) rfl (by simp [Value.category]) ⟨show 1 + 1 ≤ rm.frames by omega, show 8 + (5 + 11) + 21 ≤ rm.locals by omega⟩ ⟨show k.1 + 1 + 0 ≤ rm.cells by omega, show k.2 + 6 + 0 ≤ rm.slots by omega⟩ M1 (fun v2 H2 locs2 q2 S2 => ?_)
  obtain ⟨⟨⟨s2, R2, M2⟩, k2⟩, hv2⟩ := q2
  have I2 := iv_bucket I ht (xs (i + 1)) (xs (i + 2))
  have Z2 := l_fin I2 P1 R2 M1 M2 O1 hK1 hown1 ⟨hoz, hoa, hon⟩ k2
  have O2 := Z2.2.2.2.2.1
  refine yy_istore (lv' := [(6, .int v2), (5, .int (c_of [e_io, e_uo] (sp_bucket σ (xs (i + 1)) (xs (i + 2))).1)), (4, .int (nI i)), (3, .ref ou), (2, .ref a), (1, .ref (a_k A)), (0, .ref sc)]) F d_L_law_1273 (n := 1275) rfl (by decide) rfl ?_
  refine yy_aload_n F d_L_law_1275 (n := 1276) rfl 4 rfl ?_
  refine yy_cri (w := c_of [e_io, e_uo] (sp_bucket σ (xs (i + 1)) (xs (i + 2))).1) F S2 (c_M_thrown X I2 R2) (yy_Bc F X.1 q_902 q_3) (yy_invV (nA := 0) (C := R_M) (bytes := b_M_thrown) (maxL := 1) (retY := (some .int)) F X.1 q_899 q_900 q_901 q_902 ⟨by decide, by decide, by decide +kernel⟩ (yy_recv F.N X.2.1 (ci := 6) rfl M2.o) rfl d_L_law_1276) d_L_law_1276 (n := 1279) rfl (by simp [Value.category]) ⟨show 0 + 1 ≤ rm.frames by omega, show 8 + (1 + 11) + 0 ≤ rm.locals by omega⟩ ⟨show k.1 + 1 + 0 + 0 ≤ rm.cells by omega, show k.2 + 6 + 0 + 0 ≤ rm.slots by omega⟩ ⟨rfl, rfl⟩ M2 rfl (fun locs3 S3 => ?_)
  refine yy_iload F d_L_law_1279 (n := 1281) rfl 1 rfl ?_
  refine yy_ic_eq_t (tgt := 1286) F d_L_law_1281 (by decide) rfl ?_
  refine yy_iload F d_L_law_1286 (n := 1288) rfl 1 rfl ?_
  cases hr : (sp_bucket σ (xs (i + 1)) (xs (i + 2))).1 with
  | some E =>
    have hp9 := m_pos (ex_bucket_ σ (xs (i + 1)) (xs (i + 2)) E hr) (by decide)
    refine yy_if_ne_t (tgt := 1303) F d_L_law_1288 (by decide) hp9.2 ?_
    refine yy_goto (tgt := 1801) F d_L_law_1303 (by decide) ?_
    exact yy_sub [2, 3, 4, 5, 6] rfl (kk A1 (sp_bucket σ (xs (i + 1)) (xs (i + 2))).2.2 s2 _ g1 H2 _ _ Z2 S3 (by show k.1 + 1 + 0 ≤ k.1 + 4; omega) (by show k.2 + 6 + 0 ≤ k.2 + 56; omega))
  | none =>
    have hg9 := hg1 hr
    have hv9 := hv2 hr
    refine yy_if_ne_f (tgt := 1303) F d_L_law_1288 (n := 1291) rfl (by decide) rfl ?_
    refine yy_aload_n F d_L_law_1291 (n := 1292) rfl 3 rfl ?_
    refine yy_iconst (v := 0) F d_L_law_1292 (n := 1293) rfl rfl ?_
    refine yy_lald F X.2.1 3 rfl O2 (i := 0) (vp_in_nI (n := 0) (by decide) (by decide)) d_L_law_1293 (n := 1294) rfl ?_
    refine yy_iload F d_L_law_1294 (n := 1296) rfl 0 rfl ?_
    refine yy_i2l F d_L_law_1296 (n := 1297) rfl rfl ?_
    refine yy_lcmp F d_L_law_1297 (n := 1298) rfl ?_
    refine yy_tope (y := 0) (by rw [show g1 (0 : Int32).toNatClampNeg = v2.toInt64 by rw [hv9]; exact hg9]; exact lg_cmp0 _) ?_
    refine yy_if_eq_t (tgt := 1303) F d_L_law_1298 (by decide) rfl ?_
    refine yy_goto (tgt := 1801) F d_L_law_1303 (by decide) ?_
    exact yy_sub [2, 3, 4, 5, 6] rfl (kk A1 (sp_bucket σ (xs (i + 1)) (xs (i + 2))).2.2 s2 _ g1 H2 _ _ Z2 S3 (by show k.1 + 1 + 0 ≤ k.1 + 4; omega) (by show k.2 + 6 + 0 ≤ k.2 + 56; omega))
set_option maxRecDepth 100000 in
set_option maxHeartbeats 4000000 in
theorem cs_sift {b : yy_T} {rm : Room} {Post : yy_R → Heap → Prop} {l : Launch} {z : State} {a0 : Array Value} {D : va_G} {ca : kca} (X : kcx l z a0 D ca) (F : yy_A l z b rm code 7 R_L (some .boolean) [] Post) {sc L i : Nat} {xs : Nat → Int32} (hX : va_X sc L xs z z.heap) (hsc : sc < z.heap.size) (hi : i + 4 ≤ L) (hL : L ≤ 2048) {K a n ou : Nat} {A : kA} {σ : ks} {t : Nat} {s : ms} {cd : Int32} {g : Nat → Int64} {H : Heap} {locs : List Loc} {k : Nat × Nat} (Z : l_in D ca z K a n ou A σ t s cd g H) (ht : t + 25 ≤ 100000) (hS : yy_S z H locs) (hk : k.1 + 4 ≤ rm.cells ∧ k.2 + 56 ≤ rm.slots) (hfr : 11 ≤ rm.frames ∧ 300 ≤ rm.locals)
    (kk : ∀ (A1 : kA) (σ1 : ks) (s1 : ms) (cd1 : Int32) (g1 : Nat → Int64) (H1 : Heap) (locs1 : List Loc) (k1 : Nat × Nat), l_in D ca z K a n ou A1 σ1 (t + 25) s1 cd1 g1 H1 → yy_S z H1 locs1 → k1.1 ≤ k.1 + 4 → k1.2 ≤ k.2 + 56 → yy_Y b H1 locs1 k1 1801 [(4, .int (nI i)), (3, .ref ou), (2, .ref a), (1, .ref K), (0, .ref sc)] []) : yy_Y b H locs k 1306 [(4, .int (nI i)), (3, .ref ou), (2, .ref a), (1, .ref K), (0, .ref sc)] [] := by
  have Z0 := Z
  obtain ⟨I, P, R, M, O, hK, hown, hoz, hoa, hon⟩ := Z
  subst hK
  refine yy_aload_n F d_L_law_1306 (n := 1307) rfl 3 rfl ?_
  refine yy_aload_n F d_L_law_1307 (n := 1308) rfl 4 rfl ?_
  refine yy_iload F d_L_law_1308 (n := 1310) rfl 0 rfl ?_
  refine yy_iconst (v := 1) F d_L_law_1310 (n := 1311) rfl rfl ?_
  refine yy_iadd F d_L_law_1311 (n := 1312) rfl ?_
  refine yy_tope (y := (nI (i + 1))) (nI_add i 1) ?_
  refine yy_sld F hX hsc hS (vp_in_nI (n := (i + 1)) (by omega) (by omega)) d_L_law_1312 (n := 1313) rfl ?_
  refine yy_tope (y := (xs (i + 1))) (nI_xld (by omega) hL) ?_
  refine yy_aload_n F d_L_law_1313 (n := 1314) rfl 4 rfl ?_
  refine yy_iload F d_L_law_1314 (n := 1316) rfl 0 rfl ?_
  refine yy_iconst (v := 2) F d_L_law_1316 (n := 1317) rfl rfl ?_
  refine yy_iadd F d_L_law_1317 (n := 1318) rfl ?_
  refine yy_tope (y := (nI (i + 2))) (nI_add i 2) ?_
  refine yy_sld F hX hsc hS (vp_in_nI (n := (i + 2)) (by omega) (by omega)) d_L_law_1318 (n := 1319) rfl ?_
  refine yy_tope (y := (xs (i + 2))) (nI_xld (by omega) hL) ?_
  refine yy_aload_n F d_L_law_1319 (n := 1320) rfl 4 rfl ?_
  refine yy_iload F d_L_law_1320 (n := 1322) rfl 0 rfl ?_
  refine yy_iconst (v := 3) F d_L_law_1322 (n := 1323) rfl rfl ?_
  refine yy_iadd F d_L_law_1323 (n := 1324) rfl ?_
  refine yy_tope (y := (nI (i + 3))) (nI_add i 3) ?_
  refine yy_sld F hX hsc hS (vp_in_nI (n := (i + 3)) (by omega) (by omega)) d_L_law_1324 (n := 1325) rfl ?_
  refine yy_tope (y := (xs (i + 3))) (nI_xld (by omega) hL) ?_
  refine yy_aload_n F d_L_law_1325 (n := 1326) rfl 1 rfl ?_
  refine yy_calli F hS (c_L_sift (A := A) (σ := σ) (x := xs (i + 1)) (by_ := xs (i + 2)) (rest := xs (i + 3)) X I ht hown.2.2 hoz) (yy_Bw F X.1 q_722 q_0) (yy_invSW (nA := 5) F X.1 q_720 q_721 q_0 q_722 ⟨by decide, by decide, by decide +kernel⟩ rfl d_L_law_1326) d_L_law_1326 (n := 1329) rfl (by simp [Value.category]) ⟨show 8 + 1 ≤ rm.frames by omega, show 8 + (6 + 11) + 135 ≤ rm.locals by omega⟩ ⟨show k.1 + 1 ≤ rm.cells by omega, show k.2 + 6 ≤ rm.slots by omega⟩ ⟨P, O⟩ (fun v1 H1 locs1 q1 S1 => ?_)
  obtain ⟨hv1, ⟨A1, P1, hx1⟩, ⟨g1, O1, hg1⟩, hs1, hf1⟩ := q1
  obtain ⟨M1, hK1, hown1⟩ := l_mid Z0 P1 hx1 O1 hs1 hf1
  refine yy_tope (y := (c_of [e_io, e_uo, e_ia, e_rt] (sp_sift σ (xs (i + 1)) (xs (i + 2)) (xs (i + 3))).1)) hv1 ?_
  refine yy_istore (lv' := [(5, .int (c_of [e_io, e_uo, e_ia, e_rt] (sp_sift σ (xs (i + 1)) (xs (i + 2)) (xs (i + 3))).1)), (4, .int (nI i)), (3, .ref ou), (2, .ref a), (1, .ref (a_k A)), (0, .ref sc)]) F d_L_law_1329 (n := 1331) rfl (by decide) rfl ?_
  refine yy_aload_n F d_L_law_1331 (n := 1332) rfl 3 rfl ?_
  refine yy_aload_n F d_L_law_1332 (n := 1333) rfl 5 rfl ?_
  refine yy_iload F d_L_law_1333 (n := 1335) rfl 1 rfl ?_
  refine yy_iconst (v := 1) F d_L_law_1335 (n := 1336) rfl rfl ?_
  refine yy_iadd F d_L_law_1336 (n := 1337) rfl ?_
  refine yy_tope (y := (nI (i + 1))) (nI_add i 1) ?_
  refine yy_sld F hX hsc S1 (vp_in_nI (n := (i + 1)) (by omega) (by omega)) d_L_law_1337 (n := 1338) rfl ?_
  refine yy_tope (y := (xs (i + 1))) (nI_xld (by omega) hL) ?_
  refine yy_aload_n F d_L_law_1338 (n := 1339) rfl 5 rfl ?_
  refine yy_iload F d_L_law_1339 (n := 1341) rfl 1 rfl ?_
  refine yy_iconst (v := 2) F d_L_law_1341 (n := 1342) rfl rfl ?_
  refine yy_iadd F d_L_law_1342 (n := 1343) rfl ?_
  refine yy_tope (y := (nI (i + 2))) (nI_add i 2) ?_
  refine yy_sld F hX hsc S1 (vp_in_nI (n := (i + 2)) (by omega) (by omega)) d_L_law_1343 (n := 1344) rfl ?_
  refine yy_tope (y := (xs (i + 2))) (nI_xld (by omega) hL) ?_
  refine yy_aload_n F d_L_law_1344 (n := 1345) rfl 5 rfl ?_
  refine yy_iload F d_L_law_1345 (n := 1347) rfl 1 rfl ?_
  refine yy_iconst (v := 3) F d_L_law_1347 (n := 1348) rfl rfl ?_
  refine yy_iadd F d_L_law_1348 (n := 1349) rfl ?_
  refine yy_tope (y := (nI (i + 3))) (nI_add i 3) ?_
  refine yy_sld F hX hsc S1 (vp_in_nI (n := (i + 3)) (by omega) (by omega)) d_L_law_1349 (n := 1350) rfl ?_
  refine yy_tope (y := (xs (i + 3))) (nI_xld (by omega) hL) ?_
  refine yy_calli F S1 (c_M_sift (σ := σ) (x := xs (i + 1)) (by_ := xs (i + 2)) (rest := xs (i + 3)) X I R ht) (yy_Bc F X.1 q_1075 q_3) (yy_invV (nA := 3) (C := R_M) (bytes := b_M_sift) (maxL := 6) (retY := (some .int)) F X.1 q_1072 q_1073 q_1074 q_1075 ⟨by decide, by decide, by decide +kernel⟩ (yy_recv F.N X.2.1 (ci := 6) rfl M1.o) rfl d_L_law_1350) d_L_law_1350 (n := 1353) rfl (by simp [Value.category]) ⟨show 2 + 1 ≤ rm.frames by omega, show 8 + (6 + 11) + 48 ≤ rm.locals by omega⟩ ⟨show k.1 + 1 + 0 ≤ rm.cells by omega, show k.2 + 6 + 0 ≤ rm.slots by omega⟩ M1 (fun v2 H2 locs2 q2 S2 => ?_)
  obtain ⟨⟨⟨s2, R2, M2⟩, k2⟩, hv2⟩ := q2
  have I2 := iv_sift I ht (xs (i + 1)) (xs (i + 2)) (xs (i + 3))
  have Z2 := l_fin I2 P1 R2 M1 M2 O1 hK1 hown1 ⟨hoz, hoa, hon⟩ k2
  have O2 := Z2.2.2.2.2.1
  refine yy_istore (lv' := [(6, .int v2), (5, .int (c_of [e_io, e_uo, e_ia, e_rt] (sp_sift σ (xs (i + 1)) (xs (i + 2)) (xs (i + 3))).1)), (4, .int (nI i)), (3, .ref ou), (2, .ref a), (1, .ref (a_k A)), (0, .ref sc)]) F d_L_law_1353 (n := 1355) rfl (by decide) rfl ?_
  refine yy_aload_n F d_L_law_1355 (n := 1356) rfl 4 rfl ?_
  refine yy_cri (w := c_of [e_io, e_uo, e_ia, e_rt] (sp_sift σ (xs (i + 1)) (xs (i + 2)) (xs (i + 3))).1) F S2 (c_M_thrown X I2 R2) (yy_Bc F X.1 q_902 q_3) (yy_invV (nA := 0) (C := R_M) (bytes := b_M_thrown) (maxL := 1) (retY := (some .int)) F X.1 q_899 q_900 q_901 q_902 ⟨by decide, by decide, by decide +kernel⟩ (yy_recv F.N X.2.1 (ci := 6) rfl M2.o) rfl d_L_law_1356) d_L_law_1356 (n := 1359) rfl (by simp [Value.category]) ⟨show 0 + 1 ≤ rm.frames by omega, show 8 + (1 + 11) + 0 ≤ rm.locals by omega⟩ ⟨show k.1 + 1 + 0 + 0 ≤ rm.cells by omega, show k.2 + 6 + 0 + 0 ≤ rm.slots by omega⟩ ⟨rfl, rfl⟩ M2 rfl (fun locs3 S3 => ?_)
  refine yy_iload F d_L_law_1359 (n := 1361) rfl 1 rfl ?_
  refine yy_ic_eq_t (tgt := 1366) F d_L_law_1361 (by decide) rfl ?_
  refine yy_iload F d_L_law_1366 (n := 1368) rfl 1 rfl ?_
  cases hr : (sp_sift σ (xs (i + 1)) (xs (i + 2)) (xs (i + 3))).1 with
  | some E =>
    have hp9 := m_pos (ex_sift_ σ (xs (i + 1)) (xs (i + 2)) (xs (i + 3)) E hr) (by decide)
    refine yy_if_ne_t (tgt := 1383) F d_L_law_1368 (by decide) hp9.2 ?_
    refine yy_goto (tgt := 1801) F d_L_law_1383 (by decide) ?_
    exact yy_sub [2, 3, 4, 5, 6] rfl (kk A1 (sp_sift σ (xs (i + 1)) (xs (i + 2)) (xs (i + 3))).2.2 s2 _ g1 H2 _ _ Z2 S3 (by show k.1 + 1 + 0 ≤ k.1 + 4; omega) (by show k.2 + 6 + 0 ≤ k.2 + 56; omega))
  | none =>
    have hg9 := hg1 hr
    have hv9 := hv2 hr
    refine yy_if_ne_f (tgt := 1383) F d_L_law_1368 (n := 1371) rfl (by decide) rfl ?_
    refine yy_aload_n F d_L_law_1371 (n := 1372) rfl 3 rfl ?_
    refine yy_iconst (v := 0) F d_L_law_1372 (n := 1373) rfl rfl ?_
    refine yy_lald F X.2.1 3 rfl O2 (i := 0) (vp_in_nI (n := 0) (by decide) (by decide)) d_L_law_1373 (n := 1374) rfl ?_
    refine yy_iload F d_L_law_1374 (n := 1376) rfl 0 rfl ?_
    refine yy_i2l F d_L_law_1376 (n := 1377) rfl rfl ?_
    refine yy_lcmp F d_L_law_1377 (n := 1378) rfl ?_
    refine yy_tope (y := 0) (by rw [show g1 (0 : Int32).toNatClampNeg = v2.toInt64 by rw [hv9]; exact hg9]; exact lg_cmp0 _) ?_
    refine yy_if_eq_t (tgt := 1383) F d_L_law_1378 (by decide) rfl ?_
    refine yy_goto (tgt := 1801) F d_L_law_1383 (by decide) ?_
    exact yy_sub [2, 3, 4, 5, 6] rfl (kk A1 (sp_sift σ (xs (i + 1)) (xs (i + 2)) (xs (i + 3))).2.2 s2 _ g1 H2 _ _ Z2 S3 (by show k.1 + 1 + 0 ≤ k.1 + 4; omega) (by show k.2 + 6 + 0 ≤ k.2 + 56; omega))
set_option maxRecDepth 100000 in
set_option maxHeartbeats 4000000 in
theorem cs_same {b : yy_T} {rm : Room} {Post : yy_R → Heap → Prop} {l : Launch} {z : State} {a0 : Array Value} {D : va_G} {ca : kca} (X : kcx l z a0 D ca) (F : yy_A l z b rm code 7 R_L (some .boolean) [] Post) {sc L i : Nat} {xs : Nat → Int32} (hX : va_X sc L xs z z.heap) (hsc : sc < z.heap.size) (hi : i + 4 ≤ L) (hL : L ≤ 2048) {K a n ou : Nat} {A : kA} {σ : ks} {t : Nat} {s : ms} {cd : Int32} {g : Nat → Int64} {H : Heap} {locs : List Loc} {k : Nat × Nat} (Z : l_in D ca z K a n ou A σ t s cd g H) (ht : t + 25 ≤ 100000) (hS : yy_S z H locs) (hk : k.1 + 4 ≤ rm.cells ∧ k.2 + 56 ≤ rm.slots) (hfr : 11 ≤ rm.frames ∧ 300 ≤ rm.locals)
    (kk : ∀ (A1 : kA) (σ1 : ks) (s1 : ms) (cd1 : Int32) (g1 : Nat → Int64) (H1 : Heap) (locs1 : List Loc) (k1 : Nat × Nat), l_in D ca z K a n ou A1 σ1 (t + 25) s1 cd1 g1 H1 → yy_S z H1 locs1 → k1.1 ≤ k.1 + 4 → k1.2 ≤ k.2 + 56 → yy_Y b H1 locs1 k1 1801 [(4, .int (nI i)), (3, .ref ou), (2, .ref a), (1, .ref K), (0, .ref sc)] []) : yy_Y b H locs k 1386 [(4, .int (nI i)), (3, .ref ou), (2, .ref a), (1, .ref K), (0, .ref sc)] [] := by
  have Z0 := Z
  obtain ⟨I, P, R, M, O, hK, hown, hoz, hoa, hon⟩ := Z
  subst hK
  refine yy_aload_n F d_L_law_1386 (n := 1387) rfl 3 rfl ?_
  refine yy_aload_n F d_L_law_1387 (n := 1388) rfl 4 rfl ?_
  refine yy_iload F d_L_law_1388 (n := 1390) rfl 0 rfl ?_
  refine yy_iconst (v := 1) F d_L_law_1390 (n := 1391) rfl rfl ?_
  refine yy_iadd F d_L_law_1391 (n := 1392) rfl ?_
  refine yy_tope (y := (nI (i + 1))) (nI_add i 1) ?_
  refine yy_sld F hX hsc hS (vp_in_nI (n := (i + 1)) (by omega) (by omega)) d_L_law_1392 (n := 1393) rfl ?_
  refine yy_tope (y := (xs (i + 1))) (nI_xld (by omega) hL) ?_
  refine yy_aload_n F d_L_law_1393 (n := 1394) rfl 4 rfl ?_
  refine yy_iload F d_L_law_1394 (n := 1396) rfl 0 rfl ?_
  refine yy_iconst (v := 2) F d_L_law_1396 (n := 1397) rfl rfl ?_
  refine yy_iadd F d_L_law_1397 (n := 1398) rfl ?_
  refine yy_tope (y := (nI (i + 2))) (nI_add i 2) ?_
  refine yy_sld F hX hsc hS (vp_in_nI (n := (i + 2)) (by omega) (by omega)) d_L_law_1398 (n := 1399) rfl ?_
  refine yy_tope (y := (xs (i + 2))) (nI_xld (by omega) hL) ?_
  refine yy_aload_n F d_L_law_1399 (n := 1400) rfl 1 rfl ?_
  refine yy_calli F hS (c_L_same (A := A) (σ := σ) (x := xs (i + 1)) (y := xs (i + 2)) X I ht hown.2.2 hoz) (yy_Bw F X.1 q_738 q_0) (yy_invSW (nA := 4) F X.1 q_736 q_737 q_0 q_738 ⟨by decide, by decide, by decide +kernel⟩ rfl d_L_law_1400) d_L_law_1400 (n := 1403) rfl (by simp [Value.category]) ⟨show 8 + 1 ≤ rm.frames by omega, show 8 + (5 + 11) + 127 ≤ rm.locals by omega⟩ ⟨show k.1 + 1 ≤ rm.cells by omega, show k.2 + 6 ≤ rm.slots by omega⟩ ⟨P, O⟩ (fun v1 H1 locs1 q1 S1 => ?_)
  obtain ⟨hv1, ⟨A1, P1, hx1⟩, ⟨g1, O1, hg1⟩, hs1, hf1⟩ := q1
  obtain ⟨M1, hK1, hown1⟩ := l_mid Z0 P1 hx1 O1 hs1 hf1
  refine yy_tope (y := (c_of [e_io, e_rt] (sp_same σ (xs (i + 1)) (xs (i + 2))).1)) hv1 ?_
  refine yy_istore (lv' := [(5, .int (c_of [e_io, e_rt] (sp_same σ (xs (i + 1)) (xs (i + 2))).1)), (4, .int (nI i)), (3, .ref ou), (2, .ref a), (1, .ref (a_k A)), (0, .ref sc)]) F d_L_law_1403 (n := 1405) rfl (by decide) rfl ?_
  refine yy_aload_n F d_L_law_1405 (n := 1406) rfl 3 rfl ?_
  refine yy_aload_n F d_L_law_1406 (n := 1407) rfl 5 rfl ?_
  refine yy_iload F d_L_law_1407 (n := 1409) rfl 1 rfl ?_
  refine yy_iconst (v := 1) F d_L_law_1409 (n := 1410) rfl rfl ?_
  refine yy_iadd F d_L_law_1410 (n := 1411) rfl ?_
  refine yy_tope (y := (nI (i + 1))) (nI_add i 1) ?_
  refine yy_sld F hX hsc S1 (vp_in_nI (n := (i + 1)) (by omega) (by omega)) d_L_law_1411 (n := 1412) rfl ?_
  refine yy_tope (y := (xs (i + 1))) (nI_xld (by omega) hL) ?_
  refine yy_aload_n F d_L_law_1412 (n := 1413) rfl 5 rfl ?_
  refine yy_iload F d_L_law_1413 (n := 1415) rfl 1 rfl ?_
  refine yy_iconst (v := 2) F d_L_law_1415 (n := 1416) rfl rfl ?_
  refine yy_iadd F d_L_law_1416 (n := 1417) rfl ?_
  refine yy_tope (y := (nI (i + 2))) (nI_add i 2) ?_
  refine yy_sld F hX hsc S1 (vp_in_nI (n := (i + 2)) (by omega) (by omega)) d_L_law_1417 (n := 1418) rfl ?_
  refine yy_tope (y := (xs (i + 2))) (nI_xld (by omega) hL) ?_
  refine yy_calli F S1 (c_M_same (σ := σ) (x := xs (i + 1)) (y := xs (i + 2)) X I R) (yy_Bc F X.1 q_1079 q_3) (yy_invV (nA := 2) (C := R_M) (bytes := b_M_same) (maxL := 8) (retY := (some .boolean)) F X.1 q_1076 q_1077 q_1078 q_1079 ⟨by decide, by decide, by decide +kernel⟩ (yy_recv F.N X.2.1 (ci := 6) rfl M1.o) rfl d_L_law_1418) d_L_law_1418 (n := 1421) rfl (by simp [Value.category]) ⟨show 2 + 1 ≤ rm.frames by omega, show 8 + (8 + 11) + 46 ≤ rm.locals by omega⟩ ⟨show k.1 + 1 + 0 ≤ rm.cells by omega, show k.2 + 6 + 0 ≤ rm.slots by omega⟩ M1 (fun v2 H2 locs2 q2 S2 => ?_)
  obtain ⟨⟨⟨s2, R2, M2⟩, k2⟩, hv2⟩ := q2
  have I2 := iv_same I ht (xs (i + 1)) (xs (i + 2))
  have Z2 := l_fin I2 P1 R2 M1 M2 O1 hK1 hown1 ⟨hoz, hoa, hon⟩ k2
  have O2 := Z2.2.2.2.2.1
  refine yy_istore (lv' := [(6, .int v2), (5, .int (c_of [e_io, e_rt] (sp_same σ (xs (i + 1)) (xs (i + 2))).1)), (4, .int (nI i)), (3, .ref ou), (2, .ref a), (1, .ref (a_k A)), (0, .ref sc)]) F d_L_law_1421 (n := 1423) rfl (by decide) rfl ?_
  refine yy_aload_n F d_L_law_1423 (n := 1424) rfl 4 rfl ?_
  refine yy_cri (w := c_of [e_io, e_rt] (sp_same σ (xs (i + 1)) (xs (i + 2))).1) F S2 (c_M_thrown X I2 R2) (yy_Bc F X.1 q_902 q_3) (yy_invV (nA := 0) (C := R_M) (bytes := b_M_thrown) (maxL := 1) (retY := (some .int)) F X.1 q_899 q_900 q_901 q_902 ⟨by decide, by decide, by decide +kernel⟩ (yy_recv F.N X.2.1 (ci := 6) rfl M2.o) rfl d_L_law_1424) d_L_law_1424 (n := 1427) rfl (by simp [Value.category]) ⟨show 0 + 1 ≤ rm.frames by omega, show 8 + (1 + 11) + 0 ≤ rm.locals by omega⟩ ⟨show k.1 + 1 + 0 + 0 ≤ rm.cells by omega, show k.2 + 6 + 0 + 0 ≤ rm.slots by omega⟩ ⟨rfl, rfl⟩ M2 rfl (fun locs3 S3 => ?_)
  refine yy_iload F d_L_law_1427 (n := 1429) rfl 1 rfl ?_
  refine yy_ic_eq_t (tgt := 1434) F d_L_law_1429 (by decide) rfl ?_
  refine yy_iload F d_L_law_1434 (n := 1436) rfl 1 rfl ?_
  cases hr : (sp_same σ (xs (i + 1)) (xs (i + 2))).1 with
  | some E =>
    have hp9 := m_pos (ex_same_ σ (xs (i + 1)) (xs (i + 2)) E hr) (by decide)
    refine yy_if_ne_t (tgt := 1458) F d_L_law_1436 (by decide) hp9.2 ?_
    refine yy_goto (tgt := 1801) F d_L_law_1458 (by decide) ?_
    exact yy_sub [2, 3, 4, 5, 6] rfl (kk A1 (sp_same σ (xs (i + 1)) (xs (i + 2))).2.2 s2 _ g1 H2 _ _ Z2 S3 (by show k.1 + 1 + 0 ≤ k.1 + 4; omega) (by show k.2 + 6 + 0 ≤ k.2 + 56; omega))
  | none =>
    have hg9 := hg1 hr
    have hv9 := hv2 hr
    refine yy_if_ne_f (tgt := 1458) F d_L_law_1436 (n := 1439) rfl (by decide) rfl ?_
    refine yy_aload_n F d_L_law_1439 (n := 1440) rfl 3 rfl ?_
    refine yy_iconst (v := 0) F d_L_law_1440 (n := 1441) rfl rfl ?_
    refine yy_lald F X.2.1 3 rfl O2 (i := 0) (vp_in_nI (n := 0) (by decide) (by decide)) d_L_law_1441 (n := 1442) rfl ?_
    refine yy_iload F d_L_law_1442 (n := 1444) rfl 0 rfl ?_
    refine yy_if_eq (tgt := 1451) F d_L_law_1444 (n := 1447) rfl (by decide) (fun hb => ?_) (fun hb => ?_)
    · refine yy_lconst (v := 0) F d_L_law_1451 (n := 1452) rfl rfl ?_
      refine yy_lcmp F d_L_law_1452 (n := 1453) rfl ?_
      refine yy_tope (y := 0) (by rw [show g1 (0 : Int32).toNatClampNeg = 0 from hg9.trans (if_pos (hv9 ▸ hb))]; exact lg_cmp0 _) ?_
      refine yy_if_eq_t (tgt := 1458) F d_L_law_1453 (by decide) rfl ?_
      refine yy_goto (tgt := 1801) F d_L_law_1458 (by decide) ?_
      exact yy_sub [2, 3, 4, 5, 6] rfl (kk A1 (sp_same σ (xs (i + 1)) (xs (i + 2))).2.2 s2 _ g1 H2 _ _ Z2 S3 (by show k.1 + 1 + 0 ≤ k.1 + 4; omega) (by show k.2 + 6 + 0 ≤ k.2 + 56; omega))
    · refine yy_lconst (v := 1) F d_L_law_1447 (n := 1448) rfl rfl ?_
      refine yy_goto (tgt := 1452) F d_L_law_1448 (by decide) ?_
      refine yy_lcmp F d_L_law_1452 (n := 1453) rfl ?_
      refine yy_tope (y := 0) (by rw [show g1 (0 : Int32).toNatClampNeg = 1 from hg9.trans (if_neg (hv9 ▸ hb))]; exact lg_cmp0 _) ?_
      refine yy_if_eq_t (tgt := 1458) F d_L_law_1453 (by decide) rfl ?_
      refine yy_goto (tgt := 1801) F d_L_law_1458 (by decide) ?_
      exact yy_sub [2, 3, 4, 5, 6] rfl (kk A1 (sp_same σ (xs (i + 1)) (xs (i + 2))).2.2 s2 _ g1 H2 _ _ Z2 S3 (by show k.1 + 1 + 0 ≤ k.1 + 4; omega) (by show k.2 + 6 + 0 ≤ k.2 + 56; omega))
set_option maxRecDepth 100000 in
set_option maxHeartbeats 4000000 in
theorem cs_open {b : yy_T} {rm : Room} {Post : yy_R → Heap → Prop} {l : Launch} {z : State} {a0 : Array Value} {D : va_G} {ca : kca} (X : kcx l z a0 D ca) (F : yy_A l z b rm code 7 R_L (some .boolean) [] Post) {sc L i : Nat} {xs : Nat → Int32} (hX : va_X sc L xs z z.heap) (hsc : sc < z.heap.size) (hi : i + 4 ≤ L) (hL : L ≤ 2048) {K a n ou : Nat} {A : kA} {σ : ks} {t : Nat} {s : ms} {cd : Int32} {g : Nat → Int64} {H : Heap} {locs : List Loc} {k : Nat × Nat} (Z : l_in D ca z K a n ou A σ t s cd g H) (ht : t + 25 ≤ 100000) (hS : yy_S z H locs) (hk : k.1 + 4 ≤ rm.cells ∧ k.2 + 56 ≤ rm.slots) (hfr : 11 ≤ rm.frames ∧ 300 ≤ rm.locals)
    (kk : ∀ (A1 : kA) (σ1 : ks) (s1 : ms) (cd1 : Int32) (g1 : Nat → Int64) (H1 : Heap) (locs1 : List Loc) (k1 : Nat × Nat), l_in D ca z K a n ou A1 σ1 (t + 25) s1 cd1 g1 H1 → yy_S z H1 locs1 → k1.1 ≤ k.1 + 4 → k1.2 ≤ k.2 + 56 → yy_Y b H1 locs1 k1 1801 [(4, .int (nI i)), (3, .ref ou), (2, .ref a), (1, .ref K), (0, .ref sc)] []) : yy_Y b H locs k 1461 [(4, .int (nI i)), (3, .ref ou), (2, .ref a), (1, .ref K), (0, .ref sc)] [] := by
  have Z0 := Z
  obtain ⟨I, P, R, M, O, hK, hown, hoz, hoa, hon⟩ := Z
  subst hK
  refine yy_aload_n F d_L_law_1461 (n := 1462) rfl 3 rfl ?_
  refine yy_aload_n F d_L_law_1462 (n := 1463) rfl 4 rfl ?_
  refine yy_iload F d_L_law_1463 (n := 1465) rfl 0 rfl ?_
  refine yy_iconst (v := 1) F d_L_law_1465 (n := 1466) rfl rfl ?_
  refine yy_iadd F d_L_law_1466 (n := 1467) rfl ?_
  refine yy_tope (y := (nI (i + 1))) (nI_add i 1) ?_
  refine yy_sld F hX hsc hS (vp_in_nI (n := (i + 1)) (by omega) (by omega)) d_L_law_1467 (n := 1468) rfl ?_
  refine yy_tope (y := (xs (i + 1))) (nI_xld (by omega) hL) ?_
  refine yy_aload_n F d_L_law_1468 (n := 1469) rfl 4 rfl ?_
  refine yy_iload F d_L_law_1469 (n := 1471) rfl 0 rfl ?_
  refine yy_iconst (v := 2) F d_L_law_1471 (n := 1472) rfl rfl ?_
  refine yy_iadd F d_L_law_1472 (n := 1473) rfl ?_
  refine yy_tope (y := (nI (i + 2))) (nI_add i 2) ?_
  refine yy_sld F hX hsc hS (vp_in_nI (n := (i + 2)) (by omega) (by omega)) d_L_law_1473 (n := 1474) rfl ?_
  refine yy_tope (y := (xs (i + 2))) (nI_xld (by omega) hL) ?_
  refine yy_calli F hS (c_L_open (A := A) (σ := σ) (x := xs (i + 1)) (y := xs (i + 2)) X I ht hown.2.2 hoz) (yy_Bw F X.1 q_761 q_0) (yy_invSW (nA := 3) F X.1 q_759 q_760 q_0 q_761 ⟨by decide, by decide, by decide +kernel⟩ rfl d_L_law_1474) d_L_law_1474 (n := 1477) rfl (by simp [Value.category]) ⟨show 8 + 1 ≤ rm.frames by omega, show 8 + (4 + 11) + 127 ≤ rm.locals by omega⟩ ⟨show k.1 + 1 ≤ rm.cells by omega, show k.2 + 6 ≤ rm.slots by omega⟩ ⟨P, O⟩ (fun v1 H1 locs1 q1 S1 => ?_)
  obtain ⟨hv1, ⟨A1, P1, hx1⟩, ⟨g1, O1, hg1⟩, hs1, hf1⟩ := q1
  obtain ⟨M1, hK1, hown1⟩ := l_mid Z0 P1 hx1 O1 hs1 hf1
  refine yy_tope (y := (c_of [e_io, e_uo, e_rt] (sp_open σ (xs (i + 1)) (xs (i + 2))).1)) hv1 ?_
  refine yy_istore (lv' := [(5, .int (c_of [e_io, e_uo, e_rt] (sp_open σ (xs (i + 1)) (xs (i + 2))).1)), (4, .int (nI i)), (3, .ref ou), (2, .ref a), (1, .ref (a_k A)), (0, .ref sc)]) F d_L_law_1477 (n := 1479) rfl (by decide) rfl ?_
  refine yy_aload_n F d_L_law_1479 (n := 1480) rfl 3 rfl ?_
  refine yy_aload_n F d_L_law_1480 (n := 1481) rfl 5 rfl ?_
  refine yy_iload F d_L_law_1481 (n := 1483) rfl 1 rfl ?_
  refine yy_iconst (v := 1) F d_L_law_1483 (n := 1484) rfl rfl ?_
  refine yy_iadd F d_L_law_1484 (n := 1485) rfl ?_
  refine yy_tope (y := (nI (i + 1))) (nI_add i 1) ?_
  refine yy_sld F hX hsc S1 (vp_in_nI (n := (i + 1)) (by omega) (by omega)) d_L_law_1485 (n := 1486) rfl ?_
  refine yy_tope (y := (xs (i + 1))) (nI_xld (by omega) hL) ?_
  refine yy_aload_n F d_L_law_1486 (n := 1487) rfl 5 rfl ?_
  refine yy_iload F d_L_law_1487 (n := 1489) rfl 1 rfl ?_
  refine yy_iconst (v := 2) F d_L_law_1489 (n := 1490) rfl rfl ?_
  refine yy_iadd F d_L_law_1490 (n := 1491) rfl ?_
  refine yy_tope (y := (nI (i + 2))) (nI_add i 2) ?_
  refine yy_sld F hX hsc S1 (vp_in_nI (n := (i + 2)) (by omega) (by omega)) d_L_law_1491 (n := 1492) rfl ?_
  refine yy_tope (y := (xs (i + 2))) (nI_xld (by omega) hL) ?_
  refine yy_callv F S1 (c_M_open (σ := σ) (x := xs (i + 1)) (y := xs (i + 2)) X I R) (yy_Bc F X.1 q_1083 q_3) (yy_invV (nA := 2) (C := R_M) (bytes := b_M_open) (maxL := 3) (retY := none) F X.1 q_1080 q_1081 q_1082 q_1083 ⟨by decide, by decide, by decide +kernel⟩ (yy_recv F.N X.2.1 (ci := 6) rfl M1.o) rfl d_L_law_1492) d_L_law_1492 (n := 1495) rfl (by simp [Value.category]) ⟨show 1 + 1 ≤ rm.frames by omega, show 8 + (3 + 11) + 23 ≤ rm.locals by omega⟩ ⟨show k.1 + 1 + 0 ≤ rm.cells by omega, show k.2 + 6 + 0 ≤ rm.slots by omega⟩ M1 (fun H2 locs2 q2 S2 => ?_)
  obtain ⟨⟨s2, R2, M2⟩, k2⟩ := q2
  have I2 := iv_open I ht (xs (i + 1)) (xs (i + 2))
  have Z2 := l_fin I2 P1 R2 M1 M2 O1 hK1 hown1 ⟨hoz, hoa, hon⟩ k2
  have O2 := Z2.2.2.2.2.1
  refine yy_aload_n F d_L_law_1495 (n := 1496) rfl 3 rfl ?_
  refine yy_cri (w := c_of [e_io, e_uo, e_rt] (sp_open σ (xs (i + 1)) (xs (i + 2))).1) F S2 (c_M_thrown X I2 R2) (yy_Bc F X.1 q_902 q_3) (yy_invV (nA := 0) (C := R_M) (bytes := b_M_thrown) (maxL := 1) (retY := (some .int)) F X.1 q_899 q_900 q_901 q_902 ⟨by decide, by decide, by decide +kernel⟩ (yy_recv F.N X.2.1 (ci := 6) rfl M2.o) rfl d_L_law_1496) d_L_law_1496 (n := 1499) rfl (by simp [Value.category]) ⟨show 0 + 1 ≤ rm.frames by omega, show 8 + (1 + 11) + 0 ≤ rm.locals by omega⟩ ⟨show k.1 + 1 + 0 + 0 ≤ rm.cells by omega, show k.2 + 6 + 0 + 0 ≤ rm.slots by omega⟩ ⟨rfl, rfl⟩ M2 rfl (fun locs3 S3 => ?_)
  refine yy_iload F d_L_law_1499 (n := 1501) rfl 0 rfl ?_
  refine yy_ic_eq_t (tgt := 1506) F d_L_law_1501 (by decide) rfl ?_
  refine yy_goto (tgt := 1801) F d_L_law_1506 (by decide) ?_
  exact yy_sub [1, 2, 3, 4, 5] rfl (kk A1 (sp_open σ (xs (i + 1)) (xs (i + 2))).2.2 s2 _ g1 H2 _ _ Z2 S3 (by show k.1 + 1 + 0 ≤ k.1 + 4; omega) (by show k.2 + 6 + 0 ≤ k.2 + 56; omega))
set_option maxRecDepth 100000 in
set_option maxHeartbeats 4000000 in
theorem cs_next {b : yy_T} {rm : Room} {Post : yy_R → Heap → Prop} {l : Launch} {z : State} {a0 : Array Value} {D : va_G} {ca : kca} (X : kcx l z a0 D ca) (F : yy_A l z b rm code 7 R_L (some .boolean) [] Post) {sc L i : Nat} {xs : Nat → Int32} (hX : va_X sc L xs z z.heap) (hsc : sc < z.heap.size) (hi : i + 4 ≤ L) (hL : L ≤ 2048) {K a n ou : Nat} {A : kA} {σ : ks} {t : Nat} {s : ms} {cd : Int32} {g : Nat → Int64} {H : Heap} {locs : List Loc} {k : Nat × Nat} (Z : l_in D ca z K a n ou A σ t s cd g H) (ht : t + 25 ≤ 100000) (hS : yy_S z H locs) (hk : k.1 + 4 ≤ rm.cells ∧ k.2 + 56 ≤ rm.slots) (hfr : 11 ≤ rm.frames ∧ 300 ≤ rm.locals)
    (kk : ∀ (A1 : kA) (σ1 : ks) (s1 : ms) (cd1 : Int32) (g1 : Nat → Int64) (H1 : Heap) (locs1 : List Loc) (k1 : Nat × Nat), l_in D ca z K a n ou A1 σ1 (t + 25) s1 cd1 g1 H1 → yy_S z H1 locs1 → k1.1 ≤ k.1 + 4 → k1.2 ≤ k.2 + 56 → yy_Y b H1 locs1 k1 1801 [(4, .int (nI i)), (3, .ref ou), (2, .ref a), (1, .ref K), (0, .ref sc)] []) : yy_Y b H locs k 1509 [(4, .int (nI i)), (3, .ref ou), (2, .ref a), (1, .ref K), (0, .ref sc)] [] := by
  have Z0 := Z
  obtain ⟨I, P, R, M, O, hK, hown, hoz, hoa, hon⟩ := Z
  subst hK
  refine yy_aload_n F d_L_law_1509 (n := 1510) rfl 3 rfl ?_
  refine yy_aload_n F d_L_law_1510 (n := 1511) rfl 4 rfl ?_
  refine yy_iload F d_L_law_1511 (n := 1513) rfl 0 rfl ?_
  refine yy_iconst (v := 1) F d_L_law_1513 (n := 1514) rfl rfl ?_
  refine yy_iadd F d_L_law_1514 (n := 1515) rfl ?_
  refine yy_tope (y := (nI (i + 1))) (nI_add i 1) ?_
  refine yy_sld F hX hsc hS (vp_in_nI (n := (i + 1)) (by omega) (by omega)) d_L_law_1515 (n := 1516) rfl ?_
  refine yy_tope (y := (xs (i + 1))) (nI_xld (by omega) hL) ?_
  refine yy_aload_n F d_L_law_1516 (n := 1517) rfl 4 rfl ?_
  refine yy_iload F d_L_law_1517 (n := 1519) rfl 0 rfl ?_
  refine yy_iconst (v := 2) F d_L_law_1519 (n := 1520) rfl rfl ?_
  refine yy_iadd F d_L_law_1520 (n := 1521) rfl ?_
  refine yy_tope (y := (nI (i + 2))) (nI_add i 2) ?_
  refine yy_sld F hX hsc hS (vp_in_nI (n := (i + 2)) (by omega) (by omega)) d_L_law_1521 (n := 1522) rfl ?_
  refine yy_tope (y := (xs (i + 2))) (nI_xld (by omega) hL) ?_
  refine yy_if_eq (tgt := 1529) F d_L_law_1522 (n := 1525) rfl (by decide) (fun he => ?_) (fun he => ?_)
  · refine yy_iconst (v := 0) F d_L_law_1529 (n := 1530) rfl rfl ?_
    refine yy_aload_n F d_L_law_1530 (n := 1531) rfl 1 rfl ?_
    refine yy_calli F hS (c_L_next (A := A) (σ := σ) (x := xs (i + 1)) (e := 0) X I ht hown.2.2 hoz) (yy_Bw F X.1 q_781 q_0) (yy_invSW (nA := 4) F X.1 q_779 q_780 q_0 q_781 ⟨by decide, by decide, by decide +kernel⟩ rfl d_L_law_1531) d_L_law_1531 (n := 1534) rfl (by simp [Value.category]) ⟨show 9 + 1 ≤ rm.frames by omega, show 8 + (5 + 11) + 150 ≤ rm.locals by omega⟩ ⟨show k.1 + 1 ≤ rm.cells by omega, show k.2 + 6 ≤ rm.slots by omega⟩ ⟨P, O⟩ (fun v1 H1 locs1 q1 S1 => ?_)
    obtain ⟨hv1, ⟨A1, P1, hx1⟩, ⟨g1, O1, hg1⟩, hs1, hf1⟩ := q1
    obtain ⟨M1, hK1, hown1⟩ := l_mid Z0 P1 hx1 O1 hs1 hf1
    refine yy_tope (y := (c_of [e_io, e_uo, e_ns, e_rt] (sp_next σ (xs (i + 1)) 0).1)) hv1 ?_
    refine yy_istore (lv' := [(5, .int (c_of [e_io, e_uo, e_ns, e_rt] (sp_next σ (xs (i + 1)) 0).1)), (4, .int (nI i)), (3, .ref ou), (2, .ref a), (1, .ref (a_k A)), (0, .ref sc)]) F d_L_law_1534 (n := 1536) rfl (by decide) rfl ?_
    refine yy_aload_n F d_L_law_1536 (n := 1537) rfl 3 rfl ?_
    refine yy_aload_n F d_L_law_1537 (n := 1538) rfl 5 rfl ?_
    refine yy_iload F d_L_law_1538 (n := 1540) rfl 1 rfl ?_
    refine yy_iconst (v := 1) F d_L_law_1540 (n := 1541) rfl rfl ?_
    refine yy_iadd F d_L_law_1541 (n := 1542) rfl ?_
    refine yy_tope (y := (nI (i + 1))) (nI_add i 1) ?_
    refine yy_sld F hX hsc S1 (vp_in_nI (n := (i + 1)) (by omega) (by omega)) d_L_law_1542 (n := 1543) rfl ?_
    refine yy_tope (y := (xs (i + 1))) (nI_xld (by omega) hL) ?_
    refine yy_aload_n F d_L_law_1543 (n := 1544) rfl 5 rfl ?_
    refine yy_iload F d_L_law_1544 (n := 1546) rfl 1 rfl ?_
    refine yy_iconst (v := 2) F d_L_law_1546 (n := 1547) rfl rfl ?_
    refine yy_iadd F d_L_law_1547 (n := 1548) rfl ?_
    refine yy_tope (y := (nI (i + 2))) (nI_add i 2) ?_
    refine yy_sld F hX hsc S1 (vp_in_nI (n := (i + 2)) (by omega) (by omega)) d_L_law_1548 (n := 1549) rfl ?_
    refine yy_tope (y := (xs (i + 2))) (nI_xld (by omega) hL) ?_
    refine yy_if_eq_t (tgt := 1556) F d_L_law_1549 (by decide) he ?_
    refine yy_iconst (v := 0) F d_L_law_1556 (n := 1557) rfl rfl ?_
    refine yy_calli F S1 (c_M_next (σ := σ) (x := xs (i + 1)) (e := 0) X I R) (yy_Bc F X.1 q_1087 q_3) (yy_invV (nA := 2) (C := R_M) (bytes := b_M_next) (maxL := 5) (retY := (some .int)) F X.1 q_1084 q_1085 q_1086 q_1087 ⟨by decide, by decide, by decide +kernel⟩ (yy_recv F.N X.2.1 (ci := 6) rfl M1.o) rfl d_L_law_1557) d_L_law_1557 (n := 1560) rfl (by simp [Value.category]) ⟨show 2 + 1 ≤ rm.frames by omega, show 8 + (5 + 11) + 45 ≤ rm.locals by omega⟩ ⟨show k.1 + 1 + 0 ≤ rm.cells by omega, show k.2 + 6 + 0 ≤ rm.slots by omega⟩ M1 (fun v2 H2 locs2 q2 S2 => ?_)
    obtain ⟨⟨⟨s2, R2, M2⟩, k2⟩, hv2⟩ := q2
    have I2 := iv_next I ht (xs (i + 1)) 0
    have Z2 := l_fin I2 P1 R2 M1 M2 O1 hK1 hown1 ⟨hoz, hoa, hon⟩ k2
    have O2 := Z2.2.2.2.2.1
    refine yy_istore (lv' := [(6, .int v2), (5, .int (c_of [e_io, e_uo, e_ns, e_rt] (sp_next σ (xs (i + 1)) 0).1)), (4, .int (nI i)), (3, .ref ou), (2, .ref a), (1, .ref (a_k A)), (0, .ref sc)]) F d_L_law_1560 (n := 1562) rfl (by decide) rfl ?_
    refine yy_aload_n F d_L_law_1562 (n := 1563) rfl 4 rfl ?_
    refine yy_cri (w := c_of [e_io, e_uo, e_ns, e_rt] (sp_next σ (xs (i + 1)) 0).1) F S2 (c_M_thrown X I2 R2) (yy_Bc F X.1 q_902 q_3) (yy_invV (nA := 0) (C := R_M) (bytes := b_M_thrown) (maxL := 1) (retY := (some .int)) F X.1 q_899 q_900 q_901 q_902 ⟨by decide, by decide, by decide +kernel⟩ (yy_recv F.N X.2.1 (ci := 6) rfl M2.o) rfl d_L_law_1563) d_L_law_1563 (n := 1566) rfl (by simp [Value.category]) ⟨show 0 + 1 ≤ rm.frames by omega, show 8 + (1 + 11) + 0 ≤ rm.locals by omega⟩ ⟨show k.1 + 1 + 0 + 0 ≤ rm.cells by omega, show k.2 + 6 + 0 + 0 ≤ rm.slots by omega⟩ ⟨rfl, rfl⟩ M2 rfl (fun locs3 S3 => ?_)
    refine yy_iload F d_L_law_1566 (n := 1568) rfl 1 rfl ?_
    refine yy_ic_eq_t (tgt := 1573) F d_L_law_1568 (by decide) rfl ?_
    refine yy_iload F d_L_law_1573 (n := 1575) rfl 1 rfl ?_
    cases hr : (sp_next σ (xs (i + 1)) 0).1 with
    | some E =>
      have hp9 := m_pos (ex_next_ σ (xs (i + 1)) 0 E hr) (by decide)
      refine yy_if_ne_t (tgt := 1590) F d_L_law_1575 (by decide) hp9.2 ?_
      refine yy_goto (tgt := 1801) F d_L_law_1590 (by decide) ?_
      exact yy_sub [2, 3, 4, 5, 6] rfl (kk A1 (sp_next σ (xs (i + 1)) 0).2.2 s2 _ g1 H2 _ _ Z2 S3 (by show k.1 + 1 + 0 ≤ k.1 + 4; omega) (by show k.2 + 6 + 0 ≤ k.2 + 56; omega))
    | none =>
      have hg9 := hg1 hr
      have hv9 := hv2 hr
      refine yy_if_ne_f (tgt := 1590) F d_L_law_1575 (n := 1578) rfl (by decide) rfl ?_
      refine yy_aload_n F d_L_law_1578 (n := 1579) rfl 3 rfl ?_
      refine yy_iconst (v := 0) F d_L_law_1579 (n := 1580) rfl rfl ?_
      refine yy_lald F X.2.1 3 rfl O2 (i := 0) (vp_in_nI (n := 0) (by decide) (by decide)) d_L_law_1580 (n := 1581) rfl ?_
      refine yy_iload F d_L_law_1581 (n := 1583) rfl 0 rfl ?_
      refine yy_i2l F d_L_law_1583 (n := 1584) rfl rfl ?_
      refine yy_lcmp F d_L_law_1584 (n := 1585) rfl ?_
      refine yy_tope (y := 0) (by rw [show g1 (0 : Int32).toNatClampNeg = v2.toInt64 by rw [hv9]; exact hg9]; exact lg_cmp0 _) ?_
      refine yy_if_eq_t (tgt := 1590) F d_L_law_1585 (by decide) rfl ?_
      refine yy_goto (tgt := 1801) F d_L_law_1590 (by decide) ?_
      exact yy_sub [2, 3, 4, 5, 6] rfl (kk A1 (sp_next σ (xs (i + 1)) 0).2.2 s2 _ g1 H2 _ _ Z2 S3 (by show k.1 + 1 + 0 ≤ k.1 + 4; omega) (by show k.2 + 6 + 0 ≤ k.2 + 56; omega))
  · refine yy_iconst (v := 1) F d_L_law_1525 (n := 1526) rfl rfl ?_
    refine yy_goto (tgt := 1530) F d_L_law_1526 (by decide) ?_
    refine yy_aload_n F d_L_law_1530 (n := 1531) rfl 1 rfl ?_
    refine yy_calli F hS (c_L_next (A := A) (σ := σ) (x := xs (i + 1)) (e := 1) X I ht hown.2.2 hoz) (yy_Bw F X.1 q_781 q_0) (yy_invSW (nA := 4) F X.1 q_779 q_780 q_0 q_781 ⟨by decide, by decide, by decide +kernel⟩ rfl d_L_law_1531) d_L_law_1531 (n := 1534) rfl (by simp [Value.category]) ⟨show 9 + 1 ≤ rm.frames by omega, show 8 + (5 + 11) + 150 ≤ rm.locals by omega⟩ ⟨show k.1 + 1 ≤ rm.cells by omega, show k.2 + 6 ≤ rm.slots by omega⟩ ⟨P, O⟩ (fun v1 H1 locs1 q1 S1 => ?_)
    obtain ⟨hv1, ⟨A1, P1, hx1⟩, ⟨g1, O1, hg1⟩, hs1, hf1⟩ := q1
    obtain ⟨M1, hK1, hown1⟩ := l_mid Z0 P1 hx1 O1 hs1 hf1
    refine yy_tope (y := (c_of [e_io, e_uo, e_ns, e_rt] (sp_next σ (xs (i + 1)) 1).1)) hv1 ?_
    refine yy_istore (lv' := [(5, .int (c_of [e_io, e_uo, e_ns, e_rt] (sp_next σ (xs (i + 1)) 1).1)), (4, .int (nI i)), (3, .ref ou), (2, .ref a), (1, .ref (a_k A)), (0, .ref sc)]) F d_L_law_1534 (n := 1536) rfl (by decide) rfl ?_
    refine yy_aload_n F d_L_law_1536 (n := 1537) rfl 3 rfl ?_
    refine yy_aload_n F d_L_law_1537 (n := 1538) rfl 5 rfl ?_
    refine yy_iload F d_L_law_1538 (n := 1540) rfl 1 rfl ?_
    refine yy_iconst (v := 1) F d_L_law_1540 (n := 1541) rfl rfl ?_
    refine yy_iadd F d_L_law_1541 (n := 1542) rfl ?_
    refine yy_tope (y := (nI (i + 1))) (nI_add i 1) ?_
    refine yy_sld F hX hsc S1 (vp_in_nI (n := (i + 1)) (by omega) (by omega)) d_L_law_1542 (n := 1543) rfl ?_
    refine yy_tope (y := (xs (i + 1))) (nI_xld (by omega) hL) ?_
    refine yy_aload_n F d_L_law_1543 (n := 1544) rfl 5 rfl ?_
    refine yy_iload F d_L_law_1544 (n := 1546) rfl 1 rfl ?_
    refine yy_iconst (v := 2) F d_L_law_1546 (n := 1547) rfl rfl ?_
    refine yy_iadd F d_L_law_1547 (n := 1548) rfl ?_
    refine yy_tope (y := (nI (i + 2))) (nI_add i 2) ?_
    refine yy_sld F hX hsc S1 (vp_in_nI (n := (i + 2)) (by omega) (by omega)) d_L_law_1548 (n := 1549) rfl ?_
    refine yy_tope (y := (xs (i + 2))) (nI_xld (by omega) hL) ?_
    refine yy_if_eq_f (tgt := 1556) F d_L_law_1549 (n := 1552) rfl (by decide) he ?_
    refine yy_iconst (v := 1) F d_L_law_1552 (n := 1553) rfl rfl ?_
    refine yy_goto (tgt := 1557) F d_L_law_1553 (by decide) ?_
    refine yy_calli F S1 (c_M_next (σ := σ) (x := xs (i + 1)) (e := 1) X I R) (yy_Bc F X.1 q_1087 q_3) (yy_invV (nA := 2) (C := R_M) (bytes := b_M_next) (maxL := 5) (retY := (some .int)) F X.1 q_1084 q_1085 q_1086 q_1087 ⟨by decide, by decide, by decide +kernel⟩ (yy_recv F.N X.2.1 (ci := 6) rfl M1.o) rfl d_L_law_1557) d_L_law_1557 (n := 1560) rfl (by simp [Value.category]) ⟨show 2 + 1 ≤ rm.frames by omega, show 8 + (5 + 11) + 45 ≤ rm.locals by omega⟩ ⟨show k.1 + 1 + 0 ≤ rm.cells by omega, show k.2 + 6 + 0 ≤ rm.slots by omega⟩ M1 (fun v2 H2 locs2 q2 S2 => ?_)
    obtain ⟨⟨⟨s2, R2, M2⟩, k2⟩, hv2⟩ := q2
    have I2 := iv_next I ht (xs (i + 1)) 1
    have Z2 := l_fin I2 P1 R2 M1 M2 O1 hK1 hown1 ⟨hoz, hoa, hon⟩ k2
    have O2 := Z2.2.2.2.2.1
    refine yy_istore (lv' := [(6, .int v2), (5, .int (c_of [e_io, e_uo, e_ns, e_rt] (sp_next σ (xs (i + 1)) 1).1)), (4, .int (nI i)), (3, .ref ou), (2, .ref a), (1, .ref (a_k A)), (0, .ref sc)]) F d_L_law_1560 (n := 1562) rfl (by decide) rfl ?_
    refine yy_aload_n F d_L_law_1562 (n := 1563) rfl 4 rfl ?_
    refine yy_cri (w := c_of [e_io, e_uo, e_ns, e_rt] (sp_next σ (xs (i + 1)) 1).1) F S2 (c_M_thrown X I2 R2) (yy_Bc F X.1 q_902 q_3) (yy_invV (nA := 0) (C := R_M) (bytes := b_M_thrown) (maxL := 1) (retY := (some .int)) F X.1 q_899 q_900 q_901 q_902 ⟨by decide, by decide, by decide +kernel⟩ (yy_recv F.N X.2.1 (ci := 6) rfl M2.o) rfl d_L_law_1563) d_L_law_1563 (n := 1566) rfl (by simp [Value.category]) ⟨show 0 + 1 ≤ rm.frames by omega, show 8 + (1 + 11) + 0 ≤ rm.locals by omega⟩ ⟨show k.1 + 1 + 0 + 0 ≤ rm.cells by omega, show k.2 + 6 + 0 + 0 ≤ rm.slots by omega⟩ ⟨rfl, rfl⟩ M2 rfl (fun locs3 S3 => ?_)
    refine yy_iload F d_L_law_1566 (n := 1568) rfl 1 rfl ?_
    refine yy_ic_eq_t (tgt := 1573) F d_L_law_1568 (by decide) rfl ?_
    refine yy_iload F d_L_law_1573 (n := 1575) rfl 1 rfl ?_
    cases hr : (sp_next σ (xs (i + 1)) 1).1 with
    | some E =>
      have hp9 := m_pos (ex_next_ σ (xs (i + 1)) 1 E hr) (by decide)
      refine yy_if_ne_t (tgt := 1590) F d_L_law_1575 (by decide) hp9.2 ?_
      refine yy_goto (tgt := 1801) F d_L_law_1590 (by decide) ?_
      exact yy_sub [2, 3, 4, 5, 6] rfl (kk A1 (sp_next σ (xs (i + 1)) 1).2.2 s2 _ g1 H2 _ _ Z2 S3 (by show k.1 + 1 + 0 ≤ k.1 + 4; omega) (by show k.2 + 6 + 0 ≤ k.2 + 56; omega))
    | none =>
      have hg9 := hg1 hr
      have hv9 := hv2 hr
      refine yy_if_ne_f (tgt := 1590) F d_L_law_1575 (n := 1578) rfl (by decide) rfl ?_
      refine yy_aload_n F d_L_law_1578 (n := 1579) rfl 3 rfl ?_
      refine yy_iconst (v := 0) F d_L_law_1579 (n := 1580) rfl rfl ?_
      refine yy_lald F X.2.1 3 rfl O2 (i := 0) (vp_in_nI (n := 0) (by decide) (by decide)) d_L_law_1580 (n := 1581) rfl ?_
      refine yy_iload F d_L_law_1581 (n := 1583) rfl 0 rfl ?_
      refine yy_i2l F d_L_law_1583 (n := 1584) rfl rfl ?_
      refine yy_lcmp F d_L_law_1584 (n := 1585) rfl ?_
      refine yy_tope (y := 0) (by rw [show g1 (0 : Int32).toNatClampNeg = v2.toInt64 by rw [hv9]; exact hg9]; exact lg_cmp0 _) ?_
      refine yy_if_eq_t (tgt := 1590) F d_L_law_1585 (by decide) rfl ?_
      refine yy_goto (tgt := 1801) F d_L_law_1590 (by decide) ?_
      exact yy_sub [2, 3, 4, 5, 6] rfl (kk A1 (sp_next σ (xs (i + 1)) 1).2.2 s2 _ g1 H2 _ _ Z2 S3 (by show k.1 + 1 + 0 ≤ k.1 + 4; omega) (by show k.2 + 6 + 0 ≤ k.2 + 56; omega))
set_option maxRecDepth 100000 in
set_option maxHeartbeats 4000000 in
theorem cs_left {b : yy_T} {rm : Room} {Post : yy_R → Heap → Prop} {l : Launch} {z : State} {a0 : Array Value} {D : va_G} {ca : kca} (X : kcx l z a0 D ca) (F : yy_A l z b rm code 7 R_L (some .boolean) [] Post) {sc L i : Nat} {xs : Nat → Int32} (hX : va_X sc L xs z z.heap) (hsc : sc < z.heap.size) (hi : i + 4 ≤ L) (hL : L ≤ 2048) {K a n ou : Nat} {A : kA} {σ : ks} {t : Nat} {s : ms} {cd : Int32} {g : Nat → Int64} {H : Heap} {locs : List Loc} {k : Nat × Nat} (Z : l_in D ca z K a n ou A σ t s cd g H) (ht : t + 25 ≤ 100000) (hS : yy_S z H locs) (hk : k.1 + 4 ≤ rm.cells ∧ k.2 + 56 ≤ rm.slots) (hfr : 11 ≤ rm.frames ∧ 300 ≤ rm.locals)
    (kk : ∀ (A1 : kA) (σ1 : ks) (s1 : ms) (cd1 : Int32) (g1 : Nat → Int64) (H1 : Heap) (locs1 : List Loc) (k1 : Nat × Nat), l_in D ca z K a n ou A1 σ1 (t + 25) s1 cd1 g1 H1 → yy_S z H1 locs1 → k1.1 ≤ k.1 + 4 → k1.2 ≤ k.2 + 56 → yy_Y b H1 locs1 k1 1801 [(4, .int (nI i)), (3, .ref ou), (2, .ref a), (1, .ref K), (0, .ref sc)] []) : yy_Y b H locs k 1593 [(4, .int (nI i)), (3, .ref ou), (2, .ref a), (1, .ref K), (0, .ref sc)] [] := by
  have Z0 := Z
  obtain ⟨I, P, R, M, O, hK, hown, hoz, hoa, hon⟩ := Z
  subst hK
  refine yy_aload_n F d_L_law_1593 (n := 1594) rfl 3 rfl ?_
  refine yy_aload_n F d_L_law_1594 (n := 1595) rfl 4 rfl ?_
  refine yy_iload F d_L_law_1595 (n := 1597) rfl 0 rfl ?_
  refine yy_iconst (v := 1) F d_L_law_1597 (n := 1598) rfl rfl ?_
  refine yy_iadd F d_L_law_1598 (n := 1599) rfl ?_
  refine yy_tope (y := (nI (i + 1))) (nI_add i 1) ?_
  refine yy_sld F hX hsc hS (vp_in_nI (n := (i + 1)) (by omega) (by omega)) d_L_law_1599 (n := 1600) rfl ?_
  refine yy_tope (y := (xs (i + 1))) (nI_xld (by omega) hL) ?_
  refine yy_aload_n F d_L_law_1600 (n := 1601) rfl 1 rfl ?_
  refine yy_calli F hS (c_L_left (A := A) (σ := σ) (x := xs (i + 1)) X I ht hown.2.2 hoz) (yy_Bw F X.1 q_806 q_0) (yy_invSW (nA := 3) F X.1 q_804 q_805 q_0 q_806 ⟨by decide, by decide, by decide +kernel⟩ rfl d_L_law_1601) d_L_law_1601 (n := 1604) rfl (by simp [Value.category]) ⟨show 9 + 1 ≤ rm.frames by omega, show 8 + (4 + 11) + 147 ≤ rm.locals by omega⟩ ⟨show k.1 + 1 ≤ rm.cells by omega, show k.2 + 6 ≤ rm.slots by omega⟩ ⟨P, O⟩ (fun v1 H1 locs1 q1 S1 => ?_)
  obtain ⟨hv1, ⟨A1, P1, hx1⟩, ⟨g1, O1, hg1⟩, hs1, hf1⟩ := q1
  obtain ⟨M1, hK1, hown1⟩ := l_mid Z0 P1 hx1 O1 hs1 hf1
  refine yy_tope (y := (c_of [e_io, e_rt] (sp_left σ (xs (i + 1))).1)) hv1 ?_
  refine yy_istore (lv' := [(5, .int (c_of [e_io, e_rt] (sp_left σ (xs (i + 1))).1)), (4, .int (nI i)), (3, .ref ou), (2, .ref a), (1, .ref (a_k A)), (0, .ref sc)]) F d_L_law_1604 (n := 1606) rfl (by decide) rfl ?_
  refine yy_aload_n F d_L_law_1606 (n := 1607) rfl 3 rfl ?_
  refine yy_aload_n F d_L_law_1607 (n := 1608) rfl 5 rfl ?_
  refine yy_iload F d_L_law_1608 (n := 1610) rfl 1 rfl ?_
  refine yy_iconst (v := 1) F d_L_law_1610 (n := 1611) rfl rfl ?_
  refine yy_iadd F d_L_law_1611 (n := 1612) rfl ?_
  refine yy_tope (y := (nI (i + 1))) (nI_add i 1) ?_
  refine yy_sld F hX hsc S1 (vp_in_nI (n := (i + 1)) (by omega) (by omega)) d_L_law_1612 (n := 1613) rfl ?_
  refine yy_tope (y := (xs (i + 1))) (nI_xld (by omega) hL) ?_
  refine yy_calli F S1 (c_M_left (σ := σ) (x := xs (i + 1)) X I R) (yy_Bc F X.1 q_1099 q_3) (yy_invV (nA := 1) (C := R_M) (bytes := b_M_left) (maxL := 2) (retY := (some .int)) F X.1 q_1096 q_1097 q_1098 q_1099 ⟨by decide, by decide, by decide +kernel⟩ (yy_recv F.N X.2.1 (ci := 6) rfl M1.o) rfl d_L_law_1613) d_L_law_1613 (n := 1616) rfl (by simp [Value.category]) ⟨show 2 + 1 ≤ rm.frames by omega, show 8 + (2 + 11) + 45 ≤ rm.locals by omega⟩ ⟨show k.1 + 1 + 0 ≤ rm.cells by omega, show k.2 + 6 + 0 ≤ rm.slots by omega⟩ M1 (fun v2 H2 locs2 q2 S2 => ?_)
  obtain ⟨⟨⟨s2, R2, M2⟩, k2⟩, hv2⟩ := q2
  have I2 := iv_left I ht (xs (i + 1))
  have Z2 := l_fin I2 P1 R2 M1 M2 O1 hK1 hown1 ⟨hoz, hoa, hon⟩ k2
  have O2 := Z2.2.2.2.2.1
  refine yy_istore (lv' := [(6, .int v2), (5, .int (c_of [e_io, e_rt] (sp_left σ (xs (i + 1))).1)), (4, .int (nI i)), (3, .ref ou), (2, .ref a), (1, .ref (a_k A)), (0, .ref sc)]) F d_L_law_1616 (n := 1618) rfl (by decide) rfl ?_
  refine yy_aload_n F d_L_law_1618 (n := 1619) rfl 4 rfl ?_
  refine yy_cri (w := c_of [e_io, e_rt] (sp_left σ (xs (i + 1))).1) F S2 (c_M_thrown X I2 R2) (yy_Bc F X.1 q_902 q_3) (yy_invV (nA := 0) (C := R_M) (bytes := b_M_thrown) (maxL := 1) (retY := (some .int)) F X.1 q_899 q_900 q_901 q_902 ⟨by decide, by decide, by decide +kernel⟩ (yy_recv F.N X.2.1 (ci := 6) rfl M2.o) rfl d_L_law_1619) d_L_law_1619 (n := 1622) rfl (by simp [Value.category]) ⟨show 0 + 1 ≤ rm.frames by omega, show 8 + (1 + 11) + 0 ≤ rm.locals by omega⟩ ⟨show k.1 + 1 + 0 + 0 ≤ rm.cells by omega, show k.2 + 6 + 0 + 0 ≤ rm.slots by omega⟩ ⟨rfl, rfl⟩ M2 rfl (fun locs3 S3 => ?_)
  refine yy_iload F d_L_law_1622 (n := 1624) rfl 1 rfl ?_
  refine yy_ic_eq_t (tgt := 1629) F d_L_law_1624 (by decide) rfl ?_
  refine yy_iload F d_L_law_1629 (n := 1631) rfl 1 rfl ?_
  cases hr : (sp_left σ (xs (i + 1))).1 with
  | some E =>
    have hp9 := m_pos (ex_left_ σ (xs (i + 1)) E hr) (by decide)
    refine yy_if_ne_t (tgt := 1646) F d_L_law_1631 (by decide) hp9.2 ?_
    refine yy_goto (tgt := 1801) F d_L_law_1646 (by decide) ?_
    exact yy_sub [2, 3, 4, 5, 6] rfl (kk A1 (sp_left σ (xs (i + 1))).2.2 s2 _ g1 H2 _ _ Z2 S3 (by show k.1 + 1 + 0 ≤ k.1 + 4; omega) (by show k.2 + 6 + 0 ≤ k.2 + 56; omega))
  | none =>
    have hg9 := hg1 hr
    have hv9 := hv2 hr
    refine yy_if_ne_f (tgt := 1646) F d_L_law_1631 (n := 1634) rfl (by decide) rfl ?_
    refine yy_aload_n F d_L_law_1634 (n := 1635) rfl 3 rfl ?_
    refine yy_iconst (v := 0) F d_L_law_1635 (n := 1636) rfl rfl ?_
    refine yy_lald F X.2.1 3 rfl O2 (i := 0) (vp_in_nI (n := 0) (by decide) (by decide)) d_L_law_1636 (n := 1637) rfl ?_
    refine yy_iload F d_L_law_1637 (n := 1639) rfl 0 rfl ?_
    refine yy_i2l F d_L_law_1639 (n := 1640) rfl rfl ?_
    refine yy_lcmp F d_L_law_1640 (n := 1641) rfl ?_
    refine yy_tope (y := 0) (by rw [show g1 (0 : Int32).toNatClampNeg = v2.toInt64 by rw [hv9]; exact hg9]; exact lg_cmp0 _) ?_
    refine yy_if_eq_t (tgt := 1646) F d_L_law_1641 (by decide) rfl ?_
    refine yy_goto (tgt := 1801) F d_L_law_1646 (by decide) ?_
    exact yy_sub [2, 3, 4, 5, 6] rfl (kk A1 (sp_left σ (xs (i + 1))).2.2 s2 _ g1 H2 _ _ Z2 S3 (by show k.1 + 1 + 0 ≤ k.1 + 4; omega) (by show k.2 + 6 + 0 ≤ k.2 + 56; omega))
set_option maxRecDepth 100000 in
set_option maxHeartbeats 4000000 in
theorem cs_erase {b : yy_T} {rm : Room} {Post : yy_R → Heap → Prop} {l : Launch} {z : State} {a0 : Array Value} {D : va_G} {ca : kca} (X : kcx l z a0 D ca) (F : yy_A l z b rm code 7 R_L (some .boolean) [] Post) {sc L i : Nat} {xs : Nat → Int32} (hX : va_X sc L xs z z.heap) (hsc : sc < z.heap.size) (hi : i + 4 ≤ L) (hL : L ≤ 2048) {K a n ou : Nat} {A : kA} {σ : ks} {t : Nat} {s : ms} {cd : Int32} {g : Nat → Int64} {H : Heap} {locs : List Loc} {k : Nat × Nat} (Z : l_in D ca z K a n ou A σ t s cd g H) (ht : t + 25 ≤ 100000) (hS : yy_S z H locs) (hk : k.1 + 4 ≤ rm.cells ∧ k.2 + 56 ≤ rm.slots) (hfr : 11 ≤ rm.frames ∧ 300 ≤ rm.locals)
    (kk : ∀ (A1 : kA) (σ1 : ks) (s1 : ms) (cd1 : Int32) (g1 : Nat → Int64) (H1 : Heap) (locs1 : List Loc) (k1 : Nat × Nat), l_in D ca z K a n ou A1 σ1 (t + 25) s1 cd1 g1 H1 → yy_S z H1 locs1 → k1.1 ≤ k.1 + 4 → k1.2 ≤ k.2 + 56 → yy_Y b H1 locs1 k1 1801 [(4, .int (nI i)), (3, .ref ou), (2, .ref a), (1, .ref K), (0, .ref sc)] []) : yy_Y b H locs k 1649 [(4, .int (nI i)), (3, .ref ou), (2, .ref a), (1, .ref K), (0, .ref sc)] [] := by
  have Z0 := Z
  obtain ⟨I, P, R, M, O, hK, hown, hoz, hoa, hon⟩ := Z
  subst hK
  refine yy_aload_n F d_L_law_1649 (n := 1650) rfl 3 rfl ?_
  refine yy_aload_n F d_L_law_1650 (n := 1651) rfl 4 rfl ?_
  refine yy_iload F d_L_law_1651 (n := 1653) rfl 0 rfl ?_
  refine yy_iconst (v := 1) F d_L_law_1653 (n := 1654) rfl rfl ?_
  refine yy_iadd F d_L_law_1654 (n := 1655) rfl ?_
  refine yy_tope (y := (nI (i + 1))) (nI_add i 1) ?_
  refine yy_sld F hX hsc hS (vp_in_nI (n := (i + 1)) (by omega) (by omega)) d_L_law_1655 (n := 1656) rfl ?_
  refine yy_tope (y := (xs (i + 1))) (nI_xld (by omega) hL) ?_
  refine yy_calli F hS (c_L_erase (A := A) (σ := σ) (x := xs (i + 1)) X I ht hown.2.2 hoz) (yy_Bw F X.1 q_813 q_0) (yy_invSW (nA := 2) F X.1 q_811 q_812 q_0 q_813 ⟨by decide, by decide, by decide +kernel⟩ rfl d_L_law_1656) d_L_law_1656 (n := 1659) rfl (by simp [Value.category]) ⟨show 9 + 1 ≤ rm.frames by omega, show 8 + (3 + 11) + 147 ≤ rm.locals by omega⟩ ⟨show k.1 + 1 ≤ rm.cells by omega, show k.2 + 6 ≤ rm.slots by omega⟩ ⟨P, O⟩ (fun v1 H1 locs1 q1 S1 => ?_)
  obtain ⟨hv1, ⟨A1, P1, hx1⟩, ⟨g1, O1, hg1⟩, hs1, hf1⟩ := q1
  obtain ⟨M1, hK1, hown1⟩ := l_mid Z0 P1 hx1 O1 hs1 hf1
  refine yy_tope (y := (c_of [e_io, e_ia, e_rt] (sp_erase σ (xs (i + 1))).1)) hv1 ?_
  refine yy_istore (lv' := [(5, .int (c_of [e_io, e_ia, e_rt] (sp_erase σ (xs (i + 1))).1)), (4, .int (nI i)), (3, .ref ou), (2, .ref a), (1, .ref (a_k A)), (0, .ref sc)]) F d_L_law_1659 (n := 1661) rfl (by decide) rfl ?_
  refine yy_aload_n F d_L_law_1661 (n := 1662) rfl 3 rfl ?_
  refine yy_aload_n F d_L_law_1662 (n := 1663) rfl 5 rfl ?_
  refine yy_iload F d_L_law_1663 (n := 1665) rfl 1 rfl ?_
  refine yy_iconst (v := 1) F d_L_law_1665 (n := 1666) rfl rfl ?_
  refine yy_iadd F d_L_law_1666 (n := 1667) rfl ?_
  refine yy_tope (y := (nI (i + 1))) (nI_add i 1) ?_
  refine yy_sld F hX hsc S1 (vp_in_nI (n := (i + 1)) (by omega) (by omega)) d_L_law_1667 (n := 1668) rfl ?_
  refine yy_tope (y := (xs (i + 1))) (nI_xld (by omega) hL) ?_
  refine yy_callv F S1 (c_M_erase (σ := σ) (x := xs (i + 1)) X I R ht) (yy_Bc F X.1 q_1103 q_3) (yy_invV (nA := 1) (C := R_M) (bytes := b_M_erase) (maxL := 3) (retY := none) F X.1 q_1100 q_1101 q_1102 q_1103 ⟨by decide, by decide, by decide +kernel⟩ (yy_recv F.N X.2.1 (ci := 6) rfl M1.o) rfl d_L_law_1668) d_L_law_1668 (n := 1671) rfl (by simp [Value.category]) ⟨show 3 + 1 ≤ rm.frames by omega, show 8 + (3 + 11) + 65 ≤ rm.locals by omega⟩ ⟨show k.1 + 1 + 0 ≤ rm.cells by omega, show k.2 + 6 + 0 ≤ rm.slots by omega⟩ M1 (fun H2 locs2 q2 S2 => ?_)
  obtain ⟨⟨s2, R2, M2⟩, k2⟩ := q2
  have I2 := iv_erase I ht (xs (i + 1))
  have Z2 := l_fin I2 P1 R2 M1 M2 O1 hK1 hown1 ⟨hoz, hoa, hon⟩ k2
  have O2 := Z2.2.2.2.2.1
  refine yy_aload_n F d_L_law_1671 (n := 1672) rfl 3 rfl ?_
  refine yy_cri (w := c_of [e_io, e_ia, e_rt] (sp_erase σ (xs (i + 1))).1) F S2 (c_M_thrown X I2 R2) (yy_Bc F X.1 q_902 q_3) (yy_invV (nA := 0) (C := R_M) (bytes := b_M_thrown) (maxL := 1) (retY := (some .int)) F X.1 q_899 q_900 q_901 q_902 ⟨by decide, by decide, by decide +kernel⟩ (yy_recv F.N X.2.1 (ci := 6) rfl M2.o) rfl d_L_law_1672) d_L_law_1672 (n := 1675) rfl (by simp [Value.category]) ⟨show 0 + 1 ≤ rm.frames by omega, show 8 + (1 + 11) + 0 ≤ rm.locals by omega⟩ ⟨show k.1 + 1 + 0 + 0 ≤ rm.cells by omega, show k.2 + 6 + 0 + 0 ≤ rm.slots by omega⟩ ⟨rfl, rfl⟩ M2 rfl (fun locs3 S3 => ?_)
  refine yy_iload F d_L_law_1675 (n := 1677) rfl 0 rfl ?_
  refine yy_ic_eq_t (tgt := 1682) F d_L_law_1677 (by decide) rfl ?_
  refine yy_goto (tgt := 1801) F d_L_law_1682 (by decide) ?_
  exact yy_sub [1, 2, 3, 4, 5] rfl (kk A1 (sp_erase σ (xs (i + 1))).2.2 s2 _ g1 H2 _ _ Z2 S3 (by show k.1 + 1 + 0 ≤ k.1 + 4; omega) (by show k.2 + 6 + 0 ≤ k.2 + 56; omega))
set_option maxRecDepth 100000 in
set_option maxHeartbeats 4000000 in
theorem cs_assign {b : yy_T} {rm : Room} {Post : yy_R → Heap → Prop} {l : Launch} {z : State} {a0 : Array Value} {D : va_G} {ca : kca} (X : kcx l z a0 D ca) (F : yy_A l z b rm code 7 R_L (some .boolean) [] Post) {sc L i : Nat} {xs : Nat → Int32} (hX : va_X sc L xs z z.heap) (hsc : sc < z.heap.size) (hi : i + 4 ≤ L) (hL : L ≤ 2048) {K a n ou : Nat} {A : kA} {σ : ks} {t : Nat} {s : ms} {cd : Int32} {g : Nat → Int64} {H : Heap} {locs : List Loc} {k : Nat × Nat} (Z : l_in D ca z K a n ou A σ t s cd g H) (ht : t + 25 ≤ 100000) (hS : yy_S z H locs) (hk : k.1 + 4 ≤ rm.cells ∧ k.2 + 56 ≤ rm.slots) (hfr : 11 ≤ rm.frames ∧ 300 ≤ rm.locals)
    (kk : ∀ (A1 : kA) (σ1 : ks) (s1 : ms) (cd1 : Int32) (g1 : Nat → Int64) (H1 : Heap) (locs1 : List Loc) (k1 : Nat × Nat), l_in D ca z K a n ou A1 σ1 (t + 25) s1 cd1 g1 H1 → yy_S z H1 locs1 → k1.1 ≤ k.1 + 4 → k1.2 ≤ k.2 + 56 → yy_Y b H1 locs1 k1 1801 [(4, .int (nI i)), (3, .ref ou), (2, .ref a), (1, .ref K), (0, .ref sc)] []) : yy_Y b H locs k 1685 [(4, .int (nI i)), (3, .ref ou), (2, .ref a), (1, .ref K), (0, .ref sc)] [] := by
  have Z0 := Z
  obtain ⟨I, P, R, M, O, hK, hown, hoz, hoa, hon⟩ := Z
  subst hK
  refine yy_aload_n F d_L_law_1685 (n := 1686) rfl 3 rfl ?_
  refine yy_aload_n F d_L_law_1686 (n := 1687) rfl 4 rfl ?_
  refine yy_iload F d_L_law_1687 (n := 1689) rfl 0 rfl ?_
  refine yy_iconst (v := 1) F d_L_law_1689 (n := 1690) rfl rfl ?_
  refine yy_iadd F d_L_law_1690 (n := 1691) rfl ?_
  refine yy_tope (y := (nI (i + 1))) (nI_add i 1) ?_
  refine yy_sld F hX hsc hS (vp_in_nI (n := (i + 1)) (by omega) (by omega)) d_L_law_1691 (n := 1692) rfl ?_
  refine yy_tope (y := (xs (i + 1))) (nI_xld (by omega) hL) ?_
  refine yy_aload_n F d_L_law_1692 (n := 1693) rfl 4 rfl ?_
  refine yy_iload F d_L_law_1693 (n := 1695) rfl 0 rfl ?_
  refine yy_iconst (v := 2) F d_L_law_1695 (n := 1696) rfl rfl ?_
  refine yy_iadd F d_L_law_1696 (n := 1697) rfl ?_
  refine yy_tope (y := (nI (i + 2))) (nI_add i 2) ?_
  refine yy_sld F hX hsc hS (vp_in_nI (n := (i + 2)) (by omega) (by omega)) d_L_law_1697 (n := 1698) rfl ?_
  refine yy_tope (y := (xs (i + 2))) (nI_xld (by omega) hL) ?_
  refine yy_aload_n F d_L_law_1698 (n := 1699) rfl 1 rfl ?_
  refine yy_calli F hS (c_L_assign (A := A) (σ := σ) (x := xs (i + 1)) (y := xs (i + 2)) X I ht hown.2.2 hoz) (yy_Bw F X.1 q_821 q_0) (yy_invSW (nA := 4) F X.1 q_819 q_820 q_0 q_821 ⟨by decide, by decide, by decide +kernel⟩ rfl d_L_law_1699) d_L_law_1699 (n := 1702) rfl (by simp [Value.category]) ⟨show 9 + 1 ≤ rm.frames by omega, show 8 + (5 + 11) + 149 ≤ rm.locals by omega⟩ ⟨show k.1 + 1 ≤ rm.cells by omega, show k.2 + 6 ≤ rm.slots by omega⟩ ⟨P, O⟩ (fun v1 H1 locs1 q1 S1 => ?_)
  obtain ⟨hv1, ⟨A1, P1, hx1⟩, ⟨g1, O1, hg1⟩, hs1, hf1⟩ := q1
  obtain ⟨M1, hK1, hown1⟩ := l_mid Z0 P1 hx1 O1 hs1 hf1
  refine yy_tope (y := (c_of [e_io, e_ia, e_rt] (sp_assign σ (xs (i + 1)) (xs (i + 2))).1)) hv1 ?_
  refine yy_istore (lv' := [(5, .int (c_of [e_io, e_ia, e_rt] (sp_assign σ (xs (i + 1)) (xs (i + 2))).1)), (4, .int (nI i)), (3, .ref ou), (2, .ref a), (1, .ref (a_k A)), (0, .ref sc)]) F d_L_law_1702 (n := 1704) rfl (by decide) rfl ?_
  refine yy_aload_n F d_L_law_1704 (n := 1705) rfl 3 rfl ?_
  refine yy_aload_n F d_L_law_1705 (n := 1706) rfl 5 rfl ?_
  refine yy_iload F d_L_law_1706 (n := 1708) rfl 1 rfl ?_
  refine yy_iconst (v := 1) F d_L_law_1708 (n := 1709) rfl rfl ?_
  refine yy_iadd F d_L_law_1709 (n := 1710) rfl ?_
  refine yy_tope (y := (nI (i + 1))) (nI_add i 1) ?_
  refine yy_sld F hX hsc S1 (vp_in_nI (n := (i + 1)) (by omega) (by omega)) d_L_law_1710 (n := 1711) rfl ?_
  refine yy_tope (y := (xs (i + 1))) (nI_xld (by omega) hL) ?_
  refine yy_aload_n F d_L_law_1711 (n := 1712) rfl 5 rfl ?_
  refine yy_iload F d_L_law_1712 (n := 1714) rfl 1 rfl ?_
  refine yy_iconst (v := 2) F d_L_law_1714 (n := 1715) rfl rfl ?_
  refine yy_iadd F d_L_law_1715 (n := 1716) rfl ?_
  refine yy_tope (y := (nI (i + 2))) (nI_add i 2) ?_
  refine yy_sld F hX hsc S1 (vp_in_nI (n := (i + 2)) (by omega) (by omega)) d_L_law_1716 (n := 1717) rfl ?_
  refine yy_tope (y := (xs (i + 2))) (nI_xld (by omega) hL) ?_
  refine yy_calli F S1 (c_M_assign (σ := σ) (x := xs (i + 1)) (y := xs (i + 2)) X I R) (yy_Bc F X.1 q_1115 q_3) (yy_invV (nA := 2) (C := R_M) (bytes := b_M_assign) (maxL := 6) (retY := (some .int)) F X.1 q_1112 q_1113 q_1114 q_1115 ⟨by decide, by decide, by decide +kernel⟩ (yy_recv F.N X.2.1 (ci := 6) rfl M1.o) rfl d_L_law_1717) d_L_law_1717 (n := 1720) rfl (by simp [Value.category]) ⟨show 3 + 1 ≤ rm.frames by omega, show 8 + (6 + 11) + 65 ≤ rm.locals by omega⟩ ⟨show k.1 + 1 + 0 ≤ rm.cells by omega, show k.2 + 6 + 0 ≤ rm.slots by omega⟩ M1 (fun v2 H2 locs2 q2 S2 => ?_)
  obtain ⟨⟨⟨s2, R2, M2⟩, k2⟩, hv2⟩ := q2
  have I2 := iv_assign I ht (xs (i + 1)) (xs (i + 2))
  have Z2 := l_fin I2 P1 R2 M1 M2 O1 hK1 hown1 ⟨hoz, hoa, hon⟩ k2
  have O2 := Z2.2.2.2.2.1
  refine yy_istore (lv' := [(6, .int v2), (5, .int (c_of [e_io, e_ia, e_rt] (sp_assign σ (xs (i + 1)) (xs (i + 2))).1)), (4, .int (nI i)), (3, .ref ou), (2, .ref a), (1, .ref (a_k A)), (0, .ref sc)]) F d_L_law_1720 (n := 1722) rfl (by decide) rfl ?_
  refine yy_aload_n F d_L_law_1722 (n := 1723) rfl 4 rfl ?_
  refine yy_cri (w := c_of [e_io, e_ia, e_rt] (sp_assign σ (xs (i + 1)) (xs (i + 2))).1) F S2 (c_M_thrown X I2 R2) (yy_Bc F X.1 q_902 q_3) (yy_invV (nA := 0) (C := R_M) (bytes := b_M_thrown) (maxL := 1) (retY := (some .int)) F X.1 q_899 q_900 q_901 q_902 ⟨by decide, by decide, by decide +kernel⟩ (yy_recv F.N X.2.1 (ci := 6) rfl M2.o) rfl d_L_law_1723) d_L_law_1723 (n := 1726) rfl (by simp [Value.category]) ⟨show 0 + 1 ≤ rm.frames by omega, show 8 + (1 + 11) + 0 ≤ rm.locals by omega⟩ ⟨show k.1 + 1 + 0 + 0 ≤ rm.cells by omega, show k.2 + 6 + 0 + 0 ≤ rm.slots by omega⟩ ⟨rfl, rfl⟩ M2 rfl (fun locs3 S3 => ?_)
  refine yy_iload F d_L_law_1726 (n := 1728) rfl 1 rfl ?_
  refine yy_ic_eq_t (tgt := 1733) F d_L_law_1728 (by decide) rfl ?_
  refine yy_iload F d_L_law_1733 (n := 1735) rfl 1 rfl ?_
  cases hr : (sp_assign σ (xs (i + 1)) (xs (i + 2))).1 with
  | some E =>
    have hp9 := m_pos (ex_assign_ σ (xs (i + 1)) (xs (i + 2)) E hr) (by decide)
    refine yy_if_ne_t (tgt := 1750) F d_L_law_1735 (by decide) hp9.2 ?_
    refine yy_goto (tgt := 1801) F d_L_law_1750 (by decide) ?_
    exact yy_sub [2, 3, 4, 5, 6] rfl (kk A1 (sp_assign σ (xs (i + 1)) (xs (i + 2))).2.2 s2 _ g1 H2 _ _ Z2 S3 (by show k.1 + 1 + 0 ≤ k.1 + 4; omega) (by show k.2 + 6 + 0 ≤ k.2 + 56; omega))
  | none =>
    have hg9 := hg1 hr
    have hv9 := hv2 hr
    refine yy_if_ne_f (tgt := 1750) F d_L_law_1735 (n := 1738) rfl (by decide) rfl ?_
    refine yy_aload_n F d_L_law_1738 (n := 1739) rfl 3 rfl ?_
    refine yy_iconst (v := 0) F d_L_law_1739 (n := 1740) rfl rfl ?_
    refine yy_lald F X.2.1 3 rfl O2 (i := 0) (vp_in_nI (n := 0) (by decide) (by decide)) d_L_law_1740 (n := 1741) rfl ?_
    refine yy_iload F d_L_law_1741 (n := 1743) rfl 0 rfl ?_
    refine yy_i2l F d_L_law_1743 (n := 1744) rfl rfl ?_
    refine yy_lcmp F d_L_law_1744 (n := 1745) rfl ?_
    refine yy_tope (y := 0) (by rw [show g1 (0 : Int32).toNatClampNeg = v2.toInt64 by rw [hv9]; exact hg9]; exact lg_cmp0 _) ?_
    refine yy_if_eq_t (tgt := 1750) F d_L_law_1745 (by decide) rfl ?_
    refine yy_goto (tgt := 1801) F d_L_law_1750 (by decide) ?_
    exact yy_sub [2, 3, 4, 5, 6] rfl (kk A1 (sp_assign σ (xs (i + 1)) (xs (i + 2))).2.2 s2 _ g1 H2 _ _ Z2 S3 (by show k.1 + 1 + 0 ≤ k.1 + 4; omega) (by show k.2 + 6 + 0 ≤ k.2 + 56; omega))
set_option maxRecDepth 100000 in
set_option maxHeartbeats 4000000 in
theorem cs_plant {b : yy_T} {rm : Room} {Post : yy_R → Heap → Prop} {l : Launch} {z : State} {a0 : Array Value} {D : va_G} {ca : kca} (X : kcx l z a0 D ca) (F : yy_A l z b rm code 7 R_L (some .boolean) [] Post) {sc L i : Nat} {xs : Nat → Int32} (hX : va_X sc L xs z z.heap) (hsc : sc < z.heap.size) (hi : i + 4 ≤ L) (hL : L ≤ 2048) {K a n ou : Nat} {A : kA} {σ : ks} {t : Nat} {s : ms} {cd : Int32} {g : Nat → Int64} {H : Heap} {locs : List Loc} {k : Nat × Nat} (Z : l_in D ca z K a n ou A σ t s cd g H) (ht : t + 25 ≤ 100000) (hS : yy_S z H locs) (hk : k.1 + 4 ≤ rm.cells ∧ k.2 + 56 ≤ rm.slots) (hfr : 11 ≤ rm.frames ∧ 300 ≤ rm.locals)
    (kk : ∀ (A1 : kA) (σ1 : ks) (s1 : ms) (cd1 : Int32) (g1 : Nat → Int64) (H1 : Heap) (locs1 : List Loc) (k1 : Nat × Nat), l_in D ca z K a n ou A1 σ1 (t + 25) s1 cd1 g1 H1 → yy_S z H1 locs1 → k1.1 ≤ k.1 + 4 → k1.2 ≤ k.2 + 56 → yy_Y b H1 locs1 k1 1801 [(4, .int (nI i)), (3, .ref ou), (2, .ref a), (1, .ref K), (0, .ref sc)] []) : yy_Y b H locs k 1753 [(4, .int (nI i)), (3, .ref ou), (2, .ref a), (1, .ref K), (0, .ref sc)] [] := by
  have Z0 := Z
  obtain ⟨I, P, R, M, O, hK, hown, hoz, hoa, hon⟩ := Z
  subst hK
  refine yy_aload_n F d_L_law_1753 (n := 1754) rfl 3 rfl ?_
  refine yy_aload_n F d_L_law_1754 (n := 1755) rfl 4 rfl ?_
  refine yy_iload F d_L_law_1755 (n := 1757) rfl 0 rfl ?_
  refine yy_iconst (v := 1) F d_L_law_1757 (n := 1758) rfl rfl ?_
  refine yy_iadd F d_L_law_1758 (n := 1759) rfl ?_
  refine yy_tope (y := (nI (i + 1))) (nI_add i 1) ?_
  refine yy_sld F hX hsc hS (vp_in_nI (n := (i + 1)) (by omega) (by omega)) d_L_law_1759 (n := 1760) rfl ?_
  refine yy_tope (y := (xs (i + 1))) (nI_xld (by omega) hL) ?_
  refine yy_aload_n F d_L_law_1760 (n := 1761) rfl 4 rfl ?_
  refine yy_iload F d_L_law_1761 (n := 1763) rfl 0 rfl ?_
  refine yy_iconst (v := 2) F d_L_law_1763 (n := 1764) rfl rfl ?_
  refine yy_iadd F d_L_law_1764 (n := 1765) rfl ?_
  refine yy_tope (y := (nI (i + 2))) (nI_add i 2) ?_
  refine yy_sld F hX hsc hS (vp_in_nI (n := (i + 2)) (by omega) (by omega)) d_L_law_1765 (n := 1766) rfl ?_
  refine yy_tope (y := (xs (i + 2))) (nI_xld (by omega) hL) ?_
  refine yy_calli F hS (c_L_plant (A := A) (σ := σ) (x := xs (i + 1)) (y := xs (i + 2)) X I ht hown.2.2 hoz) (yy_Bw F X.1 q_836 q_0) (yy_invSW (nA := 3) F X.1 q_834 q_835 q_0 q_836 ⟨by decide, by decide, by decide +kernel⟩ rfl d_L_law_1766) d_L_law_1766 (n := 1769) rfl (by simp [Value.category]) ⟨show 9 + 1 ≤ rm.frames by omega, show 8 + (4 + 11) + 149 ≤ rm.locals by omega⟩ ⟨show k.1 + 1 ≤ rm.cells by omega, show k.2 + 6 ≤ rm.slots by omega⟩ ⟨P, O⟩ (fun v1 H1 locs1 q1 S1 => ?_)
  obtain ⟨hv1, ⟨A1, P1, hx1⟩, ⟨g1, O1, hg1⟩, hs1, hf1⟩ := q1
  obtain ⟨M1, hK1, hown1⟩ := l_mid Z0 P1 hx1 O1 hs1 hf1
  refine yy_tope (y := (c_of [e_io, e_uo, e_is, e_rt] (sp_plant σ (xs (i + 1)) (xs (i + 2))).1)) hv1 ?_
  refine yy_istore (lv' := [(5, .int (c_of [e_io, e_uo, e_is, e_rt] (sp_plant σ (xs (i + 1)) (xs (i + 2))).1)), (4, .int (nI i)), (3, .ref ou), (2, .ref a), (1, .ref (a_k A)), (0, .ref sc)]) F d_L_law_1769 (n := 1771) rfl (by decide) rfl ?_
  refine yy_aload_n F d_L_law_1771 (n := 1772) rfl 3 rfl ?_
  refine yy_aload_n F d_L_law_1772 (n := 1773) rfl 5 rfl ?_
  refine yy_iload F d_L_law_1773 (n := 1775) rfl 1 rfl ?_
  refine yy_iconst (v := 1) F d_L_law_1775 (n := 1776) rfl rfl ?_
  refine yy_iadd F d_L_law_1776 (n := 1777) rfl ?_
  refine yy_tope (y := (nI (i + 1))) (nI_add i 1) ?_
  refine yy_sld F hX hsc S1 (vp_in_nI (n := (i + 1)) (by omega) (by omega)) d_L_law_1777 (n := 1778) rfl ?_
  refine yy_tope (y := (xs (i + 1))) (nI_xld (by omega) hL) ?_
  refine yy_aload_n F d_L_law_1778 (n := 1779) rfl 5 rfl ?_
  refine yy_iload F d_L_law_1779 (n := 1781) rfl 1 rfl ?_
  refine yy_iconst (v := 2) F d_L_law_1781 (n := 1782) rfl rfl ?_
  refine yy_iadd F d_L_law_1782 (n := 1783) rfl ?_
  refine yy_tope (y := (nI (i + 2))) (nI_add i 2) ?_
  refine yy_sld F hX hsc S1 (vp_in_nI (n := (i + 2)) (by omega) (by omega)) d_L_law_1783 (n := 1784) rfl ?_
  refine yy_tope (y := (xs (i + 2))) (nI_xld (by omega) hL) ?_
  refine yy_callv F S1 (c_M_plant (σ := σ) (x := xs (i + 1)) (y := xs (i + 2)) X I R ht) (yy_Bc F X.1 q_1119 q_3) (yy_invV (nA := 2) (C := R_M) (bytes := b_M_plant) (maxL := 3) (retY := none) F X.1 q_1116 q_1117 q_1118 q_1119 ⟨by decide, by decide, by decide +kernel⟩ (yy_recv F.N X.2.1 (ci := 6) rfl M1.o) rfl d_L_law_1784) d_L_law_1784 (n := 1787) rfl (by simp [Value.category]) ⟨show 3 + 1 ≤ rm.frames by omega, show 8 + (3 + 11) + 74 ≤ rm.locals by omega⟩ ⟨show k.1 + 1 + 0 ≤ rm.cells by omega, show k.2 + 6 + 0 ≤ rm.slots by omega⟩ M1 (fun H2 locs2 q2 S2 => ?_)
  obtain ⟨⟨s2, R2, M2⟩, k2⟩ := q2
  have I2 := iv_plant I ht (xs (i + 1)) (xs (i + 2))
  have Z2 := l_fin I2 P1 R2 M1 M2 O1 hK1 hown1 ⟨hoz, hoa, hon⟩ k2
  have O2 := Z2.2.2.2.2.1
  refine yy_aload_n F d_L_law_1787 (n := 1788) rfl 3 rfl ?_
  refine yy_cri (w := c_of [e_io, e_uo, e_is, e_rt] (sp_plant σ (xs (i + 1)) (xs (i + 2))).1) F S2 (c_M_thrown X I2 R2) (yy_Bc F X.1 q_902 q_3) (yy_invV (nA := 0) (C := R_M) (bytes := b_M_thrown) (maxL := 1) (retY := (some .int)) F X.1 q_899 q_900 q_901 q_902 ⟨by decide, by decide, by decide +kernel⟩ (yy_recv F.N X.2.1 (ci := 6) rfl M2.o) rfl d_L_law_1788) d_L_law_1788 (n := 1791) rfl (by simp [Value.category]) ⟨show 0 + 1 ≤ rm.frames by omega, show 8 + (1 + 11) + 0 ≤ rm.locals by omega⟩ ⟨show k.1 + 1 + 0 + 0 ≤ rm.cells by omega, show k.2 + 6 + 0 + 0 ≤ rm.slots by omega⟩ ⟨rfl, rfl⟩ M2 rfl (fun locs3 S3 => ?_)
  refine yy_iload F d_L_law_1791 (n := 1793) rfl 0 rfl ?_
  refine yy_ic_eq_t (tgt := 1798) F d_L_law_1793 (by decide) rfl ?_
  refine yy_goto (tgt := 1801) F d_L_law_1798 (by decide) ?_
  exact yy_sub [1, 2, 3, 4, 5] rfl (kk A1 (sp_plant σ (xs (i + 1)) (xs (i + 2))).2.2 s2 _ g1 H2 _ _ Z2 S3 (by show k.1 + 1 + 0 ≤ k.1 + 4; omega) (by show k.2 + 6 + 0 ≤ k.2 + 56; omega))
