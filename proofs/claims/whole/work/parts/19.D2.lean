/-! PART D2: the demands -/
theorem str_197 {l : Launch} {z : State} {a0 : Array Value} {D : va_G} {ca : kca} (X : kcx l z a0 D ca) : ∃ sa : Nat, vk_R R_K 197 "no such container" sa z := yy_str X q_247 (flat_of_before _ X.2.2.1 _ (by decide +kernel))
set_option maxRecDepth 100000 in
theorem oa_199 : ∀ w ∈ Bundle.ownAtoms R_K 199 "java/lang/IndexOutOfBoundsException" ["java/lang/RuntimeException", "java/lang/Exception"], yy_okw w = true ∧ (w ∈ lw_tbl ∨ w = .isRef (.static Bundle.tN "UNASSIGNED_STACK" Bundle.steD) ∨ w = .isRef (.static Bundle.tN "SUPPRESSED_SENTINEL" Bundle.listD)) := by decide +kernel
theorem str_202 {l : Launch} {z : State} {a0 : Array Value} {D : va_G} {ca : kca} (X : kcx l z a0 D ca) : ∃ sa : Nat, vk_R R_K 202 "no such iterator" sa z := yy_str X q_770 (flat_of_before _ X.2.2.1 _ (by decide +kernel))
theorem str_204 {l : Launch} {z : State} {a0 : Array Value} {D : va_G} {ca : kca} (X : kcx l z a0 D ca) : ∃ sa : Nat, vk_R R_K 204 "the iterator was not opened" sa z := yy_str X q_790 (flat_of_before _ X.2.2.1 _ (by decide +kernel))
theorem str_236 {l : Launch} {z : State} {a0 : Array Value} {D : va_G} {ca : kca} (X : kcx l z a0 D ca) : ∃ sa : Nat, vk_R R_K 236 "there are as many containers as there may be" sa z := yy_str X q_157 (flat_of_before _ X.2.2.1 _ (by decide +kernel))
set_option maxRecDepth 100000 in
theorem oa_238 : ∀ w ∈ Bundle.ownAtoms R_K 238 "java/lang/IllegalStateException" ["java/lang/RuntimeException", "java/lang/Exception"], yy_okw w = true ∧ (w ∈ lw_tbl ∨ w = .isRef (.static Bundle.tN "UNASSIGNED_STACK" Bundle.steD) ∨ w = .isRef (.static Bundle.tN "SUPPRESSED_SENTINEL" Bundle.listD)) := by decide +kernel
theorem str_241 {l : Launch} {z : State} {a0 : Array Value} {D : va_G} {ca : kca} (X : kcx l z a0 D ca) : ∃ sa : Nat, vk_R R_K 241 "not for this kind of container" sa z := yy_str X q_280 (flat_of_before _ X.2.2.1 _ (by decide +kernel))
set_option maxRecDepth 100000 in
theorem oa_243 : ∀ w ∈ Bundle.ownAtoms R_K 243 "java/lang/UnsupportedOperationException" ["java/lang/RuntimeException", "java/lang/Exception"], yy_okw w = true ∧ (w ∈ lw_tbl ∨ w = .isRef (.static Bundle.tN "UNASSIGNED_STACK" Bundle.steD) ∨ w = .isRef (.static Bundle.tN "SUPPRESSED_SENTINEL" Bundle.listD)) := by decide +kernel
theorem str_246 {l : Launch} {z : State} {a0 : Array Value} {D : va_G} {ca : kca} (X : kcx l z a0 D ca) : ∃ sa : Nat, vk_R R_K 246 "an argument is not allowed here" sa z := yy_str X q_117 (flat_of_before _ X.2.2.1 _ (by decide +kernel))
set_option maxRecDepth 100000 in
theorem oa_248 : ∀ w ∈ Bundle.ownAtoms R_K 248 "java/lang/IllegalArgumentException" ["java/lang/RuntimeException", "java/lang/Exception"], yy_okw w = true ∧ (w ∈ lw_tbl ∨ w = .isRef (.static Bundle.tN "UNASSIGNED_STACK" Bundle.steD) ∨ w = .isRef (.static Bundle.tN "SUPPRESSED_SENTINEL" Bundle.listD)) := by decide +kernel
theorem str_251 {l : Launch} {z : State} {a0 : Array Value} {D : va_G} {ca : kca} (X : kcx l z a0 D ca) : ∃ sa : Nat, vk_R R_K 251 "there is none such" sa z := yy_str X q_439 (flat_of_before _ X.2.2.1 _ (by decide +kernel))
set_option maxRecDepth 100000 in
theorem oa_253 : ∀ w ∈ Bundle.ownAtomsX R_K 253 "java/util/NoSuchElementException" 13 prog_19_method_4_code ["java/lang/RuntimeException", "java/lang/Exception"], yy_okw w = true ∧ (w ∈ lw_tbl ∨ w = .isRef (.static Bundle.tN "UNASSIGNED_STACK" Bundle.steD) ∨ w = .isRef (.static Bundle.tN "SUPPRESSED_SENTINEL" Bundle.listD)) := by decide +kernel
theorem str_259 {l : Launch} {z : State} {a0 : Array Value} {D : va_G} {ca : kca} (X : kcx l z a0 D ca) : ∃ sa : Nat, vk_R R_K 259 "the list is stale" sa z := yy_str X q_308 (flat_of_before _ X.2.2.1 _ (by decide +kernel))
set_option maxRecDepth 100000 in
theorem oa_261 : ∀ w ∈ Bundle.ownAtoms R_K 261 "java/lang/RuntimeException" ["java/lang/Exception"], yy_okw w = true ∧ (w ∈ lw_tbl ∨ w = .isRef (.static Bundle.tN "UNASSIGNED_STACK" Bundle.steD) ∨ w = .isRef (.static Bundle.tN "SUPPRESSED_SENTINEL" Bundle.listD)) := by decide +kernel
theorem str_263 {l : Launch} {z : State} {a0 : Array Value} {D : va_G} {ca : kca} (X : kcx l z a0 D ca) : ∃ sa : Nat, vk_R R_K 263 "the iterator is stale" sa z := yy_str X q_799 (flat_of_before _ X.2.2.1 _ (by decide +kernel))
theorem str_268 {l : Launch} {z : State} {a0 : Array Value} {D : va_G} {ca : kca} (X : kcx l z a0 D ca) : ∃ sa : Nat, vk_R R_K 268 "the base is full" sa z := yy_str X q_499 (flat_of_before _ X.2.2.1 _ (by decide +kernel))
set_option maxRecDepth 100000 in
set_option maxHeartbeats 4000000 in
/-- it is so -/
theorem c_K_demandKind {l : Launch} {z : State} {a0 : Array Value} {D : va_G} {ca : kca} (X : kcx l z a0 D ca)  : yy_M l z y_K_demandKind (.code y_K_demandKind b_K_demandKind 1 none) ({ frames := 0, cells := 0, slots := 0, locals := 0 }) [.int 1] (fun _ => True) (yy_rv) := by
  refine yy_body (plainFor_of_name (by decide)) (Nat.le_of_ble_eq_true rfl) (fun b H F hS hP hH hnm => ?_)
  refine yy_iload_n F d_K_demandKind_0 (n := 1) rfl 0 rfl ?_
  refine yy_if_ne_t (tgt := 14) F d_K_demandKind_1 (by decide) (by decide) ?_
  exact yy_vret F hS ⟨Nat.zero_le _, Nat.zero_le _⟩ rfl d_K_demandKind_14 (⟨rfl, rfl⟩)
set_option maxRecDepth 100000 in
set_option maxHeartbeats 4000000 in
/-- it is not so -/
theorem c_K_demandKind_no {l : Launch} {z : State} {a0 : Array Value} {D : va_G} {ca : kca} (X : kcx l z a0 D ca)  : yy_M l z y_K_demandKind (.code y_K_demandKind b_K_demandKind 1 none) ({ frames := 6, cells := 1, slots := 6, locals := 82 }) [.int 0] (fun _ => True) (yy_tx "java/lang/UnsupportedOperationException") := by
  refine yy_body (plainFor_of_name (by decide)) (Nat.le_of_ble_eq_true rfl) (fun b H F hS hP hH hnm => ?_)
  refine yy_iload_n F d_K_demandKind_0 (n := 1) rfl 0 rfl ?_
  refine yy_if_ne_f (tgt := 14) F d_K_demandKind_1 (n := 4) rfl (by decide) (by decide) ?_
  obtain ⟨sa, hsa⟩ := str_241 X
  exact yy_throwS F X.1 X.2.2.2 (cls := "java/lang/UnsupportedOperationException") (names := ["java/lang/RuntimeException", "java/lang/Exception"]) (by decide +kernel) (by decide +kernel) q_271 q_13 hsa (yy_hat X F.N oa_243) hH ⟨by decide, by decide⟩ ⟨by decide, by decide⟩ d_K_demandKind_4 d_K_demandKind_7 d_K_demandKind_8 d_K_demandKind_10 d_K_demandKind_13 (fun H1 hx => ⟨rfl, hx⟩)
set_option maxRecDepth 100000 in
set_option maxHeartbeats 4000000 in
/-- it is so -/
theorem c_K_demandArgument {l : Launch} {z : State} {a0 : Array Value} {D : va_G} {ca : kca} (X : kcx l z a0 D ca)  : yy_M l z y_K_demandArgument (.code y_K_demandArgument b_K_demandArgument 1 none) ({ frames := 0, cells := 0, slots := 0, locals := 0 }) [.int 1] (fun _ => True) (yy_rv) := by
  refine yy_body (plainFor_of_name (by decide)) (Nat.le_of_ble_eq_true rfl) (fun b H F hS hP hH hnm => ?_)
  refine yy_iload_n F d_K_demandArgument_0 (n := 1) rfl 0 rfl ?_
  refine yy_if_ne_t (tgt := 14) F d_K_demandArgument_1 (by decide) (by decide) ?_
  exact yy_vret F hS ⟨Nat.zero_le _, Nat.zero_le _⟩ rfl d_K_demandArgument_14 (⟨rfl, rfl⟩)
set_option maxRecDepth 100000 in
set_option maxHeartbeats 4000000 in
/-- it is not so -/
theorem c_K_demandArgument_no {l : Launch} {z : State} {a0 : Array Value} {D : va_G} {ca : kca} (X : kcx l z a0 D ca)  : yy_M l z y_K_demandArgument (.code y_K_demandArgument b_K_demandArgument 1 none) ({ frames := 6, cells := 1, slots := 6, locals := 82 }) [.int 0] (fun _ => True) (yy_tx "java/lang/IllegalArgumentException") := by
  refine yy_body (plainFor_of_name (by decide)) (Nat.le_of_ble_eq_true rfl) (fun b H F hS hP hH hnm => ?_)
  refine yy_iload_n F d_K_demandArgument_0 (n := 1) rfl 0 rfl ?_
  refine yy_if_ne_f (tgt := 14) F d_K_demandArgument_1 (n := 4) rfl (by decide) (by decide) ?_
  obtain ⟨sa, hsa⟩ := str_246 X
  exact yy_throwS F X.1 X.2.2.2 (cls := "java/lang/IllegalArgumentException") (names := ["java/lang/RuntimeException", "java/lang/Exception"]) (by decide +kernel) (by decide +kernel) q_73 q_7 hsa (yy_hat X F.N oa_248) hH ⟨by decide, by decide⟩ ⟨by decide, by decide⟩ d_K_demandArgument_4 d_K_demandArgument_7 d_K_demandArgument_8 d_K_demandArgument_10 d_K_demandArgument_13 (fun H1 hx => ⟨rfl, hx⟩)
set_option maxRecDepth 100000 in
set_option maxHeartbeats 4000000 in
/-- it is so -/
theorem c_K_demandThere {l : Launch} {z : State} {a0 : Array Value} {D : va_G} {ca : kca} (X : kcx l z a0 D ca)  : yy_M l z y_K_demandThere (.code y_K_demandThere b_K_demandThere 1 none) ({ frames := 0, cells := 0, slots := 0, locals := 0 }) [.int 1] (fun _ => True) (yy_rv) := by
  refine yy_body (plainFor_of_name (by decide)) (Nat.le_of_ble_eq_true rfl) (fun b H F hS hP hH hnm => ?_)
  refine yy_iload_n F d_K_demandThere_0 (n := 1) rfl 0 rfl ?_
  refine yy_if_ne_t (tgt := 14) F d_K_demandThere_1 (by decide) (by decide) ?_
  exact yy_vret F hS ⟨Nat.zero_le _, Nat.zero_le _⟩ rfl d_K_demandThere_14 (⟨rfl, rfl⟩)
set_option maxRecDepth 100000 in
set_option maxHeartbeats 4000000 in
/-- it is not so -/
theorem c_K_demandThere_no {l : Launch} {z : State} {a0 : Array Value} {D : va_G} {ca : kca} (X : kcx l z a0 D ca)  : yy_M l z y_K_demandThere (.code y_K_demandThere b_K_demandThere 1 none) ({ frames := 6, cells := 1, slots := 6, locals := 82 }) [.int 0] (fun _ => True) (yy_tx "java/util/NoSuchElementException") := by
  refine yy_body (plainFor_of_name (by decide)) (Nat.le_of_ble_eq_true rfl) (fun b H F hS hP hH hnm => ?_)
  refine yy_iload_n F d_K_demandThere_0 (n := 1) rfl 0 rfl ?_
  refine yy_if_ne_f (tgt := 14) F d_K_demandThere_1 (n := 4) rfl (by decide) (by decide) ?_
  obtain ⟨sa, hsa⟩ := str_251 X
  exact yy_throwX F X.1 X.2.2.2 (cls := "java/util/NoSuchElementException") (names := ["java/lang/RuntimeException", "java/lang/Exception"]) (ix := 13) (rx := prog_19_method_4_code) (by decide +kernel) (by decide +kernel) (by decide +kernel) (by decide +kernel) (by decide +kernel) (by decide +kernel) q_430 q_17 hsa (yy_hat X F.N oa_253) hH ⟨by decide, by decide⟩ ⟨by decide, by decide⟩ d_K_demandThere_4 d_K_demandThere_7 d_K_demandThere_8 d_K_demandThere_10 d_K_demandThere_13 (fun H1 hx => ⟨rfl, hx⟩)
