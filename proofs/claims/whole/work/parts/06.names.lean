def R_K : String := "ContainerKit"
def R_S : String := "ContainerKit$Store"
def R_C : String := "ContainerKit$Container"
def R_P : String := "ContainerKit$Part"
def R_R : String := "ContainerKit$Range"
def R_G : String := "ContainerKit$Whole"
def R_W : String := "ContainerKit$Walk"
def R_M : String := "ContainerKitModel"
def R_L : String := "ContainerKitLaw"
def R_X : String := "java/lang/Math"
def T_S : u_T := fun k => match k with
  | 0 => ("ContainerKit$Store", "kind", "I", true)
  | 1 => ("ContainerKit$Store", "numbers", "[I", true)
  | 2 => ("ContainerKit$Store", "values", "[I", true)
  | 3 => ("ContainerKit$Store", "count", "I", false)
  | 4 => ("ContainerKit$Store", "room", "I", false)
  | _ => ("ContainerKit$Store", "changes", "I", false)
def ty_S : Nat → FieldType := fun k => match k with
  | 0 => .int
  | 1 => .array .int
  | 2 => .array .int
  | 3 => .int
  | 4 => .int
  | _ => .int
theorem nm_S : ∀ a, a < 6 → ∀ b, b < 6 → a ≠ b → (T_S a).2.1 ≠ (T_S b).2.1 := by decide +kernel
theorem tk_S : ∀ k, k < 6 → parseFieldDescriptor (T_S k).2.2.1 = some (ty_S k) := by decide +kernel
theorem us_S : ∀ w ∈ u_ws R_S T_S 6, w ∈ lw_tbl ∧ goodWord w = true := by
  show ∀ w ∈ [u_lay R_S T_S 0, u_lay R_S T_S 1, u_lay R_S T_S 2, u_lay R_S T_S 3, u_lay R_S T_S 4, u_lay R_S T_S 5], w ∈ lw_tbl ∧ goodWord w = true
  intro w hw
  simp only [List.mem_cons, List.not_mem_nil, or_false] at hw
  rcases hw with rfl | rfl | rfl | rfl | rfl | rfl
  · exact ⟨q_185, rfl⟩
  · exact ⟨q_187, rfl⟩
  · exact ⟨q_189, rfl⟩
  · exact ⟨q_191, rfl⟩
  · exact ⟨q_193, rfl⟩
  · exact ⟨q_195, rfl⟩
def T_G : u_T := fun k => match k with
  | 0 => ("ContainerKit$Container", "kind", "I", true)
  | _ => ("ContainerKit$Container", "store", "LContainerKit$Store;", true)
def ty_G : Nat → FieldType := fun k => match k with
  | 0 => .int
  | _ => .object "ContainerKit$Store"
theorem nm_G : ∀ a, a < 2 → ∀ b, b < 2 → a ≠ b → (T_G a).2.1 ≠ (T_G b).2.1 := by decide +kernel
theorem tk_G : ∀ k, k < 2 → parseFieldDescriptor (T_G k).2.2.1 = some (ty_G k) := by decide +kernel
theorem us_G : ∀ w ∈ u_ws R_G T_G 2, w ∈ lw_tbl ∧ goodWord w = true := by
  show ∀ w ∈ [u_lay R_G T_G 0, u_lay R_G T_G 1], w ∈ lw_tbl ∧ goodWord w = true
  intro w hw
  simp only [List.mem_cons, List.not_mem_nil, or_false] at hw
  rcases hw with rfl | rfl
  · exact ⟨q_215, rfl⟩
  · exact ⟨q_217, rfl⟩
def T_P : u_T := fun k => match k with
  | 0 => ("ContainerKit$Container", "kind", "I", true)
  | 1 => ("ContainerKit$Container", "store", "LContainerKit$Store;", true)
  | 2 => ("ContainerKit$Part", "above", "LContainerKit$Part;", true)
  | 3 => ("ContainerKit$Part", "start", "I", true)
  | 4 => ("ContainerKit$Part", "count", "I", false)
  | _ => ("ContainerKit$Part", "seenChanges", "I", false)
def ty_P : Nat → FieldType := fun k => match k with
  | 0 => .int
  | 1 => .object "ContainerKit$Store"
  | 2 => .object "ContainerKit$Part"
  | 3 => .int
  | 4 => .int
  | _ => .int
theorem nm_P : ∀ a, a < 6 → ∀ b, b < 6 → a ≠ b → (T_P a).2.1 ≠ (T_P b).2.1 := by decide +kernel
theorem tk_P : ∀ k, k < 6 → parseFieldDescriptor (T_P k).2.2.1 = some (ty_P k) := by decide +kernel
theorem us_P : ∀ w ∈ u_ws R_P T_P 6, w ∈ lw_tbl ∧ goodWord w = true := by
  show ∀ w ∈ [u_lay R_P T_P 0, u_lay R_P T_P 1, u_lay R_P T_P 2, u_lay R_P T_P 3, u_lay R_P T_P 4, u_lay R_P T_P 5], w ∈ lw_tbl ∧ goodWord w = true
  intro w hw
  simp only [List.mem_cons, List.not_mem_nil, or_false] at hw
  rcases hw with rfl | rfl | rfl | rfl | rfl | rfl
  · exact ⟨q_390, rfl⟩
  · exact ⟨q_391, rfl⟩
  · exact ⟨q_382, rfl⟩
  · exact ⟨q_384, rfl⟩
  · exact ⟨q_386, rfl⟩
  · exact ⟨q_388, rfl⟩
def T_R : u_T := fun k => match k with
  | 0 => ("ContainerKit$Container", "kind", "I", true)
  | 1 => ("ContainerKit$Container", "store", "LContainerKit$Store;", true)
  | 2 => ("ContainerKit$Range", "low", "I", true)
  | _ => ("ContainerKit$Range", "high", "I", true)
def ty_R : Nat → FieldType := fun k => match k with
  | 0 => .int
  | 1 => .object "ContainerKit$Store"
  | 2 => .int
  | _ => .int
theorem nm_R : ∀ a, a < 4 → ∀ b, b < 4 → a ≠ b → (T_R a).2.1 ≠ (T_R b).2.1 := by decide +kernel
theorem tk_R : ∀ k, k < 4 → parseFieldDescriptor (T_R k).2.2.1 = some (ty_R k) := by decide +kernel
theorem us_R : ∀ w ∈ u_ws R_R T_R 4, w ∈ lw_tbl ∧ goodWord w = true := by
  show ∀ w ∈ [u_lay R_R T_R 0, u_lay R_R T_R 1, u_lay R_R T_R 2, u_lay R_R T_R 3], w ∈ lw_tbl ∧ goodWord w = true
  intro w hw
  simp only [List.mem_cons, List.not_mem_nil, or_false] at hw
  rcases hw with rfl | rfl | rfl | rfl
  · exact ⟨q_356, rfl⟩
  · exact ⟨q_357, rfl⟩
  · exact ⟨q_352, rfl⟩
  · exact ⟨q_354, rfl⟩
def T_W : u_T := fun k => match k with
  | 0 => ("ContainerKit$Walk", "over", "LContainerKit$Container;", false)
  | 1 => ("ContainerKit$Walk", "place", "I", false)
  | 2 => ("ContainerKit$Walk", "latest", "I", false)
  | _ => ("ContainerKit$Walk", "seenChanges", "I", false)
def ty_W : Nat → FieldType := fun k => match k with
  | 0 => .object "ContainerKit$Container"
  | 1 => .int
  | 2 => .int
  | _ => .int
theorem nm_W : ∀ a, a < 4 → ∀ b, b < 4 → a ≠ b → (T_W a).2.1 ≠ (T_W b).2.1 := by decide +kernel
theorem tk_W : ∀ k, k < 4 → parseFieldDescriptor (T_W k).2.2.1 = some (ty_W k) := by decide +kernel
theorem us_W : ∀ w ∈ u_ws R_W T_W 4, w ∈ lw_tbl ∧ goodWord w = true := by
  show ∀ w ∈ [u_lay R_W T_W 0, u_lay R_W T_W 1, u_lay R_W T_W 2, u_lay R_W T_W 3], w ∈ lw_tbl ∧ goodWord w = true
  intro w hw
  simp only [List.mem_cons, List.not_mem_nil, or_false] at hw
  rcases hw with rfl | rfl | rfl | rfl
  · exact ⟨q_42, rfl⟩
  · exact ⟨q_44, rfl⟩
  · exact ⟨q_46, rfl⟩
  · exact ⟨q_48, rfl⟩
def T_K : u_T := fun k => match k with
  | 0 => ("ContainerKit", "containers", "[LContainerKit$Container;", true)
  | 1 => ("ContainerKit", "walks", "[LContainerKit$Walk;", true)
  | _ => ("ContainerKit", "made", "I", false)
def ty_K : Nat → FieldType := fun k => match k with
  | 0 => .array (.object "ContainerKit$Container")
  | 1 => .array (.object "ContainerKit$Walk")
  | _ => .int
theorem nm_K : ∀ a, a < 3 → ∀ b, b < 3 → a ≠ b → (T_K a).2.1 ≠ (T_K b).2.1 := by decide +kernel
theorem tk_K : ∀ k, k < 3 → parseFieldDescriptor (T_K k).2.2.1 = some (ty_K k) := by decide +kernel
theorem us_K : ∀ w ∈ u_ws R_K T_K 3, w ∈ lw_tbl ∧ goodWord w = true := by
  show ∀ w ∈ [u_lay R_K T_K 0, u_lay R_K T_K 1, u_lay R_K T_K 2], w ∈ lw_tbl ∧ goodWord w = true
  intro w hw
  simp only [List.mem_cons, List.not_mem_nil, or_false] at hw
  rcases hw with rfl | rfl | rfl
  · exact ⟨q_54, rfl⟩
  · exact ⟨q_56, rfl⟩
  · exact ⟨q_58, rfl⟩
def T_M : u_T := fun k => match k with
  | 0 => ("ContainerKitModel", "code", "I", false)
  | 1 => ("ContainerKitModel", "many", "I", false)
  | 2 => ("ContainerKitModel", "kind", "[I", true)
  | 3 => ("ContainerKitModel", "of", "[I", true)
  | 4 => ("ContainerKitModel", "base", "[I", true)
  | 5 => ("ContainerKitModel", "number", "[I", true)
  | 6 => ("ContainerKitModel", "value", "[I", true)
  | 7 => ("ContainerKitModel", "count", "[I", true)
  | 8 => ("ContainerKitModel", "changes", "[I", true)
  | 9 => ("ContainerKitModel", "room", "[I", true)
  | 10 => ("ContainerKitModel", "first", "[I", true)
  | 11 => ("ContainerKitModel", "length", "[I", true)
  | 12 => ("ContainerKitModel", "seen", "[I", true)
  | 13 => ("ContainerKitModel", "over", "[I", true)
  | 14 => ("ContainerKitModel", "place", "[I", true)
  | 15 => ("ContainerKitModel", "latest", "[I", true)
  | _ => ("ContainerKitModel", "known", "[I", true)
def ty_M : Nat → FieldType := fun k => match k with
  | 0 => .int
  | 1 => .int
  | 2 => .array .int
  | 3 => .array .int
  | 4 => .array .int
  | 5 => .array .int
  | 6 => .array .int
  | 7 => .array .int
  | 8 => .array .int
  | 9 => .array .int
  | 10 => .array .int
  | 11 => .array .int
  | 12 => .array .int
  | 13 => .array .int
  | 14 => .array .int
  | 15 => .array .int
  | _ => .array .int
theorem nm_M : ∀ a, a < 17 → ∀ b, b < 17 → a ≠ b → (T_M a).2.1 ≠ (T_M b).2.1 := by decide +kernel
theorem tk_M : ∀ k, k < 17 → parseFieldDescriptor (T_M k).2.2.1 = some (ty_M k) := by decide +kernel
theorem us_M : ∀ w ∈ u_ws R_M T_M 17, w ∈ lw_tbl ∧ goodWord w = true := by
  show ∀ w ∈ [u_lay R_M T_M 0, u_lay R_M T_M 1, u_lay R_M T_M 2, u_lay R_M T_M 3, u_lay R_M T_M 4, u_lay R_M T_M 5, u_lay R_M T_M 6, u_lay R_M T_M 7, u_lay R_M T_M 8, u_lay R_M T_M 9, u_lay R_M T_M 10, u_lay R_M T_M 11, u_lay R_M T_M 12, u_lay R_M T_M 13, u_lay R_M T_M 14, u_lay R_M T_M 15, u_lay R_M T_M 16], w ∈ lw_tbl ∧ goodWord w = true
  intro w hw
  simp only [List.mem_cons, List.not_mem_nil, or_false] at hw
  rcases hw with rfl | rfl | rfl | rfl | rfl | rfl | rfl | rfl | rfl | rfl | rfl | rfl | rfl | rfl | rfl | rfl | rfl
  · exact ⟨q_864, rfl⟩
  · exact ⟨q_866, rfl⟩
  · exact ⟨q_868, rfl⟩
  · exact ⟨q_870, rfl⟩
  · exact ⟨q_872, rfl⟩
  · exact ⟨q_874, rfl⟩
  · exact ⟨q_876, rfl⟩
  · exact ⟨q_878, rfl⟩
  · exact ⟨q_880, rfl⟩
  · exact ⟨q_882, rfl⟩
  · exact ⟨q_884, rfl⟩
  · exact ⟨q_886, rfl⟩
  · exact ⟨q_888, rfl⟩
  · exact ⟨q_890, rfl⟩
  · exact ⟨q_892, rfl⟩
  · exact ⟨q_894, rfl⟩
  · exact ⟨q_896, rfl⟩
/-- the classes whose objects lie in the worlds: 0 ContainerKit$Store, 1 ContainerKit$Whole, 2 ContainerKit$Part, 3 ContainerKit$Range, 4 ContainerKit$Walk, 5 ContainerKit, 6 ContainerKitModel -/
abbrev kcl : List vw_C := [(R_S, T_S, 6), (R_G, T_G, 2), (R_P, T_P, 6), (R_R, T_R, 4), (R_W, T_W, 4), (R_K, T_K, 3), (R_M, T_M, 17)]
theorem gt_S : yy_Gt kcl 0 ty_S := ⟨R_S, T_S, 6, rfl, tk_S, nm_S⟩
theorem gt_G : yy_Gt kcl 1 ty_G := ⟨R_G, T_G, 2, rfl, tk_G, nm_G⟩
theorem gt_P : yy_Gt kcl 2 ty_P := ⟨R_P, T_P, 6, rfl, tk_P, nm_P⟩
theorem gt_R : yy_Gt kcl 3 ty_R := ⟨R_R, T_R, 4, rfl, tk_R, nm_R⟩
theorem gt_W : yy_Gt kcl 4 ty_W := ⟨R_W, T_W, 4, rfl, tk_W, nm_W⟩
theorem gt_K : yy_Gt kcl 5 ty_K := ⟨R_K, T_K, 3, rfl, tk_K, nm_K⟩
theorem gt_M : yy_Gt kcl 6 ty_M := ⟨R_M, T_M, 17, rfl, tk_M, nm_M⟩
abbrev b_K_init : ByteArray := prog_1_method_1_code
def y_K_init : MethodName := ⟨R_K, "<init>", "()V"⟩
abbrev b_K_create : ByteArray := prog_1_method_2_code
def y_K_create : MethodName := ⟨R_K, "create", "(I)I"⟩
abbrev b_K_view : ByteArray := prog_1_method_3_code
def y_K_view : MethodName := ⟨R_K, "view", "(III)I"⟩
abbrev b_K_kind : ByteArray := prog_1_method_4_code
def y_K_kind : MethodName := ⟨R_K, "kind", "(I)I"⟩
abbrev b_K_size : ByteArray := prog_1_method_5_code
def y_K_size : MethodName := ⟨R_K, "size", "(I)I"⟩
abbrev b_K_get : ByteArray := prog_1_method_6_code
def y_K_get : MethodName := ⟨R_K, "get", "(II)I"⟩
abbrev b_K_set : ByteArray := prog_1_method_7_code
def y_K_set : MethodName := ⟨R_K, "set", "(III)I"⟩
abbrev b_K_insert : ByteArray := prog_1_method_8_code
def y_K_insert : MethodName := ⟨R_K, "insert", "(III)V"⟩
abbrev b_K_remove : ByteArray := prog_1_method_9_code
def y_K_remove : MethodName := ⟨R_K, "remove", "(II)I"⟩
abbrev b_K_sort : ByteArray := prog_1_method_10_code
def y_K_sort : MethodName := ⟨R_K, "sort", "(II)V"⟩
abbrev b_K_put : ByteArray := prog_1_method_11_code
def y_K_put : MethodName := ⟨R_K, "put", "(III)Z"⟩
abbrev b_K_merge : ByteArray := prog_1_method_12_code
def y_K_merge : MethodName := ⟨R_K, "merge", "(III)I"⟩
abbrev b_K_has : ByteArray := prog_1_method_13_code
def y_K_has : MethodName := ⟨R_K, "has", "(II)Z"⟩
abbrev b_K_value : ByteArray := prog_1_method_14_code
def y_K_value : MethodName := ⟨R_K, "value", "(II)I"⟩
abbrev b_K_drop : ByteArray := prog_1_method_15_code
def y_K_drop : MethodName := ⟨R_K, "drop", "(II)I"⟩
abbrev b_K_near : ByteArray := prog_1_method_16_code
def y_K_near : MethodName := ⟨R_K, "near", "(III)I"⟩
abbrev b_K_room : ByteArray := prog_1_method_17_code
def y_K_room : MethodName := ⟨R_K, "room", "(I)I"⟩
abbrev b_K_bucket : ByteArray := prog_1_method_18_code
def y_K_bucket : MethodName := ⟨R_K, "bucket", "(II)I"⟩
abbrev b_K_sift : ByteArray := prog_1_method_19_code
def y_K_sift : MethodName := ⟨R_K, "sift", "(III)I"⟩
abbrev b_K_same : ByteArray := prog_1_method_20_code
def y_K_same : MethodName := ⟨R_K, "same", "(II)Z"⟩
abbrev b_K_open : ByteArray := prog_1_method_21_code
def y_K_open : MethodName := ⟨R_K, "open", "(II)V"⟩
abbrev b_K_next : ByteArray := prog_1_method_22_code
def y_K_next : MethodName := ⟨R_K, "next", "(IZ)I"⟩
abbrev b_K_left : ByteArray := prog_1_method_23_code
def y_K_left : MethodName := ⟨R_K, "left", "(I)I"⟩
abbrev b_K_erase : ByteArray := prog_1_method_24_code
def y_K_erase : MethodName := ⟨R_K, "erase", "(I)V"⟩
abbrev b_K_assign : ByteArray := prog_1_method_25_code
def y_K_assign : MethodName := ⟨R_K, "assign", "(II)I"⟩
abbrev b_K_plant : ByteArray := prog_1_method_26_code
def y_K_plant : MethodName := ⟨R_K, "plant", "(II)V"⟩
abbrev b_K_containerAt : ByteArray := prog_1_method_27_code
def y_K_containerAt : MethodName := ⟨R_K, "containerAt", "(I)LContainerKit$Container;"⟩
abbrev b_K_mapAt : ByteArray := prog_1_method_28_code
def y_K_mapAt : MethodName := ⟨R_K, "mapAt", "(I)LContainerKit$Container;"⟩
abbrev b_K_freshList : ByteArray := prog_1_method_29_code
def y_K_freshList : MethodName := ⟨R_K, "freshList", "(I)LContainerKit$Container;"⟩
abbrev b_K_freshListOrHeap : ByteArray := prog_1_method_30_code
def y_K_freshListOrHeap : MethodName := ⟨R_K, "freshListOrHeap", "(I)LContainerKit$Container;"⟩
abbrev b_K_walkAt : ByteArray := prog_1_method_31_code
def y_K_walkAt : MethodName := ⟨R_K, "walkAt", "(I)LContainerKit$Walk;"⟩
abbrev b_K_openedWalkAt : ByteArray := prog_1_method_32_code
def y_K_openedWalkAt : MethodName := ⟨R_K, "openedWalkAt", "(I)LContainerKit$Walk;"⟩
abbrev b_K_keepContainer : ByteArray := prog_1_method_33_code
def y_K_keepContainer : MethodName := ⟨R_K, "keepContainer", "(LContainerKit$Container;)I"⟩
abbrev b_K_partOf : ByteArray := prog_1_method_34_code
def y_K_partOf : MethodName := ⟨R_K, "partOf", "(LContainerKit$Container;II)LContainerKit$Container;"⟩
abbrev b_K_rangeOf : ByteArray := prog_1_method_35_code
def y_K_rangeOf : MethodName := ⟨R_K, "rangeOf", "(LContainerKit$Container;II)LContainerKit$Container;"⟩
abbrev b_K_demandOneMoreContainer : ByteArray := prog_1_method_36_code
def y_K_demandOneMoreContainer : MethodName := ⟨R_K, "demandOneMoreContainer", "()V"⟩
abbrev b_K_demandKind : ByteArray := prog_1_method_37_code
def y_K_demandKind : MethodName := ⟨R_K, "demandKind", "(Z)V"⟩
abbrev b_K_demandArgument : ByteArray := prog_1_method_38_code
def y_K_demandArgument : MethodName := ⟨R_K, "demandArgument", "(Z)V"⟩
abbrev b_K_demandThere : ByteArray := prog_1_method_39_code
def y_K_demandThere : MethodName := ⟨R_K, "demandThere", "(Z)V"⟩
abbrev b_K_demandFresh : ByteArray := prog_1_method_40_code
def y_K_demandFresh : MethodName := ⟨R_K, "demandFresh", "(LContainerKit$Container;)V"⟩
abbrev b_K_demandFreshWalk : ByteArray := prog_1_method_41_code
def y_K_demandFreshWalk : MethodName := ⟨R_K, "demandFreshWalk", "(LContainerKit$Walk;)V"⟩
abbrev b_K_demandSpace : ByteArray := prog_1_method_42_code
def y_K_demandSpace : MethodName := ⟨R_K, "demandSpace", "(LContainerKit$Store;)V"⟩
abbrev b_K_demandKeyFits : ByteArray := prog_1_method_43_code
def y_K_demandKeyFits : MethodName := ⟨R_K, "demandKeyFits", "(LContainerKit$Container;I)V"⟩
abbrev b_M_init : ByteArray := prog_9_method_1_code
def y_M_init : MethodName := ⟨R_M, "<init>", "()V"⟩
abbrev b_M_thrown : ByteArray := prog_9_method_2_code
def y_M_thrown : MethodName := ⟨R_M, "thrown", "()I"⟩
abbrev b_M_fail : ByteArray := prog_9_method_3_code
def y_M_fail : MethodName := ⟨R_M, "fail", "(I)I"⟩
abbrev b_M_isThere : ByteArray := prog_9_method_4_code
def y_M_isThere : MethodName := ⟨R_M, "isThere", "(I)Z"⟩
abbrev b_M_isList : ByteArray := prog_9_method_5_code
def y_M_isList : MethodName := ⟨R_M, "isList", "(I)Z"⟩
abbrev b_M_isMap : ByteArray := prog_9_method_6_code
def y_M_isMap : MethodName := ⟨R_M, "isMap", "(I)Z"⟩
abbrev b_M_isTree : ByteArray := prog_9_method_7_code
def y_M_isTree : MethodName := ⟨R_M, "isTree", "(I)Z"⟩
abbrev b_M_hashes : ByteArray := prog_9_method_8_code
def y_M_hashes : MethodName := ⟨R_M, "hashes", "(I)Z"⟩
abbrev b_M_isStale : ByteArray := prog_9_method_9_code
def y_M_isStale : MethodName := ⟨R_M, "isStale", "(I)Z"⟩
abbrev b_M_make : ByteArray := prog_9_method_10_code
def y_M_make : MethodName := ⟨R_M, "make", "(II)I"⟩
abbrev b_M_create : ByteArray := prog_9_method_11_code
def y_M_create : MethodName := ⟨R_M, "create", "(I)I"⟩
abbrev b_M_view : ByteArray := prog_9_method_12_code
def y_M_view : MethodName := ⟨R_M, "view", "(III)I"⟩
abbrev b_M_kind : ByteArray := prog_9_method_13_code
def y_M_kind : MethodName := ⟨R_M, "kind", "(I)I"⟩
abbrev b_M_isIn : ByteArray := prog_9_method_14_code
def y_M_isIn : MethodName := ⟨R_M, "isIn", "(II)Z"⟩
abbrev b_M_placeIn : ByteArray := prog_9_method_15_code
def y_M_placeIn : MethodName := ⟨R_M, "placeIn", "(I)I"⟩
abbrev b_M_sizeOf : ByteArray := prog_9_method_16_code
def y_M_sizeOf : MethodName := ⟨R_M, "sizeOf", "(I)I"⟩
abbrev b_M_size : ByteArray := prog_9_method_17_code
def y_M_size : MethodName := ⟨R_M, "size", "(I)I"⟩
abbrev b_M_at : ByteArray := prog_9_method_18_code
def y_M_at : MethodName := ⟨R_M, "at", "(II)I"⟩
abbrev b_M_changed : ByteArray := prog_9_method_19_code
def y_M_changed : MethodName := ⟨R_M, "changed", "(II)V"⟩
abbrev b_M_putIn : ByteArray := prog_9_method_20_code
def y_M_putIn : MethodName := ⟨R_M, "putIn", "(IIII)V"⟩
abbrev b_M_takeOut : ByteArray := prog_9_method_21_code
def y_M_takeOut : MethodName := ⟨R_M, "takeOut", "(II)V"⟩
abbrev b_M_checkList : ByteArray := prog_9_method_22_code
def y_M_checkList : MethodName := ⟨R_M, "checkList", "(II)I"⟩
abbrev b_M_get : ByteArray := prog_9_method_23_code
def y_M_get : MethodName := ⟨R_M, "get", "(II)I"⟩
abbrev b_M_set : ByteArray := prog_9_method_24_code
def y_M_set : MethodName := ⟨R_M, "set", "(III)I"⟩
abbrev b_M_insertAt : ByteArray := prog_9_method_25_code
def y_M_insertAt : MethodName := ⟨R_M, "insertAt", "(III)V"⟩
abbrev b_M_insert : ByteArray := prog_9_method_26_code
def y_M_insert : MethodName := ⟨R_M, "insert", "(III)V"⟩
abbrev b_M_remove : ByteArray := prog_9_method_27_code
def y_M_remove : MethodName := ⟨R_M, "remove", "(II)I"⟩
abbrev b_M_modulo : ByteArray := prog_9_method_28_code
def y_M_modulo : MethodName := ⟨R_M, "modulo", "(II)I"⟩
abbrev b_M_isBefore : ByteArray := prog_9_method_29_code
def y_M_isBefore : MethodName := ⟨R_M, "isBefore", "(III)Z"⟩
abbrev b_M_sort : ByteArray := prog_9_method_30_code
def y_M_sort : MethodName := ⟨R_M, "sort", "(II)V"⟩
abbrev b_M_checkMap : ByteArray := prog_9_method_31_code
def y_M_checkMap : MethodName := ⟨R_M, "checkMap", "(I)I"⟩
abbrev b_M_find : ByteArray := prog_9_method_32_code
def y_M_find : MethodName := ⟨R_M, "find", "(II)I"⟩
abbrev b_M_freshen : ByteArray := prog_9_method_33_code
def y_M_freshen : MethodName := ⟨R_M, "freshen", "(II)V"⟩
abbrev b_M_add : ByteArray := prog_9_method_34_code
def y_M_add : MethodName := ⟨R_M, "add", "(III)V"⟩
abbrev b_M_lookUp : ByteArray := prog_9_method_35_code
def y_M_lookUp : MethodName := ⟨R_M, "lookUp", "(II)I"⟩
abbrev b_M_put : ByteArray := prog_9_method_36_code
def y_M_put : MethodName := ⟨R_M, "put", "(III)Z"⟩
abbrev b_M_merge : ByteArray := prog_9_method_37_code
def y_M_merge : MethodName := ⟨R_M, "merge", "(III)I"⟩
abbrev b_M_has : ByteArray := prog_9_method_38_code
def y_M_has : MethodName := ⟨R_M, "has", "(II)Z"⟩
abbrev b_M_value : ByteArray := prog_9_method_39_code
def y_M_value : MethodName := ⟨R_M, "value", "(II)I"⟩
abbrev b_M_drop : ByteArray := prog_9_method_40_code
def y_M_drop : MethodName := ⟨R_M, "drop", "(II)I"⟩
abbrev b_M_fits : ByteArray := prog_9_method_41_code
def y_M_fits : MethodName := ⟨R_M, "fits", "(III)Z"⟩
abbrev b_M_near : ByteArray := prog_9_method_42_code
def y_M_near : MethodName := ⟨R_M, "near", "(III)I"⟩
abbrev b_M_room : ByteArray := prog_9_method_43_code
def y_M_room : MethodName := ⟨R_M, "room", "(I)I"⟩
abbrev b_M_spread : ByteArray := prog_9_method_44_code
def y_M_spread : MethodName := ⟨R_M, "spread", "(I)I"⟩
abbrev b_M_bucket : ByteArray := prog_9_method_45_code
def y_M_bucket : MethodName := ⟨R_M, "bucket", "(II)I"⟩
abbrev b_M_sift : ByteArray := prog_9_method_46_code
def y_M_sift : MethodName := ⟨R_M, "sift", "(III)I"⟩
abbrev b_M_same : ByteArray := prog_9_method_47_code
def y_M_same : MethodName := ⟨R_M, "same", "(II)Z"⟩
abbrev b_M_open : ByteArray := prog_9_method_48_code
def y_M_open : MethodName := ⟨R_M, "open", "(II)V"⟩
abbrev b_M_isOpen : ByteArray := prog_9_method_49_code
def y_M_isOpen : MethodName := ⟨R_M, "isOpen", "(I)Z"⟩
abbrev b_M_isLost : ByteArray := prog_9_method_50_code
def y_M_isLost : MethodName := ⟨R_M, "isLost", "(I)Z"⟩
abbrev b_M_next : ByteArray := prog_9_method_51_code
def y_M_next : MethodName := ⟨R_M, "next", "(IZ)I"⟩
abbrev b_M_left : ByteArray := prog_9_method_52_code
def y_M_left : MethodName := ⟨R_M, "left", "(I)I"⟩
abbrev b_M_checkLatest : ByteArray := prog_9_method_53_code
def y_M_checkLatest : MethodName := ⟨R_M, "checkLatest", "(I)I"⟩
abbrev b_M_settle : ByteArray := prog_9_method_54_code
def y_M_settle : MethodName := ⟨R_M, "settle", "(II)V"⟩
abbrev b_M_erase : ByteArray := prog_9_method_55_code
def y_M_erase : MethodName := ⟨R_M, "erase", "(I)V"⟩
abbrev b_M_assign : ByteArray := prog_9_method_56_code
def y_M_assign : MethodName := ⟨R_M, "assign", "(II)I"⟩
abbrev b_M_plant : ByteArray := prog_9_method_57_code
def y_M_plant : MethodName := ⟨R_M, "plant", "(II)V"⟩
abbrev b_C_init : ByteArray := prog_2_method_1_code
def y_C_init : MethodName := ⟨R_C, "<init>", "(ILContainerKit$Store;)V"⟩
abbrev b_C_isStale : ByteArray := prog_2_method_4_code
def y_C_isStale : MethodName := ⟨R_C, "isStale", "()Z"⟩
abbrev b_C_covers : ByteArray := prog_2_method_5_code
def y_C_covers : MethodName := ⟨R_C, "covers", "(I)Z"⟩
abbrev b_C_follow : ByteArray := prog_2_method_6_code
def y_C_follow : MethodName := ⟨R_C, "follow", "(I)V"⟩
abbrev b_C_isList : ByteArray := prog_2_method_7_code
def y_C_isList : MethodName := ⟨R_C, "isList", "()Z"⟩
abbrev b_C_isMap : ByteArray := prog_2_method_8_code
def y_C_isMap : MethodName := ⟨R_C, "isMap", "()Z"⟩
abbrev b_C_isHashed : ByteArray := prog_2_method_9_code
def y_C_isHashed : MethodName := ⟨R_C, "isHashed", "()Z"⟩
abbrev b_C_isSorted : ByteArray := prog_2_method_10_code
def y_C_isSorted : MethodName := ⟨R_C, "isSorted", "()Z"⟩
abbrev b_C_isPlace : ByteArray := prog_2_method_11_code
def y_C_isPlace : MethodName := ⟨R_C, "isPlace", "(I)Z"⟩
abbrev b_C_numberAt : ByteArray := prog_2_method_12_code
def y_C_numberAt : MethodName := ⟨R_C, "numberAt", "(I)I"⟩
abbrev b_C_valueAt : ByteArray := prog_2_method_13_code
def y_C_valueAt : MethodName := ⟨R_C, "valueAt", "(I)I"⟩
abbrev b_C_placeOf : ByteArray := prog_2_method_14_code
def y_C_placeOf : MethodName := ⟨R_C, "placeOf", "(I)I"⟩
abbrev b_C_placesBefore : ByteArray := prog_2_method_15_code
def y_C_placesBefore : MethodName := ⟨R_C, "placesBefore", "(IZ)I"⟩
abbrev b_C_changeNumber : ByteArray := prog_2_method_16_code
def y_C_changeNumber : MethodName := ⟨R_C, "changeNumber", "(II)I"⟩
abbrev b_C_changeValue : ByteArray := prog_2_method_17_code
def y_C_changeValue : MethodName := ⟨R_C, "changeValue", "(II)I"⟩
abbrev b_C_bring : ByteArray := prog_2_method_18_code
def y_C_bring : MethodName := ⟨R_C, "bring", "(II)V"⟩
abbrev b_C_take : ByteArray := prog_2_method_19_code
def y_C_take : MethodName := ⟨R_C, "take", "(I)I"⟩
abbrev b_C_arrange : ByteArray := prog_2_method_20_code
def y_C_arrange : MethodName := ⟨R_C, "arrange", "(I)V"⟩
abbrev b_C_takeAll : ByteArray := prog_2_method_21_code
def y_C_takeAll : MethodName := ⟨R_C, "takeAll", "(II)I"⟩
abbrev b_C_hasNumbersOf : ByteArray := prog_2_method_22_code
def y_C_hasNumbersOf : MethodName := ⟨R_C, "hasNumbersOf", "(LContainerKit$Container;)Z"⟩
abbrev b_C_hasPairsOf : ByteArray := prog_2_method_23_code
def y_C_hasPairsOf : MethodName := ⟨R_C, "hasPairsOf", "(LContainerKit$Container;)Z"⟩
abbrev b_P_init : ByteArray := prog_3_method_1_code
def y_P_init : MethodName := ⟨R_P, "<init>", "(LContainerKit$Store;LContainerKit$Part;II)V"⟩
abbrev b_P_start : ByteArray := prog_3_method_2_code
def y_P_start : MethodName := ⟨R_P, "start", "()I"⟩
abbrev b_P_count : ByteArray := prog_3_method_3_code
def y_P_count : MethodName := ⟨R_P, "count", "()I"⟩
abbrev b_P_isStale : ByteArray := prog_3_method_4_code
def y_P_isStale : MethodName := ⟨R_P, "isStale", "()Z"⟩
abbrev b_P_follow : ByteArray := prog_3_method_5_code
def y_P_follow : MethodName := ⟨R_P, "follow", "(I)V"⟩
abbrev b_R_init : ByteArray := prog_4_method_1_code
def y_R_init : MethodName := ⟨R_R, "<init>", "(LContainerKit$Store;II)V"⟩
abbrev b_R_start : ByteArray := prog_4_method_2_code
def y_R_start : MethodName := ⟨R_R, "start", "()I"⟩
abbrev b_R_count : ByteArray := prog_4_method_3_code
def y_R_count : MethodName := ⟨R_R, "count", "()I"⟩
abbrev b_R_covers : ByteArray := prog_4_method_4_code
def y_R_covers : MethodName := ⟨R_R, "covers", "(I)Z"⟩
abbrev b_S_init : ByteArray := prog_5_method_1_code
def y_S_init : MethodName := ⟨R_S, "<init>", "(I)V"⟩
abbrev b_S_isFull : ByteArray := prog_5_method_2_code
def y_S_isFull : MethodName := ⟨R_S, "isFull", "()Z"⟩
abbrev b_S_isHeld : ByteArray := prog_5_method_3_code
def y_S_isHeld : MethodName := ⟨R_S, "isHeld", "(I)Z"⟩
abbrev b_S_numberAt : ByteArray := prog_5_method_4_code
def y_S_numberAt : MethodName := ⟨R_S, "numberAt", "(I)I"⟩
abbrev b_S_valueAt : ByteArray := prog_5_method_5_code
def y_S_valueAt : MethodName := ⟨R_S, "valueAt", "(I)I"⟩
abbrev b_S_setNumber : ByteArray := prog_5_method_6_code
def y_S_setNumber : MethodName := ⟨R_S, "setNumber", "(II)V"⟩
abbrev b_S_setValue : ByteArray := prog_5_method_7_code
def y_S_setValue : MethodName := ⟨R_S, "setValue", "(II)V"⟩
abbrev b_S_placeOf : ByteArray := prog_5_method_8_code
def y_S_placeOf : MethodName := ⟨R_S, "placeOf", "(I)I"⟩
abbrev b_S_placesBefore : ByteArray := prog_5_method_9_code
def y_S_placesBefore : MethodName := ⟨R_S, "placesBefore", "(IZ)I"⟩
abbrev b_S_bringIn : ByteArray := prog_5_method_10_code
def y_S_bringIn : MethodName := ⟨R_S, "bringIn", "(III)V"⟩
abbrev b_S_takeOut : ByteArray := prog_5_method_11_code
def y_S_takeOut : MethodName := ⟨R_S, "takeOut", "(I)V"⟩
abbrev b_S_closeGap : ByteArray := prog_5_method_12_code
def y_S_closeGap : MethodName := ⟨R_S, "closeGap", "(I)V"⟩
abbrev b_S_putKey : ByteArray := prog_5_method_13_code
def y_S_putKey : MethodName := ⟨R_S, "putKey", "(II)V"⟩
abbrev b_S_bringKeyIn : ByteArray := prog_5_method_14_code
def y_S_bringKeyIn : MethodName := ⟨R_S, "bringKeyIn", "(II)V"⟩
abbrev b_S_noteUse : ByteArray := prog_5_method_15_code
def y_S_noteUse : MethodName := ⟨R_S, "noteUse", "(I)V"⟩
abbrev b_S_countInBucketOf : ByteArray := prog_5_method_16_code
def y_S_countInBucketOf : MethodName := ⟨R_S, "countInBucketOf", "(I)I"⟩
abbrev b_S_bucketOf : ByteArray := prog_5_method_17_code
def y_S_bucketOf : MethodName := ⟨R_S, "bucketOf", "(I)I"⟩
abbrev b_S_arrange : ByteArray := prog_5_method_18_code
def y_S_arrange : MethodName := ⟨R_S, "arrange", "(III)V"⟩
abbrev b_S_comesBefore : ByteArray := prog_5_method_19_code
def y_S_comesBefore : MethodName := ⟨R_S, "comesBefore", "(III)Z"⟩
abbrev b_W_init : ByteArray := prog_6_method_1_code
def y_W_init : MethodName := ⟨R_W, "<init>", "()V"⟩
abbrev b_W_begin : ByteArray := prog_6_method_2_code
def y_W_begin : MethodName := ⟨R_W, "begin", "(LContainerKit$Container;)V"⟩
abbrev b_W_standAt : ByteArray := prog_6_method_3_code
def y_W_standAt : MethodName := ⟨R_W, "standAt", "(I)V"⟩
abbrev b_W_goOver : ByteArray := prog_6_method_4_code
def y_W_goOver : MethodName := ⟨R_W, "goOver", "(IZ)V"⟩
abbrev b_W_isStale : ByteArray := prog_6_method_5_code
def y_W_isStale : MethodName := ⟨R_W, "isStale", "()Z"⟩
abbrev b_G_init : ByteArray := prog_7_method_1_code
def y_G_init : MethodName := ⟨R_G, "<init>", "(I)V"⟩
abbrev b_G_start : ByteArray := prog_7_method_2_code
def y_G_start : MethodName := ⟨R_G, "start", "()I"⟩
abbrev b_G_count : ByteArray := prog_7_method_3_code
def y_G_count : MethodName := ⟨R_G, "count", "()I"⟩
abbrev b_L_create : ByteArray := method_3_code
def y_L_create : MethodName := ⟨R_L, "create", "(LContainerKit;I[J)I"⟩
abbrev b_L_view : ByteArray := method_4_code
def y_L_view : MethodName := ⟨R_L, "view", "(LContainerKit;III[J)I"⟩
abbrev b_L_kind : ByteArray := method_5_code
def y_L_kind : MethodName := ⟨R_L, "kind", "(LContainerKit;I[J)I"⟩
abbrev b_L_size : ByteArray := method_6_code
def y_L_size : MethodName := ⟨R_L, "size", "(LContainerKit;I[J)I"⟩
abbrev b_L_get : ByteArray := method_7_code
def y_L_get : MethodName := ⟨R_L, "get", "(LContainerKit;II[J)I"⟩
abbrev b_L_set : ByteArray := method_8_code
def y_L_set : MethodName := ⟨R_L, "set", "(LContainerKit;III[J)I"⟩
abbrev b_L_insert : ByteArray := method_9_code
def y_L_insert : MethodName := ⟨R_L, "insert", "(LContainerKit;III)I"⟩
abbrev b_L_remove : ByteArray := method_10_code
def y_L_remove : MethodName := ⟨R_L, "remove", "(LContainerKit;II[J)I"⟩
abbrev b_L_sort : ByteArray := method_11_code
def y_L_sort : MethodName := ⟨R_L, "sort", "(LContainerKit;II)I"⟩
abbrev b_L_put : ByteArray := method_12_code
def y_L_put : MethodName := ⟨R_L, "put", "(LContainerKit;III[J)I"⟩
abbrev b_L_merge : ByteArray := method_13_code
def y_L_merge : MethodName := ⟨R_L, "merge", "(LContainerKit;III[J)I"⟩
abbrev b_L_has : ByteArray := method_14_code
def y_L_has : MethodName := ⟨R_L, "has", "(LContainerKit;II[J)I"⟩
abbrev b_L_value : ByteArray := method_15_code
def y_L_value : MethodName := ⟨R_L, "value", "(LContainerKit;II[J)I"⟩
abbrev b_L_drop : ByteArray := method_16_code
def y_L_drop : MethodName := ⟨R_L, "drop", "(LContainerKit;II[J)I"⟩
abbrev b_L_near : ByteArray := method_17_code
def y_L_near : MethodName := ⟨R_L, "near", "(LContainerKit;III[J)I"⟩
abbrev b_L_room : ByteArray := method_18_code
def y_L_room : MethodName := ⟨R_L, "room", "(LContainerKit;I[J)I"⟩
abbrev b_L_bucket : ByteArray := method_19_code
def y_L_bucket : MethodName := ⟨R_L, "bucket", "(LContainerKit;II[J)I"⟩
abbrev b_L_sift : ByteArray := method_20_code
def y_L_sift : MethodName := ⟨R_L, "sift", "(LContainerKit;III[J)I"⟩
abbrev b_L_same : ByteArray := method_21_code
def y_L_same : MethodName := ⟨R_L, "same", "(LContainerKit;II[J)I"⟩
abbrev b_L_open : ByteArray := method_22_code
def y_L_open : MethodName := ⟨R_L, "open", "(LContainerKit;II)I"⟩
abbrev b_L_next : ByteArray := method_23_code
def y_L_next : MethodName := ⟨R_L, "next", "(LContainerKit;IZ[J)I"⟩
abbrev b_L_left : ByteArray := method_24_code
def y_L_left : MethodName := ⟨R_L, "left", "(LContainerKit;I[J)I"⟩
abbrev b_L_erase : ByteArray := method_25_code
def y_L_erase : MethodName := ⟨R_L, "erase", "(LContainerKit;I)I"⟩
abbrev b_L_assign : ByteArray := method_26_code
def y_L_assign : MethodName := ⟨R_L, "assign", "(LContainerKit;II[J)I"⟩
abbrev b_L_plant : ByteArray := method_27_code
def y_L_plant : MethodName := ⟨R_L, "plant", "(LContainerKit;II)I"⟩
abbrev b_L_law : ByteArray := code
def y_L_law : MethodName := ⟨R_L, "law", "([I)Z"⟩
abbrev b_X_max : ByteArray := prog_14_method_65_code
def y_X_max : MethodName := ⟨R_X, "max", "(II)I"⟩
abbrev b_X_min : ByteArray := prog_14_method_69_code
def y_X_min : MethodName := ⟨R_X, "min", "(II)I"⟩
abbrev b_X_floorMod : ByteArray := prog_14_method_50_code
def y_X_floorMod : MethodName := ⟨R_X, "floorMod", "(II)I"⟩
theorem g_K_11_K : yy_G lw_tbl kcl R_K 11 5 0 := ⟨R_K, T_K, 3, "ContainerKit", rfl, by decide, us_K, Or.inl q_51, Or.inl rfl⟩
theorem g_K_17_K : yy_G lw_tbl kcl R_K 17 5 1 := ⟨R_K, T_K, 3, "ContainerKit", rfl, by decide, us_K, Or.inl q_52, Or.inl rfl⟩
theorem g_K_21_K : yy_G lw_tbl kcl R_K 21 5 2 := ⟨R_K, T_K, 3, "ContainerKit", rfl, by decide, us_K, Or.inl q_53, Or.inl rfl⟩
theorem g_K_71_G : yy_G lw_tbl kcl R_K 71 1 0 := ⟨R_G, T_G, 2, "ContainerKit$Container", rfl, by decide, us_G, Or.inl q_204, Or.inl rfl⟩
theorem g_K_71_P : yy_G lw_tbl kcl R_K 71 2 0 := ⟨R_P, T_P, 6, "ContainerKit$Container", rfl, by decide, us_P, Or.inl q_204, Or.inl rfl⟩
theorem g_K_71_R : yy_G lw_tbl kcl R_K 71 3 0 := ⟨R_R, T_R, 4, "ContainerKit$Container", rfl, by decide, us_R, Or.inl q_204, Or.inl rfl⟩
theorem g_K_95_G : yy_G lw_tbl kcl R_K 95 1 1 := ⟨R_G, T_G, 2, "ContainerKit$Container", rfl, by decide, us_G, Or.inl q_213, Or.inl rfl⟩
theorem g_K_95_P : yy_G lw_tbl kcl R_K 95 2 1 := ⟨R_P, T_P, 6, "ContainerKit$Container", rfl, by decide, us_P, Or.inl q_213, Or.inl rfl⟩
theorem g_K_95_R : yy_G lw_tbl kcl R_K 95 3 1 := ⟨R_R, T_R, 4, "ContainerKit$Container", rfl, by decide, us_R, Or.inl q_213, Or.inl rfl⟩
theorem g_K_142_S : yy_G lw_tbl kcl R_K 142 0 4 := ⟨R_S, T_S, 6, "ContainerKit$Store", rfl, by decide, us_S, Or.inr ⟨_, q_181⟩, Or.inl rfl⟩
theorem g_K_171_W : yy_G lw_tbl kcl R_K 171 4 0 := ⟨R_W, T_W, 4, "ContainerKit$Walk", rfl, by decide, us_W, Or.inr ⟨_, q_36⟩, Or.inl rfl⟩
theorem g_K_179_W : yy_G lw_tbl kcl R_K 179 4 1 := ⟨R_W, T_W, 4, "ContainerKit$Walk", rfl, by decide, us_W, Or.inr ⟨_, q_38⟩, Or.inl rfl⟩
theorem g_K_186_W : yy_G lw_tbl kcl R_K 186 4 2 := ⟨R_W, T_W, 4, "ContainerKit$Walk", rfl, by decide, us_W, Or.inr ⟨_, q_40⟩, Or.inl rfl⟩
theorem g_K_216_R : yy_G lw_tbl kcl R_K 216 3 1 := ⟨R_R, T_R, 4, "ContainerKit$Range", rfl, by decide, us_R, Or.inl q_214, Or.inr q_207⟩
theorem g_K_217_R : yy_G lw_tbl kcl R_K 217 3 2 := ⟨R_R, T_R, 4, "ContainerKit$Range", rfl, by decide, us_R, Or.inr ⟨_, q_349⟩, Or.inl rfl⟩
theorem g_K_225_R : yy_G lw_tbl kcl R_K 225 3 3 := ⟨R_R, T_R, 4, "ContainerKit$Range", rfl, by decide, us_R, Or.inr ⟨_, q_351⟩, Or.inl rfl⟩
theorem g_M_7_M : yy_G lw_tbl kcl R_M 7 6 2 := ⟨R_M, T_M, 17, "ContainerKitModel", rfl, by decide, us_M, Or.inl q_849, Or.inl rfl⟩
theorem g_M_13_M : yy_G lw_tbl kcl R_M 13 6 3 := ⟨R_M, T_M, 17, "ContainerKitModel", rfl, by decide, us_M, Or.inl q_850, Or.inl rfl⟩
theorem g_M_16_M : yy_G lw_tbl kcl R_M 16 6 4 := ⟨R_M, T_M, 17, "ContainerKitModel", rfl, by decide, us_M, Or.inl q_851, Or.inl rfl⟩
theorem g_M_19_M : yy_G lw_tbl kcl R_M 19 6 5 := ⟨R_M, T_M, 17, "ContainerKitModel", rfl, by decide, us_M, Or.inl q_852, Or.inl rfl⟩
theorem g_M_22_M : yy_G lw_tbl kcl R_M 22 6 6 := ⟨R_M, T_M, 17, "ContainerKitModel", rfl, by decide, us_M, Or.inl q_853, Or.inl rfl⟩
theorem g_M_25_M : yy_G lw_tbl kcl R_M 25 6 7 := ⟨R_M, T_M, 17, "ContainerKitModel", rfl, by decide, us_M, Or.inl q_854, Or.inl rfl⟩
theorem g_M_28_M : yy_G lw_tbl kcl R_M 28 6 8 := ⟨R_M, T_M, 17, "ContainerKitModel", rfl, by decide, us_M, Or.inl q_855, Or.inl rfl⟩
theorem g_M_31_M : yy_G lw_tbl kcl R_M 31 6 9 := ⟨R_M, T_M, 17, "ContainerKitModel", rfl, by decide, us_M, Or.inl q_856, Or.inl rfl⟩
theorem g_M_34_M : yy_G lw_tbl kcl R_M 34 6 10 := ⟨R_M, T_M, 17, "ContainerKitModel", rfl, by decide, us_M, Or.inl q_857, Or.inl rfl⟩
theorem g_M_37_M : yy_G lw_tbl kcl R_M 37 6 11 := ⟨R_M, T_M, 17, "ContainerKitModel", rfl, by decide, us_M, Or.inl q_858, Or.inl rfl⟩
theorem g_M_40_M : yy_G lw_tbl kcl R_M 40 6 12 := ⟨R_M, T_M, 17, "ContainerKitModel", rfl, by decide, us_M, Or.inl q_859, Or.inl rfl⟩
theorem g_M_43_M : yy_G lw_tbl kcl R_M 43 6 13 := ⟨R_M, T_M, 17, "ContainerKitModel", rfl, by decide, us_M, Or.inl q_860, Or.inl rfl⟩
theorem g_M_46_M : yy_G lw_tbl kcl R_M 46 6 14 := ⟨R_M, T_M, 17, "ContainerKitModel", rfl, by decide, us_M, Or.inl q_861, Or.inl rfl⟩
theorem g_M_49_M : yy_G lw_tbl kcl R_M 49 6 15 := ⟨R_M, T_M, 17, "ContainerKitModel", rfl, by decide, us_M, Or.inl q_862, Or.inl rfl⟩
theorem g_M_52_M : yy_G lw_tbl kcl R_M 52 6 16 := ⟨R_M, T_M, 17, "ContainerKitModel", rfl, by decide, us_M, Or.inl q_863, Or.inl rfl⟩
theorem g_M_55_M : yy_G lw_tbl kcl R_M 55 6 0 := ⟨R_M, T_M, 17, "ContainerKitModel", rfl, by decide, us_M, Or.inl q_847, Or.inl rfl⟩
theorem g_M_59_M : yy_G lw_tbl kcl R_M 59 6 1 := ⟨R_M, T_M, 17, "ContainerKitModel", rfl, by decide, us_M, Or.inl q_848, Or.inl rfl⟩
theorem g_C_9_G : yy_G lw_tbl kcl R_C 9 1 0 := ⟨R_G, T_G, 2, "ContainerKit$Container", rfl, by decide, us_G, Or.inl q_203, Or.inl rfl⟩
theorem g_C_9_P : yy_G lw_tbl kcl R_C 9 2 0 := ⟨R_P, T_P, 6, "ContainerKit$Container", rfl, by decide, us_P, Or.inl q_203, Or.inl rfl⟩
theorem g_C_9_R : yy_G lw_tbl kcl R_C 9 3 0 := ⟨R_R, T_R, 4, "ContainerKit$Container", rfl, by decide, us_R, Or.inl q_203, Or.inl rfl⟩
theorem g_C_15_G : yy_G lw_tbl kcl R_C 15 1 1 := ⟨R_G, T_G, 2, "ContainerKit$Container", rfl, by decide, us_G, Or.inl q_205, Or.inl rfl⟩
theorem g_C_15_P : yy_G lw_tbl kcl R_C 15 2 1 := ⟨R_P, T_P, 6, "ContainerKit$Container", rfl, by decide, us_P, Or.inl q_205, Or.inl rfl⟩
theorem g_C_15_R : yy_G lw_tbl kcl R_C 15 3 1 := ⟨R_R, T_R, 4, "ContainerKit$Container", rfl, by decide, us_R, Or.inl q_205, Or.inl rfl⟩
theorem g_P_9_P : yy_G lw_tbl kcl R_P 9 2 2 := ⟨R_P, T_P, 6, "ContainerKit$Part", rfl, by decide, us_P, Or.inl q_378, Or.inl rfl⟩
theorem g_P_15_P : yy_G lw_tbl kcl R_P 15 2 3 := ⟨R_P, T_P, 6, "ContainerKit$Part", rfl, by decide, us_P, Or.inl q_379, Or.inl rfl⟩
theorem g_P_19_P : yy_G lw_tbl kcl R_P 19 2 4 := ⟨R_P, T_P, 6, "ContainerKit$Part", rfl, by decide, us_P, Or.inl q_380, Or.inl rfl⟩
theorem g_P_22_S : yy_G lw_tbl kcl R_P 22 0 5 := ⟨R_S, T_S, 6, "ContainerKit$Store", rfl, by decide, us_S, Or.inr ⟨_, q_182⟩, Or.inl rfl⟩
theorem g_P_27_P : yy_G lw_tbl kcl R_P 27 2 5 := ⟨R_P, T_P, 6, "ContainerKit$Part", rfl, by decide, us_P, Or.inl q_381, Or.inl rfl⟩
theorem g_P_30_P : yy_G lw_tbl kcl R_P 30 2 1 := ⟨R_P, T_P, 6, "ContainerKit$Part", rfl, by decide, us_P, Or.inl q_211, Or.inr q_212⟩
theorem g_R_9_R : yy_G lw_tbl kcl R_R 9 3 2 := ⟨R_R, T_R, 4, "ContainerKit$Range", rfl, by decide, us_R, Or.inl q_348, Or.inl rfl⟩
theorem g_R_15_R : yy_G lw_tbl kcl R_R 15 3 3 := ⟨R_R, T_R, 4, "ContainerKit$Range", rfl, by decide, us_R, Or.inl q_350, Or.inl rfl⟩
theorem g_R_18_R : yy_G lw_tbl kcl R_R 18 3 1 := ⟨R_R, T_R, 4, "ContainerKit$Range", rfl, by decide, us_R, Or.inl q_206, Or.inr q_207⟩
theorem g_S_9_S : yy_G lw_tbl kcl R_S 9 0 1 := ⟨R_S, T_S, 6, "ContainerKit$Store", rfl, by decide, us_S, Or.inl q_176, Or.inl rfl⟩
theorem g_S_15_S : yy_G lw_tbl kcl R_S 15 0 2 := ⟨R_S, T_S, 6, "ContainerKit$Store", rfl, by decide, us_S, Or.inl q_177, Or.inl rfl⟩
theorem g_S_18_S : yy_G lw_tbl kcl R_S 18 0 3 := ⟨R_S, T_S, 6, "ContainerKit$Store", rfl, by decide, us_S, Or.inl q_178, Or.inl rfl⟩
theorem g_S_22_S : yy_G lw_tbl kcl R_S 22 0 4 := ⟨R_S, T_S, 6, "ContainerKit$Store", rfl, by decide, us_S, Or.inl q_180, Or.inl rfl⟩
theorem g_S_25_S : yy_G lw_tbl kcl R_S 25 0 5 := ⟨R_S, T_S, 6, "ContainerKit$Store", rfl, by decide, us_S, Or.inl q_183, Or.inl rfl⟩
theorem g_S_28_S : yy_G lw_tbl kcl R_S 28 0 0 := ⟨R_S, T_S, 6, "ContainerKit$Store", rfl, by decide, us_S, Or.inl q_175, Or.inl rfl⟩
theorem g_W_9_W : yy_G lw_tbl kcl R_W 9 4 0 := ⟨R_W, T_W, 4, "ContainerKit$Walk", rfl, by decide, us_W, Or.inl q_35, Or.inl rfl⟩
theorem g_W_15_W : yy_G lw_tbl kcl R_W 15 4 1 := ⟨R_W, T_W, 4, "ContainerKit$Walk", rfl, by decide, us_W, Or.inl q_37, Or.inl rfl⟩
theorem g_W_19_W : yy_G lw_tbl kcl R_W 19 4 2 := ⟨R_W, T_W, 4, "ContainerKit$Walk", rfl, by decide, us_W, Or.inl q_39, Or.inl rfl⟩
theorem g_W_22_W : yy_G lw_tbl kcl R_W 22 4 3 := ⟨R_W, T_W, 4, "ContainerKit$Walk", rfl, by decide, us_W, Or.inl q_41, Or.inl rfl⟩
theorem g_W_29_G : yy_G lw_tbl kcl R_W 29 1 1 := ⟨R_G, T_G, 2, "ContainerKit$Container", rfl, by decide, us_G, Or.inl q_210, Or.inl rfl⟩
theorem g_W_29_P : yy_G lw_tbl kcl R_W 29 2 1 := ⟨R_P, T_P, 6, "ContainerKit$Container", rfl, by decide, us_P, Or.inl q_210, Or.inl rfl⟩
theorem g_W_29_R : yy_G lw_tbl kcl R_W 29 3 1 := ⟨R_R, T_R, 4, "ContainerKit$Container", rfl, by decide, us_R, Or.inl q_210, Or.inl rfl⟩
theorem g_W_35_S : yy_G lw_tbl kcl R_W 35 0 5 := ⟨R_S, T_S, 6, "ContainerKit$Store", rfl, by decide, us_S, Or.inr ⟨_, q_184⟩, Or.inl rfl⟩
theorem g_G_12_G : yy_G lw_tbl kcl R_G 12 1 1 := ⟨R_G, T_G, 2, "ContainerKit$Whole", rfl, by decide, us_G, Or.inl q_208, Or.inr q_209⟩
theorem g_G_18_S : yy_G lw_tbl kcl R_G 18 0 3 := ⟨R_S, T_S, 6, "ContainerKit$Store", rfl, by decide, us_S, Or.inr ⟨_, q_179⟩, Or.inl rfl⟩
